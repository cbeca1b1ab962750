def TV (a s v R C : Int) : Prop := 0 ≤ a ∧ a / 10 < R ∧ a % 10 < C ∧ 0 ≤ s ∧ s ≤ 1 ∧ -99 ≤ v ∧ v ≤ 99
def TB (r c : Int) : Prop := 1 ≤ r ∧ r ≤ 4 ∧ 1 ≤ c ∧ c ≤ 4
def Up (h h' : JH) (a : Nat) (i v : Int) : Prop := h'.2.2 a i.toNat = v ∧ ∀ j : Nat, j ≠ i.toNat → h'.2.2 a j = h.2.2 a j
theorem Up.mk {h h' : JH} {a : Nat} {i i' v : Int} (e : h' = jwr h a i.toNat v) (hi : i' = i) : Up h h' a i' v := by
  subst hi
  exact ⟨jw_eq e, fun j hj => jw_ne e (Or.inr hj)⟩
def Sm (h h' : JH) (a : Nat) : Prop := ∀ j : Nat, h'.2.2 a j = h.2.2 a j
def Z0 (h : JH) (a : Nat) (x : Int) : Prop := ∀ j : Nat, (j : Int) < x → h.2.2 a j = 0
theorem Z0.start (h : JH) (a : Nat) : Z0 h a 0 := fun j hj => by omega
theorem Z0.step {h h' : JH} {a : Nat} {x : Int} (z : Z0 h a x) (x0 : 0 ≤ x) (e : h' = jwr h a x.toNat 0) : Z0 h' a (x + 1) := fun j hj => by
  rcases Decidable.em (j = x.toNat) with r | r
  · rw [r]; exact jw_eq e
  · rw [jw_ne e (Or.inr r)]; exact z j (by omega)
theorem Z0.le {h : JH} {a : Nat} {x y : Int} (z : Z0 h a x) (hy : y ≤ x) : Z0 h a y := fun j hj => z j (by omega)
theorem at_e {h : JH} {a : Nat} {i i' v : Int} (e : h.2.2 a i.toNat = v) (hi : i' = i) : v = h.2.2 a i'.toNat := by rw [hi]; exact e.symm
def Cc : List (Nat × Nat) := [(26, 1), (26, 2), (27, 0), (42, 45), (42, 46), (67, 0)]
def Rl (h : JH) : Prop := h.2.2 26 0 = h.2.2 42 44 ∧ h.2.2 26 1 = h.2.2 42 45 ∧ ∀ r c s : Nat, r < 4 → c < 4 → s < 2 → h.2.2 27 (8 * r + 2 * c + s) = h.2.2 67 (16 * s + 4 * r + c)
theorem Rl.fr {h h' : JH} (x : Rl h) (e : ∀ a i, inW Cc a i = true → h'.2.2 a i = h.2.2 a i) : Rl h' := by
  refine ⟨by rw [e 26 0 rfl, e 42 44 rfl]; exact x.1, by rw [e 26 1 rfl, e 42 45 rfl]; exact x.2.1, fun r c s hr hc hs => ?_⟩
  rw [e 27 _ rfl, e 67 _ rfl]
  exact x.2.2 r c s hr hc hs
def dsj (C W : List (Nat × Nat)) : Bool := C.all (fun c => decide (c.1 < 83) && W.all (fun w => w.1 != c.1 || (w.2 != 0 && c.2 != 0 && w.2 != c.2)))
theorem dsj_at {C W : List (Nat × Nat)} (h : dsj C W = true) {a i : Nat} (hc : inW C a i = true) : a < 83 ∧ inW W a i = false := by
  unfold inW at hc
  obtain ⟨c, hm, hq⟩ := List.any_eq_true.mp hc
  have h1 := List.all_eq_true.mp h c hm
  rw [Bool.and_eq_true, decide_eq_true_eq] at h1
  simp only [Bool.or_eq_true, Bool.and_eq_true, beq_iff_eq, decide_eq_true_eq] at hq
  have ha : a < 83 := by omega
  refine ⟨ha, ?_⟩
  unfold inW
  rw [List.any_eq_false]
  intro w hw hx
  have h2 := List.all_eq_true.mp h1.2 w hw
  simp only [Bool.or_eq_true, Bool.and_eq_true, bne_iff_ne] at h2
  simp only [Bool.or_eq_true, Bool.and_eq_true, beq_iff_eq, decide_eq_true_eq] at hx
  omega
theorem Rl.kp {W : List (Nat × Nat)} {h h' : JH} (x : Rl h) (k : Kp W h h') (hd : dsj Cc W = true) : Rl h' := x.fr (fun a i hc => k.v (dsj_at hd hc).2)
theorem Rl.kx {W : List (Nat × Nat)} {h h' : JH} (x : Rl h) (k : Kx W h h') (hd : dsj Cc W = true) (h83 : 83 ≤ h.1) : Rl h' := x.fr (fun a i hc => k.2.2 a i (Nat.lt_of_lt_of_le (dsj_at hd hc).1 h83) (dsj_at hd hc).2)
def CeC (h h' : JH) (a s v R C r : Int) : Prop := (¬ TV a s v R C ∧ r = -2000000000 ∧ Sm h h' 27) ∨ (TV a s v R C ∧ r = h.2.2 27 (8 * (a / 10) + 2 * (a % 10) + s).toNat ∧ Up h h' 27 (8 * (a / 10) + 2 * (a % 10) + s) v)
def CeR (h h' : JH) (a s v R C r : Int) : Prop := (¬ TV a s v R C ∧ r = -2000000000 ∧ Sm h h' 67) ∨ (TV a s v R C ∧ r = h.2.2 67 (16 * s + 4 * (a / 10) + a % 10).toNat ∧ Up h h' 67 (16 * s + 4 * (a / 10) + a % 10) v)
def TaC (h h' : JH) (a b r : Int) : Prop := (¬ TB a b ∧ r = -1 ∧ h'.2.2 26 0 = h.2.2 26 0 ∧ h'.2.2 26 1 = h.2.2 26 1 ∧ Sm h h' 27) ∨ (TB a b ∧ r = a * b ∧ h'.2.2 26 0 = a ∧ h'.2.2 26 1 = b ∧ Z0 h' 27 32)
def TaR (h h' : JH) (a b r : Int) : Prop := (¬ TB a b ∧ r = -1 ∧ h'.2.2 42 44 = h.2.2 42 44 ∧ h'.2.2 42 45 = h.2.2 42 45 ∧ Sm h h' 67) ∨ (TB a b ∧ r = a * b ∧ h'.2.2 42 44 = a ∧ h'.2.2 42 45 = b ∧ Z0 h' 67 32)
theorem Rl.cell {h h1 h2 : JH} {a s v R C r1 r2 : Int} (x : Rl h) (k1 : Kp [(27, 0)] h h1) (k2 : Kp [(67, 0)] h1 h2) (hR : R ≤ 4) (hC : C ≤ 4) (f1 : CeC h h1 a s v R C r1) (f2 : CeR h1 h2 a s v R C r2) : r1 = r2 ∧ Rl h2 := by
  obtain ⟨x1, x2, x3⟩ := x
  have y1 : h2.2.2 26 0 = h2.2.2 42 44 := by rw [k2.v rfl, k1.v rfl, k2.v (a := 42) rfl, k1.v (a := 42) rfl]; exact x1
  have y2 : h2.2.2 26 1 = h2.2.2 42 45 := by rw [k2.v rfl, k1.v rfl, k2.v (a := 42) rfl, k1.v (a := 42) rfl]; exact x2
  have e67 : ∀ j, h1.2.2 67 j = h.2.2 67 j := fun j => k1.v rfl
  have e27 : ∀ j, h2.2.2 27 j = h1.2.2 27 j := fun j => k2.v rfl
  rcases f1 with ⟨n1, q1, m1⟩ | ⟨t1, q1, m1⟩
  · rcases f2 with ⟨n2, q2, m2⟩ | ⟨t2, _⟩
    · exact ⟨q1.trans q2.symm, y1, y2, fun r c s hr hc hs => by rw [e27, m1, m2, e67]; exact x3 r c s hr hc hs⟩
    · exact absurd t2 n1
  · rcases f2 with ⟨n2, _⟩ | ⟨t2, q2, m2⟩
    · exact absurd t1 n2
    · unfold TV at t1
      have e0 := x3 (a / 10).toNat (a % 10).toNat s.toNat (by omega) (by omega) (by omega)
      have i1 : (8 * (a / 10) + 2 * (a % 10) + s).toNat = 8 * (a / 10).toNat + 2 * (a % 10).toNat + s.toNat := by omega
      have i2 : (16 * s + 4 * (a / 10) + a % 10).toNat = 16 * s.toNat + 4 * (a / 10).toNat + (a % 10).toNat := by omega
      refine ⟨by rw [q1, q2, e67, i1, i2]; exact e0, y1, y2, fun r c u hr hc hu => ?_⟩
      rw [e27]
      rcases Decidable.em (r = (a / 10).toNat ∧ c = (a % 10).toNat ∧ u = s.toNat) with ⟨z1, z2, z3⟩ | z
      · rw [z1, z2, z3, ← i1, ← i2, m1.1, m2.1]
      · rw [m1.2 _ (by omega), m2.2 _ (by omega), e67]
        exact x3 r c u hr hc hu
theorem Rl.table {h h1 h2 : JH} {a b r1 r2 : Int} (x : Rl h) (k1 : Kp [(26, 1), (26, 2), (27, 0)] h h1) (k2 : Kp [(42, 45), (42, 46), (67, 0)] h1 h2) (f1 : TaC h h1 a b r1) (f2 : TaR h1 h2 a b r2) : r1 = r2 ∧ Rl h2 := by
  obtain ⟨x1, x2, x3⟩ := x
  have e67 : ∀ j, h1.2.2 67 j = h.2.2 67 j := fun j => k1.v rfl
  have e27 : ∀ j, h2.2.2 27 j = h1.2.2 27 j := fun j => k2.v rfl
  have a0 : h2.2.2 26 0 = h1.2.2 26 0 := k2.v rfl
  have a1 : h2.2.2 26 1 = h1.2.2 26 1 := k2.v rfl
  have b0 : h1.2.2 42 44 = h.2.2 42 44 := k1.v rfl
  have b1 : h1.2.2 42 45 = h.2.2 42 45 := k1.v rfl
  rcases f1 with ⟨n1, q1, u1, u2, m1⟩ | ⟨t1, q1, u1, u2, m1⟩
  · rcases f2 with ⟨n2, q2, w1, w2, m2⟩ | ⟨t2, _⟩
    · exact ⟨q1.trans q2.symm, by rw [a0, u1, w1, b0]; exact x1, by rw [a1, u2, w2, b1]; exact x2, fun r c s hr hc hs => by rw [e27, m1, m2, e67]; exact x3 r c s hr hc hs⟩
    · exact absurd t2 n1
  · rcases f2 with ⟨n2, _⟩ | ⟨t2, q2, w1, w2, m2⟩
    · exact absurd t1 n2
    · exact ⟨q1.trans q2.symm, by rw [a0, u1, w1], by rw [a1, u2, w2], fun r c s hr hc hs => by rw [e27, m1 _ (by omega), m2 _ (by omega)]⟩
set_option maxHeartbeats 4000000 in
theorem t196 {G : GH} {h : JH} (g : Gd G h) {a1 : Int} (la1 : (-2147483648) ≤ a1) (ua1 : a1 ≤ 2147483647) {a2 : Int} (la2 : (-2147483648) ≤ a2) (ua2 : a2 ≤ 2147483647) {a3 : Int} (la3 : (-2147483648) ≤ a3) (ua3 : a3 ≤ 2147483647) {w0 : Int} (ew0 : h.2.2 26 0 = w0) (lw0 : 0 ≤ w0) (uw0 : w0 ≤ 4) {w1 : Int} (ew1 : h.2.2 26 1 = w1) (lw1 : 0 ≤ w1) (uw1 : w1 ≤ 4) : jOk 3 0 0 196 [(2, 0), (0, a1), (0, a2), (0, a3)] h (fun v h' => ∃ r : Int, v = some (0, r) ∧ Gd G h' ∧ Kp [(27, 0)] h h' ∧ CeC h h' a1 a2 a3 w0 w1 r) := by
  refine ⟨by decide, by rw [ml196]; exact Nat.le_of_ble_eq_true rfl, ?_⟩
  rw [ml196, pp196]
  show jEv _ none _ c196_0 0 0 _ (c196_0, [(2, 0), (0, a1), (0, a2), (0, a3)], [], h, 0, 0)
  have k0 := Kp.rf [(27, 0)] h
  refine ev_iload_n rfl ?_
  refine ev_iflt f196_43 (fun c75138 => ?_) (fun c75138 => ?_)
  · refine ev_ldc ?_
    exact ev_ret rfl (by decide) (by decide) ⟨_, rfl, g, k0, Or.inl ⟨by unfold TV; omega, rfl, fun _ => rfl⟩⟩
  · refine ev_aload_n rfl ?_
    refine g_getp (r := 0) (c := 26) g ad0 (by decide) (by decide) rf0_11 ft11_11 ?_
    refine ev_iload_n rfl ?_
    refine ev_bipush ?_
    refine g_idivP (c := 10) rfl (by decide) (by omega) (by omega) (fun v75139 ev75139 lv75139 uv75139 => ?_)
    refine ev_iload_n rfl ?_
    refine ev_bipush ?_
    refine g_iremP (c := 10) rfl (by decide) (by omega) (fun v75140 ev75140 lv75140 uv75140 wv75140 => ?_)
    refine ev_in (d := 1) (a := 0) (b := 0) (cd' := c105_0) (m := 3) (L0 := [(2, 26), (0, v75139), (0, v75140)]) (jcall_v (A := [(0, v75140), (0, v75139)]) (S' := []) (r := 26) rfl (g.lt ad26) (g.tg ad26) (Nat.le_of_ble_eq_true rfl)) (by decide) ml105 pp105 (Nat.le_of_ble_eq_true rfl) rfl (by decide) (by decide) ?_
    refine ev_iload_n rfl ?_
    refine ev_iflt f105_28 (fun c75141 => absurd c75141 (by omega)) (fun c75141 => ?_)
    refine ev_iload_n rfl ?_
    refine ev_aload_n rfl ?_
    refine g_getv (r := 26) (v := w0) g ad26 (by decide) ft9_0 (ew0) ?_
    refine ev_icmpge f105_28 (fun c75142 => ?_) (fun c75142 => ?_)
    · refine ev_iconst ?_
      refine ev_ret rfl (by decide) (by decide) ?_
      show jEv _ _ _ _ _ _ _ (_, [(2, 0), (0, a1), (0, a2), (0, a3)], [(0, 0)], _, _, _)
      refine ev_ifeq f196_43 (fun c75143 => ?_) (fun c75143 => absurd c75143 (by omega))
      refine ev_ldc ?_
      exact ev_ret rfl (by decide) (by decide) ⟨_, rfl, g, k0, Or.inl ⟨by unfold TV; omega, rfl, fun _ => rfl⟩⟩
    · refine ev_iload_n rfl ?_
      refine ev_iflt f105_28 (fun c75144 => absurd c75144 (by omega)) (fun c75144 => ?_)
      refine ev_iload_n rfl ?_
      refine ev_aload_n rfl ?_
      refine g_getv (r := 26) (v := w1) g ad26 (by decide) ft9_1 (ew1) ?_
      refine ev_icmpge f105_28 (fun c75145 => ?_) (fun c75145 => ?_)
      · refine ev_iconst ?_
        refine ev_ret rfl (by decide) (by decide) ?_
        show jEv _ _ _ _ _ _ _ (_, [(2, 0), (0, a1), (0, a2), (0, a3)], [(0, 0)], _, _, _)
        refine ev_ifeq f196_43 (fun c75146 => ?_) (fun c75146 => absurd c75146 (by omega))
        refine ev_ldc ?_
        exact ev_ret rfl (by decide) (by decide) ⟨_, rfl, g, k0, Or.inl ⟨by unfold TV; omega, rfl, fun _ => rfl⟩⟩
      · refine ev_iconst ?_
        refine ev_goto f105_29 ?_
        refine ev_ret rfl (by decide) (by decide) ?_
        show jEv _ _ _ _ _ _ _ (_, [(2, 0), (0, a1), (0, a2), (0, a3)], [(0, 1)], _, _, _)
        refine ev_ifeq f196_43 (fun c75147 => absurd c75147 (by omega)) (fun c75147 => ?_)
        refine ev_iload_n rfl ?_
        refine ev_iflt f196_43 (fun c75148 => ?_) (fun c75148 => ?_)
        · refine ev_ldc ?_
          exact ev_ret rfl (by decide) (by decide) ⟨_, rfl, g, k0, Or.inl ⟨by unfold TV; omega, rfl, fun _ => rfl⟩⟩
        · refine ev_iload_n rfl ?_
          refine ev_iconst ?_
          refine ev_icmpgt f196_43 (fun c75149 => ?_) (fun c75149 => ?_)
          · refine ev_ldc ?_
            exact ev_ret rfl (by decide) (by decide) ⟨_, rfl, g, k0, Or.inl ⟨by unfold TV; omega, rfl, fun _ => rfl⟩⟩
          · refine ev_iload_n rfl ?_
            refine ev_bipush ?_
            refine ev_icmplt f196_43 (fun c75150 => ?_) (fun c75150 => ?_)
            · refine ev_ldc ?_
              exact ev_ret rfl (by decide) (by decide) ⟨_, rfl, g, k0, Or.inl ⟨by unfold TV; omega, rfl, fun _ => rfl⟩⟩
            · refine ev_iload_n rfl ?_
              refine ev_bipush ?_
              refine ev_icmple f196_46 (fun c75151 => ?_) (fun c75151 => ?_)
              · refine ev_aload_n rfl ?_
                refine g_getp (r := 0) (c := 26) g ad0 (by decide) (by decide) rf0_11 ft11_11 ?_
                refine ev_iload_n rfl ?_
                refine ev_bipush ?_
                refine g_idivP (c := 10) rfl (by decide) (by omega) (by omega) (fun v75152 ev75152 lv75152 uv75152 => ?_)
                obtain rfl : v75139 = v75152 := by omega
                refine ev_iload_n rfl ?_
                refine ev_bipush ?_
                refine g_iremP (c := 10) rfl (by decide) (by omega) (fun v75153 ev75153 lv75153 uv75153 wv75153 => ?_)
                obtain rfl : v75140 = v75153 := by omega
                refine ev_iload_n rfl ?_
                refine ev_iload_n rfl ?_
                refine ev_in (d := 1) (a := 0) (b := 0) (cd' := c107_0) (m := 6) (L0 := [(2, 26), (0, v75139), (0, v75140), (0, a2), (0, a3), (9, 0)]) (jcall_v (A := [(0, a3), (0, a2), (0, v75140), (0, v75139)]) (S' := []) (r := 26) rfl (g.lt ad26) (g.tg ad26) (Nat.le_of_ble_eq_true rfl)) (by decide) ml107 pp107 (Nat.le_of_ble_eq_true rfl) rfl (by decide) (by decide) ?_
                refine ev_aload_n rfl ?_
                refine ev_iload_n rfl ?_
                refine ev_iload_n rfl ?_
                refine ev_iload_n rfl ?_
                refine ev_in (d := 0) (a := 0) (b := 0) (cd' := c106_0) (m := 4) (L0 := [(2, 26), (0, v75139), (0, v75140), (0, a2)]) (jcall_v (A := [(0, a2), (0, v75140), (0, v75139)]) (S' := []) (r := 26) rfl (g.lt ad26) (g.tg ad26) (Nat.le_of_ble_eq_true rfl)) (by decide) ml106 pp106 (Nat.le_of_ble_eq_true rfl) rfl (by decide) (by decide) ?_
                refine ev_aload_n rfl ?_
                refine g_getp (r := 26) (c := 27) g ad26 (by decide) (by decide) rf26_2 ft9_2 ?_
                refine ev_bipush ?_
                refine ev_iload_n rfl ?_
                refine ev_imul (r := (8 * v75139)) (by unfold w32; omega) ?_
                refine ev_iconst ?_
                refine ev_iload_n rfl ?_
                refine ev_imul (r := (2 * v75140)) (by unfold w32; omega) ?_
                refine ev_iadd (r := (8 * v75139 + 2 * v75140)) (by unfold w32; omega) ?_
                refine ev_iload_n rfl ?_
                refine ev_iadd (r := (a2 + 8 * v75139 + 2 * v75140)) (by unfold w32; omega) ?_
                refine g_iald g ad27 rt27 (by omega) (by omega) (fun v75154 ev75154 lv75154 uv75154 => ?_)
                refine ev_ret rfl (by decide) (by decide) ?_
                show jEv _ _ _ _ _ _ _ (_, [(2, 26), (0, v75139), (0, v75140), (0, a2), (0, a3), (9, 0)], [(0, v75154)], _, _, _)
                refine ev_istore (L' := [(2, 26), (0, v75139), (0, v75140), (0, a2), (0, a3), (0, v75154)]) (Nat.le_of_ble_eq_true rfl) rfl ?_
                refine ev_aload_n rfl ?_
                refine g_getp (r := 26) (c := 27) g ad26 (by decide) (by decide) rf26_2 ft9_2 ?_
                refine ev_bipush ?_
                refine ev_iload_n rfl ?_
                refine ev_imul (r := (8 * v75139)) (by unfold w32; omega) ?_
                refine ev_iconst ?_
                refine ev_iload_n rfl ?_
                refine ev_imul (r := (2 * v75140)) (by unfold w32; omega) ?_
                refine ev_iadd (r := (8 * v75139 + 2 * v75140)) (by unfold w32; omega) ?_
                refine ev_iload_n rfl ?_
                refine ev_iadd (r := (a2 + 8 * v75139 + 2 * v75140)) (by unfold w32; omega) ?_
                refine ev_iload rfl ?_
                refine g_iast g ad27 rt27 (fun _ => rfl) (by omega) (by omega) (by omega) (by omega) (fun h75155 e75155 g75155 => ?_)
                have k75155 := k0.wr e75155 rfl
                refine ev_iload rfl ?_
                refine ev_ret rfl (by decide) (by decide) ?_
                show jEv _ _ _ _ _ _ _ (_, [(2, 0), (0, a1), (0, a2), (0, a3)], [(0, v75154)], _, _, _)
                exact ev_ret rfl (by decide) (by decide) ⟨_, rfl, g75155, k75155, Or.inr ⟨by unfold TV; omega, at_e ev75154 (by omega), Up.mk e75155 (by omega)⟩⟩
              · refine ev_ldc ?_
                exact ev_ret rfl (by decide) (by decide) ⟨_, rfl, g, k0, Or.inl ⟨by unfold TV; omega, rfl, fun _ => rfl⟩⟩
set_option maxHeartbeats 4000000 in
theorem t331 {G : GH} {h : JH} (g : Gd G h) {a1 : Int} (la1 : (-2147483648) ≤ a1) (ua1 : a1 ≤ 2147483647) {a2 : Int} (la2 : (-2147483648) ≤ a2) (ua2 : a2 ≤ 2147483647) {a3 : Int} (la3 : (-2147483648) ≤ a3) (ua3 : a3 ≤ 2147483647) {w0 : Int} (ew0 : h.2.2 42 44 = w0) (lw0 : 0 ≤ w0) (uw0 : w0 ≤ 4) {w1 : Int} (ew1 : h.2.2 42 45 = w1) (lw1 : 0 ≤ w1) (uw1 : w1 ≤ 4) : jOk 2 0 0 331 [(2, 42), (0, a1), (0, a2), (0, a3)] h (fun v h' => ∃ r : Int, v = some (0, r) ∧ Gd G h' ∧ Kp [(67, 0)] h h' ∧ CeR h h' a1 a2 a3 w0 w1 r) := by
  refine ⟨by decide, by rw [ml331]; exact Nat.le_of_ble_eq_true rfl, ?_⟩
  rw [ml331, pp331]
  show jEv _ none _ c331_0 0 0 _ (c331_0, [(2, 42), (0, a1), (0, a2), (0, a3), (9, 0), (9, 0)], [], h, 0, 0)
  have k0 := Kp.rf [(67, 0)] h
  refine ev_iload_n rfl ?_
  refine ev_iflt f331_46 (fun c75194 => ?_) (fun c75194 => ?_)
  · refine ev_ldc_w ?_
    exact ev_ret rfl (by decide) (by decide) ⟨_, rfl, g, k0, Or.inl ⟨by unfold TV; omega, rfl, fun _ => rfl⟩⟩
  · refine ev_iload_n rfl ?_
    refine ev_bipush ?_
    refine g_idivP (c := 10) rfl (by decide) (by omega) (by omega) (fun v75195 ev75195 lv75195 uv75195 => ?_)
    refine ev_aload_n rfl ?_
    refine g_getv (r := 42) (v := w0) g ad42 (by decide) ft12_44 (ew0) ?_
    refine ev_icmpge f331_46 (fun c75196 => ?_) (fun c75196 => ?_)
    · refine ev_ldc_w ?_
      exact ev_ret rfl (by decide) (by decide) ⟨_, rfl, g, k0, Or.inl ⟨by unfold TV; omega, rfl, fun _ => rfl⟩⟩
    · refine ev_iload_n rfl ?_
      refine ev_bipush ?_
      refine g_iremP (c := 10) rfl (by decide) (by omega) (fun v75197 ev75197 lv75197 uv75197 wv75197 => ?_)
      refine ev_aload_n rfl ?_
      refine g_getv (r := 42) (v := w1) g ad42 (by decide) ft12_45 (ew1) ?_
      refine ev_icmpge f331_46 (fun c75198 => ?_) (fun c75198 => ?_)
      · refine ev_ldc_w ?_
        exact ev_ret rfl (by decide) (by decide) ⟨_, rfl, g, k0, Or.inl ⟨by unfold TV; omega, rfl, fun _ => rfl⟩⟩
      · refine ev_iload_n rfl ?_
        refine ev_iconst ?_
        refine ev_iconst ?_
        refine ev_in (d := 0) (a := 0) (b := 0) (cd' := c242_0) (m := 3) (L0 := [(0, a2), (0, 0), (0, 1)]) (jcall_s (A := [(0, 1), (0, 0), (0, a2)]) (S' := []) (by decide) rfl (Nat.le_of_ble_eq_true rfl)) (by decide) ml242 pp242 (Nat.le_of_ble_eq_true rfl) rfl (by decide) (by decide) ?_
        refine ev_iload_n rfl ?_
        refine ev_iload_n rfl ?_
        refine ev_icmplt f242_14 (fun c75199 => ?_) (fun c75199 => ?_)
        · refine ev_iconst ?_
          refine ev_ret rfl (by decide) (by decide) ?_
          show jEv _ _ _ _ _ _ _ (_, [(2, 42), (0, a1), (0, a2), (0, a3), (9, 0), (9, 0)], [(0, 0)], _, _, _)
          refine ev_ifeq f331_46 (fun c75200 => ?_) (fun c75200 => absurd c75200 (by omega))
          refine ev_ldc_w ?_
          exact ev_ret rfl (by decide) (by decide) ⟨_, rfl, g, k0, Or.inl ⟨by unfold TV; omega, rfl, fun _ => rfl⟩⟩
        · refine ev_iload_n rfl ?_
          refine ev_iload_n rfl ?_
          refine ev_icmpgt f242_14 (fun c75201 => ?_) (fun c75201 => ?_)
          · refine ev_iconst ?_
            refine ev_ret rfl (by decide) (by decide) ?_
            show jEv _ _ _ _ _ _ _ (_, [(2, 42), (0, a1), (0, a2), (0, a3), (9, 0), (9, 0)], [(0, 0)], _, _, _)
            refine ev_ifeq f331_46 (fun c75202 => ?_) (fun c75202 => absurd c75202 (by omega))
            refine ev_ldc_w ?_
            exact ev_ret rfl (by decide) (by decide) ⟨_, rfl, g, k0, Or.inl ⟨by unfold TV; omega, rfl, fun _ => rfl⟩⟩
          · refine ev_iconst ?_
            refine ev_goto f242_15 ?_
            refine ev_ret rfl (by decide) (by decide) ?_
            show jEv _ _ _ _ _ _ _ (_, [(2, 42), (0, a1), (0, a2), (0, a3), (9, 0), (9, 0)], [(0, 1)], _, _, _)
            refine ev_ifeq f331_46 (fun c75203 => absurd c75203 (by omega)) (fun c75203 => ?_)
            refine ev_iload_n rfl ?_
            refine ev_bipush ?_
            refine ev_bipush ?_
            refine ev_in (d := 0) (a := 0) (b := 0) (cd' := c242_0) (m := 3) (L0 := [(0, a3), (0, (-99)), (0, 99)]) (jcall_s (A := [(0, 99), (0, (-99)), (0, a3)]) (S' := []) (by decide) rfl (Nat.le_of_ble_eq_true rfl)) (by decide) ml242 pp242 (Nat.le_of_ble_eq_true rfl) rfl (by decide) (by decide) ?_
            refine ev_iload_n rfl ?_
            refine ev_iload_n rfl ?_
            refine ev_icmplt f242_14 (fun c75204 => ?_) (fun c75204 => ?_)
            · refine ev_iconst ?_
              refine ev_ret rfl (by decide) (by decide) ?_
              show jEv _ _ _ _ _ _ _ (_, [(2, 42), (0, a1), (0, a2), (0, a3), (9, 0), (9, 0)], [(0, 0)], _, _, _)
              refine ev_ifne f331_50 (fun c75205 => absurd c75205 (by omega)) (fun c75205 => ?_)
              refine ev_ldc_w ?_
              exact ev_ret rfl (by decide) (by decide) ⟨_, rfl, g, k0, Or.inl ⟨by unfold TV; omega, rfl, fun _ => rfl⟩⟩
            · refine ev_iload_n rfl ?_
              refine ev_iload_n rfl ?_
              refine ev_icmpgt f242_14 (fun c75206 => ?_) (fun c75206 => ?_)
              · refine ev_iconst ?_
                refine ev_ret rfl (by decide) (by decide) ?_
                show jEv _ _ _ _ _ _ _ (_, [(2, 42), (0, a1), (0, a2), (0, a3), (9, 0), (9, 0)], [(0, 0)], _, _, _)
                refine ev_ifne f331_50 (fun c75207 => absurd c75207 (by omega)) (fun c75207 => ?_)
                refine ev_ldc_w ?_
                exact ev_ret rfl (by decide) (by decide) ⟨_, rfl, g, k0, Or.inl ⟨by unfold TV; omega, rfl, fun _ => rfl⟩⟩
              · refine ev_iconst ?_
                refine ev_goto f242_15 ?_
                refine ev_ret rfl (by decide) (by decide) ?_
                show jEv _ _ _ _ _ _ _ (_, [(2, 42), (0, a1), (0, a2), (0, a3), (9, 0), (9, 0)], [(0, 1)], _, _, _)
                refine ev_ifne f331_50 (fun c75208 => ?_) (fun c75208 => absurd c75208 (by omega))
                refine ev_bipush ?_
                refine ev_iload_n rfl ?_
                refine ev_imul (r := (16 * a2)) (by unfold w32; omega) ?_
                refine ev_iconst ?_
                refine ev_iload_n rfl ?_
                refine ev_bipush ?_
                refine g_idivP (c := 10) rfl (by decide) (by omega) (by omega) (fun v75209 ev75209 lv75209 uv75209 => ?_)
                obtain rfl : v75195 = v75209 := by omega
                refine ev_imul (r := (4 * v75195)) (by unfold w32; omega) ?_
                refine ev_iadd (r := (16 * a2 + 4 * v75195)) (by unfold w32; omega) ?_
                refine ev_iload_n rfl ?_
                refine ev_bipush ?_
                refine g_iremP (c := 10) rfl (by decide) (by omega) (fun v75210 ev75210 lv75210 uv75210 wv75210 => ?_)
                obtain rfl : v75197 = v75210 := by omega
                refine ev_iadd (r := (16 * a2 + 4 * v75195 + v75197)) (by unfold w32; omega) ?_
                refine ev_istore (L' := [(2, 42), (0, a1), (0, a2), (0, a3), (0, (16 * a2 + 4 * v75195 + v75197)), (9, 0)]) (Nat.le_of_ble_eq_true rfl) rfl ?_
                refine ev_aload_n rfl ?_
                refine g_getp (r := 42) (c := 67) g ad42 (by decide) (by decide) rf42_46 ft12_46 ?_
                refine ev_iload rfl ?_
                refine g_iald g ad67 rt67 (by omega) (by omega) (fun v75211 ev75211 lv75211 uv75211 => ?_)
                refine ev_istore (L' := [(2, 42), (0, a1), (0, a2), (0, a3), (0, (16 * a2 + 4 * v75195 + v75197)), (0, v75211)]) (Nat.le_of_ble_eq_true rfl) rfl ?_
                refine ev_aload_n rfl ?_
                refine g_getp (r := 42) (c := 67) g ad42 (by decide) (by decide) rf42_46 ft12_46 ?_
                refine ev_iload rfl ?_
                refine ev_iload_n rfl ?_
                refine g_iast g ad67 rt67 (fun _ => rfl) (by omega) (by omega) (by omega) (by omega) (fun h75212 e75212 g75212 => ?_)
                have k75212 := k0.wr e75212 rfl
                refine ev_iload rfl ?_
                exact ev_ret rfl (by decide) (by decide) ⟨_, rfl, g75212, k75212, Or.inr ⟨by unfold TV; omega, at_e ev75211 (by omega), Up.mk e75212 (by omega)⟩⟩
set_option maxHeartbeats 4000000 in
theorem t383_l {G : GH} {h : JH}  : ∀ N : Nat, (∀ (h1 : JH) (x2 : Int), Gd G h1 → Kp [(27, 0)] h h1 → 0 ≤ x2 → x2 ≤ 32 → Z0 h1 27 x2 → ((-x2) + 32) < N → jEv (jOk 0) none (fun _ => 0) c383_0 0 0 (fun v h' => v = none ∧ Gd G h' ∧ Kp [(27, 0)] h h' ∧ Z0 h' 27 32) (c383_5, [(2, 27), (0, 0), (0, x2), (0, 32)], [], h1, 0, 0)) := by
  intro N
  induction N with
  | zero => exact fun h1 x2 g1 k1 b0 b1 b2 hm => absurd hm (by omega)
  | succ N ih =>
    show _
    intro h1 x2 g1 k1 b0 b1 H0 hm
    refine ev_iload_n rfl ?_
    refine ev_iload_n rfl ?_
    refine ev_icmpge f383_20 (fun c75259 => ?_) (fun c75259 => ?_)
    · exact ev_ret rfl (by decide) (by decide) ⟨rfl, g1, k1, H0.le (by omega)⟩
    · refine ev_aload_n rfl ?_
      refine ev_iload_n rfl ?_
      refine ev_iload_n rfl ?_
      refine g_iast g1 ad27 rt27 (fun _ => rfl) (by omega) (by omega) (by omega) (by omega) (fun h75260 e75260 g75260 => ?_)
      have k75260 := k1.wr e75260 rfl
      refine ev_iinc (w := (x2 + 1)) (L' := [(2, 27), (0, 0), (0, (x2 + 1)), (0, 32)]) rfl (by unfold w32; omega) rfl ?_
      refine ev_goto f383_5 ?_
      exact ih _ _ g75260 k75260 (by omega) (by omega) (Z0.step H0 (by omega) e75260) (by omega)
set_option maxHeartbeats 4000000 in
theorem t383 {G : GH} {h : JH} (g : Gd G h)  : jOk 1 0 0 383 [(2, 27), (0, 0)] h (fun v h' => v = none ∧ Gd G h' ∧ Kp [(27, 0)] h h' ∧ Z0 h' 27 32) := by
  refine ⟨by decide, by rw [ml383]; exact Nat.le_of_ble_eq_true rfl, ?_⟩
  rw [ml383, pp383]
  show jEv _ none _ c383_0 0 0 _ (c383_0, [(2, 27), (0, 0), (9, 0), (9, 0)], [], h, 0, 0)
  have k0 := Kp.rf [(27, 0)] h
  refine ev_iconst ?_
  refine ev_istore_n (L' := [(2, 27), (0, 0), (0, 0), (9, 0)]) (Nat.le_of_ble_eq_true rfl) rfl ?_
  refine ev_aload_n rfl ?_
  refine ev_aln (r := 27) (m := 32) (g.lt ad27) (by rw [g.tg ad27]; decide) (by rw [g.tg ad27]; decide) (g.ln ad27) (by decide) ?_
  refine ev_istore_n (L' := [(2, 27), (0, 0), (0, 0), (0, 32)]) (Nat.le_of_ble_eq_true rfl) rfl ?_
  exact (t383_l  66) _ _ g k0 (by omega) (by omega) (Z0.start _ _) (by omega)
set_option maxHeartbeats 4000000 in
theorem t195 {G : GH} {h : JH} (g : Gd G h) {a1 : Int} (la1 : (-2147483648) ≤ a1) (ua1 : a1 ≤ 2147483647) {a2 : Int} (la2 : (-2147483648) ≤ a2) (ua2 : a2 ≤ 2147483647) : jOk 3 0 0 195 [(2, 0), (0, a1), (0, a2)] h (fun v h' => ∃ r : Int, v = some (0, r) ∧ Gd G h' ∧ Kp [(26, 1), (26, 2), (27, 0)] h h' ∧ TaC h h' a1 a2 r) := by
  refine ⟨by decide, by rw [ml195]; exact Nat.le_of_ble_eq_true rfl, ?_⟩
  rw [ml195, pp195]
  show jEv _ none _ c195_0 0 0 _ (c195_0, [(2, 0), (0, a1), (0, a2)], [], h, 0, 0)
  have k0 := Kp.rf [(26, 1), (26, 2), (27, 0)] h
  refine ev_iload_n rfl ?_
  refine ev_iconst ?_
  refine ev_icmplt f195_20 (fun c75277 => ?_) (fun c75277 => ?_)
  · refine ev_iconst ?_
    exact ev_ret rfl (by decide) (by decide) ⟨_, rfl, g, k0, Or.inl ⟨by unfold TB; omega, rfl, rfl, rfl, fun _ => rfl⟩⟩
  · refine ev_iload_n rfl ?_
    refine ev_iconst ?_
    refine ev_icmpgt f195_20 (fun c75278 => ?_) (fun c75278 => ?_)
    · refine ev_iconst ?_
      exact ev_ret rfl (by decide) (by decide) ⟨_, rfl, g, k0, Or.inl ⟨by unfold TB; omega, rfl, rfl, rfl, fun _ => rfl⟩⟩
    · refine ev_iload_n rfl ?_
      refine ev_iconst ?_
      refine ev_icmplt f195_20 (fun c75279 => ?_) (fun c75279 => ?_)
      · refine ev_iconst ?_
        exact ev_ret rfl (by decide) (by decide) ⟨_, rfl, g, k0, Or.inl ⟨by unfold TB; omega, rfl, rfl, rfl, fun _ => rfl⟩⟩
      · refine ev_iload_n rfl ?_
        refine ev_iconst ?_
        refine ev_icmple f195_22 (fun c75280 => ?_) (fun c75280 => ?_)
        · refine ev_aload_n rfl ?_
          refine g_getp (r := 0) (c := 26) g ad0 (by decide) (by decide) rf0_11 ft11_11 ?_
          refine ev_iload_n rfl ?_
          refine ev_iload_n rfl ?_
          refine ev_in (d := 1) (a := 0) (b := 0) (cd' := c103_0) (m := 3) (L0 := [(2, 26), (0, a1), (0, a2)]) (jcall_v (A := [(0, a2), (0, a1)]) (S' := []) (r := 26) rfl (g.lt ad26) (g.tg ad26) (Nat.le_of_ble_eq_true rfl)) (by decide) ml103 pp103 (Nat.le_of_ble_eq_true rfl) rfl (by decide) (by decide) ?_
          refine ev_aload_n rfl ?_
          refine ev_iload_n rfl ?_
          refine g_putf (r := 26) g ad26 (by decide) ft9_0 (by decide) (fun e => absurd e nz9_0) rf26_0 (by decide) (by omega) (by omega) (fun h75281 e75281 g75281 => ?_)
          have k75281 := k0.wr e75281 rfl
          refine ev_aload_n rfl ?_
          refine ev_iload_n rfl ?_
          refine g_putf (r := 26) g75281 ad26 (by decide) ft9_1 (by decide) (fun e => absurd e nz9_1) rf26_1 (by decide) (by omega) (by omega) (fun h75282 e75282 g75282 => ?_)
          have k75282 := k75281.wr e75282 rfl
          refine ev_aload_n rfl ?_
          refine g_getp (r := 26) (c := 27) g75282 ad26 (by decide) (by decide) rf26_2 ft9_2 ?_
          refine ev_iconst ?_
          refine ev_call (jcall_s (A := [(0, 0), (2, 27)]) (S' := []) (by decide) rfl (Nat.le_of_ble_eq_true rfl)) (jOk_le (by decide) (t383 g75282 )) (by decide) (by decide) (fun w75283 h75283 q75283 => ?_)
          obtain ⟨rfl, g75283, kk75283, zz75283⟩ := q75283
          have k75283 := k75282.tr kk75283 (by decide)
          show jEv _ _ _ _ _ _ _ (_, [(2, 26), (0, a1), (0, a2)], [], _, _, _)
          refine ev_ret rfl (by decide) (by decide) ?_
          show jEv _ _ _ _ _ _ _ (_, [(2, 0), (0, a1), (0, a2)], [], _, _, _)
          refine ev_iload_n rfl ?_
          refine ev_iload_n rfl ?_
          refine g_imulB (a := 4) (b := 4) (a' := 1) (b' := 1) (by omega) (by omega) (by omega) (by omega) (by decide) (lo := 1) (hi := 16) (by decide) (by decide) (fun v75284 ev75284 lv75284 uv75284 => ?_)
          exact ev_ret rfl (by decide) (by decide) ⟨_, rfl, g75283, k75283, Or.inr ⟨by unfold TB; omega, ev75284.symm, ((((kk75283.v (by decide)).trans ((jw_ne e75282 (Or.inr (by decide))).trans (jw_eq e75281))))).trans (by omega), ((((kk75283.v (by decide)).trans (jw_eq e75282)))).trans (by omega), zz75283⟩⟩
        · refine ev_iconst ?_
          exact ev_ret rfl (by decide) (by decide) ⟨_, rfl, g, k0, Or.inl ⟨by unfold TB; omega, rfl, rfl, rfl, fun _ => rfl⟩⟩
set_option maxHeartbeats 4000000 in
theorem t330_l {G : GH} {h : JH} {a1 : Int} (la1 : (-2147483648) ≤ a1) (ua1 : a1 ≤ 2147483647) {a2 : Int} (la2 : (-2147483648) ≤ a2) (ua2 : a2 ≤ 2147483647) : ∀ N : Nat, (∀ (h1 : JH) (x3 y0 y1 : Int), Gd G h1 → Kp [(42, 45), (42, 46), (67, 0)] h h1 → 1 ≤ a1 → a1 ≤ 4 → 1 ≤ a2 → a2 ≤ 4 → 0 ≤ x3 → x3 ≤ 32 → ((-a1) + y0) ≤ 0 → (a1 + (-y0)) ≤ 0 → ((-a2) + y1) ≤ 0 → (a2 + (-y1)) ≤ 0 → h1.2.2 42 44 = y0 → 1 ≤ y0 → y0 ≤ 4 → h1.2.2 42 45 = y1 → 1 ≤ y1 → y1 ≤ 4 → Z0 h1 67 x3 → ((-x3) + 32) < N → jEv (jOk 1) none (fun _ => 0) c330_0 0 0 (fun v h' => ∃ r : Int, v = some (0, r) ∧ Gd G h' ∧ Kp [(42, 45), (42, 46), (67, 0)] h h' ∧ TaR h h' a1 a2 r) (c330_32, [(2, 42), (0, a1), (0, a2), (0, x3)], [], h1, 0, 0)) := by
  intro N
  induction N with
  | zero => exact fun h1 x3 y0 y1 g1 k1 b0 b1 b2 b3 b4 b5 b6 b7 b8 b9 b10 b11 b12 b13 b14 b15 b16 hm => absurd hm (by omega)
  | succ N ih =>
    show _
    intro h1 x3 y0 y1 g1 k1 b0 b1 b2 b3 b4 b5 b6 b7 b8 b9 ey0 ly0 uy0 ey1 ly1 uy1 H0 hm
    refine ev_iload_n rfl ?_
    refine ev_bipush ?_
    refine ev_icmpge f330_51 (fun c75357 => ?_) (fun c75357 => ?_)
    · refine ev_iload_n rfl ?_
      refine ev_iload_n rfl ?_
      refine g_imulB (a := 4) (b := 4) (a' := 1) (b' := 1) (by omega) (by omega) (by omega) (by omega) (by decide) (lo := 1) (hi := 16) (by decide) (by decide) (fun v75358 ev75358 lv75358 uv75358 => ?_)
      exact ev_ret rfl (by decide) (by decide) ⟨_, rfl, g1, k1, Or.inr ⟨by unfold TB; omega, ev75358.symm, ((ey0)).trans (by omega), ((ey1)).trans (by omega), H0.le (by omega)⟩⟩
    · refine ev_aload_n rfl ?_
      refine g_getp (r := 42) (c := 67) g1 ad42 (by decide) (by decide) rf42_46 ft12_46 ?_
      refine ev_iload_n rfl ?_
      refine ev_iconst ?_
      refine g_iast g1 ad67 rt67 (fun _ => rfl) (by omega) (by omega) (by omega) (by omega) (fun h75359 e75359 g75359 => ?_)
      have k75359 := k1.wr e75359 rfl
      refine ev_iinc (w := (x3 + 1)) (L' := [(2, 42), (0, a1), (0, a2), (0, (x3 + 1))]) rfl (by unfold w32; omega) rfl ?_
      refine ev_goto f330_32 ?_
      exact ih _ _ _ _ g75359 k75359 (by omega) (by omega) (by omega) (by omega) (by omega) (by omega) (by omega) (by omega) (by omega) (by omega) (((jw_ne e75359 (Or.inl (by decide))).trans ey0)) (by omega) (by omega) (((jw_ne e75359 (Or.inl (by decide))).trans ey1)) (by omega) (by omega) (Z0.step H0 (by omega) e75359) (by omega)
set_option maxHeartbeats 4000000 in
theorem t330 {G : GH} {h : JH} (g : Gd G h) {a1 : Int} (la1 : (-2147483648) ≤ a1) (ua1 : a1 ≤ 2147483647) {a2 : Int} (la2 : (-2147483648) ≤ a2) (ua2 : a2 ≤ 2147483647) : jOk 2 0 0 330 [(2, 42), (0, a1), (0, a2)] h (fun v h' => ∃ r : Int, v = some (0, r) ∧ Gd G h' ∧ Kp [(42, 45), (42, 46), (67, 0)] h h' ∧ TaR h h' a1 a2 r) := by
  refine ⟨by decide, by rw [ml330]; exact Nat.le_of_ble_eq_true rfl, ?_⟩
  rw [ml330, pp330]
  show jEv _ none _ c330_0 0 0 _ (c330_0, [(2, 42), (0, a1), (0, a2), (9, 0)], [], h, 0, 0)
  have k0 := Kp.rf [(42, 45), (42, 46), (67, 0)] h
  refine ev_iload_n rfl ?_
  refine ev_iconst ?_
  refine ev_iconst ?_
  refine ev_in (d := 0) (a := 0) (b := 0) (cd' := c242_0) (m := 3) (L0 := [(0, a1), (0, 1), (0, 4)]) (jcall_s (A := [(0, 4), (0, 1), (0, a1)]) (S' := []) (by decide) rfl (Nat.le_of_ble_eq_true rfl)) (by decide) ml242 pp242 (Nat.le_of_ble_eq_true rfl) rfl (by decide) (by decide) ?_
  refine ev_iload_n rfl ?_
  refine ev_iload_n rfl ?_
  refine ev_icmplt f242_14 (fun c75360 => ?_) (fun c75360 => ?_)
  · refine ev_iconst ?_
    refine ev_ret rfl (by decide) (by decide) ?_
    show jEv _ _ _ _ _ _ _ (_, [(2, 42), (0, a1), (0, a2), (9, 0)], [(0, 0)], _, _, _)
    refine ev_ifeq f330_18 (fun c75361 => ?_) (fun c75361 => absurd c75361 (by omega))
    refine ev_iconst ?_
    exact ev_ret rfl (by decide) (by decide) ⟨_, rfl, g, k0, Or.inl ⟨by unfold TB; omega, rfl, rfl, rfl, fun _ => rfl⟩⟩
  · refine ev_iload_n rfl ?_
    refine ev_iload_n rfl ?_
    refine ev_icmpgt f242_14 (fun c75362 => ?_) (fun c75362 => ?_)
    · refine ev_iconst ?_
      refine ev_ret rfl (by decide) (by decide) ?_
      show jEv _ _ _ _ _ _ _ (_, [(2, 42), (0, a1), (0, a2), (9, 0)], [(0, 0)], _, _, _)
      refine ev_ifeq f330_18 (fun c75363 => ?_) (fun c75363 => absurd c75363 (by omega))
      refine ev_iconst ?_
      exact ev_ret rfl (by decide) (by decide) ⟨_, rfl, g, k0, Or.inl ⟨by unfold TB; omega, rfl, rfl, rfl, fun _ => rfl⟩⟩
    · refine ev_iconst ?_
      refine ev_goto f242_15 ?_
      refine ev_ret rfl (by decide) (by decide) ?_
      show jEv _ _ _ _ _ _ _ (_, [(2, 42), (0, a1), (0, a2), (9, 0)], [(0, 1)], _, _, _)
      refine ev_ifeq f330_18 (fun c75364 => absurd c75364 (by omega)) (fun c75364 => ?_)
      refine ev_iload_n rfl ?_
      refine ev_iconst ?_
      refine ev_iconst ?_
      refine ev_in (d := 0) (a := 0) (b := 0) (cd' := c242_0) (m := 3) (L0 := [(0, a2), (0, 1), (0, 4)]) (jcall_s (A := [(0, 4), (0, 1), (0, a2)]) (S' := []) (by decide) rfl (Nat.le_of_ble_eq_true rfl)) (by decide) ml242 pp242 (Nat.le_of_ble_eq_true rfl) rfl (by decide) (by decide) ?_
      refine ev_iload_n rfl ?_
      refine ev_iload_n rfl ?_
      refine ev_icmplt f242_14 (fun c75365 => ?_) (fun c75365 => ?_)
      · refine ev_iconst ?_
        refine ev_ret rfl (by decide) (by decide) ?_
        show jEv _ _ _ _ _ _ _ (_, [(2, 42), (0, a1), (0, a2), (9, 0)], [(0, 0)], _, _, _)
        refine ev_ifne f330_20 (fun c75366 => absurd c75366 (by omega)) (fun c75366 => ?_)
        refine ev_iconst ?_
        exact ev_ret rfl (by decide) (by decide) ⟨_, rfl, g, k0, Or.inl ⟨by unfold TB; omega, rfl, rfl, rfl, fun _ => rfl⟩⟩
      · refine ev_iload_n rfl ?_
        refine ev_iload_n rfl ?_
        refine ev_icmpgt f242_14 (fun c75367 => ?_) (fun c75367 => ?_)
        · refine ev_iconst ?_
          refine ev_ret rfl (by decide) (by decide) ?_
          show jEv _ _ _ _ _ _ _ (_, [(2, 42), (0, a1), (0, a2), (9, 0)], [(0, 0)], _, _, _)
          refine ev_ifne f330_20 (fun c75368 => absurd c75368 (by omega)) (fun c75368 => ?_)
          refine ev_iconst ?_
          exact ev_ret rfl (by decide) (by decide) ⟨_, rfl, g, k0, Or.inl ⟨by unfold TB; omega, rfl, rfl, rfl, fun _ => rfl⟩⟩
        · refine ev_iconst ?_
          refine ev_goto f242_15 ?_
          refine ev_ret rfl (by decide) (by decide) ?_
          show jEv _ _ _ _ _ _ _ (_, [(2, 42), (0, a1), (0, a2), (9, 0)], [(0, 1)], _, _, _)
          refine ev_ifne f330_20 (fun c75369 => ?_) (fun c75369 => absurd c75369 (by omega))
          refine ev_aload_n rfl ?_
          refine ev_iload_n rfl ?_
          refine g_putf (r := 42) g ad42 (by decide) ft12_44 (by decide) (fun e => absurd e nz12_44) rf42_44 (by decide) (by omega) (by omega) (fun h75370 e75370 g75370 => ?_)
          have k75370 := k0.wr e75370 rfl
          refine ev_aload_n rfl ?_
          refine ev_iload_n rfl ?_
          refine g_putf (r := 42) g75370 ad42 (by decide) ft12_45 (by decide) (fun e => absurd e nz12_45) rf42_45 (by decide) (by omega) (by omega) (fun h75371 e75371 g75371 => ?_)
          have k75371 := k75370.wr e75371 rfl
          refine ev_iconst ?_
          refine ev_istore_n (L' := [(2, 42), (0, a1), (0, a2), (0, 0)]) (Nat.le_of_ble_eq_true rfl) rfl ?_
          exact (t330_l la1 ua1 la2 ua2 66) _ _ _ _ g75371 k75371 (by omega) (by omega) (by omega) (by omega) (by omega) (by omega) (by omega) (by omega) (by omega) (by omega) (((jw_ne e75371 (Or.inr (by decide))).trans (jw_eq e75370))) (by omega) (by omega) ((jw_eq e75371)) (by omega) (by omega) (Z0.start _ _) (by omega)
abbrev gP (h : JH) (x y : Int) : Option AV → JH → Prop := fun v h' => v = some (1, ((Nat.gcd x.toNat y.toNat : Nat) : Int)) ∧ h' = h
theorem gcd_st {x y : Int} (x0 : 0 ≤ x) (y0 : 0 < y) : Nat.gcd y.toNat (x.tmod y).toNat = Nat.gcd x.toNat y.toNat := by
  rw [jtm_e x0, Int.toNat_emod x0 (by omega), Nat.gcd_comm y.toNat, ← Nat.gcd_rec, Nat.gcd_comm]
theorem cd_s {h : JH} {a b x y i : Int} {j9 j10 : AV} (x0 : 0 ≤ x) (x1 : x ≤ 9223372036854775807) (y0 : 0 ≤ y) (i0 : 0 ≤ i) (i1 : i < 200) (H : 0 < y → jEv (jOk 0) none (fun _ => 0) c224_0 0 0 (gP h y (x.tmod y)) (c224_9, [(1, a), (9, 0), (1, b), (9, 0), (1, y), (9, 0), (1, x.tmod y), (9, 0), (0, i + 1), (1, x.tmod y), (9, 0)], [], h, 0, 0)) : jEv (jOk 0) none (fun _ => 0) c224_0 0 0 (gP h x y) (c224_9, [(1, a), (9, 0), (1, b), (9, 0), (1, x), (9, 0), (1, y), (9, 0), (0, i), j9, j10], [], h, 0, 0) := by
  refine ev_iload rfl ?_
  refine ev_sipush ?_
  refine ev_icmpge f224_45 (fun c => absurd c (by omega)) (fun c => ?_)
  refine ev_lload rfl ?_
  refine ev_lconst ?_
  refine ev_lcmp ?_
  refine ev_ifeq f224_45 (fun c2 => ?_) (fun c2 => ?_)
  · have e : y = 0 := jcmpL_eq c2
    subst e
    refine ev_lload rfl ?_
    refine ev_ret rfl (by decide) (by decide) ⟨?_, rfl⟩
    rw [show (0 : Int).toNat = 0 from rfl, Nat.gcd_zero_right, show ((x.toNat : Nat) : Int) = x by omega]
  · have e : y ≠ 0 := jcmpL_eqN c2
    have yp : 0 < y := by omega
    refine ev_lload rfl ?_
    refine ev_lload rfl ?_
    refine ev_lrem (r := x.tmod y) e rfl ?_
    refine ev_lstore (L' := [(1, a), (9, 0), (1, b), (9, 0), (1, x), (9, 0), (1, y), (9, 0), (0, i), (1, x.tmod y), (9, 0)]) (Nat.le_of_ble_eq_true rfl) rfl ?_
    refine ev_lload rfl ?_
    refine ev_lstore (L' := [(1, a), (9, 0), (1, b), (9, 0), (1, y), (9, 0), (1, y), (9, 0), (0, i), (1, x.tmod y), (9, 0)]) (Nat.le_of_ble_eq_true rfl) rfl ?_
    refine ev_lload rfl ?_
    refine ev_lstore (L' := [(1, a), (9, 0), (1, b), (9, 0), (1, y), (9, 0), (1, x.tmod y), (9, 0), (0, i), (1, x.tmod y), (9, 0)]) (Nat.le_of_ble_eq_true rfl) rfl ?_
    refine ev_iinc (w := i + 1) (L' := [(1, a), (9, 0), (1, b), (9, 0), (1, y), (9, 0), (1, x.tmod y), (9, 0), (0, i + 1), (1, x.tmod y), (9, 0)]) rfl (by unfold w32; omega) rfl ?_
    refine ev_goto f224_9 ?_
    refine jev_mono (fun _ _ _ _ _ _ q => q) (fun v h' q => ?_) (H yp)
    unfold gP at q ⊢
    rw [gcd_st x0 yp] at q
    exact q
theorem cd_l {h : JH} {a b : Int} : ∀ (N : Nat) (x y i : Int) (j9 j10 : AV), 0 ≤ x → x ≤ 9223372036854775807 → 0 ≤ y → y ≤ 9223372036854775807 → y.toNat < 2 ^ N → 0 ≤ i → i + 2 * (N : Int) + 2 ≤ 200 → jEv (jOk 0) none (fun _ => 0) c224_0 0 0 (gP h x y) (c224_9, [(1, a), (9, 0), (1, b), (9, 0), (1, x), (9, 0), (1, y), (9, 0), (0, i), j9, j10], [], h, 0, 0) := by
  intro N
  induction N with
  | zero =>
    intro x y i j9 j10 x0 x1 y0 y1 hN i0 i1
    rw [Nat.pow_zero] at hN
    exact cd_s x0 x1 y0 i0 (by omega) (fun z => by omega)
  | succ N ih =>
    intro x y i j9 j10 x0 x1 y0 y1 hN i0 i1
    refine cd_s x0 x1 y0 i0 (by omega) (fun yp => ?_)
    have e1 : x.tmod y = x % y := jtm_e x0
    have r0 := Int.emod_nonneg x (show y ≠ 0 by omega)
    have r1 := Int.emod_lt_of_pos x yp
    rw [e1]
    refine cd_s (by omega) y1 r0 (by omega) (by omega) (fun rp => ?_)
    have e2 : y.tmod (x % y) = y % (x % y) := jtm_e (by omega)
    have s0 := Int.emod_nonneg y (show x % y ≠ 0 by omega)
    have s1 := Int.emod_lt_of_pos y rp
    have s2 : 2 * (y % (x % y)) < y := by
      have d := Int.emod_add_mul_ediv y (x % y)
      have k1 : 1 ≤ y / (x % y) := (Int.le_ediv_iff_mul_le rp).mpr (by omega)
      have k2 : (x % y) * 1 ≤ (x % y) * (y / (x % y)) := Int.mul_le_mul_of_nonneg_left k1 (by omega)
      omega
    rw [e2]
    rw [Nat.pow_succ] at hN
    exact ih (x % y) (y % (x % y)) (i + 1 + 1) _ _ (by omega) (by omega) (by omega) (by omega) (by omega) (by omega) (by omega)
theorem t224 {G : GH} {h : JH} (g : Gd G h) {a0 : Int} (la0 : 0 ≤ a0) (ua0 : a0 ≤ 9223372036854775807) {a1 : Int} (la1 : 1 ≤ a1) (ua1 : a1 ≤ 9223372036854775807) : jOk 1 0 0 224 [(1, a0), (1, a1)] h (fun v h' => ∃ r : Int, v = some (1, r) ∧ Gd G h' ∧ Kp [] h h' ∧ 1 ≤ r ∧ r ≤ a1 ∧ r = ((Nat.gcd a0.toNat a1.toNat : Nat) : Int)) := by
  refine ⟨by decide, by rw [ml224]; exact Nat.le_of_ble_eq_true rfl, ?_⟩
  rw [ml224, pp224]
  show jEv _ none _ c224_0 0 0 _ (c224_0, [(1, a0), (9, 0), (1, a1), (9, 0), (9, 0), (9, 0), (9, 0), (9, 0), (9, 0), (9, 0), (9, 0)], [], h, 0, 0)
  refine ev_lload_n rfl ?_
  refine ev_lstore (L' := [(1, a0), (9, 0), (1, a1), (9, 0), (1, a0), (9, 0), (9, 0), (9, 0), (9, 0), (9, 0), (9, 0)]) (Nat.le_of_ble_eq_true rfl) rfl ?_
  refine ev_lload_n rfl ?_
  refine ev_lstore (L' := [(1, a0), (9, 0), (1, a1), (9, 0), (1, a0), (9, 0), (1, a1), (9, 0), (9, 0), (9, 0), (9, 0)]) (Nat.le_of_ble_eq_true rfl) rfl ?_
  refine ev_iconst ?_
  refine ev_istore (L' := [(1, a0), (9, 0), (1, a1), (9, 0), (1, a0), (9, 0), (1, a1), (9, 0), (0, 0), (9, 0), (9, 0)]) (Nat.le_of_ble_eq_true rfl) rfl ?_
  refine jev_mono (fun _ _ _ _ _ _ q => q) (fun v h' q => ?_) (cd_l 63 a0 a1 0 _ _ la0 ua0 (by omega) ua1 (by omega) (by omega) (by omega))
  obtain ⟨q1, q2⟩ := q
  have g1 : 0 < Nat.gcd a0.toNat a1.toNat := Nat.gcd_pos_of_pos_right _ (by omega)
  have g2 : Nat.gcd a0.toNat a1.toNat ≤ a1.toNat := Nat.gcd_le_right _ (by omega)
  rw [q2]
  exact ⟨_, q1, g, Kp.rf _ _, by omega, by omega, rfl⟩
/-- a fraction's top or bottom without common factors -/
def frF (t b w : Int) : Int := (if w = 0 then t else b).tdiv ((Nat.gcd t.natAbs b.toNat : Nat) : Int)
theorem gcz_l {h : JH} {a b : Int} : ∀ (N : Nat) (x y : Int) (j8 j9 : AV), y.toNat < N → 0 ≤ x → x ≤ 9223372036854775807 → 0 ≤ y → y ≤ 9223372036854775807 → (0 < x ∨ 0 < y) → jEv (jOk 0) none (fun _ => 0) c243_0 0 0 (gP h x y) (c243_17, [(1, a), (9, 0), (1, b), (9, 0), (1, x), (9, 0), (1, y), (9, 0), j8, j9], [], h, 0, 0) := by
  intro N
  induction N with
  | zero => intro x y j8 j9 hN; omega
  | succ N ih =>
    intro x y j8 j9 hN x0 x1 y0 y1 hp
    refine ev_lload rfl ?_
    refine ev_lconst ?_
    refine ev_lcmp ?_
    refine ev_ifeq f243_42 (fun c => ?_) (fun c => ?_)
    · have e : y = 0 := jcmpL_eq c
      subst e
      refine ev_lload rfl ?_
      refine ev_lconst ?_
      refine ev_lcmp ?_
      refine ev_ifne f243_53 (fun c2 => ?_) (fun c2 => ?_)
      · refine ev_lload rfl ?_
        refine ev_ret rfl (by decide) (by decide) ⟨?_, rfl⟩
        rw [show (0 : Int).toNat = 0 from rfl, Nat.gcd_zero_right, show ((x.toNat : Nat) : Int) = x by omega]
      · have e2 : x = 0 := jcmpL_neN c2
        omega
    · have e : y ≠ 0 := jcmpL_eqN c
      have yp : 0 < y := by omega
      have e1 : x.tmod y = x % y := jtm_e x0
      have r0 := Int.emod_nonneg x e
      have r1 := Int.emod_lt_of_pos x yp
      refine ev_lload rfl ?_
      refine ev_lload rfl ?_
      refine ev_lrem (r := x.tmod y) e rfl ?_
      refine ev_lstore (L' := [(1, a), (9, 0), (1, b), (9, 0), (1, x), (9, 0), (1, y), (9, 0), (1, x.tmod y), (9, 0)]) (Nat.le_of_ble_eq_true rfl) rfl ?_
      refine ev_lload rfl ?_
      refine ev_lstore (L' := [(1, a), (9, 0), (1, b), (9, 0), (1, y), (9, 0), (1, y), (9, 0), (1, x.tmod y), (9, 0)]) (Nat.le_of_ble_eq_true rfl) rfl ?_
      refine ev_lload rfl ?_
      refine ev_lstore (L' := [(1, a), (9, 0), (1, b), (9, 0), (1, y), (9, 0), (1, x.tmod y), (9, 0), (1, x.tmod y), (9, 0)]) (Nat.le_of_ble_eq_true rfl) rfl ?_
      refine ev_goto f243_17 ?_
      refine jev_mono (fun _ _ _ _ _ _ q => q) (fun v h' q => ?_) (ih y (x.tmod y) _ _ (by omega) (by omega) y1 (by omega) (by omega) (Or.inl yp))
      unfold gP at q ⊢
      rw [gcd_st x0 yp] at q
      exact q
theorem gabs {t : Int} : ((if t < 0 then -t else t) : Int).toNat = t.natAbs := by split <;> omega
theorem t243 {G : GH} {h : JH} (g : Gd G h) {a0 : Int} (l0 : -1000000000000 ≤ a0) (u0 : a0 ≤ 1000000000000) {a1 : Int} (l1 : 1 ≤ a1) (u1 : a1 ≤ 1000000000000) : jOk 1 0 0 243 [(1, a0), (1, a1)] h (fun v h' => v = some (1, ((Nat.gcd a0.natAbs a1.toNat : Nat) : Int)) ∧ h' = h) := by
  refine ⟨by decide, by rw [ml243]; exact Nat.le_of_ble_eq_true rfl, ?_⟩
  rw [ml243, pp243]
  show jEv _ none _ c243_0 0 0 _ (c243_0, [(1, a0), (9, 0), (1, a1), (9, 0), (9, 0), (9, 0), (9, 0), (9, 0), (9, 0), (9, 0)], [], h, 0, 0)
  refine ev_lload_n rfl ?_
  refine ev_lconst ?_
  refine ev_lcmp ?_
  have fin : ∀ x : Int, 0 ≤ x → x ≤ 1000000000000 → x.toNat = a0.natAbs → jEv (jOk 0) none (fun _ => 0) c243_0 0 0 (fun v h' => v = some (1, ((Nat.gcd a0.natAbs a1.toNat : Nat) : Int)) ∧ h' = h) (c243_12, [(1, a0), (9, 0), (1, a1), (9, 0), (9, 0), (9, 0), (9, 0), (9, 0), (9, 0), (9, 0)], [(1, x)], h, 0, 0) := by
    intro x x0 x1 hx
    refine ev_lstore (L' := [(1, a0), (9, 0), (1, a1), (9, 0), (1, x), (9, 0), (9, 0), (9, 0), (9, 0), (9, 0)]) (Nat.le_of_ble_eq_true rfl) rfl ?_
    refine ev_lload_n rfl ?_
    refine ev_lstore (L' := [(1, a0), (9, 0), (1, a1), (9, 0), (1, x), (9, 0), (1, a1), (9, 0), (9, 0), (9, 0)]) (Nat.le_of_ble_eq_true rfl) rfl ?_
    refine jev_mono (fun _ _ _ _ _ _ q => q) (fun v h' q => ?_) (gcz_l (a1.toNat + 1) x a1 _ _ (by omega) x0 (by omega) (by omega) (by omega) (Or.inr (by omega)))
    rw [← hx]
    exact q
  refine ev_ifge f243_11 (fun c => ?_) (fun c => ?_)
  · have cb : 0 ≤ a0 := jcmpL_ge c
    refine ev_lload_n rfl ?_
    exact fin a0 cb u0 (by omega)
  · have cb : a0 < 0 := jcmpL_geN c
    refine ev_lload_n rfl ?_
    refine ev_lneg (r := -a0) (by unfold w64; omega) ?_
    refine ev_goto f243_12 ?_
    exact fin (-a0) (by omega) (by omega) (by omega)
theorem fr_in {t b w M : Int} (t0 : -M ≤ t) (t1 : t ≤ M) (b0 : 1 ≤ b) (b1 : b ≤ M) : -M ≤ frF t b w ∧ frF t b w ≤ M := by
  unfold frF
  have gp : 0 < Nat.gcd t.natAbs b.toNat := Nat.gcd_pos_of_pos_right _ (by omega)
  have q : -M ≤ (if w = 0 then t else b) ∧ (if w = 0 then t else b) ≤ M := by split <;> omega
  generalize (if w = 0 then t else b) = x at q ⊢
  have d := jidiv_b (x := x) (y := ((Nat.gcd t.natAbs b.toNat : Nat) : Int)) (by omega)
  rcases Int.le_total 0 x with z | z
  · have := d.1 z; omega
  · have := d.2 z; omega
abbrev frP (G : GH) (h : JH) (a0 a1 a2 : Int) : Option AV → JH → Prop := fun v h' => ∃ r : Int, v = some (1, r) ∧ Gd G h' ∧ Kp [] h h' ∧ (-1000000000000) ≤ r ∧ r ≤ 1000000000000 ∧ r = frF a0 a1 a2
theorem t244 {G : GH} {h : JH} (g : Gd G h) {a0 : Int} (la0 : (-1000000000000) ≤ a0) (ua0 : a0 ≤ 1000000000000) {a1 : Int} (la1 : 1 ≤ a1) (ua1 : a1 ≤ 1000000000000) {a2 : Int} (la2 : (-2147483648) ≤ a2) (ua2 : a2 ≤ 2147483647) : jOk 2 0 0 244 [(1, a0), (1, a1), (0, a2)] h (frP G h a0 a1 a2) := by
  refine ⟨by decide, by rw [ml244]; exact Nat.le_of_ble_eq_true rfl, ?_⟩
  rw [ml244, pp244]
  show jEv _ none _ c244_0 0 0 _ (c244_0, [(1, a0), (9, 0), (1, a1), (9, 0), (0, a2), (9, 0), (9, 0)], [], h, 0, 0)
  refine ev_lload_n rfl ?_
  refine ev_lload_n rfl ?_
  refine ev_call (jcall_s (A := [(1, a1), (1, a0)]) (S' := []) (by decide) rfl (Nat.le_of_ble_eq_true rfl)) (jOk_le (by decide) (t243 g la0 ua0 la1 ua1)) (by decide) (by decide) (fun w1 h1 q1 => ?_)
  obtain ⟨rfl, eh⟩ := q1
  rw [eh]
  have fb := fr_in (w := a2) (M := 1000000000000) la0 ua0 la1 ua1
  have gp : (0 : Int) < ((Nat.gcd a0.natAbs a1.toNat : Nat) : Int) := by
    have := Nat.gcd_pos_of_pos_right a0.natAbs (show 0 < a1.toNat by omega)
    omega
  have fe : frF a0 a1 a2 = (if a2 = 0 then a0 else a1).tdiv ((Nat.gcd a0.natAbs a1.toNat : Nat) : Int) := rfl
  generalize ((Nat.gcd a0.natAbs a1.toNat : Nat) : Int) = d at gp fe ⊢
  show jEv _ _ _ _ _ _ _ (_, _, [(1, d)], _, _, _)
  refine ev_lstore (L' := [(1, a0), (9, 0), (1, a1), (9, 0), (0, a2), (1, d), (9, 0)]) (Nat.le_of_ble_eq_true rfl) rfl ?_
  refine ev_iload rfl ?_
  refine ev_ifne f244_19 (fun c => ?_) (fun c => ?_)
  · rw [if_neg c] at fe
    refine ev_lload_n rfl ?_
    refine ev_lload rfl ?_
    refine ev_ldiv (r := a1.tdiv d) (by omega) (by rw [← fe]; exact jw64_id (by omega) (by omega)) ?_
    exact ev_ret rfl (by decide) (by decide) ⟨_, rfl, g, Kp.rf _ _, by omega, by omega, fe.symm⟩
  · rw [if_pos (by omega)] at fe
    refine ev_lload_n rfl ?_
    refine ev_lload rfl ?_
    refine ev_ldiv (r := a0.tdiv d) (by omega) (by rw [← fe]; exact jw64_id (by omega) (by omega)) ?_
    refine ev_goto f244_23 ?_
    exact ev_ret rfl (by decide) (by decide) ⟨_, rfl, g, Kp.rf _ _, by omega, by omega, fe.symm⟩
theorem t223 {G : GH} {h : JH} (g : Gd G h) {a0 : Int} (la0 : (-1000000000000) ≤ a0) (ua0 : a0 ≤ 1000000000000) {a1 : Int} (la1 : 1 ≤ a1) (ua1 : a1 ≤ 1000000000000) {a2 : Int} (la2 : (-2147483648) ≤ a2) (ua2 : a2 ≤ 2147483647) : jOk 2 0 0 223 [(1, a0), (1, a1), (0, a2)] h (frP G h a0 a1 a2) := by
  refine ⟨by decide, by rw [ml223]; exact Nat.le_of_ble_eq_true rfl, ?_⟩
  rw [ml223, pp223]
  show jEv _ none _ c223_0 0 0 _ (c223_0, [(1, a0), (9, 0), (1, a1), (9, 0), (0, a2), (9, 0), (9, 0), (9, 0), (9, 0)], [], h, 0, 0)
  have fb := fr_in (w := a2) (M := 1000000000000) la0 ua0 la1 ua1
  have fin : ∀ x : Int, 0 ≤ x → x ≤ 1000000000000 → x.toNat = a0.natAbs → jEv (jOk 1) none (fun _ => 0) c223_0 0 0 (frP G h a0 a1 a2) (c223_12, [(1, a0), (9, 0), (1, a1), (9, 0), (0, a2), (9, 0), (9, 0), (9, 0), (9, 0)], [(1, x)], h, 0, 0) := by
    intro x x0 x1 hx
    refine ev_lload_n rfl ?_
    refine ev_call (jcall_s (A := [(1, a1), (1, x)]) (S' := []) (by decide) rfl (Nat.le_of_ble_eq_true rfl)) (t224 g x0 (by omega) la1 (by omega)) (by decide) (by decide) (fun w1 h1 q1 => ?_)
    obtain ⟨d, rfl, g1, k1, d0, d1, ed⟩ := q1
    rw [hx] at ed
    have fe : frF a0 a1 a2 = (if a2 = 0 then a0 else a1).tdiv d := by rw [ed]; rfl
    show jEv _ _ _ _ _ _ _ (_, _, [(1, d)], _, _, _)
    refine ev_lstore (L' := [(1, a0), (9, 0), (1, a1), (9, 0), (0, a2), (1, d), (9, 0), (9, 0), (9, 0)]) (Nat.le_of_ble_eq_true rfl) rfl ?_
    refine ev_iload rfl ?_
    have last : ∀ p : Int, frF a0 a1 a2 = p.tdiv d → jEv (jOk 1) none (fun _ => 0) c223_0 0 0 (frP G h a0 a1 a2) (c223_28, [(1, a0), (9, 0), (1, a1), (9, 0), (0, a2), (1, d), (9, 0), (9, 0), (9, 0)], [(1, p)], h1, 0, 0) := by
      intro p ep
      refine ev_lstore (L' := [(1, a0), (9, 0), (1, a1), (9, 0), (0, a2), (1, d), (9, 0), (1, p), (9, 0)]) (Nat.le_of_ble_eq_true rfl) rfl ?_
      refine ev_lload rfl ?_
      refine ev_lconst ?_
      refine ev_lcmp ?_
      refine ev_ifgt f223_42 (fun c => ?_) (fun c => ?_)
      · refine ev_lload rfl ?_
        refine ev_lload rfl ?_
        refine ev_ldiv (r := p.tdiv d) (by omega) (by rw [← ep]; exact jw64_id (by omega) (by omega)) ?_
        exact ev_ret rfl (by decide) (by decide) ⟨_, rfl, g1, k1, by omega, by omega, ep.symm⟩
      · have cb : d ≤ 1 := jcmpL_gtN c
        have e1 : d = 1 := by omega
        subst e1
        rw [Int.tdiv_one] at ep
        refine ev_lload rfl ?_
        refine ev_goto f223_47 ?_
        exact ev_ret rfl (by decide) (by decide) ⟨_, rfl, g1, k1, by omega, by omega, ep.symm⟩
    refine ev_ifne f223_27 (fun c => ?_) (fun c => ?_)
    · rw [if_neg c] at fe
      refine ev_lload_n rfl ?_
      exact last a1 fe
    · rw [if_pos (by omega)] at fe
      refine ev_lload_n rfl ?_
      refine ev_goto f223_28 ?_
      exact last a0 fe
  refine ev_lload_n rfl ?_
  refine ev_lconst ?_
  refine ev_lcmp ?_
  refine ev_ifge f223_11 (fun c => ?_) (fun c => ?_)
  · have cb : 0 ≤ a0 := jcmpL_ge c
    refine ev_lload_n rfl ?_
    exact fin a0 cb ua0 (by omega)
  · have cb : a0 < 0 := jcmpL_geN c
    refine ev_lload_n rfl ?_
    refine ev_lneg (r := -a0) (by unfold w64; omega) ?_
    refine ev_goto f223_12 ?_
    exact fin (-a0) (by omega) (by omega) (by omega)
theorem mul_ab {x y : Int} {A B : Nat} (hx : x.natAbs ≤ A) (hy : y.natAbs ≤ B) : -((A * B : Nat) : Int) ≤ x * y ∧ x * y ≤ ((A * B : Nat) : Int) := by
  have e := Int.natAbs_mul x y
  have m := Nat.mul_le_mul hx hy
  rw [← e] at m
  omega
def lsF (a b : Int) : Int := if a < b then a else b
def grF (a b : Int) : Int := if b < a then a else b
def lowF (a b c d : Int) : Int := grF (lsF a b) (lsF c d)
def hiF (a b c d : Int) : Int := lsF (grF a c) (grF b d)
def stF (a b c d : Int) : Int := if lowF a b c d = hiF a b c d ∨ a + d - b - c = 0 then 1 else 0
def tpF (a b c d : Int) : Int := if stF a b c d = 1 then lowF a b c d else a * d - b * c
def btF (a b c d : Int) : Int := if stF a b c d = 1 then 1 else a + d - b - c
def duF (R C a a' b b' c c' d d' : Int) : Int := if R = 2 ∧ C = 2 ∧ a = -a' ∧ b = -b' ∧ c = -c' ∧ d = -d' then 1 else 0
def lqF (a b c d w : Int) : Int := if lowF a b c d = hiF a b c d then frF (lowF a b c d) 1 w else if 0 < a + d - b - c then frF (a * d - b * c) (a + d - b - c) w else frF (-(a * d - b * c)) (-(a + d - b - c)) w
def ltF (w R C a a' b b' c c' d d' : Int) : Int := if 0 ≤ w ∧ w ≤ 1 then (if duF R C a a' b b' c c' d d' = 1 then lqF a b c d w else -5) else -2000000000
theorem low_ne {a b c d : Int} (h : lowF a b c d ≠ hiF a b c d) : a + d - b - c ≠ 0 := by
  unfold lowF hiF grF lsF at h
  intro e
  apply h
  (repeat' split) <;> omega
theorem low_b {a b c d M : Int} (ha : -M ≤ a ∧ a ≤ M) (hb : -M ≤ b ∧ b ≤ M) (hc : -M ≤ c ∧ c ≤ M) (hd : -M ≤ d ∧ d ≤ M) : -M ≤ lowF a b c d ∧ lowF a b c d ≤ M := by
  unfold lowF grF lsF
  (repeat' split) <;> omega
theorem lt_pos {a b c d v2 v3 w : Int} (e2 : v2 = tpF a b c d) (e3 : v3 = btF a b c d) (hn : 0 ≤ v3) : frF v2 v3 w = lqF a b c d w := by
  unfold lqF
  unfold tpF stF at e2
  unfold btF stF at e3
  by_cases z : lowF a b c d = hiF a b c d
  · rw [if_pos (Or.inl z), if_pos rfl] at e2 e3
    rw [if_pos z, e2, e3]
  · have nz := low_ne z
    rw [if_neg (show ¬ (lowF a b c d = hiF a b c d ∨ a + d - b - c = 0) by omega), if_neg (by decide)] at e2 e3
    rw [if_neg z, if_pos (by omega), e2, e3]
theorem lt_neg {a b c d v2 v3 w : Int} (e2 : v2 = tpF a b c d) (e3 : v3 = btF a b c d) (hn : v3 < 0) : frF (-v2) (-v3) w = lqF a b c d w := by
  unfold lqF
  unfold tpF stF at e2
  unfold btF stF at e3
  by_cases z : lowF a b c d = hiF a b c d
  · rw [if_pos (Or.inl z), if_pos rfl] at e3
    omega
  · have nz := low_ne z
    rw [if_neg (show ¬ (lowF a b c d = hiF a b c d ∨ a + d - b - c = 0) by omega), if_neg (by decide)] at e2 e3
    rw [if_neg z, if_neg (by omega), e2, e3]
theorem bt_ne {a b c d : Int} : btF a b c d ≠ 0 := by
  unfold btF stF
  by_cases z : lowF a b c d = hiF a b c d
  · rw [if_pos (Or.inl z), if_pos rfl]; decide
  · have nz := low_ne z
    rw [if_neg (show ¬ (lowF a b c d = hiF a b c d ∨ a + d - b - c = 0) by omega), if_neg (by decide)]
    exact nz
set_option maxHeartbeats 4000000 in
theorem t110 {G : GH} {h : JH} (g : Gd G h) {w0 : Int} (ew0 : h.2.2 26 0 = w0) (lw0 : 0 ≤ w0) (uw0 : w0 ≤ 4) {w1 : Int} (ew1 : h.2.2 26 1 = w1) (lw1 : 0 ≤ w1) (uw1 : w1 ≤ 4) {w2 : Int} (ew2 : h.2.2 27 0 = w2) (lw2 : (-99) ≤ w2) (uw2 : w2 ≤ 99) {w3 : Int} (ew3 : h.2.2 27 1 = w3) (lw3 : (-99) ≤ w3) (uw3 : w3 ≤ 99) {w4 : Int} (ew4 : h.2.2 27 2 = w4) (lw4 : (-99) ≤ w4) (uw4 : w4 ≤ 99) {w5 : Int} (ew5 : h.2.2 27 3 = w5) (lw5 : (-99) ≤ w5) (uw5 : w5 ≤ 99) {w6 : Int} (ew6 : h.2.2 27 8 = w6) (lw6 : (-99) ≤ w6) (uw6 : w6 ≤ 99) {w7 : Int} (ew7 : h.2.2 27 9 = w7) (lw7 : (-99) ≤ w7) (uw7 : w7 ≤ 99) {w8 : Int} (ew8 : h.2.2 27 10 = w8) (lw8 : (-99) ≤ w8) (uw8 : w8 ≤ 99) {w9 : Int} (ew9 : h.2.2 27 11 = w9) (lw9 : (-99) ≤ w9) (uw9 : w9 ≤ 99) : jOk 2 0 0 110 [(2, 26)] h (fun v h' => ∃ r : Int, v = some (0, r) ∧ Gd G h' ∧ Kp [] h h' ∧ 0 ≤ r ∧ r ≤ 1 ∧ r = duF w0 w1 w2 w3 w4 w5 w6 w7 w8 w9) := by
  refine ⟨by decide, by rw [ml110]; exact Nat.le_of_ble_eq_true rfl, ?_⟩
  rw [ml110, pp110]
  show jEv _ none _ c110_0 0 0 _ (c110_0, [(2, 26), (9, 0), (9, 0)], [], h, 0, 0)
  have k0 := Kp.rf [] h
  refine ev_aload_n rfl ?_
  refine g_getv (r := 26) (v := w0) g ad26 (by decide) ft9_0 (ew0) ?_
  refine ev_iconst ?_
  refine ev_icmpne f110_20 (fun c75424 => ?_) (fun c75424 => ?_)
  · refine ev_iconst ?_
    refine ev_istore_n (L' := [(2, 26), (0, 0), (9, 0)]) (Nat.le_of_ble_eq_true rfl) rfl ?_
    refine ev_iconst ?_
    refine ev_istore_n (L' := [(2, 26), (0, 0), (0, 0)]) (Nat.le_of_ble_eq_true rfl) rfl ?_
    refine ev_iload_n rfl ?_
    refine ev_iconst ?_
    refine ev_icmpge f110_71 (fun c75425 => absurd c75425 (by omega)) (fun c75425 => ?_)
    refine ev_iload_n rfl ?_
    refine ev_ifeq f110_71 (fun c75426 => ?_) (fun c75426 => absurd c75426 (by omega))
    refine ev_iload_n rfl ?_
    exact ev_ret rfl (by decide) (by decide) ⟨_, rfl, g, k0, by omega, by omega, by unfold duF; (repeat' split) <;> omega⟩
  · refine ev_aload_n rfl ?_
    refine g_getv (r := 26) (v := w1) g ad26 (by decide) ft9_1 (ew1) ?_
    refine ev_iconst ?_
    refine ev_icmpne f110_20 (fun c75427 => ?_) (fun c75427 => ?_)
    · refine ev_iconst ?_
      refine ev_istore_n (L' := [(2, 26), (0, 0), (9, 0)]) (Nat.le_of_ble_eq_true rfl) rfl ?_
      refine ev_iconst ?_
      refine ev_istore_n (L' := [(2, 26), (0, 0), (0, 0)]) (Nat.le_of_ble_eq_true rfl) rfl ?_
      refine ev_iload_n rfl ?_
      refine ev_iconst ?_
      refine ev_icmpge f110_71 (fun c75428 => absurd c75428 (by omega)) (fun c75428 => ?_)
      refine ev_iload_n rfl ?_
      refine ev_ifeq f110_71 (fun c75429 => ?_) (fun c75429 => absurd c75429 (by omega))
      refine ev_iload_n rfl ?_
      exact ev_ret rfl (by decide) (by decide) ⟨_, rfl, g, k0, by omega, by omega, by unfold duF; (repeat' split) <;> omega⟩
    · refine ev_iconst ?_
      refine ev_goto f110_21 ?_
      refine ev_istore_n (L' := [(2, 26), (0, 1), (9, 0)]) (Nat.le_of_ble_eq_true rfl) rfl ?_
      refine ev_iconst ?_
      refine ev_istore_n (L' := [(2, 26), (0, 1), (0, 0)]) (Nat.le_of_ble_eq_true rfl) rfl ?_
      refine ev_iload_n rfl ?_
      refine ev_iconst ?_
      refine ev_icmpge f110_71 (fun c75430 => absurd c75430 (by omega)) (fun c75430 => ?_)
      refine ev_iload_n rfl ?_
      refine ev_ifeq f110_71 (fun c75431 => absurd c75431 (by omega)) (fun c75431 => ?_)
      refine ev_aload_n rfl ?_
      refine ev_iload_n rfl ?_
      refine ev_iconst ?_
      refine ev_idiv (r := 0) (by decide) (by decide) ?_
      refine ev_iload_n rfl ?_
      refine ev_iconst ?_
      refine ev_irem (r := 0) (by decide) (by decide) ?_
      refine ev_iconst ?_
      refine ev_in (d := 0) (a := 0) (b := 0) (cd' := c106_0) (m := 4) (L0 := [(2, 26), (0, 0), (0, 0), (0, 0)]) (jcall_v (A := [(0, 0), (0, 0), (0, 0)]) (S' := []) (r := 26) rfl (g.lt ad26) (g.tg ad26) (Nat.le_of_ble_eq_true rfl)) (by decide) ml106 pp106 (Nat.le_of_ble_eq_true rfl) rfl (by decide) (by decide) ?_
      refine ev_aload_n rfl ?_
      refine g_getp (r := 26) (c := 27) g ad26 (by decide) (by decide) rf26_2 ft9_2 ?_
      refine ev_bipush ?_
      refine ev_iload_n rfl ?_
      refine ev_imul (r := 0) (by decide) ?_
      refine ev_iconst ?_
      refine ev_iload_n rfl ?_
      refine ev_imul (r := 0) (by decide) ?_
      refine ev_iadd (r := 0) (by decide) ?_
      refine ev_iload_n rfl ?_
      refine ev_iadd (r := 0) (by decide) ?_
      refine g_ialdv (v := w2) g ad27 (by omega) (by omega) (ew2) ?_
      refine ev_ret rfl (by decide) (by decide) ?_
      show jEv _ _ _ _ _ _ _ (_, [(2, 26), (0, 1), (0, 0)], [(0, w2)], _, _, _)
      refine ev_aload_n rfl ?_
      refine ev_iload_n rfl ?_
      refine ev_iconst ?_
      refine ev_idiv (r := 0) (by decide) (by decide) ?_
      refine ev_iload_n rfl ?_
      refine ev_iconst ?_
      refine ev_irem (r := 0) (by decide) (by decide) ?_
      refine ev_iconst ?_
      refine ev_in (d := 0) (a := 0) (b := 0) (cd' := c106_0) (m := 4) (L0 := [(2, 26), (0, 0), (0, 0), (0, 1)]) (jcall_v (A := [(0, 1), (0, 0), (0, 0)]) (S' := [(0, w2)]) (r := 26) rfl (g.lt ad26) (g.tg ad26) (Nat.le_of_ble_eq_true rfl)) (by decide) ml106 pp106 (Nat.le_of_ble_eq_true rfl) rfl (by decide) (by decide) ?_
      refine ev_aload_n rfl ?_
      refine g_getp (r := 26) (c := 27) g ad26 (by decide) (by decide) rf26_2 ft9_2 ?_
      refine ev_bipush ?_
      refine ev_iload_n rfl ?_
      refine ev_imul (r := 0) (by decide) ?_
      refine ev_iconst ?_
      refine ev_iload_n rfl ?_
      refine ev_imul (r := 0) (by decide) ?_
      refine ev_iadd (r := 0) (by decide) ?_
      refine ev_iload_n rfl ?_
      refine ev_iadd (r := 1) (by decide) ?_
      refine g_ialdv (v := w3) g ad27 (by omega) (by omega) (ew3) ?_
      refine ev_ret rfl (by decide) (by decide) ?_
      show jEv _ _ _ _ _ _ _ (_, [(2, 26), (0, 1), (0, 0)], [(0, w3), (0, w2)], _, _, _)
      refine ev_ineg (r := ((-w3))) (by unfold w32; omega) ?_
      refine ev_icmpne f110_63 (fun c75432 => ?_) (fun c75432 => ?_)
      · refine ev_iconst ?_
        refine ev_istore_n (L' := [(2, 26), (0, 0), (0, 0)]) (Nat.le_of_ble_eq_true rfl) rfl ?_
        refine ev_iinc (w := 1) (L' := [(2, 26), (0, 0), (0, 1)]) rfl (by decide) rfl ?_
        refine ev_goto f110_24 ?_
        refine ev_iload_n rfl ?_
        refine ev_iconst ?_
        refine ev_icmpge f110_71 (fun c75433 => absurd c75433 (by omega)) (fun c75433 => ?_)
        refine ev_iload_n rfl ?_
        refine ev_ifeq f110_71 (fun c75434 => ?_) (fun c75434 => absurd c75434 (by omega))
        refine ev_iload_n rfl ?_
        exact ev_ret rfl (by decide) (by decide) ⟨_, rfl, g, k0, by omega, by omega, by unfold duF; (repeat' split) <;> omega⟩
      · refine ev_iconst ?_
        refine ev_goto f110_64 ?_
        refine ev_istore_n (L' := [(2, 26), (0, 1), (0, 0)]) (Nat.le_of_ble_eq_true rfl) rfl ?_
        refine ev_iinc (w := 1) (L' := [(2, 26), (0, 1), (0, 1)]) rfl (by decide) rfl ?_
        refine ev_goto f110_24 ?_
        refine ev_iload_n rfl ?_
        refine ev_iconst ?_
        refine ev_icmpge f110_71 (fun c75435 => absurd c75435 (by omega)) (fun c75435 => ?_)
        refine ev_iload_n rfl ?_
        refine ev_ifeq f110_71 (fun c75436 => absurd c75436 (by omega)) (fun c75436 => ?_)
        refine ev_aload_n rfl ?_
        refine ev_iload_n rfl ?_
        refine ev_iconst ?_
        refine ev_idiv (r := 0) (by decide) (by decide) ?_
        refine ev_iload_n rfl ?_
        refine ev_iconst ?_
        refine ev_irem (r := 1) (by decide) (by decide) ?_
        refine ev_iconst ?_
        refine ev_in (d := 0) (a := 0) (b := 0) (cd' := c106_0) (m := 4) (L0 := [(2, 26), (0, 0), (0, 1), (0, 0)]) (jcall_v (A := [(0, 0), (0, 1), (0, 0)]) (S' := []) (r := 26) rfl (g.lt ad26) (g.tg ad26) (Nat.le_of_ble_eq_true rfl)) (by decide) ml106 pp106 (Nat.le_of_ble_eq_true rfl) rfl (by decide) (by decide) ?_
        refine ev_aload_n rfl ?_
        refine g_getp (r := 26) (c := 27) g ad26 (by decide) (by decide) rf26_2 ft9_2 ?_
        refine ev_bipush ?_
        refine ev_iload_n rfl ?_
        refine ev_imul (r := 0) (by decide) ?_
        refine ev_iconst ?_
        refine ev_iload_n rfl ?_
        refine ev_imul (r := 2) (by decide) ?_
        refine ev_iadd (r := 2) (by decide) ?_
        refine ev_iload_n rfl ?_
        refine ev_iadd (r := 2) (by decide) ?_
        refine g_ialdv (v := w4) g ad27 (by omega) (by omega) (ew4) ?_
        refine ev_ret rfl (by decide) (by decide) ?_
        show jEv _ _ _ _ _ _ _ (_, [(2, 26), (0, 1), (0, 1)], [(0, w4)], _, _, _)
        refine ev_aload_n rfl ?_
        refine ev_iload_n rfl ?_
        refine ev_iconst ?_
        refine ev_idiv (r := 0) (by decide) (by decide) ?_
        refine ev_iload_n rfl ?_
        refine ev_iconst ?_
        refine ev_irem (r := 1) (by decide) (by decide) ?_
        refine ev_iconst ?_
        refine ev_in (d := 0) (a := 0) (b := 0) (cd' := c106_0) (m := 4) (L0 := [(2, 26), (0, 0), (0, 1), (0, 1)]) (jcall_v (A := [(0, 1), (0, 1), (0, 0)]) (S' := [(0, w4)]) (r := 26) rfl (g.lt ad26) (g.tg ad26) (Nat.le_of_ble_eq_true rfl)) (by decide) ml106 pp106 (Nat.le_of_ble_eq_true rfl) rfl (by decide) (by decide) ?_
        refine ev_aload_n rfl ?_
        refine g_getp (r := 26) (c := 27) g ad26 (by decide) (by decide) rf26_2 ft9_2 ?_
        refine ev_bipush ?_
        refine ev_iload_n rfl ?_
        refine ev_imul (r := 0) (by decide) ?_
        refine ev_iconst ?_
        refine ev_iload_n rfl ?_
        refine ev_imul (r := 2) (by decide) ?_
        refine ev_iadd (r := 2) (by decide) ?_
        refine ev_iload_n rfl ?_
        refine ev_iadd (r := 3) (by decide) ?_
        refine g_ialdv (v := w5) g ad27 (by omega) (by omega) (ew5) ?_
        refine ev_ret rfl (by decide) (by decide) ?_
        show jEv _ _ _ _ _ _ _ (_, [(2, 26), (0, 1), (0, 1)], [(0, w5), (0, w4)], _, _, _)
        refine ev_ineg (r := ((-w5))) (by unfold w32; omega) ?_
        refine ev_icmpne f110_63 (fun c75437 => ?_) (fun c75437 => ?_)
        · refine ev_iconst ?_
          refine ev_istore_n (L' := [(2, 26), (0, 0), (0, 1)]) (Nat.le_of_ble_eq_true rfl) rfl ?_
          refine ev_iinc (w := 2) (L' := [(2, 26), (0, 0), (0, 2)]) rfl (by decide) rfl ?_
          refine ev_goto f110_24 ?_
          refine ev_iload_n rfl ?_
          refine ev_iconst ?_
          refine ev_icmpge f110_71 (fun c75438 => absurd c75438 (by omega)) (fun c75438 => ?_)
          refine ev_iload_n rfl ?_
          refine ev_ifeq f110_71 (fun c75439 => ?_) (fun c75439 => absurd c75439 (by omega))
          refine ev_iload_n rfl ?_
          exact ev_ret rfl (by decide) (by decide) ⟨_, rfl, g, k0, by omega, by omega, by unfold duF; (repeat' split) <;> omega⟩
        · refine ev_iconst ?_
          refine ev_goto f110_64 ?_
          refine ev_istore_n (L' := [(2, 26), (0, 1), (0, 1)]) (Nat.le_of_ble_eq_true rfl) rfl ?_
          refine ev_iinc (w := 2) (L' := [(2, 26), (0, 1), (0, 2)]) rfl (by decide) rfl ?_
          refine ev_goto f110_24 ?_
          refine ev_iload_n rfl ?_
          refine ev_iconst ?_
          refine ev_icmpge f110_71 (fun c75440 => absurd c75440 (by omega)) (fun c75440 => ?_)
          refine ev_iload_n rfl ?_
          refine ev_ifeq f110_71 (fun c75441 => absurd c75441 (by omega)) (fun c75441 => ?_)
          refine ev_aload_n rfl ?_
          refine ev_iload_n rfl ?_
          refine ev_iconst ?_
          refine ev_idiv (r := 1) (by decide) (by decide) ?_
          refine ev_iload_n rfl ?_
          refine ev_iconst ?_
          refine ev_irem (r := 0) (by decide) (by decide) ?_
          refine ev_iconst ?_
          refine ev_in (d := 0) (a := 0) (b := 0) (cd' := c106_0) (m := 4) (L0 := [(2, 26), (0, 1), (0, 0), (0, 0)]) (jcall_v (A := [(0, 0), (0, 0), (0, 1)]) (S' := []) (r := 26) rfl (g.lt ad26) (g.tg ad26) (Nat.le_of_ble_eq_true rfl)) (by decide) ml106 pp106 (Nat.le_of_ble_eq_true rfl) rfl (by decide) (by decide) ?_
          refine ev_aload_n rfl ?_
          refine g_getp (r := 26) (c := 27) g ad26 (by decide) (by decide) rf26_2 ft9_2 ?_
          refine ev_bipush ?_
          refine ev_iload_n rfl ?_
          refine ev_imul (r := 8) (by decide) ?_
          refine ev_iconst ?_
          refine ev_iload_n rfl ?_
          refine ev_imul (r := 0) (by decide) ?_
          refine ev_iadd (r := 8) (by decide) ?_
          refine ev_iload_n rfl ?_
          refine ev_iadd (r := 8) (by decide) ?_
          refine g_ialdv (v := w6) g ad27 (by omega) (by omega) (ew6) ?_
          refine ev_ret rfl (by decide) (by decide) ?_
          show jEv _ _ _ _ _ _ _ (_, [(2, 26), (0, 1), (0, 2)], [(0, w6)], _, _, _)
          refine ev_aload_n rfl ?_
          refine ev_iload_n rfl ?_
          refine ev_iconst ?_
          refine ev_idiv (r := 1) (by decide) (by decide) ?_
          refine ev_iload_n rfl ?_
          refine ev_iconst ?_
          refine ev_irem (r := 0) (by decide) (by decide) ?_
          refine ev_iconst ?_
          refine ev_in (d := 0) (a := 0) (b := 0) (cd' := c106_0) (m := 4) (L0 := [(2, 26), (0, 1), (0, 0), (0, 1)]) (jcall_v (A := [(0, 1), (0, 0), (0, 1)]) (S' := [(0, w6)]) (r := 26) rfl (g.lt ad26) (g.tg ad26) (Nat.le_of_ble_eq_true rfl)) (by decide) ml106 pp106 (Nat.le_of_ble_eq_true rfl) rfl (by decide) (by decide) ?_
          refine ev_aload_n rfl ?_
          refine g_getp (r := 26) (c := 27) g ad26 (by decide) (by decide) rf26_2 ft9_2 ?_
          refine ev_bipush ?_
          refine ev_iload_n rfl ?_
          refine ev_imul (r := 8) (by decide) ?_
          refine ev_iconst ?_
          refine ev_iload_n rfl ?_
          refine ev_imul (r := 0) (by decide) ?_
          refine ev_iadd (r := 8) (by decide) ?_
          refine ev_iload_n rfl ?_
          refine ev_iadd (r := 9) (by decide) ?_
          refine g_ialdv (v := w7) g ad27 (by omega) (by omega) (ew7) ?_
          refine ev_ret rfl (by decide) (by decide) ?_
          show jEv _ _ _ _ _ _ _ (_, [(2, 26), (0, 1), (0, 2)], [(0, w7), (0, w6)], _, _, _)
          refine ev_ineg (r := ((-w7))) (by unfold w32; omega) ?_
          refine ev_icmpne f110_63 (fun c75442 => ?_) (fun c75442 => ?_)
          · refine ev_iconst ?_
            refine ev_istore_n (L' := [(2, 26), (0, 0), (0, 2)]) (Nat.le_of_ble_eq_true rfl) rfl ?_
            refine ev_iinc (w := 3) (L' := [(2, 26), (0, 0), (0, 3)]) rfl (by decide) rfl ?_
            refine ev_goto f110_24 ?_
            refine ev_iload_n rfl ?_
            refine ev_iconst ?_
            refine ev_icmpge f110_71 (fun c75443 => absurd c75443 (by omega)) (fun c75443 => ?_)
            refine ev_iload_n rfl ?_
            refine ev_ifeq f110_71 (fun c75444 => ?_) (fun c75444 => absurd c75444 (by omega))
            refine ev_iload_n rfl ?_
            exact ev_ret rfl (by decide) (by decide) ⟨_, rfl, g, k0, by omega, by omega, by unfold duF; (repeat' split) <;> omega⟩
          · refine ev_iconst ?_
            refine ev_goto f110_64 ?_
            refine ev_istore_n (L' := [(2, 26), (0, 1), (0, 2)]) (Nat.le_of_ble_eq_true rfl) rfl ?_
            refine ev_iinc (w := 3) (L' := [(2, 26), (0, 1), (0, 3)]) rfl (by decide) rfl ?_
            refine ev_goto f110_24 ?_
            refine ev_iload_n rfl ?_
            refine ev_iconst ?_
            refine ev_icmpge f110_71 (fun c75445 => absurd c75445 (by omega)) (fun c75445 => ?_)
            refine ev_iload_n rfl ?_
            refine ev_ifeq f110_71 (fun c75446 => absurd c75446 (by omega)) (fun c75446 => ?_)
            refine ev_aload_n rfl ?_
            refine ev_iload_n rfl ?_
            refine ev_iconst ?_
            refine ev_idiv (r := 1) (by decide) (by decide) ?_
            refine ev_iload_n rfl ?_
            refine ev_iconst ?_
            refine ev_irem (r := 1) (by decide) (by decide) ?_
            refine ev_iconst ?_
            refine ev_in (d := 0) (a := 0) (b := 0) (cd' := c106_0) (m := 4) (L0 := [(2, 26), (0, 1), (0, 1), (0, 0)]) (jcall_v (A := [(0, 0), (0, 1), (0, 1)]) (S' := []) (r := 26) rfl (g.lt ad26) (g.tg ad26) (Nat.le_of_ble_eq_true rfl)) (by decide) ml106 pp106 (Nat.le_of_ble_eq_true rfl) rfl (by decide) (by decide) ?_
            refine ev_aload_n rfl ?_
            refine g_getp (r := 26) (c := 27) g ad26 (by decide) (by decide) rf26_2 ft9_2 ?_
            refine ev_bipush ?_
            refine ev_iload_n rfl ?_
            refine ev_imul (r := 8) (by decide) ?_
            refine ev_iconst ?_
            refine ev_iload_n rfl ?_
            refine ev_imul (r := 2) (by decide) ?_
            refine ev_iadd (r := 10) (by decide) ?_
            refine ev_iload_n rfl ?_
            refine ev_iadd (r := 10) (by decide) ?_
            refine g_ialdv (v := w8) g ad27 (by omega) (by omega) (ew8) ?_
            refine ev_ret rfl (by decide) (by decide) ?_
            show jEv _ _ _ _ _ _ _ (_, [(2, 26), (0, 1), (0, 3)], [(0, w8)], _, _, _)
            refine ev_aload_n rfl ?_
            refine ev_iload_n rfl ?_
            refine ev_iconst ?_
            refine ev_idiv (r := 1) (by decide) (by decide) ?_
            refine ev_iload_n rfl ?_
            refine ev_iconst ?_
            refine ev_irem (r := 1) (by decide) (by decide) ?_
            refine ev_iconst ?_
            refine ev_in (d := 0) (a := 0) (b := 0) (cd' := c106_0) (m := 4) (L0 := [(2, 26), (0, 1), (0, 1), (0, 1)]) (jcall_v (A := [(0, 1), (0, 1), (0, 1)]) (S' := [(0, w8)]) (r := 26) rfl (g.lt ad26) (g.tg ad26) (Nat.le_of_ble_eq_true rfl)) (by decide) ml106 pp106 (Nat.le_of_ble_eq_true rfl) rfl (by decide) (by decide) ?_
            refine ev_aload_n rfl ?_
            refine g_getp (r := 26) (c := 27) g ad26 (by decide) (by decide) rf26_2 ft9_2 ?_
            refine ev_bipush ?_
            refine ev_iload_n rfl ?_
            refine ev_imul (r := 8) (by decide) ?_
            refine ev_iconst ?_
            refine ev_iload_n rfl ?_
            refine ev_imul (r := 2) (by decide) ?_
            refine ev_iadd (r := 10) (by decide) ?_
            refine ev_iload_n rfl ?_
            refine ev_iadd (r := 11) (by decide) ?_
            refine g_ialdv (v := w9) g ad27 (by omega) (by omega) (ew9) ?_
            refine ev_ret rfl (by decide) (by decide) ?_
            show jEv _ _ _ _ _ _ _ (_, [(2, 26), (0, 1), (0, 3)], [(0, w9), (0, w8)], _, _, _)
            refine ev_ineg (r := ((-w9))) (by unfold w32; omega) ?_
            refine ev_icmpne f110_63 (fun c75447 => ?_) (fun c75447 => ?_)
            · refine ev_iconst ?_
              refine ev_istore_n (L' := [(2, 26), (0, 0), (0, 3)]) (Nat.le_of_ble_eq_true rfl) rfl ?_
              refine ev_iinc (w := 4) (L' := [(2, 26), (0, 0), (0, 4)]) rfl (by decide) rfl ?_
              refine ev_goto f110_24 ?_
              refine ev_iload_n rfl ?_
              refine ev_iconst ?_
              refine ev_icmpge f110_71 (fun c75448 => ?_) (fun c75448 => absurd c75448 (by omega))
              refine ev_iload_n rfl ?_
              exact ev_ret rfl (by decide) (by decide) ⟨_, rfl, g, k0, by omega, by omega, by unfold duF; (repeat' split) <;> omega⟩
            · refine ev_iconst ?_
              refine ev_goto f110_64 ?_
              refine ev_istore_n (L' := [(2, 26), (0, 1), (0, 3)]) (Nat.le_of_ble_eq_true rfl) rfl ?_
              refine ev_iinc (w := 4) (L' := [(2, 26), (0, 1), (0, 4)]) rfl (by decide) rfl ?_
              refine ev_goto f110_24 ?_
              refine ev_iload_n rfl ?_
              refine ev_iconst ?_
              refine ev_icmpge f110_71 (fun c75449 => ?_) (fun c75449 => absurd c75449 (by omega))
              refine ev_iload_n rfl ?_
              exact ev_ret rfl (by decide) (by decide) ⟨_, rfl, g, k0, by omega, by omega, by unfold duF; (repeat' split) <;> omega⟩
set_option maxHeartbeats 4000000 in
theorem t111 {G : GH} {h : JH} (g : Gd G h) {w0 : Int} (ew0 : h.2.2 27 0 = w0) (lw0 : (-99) ≤ w0) (uw0 : w0 ≤ 99) {w1 : Int} (ew1 : h.2.2 27 2 = w1) (lw1 : (-99) ≤ w1) (uw1 : w1 ≤ 99) {w2 : Int} (ew2 : h.2.2 27 8 = w2) (lw2 : (-99) ≤ w2) (uw2 : w2 ≤ 99) {w3 : Int} (ew3 : h.2.2 27 10 = w3) (lw3 : (-99) ≤ w3) (uw3 : w3 ≤ 99) : jOk 2 0 0 111 [(2, 26)] h (fun v h' => ∃ r : Int, v = some (0, r) ∧ Gd G h' ∧ Kp [] h h' ∧ (-99) ≤ r ∧ r ≤ 99 ∧ r = lowF w0 w1 w2 w3) := by
  refine ⟨by decide, by rw [ml111]; exact Nat.le_of_ble_eq_true rfl, ?_⟩
  rw [ml111, pp111]
  show jEv _ none _ c111_0 0 0 _ (c111_0, [(2, 26)], [], h, 0, 0)
  have k0 := Kp.rf [] h
  refine ev_aload_n rfl ?_
  refine ev_iconst ?_
  refine ev_iconst ?_
  refine ev_iconst ?_
  refine ev_in (d := 0) (a := 0) (b := 0) (cd' := c106_0) (m := 4) (L0 := [(2, 26), (0, 0), (0, 0), (0, 0)]) (jcall_v (A := [(0, 0), (0, 0), (0, 0)]) (S' := []) (r := 26) rfl (g.lt ad26) (g.tg ad26) (Nat.le_of_ble_eq_true rfl)) (by decide) ml106 pp106 (Nat.le_of_ble_eq_true rfl) rfl (by decide) (by decide) ?_
  refine ev_aload_n rfl ?_
  refine g_getp (r := 26) (c := 27) g ad26 (by decide) (by decide) rf26_2 ft9_2 ?_
  refine ev_bipush ?_
  refine ev_iload_n rfl ?_
  refine ev_imul (r := 0) (by decide) ?_
  refine ev_iconst ?_
  refine ev_iload_n rfl ?_
  refine ev_imul (r := 0) (by decide) ?_
  refine ev_iadd (r := 0) (by decide) ?_
  refine ev_iload_n rfl ?_
  refine ev_iadd (r := 0) (by decide) ?_
  refine g_ialdv (v := w0) g ad27 (by omega) (by omega) (ew0) ?_
  refine ev_ret rfl (by decide) (by decide) ?_
  show jEv _ _ _ _ _ _ _ (_, [(2, 26)], [(0, w0)], _, _, _)
  refine ev_aload_n rfl ?_
  refine ev_iconst ?_
  refine ev_iconst ?_
  refine ev_iconst ?_
  refine ev_in (d := 0) (a := 0) (b := 0) (cd' := c106_0) (m := 4) (L0 := [(2, 26), (0, 0), (0, 1), (0, 0)]) (jcall_v (A := [(0, 0), (0, 1), (0, 0)]) (S' := [(0, w0)]) (r := 26) rfl (g.lt ad26) (g.tg ad26) (Nat.le_of_ble_eq_true rfl)) (by decide) ml106 pp106 (Nat.le_of_ble_eq_true rfl) rfl (by decide) (by decide) ?_
  refine ev_aload_n rfl ?_
  refine g_getp (r := 26) (c := 27) g ad26 (by decide) (by decide) rf26_2 ft9_2 ?_
  refine ev_bipush ?_
  refine ev_iload_n rfl ?_
  refine ev_imul (r := 0) (by decide) ?_
  refine ev_iconst ?_
  refine ev_iload_n rfl ?_
  refine ev_imul (r := 2) (by decide) ?_
  refine ev_iadd (r := 2) (by decide) ?_
  refine ev_iload_n rfl ?_
  refine ev_iadd (r := 2) (by decide) ?_
  refine g_ialdv (v := w1) g ad27 (by omega) (by omega) (ew1) ?_
  refine ev_ret rfl (by decide) (by decide) ?_
  show jEv _ _ _ _ _ _ _ (_, [(2, 26)], [(0, w1), (0, w0)], _, _, _)
  refine ev_in (d := 0) (a := 0) (b := 0) (cd' := c381_0) (m := 2) (L0 := [(0, w0), (0, w1)]) (jcall_s (A := [(0, w1), (0, w0)]) (S' := []) (by decide) rfl (Nat.le_of_ble_eq_true rfl)) (by decide) ml381 pp381 (Nat.le_of_ble_eq_true rfl) rfl (by decide) (by decide) ?_
  refine ev_iload_n rfl ?_
  refine ev_iload_n rfl ?_
  refine ev_icmpgt f381_9 (fun c75464 => ?_) (fun c75464 => ?_)
  · refine ev_iload_n rfl ?_
    refine ev_ret rfl (by decide) (by decide) ?_
    show jEv _ _ _ _ _ _ _ (_, [(2, 26)], [(0, w1)], _, _, _)
    refine ev_aload_n rfl ?_
    refine ev_iconst ?_
    refine ev_iconst ?_
    refine ev_iconst ?_
    refine ev_in (d := 0) (a := 0) (b := 0) (cd' := c106_0) (m := 4) (L0 := [(2, 26), (0, 1), (0, 0), (0, 0)]) (jcall_v (A := [(0, 0), (0, 0), (0, 1)]) (S' := [(0, w1)]) (r := 26) rfl (g.lt ad26) (g.tg ad26) (Nat.le_of_ble_eq_true rfl)) (by decide) ml106 pp106 (Nat.le_of_ble_eq_true rfl) rfl (by decide) (by decide) ?_
    refine ev_aload_n rfl ?_
    refine g_getp (r := 26) (c := 27) g ad26 (by decide) (by decide) rf26_2 ft9_2 ?_
    refine ev_bipush ?_
    refine ev_iload_n rfl ?_
    refine ev_imul (r := 8) (by decide) ?_
    refine ev_iconst ?_
    refine ev_iload_n rfl ?_
    refine ev_imul (r := 0) (by decide) ?_
    refine ev_iadd (r := 8) (by decide) ?_
    refine ev_iload_n rfl ?_
    refine ev_iadd (r := 8) (by decide) ?_
    refine g_ialdv (v := w2) g ad27 (by omega) (by omega) (ew2) ?_
    refine ev_ret rfl (by decide) (by decide) ?_
    show jEv _ _ _ _ _ _ _ (_, [(2, 26)], [(0, w2), (0, w1)], _, _, _)
    refine ev_aload_n rfl ?_
    refine ev_iconst ?_
    refine ev_iconst ?_
    refine ev_iconst ?_
    refine ev_in (d := 0) (a := 0) (b := 0) (cd' := c106_0) (m := 4) (L0 := [(2, 26), (0, 1), (0, 1), (0, 0)]) (jcall_v (A := [(0, 0), (0, 1), (0, 1)]) (S' := [(0, w2), (0, w1)]) (r := 26) rfl (g.lt ad26) (g.tg ad26) (Nat.le_of_ble_eq_true rfl)) (by decide) ml106 pp106 (Nat.le_of_ble_eq_true rfl) rfl (by decide) (by decide) ?_
    refine ev_aload_n rfl ?_
    refine g_getp (r := 26) (c := 27) g ad26 (by decide) (by decide) rf26_2 ft9_2 ?_
    refine ev_bipush ?_
    refine ev_iload_n rfl ?_
    refine ev_imul (r := 8) (by decide) ?_
    refine ev_iconst ?_
    refine ev_iload_n rfl ?_
    refine ev_imul (r := 2) (by decide) ?_
    refine ev_iadd (r := 10) (by decide) ?_
    refine ev_iload_n rfl ?_
    refine ev_iadd (r := 10) (by decide) ?_
    refine g_ialdv (v := w3) g ad27 (by omega) (by omega) (ew3) ?_
    refine ev_ret rfl (by decide) (by decide) ?_
    show jEv _ _ _ _ _ _ _ (_, [(2, 26)], [(0, w3), (0, w2), (0, w1)], _, _, _)
    refine ev_in (d := 0) (a := 0) (b := 0) (cd' := c381_0) (m := 2) (L0 := [(0, w2), (0, w3)]) (jcall_s (A := [(0, w3), (0, w2)]) (S' := [(0, w1)]) (by decide) rfl (Nat.le_of_ble_eq_true rfl)) (by decide) ml381 pp381 (Nat.le_of_ble_eq_true rfl) rfl (by decide) (by decide) ?_
    refine ev_iload_n rfl ?_
    refine ev_iload_n rfl ?_
    refine ev_icmpgt f381_9 (fun c75465 => ?_) (fun c75465 => ?_)
    · refine ev_iload_n rfl ?_
      refine ev_ret rfl (by decide) (by decide) ?_
      show jEv _ _ _ _ _ _ _ (_, [(2, 26)], [(0, w3), (0, w1)], _, _, _)
      refine ev_in (d := 0) (a := 0) (b := 0) (cd' := c379_0) (m := 2) (L0 := [(0, w1), (0, w3)]) (jcall_s (A := [(0, w3), (0, w1)]) (S' := []) (by decide) rfl (Nat.le_of_ble_eq_true rfl)) (by decide) ml379 pp379 (Nat.le_of_ble_eq_true rfl) rfl (by decide) (by decide) ?_
      refine ev_iload_n rfl ?_
      refine ev_iload_n rfl ?_
      refine ev_icmplt f379_9 (fun c75466 => ?_) (fun c75466 => ?_)
      · refine ev_iload_n rfl ?_
        refine ev_ret rfl (by decide) (by decide) ?_
        show jEv _ _ _ _ _ _ _ (_, [(2, 26)], [(0, w3)], _, _, _)
        exact ev_ret rfl (by decide) (by decide) ⟨_, rfl, g, k0, by omega, by omega, by unfold lowF grF lsF; (repeat' split) <;> omega⟩
      · refine ev_iload_n rfl ?_
        refine ev_goto f379_10 ?_
        refine ev_ret rfl (by decide) (by decide) ?_
        show jEv _ _ _ _ _ _ _ (_, [(2, 26)], [(0, w1)], _, _, _)
        exact ev_ret rfl (by decide) (by decide) ⟨_, rfl, g, k0, by omega, by omega, by unfold lowF grF lsF; (repeat' split) <;> omega⟩
    · refine ev_iload_n rfl ?_
      refine ev_goto f381_10 ?_
      refine ev_ret rfl (by decide) (by decide) ?_
      show jEv _ _ _ _ _ _ _ (_, [(2, 26)], [(0, w2), (0, w1)], _, _, _)
      refine ev_in (d := 0) (a := 0) (b := 0) (cd' := c379_0) (m := 2) (L0 := [(0, w1), (0, w2)]) (jcall_s (A := [(0, w2), (0, w1)]) (S' := []) (by decide) rfl (Nat.le_of_ble_eq_true rfl)) (by decide) ml379 pp379 (Nat.le_of_ble_eq_true rfl) rfl (by decide) (by decide) ?_
      refine ev_iload_n rfl ?_
      refine ev_iload_n rfl ?_
      refine ev_icmplt f379_9 (fun c75467 => ?_) (fun c75467 => ?_)
      · refine ev_iload_n rfl ?_
        refine ev_ret rfl (by decide) (by decide) ?_
        show jEv _ _ _ _ _ _ _ (_, [(2, 26)], [(0, w2)], _, _, _)
        exact ev_ret rfl (by decide) (by decide) ⟨_, rfl, g, k0, by omega, by omega, by unfold lowF grF lsF; (repeat' split) <;> omega⟩
      · refine ev_iload_n rfl ?_
        refine ev_goto f379_10 ?_
        refine ev_ret rfl (by decide) (by decide) ?_
        show jEv _ _ _ _ _ _ _ (_, [(2, 26)], [(0, w1)], _, _, _)
        exact ev_ret rfl (by decide) (by decide) ⟨_, rfl, g, k0, by omega, by omega, by unfold lowF grF lsF; (repeat' split) <;> omega⟩
  · refine ev_iload_n rfl ?_
    refine ev_goto f381_10 ?_
    refine ev_ret rfl (by decide) (by decide) ?_
    show jEv _ _ _ _ _ _ _ (_, [(2, 26)], [(0, w0)], _, _, _)
    refine ev_aload_n rfl ?_
    refine ev_iconst ?_
    refine ev_iconst ?_
    refine ev_iconst ?_
    refine ev_in (d := 0) (a := 0) (b := 0) (cd' := c106_0) (m := 4) (L0 := [(2, 26), (0, 1), (0, 0), (0, 0)]) (jcall_v (A := [(0, 0), (0, 0), (0, 1)]) (S' := [(0, w0)]) (r := 26) rfl (g.lt ad26) (g.tg ad26) (Nat.le_of_ble_eq_true rfl)) (by decide) ml106 pp106 (Nat.le_of_ble_eq_true rfl) rfl (by decide) (by decide) ?_
    refine ev_aload_n rfl ?_
    refine g_getp (r := 26) (c := 27) g ad26 (by decide) (by decide) rf26_2 ft9_2 ?_
    refine ev_bipush ?_
    refine ev_iload_n rfl ?_
    refine ev_imul (r := 8) (by decide) ?_
    refine ev_iconst ?_
    refine ev_iload_n rfl ?_
    refine ev_imul (r := 0) (by decide) ?_
    refine ev_iadd (r := 8) (by decide) ?_
    refine ev_iload_n rfl ?_
    refine ev_iadd (r := 8) (by decide) ?_
    refine g_ialdv (v := w2) g ad27 (by omega) (by omega) (ew2) ?_
    refine ev_ret rfl (by decide) (by decide) ?_
    show jEv _ _ _ _ _ _ _ (_, [(2, 26)], [(0, w2), (0, w0)], _, _, _)
    refine ev_aload_n rfl ?_
    refine ev_iconst ?_
    refine ev_iconst ?_
    refine ev_iconst ?_
    refine ev_in (d := 0) (a := 0) (b := 0) (cd' := c106_0) (m := 4) (L0 := [(2, 26), (0, 1), (0, 1), (0, 0)]) (jcall_v (A := [(0, 0), (0, 1), (0, 1)]) (S' := [(0, w2), (0, w0)]) (r := 26) rfl (g.lt ad26) (g.tg ad26) (Nat.le_of_ble_eq_true rfl)) (by decide) ml106 pp106 (Nat.le_of_ble_eq_true rfl) rfl (by decide) (by decide) ?_
    refine ev_aload_n rfl ?_
    refine g_getp (r := 26) (c := 27) g ad26 (by decide) (by decide) rf26_2 ft9_2 ?_
    refine ev_bipush ?_
    refine ev_iload_n rfl ?_
    refine ev_imul (r := 8) (by decide) ?_
    refine ev_iconst ?_
    refine ev_iload_n rfl ?_
    refine ev_imul (r := 2) (by decide) ?_
    refine ev_iadd (r := 10) (by decide) ?_
    refine ev_iload_n rfl ?_
    refine ev_iadd (r := 10) (by decide) ?_
    refine g_ialdv (v := w3) g ad27 (by omega) (by omega) (ew3) ?_
    refine ev_ret rfl (by decide) (by decide) ?_
    show jEv _ _ _ _ _ _ _ (_, [(2, 26)], [(0, w3), (0, w2), (0, w0)], _, _, _)
    refine ev_in (d := 0) (a := 0) (b := 0) (cd' := c381_0) (m := 2) (L0 := [(0, w2), (0, w3)]) (jcall_s (A := [(0, w3), (0, w2)]) (S' := [(0, w0)]) (by decide) rfl (Nat.le_of_ble_eq_true rfl)) (by decide) ml381 pp381 (Nat.le_of_ble_eq_true rfl) rfl (by decide) (by decide) ?_
    refine ev_iload_n rfl ?_
    refine ev_iload_n rfl ?_
    refine ev_icmpgt f381_9 (fun c75468 => ?_) (fun c75468 => ?_)
    · refine ev_iload_n rfl ?_
      refine ev_ret rfl (by decide) (by decide) ?_
      show jEv _ _ _ _ _ _ _ (_, [(2, 26)], [(0, w3), (0, w0)], _, _, _)
      refine ev_in (d := 0) (a := 0) (b := 0) (cd' := c379_0) (m := 2) (L0 := [(0, w0), (0, w3)]) (jcall_s (A := [(0, w3), (0, w0)]) (S' := []) (by decide) rfl (Nat.le_of_ble_eq_true rfl)) (by decide) ml379 pp379 (Nat.le_of_ble_eq_true rfl) rfl (by decide) (by decide) ?_
      refine ev_iload_n rfl ?_
      refine ev_iload_n rfl ?_
      refine ev_icmplt f379_9 (fun c75469 => ?_) (fun c75469 => ?_)
      · refine ev_iload_n rfl ?_
        refine ev_ret rfl (by decide) (by decide) ?_
        show jEv _ _ _ _ _ _ _ (_, [(2, 26)], [(0, w3)], _, _, _)
        exact ev_ret rfl (by decide) (by decide) ⟨_, rfl, g, k0, by omega, by omega, by unfold lowF grF lsF; (repeat' split) <;> omega⟩
      · refine ev_iload_n rfl ?_
        refine ev_goto f379_10 ?_
        refine ev_ret rfl (by decide) (by decide) ?_
        show jEv _ _ _ _ _ _ _ (_, [(2, 26)], [(0, w0)], _, _, _)
        exact ev_ret rfl (by decide) (by decide) ⟨_, rfl, g, k0, by omega, by omega, by unfold lowF grF lsF; (repeat' split) <;> omega⟩
    · refine ev_iload_n rfl ?_
      refine ev_goto f381_10 ?_
      refine ev_ret rfl (by decide) (by decide) ?_
      show jEv _ _ _ _ _ _ _ (_, [(2, 26)], [(0, w2), (0, w0)], _, _, _)
      refine ev_in (d := 0) (a := 0) (b := 0) (cd' := c379_0) (m := 2) (L0 := [(0, w0), (0, w2)]) (jcall_s (A := [(0, w2), (0, w0)]) (S' := []) (by decide) rfl (Nat.le_of_ble_eq_true rfl)) (by decide) ml379 pp379 (Nat.le_of_ble_eq_true rfl) rfl (by decide) (by decide) ?_
      refine ev_iload_n rfl ?_
      refine ev_iload_n rfl ?_
      refine ev_icmplt f379_9 (fun c75470 => ?_) (fun c75470 => ?_)
      · refine ev_iload_n rfl ?_
        refine ev_ret rfl (by decide) (by decide) ?_
        show jEv _ _ _ _ _ _ _ (_, [(2, 26)], [(0, w2)], _, _, _)
        exact ev_ret rfl (by decide) (by decide) ⟨_, rfl, g, k0, by omega, by omega, by unfold lowF grF lsF; (repeat' split) <;> omega⟩
      · refine ev_iload_n rfl ?_
        refine ev_goto f379_10 ?_
        refine ev_ret rfl (by decide) (by decide) ?_
        show jEv _ _ _ _ _ _ _ (_, [(2, 26)], [(0, w0)], _, _, _)
        exact ev_ret rfl (by decide) (by decide) ⟨_, rfl, g, k0, by omega, by omega, by unfold lowF grF lsF; (repeat' split) <;> omega⟩
set_option maxHeartbeats 4000000 in
theorem t113 {G : GH} {h : JH} (g : Gd G h) {w0 : Int} (ew0 : h.2.2 27 0 = w0) (lw0 : (-99) ≤ w0) (uw0 : w0 ≤ 99) {w1 : Int} (ew1 : h.2.2 27 2 = w1) (lw1 : (-99) ≤ w1) (uw1 : w1 ≤ 99) {w2 : Int} (ew2 : h.2.2 27 8 = w2) (lw2 : (-99) ≤ w2) (uw2 : w2 ≤ 99) {w3 : Int} (ew3 : h.2.2 27 10 = w3) (lw3 : (-99) ≤ w3) (uw3 : w3 ≤ 99) : jOk 3 0 0 113 [(2, 26)] h (fun v h' => ∃ r : Int, v = some (0, r) ∧ Gd G h' ∧ Kp [] h h' ∧ 0 ≤ r ∧ r ≤ 1 ∧ r = stF w0 w1 w2 w3) := by
  refine ⟨by decide, by rw [ml113]; exact Nat.le_of_ble_eq_true rfl, ?_⟩
  rw [ml113, pp113]
  show jEv _ none _ c113_0 0 0 _ (c113_0, [(2, 26), (9, 0)], [], h, 0, 0)
  have k0 := Kp.rf [] h
  refine ev_aload_n rfl ?_
  refine ev_iconst ?_
  refine ev_iconst ?_
  refine ev_iconst ?_
  refine ev_in (d := 1) (a := 0) (b := 0) (cd' := c106_0) (m := 4) (L0 := [(2, 26), (0, 0), (0, 0), (0, 0)]) (jcall_v (A := [(0, 0), (0, 0), (0, 0)]) (S' := []) (r := 26) rfl (g.lt ad26) (g.tg ad26) (Nat.le_of_ble_eq_true rfl)) (by decide) ml106 pp106 (Nat.le_of_ble_eq_true rfl) rfl (by decide) (by decide) ?_
  refine ev_aload_n rfl ?_
  refine g_getp (r := 26) (c := 27) g ad26 (by decide) (by decide) rf26_2 ft9_2 ?_
  refine ev_bipush ?_
  refine ev_iload_n rfl ?_
  refine ev_imul (r := 0) (by decide) ?_
  refine ev_iconst ?_
  refine ev_iload_n rfl ?_
  refine ev_imul (r := 0) (by decide) ?_
  refine ev_iadd (r := 0) (by decide) ?_
  refine ev_iload_n rfl ?_
  refine ev_iadd (r := 0) (by decide) ?_
  refine g_ialdv (v := w0) g ad27 (by omega) (by omega) (ew0) ?_
  refine ev_ret rfl (by decide) (by decide) ?_
  show jEv _ _ _ _ _ _ _ (_, [(2, 26), (9, 0)], [(0, w0)], _, _, _)
  refine ev_aload_n rfl ?_
  refine ev_iconst ?_
  refine ev_iconst ?_
  refine ev_iconst ?_
  refine ev_in (d := 1) (a := 0) (b := 0) (cd' := c106_0) (m := 4) (L0 := [(2, 26), (0, 1), (0, 0), (0, 0)]) (jcall_v (A := [(0, 0), (0, 0), (0, 1)]) (S' := [(0, w0)]) (r := 26) rfl (g.lt ad26) (g.tg ad26) (Nat.le_of_ble_eq_true rfl)) (by decide) ml106 pp106 (Nat.le_of_ble_eq_true rfl) rfl (by decide) (by decide) ?_
  refine ev_aload_n rfl ?_
  refine g_getp (r := 26) (c := 27) g ad26 (by decide) (by decide) rf26_2 ft9_2 ?_
  refine ev_bipush ?_
  refine ev_iload_n rfl ?_
  refine ev_imul (r := 8) (by decide) ?_
  refine ev_iconst ?_
  refine ev_iload_n rfl ?_
  refine ev_imul (r := 0) (by decide) ?_
  refine ev_iadd (r := 8) (by decide) ?_
  refine ev_iload_n rfl ?_
  refine ev_iadd (r := 8) (by decide) ?_
  refine g_ialdv (v := w2) g ad27 (by omega) (by omega) (ew2) ?_
  refine ev_ret rfl (by decide) (by decide) ?_
  show jEv _ _ _ _ _ _ _ (_, [(2, 26), (9, 0)], [(0, w2), (0, w0)], _, _, _)
  refine ev_in (d := 1) (a := 0) (b := 0) (cd' := c379_0) (m := 2) (L0 := [(0, w0), (0, w2)]) (jcall_s (A := [(0, w2), (0, w0)]) (S' := []) (by decide) rfl (Nat.le_of_ble_eq_true rfl)) (by decide) ml379 pp379 (Nat.le_of_ble_eq_true rfl) rfl (by decide) (by decide) ?_
  refine ev_iload_n rfl ?_
  refine ev_iload_n rfl ?_
  refine ev_icmplt f379_9 (fun c75549 => ?_) (fun c75549 => ?_)
  · refine ev_iload_n rfl ?_
    refine ev_ret rfl (by decide) (by decide) ?_
    show jEv _ _ _ _ _ _ _ (_, [(2, 26), (9, 0)], [(0, w2)], _, _, _)
    refine ev_aload_n rfl ?_
    refine ev_iconst ?_
    refine ev_iconst ?_
    refine ev_iconst ?_
    refine ev_in (d := 1) (a := 0) (b := 0) (cd' := c106_0) (m := 4) (L0 := [(2, 26), (0, 0), (0, 1), (0, 0)]) (jcall_v (A := [(0, 0), (0, 1), (0, 0)]) (S' := [(0, w2)]) (r := 26) rfl (g.lt ad26) (g.tg ad26) (Nat.le_of_ble_eq_true rfl)) (by decide) ml106 pp106 (Nat.le_of_ble_eq_true rfl) rfl (by decide) (by decide) ?_
    refine ev_aload_n rfl ?_
    refine g_getp (r := 26) (c := 27) g ad26 (by decide) (by decide) rf26_2 ft9_2 ?_
    refine ev_bipush ?_
    refine ev_iload_n rfl ?_
    refine ev_imul (r := 0) (by decide) ?_
    refine ev_iconst ?_
    refine ev_iload_n rfl ?_
    refine ev_imul (r := 2) (by decide) ?_
    refine ev_iadd (r := 2) (by decide) ?_
    refine ev_iload_n rfl ?_
    refine ev_iadd (r := 2) (by decide) ?_
    refine g_ialdv (v := w1) g ad27 (by omega) (by omega) (ew1) ?_
    refine ev_ret rfl (by decide) (by decide) ?_
    show jEv _ _ _ _ _ _ _ (_, [(2, 26), (9, 0)], [(0, w1), (0, w2)], _, _, _)
    refine ev_aload_n rfl ?_
    refine ev_iconst ?_
    refine ev_iconst ?_
    refine ev_iconst ?_
    refine ev_in (d := 1) (a := 0) (b := 0) (cd' := c106_0) (m := 4) (L0 := [(2, 26), (0, 1), (0, 1), (0, 0)]) (jcall_v (A := [(0, 0), (0, 1), (0, 1)]) (S' := [(0, w1), (0, w2)]) (r := 26) rfl (g.lt ad26) (g.tg ad26) (Nat.le_of_ble_eq_true rfl)) (by decide) ml106 pp106 (Nat.le_of_ble_eq_true rfl) rfl (by decide) (by decide) ?_
    refine ev_aload_n rfl ?_
    refine g_getp (r := 26) (c := 27) g ad26 (by decide) (by decide) rf26_2 ft9_2 ?_
    refine ev_bipush ?_
    refine ev_iload_n rfl ?_
    refine ev_imul (r := 8) (by decide) ?_
    refine ev_iconst ?_
    refine ev_iload_n rfl ?_
    refine ev_imul (r := 2) (by decide) ?_
    refine ev_iadd (r := 10) (by decide) ?_
    refine ev_iload_n rfl ?_
    refine ev_iadd (r := 10) (by decide) ?_
    refine g_ialdv (v := w3) g ad27 (by omega) (by omega) (ew3) ?_
    refine ev_ret rfl (by decide) (by decide) ?_
    show jEv _ _ _ _ _ _ _ (_, [(2, 26), (9, 0)], [(0, w3), (0, w1), (0, w2)], _, _, _)
    refine ev_in (d := 1) (a := 0) (b := 0) (cd' := c379_0) (m := 2) (L0 := [(0, w1), (0, w3)]) (jcall_s (A := [(0, w3), (0, w1)]) (S' := [(0, w2)]) (by decide) rfl (Nat.le_of_ble_eq_true rfl)) (by decide) ml379 pp379 (Nat.le_of_ble_eq_true rfl) rfl (by decide) (by decide) ?_
    refine ev_iload_n rfl ?_
    refine ev_iload_n rfl ?_
    refine ev_icmplt f379_9 (fun c75550 => ?_) (fun c75550 => ?_)
    · refine ev_iload_n rfl ?_
      refine ev_ret rfl (by decide) (by decide) ?_
      show jEv _ _ _ _ _ _ _ (_, [(2, 26), (9, 0)], [(0, w3), (0, w2)], _, _, _)
      refine ev_in (d := 1) (a := 0) (b := 0) (cd' := c381_0) (m := 2) (L0 := [(0, w2), (0, w3)]) (jcall_s (A := [(0, w3), (0, w2)]) (S' := []) (by decide) rfl (Nat.le_of_ble_eq_true rfl)) (by decide) ml381 pp381 (Nat.le_of_ble_eq_true rfl) rfl (by decide) (by decide) ?_
      refine ev_iload_n rfl ?_
      refine ev_iload_n rfl ?_
      refine ev_icmpgt f381_9 (fun c75551 => ?_) (fun c75551 => ?_)
      · refine ev_iload_n rfl ?_
        refine ev_ret rfl (by decide) (by decide) ?_
        show jEv _ _ _ _ _ _ _ (_, [(2, 26), (9, 0)], [(0, w3)], _, _, _)
        refine ev_istore_n (L' := [(2, 26), (0, w3)]) (Nat.le_of_ble_eq_true rfl) rfl ?_
        refine ev_aload_n rfl ?_
        refine ev_call (jcall_v (A := []) (S' := []) (r := 26) rfl (g.lt ad26) (g.tg ad26) (Nat.le_of_ble_eq_true rfl)) (jOk_le (by decide) (t111 g (ew0) (by omega) (by omega) (ew1) (by omega) (by omega) (ew2) (by omega) (by omega) (ew3) (by omega) (by omega))) (by decide) (by decide) (fun w75552 h75552 q75552 => ?_)
        obtain ⟨v75553, rfl, g75552, kk75552, lv75553, uv75553, X75552⟩ := q75552
        have k75552 := k0.tr kk75552 (by decide)
        show jEv _ _ _ _ _ _ _ (_, [(2, 26), (0, w3)], [(0, v75553)], _, _, _)
        refine ev_iload_n rfl ?_
        refine ev_icmpeq f113_53 (fun c75554 => ?_) (fun c75554 => ?_)
        · refine ev_iconst ?_
          refine ev_goto f113_58 ?_
          exact ev_ret rfl (by decide) (by decide) ⟨_, rfl, g75552, k75552, by omega, by omega, by unfold stF hiF grF lsF; have x := X75552; (repeat' split) <;> omega⟩
        · refine ev_aload_n rfl ?_
          refine ev_in (d := 1) (a := 0) (b := 0) (cd' := c112_0) (m := 1) (L0 := [(2, 26)]) (jcall_v (A := []) (S' := []) (r := 26) rfl (g75552.lt ad26) (g75552.tg ad26) (Nat.le_of_ble_eq_true rfl)) (by decide) ml112 pp112 (Nat.le_of_ble_eq_true rfl) rfl (by decide) (by decide) ?_
          refine ev_aload_n rfl ?_
          refine ev_iconst ?_
          refine ev_iconst ?_
          refine ev_iconst ?_
          refine ev_in (d := 0) (a := 0) (b := 0) (cd' := c106_0) (m := 4) (L0 := [(2, 26), (0, 0), (0, 0), (0, 0)]) (jcall_v (A := [(0, 0), (0, 0), (0, 0)]) (S' := []) (r := 26) rfl (g75552.lt ad26) (g75552.tg ad26) (Nat.le_of_ble_eq_true rfl)) (by decide) ml106 pp106 (Nat.le_of_ble_eq_true rfl) rfl (by decide) (by decide) ?_
          refine ev_aload_n rfl ?_
          refine g_getp (r := 26) (c := 27) g75552 ad26 (by decide) (by decide) rf26_2 ft9_2 ?_
          refine ev_bipush ?_
          refine ev_iload_n rfl ?_
          refine ev_imul (r := 0) (by decide) ?_
          refine ev_iconst ?_
          refine ev_iload_n rfl ?_
          refine ev_imul (r := 0) (by decide) ?_
          refine ev_iadd (r := 0) (by decide) ?_
          refine ev_iload_n rfl ?_
          refine ev_iadd (r := 0) (by decide) ?_
          refine g_ialdv (v := w0) g75552 ad27 (by omega) (by omega) (((kk75552.v (by decide)).trans ew0)) ?_
          refine ev_ret rfl (by decide) (by decide) ?_
          show jEv _ _ _ _ _ _ _ (_, [(2, 26)], [(0, w0)], _, _, _)
          refine ev_aload_n rfl ?_
          refine ev_iconst ?_
          refine ev_iconst ?_
          refine ev_iconst ?_
          refine ev_in (d := 0) (a := 0) (b := 0) (cd' := c106_0) (m := 4) (L0 := [(2, 26), (0, 1), (0, 1), (0, 0)]) (jcall_v (A := [(0, 0), (0, 1), (0, 1)]) (S' := [(0, w0)]) (r := 26) rfl (g75552.lt ad26) (g75552.tg ad26) (Nat.le_of_ble_eq_true rfl)) (by decide) ml106 pp106 (Nat.le_of_ble_eq_true rfl) rfl (by decide) (by decide) ?_
          refine ev_aload_n rfl ?_
          refine g_getp (r := 26) (c := 27) g75552 ad26 (by decide) (by decide) rf26_2 ft9_2 ?_
          refine ev_bipush ?_
          refine ev_iload_n rfl ?_
          refine ev_imul (r := 8) (by decide) ?_
          refine ev_iconst ?_
          refine ev_iload_n rfl ?_
          refine ev_imul (r := 2) (by decide) ?_
          refine ev_iadd (r := 10) (by decide) ?_
          refine ev_iload_n rfl ?_
          refine ev_iadd (r := 10) (by decide) ?_
          refine g_ialdv (v := w3) g75552 ad27 (by omega) (by omega) (((kk75552.v (by decide)).trans ew3)) ?_
          refine ev_ret rfl (by decide) (by decide) ?_
          show jEv _ _ _ _ _ _ _ (_, [(2, 26)], [(0, w3), (0, w0)], _, _, _)
          refine ev_iadd (r := (w0 + w3)) (by unfold w32; omega) ?_
          refine ev_aload_n rfl ?_
          refine ev_iconst ?_
          refine ev_iconst ?_
          refine ev_iconst ?_
          refine ev_in (d := 0) (a := 0) (b := 0) (cd' := c106_0) (m := 4) (L0 := [(2, 26), (0, 0), (0, 1), (0, 0)]) (jcall_v (A := [(0, 0), (0, 1), (0, 0)]) (S' := [(0, (w0 + w3))]) (r := 26) rfl (g75552.lt ad26) (g75552.tg ad26) (Nat.le_of_ble_eq_true rfl)) (by decide) ml106 pp106 (Nat.le_of_ble_eq_true rfl) rfl (by decide) (by decide) ?_
          refine ev_aload_n rfl ?_
          refine g_getp (r := 26) (c := 27) g75552 ad26 (by decide) (by decide) rf26_2 ft9_2 ?_
          refine ev_bipush ?_
          refine ev_iload_n rfl ?_
          refine ev_imul (r := 0) (by decide) ?_
          refine ev_iconst ?_
          refine ev_iload_n rfl ?_
          refine ev_imul (r := 2) (by decide) ?_
          refine ev_iadd (r := 2) (by decide) ?_
          refine ev_iload_n rfl ?_
          refine ev_iadd (r := 2) (by decide) ?_
          refine g_ialdv (v := w1) g75552 ad27 (by omega) (by omega) (((kk75552.v (by decide)).trans ew1)) ?_
          refine ev_ret rfl (by decide) (by decide) ?_
          show jEv _ _ _ _ _ _ _ (_, [(2, 26)], [(0, w1), (0, (w0 + w3))], _, _, _)
          refine ev_isub (r := (w0 + (-w1) + w3)) (by unfold w32; omega) ?_
          refine ev_aload_n rfl ?_
          refine ev_iconst ?_
          refine ev_iconst ?_
          refine ev_iconst ?_
          refine ev_in (d := 0) (a := 0) (b := 0) (cd' := c106_0) (m := 4) (L0 := [(2, 26), (0, 1), (0, 0), (0, 0)]) (jcall_v (A := [(0, 0), (0, 0), (0, 1)]) (S' := [(0, (w0 + (-w1) + w3))]) (r := 26) rfl (g75552.lt ad26) (g75552.tg ad26) (Nat.le_of_ble_eq_true rfl)) (by decide) ml106 pp106 (Nat.le_of_ble_eq_true rfl) rfl (by decide) (by decide) ?_
          refine ev_aload_n rfl ?_
          refine g_getp (r := 26) (c := 27) g75552 ad26 (by decide) (by decide) rf26_2 ft9_2 ?_
          refine ev_bipush ?_
          refine ev_iload_n rfl ?_
          refine ev_imul (r := 8) (by decide) ?_
          refine ev_iconst ?_
          refine ev_iload_n rfl ?_
          refine ev_imul (r := 0) (by decide) ?_
          refine ev_iadd (r := 8) (by decide) ?_
          refine ev_iload_n rfl ?_
          refine ev_iadd (r := 8) (by decide) ?_
          refine g_ialdv (v := w2) g75552 ad27 (by omega) (by omega) (((kk75552.v (by decide)).trans ew2)) ?_
          refine ev_ret rfl (by decide) (by decide) ?_
          show jEv _ _ _ _ _ _ _ (_, [(2, 26)], [(0, w2), (0, (w0 + (-w1) + w3))], _, _, _)
          refine ev_isub (r := (w0 + (-w1) + (-w2) + w3)) (by unfold w32; omega) ?_
          refine ev_ret rfl (by decide) (by decide) ?_
          show jEv _ _ _ _ _ _ _ (_, [(2, 26), (0, w3)], [(0, (w0 + (-w1) + (-w2) + w3))], _, _, _)
          refine ev_ifne f113_57 (fun c75555 => ?_) (fun c75555 => ?_)
          · refine ev_iconst ?_
            exact ev_ret rfl (by decide) (by decide) ⟨_, rfl, g75552, k75552, by omega, by omega, by unfold stF hiF grF lsF; have x := X75552; (repeat' split) <;> omega⟩
          · refine ev_iconst ?_
            refine ev_goto f113_58 ?_
            exact ev_ret rfl (by decide) (by decide) ⟨_, rfl, g75552, k75552, by omega, by omega, by unfold stF hiF grF lsF; have x := X75552; (repeat' split) <;> omega⟩
      · refine ev_iload_n rfl ?_
        refine ev_goto f381_10 ?_
        refine ev_ret rfl (by decide) (by decide) ?_
        show jEv _ _ _ _ _ _ _ (_, [(2, 26), (9, 0)], [(0, w2)], _, _, _)
        refine ev_istore_n (L' := [(2, 26), (0, w2)]) (Nat.le_of_ble_eq_true rfl) rfl ?_
        refine ev_aload_n rfl ?_
        refine ev_call (jcall_v (A := []) (S' := []) (r := 26) rfl (g.lt ad26) (g.tg ad26) (Nat.le_of_ble_eq_true rfl)) (jOk_le (by decide) (t111 g (ew0) (by omega) (by omega) (ew1) (by omega) (by omega) (ew2) (by omega) (by omega) (ew3) (by omega) (by omega))) (by decide) (by decide) (fun w75556 h75556 q75556 => ?_)
        obtain ⟨v75557, rfl, g75556, kk75556, lv75557, uv75557, X75556⟩ := q75556
        have k75556 := k0.tr kk75556 (by decide)
        show jEv _ _ _ _ _ _ _ (_, [(2, 26), (0, w2)], [(0, v75557)], _, _, _)
        refine ev_iload_n rfl ?_
        refine ev_icmpeq f113_53 (fun c75558 => ?_) (fun c75558 => ?_)
        · refine ev_iconst ?_
          refine ev_goto f113_58 ?_
          exact ev_ret rfl (by decide) (by decide) ⟨_, rfl, g75556, k75556, by omega, by omega, by unfold stF hiF grF lsF; have x := X75556; (repeat' split) <;> omega⟩
        · refine ev_aload_n rfl ?_
          refine ev_in (d := 1) (a := 0) (b := 0) (cd' := c112_0) (m := 1) (L0 := [(2, 26)]) (jcall_v (A := []) (S' := []) (r := 26) rfl (g75556.lt ad26) (g75556.tg ad26) (Nat.le_of_ble_eq_true rfl)) (by decide) ml112 pp112 (Nat.le_of_ble_eq_true rfl) rfl (by decide) (by decide) ?_
          refine ev_aload_n rfl ?_
          refine ev_iconst ?_
          refine ev_iconst ?_
          refine ev_iconst ?_
          refine ev_in (d := 0) (a := 0) (b := 0) (cd' := c106_0) (m := 4) (L0 := [(2, 26), (0, 0), (0, 0), (0, 0)]) (jcall_v (A := [(0, 0), (0, 0), (0, 0)]) (S' := []) (r := 26) rfl (g75556.lt ad26) (g75556.tg ad26) (Nat.le_of_ble_eq_true rfl)) (by decide) ml106 pp106 (Nat.le_of_ble_eq_true rfl) rfl (by decide) (by decide) ?_
          refine ev_aload_n rfl ?_
          refine g_getp (r := 26) (c := 27) g75556 ad26 (by decide) (by decide) rf26_2 ft9_2 ?_
          refine ev_bipush ?_
          refine ev_iload_n rfl ?_
          refine ev_imul (r := 0) (by decide) ?_
          refine ev_iconst ?_
          refine ev_iload_n rfl ?_
          refine ev_imul (r := 0) (by decide) ?_
          refine ev_iadd (r := 0) (by decide) ?_
          refine ev_iload_n rfl ?_
          refine ev_iadd (r := 0) (by decide) ?_
          refine g_ialdv (v := w0) g75556 ad27 (by omega) (by omega) (((kk75556.v (by decide)).trans ew0)) ?_
          refine ev_ret rfl (by decide) (by decide) ?_
          show jEv _ _ _ _ _ _ _ (_, [(2, 26)], [(0, w0)], _, _, _)
          refine ev_aload_n rfl ?_
          refine ev_iconst ?_
          refine ev_iconst ?_
          refine ev_iconst ?_
          refine ev_in (d := 0) (a := 0) (b := 0) (cd' := c106_0) (m := 4) (L0 := [(2, 26), (0, 1), (0, 1), (0, 0)]) (jcall_v (A := [(0, 0), (0, 1), (0, 1)]) (S' := [(0, w0)]) (r := 26) rfl (g75556.lt ad26) (g75556.tg ad26) (Nat.le_of_ble_eq_true rfl)) (by decide) ml106 pp106 (Nat.le_of_ble_eq_true rfl) rfl (by decide) (by decide) ?_
          refine ev_aload_n rfl ?_
          refine g_getp (r := 26) (c := 27) g75556 ad26 (by decide) (by decide) rf26_2 ft9_2 ?_
          refine ev_bipush ?_
          refine ev_iload_n rfl ?_
          refine ev_imul (r := 8) (by decide) ?_
          refine ev_iconst ?_
          refine ev_iload_n rfl ?_
          refine ev_imul (r := 2) (by decide) ?_
          refine ev_iadd (r := 10) (by decide) ?_
          refine ev_iload_n rfl ?_
          refine ev_iadd (r := 10) (by decide) ?_
          refine g_ialdv (v := w3) g75556 ad27 (by omega) (by omega) (((kk75556.v (by decide)).trans ew3)) ?_
          refine ev_ret rfl (by decide) (by decide) ?_
          show jEv _ _ _ _ _ _ _ (_, [(2, 26)], [(0, w3), (0, w0)], _, _, _)
          refine ev_iadd (r := (w0 + w3)) (by unfold w32; omega) ?_
          refine ev_aload_n rfl ?_
          refine ev_iconst ?_
          refine ev_iconst ?_
          refine ev_iconst ?_
          refine ev_in (d := 0) (a := 0) (b := 0) (cd' := c106_0) (m := 4) (L0 := [(2, 26), (0, 0), (0, 1), (0, 0)]) (jcall_v (A := [(0, 0), (0, 1), (0, 0)]) (S' := [(0, (w0 + w3))]) (r := 26) rfl (g75556.lt ad26) (g75556.tg ad26) (Nat.le_of_ble_eq_true rfl)) (by decide) ml106 pp106 (Nat.le_of_ble_eq_true rfl) rfl (by decide) (by decide) ?_
          refine ev_aload_n rfl ?_
          refine g_getp (r := 26) (c := 27) g75556 ad26 (by decide) (by decide) rf26_2 ft9_2 ?_
          refine ev_bipush ?_
          refine ev_iload_n rfl ?_
          refine ev_imul (r := 0) (by decide) ?_
          refine ev_iconst ?_
          refine ev_iload_n rfl ?_
          refine ev_imul (r := 2) (by decide) ?_
          refine ev_iadd (r := 2) (by decide) ?_
          refine ev_iload_n rfl ?_
          refine ev_iadd (r := 2) (by decide) ?_
          refine g_ialdv (v := w1) g75556 ad27 (by omega) (by omega) (((kk75556.v (by decide)).trans ew1)) ?_
          refine ev_ret rfl (by decide) (by decide) ?_
          show jEv _ _ _ _ _ _ _ (_, [(2, 26)], [(0, w1), (0, (w0 + w3))], _, _, _)
          refine ev_isub (r := (w0 + (-w1) + w3)) (by unfold w32; omega) ?_
          refine ev_aload_n rfl ?_
          refine ev_iconst ?_
          refine ev_iconst ?_
          refine ev_iconst ?_
          refine ev_in (d := 0) (a := 0) (b := 0) (cd' := c106_0) (m := 4) (L0 := [(2, 26), (0, 1), (0, 0), (0, 0)]) (jcall_v (A := [(0, 0), (0, 0), (0, 1)]) (S' := [(0, (w0 + (-w1) + w3))]) (r := 26) rfl (g75556.lt ad26) (g75556.tg ad26) (Nat.le_of_ble_eq_true rfl)) (by decide) ml106 pp106 (Nat.le_of_ble_eq_true rfl) rfl (by decide) (by decide) ?_
          refine ev_aload_n rfl ?_
          refine g_getp (r := 26) (c := 27) g75556 ad26 (by decide) (by decide) rf26_2 ft9_2 ?_
          refine ev_bipush ?_
          refine ev_iload_n rfl ?_
          refine ev_imul (r := 8) (by decide) ?_
          refine ev_iconst ?_
          refine ev_iload_n rfl ?_
          refine ev_imul (r := 0) (by decide) ?_
          refine ev_iadd (r := 8) (by decide) ?_
          refine ev_iload_n rfl ?_
          refine ev_iadd (r := 8) (by decide) ?_
          refine g_ialdv (v := w2) g75556 ad27 (by omega) (by omega) (((kk75556.v (by decide)).trans ew2)) ?_
          refine ev_ret rfl (by decide) (by decide) ?_
          show jEv _ _ _ _ _ _ _ (_, [(2, 26)], [(0, w2), (0, (w0 + (-w1) + w3))], _, _, _)
          refine ev_isub (r := (w0 + (-w1) + (-w2) + w3)) (by unfold w32; omega) ?_
          refine ev_ret rfl (by decide) (by decide) ?_
          show jEv _ _ _ _ _ _ _ (_, [(2, 26), (0, w2)], [(0, (w0 + (-w1) + (-w2) + w3))], _, _, _)
          refine ev_ifne f113_57 (fun c75559 => ?_) (fun c75559 => ?_)
          · refine ev_iconst ?_
            exact ev_ret rfl (by decide) (by decide) ⟨_, rfl, g75556, k75556, by omega, by omega, by unfold stF hiF grF lsF; have x := X75556; (repeat' split) <;> omega⟩
          · refine ev_iconst ?_
            refine ev_goto f113_58 ?_
            exact ev_ret rfl (by decide) (by decide) ⟨_, rfl, g75556, k75556, by omega, by omega, by unfold stF hiF grF lsF; have x := X75556; (repeat' split) <;> omega⟩
    · refine ev_iload_n rfl ?_
      refine ev_goto f379_10 ?_
      refine ev_ret rfl (by decide) (by decide) ?_
      show jEv _ _ _ _ _ _ _ (_, [(2, 26), (9, 0)], [(0, w1), (0, w2)], _, _, _)
      refine ev_in (d := 1) (a := 0) (b := 0) (cd' := c381_0) (m := 2) (L0 := [(0, w2), (0, w1)]) (jcall_s (A := [(0, w1), (0, w2)]) (S' := []) (by decide) rfl (Nat.le_of_ble_eq_true rfl)) (by decide) ml381 pp381 (Nat.le_of_ble_eq_true rfl) rfl (by decide) (by decide) ?_
      refine ev_iload_n rfl ?_
      refine ev_iload_n rfl ?_
      refine ev_icmpgt f381_9 (fun c75560 => ?_) (fun c75560 => ?_)
      · refine ev_iload_n rfl ?_
        refine ev_ret rfl (by decide) (by decide) ?_
        show jEv _ _ _ _ _ _ _ (_, [(2, 26), (9, 0)], [(0, w1)], _, _, _)
        refine ev_istore_n (L' := [(2, 26), (0, w1)]) (Nat.le_of_ble_eq_true rfl) rfl ?_
        refine ev_aload_n rfl ?_
        refine ev_call (jcall_v (A := []) (S' := []) (r := 26) rfl (g.lt ad26) (g.tg ad26) (Nat.le_of_ble_eq_true rfl)) (jOk_le (by decide) (t111 g (ew0) (by omega) (by omega) (ew1) (by omega) (by omega) (ew2) (by omega) (by omega) (ew3) (by omega) (by omega))) (by decide) (by decide) (fun w75561 h75561 q75561 => ?_)
        obtain ⟨v75562, rfl, g75561, kk75561, lv75562, uv75562, X75561⟩ := q75561
        have k75561 := k0.tr kk75561 (by decide)
        show jEv _ _ _ _ _ _ _ (_, [(2, 26), (0, w1)], [(0, v75562)], _, _, _)
        refine ev_iload_n rfl ?_
        refine ev_icmpeq f113_53 (fun c75563 => ?_) (fun c75563 => ?_)
        · refine ev_iconst ?_
          refine ev_goto f113_58 ?_
          exact ev_ret rfl (by decide) (by decide) ⟨_, rfl, g75561, k75561, by omega, by omega, by unfold stF hiF grF lsF; have x := X75561; (repeat' split) <;> omega⟩
        · refine ev_aload_n rfl ?_
          refine ev_in (d := 1) (a := 0) (b := 0) (cd' := c112_0) (m := 1) (L0 := [(2, 26)]) (jcall_v (A := []) (S' := []) (r := 26) rfl (g75561.lt ad26) (g75561.tg ad26) (Nat.le_of_ble_eq_true rfl)) (by decide) ml112 pp112 (Nat.le_of_ble_eq_true rfl) rfl (by decide) (by decide) ?_
          refine ev_aload_n rfl ?_
          refine ev_iconst ?_
          refine ev_iconst ?_
          refine ev_iconst ?_
          refine ev_in (d := 0) (a := 0) (b := 0) (cd' := c106_0) (m := 4) (L0 := [(2, 26), (0, 0), (0, 0), (0, 0)]) (jcall_v (A := [(0, 0), (0, 0), (0, 0)]) (S' := []) (r := 26) rfl (g75561.lt ad26) (g75561.tg ad26) (Nat.le_of_ble_eq_true rfl)) (by decide) ml106 pp106 (Nat.le_of_ble_eq_true rfl) rfl (by decide) (by decide) ?_
          refine ev_aload_n rfl ?_
          refine g_getp (r := 26) (c := 27) g75561 ad26 (by decide) (by decide) rf26_2 ft9_2 ?_
          refine ev_bipush ?_
          refine ev_iload_n rfl ?_
          refine ev_imul (r := 0) (by decide) ?_
          refine ev_iconst ?_
          refine ev_iload_n rfl ?_
          refine ev_imul (r := 0) (by decide) ?_
          refine ev_iadd (r := 0) (by decide) ?_
          refine ev_iload_n rfl ?_
          refine ev_iadd (r := 0) (by decide) ?_
          refine g_ialdv (v := w0) g75561 ad27 (by omega) (by omega) (((kk75561.v (by decide)).trans ew0)) ?_
          refine ev_ret rfl (by decide) (by decide) ?_
          show jEv _ _ _ _ _ _ _ (_, [(2, 26)], [(0, w0)], _, _, _)
          refine ev_aload_n rfl ?_
          refine ev_iconst ?_
          refine ev_iconst ?_
          refine ev_iconst ?_
          refine ev_in (d := 0) (a := 0) (b := 0) (cd' := c106_0) (m := 4) (L0 := [(2, 26), (0, 1), (0, 1), (0, 0)]) (jcall_v (A := [(0, 0), (0, 1), (0, 1)]) (S' := [(0, w0)]) (r := 26) rfl (g75561.lt ad26) (g75561.tg ad26) (Nat.le_of_ble_eq_true rfl)) (by decide) ml106 pp106 (Nat.le_of_ble_eq_true rfl) rfl (by decide) (by decide) ?_
          refine ev_aload_n rfl ?_
          refine g_getp (r := 26) (c := 27) g75561 ad26 (by decide) (by decide) rf26_2 ft9_2 ?_
          refine ev_bipush ?_
          refine ev_iload_n rfl ?_
          refine ev_imul (r := 8) (by decide) ?_
          refine ev_iconst ?_
          refine ev_iload_n rfl ?_
          refine ev_imul (r := 2) (by decide) ?_
          refine ev_iadd (r := 10) (by decide) ?_
          refine ev_iload_n rfl ?_
          refine ev_iadd (r := 10) (by decide) ?_
          refine g_ialdv (v := w3) g75561 ad27 (by omega) (by omega) (((kk75561.v (by decide)).trans ew3)) ?_
          refine ev_ret rfl (by decide) (by decide) ?_
          show jEv _ _ _ _ _ _ _ (_, [(2, 26)], [(0, w3), (0, w0)], _, _, _)
          refine ev_iadd (r := (w0 + w3)) (by unfold w32; omega) ?_
          refine ev_aload_n rfl ?_
          refine ev_iconst ?_
          refine ev_iconst ?_
          refine ev_iconst ?_
          refine ev_in (d := 0) (a := 0) (b := 0) (cd' := c106_0) (m := 4) (L0 := [(2, 26), (0, 0), (0, 1), (0, 0)]) (jcall_v (A := [(0, 0), (0, 1), (0, 0)]) (S' := [(0, (w0 + w3))]) (r := 26) rfl (g75561.lt ad26) (g75561.tg ad26) (Nat.le_of_ble_eq_true rfl)) (by decide) ml106 pp106 (Nat.le_of_ble_eq_true rfl) rfl (by decide) (by decide) ?_
          refine ev_aload_n rfl ?_
          refine g_getp (r := 26) (c := 27) g75561 ad26 (by decide) (by decide) rf26_2 ft9_2 ?_
          refine ev_bipush ?_
          refine ev_iload_n rfl ?_
          refine ev_imul (r := 0) (by decide) ?_
          refine ev_iconst ?_
          refine ev_iload_n rfl ?_
          refine ev_imul (r := 2) (by decide) ?_
          refine ev_iadd (r := 2) (by decide) ?_
          refine ev_iload_n rfl ?_
          refine ev_iadd (r := 2) (by decide) ?_
          refine g_ialdv (v := w1) g75561 ad27 (by omega) (by omega) (((kk75561.v (by decide)).trans ew1)) ?_
          refine ev_ret rfl (by decide) (by decide) ?_
          show jEv _ _ _ _ _ _ _ (_, [(2, 26)], [(0, w1), (0, (w0 + w3))], _, _, _)
          refine ev_isub (r := (w0 + (-w1) + w3)) (by unfold w32; omega) ?_
          refine ev_aload_n rfl ?_
          refine ev_iconst ?_
          refine ev_iconst ?_
          refine ev_iconst ?_
          refine ev_in (d := 0) (a := 0) (b := 0) (cd' := c106_0) (m := 4) (L0 := [(2, 26), (0, 1), (0, 0), (0, 0)]) (jcall_v (A := [(0, 0), (0, 0), (0, 1)]) (S' := [(0, (w0 + (-w1) + w3))]) (r := 26) rfl (g75561.lt ad26) (g75561.tg ad26) (Nat.le_of_ble_eq_true rfl)) (by decide) ml106 pp106 (Nat.le_of_ble_eq_true rfl) rfl (by decide) (by decide) ?_
          refine ev_aload_n rfl ?_
          refine g_getp (r := 26) (c := 27) g75561 ad26 (by decide) (by decide) rf26_2 ft9_2 ?_
          refine ev_bipush ?_
          refine ev_iload_n rfl ?_
          refine ev_imul (r := 8) (by decide) ?_
          refine ev_iconst ?_
          refine ev_iload_n rfl ?_
          refine ev_imul (r := 0) (by decide) ?_
          refine ev_iadd (r := 8) (by decide) ?_
          refine ev_iload_n rfl ?_
          refine ev_iadd (r := 8) (by decide) ?_
          refine g_ialdv (v := w2) g75561 ad27 (by omega) (by omega) (((kk75561.v (by decide)).trans ew2)) ?_
          refine ev_ret rfl (by decide) (by decide) ?_
          show jEv _ _ _ _ _ _ _ (_, [(2, 26)], [(0, w2), (0, (w0 + (-w1) + w3))], _, _, _)
          refine ev_isub (r := (w0 + (-w1) + (-w2) + w3)) (by unfold w32; omega) ?_
          refine ev_ret rfl (by decide) (by decide) ?_
          show jEv _ _ _ _ _ _ _ (_, [(2, 26), (0, w1)], [(0, (w0 + (-w1) + (-w2) + w3))], _, _, _)
          refine ev_ifne f113_57 (fun c75564 => ?_) (fun c75564 => absurd c75564 (by omega))
          refine ev_iconst ?_
          exact ev_ret rfl (by decide) (by decide) ⟨_, rfl, g75561, k75561, by omega, by omega, by unfold stF hiF grF lsF; have x := X75561; (repeat' split) <;> omega⟩
      · refine ev_iload_n rfl ?_
        refine ev_goto f381_10 ?_
        refine ev_ret rfl (by decide) (by decide) ?_
        show jEv _ _ _ _ _ _ _ (_, [(2, 26), (9, 0)], [(0, w2)], _, _, _)
        refine ev_istore_n (L' := [(2, 26), (0, w2)]) (Nat.le_of_ble_eq_true rfl) rfl ?_
        refine ev_aload_n rfl ?_
        refine ev_call (jcall_v (A := []) (S' := []) (r := 26) rfl (g.lt ad26) (g.tg ad26) (Nat.le_of_ble_eq_true rfl)) (jOk_le (by decide) (t111 g (ew0) (by omega) (by omega) (ew1) (by omega) (by omega) (ew2) (by omega) (by omega) (ew3) (by omega) (by omega))) (by decide) (by decide) (fun w75565 h75565 q75565 => ?_)
        obtain ⟨v75566, rfl, g75565, kk75565, lv75566, uv75566, X75565⟩ := q75565
        have k75565 := k0.tr kk75565 (by decide)
        show jEv _ _ _ _ _ _ _ (_, [(2, 26), (0, w2)], [(0, v75566)], _, _, _)
        refine ev_iload_n rfl ?_
        refine ev_icmpeq f113_53 (fun c75567 => ?_) (fun c75567 => ?_)
        · refine ev_iconst ?_
          refine ev_goto f113_58 ?_
          exact ev_ret rfl (by decide) (by decide) ⟨_, rfl, g75565, k75565, by omega, by omega, by unfold stF hiF grF lsF; have x := X75565; (repeat' split) <;> omega⟩
        · refine ev_aload_n rfl ?_
          refine ev_in (d := 1) (a := 0) (b := 0) (cd' := c112_0) (m := 1) (L0 := [(2, 26)]) (jcall_v (A := []) (S' := []) (r := 26) rfl (g75565.lt ad26) (g75565.tg ad26) (Nat.le_of_ble_eq_true rfl)) (by decide) ml112 pp112 (Nat.le_of_ble_eq_true rfl) rfl (by decide) (by decide) ?_
          refine ev_aload_n rfl ?_
          refine ev_iconst ?_
          refine ev_iconst ?_
          refine ev_iconst ?_
          refine ev_in (d := 0) (a := 0) (b := 0) (cd' := c106_0) (m := 4) (L0 := [(2, 26), (0, 0), (0, 0), (0, 0)]) (jcall_v (A := [(0, 0), (0, 0), (0, 0)]) (S' := []) (r := 26) rfl (g75565.lt ad26) (g75565.tg ad26) (Nat.le_of_ble_eq_true rfl)) (by decide) ml106 pp106 (Nat.le_of_ble_eq_true rfl) rfl (by decide) (by decide) ?_
          refine ev_aload_n rfl ?_
          refine g_getp (r := 26) (c := 27) g75565 ad26 (by decide) (by decide) rf26_2 ft9_2 ?_
          refine ev_bipush ?_
          refine ev_iload_n rfl ?_
          refine ev_imul (r := 0) (by decide) ?_
          refine ev_iconst ?_
          refine ev_iload_n rfl ?_
          refine ev_imul (r := 0) (by decide) ?_
          refine ev_iadd (r := 0) (by decide) ?_
          refine ev_iload_n rfl ?_
          refine ev_iadd (r := 0) (by decide) ?_
          refine g_ialdv (v := w0) g75565 ad27 (by omega) (by omega) (((kk75565.v (by decide)).trans ew0)) ?_
          refine ev_ret rfl (by decide) (by decide) ?_
          show jEv _ _ _ _ _ _ _ (_, [(2, 26)], [(0, w0)], _, _, _)
          refine ev_aload_n rfl ?_
          refine ev_iconst ?_
          refine ev_iconst ?_
          refine ev_iconst ?_
          refine ev_in (d := 0) (a := 0) (b := 0) (cd' := c106_0) (m := 4) (L0 := [(2, 26), (0, 1), (0, 1), (0, 0)]) (jcall_v (A := [(0, 0), (0, 1), (0, 1)]) (S' := [(0, w0)]) (r := 26) rfl (g75565.lt ad26) (g75565.tg ad26) (Nat.le_of_ble_eq_true rfl)) (by decide) ml106 pp106 (Nat.le_of_ble_eq_true rfl) rfl (by decide) (by decide) ?_
          refine ev_aload_n rfl ?_
          refine g_getp (r := 26) (c := 27) g75565 ad26 (by decide) (by decide) rf26_2 ft9_2 ?_
          refine ev_bipush ?_
          refine ev_iload_n rfl ?_
          refine ev_imul (r := 8) (by decide) ?_
          refine ev_iconst ?_
          refine ev_iload_n rfl ?_
          refine ev_imul (r := 2) (by decide) ?_
          refine ev_iadd (r := 10) (by decide) ?_
          refine ev_iload_n rfl ?_
          refine ev_iadd (r := 10) (by decide) ?_
          refine g_ialdv (v := w3) g75565 ad27 (by omega) (by omega) (((kk75565.v (by decide)).trans ew3)) ?_
          refine ev_ret rfl (by decide) (by decide) ?_
          show jEv _ _ _ _ _ _ _ (_, [(2, 26)], [(0, w3), (0, w0)], _, _, _)
          refine ev_iadd (r := (w0 + w3)) (by unfold w32; omega) ?_
          refine ev_aload_n rfl ?_
          refine ev_iconst ?_
          refine ev_iconst ?_
          refine ev_iconst ?_
          refine ev_in (d := 0) (a := 0) (b := 0) (cd' := c106_0) (m := 4) (L0 := [(2, 26), (0, 0), (0, 1), (0, 0)]) (jcall_v (A := [(0, 0), (0, 1), (0, 0)]) (S' := [(0, (w0 + w3))]) (r := 26) rfl (g75565.lt ad26) (g75565.tg ad26) (Nat.le_of_ble_eq_true rfl)) (by decide) ml106 pp106 (Nat.le_of_ble_eq_true rfl) rfl (by decide) (by decide) ?_
          refine ev_aload_n rfl ?_
          refine g_getp (r := 26) (c := 27) g75565 ad26 (by decide) (by decide) rf26_2 ft9_2 ?_
          refine ev_bipush ?_
          refine ev_iload_n rfl ?_
          refine ev_imul (r := 0) (by decide) ?_
          refine ev_iconst ?_
          refine ev_iload_n rfl ?_
          refine ev_imul (r := 2) (by decide) ?_
          refine ev_iadd (r := 2) (by decide) ?_
          refine ev_iload_n rfl ?_
          refine ev_iadd (r := 2) (by decide) ?_
          refine g_ialdv (v := w1) g75565 ad27 (by omega) (by omega) (((kk75565.v (by decide)).trans ew1)) ?_
          refine ev_ret rfl (by decide) (by decide) ?_
          show jEv _ _ _ _ _ _ _ (_, [(2, 26)], [(0, w1), (0, (w0 + w3))], _, _, _)
          refine ev_isub (r := (w0 + (-w1) + w3)) (by unfold w32; omega) ?_
          refine ev_aload_n rfl ?_
          refine ev_iconst ?_
          refine ev_iconst ?_
          refine ev_iconst ?_
          refine ev_in (d := 0) (a := 0) (b := 0) (cd' := c106_0) (m := 4) (L0 := [(2, 26), (0, 1), (0, 0), (0, 0)]) (jcall_v (A := [(0, 0), (0, 0), (0, 1)]) (S' := [(0, (w0 + (-w1) + w3))]) (r := 26) rfl (g75565.lt ad26) (g75565.tg ad26) (Nat.le_of_ble_eq_true rfl)) (by decide) ml106 pp106 (Nat.le_of_ble_eq_true rfl) rfl (by decide) (by decide) ?_
          refine ev_aload_n rfl ?_
          refine g_getp (r := 26) (c := 27) g75565 ad26 (by decide) (by decide) rf26_2 ft9_2 ?_
          refine ev_bipush ?_
          refine ev_iload_n rfl ?_
          refine ev_imul (r := 8) (by decide) ?_
          refine ev_iconst ?_
          refine ev_iload_n rfl ?_
          refine ev_imul (r := 0) (by decide) ?_
          refine ev_iadd (r := 8) (by decide) ?_
          refine ev_iload_n rfl ?_
          refine ev_iadd (r := 8) (by decide) ?_
          refine g_ialdv (v := w2) g75565 ad27 (by omega) (by omega) (((kk75565.v (by decide)).trans ew2)) ?_
          refine ev_ret rfl (by decide) (by decide) ?_
          show jEv _ _ _ _ _ _ _ (_, [(2, 26)], [(0, w2), (0, (w0 + (-w1) + w3))], _, _, _)
          refine ev_isub (r := (w0 + (-w1) + (-w2) + w3)) (by unfold w32; omega) ?_
          refine ev_ret rfl (by decide) (by decide) ?_
          show jEv _ _ _ _ _ _ _ (_, [(2, 26), (0, w2)], [(0, (w0 + (-w1) + (-w2) + w3))], _, _, _)
          refine ev_ifne f113_57 (fun c75568 => ?_) (fun c75568 => absurd c75568 (by omega))
          refine ev_iconst ?_
          exact ev_ret rfl (by decide) (by decide) ⟨_, rfl, g75565, k75565, by omega, by omega, by unfold stF hiF grF lsF; have x := X75565; (repeat' split) <;> omega⟩
  · refine ev_iload_n rfl ?_
    refine ev_goto f379_10 ?_
    refine ev_ret rfl (by decide) (by decide) ?_
    show jEv _ _ _ _ _ _ _ (_, [(2, 26), (9, 0)], [(0, w0)], _, _, _)
    refine ev_aload_n rfl ?_
    refine ev_iconst ?_
    refine ev_iconst ?_
    refine ev_iconst ?_
    refine ev_in (d := 1) (a := 0) (b := 0) (cd' := c106_0) (m := 4) (L0 := [(2, 26), (0, 0), (0, 1), (0, 0)]) (jcall_v (A := [(0, 0), (0, 1), (0, 0)]) (S' := [(0, w0)]) (r := 26) rfl (g.lt ad26) (g.tg ad26) (Nat.le_of_ble_eq_true rfl)) (by decide) ml106 pp106 (Nat.le_of_ble_eq_true rfl) rfl (by decide) (by decide) ?_
    refine ev_aload_n rfl ?_
    refine g_getp (r := 26) (c := 27) g ad26 (by decide) (by decide) rf26_2 ft9_2 ?_
    refine ev_bipush ?_
    refine ev_iload_n rfl ?_
    refine ev_imul (r := 0) (by decide) ?_
    refine ev_iconst ?_
    refine ev_iload_n rfl ?_
    refine ev_imul (r := 2) (by decide) ?_
    refine ev_iadd (r := 2) (by decide) ?_
    refine ev_iload_n rfl ?_
    refine ev_iadd (r := 2) (by decide) ?_
    refine g_ialdv (v := w1) g ad27 (by omega) (by omega) (ew1) ?_
    refine ev_ret rfl (by decide) (by decide) ?_
    show jEv _ _ _ _ _ _ _ (_, [(2, 26), (9, 0)], [(0, w1), (0, w0)], _, _, _)
    refine ev_aload_n rfl ?_
    refine ev_iconst ?_
    refine ev_iconst ?_
    refine ev_iconst ?_
    refine ev_in (d := 1) (a := 0) (b := 0) (cd' := c106_0) (m := 4) (L0 := [(2, 26), (0, 1), (0, 1), (0, 0)]) (jcall_v (A := [(0, 0), (0, 1), (0, 1)]) (S' := [(0, w1), (0, w0)]) (r := 26) rfl (g.lt ad26) (g.tg ad26) (Nat.le_of_ble_eq_true rfl)) (by decide) ml106 pp106 (Nat.le_of_ble_eq_true rfl) rfl (by decide) (by decide) ?_
    refine ev_aload_n rfl ?_
    refine g_getp (r := 26) (c := 27) g ad26 (by decide) (by decide) rf26_2 ft9_2 ?_
    refine ev_bipush ?_
    refine ev_iload_n rfl ?_
    refine ev_imul (r := 8) (by decide) ?_
    refine ev_iconst ?_
    refine ev_iload_n rfl ?_
    refine ev_imul (r := 2) (by decide) ?_
    refine ev_iadd (r := 10) (by decide) ?_
    refine ev_iload_n rfl ?_
    refine ev_iadd (r := 10) (by decide) ?_
    refine g_ialdv (v := w3) g ad27 (by omega) (by omega) (ew3) ?_
    refine ev_ret rfl (by decide) (by decide) ?_
    show jEv _ _ _ _ _ _ _ (_, [(2, 26), (9, 0)], [(0, w3), (0, w1), (0, w0)], _, _, _)
    refine ev_in (d := 1) (a := 0) (b := 0) (cd' := c379_0) (m := 2) (L0 := [(0, w1), (0, w3)]) (jcall_s (A := [(0, w3), (0, w1)]) (S' := [(0, w0)]) (by decide) rfl (Nat.le_of_ble_eq_true rfl)) (by decide) ml379 pp379 (Nat.le_of_ble_eq_true rfl) rfl (by decide) (by decide) ?_
    refine ev_iload_n rfl ?_
    refine ev_iload_n rfl ?_
    refine ev_icmplt f379_9 (fun c75569 => ?_) (fun c75569 => ?_)
    · refine ev_iload_n rfl ?_
      refine ev_ret rfl (by decide) (by decide) ?_
      show jEv _ _ _ _ _ _ _ (_, [(2, 26), (9, 0)], [(0, w3), (0, w0)], _, _, _)
      refine ev_in (d := 1) (a := 0) (b := 0) (cd' := c381_0) (m := 2) (L0 := [(0, w0), (0, w3)]) (jcall_s (A := [(0, w3), (0, w0)]) (S' := []) (by decide) rfl (Nat.le_of_ble_eq_true rfl)) (by decide) ml381 pp381 (Nat.le_of_ble_eq_true rfl) rfl (by decide) (by decide) ?_
      refine ev_iload_n rfl ?_
      refine ev_iload_n rfl ?_
      refine ev_icmpgt f381_9 (fun c75570 => ?_) (fun c75570 => ?_)
      · refine ev_iload_n rfl ?_
        refine ev_ret rfl (by decide) (by decide) ?_
        show jEv _ _ _ _ _ _ _ (_, [(2, 26), (9, 0)], [(0, w3)], _, _, _)
        refine ev_istore_n (L' := [(2, 26), (0, w3)]) (Nat.le_of_ble_eq_true rfl) rfl ?_
        refine ev_aload_n rfl ?_
        refine ev_call (jcall_v (A := []) (S' := []) (r := 26) rfl (g.lt ad26) (g.tg ad26) (Nat.le_of_ble_eq_true rfl)) (jOk_le (by decide) (t111 g (ew0) (by omega) (by omega) (ew1) (by omega) (by omega) (ew2) (by omega) (by omega) (ew3) (by omega) (by omega))) (by decide) (by decide) (fun w75571 h75571 q75571 => ?_)
        obtain ⟨v75572, rfl, g75571, kk75571, lv75572, uv75572, X75571⟩ := q75571
        have k75571 := k0.tr kk75571 (by decide)
        show jEv _ _ _ _ _ _ _ (_, [(2, 26), (0, w3)], [(0, v75572)], _, _, _)
        refine ev_iload_n rfl ?_
        refine ev_icmpeq f113_53 (fun c75573 => ?_) (fun c75573 => ?_)
        · refine ev_iconst ?_
          refine ev_goto f113_58 ?_
          exact ev_ret rfl (by decide) (by decide) ⟨_, rfl, g75571, k75571, by omega, by omega, by unfold stF hiF grF lsF; have x := X75571; (repeat' split) <;> omega⟩
        · refine ev_aload_n rfl ?_
          refine ev_in (d := 1) (a := 0) (b := 0) (cd' := c112_0) (m := 1) (L0 := [(2, 26)]) (jcall_v (A := []) (S' := []) (r := 26) rfl (g75571.lt ad26) (g75571.tg ad26) (Nat.le_of_ble_eq_true rfl)) (by decide) ml112 pp112 (Nat.le_of_ble_eq_true rfl) rfl (by decide) (by decide) ?_
          refine ev_aload_n rfl ?_
          refine ev_iconst ?_
          refine ev_iconst ?_
          refine ev_iconst ?_
          refine ev_in (d := 0) (a := 0) (b := 0) (cd' := c106_0) (m := 4) (L0 := [(2, 26), (0, 0), (0, 0), (0, 0)]) (jcall_v (A := [(0, 0), (0, 0), (0, 0)]) (S' := []) (r := 26) rfl (g75571.lt ad26) (g75571.tg ad26) (Nat.le_of_ble_eq_true rfl)) (by decide) ml106 pp106 (Nat.le_of_ble_eq_true rfl) rfl (by decide) (by decide) ?_
          refine ev_aload_n rfl ?_
          refine g_getp (r := 26) (c := 27) g75571 ad26 (by decide) (by decide) rf26_2 ft9_2 ?_
          refine ev_bipush ?_
          refine ev_iload_n rfl ?_
          refine ev_imul (r := 0) (by decide) ?_
          refine ev_iconst ?_
          refine ev_iload_n rfl ?_
          refine ev_imul (r := 0) (by decide) ?_
          refine ev_iadd (r := 0) (by decide) ?_
          refine ev_iload_n rfl ?_
          refine ev_iadd (r := 0) (by decide) ?_
          refine g_ialdv (v := w0) g75571 ad27 (by omega) (by omega) (((kk75571.v (by decide)).trans ew0)) ?_
          refine ev_ret rfl (by decide) (by decide) ?_
          show jEv _ _ _ _ _ _ _ (_, [(2, 26)], [(0, w0)], _, _, _)
          refine ev_aload_n rfl ?_
          refine ev_iconst ?_
          refine ev_iconst ?_
          refine ev_iconst ?_
          refine ev_in (d := 0) (a := 0) (b := 0) (cd' := c106_0) (m := 4) (L0 := [(2, 26), (0, 1), (0, 1), (0, 0)]) (jcall_v (A := [(0, 0), (0, 1), (0, 1)]) (S' := [(0, w0)]) (r := 26) rfl (g75571.lt ad26) (g75571.tg ad26) (Nat.le_of_ble_eq_true rfl)) (by decide) ml106 pp106 (Nat.le_of_ble_eq_true rfl) rfl (by decide) (by decide) ?_
          refine ev_aload_n rfl ?_
          refine g_getp (r := 26) (c := 27) g75571 ad26 (by decide) (by decide) rf26_2 ft9_2 ?_
          refine ev_bipush ?_
          refine ev_iload_n rfl ?_
          refine ev_imul (r := 8) (by decide) ?_
          refine ev_iconst ?_
          refine ev_iload_n rfl ?_
          refine ev_imul (r := 2) (by decide) ?_
          refine ev_iadd (r := 10) (by decide) ?_
          refine ev_iload_n rfl ?_
          refine ev_iadd (r := 10) (by decide) ?_
          refine g_ialdv (v := w3) g75571 ad27 (by omega) (by omega) (((kk75571.v (by decide)).trans ew3)) ?_
          refine ev_ret rfl (by decide) (by decide) ?_
          show jEv _ _ _ _ _ _ _ (_, [(2, 26)], [(0, w3), (0, w0)], _, _, _)
          refine ev_iadd (r := (w0 + w3)) (by unfold w32; omega) ?_
          refine ev_aload_n rfl ?_
          refine ev_iconst ?_
          refine ev_iconst ?_
          refine ev_iconst ?_
          refine ev_in (d := 0) (a := 0) (b := 0) (cd' := c106_0) (m := 4) (L0 := [(2, 26), (0, 0), (0, 1), (0, 0)]) (jcall_v (A := [(0, 0), (0, 1), (0, 0)]) (S' := [(0, (w0 + w3))]) (r := 26) rfl (g75571.lt ad26) (g75571.tg ad26) (Nat.le_of_ble_eq_true rfl)) (by decide) ml106 pp106 (Nat.le_of_ble_eq_true rfl) rfl (by decide) (by decide) ?_
          refine ev_aload_n rfl ?_
          refine g_getp (r := 26) (c := 27) g75571 ad26 (by decide) (by decide) rf26_2 ft9_2 ?_
          refine ev_bipush ?_
          refine ev_iload_n rfl ?_
          refine ev_imul (r := 0) (by decide) ?_
          refine ev_iconst ?_
          refine ev_iload_n rfl ?_
          refine ev_imul (r := 2) (by decide) ?_
          refine ev_iadd (r := 2) (by decide) ?_
          refine ev_iload_n rfl ?_
          refine ev_iadd (r := 2) (by decide) ?_
          refine g_ialdv (v := w1) g75571 ad27 (by omega) (by omega) (((kk75571.v (by decide)).trans ew1)) ?_
          refine ev_ret rfl (by decide) (by decide) ?_
          show jEv _ _ _ _ _ _ _ (_, [(2, 26)], [(0, w1), (0, (w0 + w3))], _, _, _)
          refine ev_isub (r := (w0 + (-w1) + w3)) (by unfold w32; omega) ?_
          refine ev_aload_n rfl ?_
          refine ev_iconst ?_
          refine ev_iconst ?_
          refine ev_iconst ?_
          refine ev_in (d := 0) (a := 0) (b := 0) (cd' := c106_0) (m := 4) (L0 := [(2, 26), (0, 1), (0, 0), (0, 0)]) (jcall_v (A := [(0, 0), (0, 0), (0, 1)]) (S' := [(0, (w0 + (-w1) + w3))]) (r := 26) rfl (g75571.lt ad26) (g75571.tg ad26) (Nat.le_of_ble_eq_true rfl)) (by decide) ml106 pp106 (Nat.le_of_ble_eq_true rfl) rfl (by decide) (by decide) ?_
          refine ev_aload_n rfl ?_
          refine g_getp (r := 26) (c := 27) g75571 ad26 (by decide) (by decide) rf26_2 ft9_2 ?_
          refine ev_bipush ?_
          refine ev_iload_n rfl ?_
          refine ev_imul (r := 8) (by decide) ?_
          refine ev_iconst ?_
          refine ev_iload_n rfl ?_
          refine ev_imul (r := 0) (by decide) ?_
          refine ev_iadd (r := 8) (by decide) ?_
          refine ev_iload_n rfl ?_
          refine ev_iadd (r := 8) (by decide) ?_
          refine g_ialdv (v := w2) g75571 ad27 (by omega) (by omega) (((kk75571.v (by decide)).trans ew2)) ?_
          refine ev_ret rfl (by decide) (by decide) ?_
          show jEv _ _ _ _ _ _ _ (_, [(2, 26)], [(0, w2), (0, (w0 + (-w1) + w3))], _, _, _)
          refine ev_isub (r := (w0 + (-w1) + (-w2) + w3)) (by unfold w32; omega) ?_
          refine ev_ret rfl (by decide) (by decide) ?_
          show jEv _ _ _ _ _ _ _ (_, [(2, 26), (0, w3)], [(0, (w0 + (-w1) + (-w2) + w3))], _, _, _)
          refine ev_ifne f113_57 (fun c75574 => ?_) (fun c75574 => absurd c75574 (by omega))
          refine ev_iconst ?_
          exact ev_ret rfl (by decide) (by decide) ⟨_, rfl, g75571, k75571, by omega, by omega, by unfold stF hiF grF lsF; have x := X75571; (repeat' split) <;> omega⟩
      · refine ev_iload_n rfl ?_
        refine ev_goto f381_10 ?_
        refine ev_ret rfl (by decide) (by decide) ?_
        show jEv _ _ _ _ _ _ _ (_, [(2, 26), (9, 0)], [(0, w0)], _, _, _)
        refine ev_istore_n (L' := [(2, 26), (0, w0)]) (Nat.le_of_ble_eq_true rfl) rfl ?_
        refine ev_aload_n rfl ?_
        refine ev_call (jcall_v (A := []) (S' := []) (r := 26) rfl (g.lt ad26) (g.tg ad26) (Nat.le_of_ble_eq_true rfl)) (jOk_le (by decide) (t111 g (ew0) (by omega) (by omega) (ew1) (by omega) (by omega) (ew2) (by omega) (by omega) (ew3) (by omega) (by omega))) (by decide) (by decide) (fun w75575 h75575 q75575 => ?_)
        obtain ⟨v75576, rfl, g75575, kk75575, lv75576, uv75576, X75575⟩ := q75575
        have k75575 := k0.tr kk75575 (by decide)
        show jEv _ _ _ _ _ _ _ (_, [(2, 26), (0, w0)], [(0, v75576)], _, _, _)
        refine ev_iload_n rfl ?_
        refine ev_icmpeq f113_53 (fun c75577 => ?_) (fun c75577 => ?_)
        · refine ev_iconst ?_
          refine ev_goto f113_58 ?_
          exact ev_ret rfl (by decide) (by decide) ⟨_, rfl, g75575, k75575, by omega, by omega, by unfold stF hiF grF lsF; have x := X75575; (repeat' split) <;> omega⟩
        · refine ev_aload_n rfl ?_
          refine ev_in (d := 1) (a := 0) (b := 0) (cd' := c112_0) (m := 1) (L0 := [(2, 26)]) (jcall_v (A := []) (S' := []) (r := 26) rfl (g75575.lt ad26) (g75575.tg ad26) (Nat.le_of_ble_eq_true rfl)) (by decide) ml112 pp112 (Nat.le_of_ble_eq_true rfl) rfl (by decide) (by decide) ?_
          refine ev_aload_n rfl ?_
          refine ev_iconst ?_
          refine ev_iconst ?_
          refine ev_iconst ?_
          refine ev_in (d := 0) (a := 0) (b := 0) (cd' := c106_0) (m := 4) (L0 := [(2, 26), (0, 0), (0, 0), (0, 0)]) (jcall_v (A := [(0, 0), (0, 0), (0, 0)]) (S' := []) (r := 26) rfl (g75575.lt ad26) (g75575.tg ad26) (Nat.le_of_ble_eq_true rfl)) (by decide) ml106 pp106 (Nat.le_of_ble_eq_true rfl) rfl (by decide) (by decide) ?_
          refine ev_aload_n rfl ?_
          refine g_getp (r := 26) (c := 27) g75575 ad26 (by decide) (by decide) rf26_2 ft9_2 ?_
          refine ev_bipush ?_
          refine ev_iload_n rfl ?_
          refine ev_imul (r := 0) (by decide) ?_
          refine ev_iconst ?_
          refine ev_iload_n rfl ?_
          refine ev_imul (r := 0) (by decide) ?_
          refine ev_iadd (r := 0) (by decide) ?_
          refine ev_iload_n rfl ?_
          refine ev_iadd (r := 0) (by decide) ?_
          refine g_ialdv (v := w0) g75575 ad27 (by omega) (by omega) (((kk75575.v (by decide)).trans ew0)) ?_
          refine ev_ret rfl (by decide) (by decide) ?_
          show jEv _ _ _ _ _ _ _ (_, [(2, 26)], [(0, w0)], _, _, _)
          refine ev_aload_n rfl ?_
          refine ev_iconst ?_
          refine ev_iconst ?_
          refine ev_iconst ?_
          refine ev_in (d := 0) (a := 0) (b := 0) (cd' := c106_0) (m := 4) (L0 := [(2, 26), (0, 1), (0, 1), (0, 0)]) (jcall_v (A := [(0, 0), (0, 1), (0, 1)]) (S' := [(0, w0)]) (r := 26) rfl (g75575.lt ad26) (g75575.tg ad26) (Nat.le_of_ble_eq_true rfl)) (by decide) ml106 pp106 (Nat.le_of_ble_eq_true rfl) rfl (by decide) (by decide) ?_
          refine ev_aload_n rfl ?_
          refine g_getp (r := 26) (c := 27) g75575 ad26 (by decide) (by decide) rf26_2 ft9_2 ?_
          refine ev_bipush ?_
          refine ev_iload_n rfl ?_
          refine ev_imul (r := 8) (by decide) ?_
          refine ev_iconst ?_
          refine ev_iload_n rfl ?_
          refine ev_imul (r := 2) (by decide) ?_
          refine ev_iadd (r := 10) (by decide) ?_
          refine ev_iload_n rfl ?_
          refine ev_iadd (r := 10) (by decide) ?_
          refine g_ialdv (v := w3) g75575 ad27 (by omega) (by omega) (((kk75575.v (by decide)).trans ew3)) ?_
          refine ev_ret rfl (by decide) (by decide) ?_
          show jEv _ _ _ _ _ _ _ (_, [(2, 26)], [(0, w3), (0, w0)], _, _, _)
          refine ev_iadd (r := (w0 + w3)) (by unfold w32; omega) ?_
          refine ev_aload_n rfl ?_
          refine ev_iconst ?_
          refine ev_iconst ?_
          refine ev_iconst ?_
          refine ev_in (d := 0) (a := 0) (b := 0) (cd' := c106_0) (m := 4) (L0 := [(2, 26), (0, 0), (0, 1), (0, 0)]) (jcall_v (A := [(0, 0), (0, 1), (0, 0)]) (S' := [(0, (w0 + w3))]) (r := 26) rfl (g75575.lt ad26) (g75575.tg ad26) (Nat.le_of_ble_eq_true rfl)) (by decide) ml106 pp106 (Nat.le_of_ble_eq_true rfl) rfl (by decide) (by decide) ?_
          refine ev_aload_n rfl ?_
          refine g_getp (r := 26) (c := 27) g75575 ad26 (by decide) (by decide) rf26_2 ft9_2 ?_
          refine ev_bipush ?_
          refine ev_iload_n rfl ?_
          refine ev_imul (r := 0) (by decide) ?_
          refine ev_iconst ?_
          refine ev_iload_n rfl ?_
          refine ev_imul (r := 2) (by decide) ?_
          refine ev_iadd (r := 2) (by decide) ?_
          refine ev_iload_n rfl ?_
          refine ev_iadd (r := 2) (by decide) ?_
          refine g_ialdv (v := w1) g75575 ad27 (by omega) (by omega) (((kk75575.v (by decide)).trans ew1)) ?_
          refine ev_ret rfl (by decide) (by decide) ?_
          show jEv _ _ _ _ _ _ _ (_, [(2, 26)], [(0, w1), (0, (w0 + w3))], _, _, _)
          refine ev_isub (r := (w0 + (-w1) + w3)) (by unfold w32; omega) ?_
          refine ev_aload_n rfl ?_
          refine ev_iconst ?_
          refine ev_iconst ?_
          refine ev_iconst ?_
          refine ev_in (d := 0) (a := 0) (b := 0) (cd' := c106_0) (m := 4) (L0 := [(2, 26), (0, 1), (0, 0), (0, 0)]) (jcall_v (A := [(0, 0), (0, 0), (0, 1)]) (S' := [(0, (w0 + (-w1) + w3))]) (r := 26) rfl (g75575.lt ad26) (g75575.tg ad26) (Nat.le_of_ble_eq_true rfl)) (by decide) ml106 pp106 (Nat.le_of_ble_eq_true rfl) rfl (by decide) (by decide) ?_
          refine ev_aload_n rfl ?_
          refine g_getp (r := 26) (c := 27) g75575 ad26 (by decide) (by decide) rf26_2 ft9_2 ?_
          refine ev_bipush ?_
          refine ev_iload_n rfl ?_
          refine ev_imul (r := 8) (by decide) ?_
          refine ev_iconst ?_
          refine ev_iload_n rfl ?_
          refine ev_imul (r := 0) (by decide) ?_
          refine ev_iadd (r := 8) (by decide) ?_
          refine ev_iload_n rfl ?_
          refine ev_iadd (r := 8) (by decide) ?_
          refine g_ialdv (v := w2) g75575 ad27 (by omega) (by omega) (((kk75575.v (by decide)).trans ew2)) ?_
          refine ev_ret rfl (by decide) (by decide) ?_
          show jEv _ _ _ _ _ _ _ (_, [(2, 26)], [(0, w2), (0, (w0 + (-w1) + w3))], _, _, _)
          refine ev_isub (r := (w0 + (-w1) + (-w2) + w3)) (by unfold w32; omega) ?_
          refine ev_ret rfl (by decide) (by decide) ?_
          show jEv _ _ _ _ _ _ _ (_, [(2, 26), (0, w0)], [(0, (w0 + (-w1) + (-w2) + w3))], _, _, _)
          refine ev_ifne f113_57 (fun c75578 => ?_) (fun c75578 => absurd c75578 (by omega))
          refine ev_iconst ?_
          exact ev_ret rfl (by decide) (by decide) ⟨_, rfl, g75575, k75575, by omega, by omega, by unfold stF hiF grF lsF; have x := X75575; (repeat' split) <;> omega⟩
    · refine ev_iload_n rfl ?_
      refine ev_goto f379_10 ?_
      refine ev_ret rfl (by decide) (by decide) ?_
      show jEv _ _ _ _ _ _ _ (_, [(2, 26), (9, 0)], [(0, w1), (0, w0)], _, _, _)
      refine ev_in (d := 1) (a := 0) (b := 0) (cd' := c381_0) (m := 2) (L0 := [(0, w0), (0, w1)]) (jcall_s (A := [(0, w1), (0, w0)]) (S' := []) (by decide) rfl (Nat.le_of_ble_eq_true rfl)) (by decide) ml381 pp381 (Nat.le_of_ble_eq_true rfl) rfl (by decide) (by decide) ?_
      refine ev_iload_n rfl ?_
      refine ev_iload_n rfl ?_
      refine ev_icmpgt f381_9 (fun c75579 => ?_) (fun c75579 => ?_)
      · refine ev_iload_n rfl ?_
        refine ev_ret rfl (by decide) (by decide) ?_
        show jEv _ _ _ _ _ _ _ (_, [(2, 26), (9, 0)], [(0, w1)], _, _, _)
        refine ev_istore_n (L' := [(2, 26), (0, w1)]) (Nat.le_of_ble_eq_true rfl) rfl ?_
        refine ev_aload_n rfl ?_
        refine ev_call (jcall_v (A := []) (S' := []) (r := 26) rfl (g.lt ad26) (g.tg ad26) (Nat.le_of_ble_eq_true rfl)) (jOk_le (by decide) (t111 g (ew0) (by omega) (by omega) (ew1) (by omega) (by omega) (ew2) (by omega) (by omega) (ew3) (by omega) (by omega))) (by decide) (by decide) (fun w75580 h75580 q75580 => ?_)
        obtain ⟨v75581, rfl, g75580, kk75580, lv75581, uv75581, X75580⟩ := q75580
        have k75580 := k0.tr kk75580 (by decide)
        show jEv _ _ _ _ _ _ _ (_, [(2, 26), (0, w1)], [(0, v75581)], _, _, _)
        refine ev_iload_n rfl ?_
        refine ev_icmpeq f113_53 (fun c75582 => ?_) (fun c75582 => ?_)
        · refine ev_iconst ?_
          refine ev_goto f113_58 ?_
          exact ev_ret rfl (by decide) (by decide) ⟨_, rfl, g75580, k75580, by omega, by omega, by unfold stF hiF grF lsF; have x := X75580; (repeat' split) <;> omega⟩
        · refine ev_aload_n rfl ?_
          refine ev_in (d := 1) (a := 0) (b := 0) (cd' := c112_0) (m := 1) (L0 := [(2, 26)]) (jcall_v (A := []) (S' := []) (r := 26) rfl (g75580.lt ad26) (g75580.tg ad26) (Nat.le_of_ble_eq_true rfl)) (by decide) ml112 pp112 (Nat.le_of_ble_eq_true rfl) rfl (by decide) (by decide) ?_
          refine ev_aload_n rfl ?_
          refine ev_iconst ?_
          refine ev_iconst ?_
          refine ev_iconst ?_
          refine ev_in (d := 0) (a := 0) (b := 0) (cd' := c106_0) (m := 4) (L0 := [(2, 26), (0, 0), (0, 0), (0, 0)]) (jcall_v (A := [(0, 0), (0, 0), (0, 0)]) (S' := []) (r := 26) rfl (g75580.lt ad26) (g75580.tg ad26) (Nat.le_of_ble_eq_true rfl)) (by decide) ml106 pp106 (Nat.le_of_ble_eq_true rfl) rfl (by decide) (by decide) ?_
          refine ev_aload_n rfl ?_
          refine g_getp (r := 26) (c := 27) g75580 ad26 (by decide) (by decide) rf26_2 ft9_2 ?_
          refine ev_bipush ?_
          refine ev_iload_n rfl ?_
          refine ev_imul (r := 0) (by decide) ?_
          refine ev_iconst ?_
          refine ev_iload_n rfl ?_
          refine ev_imul (r := 0) (by decide) ?_
          refine ev_iadd (r := 0) (by decide) ?_
          refine ev_iload_n rfl ?_
          refine ev_iadd (r := 0) (by decide) ?_
          refine g_ialdv (v := w0) g75580 ad27 (by omega) (by omega) (((kk75580.v (by decide)).trans ew0)) ?_
          refine ev_ret rfl (by decide) (by decide) ?_
          show jEv _ _ _ _ _ _ _ (_, [(2, 26)], [(0, w0)], _, _, _)
          refine ev_aload_n rfl ?_
          refine ev_iconst ?_
          refine ev_iconst ?_
          refine ev_iconst ?_
          refine ev_in (d := 0) (a := 0) (b := 0) (cd' := c106_0) (m := 4) (L0 := [(2, 26), (0, 1), (0, 1), (0, 0)]) (jcall_v (A := [(0, 0), (0, 1), (0, 1)]) (S' := [(0, w0)]) (r := 26) rfl (g75580.lt ad26) (g75580.tg ad26) (Nat.le_of_ble_eq_true rfl)) (by decide) ml106 pp106 (Nat.le_of_ble_eq_true rfl) rfl (by decide) (by decide) ?_
          refine ev_aload_n rfl ?_
          refine g_getp (r := 26) (c := 27) g75580 ad26 (by decide) (by decide) rf26_2 ft9_2 ?_
          refine ev_bipush ?_
          refine ev_iload_n rfl ?_
          refine ev_imul (r := 8) (by decide) ?_
          refine ev_iconst ?_
          refine ev_iload_n rfl ?_
          refine ev_imul (r := 2) (by decide) ?_
          refine ev_iadd (r := 10) (by decide) ?_
          refine ev_iload_n rfl ?_
          refine ev_iadd (r := 10) (by decide) ?_
          refine g_ialdv (v := w3) g75580 ad27 (by omega) (by omega) (((kk75580.v (by decide)).trans ew3)) ?_
          refine ev_ret rfl (by decide) (by decide) ?_
          show jEv _ _ _ _ _ _ _ (_, [(2, 26)], [(0, w3), (0, w0)], _, _, _)
          refine ev_iadd (r := (w0 + w3)) (by unfold w32; omega) ?_
          refine ev_aload_n rfl ?_
          refine ev_iconst ?_
          refine ev_iconst ?_
          refine ev_iconst ?_
          refine ev_in (d := 0) (a := 0) (b := 0) (cd' := c106_0) (m := 4) (L0 := [(2, 26), (0, 0), (0, 1), (0, 0)]) (jcall_v (A := [(0, 0), (0, 1), (0, 0)]) (S' := [(0, (w0 + w3))]) (r := 26) rfl (g75580.lt ad26) (g75580.tg ad26) (Nat.le_of_ble_eq_true rfl)) (by decide) ml106 pp106 (Nat.le_of_ble_eq_true rfl) rfl (by decide) (by decide) ?_
          refine ev_aload_n rfl ?_
          refine g_getp (r := 26) (c := 27) g75580 ad26 (by decide) (by decide) rf26_2 ft9_2 ?_
          refine ev_bipush ?_
          refine ev_iload_n rfl ?_
          refine ev_imul (r := 0) (by decide) ?_
          refine ev_iconst ?_
          refine ev_iload_n rfl ?_
          refine ev_imul (r := 2) (by decide) ?_
          refine ev_iadd (r := 2) (by decide) ?_
          refine ev_iload_n rfl ?_
          refine ev_iadd (r := 2) (by decide) ?_
          refine g_ialdv (v := w1) g75580 ad27 (by omega) (by omega) (((kk75580.v (by decide)).trans ew1)) ?_
          refine ev_ret rfl (by decide) (by decide) ?_
          show jEv _ _ _ _ _ _ _ (_, [(2, 26)], [(0, w1), (0, (w0 + w3))], _, _, _)
          refine ev_isub (r := (w0 + (-w1) + w3)) (by unfold w32; omega) ?_
          refine ev_aload_n rfl ?_
          refine ev_iconst ?_
          refine ev_iconst ?_
          refine ev_iconst ?_
          refine ev_in (d := 0) (a := 0) (b := 0) (cd' := c106_0) (m := 4) (L0 := [(2, 26), (0, 1), (0, 0), (0, 0)]) (jcall_v (A := [(0, 0), (0, 0), (0, 1)]) (S' := [(0, (w0 + (-w1) + w3))]) (r := 26) rfl (g75580.lt ad26) (g75580.tg ad26) (Nat.le_of_ble_eq_true rfl)) (by decide) ml106 pp106 (Nat.le_of_ble_eq_true rfl) rfl (by decide) (by decide) ?_
          refine ev_aload_n rfl ?_
          refine g_getp (r := 26) (c := 27) g75580 ad26 (by decide) (by decide) rf26_2 ft9_2 ?_
          refine ev_bipush ?_
          refine ev_iload_n rfl ?_
          refine ev_imul (r := 8) (by decide) ?_
          refine ev_iconst ?_
          refine ev_iload_n rfl ?_
          refine ev_imul (r := 0) (by decide) ?_
          refine ev_iadd (r := 8) (by decide) ?_
          refine ev_iload_n rfl ?_
          refine ev_iadd (r := 8) (by decide) ?_
          refine g_ialdv (v := w2) g75580 ad27 (by omega) (by omega) (((kk75580.v (by decide)).trans ew2)) ?_
          refine ev_ret rfl (by decide) (by decide) ?_
          show jEv _ _ _ _ _ _ _ (_, [(2, 26)], [(0, w2), (0, (w0 + (-w1) + w3))], _, _, _)
          refine ev_isub (r := (w0 + (-w1) + (-w2) + w3)) (by unfold w32; omega) ?_
          refine ev_ret rfl (by decide) (by decide) ?_
          show jEv _ _ _ _ _ _ _ (_, [(2, 26), (0, w1)], [(0, (w0 + (-w1) + (-w2) + w3))], _, _, _)
          refine ev_ifne f113_57 (fun c75583 => ?_) (fun c75583 => ?_)
          · refine ev_iconst ?_
            exact ev_ret rfl (by decide) (by decide) ⟨_, rfl, g75580, k75580, by omega, by omega, by unfold stF hiF grF lsF; have x := X75580; (repeat' split) <;> omega⟩
          · refine ev_iconst ?_
            refine ev_goto f113_58 ?_
            exact ev_ret rfl (by decide) (by decide) ⟨_, rfl, g75580, k75580, by omega, by omega, by unfold stF hiF grF lsF; have x := X75580; (repeat' split) <;> omega⟩
      · refine ev_iload_n rfl ?_
        refine ev_goto f381_10 ?_
        refine ev_ret rfl (by decide) (by decide) ?_
        show jEv _ _ _ _ _ _ _ (_, [(2, 26), (9, 0)], [(0, w0)], _, _, _)
        refine ev_istore_n (L' := [(2, 26), (0, w0)]) (Nat.le_of_ble_eq_true rfl) rfl ?_
        refine ev_aload_n rfl ?_
        refine ev_call (jcall_v (A := []) (S' := []) (r := 26) rfl (g.lt ad26) (g.tg ad26) (Nat.le_of_ble_eq_true rfl)) (jOk_le (by decide) (t111 g (ew0) (by omega) (by omega) (ew1) (by omega) (by omega) (ew2) (by omega) (by omega) (ew3) (by omega) (by omega))) (by decide) (by decide) (fun w75584 h75584 q75584 => ?_)
        obtain ⟨v75585, rfl, g75584, kk75584, lv75585, uv75585, X75584⟩ := q75584
        have k75584 := k0.tr kk75584 (by decide)
        show jEv _ _ _ _ _ _ _ (_, [(2, 26), (0, w0)], [(0, v75585)], _, _, _)
        refine ev_iload_n rfl ?_
        refine ev_icmpeq f113_53 (fun c75586 => ?_) (fun c75586 => ?_)
        · refine ev_iconst ?_
          refine ev_goto f113_58 ?_
          exact ev_ret rfl (by decide) (by decide) ⟨_, rfl, g75584, k75584, by omega, by omega, by unfold stF hiF grF lsF; have x := X75584; (repeat' split) <;> omega⟩
        · refine ev_aload_n rfl ?_
          refine ev_in (d := 1) (a := 0) (b := 0) (cd' := c112_0) (m := 1) (L0 := [(2, 26)]) (jcall_v (A := []) (S' := []) (r := 26) rfl (g75584.lt ad26) (g75584.tg ad26) (Nat.le_of_ble_eq_true rfl)) (by decide) ml112 pp112 (Nat.le_of_ble_eq_true rfl) rfl (by decide) (by decide) ?_
          refine ev_aload_n rfl ?_
          refine ev_iconst ?_
          refine ev_iconst ?_
          refine ev_iconst ?_
          refine ev_in (d := 0) (a := 0) (b := 0) (cd' := c106_0) (m := 4) (L0 := [(2, 26), (0, 0), (0, 0), (0, 0)]) (jcall_v (A := [(0, 0), (0, 0), (0, 0)]) (S' := []) (r := 26) rfl (g75584.lt ad26) (g75584.tg ad26) (Nat.le_of_ble_eq_true rfl)) (by decide) ml106 pp106 (Nat.le_of_ble_eq_true rfl) rfl (by decide) (by decide) ?_
          refine ev_aload_n rfl ?_
          refine g_getp (r := 26) (c := 27) g75584 ad26 (by decide) (by decide) rf26_2 ft9_2 ?_
          refine ev_bipush ?_
          refine ev_iload_n rfl ?_
          refine ev_imul (r := 0) (by decide) ?_
          refine ev_iconst ?_
          refine ev_iload_n rfl ?_
          refine ev_imul (r := 0) (by decide) ?_
          refine ev_iadd (r := 0) (by decide) ?_
          refine ev_iload_n rfl ?_
          refine ev_iadd (r := 0) (by decide) ?_
          refine g_ialdv (v := w0) g75584 ad27 (by omega) (by omega) (((kk75584.v (by decide)).trans ew0)) ?_
          refine ev_ret rfl (by decide) (by decide) ?_
          show jEv _ _ _ _ _ _ _ (_, [(2, 26)], [(0, w0)], _, _, _)
          refine ev_aload_n rfl ?_
          refine ev_iconst ?_
          refine ev_iconst ?_
          refine ev_iconst ?_
          refine ev_in (d := 0) (a := 0) (b := 0) (cd' := c106_0) (m := 4) (L0 := [(2, 26), (0, 1), (0, 1), (0, 0)]) (jcall_v (A := [(0, 0), (0, 1), (0, 1)]) (S' := [(0, w0)]) (r := 26) rfl (g75584.lt ad26) (g75584.tg ad26) (Nat.le_of_ble_eq_true rfl)) (by decide) ml106 pp106 (Nat.le_of_ble_eq_true rfl) rfl (by decide) (by decide) ?_
          refine ev_aload_n rfl ?_
          refine g_getp (r := 26) (c := 27) g75584 ad26 (by decide) (by decide) rf26_2 ft9_2 ?_
          refine ev_bipush ?_
          refine ev_iload_n rfl ?_
          refine ev_imul (r := 8) (by decide) ?_
          refine ev_iconst ?_
          refine ev_iload_n rfl ?_
          refine ev_imul (r := 2) (by decide) ?_
          refine ev_iadd (r := 10) (by decide) ?_
          refine ev_iload_n rfl ?_
          refine ev_iadd (r := 10) (by decide) ?_
          refine g_ialdv (v := w3) g75584 ad27 (by omega) (by omega) (((kk75584.v (by decide)).trans ew3)) ?_
          refine ev_ret rfl (by decide) (by decide) ?_
          show jEv _ _ _ _ _ _ _ (_, [(2, 26)], [(0, w3), (0, w0)], _, _, _)
          refine ev_iadd (r := (w0 + w3)) (by unfold w32; omega) ?_
          refine ev_aload_n rfl ?_
          refine ev_iconst ?_
          refine ev_iconst ?_
          refine ev_iconst ?_
          refine ev_in (d := 0) (a := 0) (b := 0) (cd' := c106_0) (m := 4) (L0 := [(2, 26), (0, 0), (0, 1), (0, 0)]) (jcall_v (A := [(0, 0), (0, 1), (0, 0)]) (S' := [(0, (w0 + w3))]) (r := 26) rfl (g75584.lt ad26) (g75584.tg ad26) (Nat.le_of_ble_eq_true rfl)) (by decide) ml106 pp106 (Nat.le_of_ble_eq_true rfl) rfl (by decide) (by decide) ?_
          refine ev_aload_n rfl ?_
          refine g_getp (r := 26) (c := 27) g75584 ad26 (by decide) (by decide) rf26_2 ft9_2 ?_
          refine ev_bipush ?_
          refine ev_iload_n rfl ?_
          refine ev_imul (r := 0) (by decide) ?_
          refine ev_iconst ?_
          refine ev_iload_n rfl ?_
          refine ev_imul (r := 2) (by decide) ?_
          refine ev_iadd (r := 2) (by decide) ?_
          refine ev_iload_n rfl ?_
          refine ev_iadd (r := 2) (by decide) ?_
          refine g_ialdv (v := w1) g75584 ad27 (by omega) (by omega) (((kk75584.v (by decide)).trans ew1)) ?_
          refine ev_ret rfl (by decide) (by decide) ?_
          show jEv _ _ _ _ _ _ _ (_, [(2, 26)], [(0, w1), (0, (w0 + w3))], _, _, _)
          refine ev_isub (r := (w0 + (-w1) + w3)) (by unfold w32; omega) ?_
          refine ev_aload_n rfl ?_
          refine ev_iconst ?_
          refine ev_iconst ?_
          refine ev_iconst ?_
          refine ev_in (d := 0) (a := 0) (b := 0) (cd' := c106_0) (m := 4) (L0 := [(2, 26), (0, 1), (0, 0), (0, 0)]) (jcall_v (A := [(0, 0), (0, 0), (0, 1)]) (S' := [(0, (w0 + (-w1) + w3))]) (r := 26) rfl (g75584.lt ad26) (g75584.tg ad26) (Nat.le_of_ble_eq_true rfl)) (by decide) ml106 pp106 (Nat.le_of_ble_eq_true rfl) rfl (by decide) (by decide) ?_
          refine ev_aload_n rfl ?_
          refine g_getp (r := 26) (c := 27) g75584 ad26 (by decide) (by decide) rf26_2 ft9_2 ?_
          refine ev_bipush ?_
          refine ev_iload_n rfl ?_
          refine ev_imul (r := 8) (by decide) ?_
          refine ev_iconst ?_
          refine ev_iload_n rfl ?_
          refine ev_imul (r := 0) (by decide) ?_
          refine ev_iadd (r := 8) (by decide) ?_
          refine ev_iload_n rfl ?_
          refine ev_iadd (r := 8) (by decide) ?_
          refine g_ialdv (v := w2) g75584 ad27 (by omega) (by omega) (((kk75584.v (by decide)).trans ew2)) ?_
          refine ev_ret rfl (by decide) (by decide) ?_
          show jEv _ _ _ _ _ _ _ (_, [(2, 26)], [(0, w2), (0, (w0 + (-w1) + w3))], _, _, _)
          refine ev_isub (r := (w0 + (-w1) + (-w2) + w3)) (by unfold w32; omega) ?_
          refine ev_ret rfl (by decide) (by decide) ?_
          show jEv _ _ _ _ _ _ _ (_, [(2, 26), (0, w0)], [(0, (w0 + (-w1) + (-w2) + w3))], _, _, _)
          refine ev_ifne f113_57 (fun c75587 => ?_) (fun c75587 => ?_)
          · refine ev_iconst ?_
            exact ev_ret rfl (by decide) (by decide) ⟨_, rfl, g75584, k75584, by omega, by omega, by unfold stF hiF grF lsF; have x := X75584; (repeat' split) <;> omega⟩
          · refine ev_iconst ?_
            refine ev_goto f113_58 ?_
            exact ev_ret rfl (by decide) (by decide) ⟨_, rfl, g75584, k75584, by omega, by omega, by unfold stF hiF grF lsF; have x := X75584; (repeat' split) <;> omega⟩
set_option maxHeartbeats 4000000 in
theorem t114 {G : GH} {h : JH} (g : Gd G h) {w0 : Int} (ew0 : h.2.2 27 0 = w0) (lw0 : (-99) ≤ w0) (uw0 : w0 ≤ 99) {w1 : Int} (ew1 : h.2.2 27 2 = w1) (lw1 : (-99) ≤ w1) (uw1 : w1 ≤ 99) {w2 : Int} (ew2 : h.2.2 27 8 = w2) (lw2 : (-99) ≤ w2) (uw2 : w2 ≤ 99) {w3 : Int} (ew3 : h.2.2 27 10 = w3) (lw3 : (-99) ≤ w3) (uw3 : w3 ≤ 99) : jOk 4 0 0 114 [(2, 26)] h (fun v h' => ∃ r : Int, v = some (1, r) ∧ Gd G h' ∧ Kp [] h h' ∧ (-19602) ≤ r ∧ r ≤ 19602 ∧ r = tpF w0 w1 w2 w3) := by
  refine ⟨by decide, by rw [ml114]; exact Nat.le_of_ble_eq_true rfl, ?_⟩
  rw [ml114, pp114]
  show jEv _ none _ c114_0 0 0 _ (c114_0, [(2, 26)], [], h, 0, 0)
  have k0 := Kp.rf [] h
  refine ev_aload_n rfl ?_
  refine ev_call (jcall_v (A := []) (S' := []) (r := 26) rfl (g.lt ad26) (g.tg ad26) (Nat.le_of_ble_eq_true rfl)) (jOk_le (by decide) (t113 g (ew0) (by omega) (by omega) (ew1) (by omega) (by omega) (ew2) (by omega) (by omega) (ew3) (by omega) (by omega))) (by decide) (by decide) (fun w75602 h75602 q75602 => ?_)
  obtain ⟨v75603, rfl, g75602, kk75602, lv75603, uv75603, X75602⟩ := q75602
  have k75602 := k0.tr kk75602 (by decide)
  show jEv _ _ _ _ _ _ _ (_, [(2, 26)], [(0, v75603)], _, _, _)
  refine ev_ifeq f114_15 (fun c75604 => ?_) (fun c75604 => ?_)
  · refine ev_aload_n rfl ?_
    refine ev_iconst ?_
    refine ev_iconst ?_
    refine ev_iconst ?_
    refine ev_in (d := 2) (a := 0) (b := 0) (cd' := c106_0) (m := 4) (L0 := [(2, 26), (0, 0), (0, 0), (0, 0)]) (jcall_v (A := [(0, 0), (0, 0), (0, 0)]) (S' := []) (r := 26) rfl (g75602.lt ad26) (g75602.tg ad26) (Nat.le_of_ble_eq_true rfl)) (by decide) ml106 pp106 (Nat.le_of_ble_eq_true rfl) rfl (by decide) (by decide) ?_
    refine ev_aload_n rfl ?_
    refine g_getp (r := 26) (c := 27) g75602 ad26 (by decide) (by decide) rf26_2 ft9_2 ?_
    refine ev_bipush ?_
    refine ev_iload_n rfl ?_
    refine ev_imul (r := 0) (by decide) ?_
    refine ev_iconst ?_
    refine ev_iload_n rfl ?_
    refine ev_imul (r := 0) (by decide) ?_
    refine ev_iadd (r := 0) (by decide) ?_
    refine ev_iload_n rfl ?_
    refine ev_iadd (r := 0) (by decide) ?_
    refine g_ialdv (v := w0) g75602 ad27 (by omega) (by omega) (((kk75602.v (by decide)).trans ew0)) ?_
    refine ev_ret rfl (by decide) (by decide) ?_
    show jEv _ _ _ _ _ _ _ (_, [(2, 26)], [(0, w0)], _, _, _)
    refine ev_aload_n rfl ?_
    refine ev_iconst ?_
    refine ev_iconst ?_
    refine ev_iconst ?_
    refine ev_in (d := 2) (a := 0) (b := 0) (cd' := c106_0) (m := 4) (L0 := [(2, 26), (0, 1), (0, 1), (0, 0)]) (jcall_v (A := [(0, 0), (0, 1), (0, 1)]) (S' := [(0, w0)]) (r := 26) rfl (g75602.lt ad26) (g75602.tg ad26) (Nat.le_of_ble_eq_true rfl)) (by decide) ml106 pp106 (Nat.le_of_ble_eq_true rfl) rfl (by decide) (by decide) ?_
    refine ev_aload_n rfl ?_
    refine g_getp (r := 26) (c := 27) g75602 ad26 (by decide) (by decide) rf26_2 ft9_2 ?_
    refine ev_bipush ?_
    refine ev_iload_n rfl ?_
    refine ev_imul (r := 8) (by decide) ?_
    refine ev_iconst ?_
    refine ev_iload_n rfl ?_
    refine ev_imul (r := 2) (by decide) ?_
    refine ev_iadd (r := 10) (by decide) ?_
    refine ev_iload_n rfl ?_
    refine ev_iadd (r := 10) (by decide) ?_
    refine g_ialdv (v := w3) g75602 ad27 (by omega) (by omega) (((kk75602.v (by decide)).trans ew3)) ?_
    refine ev_ret rfl (by decide) (by decide) ?_
    show jEv _ _ _ _ _ _ _ (_, [(2, 26)], [(0, w3), (0, w0)], _, _, _)
    obtain ⟨v75605, ev75605, lv75605, uv75605⟩ : ∃ v : Int, w0 * w3 = v ∧ (-9801) ≤ v ∧ v ≤ 9801 := ⟨_, rfl, by have := mul_ab (x := w0) (y := w3) (A := 99) (B := 99) (by omega) (by omega); omega, by have := mul_ab (x := w0) (y := w3) (A := 99) (B := 99) (by omega) (by omega); omega⟩
    refine ev_imul (r := v75605) (by rw [ev75605]; unfold w32; omega) ?_
    refine ev_aload_n rfl ?_
    refine ev_iconst ?_
    refine ev_iconst ?_
    refine ev_iconst ?_
    refine ev_in (d := 2) (a := 0) (b := 0) (cd' := c106_0) (m := 4) (L0 := [(2, 26), (0, 0), (0, 1), (0, 0)]) (jcall_v (A := [(0, 0), (0, 1), (0, 0)]) (S' := [(0, v75605)]) (r := 26) rfl (g75602.lt ad26) (g75602.tg ad26) (Nat.le_of_ble_eq_true rfl)) (by decide) ml106 pp106 (Nat.le_of_ble_eq_true rfl) rfl (by decide) (by decide) ?_
    refine ev_aload_n rfl ?_
    refine g_getp (r := 26) (c := 27) g75602 ad26 (by decide) (by decide) rf26_2 ft9_2 ?_
    refine ev_bipush ?_
    refine ev_iload_n rfl ?_
    refine ev_imul (r := 0) (by decide) ?_
    refine ev_iconst ?_
    refine ev_iload_n rfl ?_
    refine ev_imul (r := 2) (by decide) ?_
    refine ev_iadd (r := 2) (by decide) ?_
    refine ev_iload_n rfl ?_
    refine ev_iadd (r := 2) (by decide) ?_
    refine g_ialdv (v := w1) g75602 ad27 (by omega) (by omega) (((kk75602.v (by decide)).trans ew1)) ?_
    refine ev_ret rfl (by decide) (by decide) ?_
    show jEv _ _ _ _ _ _ _ (_, [(2, 26)], [(0, w1), (0, v75605)], _, _, _)
    refine ev_aload_n rfl ?_
    refine ev_iconst ?_
    refine ev_iconst ?_
    refine ev_iconst ?_
    refine ev_in (d := 2) (a := 0) (b := 0) (cd' := c106_0) (m := 4) (L0 := [(2, 26), (0, 1), (0, 0), (0, 0)]) (jcall_v (A := [(0, 0), (0, 0), (0, 1)]) (S' := [(0, w1), (0, v75605)]) (r := 26) rfl (g75602.lt ad26) (g75602.tg ad26) (Nat.le_of_ble_eq_true rfl)) (by decide) ml106 pp106 (Nat.le_of_ble_eq_true rfl) rfl (by decide) (by decide) ?_
    refine ev_aload_n rfl ?_
    refine g_getp (r := 26) (c := 27) g75602 ad26 (by decide) (by decide) rf26_2 ft9_2 ?_
    refine ev_bipush ?_
    refine ev_iload_n rfl ?_
    refine ev_imul (r := 8) (by decide) ?_
    refine ev_iconst ?_
    refine ev_iload_n rfl ?_
    refine ev_imul (r := 0) (by decide) ?_
    refine ev_iadd (r := 8) (by decide) ?_
    refine ev_iload_n rfl ?_
    refine ev_iadd (r := 8) (by decide) ?_
    refine g_ialdv (v := w2) g75602 ad27 (by omega) (by omega) (((kk75602.v (by decide)).trans ew2)) ?_
    refine ev_ret rfl (by decide) (by decide) ?_
    show jEv _ _ _ _ _ _ _ (_, [(2, 26)], [(0, w2), (0, w1), (0, v75605)], _, _, _)
    obtain ⟨v75606, ev75606, lv75606, uv75606⟩ : ∃ v : Int, w1 * w2 = v ∧ (-9801) ≤ v ∧ v ≤ 9801 := ⟨_, rfl, by have := mul_ab (x := w1) (y := w2) (A := 99) (B := 99) (by omega) (by omega); omega, by have := mul_ab (x := w1) (y := w2) (A := 99) (B := 99) (by omega) (by omega); omega⟩
    refine ev_imul (r := v75606) (by rw [ev75606]; unfold w32; omega) ?_
    refine ev_isub (r := (v75605 + (-v75606))) (by unfold w32; omega) ?_
    refine ev_i2l ?_
    exact ev_ret rfl (by decide) (by decide) ⟨_, rfl, g75602, k75602, by omega, by omega, by unfold tpF; rw [← X75602]; have x := X75602; (repeat' split) <;> omega⟩
  · refine ev_aload_n rfl ?_
    refine ev_call (jcall_v (A := []) (S' := []) (r := 26) rfl (g75602.lt ad26) (g75602.tg ad26) (Nat.le_of_ble_eq_true rfl)) (jOk_le (by decide) (t111 g75602 (((kk75602.v (by decide)).trans ew0)) (by omega) (by omega) (((kk75602.v (by decide)).trans ew1)) (by omega) (by omega) (((kk75602.v (by decide)).trans ew2)) (by omega) (by omega) (((kk75602.v (by decide)).trans ew3)) (by omega) (by omega))) (by decide) (by decide) (fun w75607 h75607 q75607 => ?_)
    obtain ⟨v75608, rfl, g75607, kk75607, lv75608, uv75608, X75607⟩ := q75607
    have k75607 := k75602.tr kk75607 (by decide)
    show jEv _ _ _ _ _ _ _ (_, [(2, 26)], [(0, v75608)], _, _, _)
    refine ev_i2l ?_
    refine ev_goto f114_47 ?_
    exact ev_ret rfl (by decide) (by decide) ⟨_, rfl, g75607, k75607, by omega, by omega, by unfold tpF; rw [← X75602]; have x := X75607; (repeat' split) <;> omega⟩
set_option maxHeartbeats 4000000 in
theorem t115 {G : GH} {h : JH} (g : Gd G h) {w0 : Int} (ew0 : h.2.2 27 0 = w0) (lw0 : (-99) ≤ w0) (uw0 : w0 ≤ 99) {w1 : Int} (ew1 : h.2.2 27 2 = w1) (lw1 : (-99) ≤ w1) (uw1 : w1 ≤ 99) {w2 : Int} (ew2 : h.2.2 27 8 = w2) (lw2 : (-99) ≤ w2) (uw2 : w2 ≤ 99) {w3 : Int} (ew3 : h.2.2 27 10 = w3) (lw3 : (-99) ≤ w3) (uw3 : w3 ≤ 99) : jOk 4 0 0 115 [(2, 26)] h (fun v h' => ∃ r : Int, v = some (1, r) ∧ Gd G h' ∧ Kp [] h h' ∧ (-396) ≤ r ∧ r ≤ 396 ∧ r = btF w0 w1 w2 w3) := by
  refine ⟨by decide, by rw [ml115]; exact Nat.le_of_ble_eq_true rfl, ?_⟩
  rw [ml115, pp115]
  show jEv _ none _ c115_0 0 0 _ (c115_0, [(2, 26)], [], h, 0, 0)
  have k0 := Kp.rf [] h
  refine ev_aload_n rfl ?_
  refine ev_call (jcall_v (A := []) (S' := []) (r := 26) rfl (g.lt ad26) (g.tg ad26) (Nat.le_of_ble_eq_true rfl)) (jOk_le (by decide) (t113 g (ew0) (by omega) (by omega) (ew1) (by omega) (by omega) (ew2) (by omega) (by omega) (ew3) (by omega) (by omega))) (by decide) (by decide) (fun w75615 h75615 q75615 => ?_)
  obtain ⟨v75616, rfl, g75615, kk75615, lv75616, uv75616, X75615⟩ := q75615
  have k75615 := k0.tr kk75615 (by decide)
  show jEv _ _ _ _ _ _ _ (_, [(2, 26)], [(0, v75616)], _, _, _)
  refine ev_ifeq f115_11 (fun c75617 => ?_) (fun c75617 => ?_)
  · refine ev_aload_n rfl ?_
    refine ev_in (d := 2) (a := 0) (b := 0) (cd' := c112_0) (m := 1) (L0 := [(2, 26)]) (jcall_v (A := []) (S' := []) (r := 26) rfl (g75615.lt ad26) (g75615.tg ad26) (Nat.le_of_ble_eq_true rfl)) (by decide) ml112 pp112 (Nat.le_of_ble_eq_true rfl) rfl (by decide) (by decide) ?_
    refine ev_aload_n rfl ?_
    refine ev_iconst ?_
    refine ev_iconst ?_
    refine ev_iconst ?_
    refine ev_in (d := 1) (a := 0) (b := 0) (cd' := c106_0) (m := 4) (L0 := [(2, 26), (0, 0), (0, 0), (0, 0)]) (jcall_v (A := [(0, 0), (0, 0), (0, 0)]) (S' := []) (r := 26) rfl (g75615.lt ad26) (g75615.tg ad26) (Nat.le_of_ble_eq_true rfl)) (by decide) ml106 pp106 (Nat.le_of_ble_eq_true rfl) rfl (by decide) (by decide) ?_
    refine ev_aload_n rfl ?_
    refine g_getp (r := 26) (c := 27) g75615 ad26 (by decide) (by decide) rf26_2 ft9_2 ?_
    refine ev_bipush ?_
    refine ev_iload_n rfl ?_
    refine ev_imul (r := 0) (by decide) ?_
    refine ev_iconst ?_
    refine ev_iload_n rfl ?_
    refine ev_imul (r := 0) (by decide) ?_
    refine ev_iadd (r := 0) (by decide) ?_
    refine ev_iload_n rfl ?_
    refine ev_iadd (r := 0) (by decide) ?_
    refine g_ialdv (v := w0) g75615 ad27 (by omega) (by omega) (((kk75615.v (by decide)).trans ew0)) ?_
    refine ev_ret rfl (by decide) (by decide) ?_
    show jEv _ _ _ _ _ _ _ (_, [(2, 26)], [(0, w0)], _, _, _)
    refine ev_aload_n rfl ?_
    refine ev_iconst ?_
    refine ev_iconst ?_
    refine ev_iconst ?_
    refine ev_in (d := 1) (a := 0) (b := 0) (cd' := c106_0) (m := 4) (L0 := [(2, 26), (0, 1), (0, 1), (0, 0)]) (jcall_v (A := [(0, 0), (0, 1), (0, 1)]) (S' := [(0, w0)]) (r := 26) rfl (g75615.lt ad26) (g75615.tg ad26) (Nat.le_of_ble_eq_true rfl)) (by decide) ml106 pp106 (Nat.le_of_ble_eq_true rfl) rfl (by decide) (by decide) ?_
    refine ev_aload_n rfl ?_
    refine g_getp (r := 26) (c := 27) g75615 ad26 (by decide) (by decide) rf26_2 ft9_2 ?_
    refine ev_bipush ?_
    refine ev_iload_n rfl ?_
    refine ev_imul (r := 8) (by decide) ?_
    refine ev_iconst ?_
    refine ev_iload_n rfl ?_
    refine ev_imul (r := 2) (by decide) ?_
    refine ev_iadd (r := 10) (by decide) ?_
    refine ev_iload_n rfl ?_
    refine ev_iadd (r := 10) (by decide) ?_
    refine g_ialdv (v := w3) g75615 ad27 (by omega) (by omega) (((kk75615.v (by decide)).trans ew3)) ?_
    refine ev_ret rfl (by decide) (by decide) ?_
    show jEv _ _ _ _ _ _ _ (_, [(2, 26)], [(0, w3), (0, w0)], _, _, _)
    refine ev_iadd (r := (w0 + w3)) (by unfold w32; omega) ?_
    refine ev_aload_n rfl ?_
    refine ev_iconst ?_
    refine ev_iconst ?_
    refine ev_iconst ?_
    refine ev_in (d := 1) (a := 0) (b := 0) (cd' := c106_0) (m := 4) (L0 := [(2, 26), (0, 0), (0, 1), (0, 0)]) (jcall_v (A := [(0, 0), (0, 1), (0, 0)]) (S' := [(0, (w0 + w3))]) (r := 26) rfl (g75615.lt ad26) (g75615.tg ad26) (Nat.le_of_ble_eq_true rfl)) (by decide) ml106 pp106 (Nat.le_of_ble_eq_true rfl) rfl (by decide) (by decide) ?_
    refine ev_aload_n rfl ?_
    refine g_getp (r := 26) (c := 27) g75615 ad26 (by decide) (by decide) rf26_2 ft9_2 ?_
    refine ev_bipush ?_
    refine ev_iload_n rfl ?_
    refine ev_imul (r := 0) (by decide) ?_
    refine ev_iconst ?_
    refine ev_iload_n rfl ?_
    refine ev_imul (r := 2) (by decide) ?_
    refine ev_iadd (r := 2) (by decide) ?_
    refine ev_iload_n rfl ?_
    refine ev_iadd (r := 2) (by decide) ?_
    refine g_ialdv (v := w1) g75615 ad27 (by omega) (by omega) (((kk75615.v (by decide)).trans ew1)) ?_
    refine ev_ret rfl (by decide) (by decide) ?_
    show jEv _ _ _ _ _ _ _ (_, [(2, 26)], [(0, w1), (0, (w0 + w3))], _, _, _)
    refine ev_isub (r := (w0 + (-w1) + w3)) (by unfold w32; omega) ?_
    refine ev_aload_n rfl ?_
    refine ev_iconst ?_
    refine ev_iconst ?_
    refine ev_iconst ?_
    refine ev_in (d := 1) (a := 0) (b := 0) (cd' := c106_0) (m := 4) (L0 := [(2, 26), (0, 1), (0, 0), (0, 0)]) (jcall_v (A := [(0, 0), (0, 0), (0, 1)]) (S' := [(0, (w0 + (-w1) + w3))]) (r := 26) rfl (g75615.lt ad26) (g75615.tg ad26) (Nat.le_of_ble_eq_true rfl)) (by decide) ml106 pp106 (Nat.le_of_ble_eq_true rfl) rfl (by decide) (by decide) ?_
    refine ev_aload_n rfl ?_
    refine g_getp (r := 26) (c := 27) g75615 ad26 (by decide) (by decide) rf26_2 ft9_2 ?_
    refine ev_bipush ?_
    refine ev_iload_n rfl ?_
    refine ev_imul (r := 8) (by decide) ?_
    refine ev_iconst ?_
    refine ev_iload_n rfl ?_
    refine ev_imul (r := 0) (by decide) ?_
    refine ev_iadd (r := 8) (by decide) ?_
    refine ev_iload_n rfl ?_
    refine ev_iadd (r := 8) (by decide) ?_
    refine g_ialdv (v := w2) g75615 ad27 (by omega) (by omega) (((kk75615.v (by decide)).trans ew2)) ?_
    refine ev_ret rfl (by decide) (by decide) ?_
    show jEv _ _ _ _ _ _ _ (_, [(2, 26)], [(0, w2), (0, (w0 + (-w1) + w3))], _, _, _)
    refine ev_isub (r := (w0 + (-w1) + (-w2) + w3)) (by unfold w32; omega) ?_
    refine ev_ret rfl (by decide) (by decide) ?_
    show jEv _ _ _ _ _ _ _ (_, [(2, 26)], [(0, (w0 + (-w1) + (-w2) + w3))], _, _, _)
    refine ev_i2l ?_
    exact ev_ret rfl (by decide) (by decide) ⟨_, rfl, g75615, k75615, by omega, by omega, by unfold btF; rw [← X75615]; (repeat' split) <;> omega⟩
  · refine ev_lconst ?_
    refine ev_goto f115_16 ?_
    exact ev_ret rfl (by decide) (by decide) ⟨_, rfl, g75615, k75615, by omega, by omega, by unfold btF; rw [← X75615]; (repeat' split) <;> omega⟩
set_option maxHeartbeats 4000000 in
theorem t198 {G : GH} {h : JH} (g : Gd G h) {a1 : Int} (la1 : (-2147483648) ≤ a1) (ua1 : a1 ≤ 2147483647) {w0 : Int} (ew0 : h.2.2 26 0 = w0) (lw0 : 0 ≤ w0) (uw0 : w0 ≤ 4) {w1 : Int} (ew1 : h.2.2 26 1 = w1) (lw1 : 0 ≤ w1) (uw1 : w1 ≤ 4) {w2 : Int} (ew2 : h.2.2 27 0 = w2) (lw2 : (-99) ≤ w2) (uw2 : w2 ≤ 99) {w3 : Int} (ew3 : h.2.2 27 1 = w3) (lw3 : (-99) ≤ w3) (uw3 : w3 ≤ 99) {w4 : Int} (ew4 : h.2.2 27 2 = w4) (lw4 : (-99) ≤ w4) (uw4 : w4 ≤ 99) {w5 : Int} (ew5 : h.2.2 27 3 = w5) (lw5 : (-99) ≤ w5) (uw5 : w5 ≤ 99) {w6 : Int} (ew6 : h.2.2 27 8 = w6) (lw6 : (-99) ≤ w6) (uw6 : w6 ≤ 99) {w7 : Int} (ew7 : h.2.2 27 9 = w7) (lw7 : (-99) ≤ w7) (uw7 : w7 ≤ 99) {w8 : Int} (ew8 : h.2.2 27 10 = w8) (lw8 : (-99) ≤ w8) (uw8 : w8 ≤ 99) {w9 : Int} (ew9 : h.2.2 27 11 = w9) (lw9 : (-99) ≤ w9) (uw9 : w9 ≤ 99) : jOk 5 0 0 198 [(2, 0), (0, a1)] h (fun v h' => ∃ r : Int, v = some (0, r) ∧ Gd G h' ∧ Kp [] h h' ∧ (-2000000000) ≤ r ∧ r ≤ 19602 ∧ r = ltF a1 w0 w1 w2 w3 w4 w5 w6 w7 w8 w9) := by
  refine ⟨by decide, by rw [ml198]; exact Nat.le_of_ble_eq_true rfl, ?_⟩
  rw [ml198, pp198]
  show jEv _ none _ c198_0 0 0 _ (c198_0, [(2, 0), (0, a1), (9, 0), (9, 0), (9, 0), (9, 0)], [], h, 0, 0)
  have k0 := Kp.rf [] h
  refine ev_iload_n rfl ?_
  refine ev_in (d := 3) (a := 0) (b := 0) (cd' := c221_0) (m := 1) (L0 := [(0, a1)]) (jcall_s (A := [(0, a1)]) (S' := []) (by decide) rfl (Nat.le_of_ble_eq_true rfl)) (by decide) ml221 pp221 (Nat.le_of_ble_eq_true rfl) rfl (by decide) (by decide) ?_
  refine ev_iload_n rfl ?_
  refine ev_ifeq f221_9 (fun c75676 => ?_) (fun c75676 => ?_)
  · refine ev_iconst ?_
    refine ev_goto f221_14 ?_
    refine ev_ret rfl (by decide) (by decide) ?_
    show jEv _ _ _ _ _ _ _ (_, [(2, 0), (0, a1), (9, 0), (9, 0), (9, 0), (9, 0)], [(0, 1)], _, _, _)
    refine ev_ifne f198_10 (fun c75677 => ?_) (fun c75677 => absurd c75677 (by omega))
    refine ev_aload_n rfl ?_
    refine g_getp (r := 0) (c := 26) g ad0 (by decide) (by decide) rf0_11 ft11_11 ?_
    refine ev_call (jcall_v (A := []) (S' := []) (r := 26) rfl (g.lt ad26) (g.tg ad26) (Nat.le_of_ble_eq_true rfl)) (jOk_le (by decide) (t110 g (ew0) (by omega) (by omega) (ew1) (by omega) (by omega) (ew2) (by omega) (by omega) (ew3) (by omega) (by omega) (ew4) (by omega) (by omega) (ew5) (by omega) (by omega) (ew6) (by omega) (by omega) (ew7) (by omega) (by omega) (ew8) (by omega) (by omega) (ew9) (by omega) (by omega))) (by decide) (by decide) (fun w75678 h75678 q75678 => ?_)
    obtain ⟨v75679, rfl, g75678, kk75678, lv75679, uv75679, X75678⟩ := q75678
    have k75678 := k0.tr kk75678 (by decide)
    show jEv _ _ _ _ _ _ _ (_, [(2, 0), (0, a1), (9, 0), (9, 0), (9, 0), (9, 0)], [(0, v75679)], _, _, _)
    refine ev_ifne f198_23 (fun c75680 => ?_) (fun c75680 => ?_)
    · refine ev_aload_n rfl ?_
      refine g_getp (r := 0) (c := 26) g75678 ad0 (by decide) (by decide) rf0_11 ft11_11 ?_
      refine ev_call (jcall_v (A := []) (S' := []) (r := 26) rfl (g75678.lt ad26) (g75678.tg ad26) (Nat.le_of_ble_eq_true rfl)) (jOk_le (by decide) (t114 g75678 (((kk75678.v (by decide)).trans ew2)) (by omega) (by omega) (((kk75678.v (by decide)).trans ew4)) (by omega) (by omega) (((kk75678.v (by decide)).trans ew6)) (by omega) (by omega) (((kk75678.v (by decide)).trans ew8)) (by omega) (by omega))) (by decide) (by decide) (fun w75681 h75681 q75681 => ?_)
      obtain ⟨v75682, rfl, g75681, kk75681, lv75682, uv75682, X75681⟩ := q75681
      have k75681 := k75678.tr kk75681 (by decide)
      show jEv _ _ _ _ _ _ _ (_, [(2, 0), (0, a1), (9, 0), (9, 0), (9, 0), (9, 0)], [(1, v75682)], _, _, _)
      refine ev_lstore_n (L' := [(2, 0), (0, a1), (1, v75682), (9, 0), (9, 0), (9, 0)]) (Nat.le_of_ble_eq_true rfl) rfl ?_
      refine ev_aload_n rfl ?_
      refine g_getp (r := 0) (c := 26) g75681 ad0 (by decide) (by decide) rf0_11 ft11_11 ?_
      refine ev_call (jcall_v (A := []) (S' := []) (r := 26) rfl (g75681.lt ad26) (g75681.tg ad26) (Nat.le_of_ble_eq_true rfl)) (jOk_le (by decide) (t115 g75681 (((kk75681.v (by decide)).trans ((kk75678.v (by decide)).trans ew2))) (by omega) (by omega) (((kk75681.v (by decide)).trans ((kk75678.v (by decide)).trans ew4))) (by omega) (by omega) (((kk75681.v (by decide)).trans ((kk75678.v (by decide)).trans ew6))) (by omega) (by omega) (((kk75681.v (by decide)).trans ((kk75678.v (by decide)).trans ew8))) (by omega) (by omega))) (by decide) (by decide) (fun w75683 h75683 q75683 => ?_)
      obtain ⟨v75684, rfl, g75683, kk75683, lv75684, uv75684, X75683⟩ := q75683
      have k75683 := k75681.tr kk75683 (by decide)
      show jEv _ _ _ _ _ _ _ (_, [(2, 0), (0, a1), (1, v75682), (9, 0), (9, 0), (9, 0)], [(1, v75684)], _, _, _)
      have nv75684 : v75684 ≠ 0 := by rw [X75683]; exact bt_ne
      refine ev_lstore (L' := [(2, 0), (0, a1), (1, v75682), (9, 0), (1, v75684), (9, 0)]) (Nat.le_of_ble_eq_true rfl) rfl ?_
      refine ev_lload rfl ?_
      refine ev_lconst ?_
      refine ev_lcmp ?_
      refine ev_ifge f198_59 (fun c75685 => ?_) (fun c75685 => ?_)
      · have c75685b := jcmpL_ge c75685
        refine ev_lload_n rfl ?_
        refine ev_lload rfl ?_
        refine ev_iload_n rfl ?_
        refine ev_call (jcall_s (A := [(0, a1), (1, v75684), (1, v75682)]) (S' := []) (by decide) rfl (Nat.le_of_ble_eq_true rfl)) (jOk_le (by decide) (t223 g75683 (by omega) (by omega) (by omega) (by omega) (by omega) (by omega))) (by decide) (by decide) (fun w75686 h75686 q75686 => ?_)
        obtain ⟨v75687, rfl, g75686, kk75686, lv75687, uv75687, X75686⟩ := q75686
        have k75686 := k75683.tr kk75686 (by decide)
        show jEv _ _ _ _ _ _ _ (_, [(2, 0), (0, a1), (1, v75682), (9, 0), (1, v75684), (9, 0)], [(1, v75687)], _, _, _)
        have zv75687 := fr_in (t := v75682) (b := v75684) (w := a1) (M := 19602) (by omega) (by omega) (by omega) (by omega)
        rw [← X75686] at zv75687
        refine ev_l2i (r := v75687) (by unfold w32; omega) ?_
        exact ev_ret rfl (by decide) (by decide) ⟨_, rfl, g75686, k75686, by omega, by omega, by unfold ltF; rw [if_pos (by omega), if_pos (by rw [← X75678]; omega)]; exact X75686.trans (lt_pos X75681 X75683 (by omega))⟩
      · have c75685b := jcmpL_geN c75685
        refine ev_lload_n rfl ?_
        refine ev_lneg (r := ((-v75682))) (by unfold w64; omega) ?_
        refine ev_lload rfl ?_
        refine ev_lneg (r := ((-v75684))) (by unfold w64; omega) ?_
        refine ev_iload_n rfl ?_
        refine ev_call (jcall_s (A := [(0, a1), (1, ((-v75684))), (1, ((-v75682)))]) (S' := []) (by decide) rfl (Nat.le_of_ble_eq_true rfl)) (jOk_le (by decide) (t223 g75683 (by omega) (by omega) (by omega) (by omega) (by omega) (by omega))) (by decide) (by decide) (fun w75688 h75688 q75688 => ?_)
        obtain ⟨v75689, rfl, g75688, kk75688, lv75689, uv75689, X75688⟩ := q75688
        have k75688 := k75683.tr kk75688 (by decide)
        show jEv _ _ _ _ _ _ _ (_, [(2, 0), (0, a1), (1, v75682), (9, 0), (1, v75684), (9, 0)], [(1, v75689)], _, _, _)
        have zv75689 := fr_in (t := ((-v75682))) (b := ((-v75684))) (w := a1) (M := 19602) (by omega) (by omega) (by omega) (by omega)
        rw [← X75688] at zv75689
        refine ev_goto f198_66 ?_
        refine ev_l2i (r := v75689) (by unfold w32; omega) ?_
        exact ev_ret rfl (by decide) (by decide) ⟨_, rfl, g75688, k75688, by omega, by omega, by unfold ltF; rw [if_pos (by omega), if_pos (by rw [← X75678]; omega)]; exact X75688.trans (lt_neg X75681 X75683 (by omega))⟩
    · refine ev_bipush ?_
      exact ev_ret rfl (by decide) (by decide) ⟨_, rfl, g75678, k75678, by omega, by omega, by unfold ltF; rw [if_pos (by omega), if_neg (by rw [← X75678]; omega)]⟩
  · refine ev_iload_n rfl ?_
    refine ev_iconst ?_
    refine ev_icmpne f221_13 (fun c75690 => ?_) (fun c75690 => ?_)
    · refine ev_iconst ?_
      refine ev_ret rfl (by decide) (by decide) ?_
      show jEv _ _ _ _ _ _ _ (_, [(2, 0), (0, a1), (9, 0), (9, 0), (9, 0), (9, 0)], [(0, 0)], _, _, _)
      refine ev_ifne f198_10 (fun c75691 => absurd c75691 (by omega)) (fun c75691 => ?_)
      refine ev_ldc ?_
      exact ev_ret rfl (by decide) (by decide) ⟨_, rfl, g, k0, by omega, by omega, by unfold ltF; rw [if_neg (by omega)]⟩
    · refine ev_iconst ?_
      refine ev_goto f221_14 ?_
      refine ev_ret rfl (by decide) (by decide) ?_
      show jEv _ _ _ _ _ _ _ (_, [(2, 0), (0, a1), (9, 0), (9, 0), (9, 0), (9, 0)], [(0, 1)], _, _, _)
      refine ev_ifne f198_10 (fun c75692 => ?_) (fun c75692 => absurd c75692 (by omega))
      refine ev_aload_n rfl ?_
      refine g_getp (r := 0) (c := 26) g ad0 (by decide) (by decide) rf0_11 ft11_11 ?_
      refine ev_call (jcall_v (A := []) (S' := []) (r := 26) rfl (g.lt ad26) (g.tg ad26) (Nat.le_of_ble_eq_true rfl)) (jOk_le (by decide) (t110 g (ew0) (by omega) (by omega) (ew1) (by omega) (by omega) (ew2) (by omega) (by omega) (ew3) (by omega) (by omega) (ew4) (by omega) (by omega) (ew5) (by omega) (by omega) (ew6) (by omega) (by omega) (ew7) (by omega) (by omega) (ew8) (by omega) (by omega) (ew9) (by omega) (by omega))) (by decide) (by decide) (fun w75693 h75693 q75693 => ?_)
      obtain ⟨v75694, rfl, g75693, kk75693, lv75694, uv75694, X75693⟩ := q75693
      have k75693 := k0.tr kk75693 (by decide)
      show jEv _ _ _ _ _ _ _ (_, [(2, 0), (0, a1), (9, 0), (9, 0), (9, 0), (9, 0)], [(0, v75694)], _, _, _)
      refine ev_ifne f198_23 (fun c75695 => ?_) (fun c75695 => ?_)
      · refine ev_aload_n rfl ?_
        refine g_getp (r := 0) (c := 26) g75693 ad0 (by decide) (by decide) rf0_11 ft11_11 ?_
        refine ev_call (jcall_v (A := []) (S' := []) (r := 26) rfl (g75693.lt ad26) (g75693.tg ad26) (Nat.le_of_ble_eq_true rfl)) (jOk_le (by decide) (t114 g75693 (((kk75693.v (by decide)).trans ew2)) (by omega) (by omega) (((kk75693.v (by decide)).trans ew4)) (by omega) (by omega) (((kk75693.v (by decide)).trans ew6)) (by omega) (by omega) (((kk75693.v (by decide)).trans ew8)) (by omega) (by omega))) (by decide) (by decide) (fun w75696 h75696 q75696 => ?_)
        obtain ⟨v75697, rfl, g75696, kk75696, lv75697, uv75697, X75696⟩ := q75696
        have k75696 := k75693.tr kk75696 (by decide)
        show jEv _ _ _ _ _ _ _ (_, [(2, 0), (0, a1), (9, 0), (9, 0), (9, 0), (9, 0)], [(1, v75697)], _, _, _)
        refine ev_lstore_n (L' := [(2, 0), (0, a1), (1, v75697), (9, 0), (9, 0), (9, 0)]) (Nat.le_of_ble_eq_true rfl) rfl ?_
        refine ev_aload_n rfl ?_
        refine g_getp (r := 0) (c := 26) g75696 ad0 (by decide) (by decide) rf0_11 ft11_11 ?_
        refine ev_call (jcall_v (A := []) (S' := []) (r := 26) rfl (g75696.lt ad26) (g75696.tg ad26) (Nat.le_of_ble_eq_true rfl)) (jOk_le (by decide) (t115 g75696 (((kk75696.v (by decide)).trans ((kk75693.v (by decide)).trans ew2))) (by omega) (by omega) (((kk75696.v (by decide)).trans ((kk75693.v (by decide)).trans ew4))) (by omega) (by omega) (((kk75696.v (by decide)).trans ((kk75693.v (by decide)).trans ew6))) (by omega) (by omega) (((kk75696.v (by decide)).trans ((kk75693.v (by decide)).trans ew8))) (by omega) (by omega))) (by decide) (by decide) (fun w75698 h75698 q75698 => ?_)
        obtain ⟨v75699, rfl, g75698, kk75698, lv75699, uv75699, X75698⟩ := q75698
        have k75698 := k75696.tr kk75698 (by decide)
        show jEv _ _ _ _ _ _ _ (_, [(2, 0), (0, a1), (1, v75697), (9, 0), (9, 0), (9, 0)], [(1, v75699)], _, _, _)
        have nv75699 : v75699 ≠ 0 := by rw [X75698]; exact bt_ne
        refine ev_lstore (L' := [(2, 0), (0, a1), (1, v75697), (9, 0), (1, v75699), (9, 0)]) (Nat.le_of_ble_eq_true rfl) rfl ?_
        refine ev_lload rfl ?_
        refine ev_lconst ?_
        refine ev_lcmp ?_
        refine ev_ifge f198_59 (fun c75700 => ?_) (fun c75700 => ?_)
        · have c75700b := jcmpL_ge c75700
          refine ev_lload_n rfl ?_
          refine ev_lload rfl ?_
          refine ev_iload_n rfl ?_
          refine ev_call (jcall_s (A := [(0, a1), (1, v75699), (1, v75697)]) (S' := []) (by decide) rfl (Nat.le_of_ble_eq_true rfl)) (jOk_le (by decide) (t223 g75698 (by omega) (by omega) (by omega) (by omega) (by omega) (by omega))) (by decide) (by decide) (fun w75701 h75701 q75701 => ?_)
          obtain ⟨v75702, rfl, g75701, kk75701, lv75702, uv75702, X75701⟩ := q75701
          have k75701 := k75698.tr kk75701 (by decide)
          show jEv _ _ _ _ _ _ _ (_, [(2, 0), (0, a1), (1, v75697), (9, 0), (1, v75699), (9, 0)], [(1, v75702)], _, _, _)
          have zv75702 := fr_in (t := v75697) (b := v75699) (w := a1) (M := 19602) (by omega) (by omega) (by omega) (by omega)
          rw [← X75701] at zv75702
          refine ev_l2i (r := v75702) (by unfold w32; omega) ?_
          exact ev_ret rfl (by decide) (by decide) ⟨_, rfl, g75701, k75701, by omega, by omega, by unfold ltF; rw [if_pos (by omega), if_pos (by rw [← X75693]; omega)]; exact X75701.trans (lt_pos X75696 X75698 (by omega))⟩
        · have c75700b := jcmpL_geN c75700
          refine ev_lload_n rfl ?_
          refine ev_lneg (r := ((-v75697))) (by unfold w64; omega) ?_
          refine ev_lload rfl ?_
          refine ev_lneg (r := ((-v75699))) (by unfold w64; omega) ?_
          refine ev_iload_n rfl ?_
          refine ev_call (jcall_s (A := [(0, a1), (1, ((-v75699))), (1, ((-v75697)))]) (S' := []) (by decide) rfl (Nat.le_of_ble_eq_true rfl)) (jOk_le (by decide) (t223 g75698 (by omega) (by omega) (by omega) (by omega) (by omega) (by omega))) (by decide) (by decide) (fun w75703 h75703 q75703 => ?_)
          obtain ⟨v75704, rfl, g75703, kk75703, lv75704, uv75704, X75703⟩ := q75703
          have k75703 := k75698.tr kk75703 (by decide)
          show jEv _ _ _ _ _ _ _ (_, [(2, 0), (0, a1), (1, v75697), (9, 0), (1, v75699), (9, 0)], [(1, v75704)], _, _, _)
          have zv75704 := fr_in (t := ((-v75697))) (b := ((-v75699))) (w := a1) (M := 19602) (by omega) (by omega) (by omega) (by omega)
          rw [← X75703] at zv75704
          refine ev_goto f198_66 ?_
          refine ev_l2i (r := v75704) (by unfold w32; omega) ?_
          exact ev_ret rfl (by decide) (by decide) ⟨_, rfl, g75703, k75703, by omega, by omega, by unfold ltF; rw [if_pos (by omega), if_pos (by rw [← X75693]; omega)]; exact X75703.trans (lt_neg X75696 X75698 (by omega))⟩
      · refine ev_bipush ?_
        exact ev_ret rfl (by decide) (by decide) ⟨_, rfl, g75693, k75693, by omega, by omega, by unfold ltF; rw [if_pos (by omega), if_neg (by rw [← X75693]; omega)]⟩
set_option maxHeartbeats 4000000 in
theorem t334 {G : GH} {h : JH} (g : Gd G h) {a0 : Int} (la0 : (-99) ≤ a0) (ua0 : a0 ≤ 99) {a1 : Int} (la1 : (-99) ≤ a1) (ua1 : a1 ≤ 99) : jOk 1 0 0 334 [(0, a0), (0, a1)] h (fun v h' => ∃ r : Int, v = some (0, r) ∧ Gd G h' ∧ Kp [] h h' ∧ (-99) ≤ r ∧ r ≤ 99 ∧ r = lsF a0 a1) := by
  refine ⟨by decide, by rw [ml334]; exact Nat.le_of_ble_eq_true rfl, ?_⟩
  rw [ml334, pp334]
  show jEv _ none _ c334_0 0 0 _ (c334_0, [(0, a0), (0, a1)], [], h, 0, 0)
  have k0 := Kp.rf [] h
  refine ev_iload_n rfl ?_
  refine ev_iload_n rfl ?_
  refine ev_icmpge f334_9 (fun c75707 => ?_) (fun c75707 => ?_)
  · refine ev_iload_n rfl ?_
    exact ev_ret rfl (by decide) (by decide) ⟨_, rfl, g, k0, by omega, by omega, by unfold lsF; (repeat' split) <;> omega⟩
  · refine ev_iload_n rfl ?_
    refine ev_goto f334_10 ?_
    exact ev_ret rfl (by decide) (by decide) ⟨_, rfl, g, k0, by omega, by omega, by unfold lsF; (repeat' split) <;> omega⟩
set_option maxHeartbeats 4000000 in
theorem t335 {G : GH} {h : JH} (g : Gd G h) {a0 : Int} (la0 : (-99) ≤ a0) (ua0 : a0 ≤ 99) {a1 : Int} (la1 : (-99) ≤ a1) (ua1 : a1 ≤ 99) : jOk 1 0 0 335 [(0, a0), (0, a1)] h (fun v h' => ∃ r : Int, v = some (0, r) ∧ Gd G h' ∧ Kp [] h h' ∧ (-99) ≤ r ∧ r ≤ 99 ∧ r = grF a0 a1) := by
  refine ⟨by decide, by rw [ml335]; exact Nat.le_of_ble_eq_true rfl, ?_⟩
  rw [ml335, pp335]
  show jEv _ none _ c335_0 0 0 _ (c335_0, [(0, a0), (0, a1)], [], h, 0, 0)
  have k0 := Kp.rf [] h
  refine ev_iload_n rfl ?_
  refine ev_iload_n rfl ?_
  refine ev_icmple f335_9 (fun c75710 => ?_) (fun c75710 => ?_)
  · refine ev_iload_n rfl ?_
    exact ev_ret rfl (by decide) (by decide) ⟨_, rfl, g, k0, by omega, by omega, by unfold grF; (repeat' split) <;> omega⟩
  · refine ev_iload_n rfl ?_
    refine ev_goto f335_10 ?_
    exact ev_ret rfl (by decide) (by decide) ⟨_, rfl, g, k0, by omega, by omega, by unfold grF; (repeat' split) <;> omega⟩
set_option maxHeartbeats 4000000 in
theorem t336 {G : GH} {h : JH} (g : Gd G h) {a1 : Int} (la1 : (-2147483648) ≤ a1) (ua1 : a1 ≤ 2147483647) {w0 : Int} (ew0 : h.2.2 42 44 = w0) (lw0 : 0 ≤ w0) (uw0 : w0 ≤ 4) {w1 : Int} (ew1 : h.2.2 42 45 = w1) (lw1 : 0 ≤ w1) (uw1 : w1 ≤ 4) {w2 : Int} (ew2 : h.2.2 67 0 = w2) (lw2 : (-99) ≤ w2) (uw2 : w2 ≤ 99) {w3 : Int} (ew3 : h.2.2 67 16 = w3) (lw3 : (-99) ≤ w3) (uw3 : w3 ≤ 99) {w4 : Int} (ew4 : h.2.2 67 1 = w4) (lw4 : (-99) ≤ w4) (uw4 : w4 ≤ 99) {w5 : Int} (ew5 : h.2.2 67 17 = w5) (lw5 : (-99) ≤ w5) (uw5 : w5 ≤ 99) {w6 : Int} (ew6 : h.2.2 67 4 = w6) (lw6 : (-99) ≤ w6) (uw6 : w6 ≤ 99) {w7 : Int} (ew7 : h.2.2 67 20 = w7) (lw7 : (-99) ≤ w7) (uw7 : w7 ≤ 99) {w8 : Int} (ew8 : h.2.2 67 5 = w8) (lw8 : (-99) ≤ w8) (uw8 : w8 ≤ 99) {w9 : Int} (ew9 : h.2.2 67 21 = w9) (lw9 : (-99) ≤ w9) (uw9 : w9 ≤ 99) : jOk 3 0 0 336 [(2, 42), (0, a1)] h (fun v h' => ∃ r : Int, v = some (0, r) ∧ Gd G h' ∧ Kp [] h h' ∧ (-2000000000) ≤ r ∧ r ≤ 19602 ∧ r = ltF a1 w0 w1 w2 w3 w4 w5 w6 w7 w8 w9) := by
  refine ⟨by decide, by rw [ml336]; exact Nat.le_of_ble_eq_true rfl, ?_⟩
  rw [ml336, pp336]
  show jEv _ none _ c336_0 0 0 _ (c336_0, [(2, 42), (0, a1), (9, 0), (9, 0), (9, 0), (9, 0), (9, 0), (9, 0), (9, 0), (9, 0)], [], h, 0, 0)
  have k0 := Kp.rf [] h
  refine ev_iload_n rfl ?_
  refine ev_iconst ?_
  refine ev_iconst ?_
  refine ev_in (d := 1) (a := 0) (b := 0) (cd' := c242_0) (m := 3) (L0 := [(0, a1), (0, 0), (0, 1)]) (jcall_s (A := [(0, 1), (0, 0), (0, a1)]) (S' := []) (by decide) rfl (Nat.le_of_ble_eq_true rfl)) (by decide) ml242 pp242 (Nat.le_of_ble_eq_true rfl) rfl (by decide) (by decide) ?_
  refine ev_iload_n rfl ?_
  refine ev_iload_n rfl ?_
  refine ev_icmplt f242_14 (fun c75797 => ?_) (fun c75797 => ?_)
  · refine ev_iconst ?_
    refine ev_ret rfl (by decide) (by decide) ?_
    show jEv _ _ _ _ _ _ _ (_, [(2, 42), (0, a1), (9, 0), (9, 0), (9, 0), (9, 0), (9, 0), (9, 0), (9, 0), (9, 0)], [(0, 0)], _, _, _)
    refine ev_ifne f336_13 (fun c75798 => absurd c75798 (by omega)) (fun c75798 => ?_)
    refine ev_ldc_w ?_
    exact ev_ret rfl (by decide) (by decide) ⟨_, rfl, g, k0, by omega, by omega, by unfold ltF; rw [if_neg (by omega)]⟩
  · refine ev_iload_n rfl ?_
    refine ev_iload_n rfl ?_
    refine ev_icmpgt f242_14 (fun c75799 => ?_) (fun c75799 => ?_)
    · refine ev_iconst ?_
      refine ev_ret rfl (by decide) (by decide) ?_
      show jEv _ _ _ _ _ _ _ (_, [(2, 42), (0, a1), (9, 0), (9, 0), (9, 0), (9, 0), (9, 0), (9, 0), (9, 0), (9, 0)], [(0, 0)], _, _, _)
      refine ev_ifne f336_13 (fun c75800 => absurd c75800 (by omega)) (fun c75800 => ?_)
      refine ev_ldc_w ?_
      exact ev_ret rfl (by decide) (by decide) ⟨_, rfl, g, k0, by omega, by omega, by unfold ltF; rw [if_neg (by omega)]⟩
    · refine ev_iconst ?_
      refine ev_goto f242_15 ?_
      refine ev_ret rfl (by decide) (by decide) ?_
      show jEv _ _ _ _ _ _ _ (_, [(2, 42), (0, a1), (9, 0), (9, 0), (9, 0), (9, 0), (9, 0), (9, 0), (9, 0), (9, 0)], [(0, 1)], _, _, _)
      refine ev_ifne f336_13 (fun c75801 => ?_) (fun c75801 => absurd c75801 (by omega))
      refine ev_aload_n rfl ?_
      refine g_getv (r := 42) (v := w0) g ad42 (by decide) ft12_44 (ew0) ?_
      refine ev_iconst ?_
      refine ev_icmpne f336_29 (fun c75802 => ?_) (fun c75802 => ?_)
      · refine ev_bipush ?_
        exact ev_ret rfl (by decide) (by decide) ⟨_, rfl, g, k0, by omega, by omega, by unfold ltF; rw [if_pos (by omega), if_neg (by unfold duF; rw [if_neg (by omega)]; decide)]⟩
      · refine ev_aload_n rfl ?_
        refine g_getv (r := 42) (v := w1) g ad42 (by decide) ft12_45 (ew1) ?_
        refine ev_iconst ?_
        refine ev_icmpeq f336_32 (fun c75803 => ?_) (fun c75803 => ?_)
        · refine ev_iconst ?_
          refine ev_istore_n (L' := [(2, 42), (0, a1), (0, 0), (9, 0), (9, 0), (9, 0), (9, 0), (9, 0), (9, 0), (9, 0)]) (Nat.le_of_ble_eq_true rfl) rfl ?_
          refine ev_iload_n rfl ?_
          refine ev_iconst ?_
          refine ev_icmpge f336_88 (fun c75804 => absurd c75804 (by omega)) (fun c75804 => ?_)
          refine ev_iconst ?_
          refine ev_istore_n (L' := [(2, 42), (0, a1), (0, 0), (0, 0), (9, 0), (9, 0), (9, 0), (9, 0), (9, 0), (9, 0)]) (Nat.le_of_ble_eq_true rfl) rfl ?_
          refine ev_iload_n rfl ?_
          refine ev_iconst ?_
          refine ev_icmpge f336_82 (fun c75805 => absurd c75805 (by omega)) (fun c75805 => ?_)
          refine ev_aload_n rfl ?_
          refine g_getp (r := 42) (c := 67) g ad42 (by decide) (by decide) rf42_46 ft12_46 ?_
          refine ev_iconst ?_
          refine ev_iload_n rfl ?_
          refine ev_imul (r := 0) (by decide) ?_
          refine ev_iload_n rfl ?_
          refine ev_iadd (r := 0) (by decide) ?_
          refine g_ialdv (v := w2) g ad67 (by omega) (by omega) (ew2) ?_
          refine ev_aload_n rfl ?_
          refine g_getp (r := 42) (c := 67) g ad42 (by decide) (by decide) rf42_46 ft12_46 ?_
          refine ev_bipush ?_
          refine ev_iconst ?_
          refine ev_iload_n rfl ?_
          refine ev_imul (r := 0) (by decide) ?_
          refine ev_iadd (r := 16) (by decide) ?_
          refine ev_iload_n rfl ?_
          refine ev_iadd (r := 16) (by decide) ?_
          refine g_ialdv (v := w3) g ad67 (by omega) (by omega) (ew3) ?_
          refine ev_ineg (r := ((-w3))) (by unfold w32; omega) ?_
          refine ev_icmpeq f336_76 (fun c75806 => ?_) (fun c75806 => ?_)
          · refine ev_iinc (w := 1) (L' := [(2, 42), (0, a1), (0, 0), (0, 1), (9, 0), (9, 0), (9, 0), (9, 0), (9, 0), (9, 0)]) rfl (by decide) rfl ?_
            refine ev_goto f336_41 ?_
            refine ev_iload_n rfl ?_
            refine ev_iconst ?_
            refine ev_icmpge f336_82 (fun c75807 => absurd c75807 (by omega)) (fun c75807 => ?_)
            refine ev_aload_n rfl ?_
            refine g_getp (r := 42) (c := 67) g ad42 (by decide) (by decide) rf42_46 ft12_46 ?_
            refine ev_iconst ?_
            refine ev_iload_n rfl ?_
            refine ev_imul (r := 0) (by decide) ?_
            refine ev_iload_n rfl ?_
            refine ev_iadd (r := 1) (by decide) ?_
            refine g_ialdv (v := w4) g ad67 (by omega) (by omega) (ew4) ?_
            refine ev_aload_n rfl ?_
            refine g_getp (r := 42) (c := 67) g ad42 (by decide) (by decide) rf42_46 ft12_46 ?_
            refine ev_bipush ?_
            refine ev_iconst ?_
            refine ev_iload_n rfl ?_
            refine ev_imul (r := 0) (by decide) ?_
            refine ev_iadd (r := 16) (by decide) ?_
            refine ev_iload_n rfl ?_
            refine ev_iadd (r := 17) (by decide) ?_
            refine g_ialdv (v := w5) g ad67 (by omega) (by omega) (ew5) ?_
            refine ev_ineg (r := ((-w5))) (by unfold w32; omega) ?_
            refine ev_icmpeq f336_76 (fun c75808 => ?_) (fun c75808 => ?_)
            · refine ev_iinc (w := 2) (L' := [(2, 42), (0, a1), (0, 0), (0, 2), (9, 0), (9, 0), (9, 0), (9, 0), (9, 0), (9, 0)]) rfl (by decide) rfl ?_
              refine ev_goto f336_41 ?_
              refine ev_iload_n rfl ?_
              refine ev_iconst ?_
              refine ev_icmpge f336_82 (fun c75809 => ?_) (fun c75809 => absurd c75809 (by omega))
              refine ev_iinc (w := 1) (L' := [(2, 42), (0, a1), (0, 1), (0, 2), (9, 0), (9, 0), (9, 0), (9, 0), (9, 0), (9, 0)]) rfl (by decide) rfl ?_
              refine ev_goto f336_34 ?_
              refine ev_iload_n rfl ?_
              refine ev_iconst ?_
              refine ev_icmpge f336_88 (fun c75810 => absurd c75810 (by omega)) (fun c75810 => ?_)
              refine ev_iconst ?_
              refine ev_istore_n (L' := [(2, 42), (0, a1), (0, 1), (0, 0), (9, 0), (9, 0), (9, 0), (9, 0), (9, 0), (9, 0)]) (Nat.le_of_ble_eq_true rfl) rfl ?_
              refine ev_iload_n rfl ?_
              refine ev_iconst ?_
              refine ev_icmpge f336_82 (fun c75811 => absurd c75811 (by omega)) (fun c75811 => ?_)
              refine ev_aload_n rfl ?_
              refine g_getp (r := 42) (c := 67) g ad42 (by decide) (by decide) rf42_46 ft12_46 ?_
              refine ev_iconst ?_
              refine ev_iload_n rfl ?_
              refine ev_imul (r := 4) (by decide) ?_
              refine ev_iload_n rfl ?_
              refine ev_iadd (r := 4) (by decide) ?_
              refine g_ialdv (v := w6) g ad67 (by omega) (by omega) (ew6) ?_
              refine ev_aload_n rfl ?_
              refine g_getp (r := 42) (c := 67) g ad42 (by decide) (by decide) rf42_46 ft12_46 ?_
              refine ev_bipush ?_
              refine ev_iconst ?_
              refine ev_iload_n rfl ?_
              refine ev_imul (r := 4) (by decide) ?_
              refine ev_iadd (r := 20) (by decide) ?_
              refine ev_iload_n rfl ?_
              refine ev_iadd (r := 20) (by decide) ?_
              refine g_ialdv (v := w7) g ad67 (by omega) (by omega) (ew7) ?_
              refine ev_ineg (r := ((-w7))) (by unfold w32; omega) ?_
              refine ev_icmpeq f336_76 (fun c75812 => ?_) (fun c75812 => ?_)
              · refine ev_iinc (w := 1) (L' := [(2, 42), (0, a1), (0, 1), (0, 1), (9, 0), (9, 0), (9, 0), (9, 0), (9, 0), (9, 0)]) rfl (by decide) rfl ?_
                refine ev_goto f336_41 ?_
                refine ev_iload_n rfl ?_
                refine ev_iconst ?_
                refine ev_icmpge f336_82 (fun c75813 => absurd c75813 (by omega)) (fun c75813 => ?_)
                refine ev_aload_n rfl ?_
                refine g_getp (r := 42) (c := 67) g ad42 (by decide) (by decide) rf42_46 ft12_46 ?_
                refine ev_iconst ?_
                refine ev_iload_n rfl ?_
                refine ev_imul (r := 4) (by decide) ?_
                refine ev_iload_n rfl ?_
                refine ev_iadd (r := 5) (by decide) ?_
                refine g_ialdv (v := w8) g ad67 (by omega) (by omega) (ew8) ?_
                refine ev_aload_n rfl ?_
                refine g_getp (r := 42) (c := 67) g ad42 (by decide) (by decide) rf42_46 ft12_46 ?_
                refine ev_bipush ?_
                refine ev_iconst ?_
                refine ev_iload_n rfl ?_
                refine ev_imul (r := 4) (by decide) ?_
                refine ev_iadd (r := 20) (by decide) ?_
                refine ev_iload_n rfl ?_
                refine ev_iadd (r := 21) (by decide) ?_
                refine g_ialdv (v := w9) g ad67 (by omega) (by omega) (ew9) ?_
                refine ev_ineg (r := ((-w9))) (by unfold w32; omega) ?_
                refine ev_icmpeq f336_76 (fun c75814 => ?_) (fun c75814 => ?_)
                · refine ev_iinc (w := 2) (L' := [(2, 42), (0, a1), (0, 1), (0, 2), (9, 0), (9, 0), (9, 0), (9, 0), (9, 0), (9, 0)]) rfl (by decide) rfl ?_
                  refine ev_goto f336_41 ?_
                  refine ev_iload_n rfl ?_
                  refine ev_iconst ?_
                  refine ev_icmpge f336_82 (fun c75815 => ?_) (fun c75815 => absurd c75815 (by omega))
                  refine ev_iinc (w := 2) (L' := [(2, 42), (0, a1), (0, 2), (0, 2), (9, 0), (9, 0), (9, 0), (9, 0), (9, 0), (9, 0)]) rfl (by decide) rfl ?_
                  refine ev_goto f336_34 ?_
                  refine ev_iload_n rfl ?_
                  refine ev_iconst ?_
                  refine ev_icmpge f336_88 (fun c75816 => ?_) (fun c75816 => absurd c75816 (by omega))
                  refine ev_aload_n rfl ?_
                  refine g_getp (r := 42) (c := 67) g ad42 (by decide) (by decide) rf42_46 ft12_46 ?_
                  refine ev_iconst ?_
                  refine g_ialdv (v := w2) g ad67 (by omega) (by omega) (ew2) ?_
                  refine ev_istore_n (L' := [(2, 42), (0, a1), (0, w2), (0, 2), (9, 0), (9, 0), (9, 0), (9, 0), (9, 0), (9, 0)]) (Nat.le_of_ble_eq_true rfl) rfl ?_
                  refine ev_aload_n rfl ?_
                  refine g_getp (r := 42) (c := 67) g ad42 (by decide) (by decide) rf42_46 ft12_46 ?_
                  refine ev_iconst ?_
                  refine g_ialdv (v := w4) g ad67 (by omega) (by omega) (ew4) ?_
                  refine ev_istore_n (L' := [(2, 42), (0, a1), (0, w2), (0, w4), (9, 0), (9, 0), (9, 0), (9, 0), (9, 0), (9, 0)]) (Nat.le_of_ble_eq_true rfl) rfl ?_
                  refine ev_aload_n rfl ?_
                  refine g_getp (r := 42) (c := 67) g ad42 (by decide) (by decide) rf42_46 ft12_46 ?_
                  refine ev_iconst ?_
                  refine g_ialdv (v := w6) g ad67 (by omega) (by omega) (ew6) ?_
                  refine ev_istore (L' := [(2, 42), (0, a1), (0, w2), (0, w4), (0, w6), (9, 0), (9, 0), (9, 0), (9, 0), (9, 0)]) (Nat.le_of_ble_eq_true rfl) rfl ?_
                  refine ev_aload_n rfl ?_
                  refine g_getp (r := 42) (c := 67) g ad42 (by decide) (by decide) rf42_46 ft12_46 ?_
                  refine ev_iconst ?_
                  refine g_ialdv (v := w8) g ad67 (by omega) (by omega) (ew8) ?_
                  refine ev_istore (L' := [(2, 42), (0, a1), (0, w2), (0, w4), (0, w6), (0, w8), (9, 0), (9, 0), (9, 0), (9, 0)]) (Nat.le_of_ble_eq_true rfl) rfl ?_
                  refine ev_iload_n rfl ?_
                  refine ev_iload_n rfl ?_
                  refine ev_call (jcall_s (A := [(0, w4), (0, w2)]) (S' := []) (by decide) rfl (Nat.le_of_ble_eq_true rfl)) (jOk_le (by decide) (t334 g (by omega) (by omega) (by omega) (by omega))) (by decide) (by decide) (fun w75817 h75817 q75817 => ?_)
                  obtain ⟨v75818, rfl, g75817, kk75817, lv75818, uv75818, X75817⟩ := q75817
                  have k75817 := k0.tr kk75817 (by decide)
                  show jEv _ _ _ _ _ _ _ (_, [(2, 42), (0, a1), (0, w2), (0, w4), (0, w6), (0, w8), (9, 0), (9, 0), (9, 0), (9, 0)], [(0, v75818)], _, _, _)
                  refine ev_iload rfl ?_
                  refine ev_iload rfl ?_
                  refine ev_call (jcall_s (A := [(0, w8), (0, w6)]) (S' := [(0, v75818)]) (by decide) rfl (Nat.le_of_ble_eq_true rfl)) (jOk_le (by decide) (t334 g75817 (by omega) (by omega) (by omega) (by omega))) (by decide) (by decide) (fun w75819 h75819 q75819 => ?_)
                  obtain ⟨v75820, rfl, g75819, kk75819, lv75820, uv75820, X75819⟩ := q75819
                  have k75819 := k75817.tr kk75819 (by decide)
                  show jEv _ _ _ _ _ _ _ (_, [(2, 42), (0, a1), (0, w2), (0, w4), (0, w6), (0, w8), (9, 0), (9, 0), (9, 0), (9, 0)], [(0, v75820), (0, v75818)], _, _, _)
                  refine ev_call (jcall_s (A := [(0, v75820), (0, v75818)]) (S' := []) (by decide) rfl (Nat.le_of_ble_eq_true rfl)) (jOk_le (by decide) (t335 g75819 (by omega) (by omega) (by omega) (by omega))) (by decide) (by decide) (fun w75821 h75821 q75821 => ?_)
                  obtain ⟨v75822, rfl, g75821, kk75821, lv75822, uv75822, X75821⟩ := q75821
                  have k75821 := k75819.tr kk75821 (by decide)
                  show jEv _ _ _ _ _ _ _ (_, [(2, 42), (0, a1), (0, w2), (0, w4), (0, w6), (0, w8), (9, 0), (9, 0), (9, 0), (9, 0)], [(0, v75822)], _, _, _)
                  refine ev_istore (L' := [(2, 42), (0, a1), (0, w2), (0, w4), (0, w6), (0, w8), (0, v75822), (9, 0), (9, 0), (9, 0)]) (Nat.le_of_ble_eq_true rfl) rfl ?_
                  refine ev_iload_n rfl ?_
                  refine ev_iload rfl ?_
                  refine ev_call (jcall_s (A := [(0, w6), (0, w2)]) (S' := []) (by decide) rfl (Nat.le_of_ble_eq_true rfl)) (jOk_le (by decide) (t335 g75821 (by omega) (by omega) (by omega) (by omega))) (by decide) (by decide) (fun w75823 h75823 q75823 => ?_)
                  obtain ⟨v75824, rfl, g75823, kk75823, lv75824, uv75824, X75823⟩ := q75823
                  have k75823 := k75821.tr kk75823 (by decide)
                  show jEv _ _ _ _ _ _ _ (_, [(2, 42), (0, a1), (0, w2), (0, w4), (0, w6), (0, w8), (0, v75822), (9, 0), (9, 0), (9, 0)], [(0, v75824)], _, _, _)
                  refine ev_iload_n rfl ?_
                  refine ev_iload rfl ?_
                  refine ev_call (jcall_s (A := [(0, w8), (0, w4)]) (S' := [(0, v75824)]) (by decide) rfl (Nat.le_of_ble_eq_true rfl)) (jOk_le (by decide) (t335 g75823 (by omega) (by omega) (by omega) (by omega))) (by decide) (by decide) (fun w75825 h75825 q75825 => ?_)
                  obtain ⟨v75826, rfl, g75825, kk75825, lv75826, uv75826, X75825⟩ := q75825
                  have k75825 := k75823.tr kk75825 (by decide)
                  show jEv _ _ _ _ _ _ _ (_, [(2, 42), (0, a1), (0, w2), (0, w4), (0, w6), (0, w8), (0, v75822), (9, 0), (9, 0), (9, 0)], [(0, v75826), (0, v75824)], _, _, _)
                  refine ev_call (jcall_s (A := [(0, v75826), (0, v75824)]) (S' := []) (by decide) rfl (Nat.le_of_ble_eq_true rfl)) (jOk_le (by decide) (t334 g75825 (by omega) (by omega) (by omega) (by omega))) (by decide) (by decide) (fun w75827 h75827 q75827 => ?_)
                  obtain ⟨v75828, rfl, g75827, kk75827, lv75828, uv75828, X75827⟩ := q75827
                  have k75827 := k75825.tr kk75827 (by decide)
                  show jEv _ _ _ _ _ _ _ (_, [(2, 42), (0, a1), (0, w2), (0, w4), (0, w6), (0, w8), (0, v75822), (9, 0), (9, 0), (9, 0)], [(0, v75828)], _, _, _)
                  refine ev_istore (L' := [(2, 42), (0, a1), (0, w2), (0, w4), (0, w6), (0, w8), (0, v75822), (0, v75828), (9, 0), (9, 0)]) (Nat.le_of_ble_eq_true rfl) rfl ?_
                  refine ev_iload rfl ?_
                  refine ev_iload rfl ?_
                  refine ev_icmpne f336_169 (fun c75829 => ?_) (fun c75829 => ?_)
                  · refine ev_iload_n rfl ?_
                    refine ev_iload rfl ?_
                    refine ev_iadd (r := (w2 + w8)) (by unfold w32; omega) ?_
                    refine ev_iload_n rfl ?_
                    refine ev_isub (r := (w2 + (-w4) + w8)) (by unfold w32; omega) ?_
                    refine ev_iload rfl ?_
                    refine ev_isub (r := (w2 + (-w4) + (-w6) + w8)) (by unfold w32; omega) ?_
                    have lo : v75822 = lowF w2 w4 w6 w8 := X75821.trans (by rw [X75817, X75819]; rfl)
                    have hi : v75828 = hiF w2 w4 w6 w8 := X75827.trans (by rw [X75823, X75825]; rfl)
                    obtain ⟨v75830, ev75830⟩ : ∃ v : Int, w2 + w8 - w4 - w6 = v := ⟨_, rfl⟩
                    have nv75830 : v75830 ≠ 0 := by rw [← ev75830]; exact low_ne (by rw [← lo, ← hi]; omega)
                    have lv75830 : (-396) ≤ v75830 := by omega
                    have uv75830 : v75830 ≤ 396 := by omega
                    rw [show ((w2 + (-w4) + (-w6) + w8) : Int) = v75830 by omega]
                    refine ev_istore (L' := [(2, 42), (0, a1), (0, w2), (0, w4), (0, w6), (0, w8), (0, v75822), (0, v75828), (0, v75830), (9, 0)]) (Nat.le_of_ble_eq_true rfl) rfl ?_
                    refine ev_iload_n rfl ?_
                    refine ev_iload rfl ?_
                    obtain ⟨v75831, ev75831, lv75831, uv75831⟩ : ∃ v : Int, w2 * w8 = v ∧ (-9801) ≤ v ∧ v ≤ 9801 := ⟨_, rfl, by have := mul_ab (x := w2) (y := w8) (A := 99) (B := 99) (by omega) (by omega); omega, by have := mul_ab (x := w2) (y := w8) (A := 99) (B := 99) (by omega) (by omega); omega⟩
                    refine ev_imul (r := v75831) (by rw [ev75831]; unfold w32; omega) ?_
                    refine ev_iload_n rfl ?_
                    refine ev_iload rfl ?_
                    obtain ⟨v75832, ev75832, lv75832, uv75832⟩ : ∃ v : Int, w4 * w6 = v ∧ (-9801) ≤ v ∧ v ≤ 9801 := ⟨_, rfl, by have := mul_ab (x := w4) (y := w6) (A := 99) (B := 99) (by omega) (by omega); omega, by have := mul_ab (x := w4) (y := w6) (A := 99) (B := 99) (by omega) (by omega); omega⟩
                    refine ev_imul (r := v75832) (by rw [ev75832]; unfold w32; omega) ?_
                    refine ev_isub (r := (v75831 + (-v75832))) (by unfold w32; omega) ?_
                    refine ev_istore (L' := [(2, 42), (0, a1), (0, w2), (0, w4), (0, w6), (0, w8), (0, v75822), (0, v75828), (0, v75830), (0, (v75831 + (-v75832)))]) (Nat.le_of_ble_eq_true rfl) rfl ?_
                    refine ev_iload rfl ?_
                    refine ev_ifle f336_209 (fun c75833 => ?_) (fun c75833 => ?_)
                    · refine ev_iload rfl ?_
                      refine ev_ineg (r := ((-v75831) + v75832)) (by unfold w32; omega) ?_
                      refine ev_i2l ?_
                      refine ev_iload rfl ?_
                      refine ev_ineg (r := ((-v75830))) (by unfold w32; omega) ?_
                      refine ev_i2l ?_
                      refine ev_iload_n rfl ?_
                      refine ev_call (jcall_s (A := [(0, a1), (1, ((-v75830))), (1, ((-v75831) + v75832))]) (S' := []) (by decide) rfl (Nat.le_of_ble_eq_true rfl)) (jOk_le (by decide) (t244 g75827 (by omega) (by omega) (by omega) (by omega) (by omega) (by omega))) (by decide) (by decide) (fun w75834 h75834 q75834 => ?_)
                      obtain ⟨v75835, rfl, g75834, kk75834, lv75835, uv75835, X75834⟩ := q75834
                      have k75834 := k75827.tr kk75834 (by decide)
                      show jEv _ _ _ _ _ _ _ (_, [(2, 42), (0, a1), (0, w2), (0, w4), (0, w6), (0, w8), (0, v75822), (0, v75828), (0, v75830), (0, (v75831 + (-v75832)))], [(1, v75835)], _, _, _)
                      have zv75835 := fr_in (t := ((-v75831) + v75832)) (b := ((-v75830))) (w := a1) (M := 19602) (by omega) (by omega) (by omega) (by omega)
                      rw [← X75834] at zv75835
                      refine ev_l2i (r := v75835) (by unfold w32; omega) ?_
                      exact ev_ret rfl (by decide) (by decide) ⟨_, rfl, g75834, k75834, by omega, by omega, by unfold ltF; rw [if_pos (by omega), if_pos (by unfold duF; rw [if_pos (by omega)])]; have lo : v75822 = lowF w2 w4 w6 w8 := X75821.trans (by rw [X75817, X75819]; rfl); have hi : v75828 = hiF w2 w4 w6 w8 := X75827.trans (by rw [X75823, X75825]; rfl); unfold lqF; rw [← lo, ← hi]; rw [if_neg (by omega), if_neg (by omega)]; exact X75834.trans (by rw [show -(w2 * w8 - w4 * w6) = ((-v75831) + v75832) by omega, show -(w2 + w8 - w4 - w6) = ((-v75830)) by omega])⟩
                    · refine ev_iload rfl ?_
                      refine ev_i2l ?_
                      refine ev_iload rfl ?_
                      refine ev_i2l ?_
                      refine ev_iload_n rfl ?_
                      refine ev_call (jcall_s (A := [(0, a1), (1, v75830), (1, (v75831 + (-v75832)))]) (S' := []) (by decide) rfl (Nat.le_of_ble_eq_true rfl)) (jOk_le (by decide) (t244 g75827 (by omega) (by omega) (by omega) (by omega) (by omega) (by omega))) (by decide) (by decide) (fun w75836 h75836 q75836 => ?_)
                      obtain ⟨v75837, rfl, g75836, kk75836, lv75837, uv75837, X75836⟩ := q75836
                      have k75836 := k75827.tr kk75836 (by decide)
                      show jEv _ _ _ _ _ _ _ (_, [(2, 42), (0, a1), (0, w2), (0, w4), (0, w6), (0, w8), (0, v75822), (0, v75828), (0, v75830), (0, (v75831 + (-v75832)))], [(1, v75837)], _, _, _)
                      have zv75837 := fr_in (t := (v75831 + (-v75832))) (b := v75830) (w := a1) (M := 19602) (by omega) (by omega) (by omega) (by omega)
                      rw [← X75836] at zv75837
                      refine ev_goto f336_221 ?_
                      refine ev_l2i (r := v75837) (by unfold w32; omega) ?_
                      exact ev_ret rfl (by decide) (by decide) ⟨_, rfl, g75836, k75836, by omega, by omega, by unfold ltF; rw [if_pos (by omega), if_pos (by unfold duF; rw [if_pos (by omega)])]; have lo : v75822 = lowF w2 w4 w6 w8 := X75821.trans (by rw [X75817, X75819]; rfl); have hi : v75828 = hiF w2 w4 w6 w8 := X75827.trans (by rw [X75823, X75825]; rfl); unfold lqF; rw [← lo, ← hi]; rw [if_neg (by omega), if_pos (by omega)]; exact X75836.trans (by rw [show w2 * w8 - w4 * w6 = (v75831 + (-v75832)) by omega, show w2 + w8 - w4 - w6 = v75830 by omega])⟩
                  · refine ev_iload rfl ?_
                    refine ev_i2l ?_
                    refine ev_lconst ?_
                    refine ev_iload_n rfl ?_
                    refine ev_call (jcall_s (A := [(0, a1), (1, 1), (1, v75822)]) (S' := []) (by decide) rfl (Nat.le_of_ble_eq_true rfl)) (jOk_le (by decide) (t244 g75827 (by omega) (by omega) (by omega) (by omega) (by omega) (by omega))) (by decide) (by decide) (fun w75838 h75838 q75838 => ?_)
                    obtain ⟨v75839, rfl, g75838, kk75838, lv75839, uv75839, X75838⟩ := q75838
                    have k75838 := k75827.tr kk75838 (by decide)
                    show jEv _ _ _ _ _ _ _ (_, [(2, 42), (0, a1), (0, w2), (0, w4), (0, w6), (0, w8), (0, v75822), (0, v75828), (9, 0), (9, 0)], [(1, v75839)], _, _, _)
                    have zv75839 := fr_in (t := v75822) (b := 1) (w := a1) (M := 99) (by omega) (by omega) (by omega) (by omega)
                    rw [← X75838] at zv75839
                    refine ev_l2i (r := v75839) (by unfold w32; omega) ?_
                    exact ev_ret rfl (by decide) (by decide) ⟨_, rfl, g75838, k75838, by omega, by omega, by unfold ltF; rw [if_pos (by omega), if_pos (by unfold duF; rw [if_pos (by omega)])]; have lo : v75822 = lowF w2 w4 w6 w8 := X75821.trans (by rw [X75817, X75819]; rfl); have hi : v75828 = hiF w2 w4 w6 w8 := X75827.trans (by rw [X75823, X75825]; rfl); unfold lqF; rw [← lo, ← hi]; rw [if_pos (by omega)]; exact X75838⟩
                · refine ev_bipush ?_
                  exact ev_ret rfl (by decide) (by decide) ⟨_, rfl, g, k0, by omega, by omega, by unfold ltF; rw [if_pos (by omega), if_neg (by unfold duF; rw [if_neg (by omega)]; decide)]⟩
              · refine ev_bipush ?_
                exact ev_ret rfl (by decide) (by decide) ⟨_, rfl, g, k0, by omega, by omega, by unfold ltF; rw [if_pos (by omega), if_neg (by unfold duF; rw [if_neg (by omega)]; decide)]⟩
            · refine ev_bipush ?_
              exact ev_ret rfl (by decide) (by decide) ⟨_, rfl, g, k0, by omega, by omega, by unfold ltF; rw [if_pos (by omega), if_neg (by unfold duF; rw [if_neg (by omega)]; decide)]⟩
          · refine ev_bipush ?_
            exact ev_ret rfl (by decide) (by decide) ⟨_, rfl, g, k0, by omega, by omega, by unfold ltF; rw [if_pos (by omega), if_neg (by unfold duF; rw [if_neg (by omega)]; decide)]⟩
        · refine ev_bipush ?_
          exact ev_ret rfl (by decide) (by decide) ⟨_, rfl, g, k0, by omega, by omega, by unfold ltF; rw [if_pos (by omega), if_neg (by unfold duF; rw [if_neg (by omega)]; decide)]⟩
theorem jn11 : jN 11 = 17 := by decide +kernel
theorem jn12 : jN 12 = 66 := by decide +kernel
theorem ml384 : jML jnM = 4 := by decide +kernel
theorem pp384 : jP jnM = c384_0 := rfl
set_option maxRecDepth 100000 in
theorem jlawN : jchkN jnM = true := jchkNF_ok (by decide +kernel)
set_option maxRecDepth 100000 in
theorem f384_18 : jfind c384_0 18 = some c384_18 := rfl
set_option maxRecDepth 100000 in
theorem f384_260 : jfind c384_0 260 = some c384_260 := rfl
set_option maxRecDepth 100000 in
theorem f384_283 : jfind c384_0 283 = some c384_283 := rfl
set_option maxRecDepth 100000 in
theorem f384_316 : jfind c384_0 316 = some c384_316 := rfl
set_option maxRecDepth 100000 in
theorem f384_369 : jfind c384_0 369 = some c384_369 := rfl
set_option maxRecDepth 100000 in
theorem f384_382 : jfind c384_0 382 = some c384_382 := rfl
set_option maxRecDepth 100000 in
theorem f384_405 : jfind c384_0 405 = some c384_405 := rfl
set_option maxRecDepth 100000 in
theorem f384_448 : jfind c384_0 448 = some c384_448 := rfl
set_option maxRecDepth 100000 in
theorem f384_481 : jfind c384_0 481 = some c384_481 := rfl
set_option maxRecDepth 100000 in
theorem f384_494 : jfind c384_0 494 = some c384_494 := rfl
set_option maxRecDepth 100000 in
theorem f384_537 : jfind c384_0 537 = some c384_537 := rfl
set_option maxRecDepth 100000 in
theorem f384_590 : jfind c384_0 590 = some c384_590 := rfl
set_option maxRecDepth 100000 in
theorem f384_603 : jfind c384_0 603 = some c384_603 := rfl
set_option maxRecDepth 100000 in
theorem f384_616 : jfind c384_0 616 = some c384_616 := rfl
set_option maxRecDepth 100000 in
theorem f384_649 : jfind c384_0 649 = some c384_649 := rfl
set_option maxRecDepth 100000 in
theorem f384_682 : jfind c384_0 682 = some c384_682 := rfl
set_option maxRecDepth 100000 in
theorem f384_715 : jfind c384_0 715 = some c384_715 := rfl
set_option maxRecDepth 100000 in
theorem f384_758 : jfind c384_0 758 = some c384_758 := rfl
set_option maxRecDepth 100000 in
theorem f384_801 : jfind c384_0 801 = some c384_801 := rfl
set_option maxRecDepth 100000 in
theorem f384_844 : jfind c384_0 844 = some c384_844 := rfl
set_option maxRecDepth 100000 in
theorem f384_877 : jfind c384_0 877 = some c384_877 := rfl
set_option maxRecDepth 100000 in
theorem f384_930 : jfind c384_0 930 = some c384_930 := rfl
set_option maxRecDepth 100000 in
theorem f384_963 : jfind c384_0 963 = some c384_963 := rfl
set_option maxRecDepth 100000 in
theorem f384_1006 : jfind c384_0 1006 = some c384_1006 := rfl
set_option maxRecDepth 100000 in
theorem f384_1059 : jfind c384_0 1059 = some c384_1059 := rfl
set_option maxRecDepth 100000 in
theorem f384_1082 : jfind c384_0 1082 = some c384_1082 := rfl
set_option maxRecDepth 100000 in
theorem f384_1125 : jfind c384_0 1125 = some c384_1125 := rfl
set_option maxRecDepth 100000 in
theorem f384_1178 : jfind c384_0 1178 = some c384_1178 := rfl
set_option maxRecDepth 100000 in
theorem f384_1201 : jfind c384_0 1201 = some c384_1201 := rfl
set_option maxRecDepth 100000 in
theorem f384_1254 : jfind c384_0 1254 = some c384_1254 := rfl
set_option maxRecDepth 100000 in
theorem f384_1307 : jfind c384_0 1307 = some c384_1307 := rfl
set_option maxRecDepth 100000 in
theorem f384_1340 : jfind c384_0 1340 = some c384_1340 := rfl
set_option maxRecDepth 100000 in
theorem f384_1383 : jfind c384_0 1383 = some c384_1383 := rfl
set_option maxRecDepth 100000 in
theorem f384_1406 : jfind c384_0 1406 = some c384_1406 := rfl
set_option maxRecDepth 100000 in
theorem f384_1429 : jfind c384_0 1429 = some c384_1429 := rfl
set_option maxRecDepth 100000 in
theorem f384_1452 : jfind c384_0 1452 = some c384_1452 := rfl
set_option maxRecDepth 100000 in
theorem f384_1495 : jfind c384_0 1495 = some c384_1495 := rfl
set_option maxRecDepth 100000 in
theorem f384_1518 : jfind c384_0 1518 = some c384_1518 := rfl
set_option maxRecDepth 100000 in
theorem f384_1551 : jfind c384_0 1551 = some c384_1551 := rfl
set_option maxRecDepth 100000 in
theorem f384_1564 : jfind c384_0 1564 = some c384_1564 := rfl
set_option maxRecDepth 100000 in
theorem f384_1597 : jfind c384_0 1597 = some c384_1597 := rfl
set_option maxRecDepth 100000 in
theorem f384_1630 : jfind c384_0 1630 = some c384_1630 := rfl
set_option maxRecDepth 100000 in
theorem f384_1683 : jfind c384_0 1683 = some c384_1683 := rfl
set_option maxRecDepth 100000 in
theorem f384_1726 : jfind c384_0 1726 = some c384_1726 := rfl
set_option maxRecDepth 100000 in
theorem f384_1769 : jfind c384_0 1769 = some c384_1769 := rfl
set_option maxRecDepth 100000 in
theorem f384_1812 : jfind c384_0 1812 = some c384_1812 := rfl
set_option maxRecDepth 100000 in
theorem f384_1855 : jfind c384_0 1855 = some c384_1855 := rfl
set_option maxRecDepth 100000 in
theorem f384_1878 : jfind c384_0 1878 = some c384_1878 := rfl
set_option maxRecDepth 100000 in
theorem f384_1911 : jfind c384_0 1911 = some c384_1911 := rfl
set_option maxRecDepth 100000 in
theorem f384_1954 : jfind c384_0 1954 = some c384_1954 := rfl
set_option maxRecDepth 100000 in
theorem f384_2027 : jfind c384_0 2027 = some c384_2027 := rfl
set_option maxRecDepth 100000 in
theorem f384_2060 : jfind c384_0 2060 = some c384_2060 := rfl
set_option maxRecDepth 100000 in
theorem f384_2123 : jfind c384_0 2123 = some c384_2123 := rfl
set_option maxRecDepth 100000 in
theorem f384_2156 : jfind c384_0 2156 = some c384_2156 := rfl
set_option maxRecDepth 100000 in
theorem f384_2179 : jfind c384_0 2179 = some c384_2179 := rfl
set_option maxRecDepth 100000 in
theorem f384_2185 : jfind c384_0 2185 = some c384_2185 := rfl

