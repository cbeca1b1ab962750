def TV (a s v R C : Int) : Prop := 0 ≤ a ∧ a / 10 < R ∧ a % 10 < C ∧ 0 ≤ s ∧ s ≤ 1 ∧ -99 ≤ v ∧ v ≤ 99
def TB (r c : Int) : Prop := 1 ≤ r ∧ r ≤ 4 ∧ 1 ≤ c ∧ c ≤ 4
def Up (h h' : JH) (a : Nat) (i v : Int) : Prop := h'.2.2 a i.toNat = v ∧ ∀ j : Nat, j ≠ i.toNat → h'.2.2 a j = h.2.2 a j
theorem Up.mk {h h' : JH} {a : Nat} {i i' v : Int} (e : h' = jwr h a i.toNat v) (hi : i' = i) : Up h h' a i' v := by
  subst hi
  exact ⟨jw_eq e, fun j hj => jw_ne e (Or.inr hj)⟩
def Sm (h h' : JH) (a : Nat) : Prop := ∀ j : Nat, h'.2.2 a j = h.2.2 a j
def Z0 (h : JH) (a : Nat) (x : Int) : Prop := ∀ j : Nat, (j : Int) < x → h.2.2 a j = 0
theorem Z0.start (h : JH) (a : Nat) : Z0 h a 0 := fun j hj => by omega
theorem Z0.step {h h' : JH} {a : Nat} {x : Int} (z : Z0 h a x) (x0 : 0 ≤ x) (e : h' = jwr h a x.toNat 0) : Z0 h' a (x + 1) := fun j hj => by
  rcases Decidable.em (j = x.toNat) with r | r
  · rw [r]; exact jw_eq e
  · rw [jw_ne e (Or.inr r)]; exact z j (by omega)
theorem Z0.le {h : JH} {a : Nat} {x y : Int} (z : Z0 h a x) (hy : y ≤ x) : Z0 h a y := fun j hj => z j (by omega)
theorem at_e {h : JH} {a : Nat} {i i' v : Int} (e : h.2.2 a i.toNat = v) (hi : i' = i) : v = h.2.2 a i'.toNat := by rw [hi]; exact e.symm
def Cc : List (Nat × Nat) := [(26, 1), (26, 2), (27, 0), (42, 45), (42, 46), (67, 0)]
def Rl (h : JH) : Prop := h.2.2 26 0 = h.2.2 42 44 ∧ h.2.2 26 1 = h.2.2 42 45 ∧ ∀ r c s : Nat, r < 4 → c < 4 → s < 2 → h.2.2 27 (8 * r + 2 * c + s) = h.2.2 67 (16 * s + 4 * r + c)
theorem Rl.fr {h h' : JH} (x : Rl h) (e : ∀ a i, inW Cc a i = true → h'.2.2 a i = h.2.2 a i) : Rl h' := by
  refine ⟨by rw [e 26 0 rfl, e 42 44 rfl]; exact x.1, by rw [e 26 1 rfl, e 42 45 rfl]; exact x.2.1, fun r c s hr hc hs => ?_⟩
  rw [e 27 _ rfl, e 67 _ rfl]
  exact x.2.2 r c s hr hc hs
def dsj (C W : List (Nat × Nat)) : Bool := C.all (fun c => decide (c.1 < 83) && W.all (fun w => w.1 != c.1 || (w.2 != 0 && c.2 != 0 && w.2 != c.2)))
theorem dsj_at {C W : List (Nat × Nat)} (h : dsj C W = true) {a i : Nat} (hc : inW C a i = true) : a < 83 ∧ inW W a i = false := by
  unfold inW at hc
  obtain ⟨c, hm, hq⟩ := List.any_eq_true.mp hc
  have h1 := List.all_eq_true.mp h c hm
  rw [Bool.and_eq_true, decide_eq_true_eq] at h1
  simp only [Bool.or_eq_true, Bool.and_eq_true, beq_iff_eq, decide_eq_true_eq] at hq
  have ha : a < 83 := by omega
  refine ⟨ha, ?_⟩
  unfold inW
  rw [List.any_eq_false]
  intro w hw hx
  have h2 := List.all_eq_true.mp h1.2 w hw
  simp only [Bool.or_eq_true, Bool.and_eq_true, bne_iff_ne] at h2
  simp only [Bool.or_eq_true, Bool.and_eq_true, beq_iff_eq, decide_eq_true_eq] at hx
  omega
theorem Rl.kp {W : List (Nat × Nat)} {h h' : JH} (x : Rl h) (k : Kp W h h') (hd : dsj Cc W = true) : Rl h' := x.fr (fun a i hc => k.v (dsj_at hd hc).2)
theorem Rl.kx {W : List (Nat × Nat)} {h h' : JH} (x : Rl h) (k : Kx W h h') (hd : dsj Cc W = true) (h83 : 83 ≤ h.1) : Rl h' := x.fr (fun a i hc => k.2.2 a i (Nat.lt_of_lt_of_le (dsj_at hd hc).1 h83) (dsj_at hd hc).2)
def CeC (h h' : JH) (a s v R C r : Int) : Prop := (¬ TV a s v R C ∧ r = -2000000000 ∧ Sm h h' 27) ∨ (TV a s v R C ∧ r = h.2.2 27 (8 * (a / 10) + 2 * (a % 10) + s).toNat ∧ Up h h' 27 (8 * (a / 10) + 2 * (a % 10) + s) v)
def CeR (h h' : JH) (a s v R C r : Int) : Prop := (¬ TV a s v R C ∧ r = -2000000000 ∧ Sm h h' 67) ∨ (TV a s v R C ∧ r = h.2.2 67 (16 * s + 4 * (a / 10) + a % 10).toNat ∧ Up h h' 67 (16 * s + 4 * (a / 10) + a % 10) v)
def TaC (h h' : JH) (a b r : Int) : Prop := (¬ TB a b ∧ r = -1 ∧ h'.2.2 26 0 = h.2.2 26 0 ∧ h'.2.2 26 1 = h.2.2 26 1 ∧ Sm h h' 27) ∨ (TB a b ∧ r = a * b ∧ h'.2.2 26 0 = a ∧ h'.2.2 26 1 = b ∧ Z0 h' 27 32)
def TaR (h h' : JH) (a b r : Int) : Prop := (¬ TB a b ∧ r = -1 ∧ h'.2.2 42 44 = h.2.2 42 44 ∧ h'.2.2 42 45 = h.2.2 42 45 ∧ Sm h h' 67) ∨ (TB a b ∧ r = a * b ∧ h'.2.2 42 44 = a ∧ h'.2.2 42 45 = b ∧ Z0 h' 67 32)
theorem Rl.cell {h h1 h2 : JH} {a s v R C r1 r2 : Int} (x : Rl h) (k1 : Kp [(27, 0)] h h1) (k2 : Kp [(67, 0)] h1 h2) (hR : R ≤ 4) (hC : C ≤ 4) (f1 : CeC h h1 a s v R C r1) (f2 : CeR h1 h2 a s v R C r2) : r1 = r2 ∧ Rl h2 := by
  obtain ⟨x1, x2, x3⟩ := x
  have y1 : h2.2.2 26 0 = h2.2.2 42 44 := by rw [k2.v rfl, k1.v rfl, k2.v (a := 42) rfl, k1.v (a := 42) rfl]; exact x1
  have y2 : h2.2.2 26 1 = h2.2.2 42 45 := by rw [k2.v rfl, k1.v rfl, k2.v (a := 42) rfl, k1.v (a := 42) rfl]; exact x2
  have e67 : ∀ j, h1.2.2 67 j = h.2.2 67 j := fun j => k1.v rfl
  have e27 : ∀ j, h2.2.2 27 j = h1.2.2 27 j := fun j => k2.v rfl
  rcases f1 with ⟨n1, q1, m1⟩ | ⟨t1, q1, m1⟩
  · rcases f2 with ⟨n2, q2, m2⟩ | ⟨t2, _⟩
    · exact ⟨q1.trans q2.symm, y1, y2, fun r c s hr hc hs => by rw [e27, m1, m2, e67]; exact x3 r c s hr hc hs⟩
    · exact absurd t2 n1
  · rcases f2 with ⟨n2, _⟩ | ⟨t2, q2, m2⟩
    · exact absurd t1 n2
    · unfold TV at t1
      have e0 := x3 (a / 10).toNat (a % 10).toNat s.toNat (by omega) (by omega) (by omega)
      have i1 : (8 * (a / 10) + 2 * (a % 10) + s).toNat = 8 * (a / 10).toNat + 2 * (a % 10).toNat + s.toNat := by omega
      have i2 : (16 * s + 4 * (a / 10) + a % 10).toNat = 16 * s.toNat + 4 * (a / 10).toNat + (a % 10).toNat := by omega
      refine ⟨by rw [q1, q2, e67, i1, i2]; exact e0, y1, y2, fun r c u hr hc hu => ?_⟩
      rw [e27]
      rcases Decidable.em (r = (a / 10).toNat ∧ c = (a % 10).toNat ∧ u = s.toNat) with ⟨z1, z2, z3⟩ | z
      · rw [z1, z2, z3, ← i1, ← i2, m1.1, m2.1]
      · rw [m1.2 _ (by omega), m2.2 _ (by omega), e67]
        exact x3 r c u hr hc hu
theorem Rl.table {h h1 h2 : JH} {a b r1 r2 : Int} (x : Rl h) (k1 : Kp [(26, 1), (26, 2), (27, 0)] h h1) (k2 : Kp [(42, 45), (42, 46), (67, 0)] h1 h2) (f1 : TaC h h1 a b r1) (f2 : TaR h1 h2 a b r2) : r1 = r2 ∧ Rl h2 := by
  obtain ⟨x1, x2, x3⟩ := x
  have e67 : ∀ j, h1.2.2 67 j = h.2.2 67 j := fun j => k1.v rfl
  have e27 : ∀ j, h2.2.2 27 j = h1.2.2 27 j := fun j => k2.v rfl
  have a0 : h2.2.2 26 0 = h1.2.2 26 0 := k2.v rfl
  have a1 : h2.2.2 26 1 = h1.2.2 26 1 := k2.v rfl
  have b0 : h1.2.2 42 44 = h.2.2 42 44 := k1.v rfl
  have b1 : h1.2.2 42 45 = h.2.2 42 45 := k1.v rfl
  rcases f1 with ⟨n1, q1, u1, u2, m1⟩ | ⟨t1, q1, u1, u2, m1⟩
  · rcases f2 with ⟨n2, q2, w1, w2, m2⟩ | ⟨t2, _⟩
    · exact ⟨q1.trans q2.symm, by rw [a0, u1, w1, b0]; exact x1, by rw [a1, u2, w2, b1]; exact x2, fun r c s hr hc hs => by rw [e27, m1, m2, e67]; exact x3 r c s hr hc hs⟩
    · exact absurd t2 n1
  · rcases f2 with ⟨n2, _⟩ | ⟨t2, q2, w1, w2, m2⟩
    · exact absurd t1 n2
    · exact ⟨q1.trans q2.symm, by rw [a0, u1, w1], by rw [a1, u2, w2], fun r c s hr hc hs => by rw [e27, m1 _ (by omega), m2 _ (by omega)]⟩
set_option maxHeartbeats 4000000 in
theorem t196 {G : GH} {h : JH} (g : Gd G h) {a1 : Int} (la1 : (-2147483648) ≤ a1) (ua1 : a1 ≤ 2147483647) {a2 : Int} (la2 : (-2147483648) ≤ a2) (ua2 : a2 ≤ 2147483647) {a3 : Int} (la3 : (-2147483648) ≤ a3) (ua3 : a3 ≤ 2147483647) {w0 : Int} (ew0 : h.2.2 26 0 = w0) (lw0 : 0 ≤ w0) (uw0 : w0 ≤ 4) {w1 : Int} (ew1 : h.2.2 26 1 = w1) (lw1 : 0 ≤ w1) (uw1 : w1 ≤ 4) : jOk 3 0 0 196 [(2, 0), (0, a1), (0, a2), (0, a3)] h (fun v h' => ∃ r : Int, v = some (0, r) ∧ Gd G h' ∧ Kp [(27, 0)] h h' ∧ CeC h h' a1 a2 a3 w0 w1 r) := by
  refine ⟨by decide, by rw [ml196]; exact Nat.le_of_ble_eq_true rfl, ?_⟩
  rw [ml196, pp196]
  show jEv _ none _ c196_0 0 0 _ (c196_0, [(2, 0), (0, a1), (0, a2), (0, a3)], [], h, 0, 0)
  have k0 := Kp.rf [(27, 0)] h
  refine ev_iload_n rfl ?_
  refine ev_iflt f196_43 (fun c75138 => ?_) (fun c75138 => ?_)
  · refine ev_ldc ?_
    exact ev_ret rfl (by decide) (by decide) ⟨_, rfl, g, k0, Or.inl ⟨by unfold TV; omega, rfl, fun _ => rfl⟩⟩
  · refine ev_aload_n rfl ?_
    refine g_getp (r := 0) (c := 26) g ad0 (by decide) (by decide) rf0_11 ft11_11 ?_
    refine ev_iload_n rfl ?_
    refine ev_bipush ?_
    refine g_idivP (c := 10) rfl (by decide) (by omega) (by omega) (fun v75139 ev75139 lv75139 uv75139 => ?_)
    refine ev_iload_n rfl ?_
    refine ev_bipush ?_
    refine g_iremP (c := 10) rfl (by decide) (by omega) (fun v75140 ev75140 lv75140 uv75140 wv75140 => ?_)
    refine ev_in (d := 1) (a := 0) (b := 0) (cd' := c105_0) (m := 3) (L0 := [(2, 26), (0, v75139), (0, v75140)]) (jcall_v (A := [(0, v75140), (0, v75139)]) (S' := []) (r := 26) rfl (g.lt ad26) (g.tg ad26) (Nat.le_of_ble_eq_true rfl)) (by decide) ml105 pp105 (Nat.le_of_ble_eq_true rfl) rfl (by decide) (by decide) ?_
    refine ev_iload_n rfl ?_
    refine ev_iflt f105_28 (fun c75141 => absurd c75141 (by omega)) (fun c75141 => ?_)
    refine ev_iload_n rfl ?_
    refine ev_aload_n rfl ?_
    refine g_getv (r := 26) (v := w0) g ad26 (by decide) ft9_0 (ew0) ?_
    refine ev_icmpge f105_28 (fun c75142 => ?_) (fun c75142 => ?_)
    · refine ev_iconst ?_
      refine ev_ret rfl (by decide) (by decide) ?_
      show jEv _ _ _ _ _ _ _ (_, [(2, 0), (0, a1), (0, a2), (0, a3)], [(0, 0)], _, _, _)
      refine ev_ifeq f196_43 (fun c75143 => ?_) (fun c75143 => absurd c75143 (by omega))
      refine ev_ldc ?_
      exact ev_ret rfl (by decide) (by decide) ⟨_, rfl, g, k0, Or.inl ⟨by unfold TV; omega, rfl, fun _ => rfl⟩⟩
    · refine ev_iload_n rfl ?_
      refine ev_iflt f105_28 (fun c75144 => absurd c75144 (by omega)) (fun c75144 => ?_)
      refine ev_iload_n rfl ?_
      refine ev_aload_n rfl ?_
      refine g_getv (r := 26) (v := w1) g ad26 (by decide) ft9_1 (ew1) ?_
      refine ev_icmpge f105_28 (fun c75145 => ?_) (fun c75145 => ?_)
      · refine ev_iconst ?_
        refine ev_ret rfl (by decide) (by decide) ?_
        show jEv _ _ _ _ _ _ _ (_, [(2, 0), (0, a1), (0, a2), (0, a3)], [(0, 0)], _, _, _)
        refine ev_ifeq f196_43 (fun c75146 => ?_) (fun c75146 => absurd c75146 (by omega))
        refine ev_ldc ?_
        exact ev_ret rfl (by decide) (by decide) ⟨_, rfl, g, k0, Or.inl ⟨by unfold TV; omega, rfl, fun _ => rfl⟩⟩
      · refine ev_iconst ?_
        refine ev_goto f105_29 ?_
        refine ev_ret rfl (by decide) (by decide) ?_
        show jEv _ _ _ _ _ _ _ (_, [(2, 0), (0, a1), (0, a2), (0, a3)], [(0, 1)], _, _, _)
        refine ev_ifeq f196_43 (fun c75147 => absurd c75147 (by omega)) (fun c75147 => ?_)
        refine ev_iload_n rfl ?_
        refine ev_iflt f196_43 (fun c75148 => ?_) (fun c75148 => ?_)
        · refine ev_ldc ?_
          exact ev_ret rfl (by decide) (by decide) ⟨_, rfl, g, k0, Or.inl ⟨by unfold TV; omega, rfl, fun _ => rfl⟩⟩
        · refine ev_iload_n rfl ?_
          refine ev_iconst ?_
          refine ev_icmpgt f196_43 (fun c75149 => ?_) (fun c75149 => ?_)
          · refine ev_ldc ?_
            exact ev_ret rfl (by decide) (by decide) ⟨_, rfl, g, k0, Or.inl ⟨by unfold TV; omega, rfl, fun _ => rfl⟩⟩
          · refine ev_iload_n rfl ?_
            refine ev_bipush ?_
            refine ev_icmplt f196_43 (fun c75150 => ?_) (fun c75150 => ?_)
            · refine ev_ldc ?_
              exact ev_ret rfl (by decide) (by decide) ⟨_, rfl, g, k0, Or.inl ⟨by unfold TV; omega, rfl, fun _ => rfl⟩⟩
            · refine ev_iload_n rfl ?_
              refine ev_bipush ?_
              refine ev_icmple f196_46 (fun c75151 => ?_) (fun c75151 => ?_)
              · refine ev_aload_n rfl ?_
                refine g_getp (r := 0) (c := 26) g ad0 (by decide) (by decide) rf0_11 ft11_11 ?_
                refine ev_iload_n rfl ?_
                refine ev_bipush ?_
                refine g_idivP (c := 10) rfl (by decide) (by omega) (by omega) (fun v75152 ev75152 lv75152 uv75152 => ?_)
                obtain rfl : v75139 = v75152 := by omega
                refine ev_iload_n rfl ?_
                refine ev_bipush ?_
                refine g_iremP (c := 10) rfl (by decide) (by omega) (fun v75153 ev75153 lv75153 uv75153 wv75153 => ?_)
                obtain rfl : v75140 = v75153 := by omega
                refine ev_iload_n rfl ?_
                refine ev_iload_n rfl ?_
                refine ev_in (d := 1) (a := 0) (b := 0) (cd' := c107_0) (m := 6) (L0 := [(2, 26), (0, v75139), (0, v75140), (0, a2), (0, a3), (9, 0)]) (jcall_v (A := [(0, a3), (0, a2), (0, v75140), (0, v75139)]) (S' := []) (r := 26) rfl (g.lt ad26) (g.tg ad26) (Nat.le_of_ble_eq_true rfl)) (by decide) ml107 pp107 (Nat.le_of_ble_eq_true rfl) rfl (by decide) (by decide) ?_
                refine ev_aload_n rfl ?_
                refine ev_iload_n rfl ?_
                refine ev_iload_n rfl ?_
                refine ev_iload_n rfl ?_
                refine ev_in (d := 0) (a := 0) (b := 0) (cd' := c106_0) (m := 4) (L0 := [(2, 26), (0, v75139), (0, v75140), (0, a2)]) (jcall_v (A := [(0, a2), (0, v75140), (0, v75139)]) (S' := []) (r := 26) rfl (g.lt ad26) (g.tg ad26) (Nat.le_of_ble_eq_true rfl)) (by decide) ml106 pp106 (Nat.le_of_ble_eq_true rfl) rfl (by decide) (by decide) ?_
                refine ev_aload_n rfl ?_
                refine g_getp (r := 26) (c := 27) g ad26 (by decide) (by decide) rf26_2 ft9_2 ?_
                refine ev_bipush ?_
                refine ev_iload_n rfl ?_
                refine ev_imul (r := (8 * v75139)) (by unfold w32; omega) ?_
                refine ev_iconst ?_
                refine ev_iload_n rfl ?_
                refine ev_imul (r := (2 * v75140)) (by unfold w32; omega) ?_
                refine ev_iadd (r := (8 * v75139 + 2 * v75140)) (by unfold w32; omega) ?_
                refine ev_iload_n rfl ?_
                refine ev_iadd (r := (a2 + 8 * v75139 + 2 * v75140)) (by unfold w32; omega) ?_
                refine g_iald g ad27 rt27 (by omega) (by omega) (fun v75154 ev75154 lv75154 uv75154 => ?_)
                refine ev_ret rfl (by decide) (by decide) ?_
                show jEv _ _ _ _ _ _ _ (_, [(2, 26), (0, v75139), (0, v75140), (0, a2), (0, a3), (9, 0)], [(0, v75154)], _, _, _)
                refine ev_istore (L' := [(2, 26), (0, v75139), (0, v75140), (0, a2), (0, a3), (0, v75154)]) (Nat.le_of_ble_eq_true rfl) rfl ?_
                refine ev_aload_n rfl ?_
                refine g_getp (r := 26) (c := 27) g ad26 (by decide) (by decide) rf26_2 ft9_2 ?_
                refine ev_bipush ?_
                refine ev_iload_n rfl ?_
                refine ev_imul (r := (8 * v75139)) (by unfold w32; omega) ?_
                refine ev_iconst ?_
                refine ev_iload_n rfl ?_
                refine ev_imul (r := (2 * v75140)) (by unfold w32; omega) ?_
                refine ev_iadd (r := (8 * v75139 + 2 * v75140)) (by unfold w32; omega) ?_
                refine ev_iload_n rfl ?_
                refine ev_iadd (r := (a2 + 8 * v75139 + 2 * v75140)) (by unfold w32; omega) ?_
                refine ev_iload rfl ?_
                refine g_iast g ad27 rt27 (fun _ => rfl) (by omega) (by omega) (by omega) (by omega) (fun h75155 e75155 g75155 => ?_)
                have k75155 := k0.wr e75155 rfl
                refine ev_iload rfl ?_
                refine ev_ret rfl (by decide) (by decide) ?_
                show jEv _ _ _ _ _ _ _ (_, [(2, 0), (0, a1), (0, a2), (0, a3)], [(0, v75154)], _, _, _)
                exact ev_ret rfl (by decide) (by decide) ⟨_, rfl, g75155, k75155, Or.inr ⟨by unfold TV; omega, at_e ev75154 (by omega), Up.mk e75155 (by omega)⟩⟩
              · refine ev_ldc ?_
                exact ev_ret rfl (by decide) (by decide) ⟨_, rfl, g, k0, Or.inl ⟨by unfold TV; omega, rfl, fun _ => rfl⟩⟩
set_option maxHeartbeats 4000000 in
theorem t331 {G : GH} {h : JH} (g : Gd G h) {a1 : Int} (la1 : (-2147483648) ≤ a1) (ua1 : a1 ≤ 2147483647) {a2 : Int} (la2 : (-2147483648) ≤ a2) (ua2 : a2 ≤ 2147483647) {a3 : Int} (la3 : (-2147483648) ≤ a3) (ua3 : a3 ≤ 2147483647) {w0 : Int} (ew0 : h.2.2 42 44 = w0) (lw0 : 0 ≤ w0) (uw0 : w0 ≤ 4) {w1 : Int} (ew1 : h.2.2 42 45 = w1) (lw1 : 0 ≤ w1) (uw1 : w1 ≤ 4) : jOk 2 0 0 331 [(2, 42), (0, a1), (0, a2), (0, a3)] h (fun v h' => ∃ r : Int, v = some (0, r) ∧ Gd G h' ∧ Kp [(67, 0)] h h' ∧ CeR h h' a1 a2 a3 w0 w1 r) := by
  refine ⟨by decide, by rw [ml331]; exact Nat.le_of_ble_eq_true rfl, ?_⟩
  rw [ml331, pp331]
  show jEv _ none _ c331_0 0 0 _ (c331_0, [(2, 42), (0, a1), (0, a2), (0, a3), (9, 0), (9, 0)], [], h, 0, 0)
  have k0 := Kp.rf [(67, 0)] h
  refine ev_iload_n rfl ?_
  refine ev_iflt f331_46 (fun c75194 => ?_) (fun c75194 => ?_)
  · refine ev_ldc_w ?_
    exact ev_ret rfl (by decide) (by decide) ⟨_, rfl, g, k0, Or.inl ⟨by unfold TV; omega, rfl, fun _ => rfl⟩⟩
  · refine ev_iload_n rfl ?_
    refine ev_bipush ?_
    refine g_idivP (c := 10) rfl (by decide) (by omega) (by omega) (fun v75195 ev75195 lv75195 uv75195 => ?_)
    refine ev_aload_n rfl ?_
    refine g_getv (r := 42) (v := w0) g ad42 (by decide) ft12_44 (ew0) ?_
    refine ev_icmpge f331_46 (fun c75196 => ?_) (fun c75196 => ?_)
    · refine ev_ldc_w ?_
      exact ev_ret rfl (by decide) (by decide) ⟨_, rfl, g, k0, Or.inl ⟨by unfold TV; omega, rfl, fun _ => rfl⟩⟩
    · refine ev_iload_n rfl ?_
      refine ev_bipush ?_
      refine g_iremP (c := 10) rfl (by decide) (by omega) (fun v75197 ev75197 lv75197 uv75197 wv75197 => ?_)
      refine ev_aload_n rfl ?_
      refine g_getv (r := 42) (v := w1) g ad42 (by decide) ft12_45 (ew1) ?_
      refine ev_icmpge f331_46 (fun c75198 => ?_) (fun c75198 => ?_)
      · refine ev_ldc_w ?_
        exact ev_ret rfl (by decide) (by decide) ⟨_, rfl, g, k0, Or.inl ⟨by unfold TV; omega, rfl, fun _ => rfl⟩⟩
      · refine ev_iload_n rfl ?_
        refine ev_iconst ?_
        refine ev_iconst ?_
        refine ev_in (d := 0) (a := 0) (b := 0) (cd' := c242_0) (m := 3) (L0 := [(0, a2), (0, 0), (0, 1)]) (jcall_s (A := [(0, 1), (0, 0), (0, a2)]) (S' := []) (by decide) rfl (Nat.le_of_ble_eq_true rfl)) (by decide) ml242 pp242 (Nat.le_of_ble_eq_true rfl) rfl (by decide) (by decide) ?_
        refine ev_iload_n rfl ?_
        refine ev_iload_n rfl ?_
        refine ev_icmplt f242_14 (fun c75199 => ?_) (fun c75199 => ?_)
        · refine ev_iconst ?_
          refine ev_ret rfl (by decide) (by decide) ?_
          show jEv _ _ _ _ _ _ _ (_, [(2, 42), (0, a1), (0, a2), (0, a3), (9, 0), (9, 0)], [(0, 0)], _, _, _)
          refine ev_ifeq f331_46 (fun c75200 => ?_) (fun c75200 => absurd c75200 (by omega))
          refine ev_ldc_w ?_
          exact ev_ret rfl (by decide) (by decide) ⟨_, rfl, g, k0, Or.inl ⟨by unfold TV; omega, rfl, fun _ => rfl⟩⟩
        · refine ev_iload_n rfl ?_
          refine ev_iload_n rfl ?_
          refine ev_icmpgt f242_14 (fun c75201 => ?_) (fun c75201 => ?_)
          · refine ev_iconst ?_
            refine ev_ret rfl (by decide) (by decide) ?_
            show jEv _ _ _ _ _ _ _ (_, [(2, 42), (0, a1), (0, a2), (0, a3), (9, 0), (9, 0)], [(0, 0)], _, _, _)
            refine ev_ifeq f331_46 (fun c75202 => ?_) (fun c75202 => absurd c75202 (by omega))
            refine ev_ldc_w ?_
            exact ev_ret rfl (by decide) (by decide) ⟨_, rfl, g, k0, Or.inl ⟨by unfold TV; omega, rfl, fun _ => rfl⟩⟩
          · refine ev_iconst ?_
            refine ev_goto f242_15 ?_
            refine ev_ret rfl (by decide) (by decide) ?_
            show jEv _ _ _ _ _ _ _ (_, [(2, 42), (0, a1), (0, a2), (0, a3), (9, 0), (9, 0)], [(0, 1)], _, _, _)
            refine ev_ifeq f331_46 (fun c75203 => absurd c75203 (by omega)) (fun c75203 => ?_)
            refine ev_iload_n rfl ?_
            refine ev_bipush ?_
            refine ev_bipush ?_
            refine ev_in (d := 0) (a := 0) (b := 0) (cd' := c242_0) (m := 3) (L0 := [(0, a3), (0, (-99)), (0, 99)]) (jcall_s (A := [(0, 99), (0, (-99)), (0, a3)]) (S' := []) (by decide) rfl (Nat.le_of_ble_eq_true rfl)) (by decide) ml242 pp242 (Nat.le_of_ble_eq_true rfl) rfl (by decide) (by decide) ?_
            refine ev_iload_n rfl ?_
            refine ev_iload_n rfl ?_
            refine ev_icmplt f242_14 (fun c75204 => ?_) (fun c75204 => ?_)
            · refine ev_iconst ?_
              refine ev_ret rfl (by decide) (by decide) ?_
              show jEv _ _ _ _ _ _ _ (_, [(2, 42), (0, a1), (0, a2), (0, a3), (9, 0), (9, 0)], [(0, 0)], _, _, _)
              refine ev_ifne f331_50 (fun c75205 => absurd c75205 (by omega)) (fun c75205 => ?_)
              refine ev_ldc_w ?_
              exact ev_ret rfl (by decide) (by decide) ⟨_, rfl, g, k0, Or.inl ⟨by unfold TV; omega, rfl, fun _ => rfl⟩⟩
            · refine ev_iload_n rfl ?_
              refine ev_iload_n rfl ?_
              refine ev_icmpgt f242_14 (fun c75206 => ?_) (fun c75206 => ?_)
              · refine ev_iconst ?_
                refine ev_ret rfl (by decide) (by decide) ?_
                show jEv _ _ _ _ _ _ _ (_, [(2, 42), (0, a1), (0, a2), (0, a3), (9, 0), (9, 0)], [(0, 0)], _, _, _)
                refine ev_ifne f331_50 (fun c75207 => absurd c75207 (by omega)) (fun c75207 => ?_)
                refine ev_ldc_w ?_
                exact ev_ret rfl (by decide) (by decide) ⟨_, rfl, g, k0, Or.inl ⟨by unfold TV; omega, rfl, fun _ => rfl⟩⟩
              · refine ev_iconst ?_
                refine ev_goto f242_15 ?_
                refine ev_ret rfl (by decide) (by decide) ?_
                show jEv _ _ _ _ _ _ _ (_, [(2, 42), (0, a1), (0, a2), (0, a3), (9, 0), (9, 0)], [(0, 1)], _, _, _)
                refine ev_ifne f331_50 (fun c75208 => ?_) (fun c75208 => absurd c75208 (by omega))
                refine ev_bipush ?_
                refine ev_iload_n rfl ?_
                refine ev_imul (r := (16 * a2)) (by unfold w32; omega) ?_
                refine ev_iconst ?_
                refine ev_iload_n rfl ?_
                refine ev_bipush ?_
                refine g_idivP (c := 10) rfl (by decide) (by omega) (by omega) (fun v75209 ev75209 lv75209 uv75209 => ?_)
                obtain rfl : v75195 = v75209 := by omega
                refine ev_imul (r := (4 * v75195)) (by unfold w32; omega) ?_
                refine ev_iadd (r := (16 * a2 + 4 * v75195)) (by unfold w32; omega) ?_
                refine ev_iload_n rfl ?_
                refine ev_bipush ?_
                refine g_iremP (c := 10) rfl (by decide) (by omega) (fun v75210 ev75210 lv75210 uv75210 wv75210 => ?_)
                obtain rfl : v75197 = v75210 := by omega
                refine ev_iadd (r := (16 * a2 + 4 * v75195 + v75197)) (by unfold w32; omega) ?_
                refine ev_istore (L' := [(2, 42), (0, a1), (0, a2), (0, a3), (0, (16 * a2 + 4 * v75195 + v75197)), (9, 0)]) (Nat.le_of_ble_eq_true rfl) rfl ?_
                refine ev_aload_n rfl ?_
                refine g_getp (r := 42) (c := 67) g ad42 (by decide) (by decide) rf42_46 ft12_46 ?_
                refine ev_iload rfl ?_
                refine g_iald g ad67 rt67 (by omega) (by omega) (fun v75211 ev75211 lv75211 uv75211 => ?_)
                refine ev_istore (L' := [(2, 42), (0, a1), (0, a2), (0, a3), (0, (16 * a2 + 4 * v75195 + v75197)), (0, v75211)]) (Nat.le_of_ble_eq_true rfl) rfl ?_
                refine ev_aload_n rfl ?_
                refine g_getp (r := 42) (c := 67) g ad42 (by decide) (by decide) rf42_46 ft12_46 ?_
                refine ev_iload rfl ?_
                refine ev_iload_n rfl ?_
                refine g_iast g ad67 rt67 (fun _ => rfl) (by omega) (by omega) (by omega) (by omega) (fun h75212 e75212 g75212 => ?_)
                have k75212 := k0.wr e75212 rfl
                refine ev_iload rfl ?_
                exact ev_ret rfl (by decide) (by decide) ⟨_, rfl, g75212, k75212, Or.inr ⟨by unfold TV; omega, at_e ev75211 (by omega), Up.mk e75212 (by omega)⟩⟩
set_option maxHeartbeats 4000000 in
theorem t383_l {G : GH} {h : JH}  : ∀ N : Nat, (∀ (h1 : JH) (x2 : Int), Gd G h1 → Kp [(27, 0)] h h1 → 0 ≤ x2 → x2 ≤ 32 → Z0 h1 27 x2 → ((-x2) + 32) < N → jEv (jOk 0) none (fun _ => 0) c383_0 0 0 (fun v h' => v = none ∧ Gd G h' ∧ Kp [(27, 0)] h h' ∧ Z0 h' 27 32) (c383_5, [(2, 27), (0, 0), (0, x2), (0, 32)], [], h1, 0, 0)) := by
  intro N
  induction N with
  | zero => exact fun h1 x2 g1 k1 b0 b1 b2 hm => absurd hm (by omega)
  | succ N ih =>
    show _
    intro h1 x2 g1 k1 b0 b1 H0 hm
    refine ev_iload_n rfl ?_
    refine ev_iload_n rfl ?_
    refine ev_icmpge f383_20 (fun c75259 => ?_) (fun c75259 => ?_)
    · exact ev_ret rfl (by decide) (by decide) ⟨rfl, g1, k1, H0.le (by omega)⟩
    · refine ev_aload_n rfl ?_
      refine ev_iload_n rfl ?_
      refine ev_iload_n rfl ?_
      refine g_iast g1 ad27 rt27 (fun _ => rfl) (by omega) (by omega) (by omega) (by omega) (fun h75260 e75260 g75260 => ?_)
      have k75260 := k1.wr e75260 rfl
      refine ev_iinc (w := (x2 + 1)) (L' := [(2, 27), (0, 0), (0, (x2 + 1)), (0, 32)]) rfl (by unfold w32; omega) rfl ?_
      refine ev_goto f383_5 ?_
      exact ih _ _ g75260 k75260 (by omega) (by omega) (Z0.step H0 (by omega) e75260) (by omega)
set_option maxHeartbeats 4000000 in
theorem t383 {G : GH} {h : JH} (g : Gd G h)  : jOk 1 0 0 383 [(2, 27), (0, 0)] h (fun v h' => v = none ∧ Gd G h' ∧ Kp [(27, 0)] h h' ∧ Z0 h' 27 32) := by
  refine ⟨by decide, by rw [ml383]; exact Nat.le_of_ble_eq_true rfl, ?_⟩
  rw [ml383, pp383]
  show jEv _ none _ c383_0 0 0 _ (c383_0, [(2, 27), (0, 0), (9, 0), (9, 0)], [], h, 0, 0)
  have k0 := Kp.rf [(27, 0)] h
  refine ev_iconst ?_
  refine ev_istore_n (L' := [(2, 27), (0, 0), (0, 0), (9, 0)]) (Nat.le_of_ble_eq_true rfl) rfl ?_
  refine ev_aload_n rfl ?_
  refine ev_aln (r := 27) (m := 32) (g.lt ad27) (by rw [g.tg ad27]; decide) (by rw [g.tg ad27]; decide) (g.ln ad27) (by decide) ?_
  refine ev_istore_n (L' := [(2, 27), (0, 0), (0, 0), (0, 32)]) (Nat.le_of_ble_eq_true rfl) rfl ?_
  exact (t383_l  66) _ _ g k0 (by omega) (by omega) (Z0.start _ _) (by omega)
set_option maxHeartbeats 4000000 in
theorem t195 {G : GH} {h : JH} (g : Gd G h) {a1 : Int} (la1 : (-2147483648) ≤ a1) (ua1 : a1 ≤ 2147483647) {a2 : Int} (la2 : (-2147483648) ≤ a2) (ua2 : a2 ≤ 2147483647) : jOk 3 0 0 195 [(2, 0), (0, a1), (0, a2)] h (fun v h' => ∃ r : Int, v = some (0, r) ∧ Gd G h' ∧ Kp [(26, 1), (26, 2), (27, 0)] h h' ∧ TaC h h' a1 a2 r) := by
  refine ⟨by decide, by rw [ml195]; exact Nat.le_of_ble_eq_true rfl, ?_⟩
  rw [ml195, pp195]
  show jEv _ none _ c195_0 0 0 _ (c195_0, [(2, 0), (0, a1), (0, a2)], [], h, 0, 0)
  have k0 := Kp.rf [(26, 1), (26, 2), (27, 0)] h
  refine ev_iload_n rfl ?_
  refine ev_iconst ?_
  refine ev_icmplt f195_20 (fun c75277 => ?_) (fun c75277 => ?_)
  · refine ev_iconst ?_
    exact ev_ret rfl (by decide) (by decide) ⟨_, rfl, g, k0, Or.inl ⟨by unfold TB; omega, rfl, rfl, rfl, fun _ => rfl⟩⟩
  · refine ev_iload_n rfl ?_
    refine ev_iconst ?_
    refine ev_icmpgt f195_20 (fun c75278 => ?_) (fun c75278 => ?_)
    · refine ev_iconst ?_
      exact ev_ret rfl (by decide) (by decide) ⟨_, rfl, g, k0, Or.inl ⟨by unfold TB; omega, rfl, rfl, rfl, fun _ => rfl⟩⟩
    · refine ev_iload_n rfl ?_
      refine ev_iconst ?_
      refine ev_icmplt f195_20 (fun c75279 => ?_) (fun c75279 => ?_)
      · refine ev_iconst ?_
        exact ev_ret rfl (by decide) (by decide) ⟨_, rfl, g, k0, Or.inl ⟨by unfold TB; omega, rfl, rfl, rfl, fun _ => rfl⟩⟩
      · refine ev_iload_n rfl ?_
        refine ev_iconst ?_
        refine ev_icmple f195_22 (fun c75280 => ?_) (fun c75280 => ?_)
        · refine ev_aload_n rfl ?_
          refine g_getp (r := 0) (c := 26) g ad0 (by decide) (by decide) rf0_11 ft11_11 ?_
          refine ev_iload_n rfl ?_
          refine ev_iload_n rfl ?_
          refine ev_in (d := 1) (a := 0) (b := 0) (cd' := c103_0) (m := 3) (L0 := [(2, 26), (0, a1), (0, a2)]) (jcall_v (A := [(0, a2), (0, a1)]) (S' := []) (r := 26) rfl (g.lt ad26) (g.tg ad26) (Nat.le_of_ble_eq_true rfl)) (by decide) ml103 pp103 (Nat.le_of_ble_eq_true rfl) rfl (by decide) (by decide) ?_
          refine ev_aload_n rfl ?_
          refine ev_iload_n rfl ?_
          refine g_putf (r := 26) g ad26 (by decide) ft9_0 (by decide) (fun e => absurd e nz9_0) rf26_0 (by decide) (by omega) (by omega) (fun h75281 e75281 g75281 => ?_)
          have k75281 := k0.wr e75281 rfl
          refine ev_aload_n rfl ?_
          refine ev_iload_n rfl ?_
          refine g_putf (r := 26) g75281 ad26 (by decide) ft9_1 (by decide) (fun e => absurd e nz9_1) rf26_1 (by decide) (by omega) (by omega) (fun h75282 e75282 g75282 => ?_)
          have k75282 := k75281.wr e75282 rfl
          refine ev_aload_n rfl ?_
          refine g_getp (r := 26) (c := 27) g75282 ad26 (by decide) (by decide) rf26_2 ft9_2 ?_
          refine ev_iconst ?_
          refine ev_call (jcall_s (A := [(0, 0), (2, 27)]) (S' := []) (by decide) rfl (Nat.le_of_ble_eq_true rfl)) (jOk_le (by decide) (t383 g75282 )) (by decide) (by decide) (fun w75283 h75283 q75283 => ?_)
          obtain ⟨rfl, g75283, kk75283, zz75283⟩ := q75283
          have k75283 := k75282.tr kk75283 (by decide)
          show jEv _ _ _ _ _ _ _ (_, [(2, 26), (0, a1), (0, a2)], [], _, _, _)
          refine ev_ret rfl (by decide) (by decide) ?_
          show jEv _ _ _ _ _ _ _ (_, [(2, 0), (0, a1), (0, a2)], [], _, _, _)
          refine ev_iload_n rfl ?_
          refine ev_iload_n rfl ?_
          refine g_imulB (a := 4) (b := 4) (a' := 1) (b' := 1) (by omega) (by omega) (by omega) (by omega) (by decide) (lo := 1) (hi := 16) (by decide) (by decide) (fun v75284 ev75284 lv75284 uv75284 => ?_)
          exact ev_ret rfl (by decide) (by decide) ⟨_, rfl, g75283, k75283, Or.inr ⟨by unfold TB; omega, ev75284.symm, ((((kk75283.v (by decide)).trans ((jw_ne e75282 (Or.inr (by decide))).trans (jw_eq e75281))))).trans (by omega), ((((kk75283.v (by decide)).trans (jw_eq e75282)))).trans (by omega), zz75283⟩⟩
        · refine ev_iconst ?_
          exact ev_ret rfl (by decide) (by decide) ⟨_, rfl, g, k0, Or.inl ⟨by unfold TB; omega, rfl, rfl, rfl, fun _ => rfl⟩⟩
set_option maxHeartbeats 4000000 in
theorem t330_l {G : GH} {h : JH} {a1 : Int} (la1 : (-2147483648) ≤ a1) (ua1 : a1 ≤ 2147483647) {a2 : Int} (la2 : (-2147483648) ≤ a2) (ua2 : a2 ≤ 2147483647) : ∀ N : Nat, (∀ (h1 : JH) (x3 y0 y1 : Int), Gd G h1 → Kp [(42, 45), (42, 46), (67, 0)] h h1 → 1 ≤ a1 → a1 ≤ 4 → 1 ≤ a2 → a2 ≤ 4 → 0 ≤ x3 → x3 ≤ 32 → ((-a1) + y0) ≤ 0 → (a1 + (-y0)) ≤ 0 → ((-a2) + y1) ≤ 0 → (a2 + (-y1)) ≤ 0 → h1.2.2 42 44 = y0 → 1 ≤ y0 → y0 ≤ 4 → h1.2.2 42 45 = y1 → 1 ≤ y1 → y1 ≤ 4 → Z0 h1 67 x3 → ((-x3) + 32) < N → jEv (jOk 1) none (fun _ => 0) c330_0 0 0 (fun v h' => ∃ r : Int, v = some (0, r) ∧ Gd G h' ∧ Kp [(42, 45), (42, 46), (67, 0)] h h' ∧ TaR h h' a1 a2 r) (c330_32, [(2, 42), (0, a1), (0, a2), (0, x3)], [], h1, 0, 0)) := by
  intro N
  induction N with
  | zero => exact fun h1 x3 y0 y1 g1 k1 b0 b1 b2 b3 b4 b5 b6 b7 b8 b9 b10 b11 b12 b13 b14 b15 b16 hm => absurd hm (by omega)
  | succ N ih =>
    show _
    intro h1 x3 y0 y1 g1 k1 b0 b1 b2 b3 b4 b5 b6 b7 b8 b9 ey0 ly0 uy0 ey1 ly1 uy1 H0 hm
    refine ev_iload_n rfl ?_
    refine ev_bipush ?_
    refine ev_icmpge f330_51 (fun c75357 => ?_) (fun c75357 => ?_)
    · refine ev_iload_n rfl ?_
      refine ev_iload_n rfl ?_
      refine g_imulB (a := 4) (b := 4) (a' := 1) (b' := 1) (by omega) (by omega) (by omega) (by omega) (by decide) (lo := 1) (hi := 16) (by decide) (by decide) (fun v75358 ev75358 lv75358 uv75358 => ?_)
      exact ev_ret rfl (by decide) (by decide) ⟨_, rfl, g1, k1, Or.inr ⟨by unfold TB; omega, ev75358.symm, ((ey0)).trans (by omega), ((ey1)).trans (by omega), H0.le (by omega)⟩⟩
    · refine ev_aload_n rfl ?_
      refine g_getp (r := 42) (c := 67) g1 ad42 (by decide) (by decide) rf42_46 ft12_46 ?_
      refine ev_iload_n rfl ?_
      refine ev_iconst ?_
      refine g_iast g1 ad67 rt67 (fun _ => rfl) (by omega) (by omega) (by omega) (by omega) (fun h75359 e75359 g75359 => ?_)
      have k75359 := k1.wr e75359 rfl
      refine ev_iinc (w := (x3 + 1)) (L' := [(2, 42), (0, a1), (0, a2), (0, (x3 + 1))]) rfl (by unfold w32; omega) rfl ?_
      refine ev_goto f330_32 ?_
      exact ih _ _ _ _ g75359 k75359 (by omega) (by omega) (by omega) (by omega) (by omega) (by omega) (by omega) (by omega) (by omega) (by omega) (((jw_ne e75359 (Or.inl (by decide))).trans ey0)) (by omega) (by omega) (((jw_ne e75359 (Or.inl (by decide))).trans ey1)) (by omega) (by omega) (Z0.step H0 (by omega) e75359) (by omega)
set_option maxHeartbeats 4000000 in
theorem t330 {G : GH} {h : JH} (g : Gd G h) {a1 : Int} (la1 : (-2147483648) ≤ a1) (ua1 : a1 ≤ 2147483647) {a2 : Int} (la2 : (-2147483648) ≤ a2) (ua2 : a2 ≤ 2147483647) : jOk 2 0 0 330 [(2, 42), (0, a1), (0, a2)] h (fun v h' => ∃ r : Int, v = some (0, r) ∧ Gd G h' ∧ Kp [(42, 45), (42, 46), (67, 0)] h h' ∧ TaR h h' a1 a2 r) := by
  refine ⟨by decide, by rw [ml330]; exact Nat.le_of_ble_eq_true rfl, ?_⟩
  rw [ml330, pp330]
  show jEv _ none _ c330_0 0 0 _ (c330_0, [(2, 42), (0, a1), (0, a2), (9, 0)], [], h, 0, 0)
  have k0 := Kp.rf [(42, 45), (42, 46), (67, 0)] h
  refine ev_iload_n rfl ?_
  refine ev_iconst ?_
  refine ev_iconst ?_
  refine ev_in (d := 0) (a := 0) (b := 0) (cd' := c242_0) (m := 3) (L0 := [(0, a1), (0, 1), (0, 4)]) (jcall_s (A := [(0, 4), (0, 1), (0, a1)]) (S' := []) (by decide) rfl (Nat.le_of_ble_eq_true rfl)) (by decide) ml242 pp242 (Nat.le_of_ble_eq_true rfl) rfl (by decide) (by decide) ?_
  refine ev_iload_n rfl ?_
  refine ev_iload_n rfl ?_
  refine ev_icmplt f242_14 (fun c75360 => ?_) (fun c75360 => ?_)
  · refine ev_iconst ?_
    refine ev_ret rfl (by decide) (by decide) ?_
    show jEv _ _ _ _ _ _ _ (_, [(2, 42), (0, a1), (0, a2), (9, 0)], [(0, 0)], _, _, _)
    refine ev_ifeq f330_18 (fun c75361 => ?_) (fun c75361 => absurd c75361 (by omega))
    refine ev_iconst ?_
    exact ev_ret rfl (by decide) (by decide) ⟨_, rfl, g, k0, Or.inl ⟨by unfold TB; omega, rfl, rfl, rfl, fun _ => rfl⟩⟩
  · refine ev_iload_n rfl ?_
    refine ev_iload_n rfl ?_
    refine ev_icmpgt f242_14 (fun c75362 => ?_) (fun c75362 => ?_)
    · refine ev_iconst ?_
      refine ev_ret rfl (by decide) (by decide) ?_
      show jEv _ _ _ _ _ _ _ (_, [(2, 42), (0, a1), (0, a2), (9, 0)], [(0, 0)], _, _, _)
      refine ev_ifeq f330_18 (fun c75363 => ?_) (fun c75363 => absurd c75363 (by omega))
      refine ev_iconst ?_
      exact ev_ret rfl (by decide) (by decide) ⟨_, rfl, g, k0, Or.inl ⟨by unfold TB; omega, rfl, rfl, rfl, fun _ => rfl⟩⟩
    · refine ev_iconst ?_
      refine ev_goto f242_15 ?_
      refine ev_ret rfl (by decide) (by decide) ?_
      show jEv _ _ _ _ _ _ _ (_, [(2, 42), (0, a1), (0, a2), (9, 0)], [(0, 1)], _, _, _)
      refine ev_ifeq f330_18 (fun c75364 => absurd c75364 (by omega)) (fun c75364 => ?_)
      refine ev_iload_n rfl ?_
      refine ev_iconst ?_
      refine ev_iconst ?_
      refine ev_in (d := 0) (a := 0) (b := 0) (cd' := c242_0) (m := 3) (L0 := [(0, a2), (0, 1), (0, 4)]) (jcall_s (A := [(0, 4), (0, 1), (0, a2)]) (S' := []) (by decide) rfl (Nat.le_of_ble_eq_true rfl)) (by decide) ml242 pp242 (Nat.le_of_ble_eq_true rfl) rfl (by decide) (by decide) ?_
      refine ev_iload_n rfl ?_
      refine ev_iload_n rfl ?_
      refine ev_icmplt f242_14 (fun c75365 => ?_) (fun c75365 => ?_)
      · refine ev_iconst ?_
        refine ev_ret rfl (by decide) (by decide) ?_
        show jEv _ _ _ _ _ _ _ (_, [(2, 42), (0, a1), (0, a2), (9, 0)], [(0, 0)], _, _, _)
        refine ev_ifne f330_20 (fun c75366 => absurd c75366 (by omega)) (fun c75366 => ?_)
        refine ev_iconst ?_
        exact ev_ret rfl (by decide) (by decide) ⟨_, rfl, g, k0, Or.inl ⟨by unfold TB; omega, rfl, rfl, rfl, fun _ => rfl⟩⟩
      · refine ev_iload_n rfl ?_
        refine ev_iload_n rfl ?_
        refine ev_icmpgt f242_14 (fun c75367 => ?_) (fun c75367 => ?_)
        · refine ev_iconst ?_
          refine ev_ret rfl (by decide) (by decide) ?_
          show jEv _ _ _ _ _ _ _ (_, [(2, 42), (0, a1), (0, a2), (9, 0)], [(0, 0)], _, _, _)
          refine ev_ifne f330_20 (fun c75368 => absurd c75368 (by omega)) (fun c75368 => ?_)
          refine ev_iconst ?_
          exact ev_ret rfl (by decide) (by decide) ⟨_, rfl, g, k0, Or.inl ⟨by unfold TB; omega, rfl, rfl, rfl, fun _ => rfl⟩⟩
        · refine ev_iconst ?_
          refine ev_goto f242_15 ?_
          refine ev_ret rfl (by decide) (by decide) ?_
          show jEv _ _ _ _ _ _ _ (_, [(2, 42), (0, a1), (0, a2), (9, 0)], [(0, 1)], _, _, _)
          refine ev_ifne f330_20 (fun c75369 => ?_) (fun c75369 => absurd c75369 (by omega))
          refine ev_aload_n rfl ?_
          refine ev_iload_n rfl ?_
          refine g_putf (r := 42) g ad42 (by decide) ft12_44 (by decide) (fun e => absurd e nz12_44) rf42_44 (by decide) (by omega) (by omega) (fun h75370 e75370 g75370 => ?_)
          have k75370 := k0.wr e75370 rfl
          refine ev_aload_n rfl ?_
          refine ev_iload_n rfl ?_
          refine g_putf (r := 42) g75370 ad42 (by decide) ft12_45 (by decide) (fun e => absurd e nz12_45) rf42_45 (by decide) (by omega) (by omega) (fun h75371 e75371 g75371 => ?_)
          have k75371 := k75370.wr e75371 rfl
          refine ev_iconst ?_
          refine ev_istore_n (L' := [(2, 42), (0, a1), (0, a2), (0, 0)]) (Nat.le_of_ble_eq_true rfl) rfl ?_
          exact (t330_l la1 ua1 la2 ua2 66) _ _ _ _ g75371 k75371 (by omega) (by omega) (by omega) (by omega) (by omega) (by omega) (by omega) (by omega) (by omega) (by omega) (((jw_ne e75371 (Or.inr (by decide))).trans (jw_eq e75370))) (by omega) (by omega) ((jw_eq e75371)) (by omega) (by omega) (Z0.start _ _) (by omega)
def gC (h : JH) (s r c : Int) : Int := if 0 ≤ s ∧ s ≤ 1 ∧ 0 ≤ r ∧ r ≤ 3 ∧ 0 ≤ c ∧ c ≤ 3 then h.2.2 27 (8 * r + 2 * c + s).toNat else 0
def gR (h : JH) (s r c : Int) : Int := if 0 ≤ s ∧ s ≤ 1 ∧ 0 ≤ r ∧ r ≤ 3 ∧ 0 ≤ c ∧ c ≤ 3 then h.2.2 67 (16 * s + 4 * r + c).toNat else 0
theorem gC_at {W : List (Nat × Nat)} {h h1 : JH} {s r c i v : Int} (k : Kp W h h1) (cc : ∀ j, inW W 27 j = false) (e : h1.2.2 27 i.toNat = v) (hi : i = 8 * r + 2 * c + s) (b : 0 ≤ s ∧ s ≤ 1 ∧ 0 ≤ r ∧ r ≤ 3 ∧ 0 ≤ c ∧ c ≤ 3) : gC h s r c = v := by
  unfold gC
  rw [if_pos b, ← hi, ← k.v (cc _)]
  exact e
theorem gR_at {W : List (Nat × Nat)} {h h1 : JH} {s r c i v : Int} (k : Kp W h h1) (cc : ∀ j, inW W 67 j = false) (e : h1.2.2 67 i.toNat = v) (hi : i = 16 * s + 4 * r + c) (b : 0 ≤ s ∧ s ≤ 1 ∧ 0 ≤ r ∧ r ≤ 3 ∧ 0 ≤ c ∧ c ≤ 3) : gR h s r c = v := by
  unfold gR
  rw [if_pos b, ← hi, ← k.v (cc _)]
  exact e
theorem gC_kp {W : List (Nat × Nat)} {h h1 : JH} (k : Kp W h h1) (cc : ∀ j, inW W 27 j = false) : gC h1 = gC h := by
  funext s r c
  unfold gC
  rw [k.v (cc _)]
theorem gR_kp {W : List (Nat × Nat)} {h h1 : JH} (k : Kp W h h1) (cc : ∀ j, inW W 67 j = false) : gR h1 = gR h := by
  funext s r c
  unfold gR
  rw [k.v (cc _)]
def bt (x k : Int) : Int := jand (jshr x k) 1
def clr (x k : Int) : Int := jand x (jxor (jshl 1 k) (-1))
def pcI (x : Int) : Int := x % 2 + x / 2 % 2 + x / 4 % 2 + x / 8 % 2
theorem bt_of {x k v w : Int} (e1 : jshr x k = v) (e2 : jand v 1 = w) : bt x k = w := by unfold bt; rw [e1, e2]
theorem clr_of {x k l m r : Int} (e1 : jshl 1 k = l) (e2 : jxor l (-1) = m) (e3 : jand x m = r) : clr x k = r := by unfold clr; rw [e1, e2, e3]
def btOk (x k : Nat) : Bool := bt (x : Int) (k : Int) != 1 || (decide (0 ≤ clr (x : Int) (k : Int)) && decide (clr (x : Int) (k : Int) < (x : Int)) && decide (pcI (clr (x : Int) (k : Int)) = pcI (x : Int) - 1))
set_option maxRecDepth 100000 in
theorem bt_all : (List.range 16).all (fun x => (List.range 4).all (fun k => btOk x k)) = true := by decide +kernel
theorem bt_c {x k : Int} (x0 : 0 ≤ x) (x1 : x ≤ 15) (k0 : 0 ≤ k) (k1 : k ≤ 3) (h : bt x k = 1) : 0 ≤ clr x k ∧ clr x k < x ∧ pcI (clr x k) = pcI x - 1 := by
  have a1 := List.all_eq_true.mp bt_all x.toNat (List.mem_range.mpr (by omega))
  have a2 := List.all_eq_true.mp a1 k.toNat (List.mem_range.mpr (by omega))
  unfold btOk at a2
  rw [show ((x.toNat : Nat) : Int) = x by omega, show ((k.toNat : Nat) : Int) = k by omega, h] at a2
  simp only [bne_self_eq_false, Bool.false_or, Bool.and_eq_true, decide_eq_true_eq] at a2
  exact ⟨a2.1.1, a2.1.2, a2.2⟩
def bhOk (x k R : Nat) : Bool := bt (x : Int) (k : Int) != 1 || !decide ((x : Int) ≤ jshl 1 (R : Int) - 1) || decide (k < R)
set_option maxRecDepth 100000 in
theorem bh_all : (List.range 16).all (fun x => (List.range 4).all (fun k => (List.range 5).all (fun R => bhOk x k R))) = true := by decide +kernel
theorem bt_hi {x k R : Int} (x0 : 0 ≤ x) (x1 : x ≤ 15) (k0 : 0 ≤ k) (k1 : k ≤ 3) (R0 : 0 ≤ R) (R1 : R ≤ 4) (h : bt x k = 1) (hx : x ≤ jshl 1 R - 1) : k < R := by
  have a1 := List.all_eq_true.mp bh_all x.toNat (List.mem_range.mpr (by omega))
  have a2 := List.all_eq_true.mp a1 k.toNat (List.mem_range.mpr (by omega))
  have a3 := List.all_eq_true.mp a2 R.toNat (List.mem_range.mpr (by omega))
  unfold bhOk at a3
  rw [show ((x.toNat : Nat) : Int) = x by omega, show ((k.toNat : Nat) : Int) = k by omega, show ((R.toNat : Nat) : Int) = R by omega, h] at a3
  simp only [bne_self_eq_false, Bool.false_or, Bool.or_eq_true, Bool.not_eq_true', decide_eq_false_iff_not, decide_eq_true_eq] at a3
  omega
def bmOk (x : Nat) : Bool := decide (jand (x : Int) (-1) = (x : Int)) && decide (0 ≤ pcI (x : Int)) && decide (pcI (x : Int) ≤ 4)
theorem bm_all : (List.range 16).all bmOk = true := by decide +kernel
theorem bm {x : Int} (x0 : 0 ≤ x) (x1 : x ≤ 15) : jand x (-1) = x ∧ 0 ≤ pcI x ∧ pcI x ≤ 4 := by
  have a1 := List.all_eq_true.mp bm_all x.toNat (List.mem_range.mpr (by omega))
  unfold bmOk at a1
  rw [show ((x.toNat : Nat) : Int) = x by omega] at a1
  simp only [Bool.and_eq_true, decide_eq_true_eq] at a1
  exact ⟨a1.1.1, a1.1.2, a1.2⟩
def fv (f : Int → Int → Int → Int) (s l k : Int) : Int := if s = 0 then f 0 l k else f 1 k l
def Bt (f : Int → Int → Int → Int) (s o x cr n : Int) : Prop := ∀ k, 0 ≤ k → k < n → bt cr k = 1 → fv f s x k < fv f s o k
theorem Bt.start (f : Int → Int → Int → Int) (s o x cr : Int) : Bt f s o x cr 0 := fun k a b => by omega
theorem Bt.add {f : Int → Int → Int → Int} {s o x cr n m : Int} (H : Bt f s o x cr n) (hm : m = n + 1) (p : bt cr n = 1 → fv f s x n < fv f s o n) : Bt f s o x cr m := fun k a b c => by
  rcases Decidable.em (k = n) with r | r
  · rw [r] at c ⊢; exact p c
  · exact H k a (by omega) c
theorem Bt.to {f : Int → Int → Int → Int} {s o x cr n m : Int} (H : Bt f s o x cr n) (hm : m ≤ n) : Bt f s o x cr m := fun k a b c => H k a (by omega) c
def Skd (f : Int → Int → Int → Int) (s x ln cr : Int) : Prop := bt ln x = 1 ∧ ∃ o, 0 ≤ o ∧ o < 4 ∧ o ≠ x ∧ bt ln o = 1 ∧ Bt f s o x cr 4
def Nr (f : Int → Int → Int → Int) (s ln cr n : Int) : Prop := ∀ t, 0 ≤ t → t < n → ¬ Skd f s t ln cr
theorem Nr.start (f : Int → Int → Int → Int) (s ln cr : Int) : Nr f s ln cr 0 := fun t a b => by omega
theorem Nr.add {f : Int → Int → Int → Int} {s ln cr n m : Int} (H : Nr f s ln cr n) (hm : m = n + 1) (p : ¬ Skd f s n ln cr) : Nr f s ln cr m := fun t a b => by
  rcases Decidable.em (t = n) with r | r
  · rw [r]; exact p
  · exact H t a (by omega)
def No (f : Int → Int → Int → Int) (s x ln cr n : Int) : Prop := ∀ o, 0 ≤ o → o < n → o ≠ x → bt ln o = 1 → ¬ Bt f s o x cr 4
theorem No.start (f : Int → Int → Int → Int) (s x ln cr : Int) : No f s x ln cr 0 := fun t a b => by omega
theorem No.add {f : Int → Int → Int → Int} {s x ln cr n m : Int} (H : No f s x ln cr n) (hm : m = n + 1) (p : n ≠ x → bt ln n = 1 → ¬ Bt f s n x cr 4) : No f s x ln cr m := fun t a b => by
  rcases Decidable.em (t = n) with r | r
  · rw [r]; exact p
  · exact H t a (by omega)
theorem No.sk {f : Int → Int → Int → Int} {s x ln cr n : Int} (H : No f s x ln cr n) (hn : ∀ o, 0 ≤ o → o < 4 → bt ln o = 1 → o < n) : ¬ Skd f s x ln cr := fun z => by
  obtain ⟨_, o, o0, o4, on, ob, oB⟩ := z
  exact H o o0 (hn o o0 o4 ob) on ob oB
def Ls (f : Int → Int → Int → Int) (s ln cr r : Int) : Prop := (0 ≤ r ∧ r ≤ 3 ∧ Skd f s r ln cr ∧ Nr f s ln cr r) ∨ (r = -1 ∧ Nr f s ln cr 4)
theorem Ls.uniq {f : Int → Int → Int → Int} {s ln cr r q : Int} (a : Ls f s ln cr r) (b : Ls f s ln cr q) : r = q := by
  rcases a with ⟨a0, a1, a2, a3⟩ | ⟨a0, a1⟩
  · rcases b with ⟨b0, b1, b2, b3⟩ | ⟨b0, b1⟩
    · rcases Int.lt_trichotomy r q with z | z | z
      · exact absurd a2 (b3 r a0 z)
      · exact z
      · exact absurd b2 (a3 q b0 z)
    · exact absurd a2 (b1 r a0 (by omega))
  · rcases b with ⟨b0, b1, b2, b3⟩ | ⟨b0, b1⟩
    · exact absurd b2 (a1 q b0 (by omega))
    · omega
def Rd (f : Int → Int → Int → Int) (x y x' y' : Int) : Prop := ∃ r, Ls f 0 x y r ∧ ((0 ≤ r ∧ x' = clr x r ∧ y' = y) ∨ (r = -1 ∧ ∃ c, Ls f 1 y x c ∧ ((0 ≤ c ∧ x' = x ∧ y' = clr y c) ∨ (c = -1 ∧ x' = x ∧ y' = y))))
theorem Rd.uniq {f : Int → Int → Int → Int} {x y x1 y1 x2 y2 : Int} (a : Rd f x y x1 y1) (b : Rd f x y x2 y2) : x1 = x2 ∧ y1 = y2 := by
  obtain ⟨r, l1, a⟩ := a
  obtain ⟨q, l2, b⟩ := b
  have e := l1.uniq l2
  subst e
  rcases a with ⟨a0, a1, a2⟩ | ⟨a0, c, l3, a⟩
  · rcases b with ⟨b0, b1, b2⟩ | ⟨b0, _⟩
    · exact ⟨a1.trans b1.symm, a2.trans b2.symm⟩
    · omega
  · rcases b with ⟨b0, _⟩ | ⟨b0, d, l4, b⟩
    · omega
    · have e := l3.uniq l4
      subst e
      rcases a with ⟨a1, a2, a3⟩ | ⟨a1, a2, a3⟩
      · rcases b with ⟨b1, b2, b3⟩ | ⟨b1, _⟩
        · exact ⟨a2.trans b2.symm, a3.trans b3.symm⟩
        · omega
      · rcases b with ⟨b1, _⟩ | ⟨b1, b2, b3⟩
        · omega
        · exact ⟨a2.trans b2.symm, a3.trans b3.symm⟩
def Rn (f : Int → Int → Int → Int) (x y : Int) : Nat → Int → Int → Prop
  | 0, x', y' => x' = x ∧ y' = y
  | n + 1, x', y' => ∃ u v, Rn f x y n u v ∧ Rd f u v x' y'
theorem Rn.start {f : Int → Int → Int → Int} {x y x' y' : Int} {n : Nat} (hn : n = 0) (h1 : x' = x) (h2 : y' = y) : Rn f x y n x' y' := by
  subst hn
  exact ⟨h1, h2⟩
theorem Rn.add {f : Int → Int → Int → Int} {x y u v x' y' : Int} {n m : Nat} (H : Rn f x y n u v) (hm : m = n + 1) (d : Rd f u v x' y') : Rn f x y m x' y' := by
  subst hm
  exact ⟨u, v, H, d⟩
theorem Rn.to {f : Int → Int → Int → Int} {x y u v : Int} {n m : Nat} (H : Rn f x y n u v) (hm : n = m) : Rn f x y m u v := by
  subst hm
  exact H
theorem Rn.uniq {f : Int → Int → Int → Int} {x y : Int} : ∀ (n : Nat) {u v u' v' : Int}, Rn f x y n u v → Rn f x y n u' v' → u = u' ∧ v = v' := by
  intro n
  induction n with
  | zero => intro u v u' v' a b; exact ⟨a.1.trans b.1.symm, a.2.trans b.2.symm⟩
  | succ n ih =>
    intro u v u' v' a b
    obtain ⟨p, q, a1, a2⟩ := a
    obtain ⟨p', q', b1, b2⟩ := b
    obtain ⟨e1, e2⟩ := ih a1 b1
    subst e1
    subst e2
    exact a2.uniq b2
theorem Rn.fix {f : Int → Int → Int → Int} {x y u v : Int} {n : Nat} (H : Rn f x y n u v) (d : Rd f u v u v) : ∀ m : Nat, Rn f x y (n + m) u v := by
  intro m
  induction m with
  | zero => exact H
  | succ m ih => exact ⟨u, v, ih, d⟩
theorem Rd.row {f : Int → Int → Int → Int} {x y r x' : Int} (l : Ls f 0 x y r) (r0 : 0 ≤ r) (e : clr x r = x') : Rd f x y x' y := ⟨r, l, Or.inl ⟨r0, e.symm, rfl⟩⟩
theorem Rd.col {f : Int → Int → Int → Int} {x y r c y' : Int} (l : Ls f 0 x y r) (r0 : r < 0) (l2 : Ls f 1 y x c) (c0 : 0 ≤ c) (e : clr y c = y') : Rd f x y x y' := ⟨r, l, Or.inr ⟨by rcases l with l | l <;> omega, c, l2, Or.inl ⟨c0, rfl, e.symm⟩⟩⟩
theorem Rd.no {f : Int → Int → Int → Int} {x y r c y' : Int} (l : Ls f 0 x y r) (r0 : r < 0) (l2 : Ls f 1 y x c) (c0 : c < 0) (e : y' = y) : Rd f x y x y' := ⟨r, l, Or.inr ⟨by rcases l with l | l <;> omega, c, l2, Or.inr ⟨by rcases l2 with l2 | l2 <;> omega, rfl, e⟩⟩⟩
/-- the reference's rounds -/
def Lf (f : Int → Int → Int → Int) (X Y x y : Int) : Prop := ∃ n : Nat, Rn f X Y n x y ∧ pcI x + pcI y + (n : Int) ≤ 8
theorem Lf.start {f : Int → Int → Int → Int} {X Y x y : Int} (h1 : x = X) (h2 : y = Y) (a : 0 ≤ x) (b : x ≤ 15) (c : 0 ≤ y) (d : y ≤ 15) : Lf f X Y x y := ⟨0, ⟨h1, h2⟩, by have := bm a b; have := bm c d; omega⟩
theorem Lf.row {f : Int → Int → Int → Int} {X Y x y r x' : Int} (H : Lf f X Y x y) (a : 0 ≤ x) (b : x ≤ 15) (r0 : 0 ≤ r) (r3 : r ≤ 3) (sk : Skd f 0 r x y) (nr : Nr f 0 x y r) (e : clr x r = x') : Lf f X Y x' y := by
  obtain ⟨n, H, p⟩ := H
  have c := bt_c a b r0 r3 sk.1
  rw [e] at c
  exact ⟨n + 1, ⟨x, y, H, Rd.row (Or.inl ⟨r0, r3, sk, nr⟩) r0 e⟩, by omega⟩
theorem Lf.col {f : Int → Int → Int → Int} {X Y x y r y' : Int} (H : Lf f X Y x y) (a : 0 ≤ y) (b : y ≤ 15) (r0 : 0 ≤ r) (r3 : r ≤ 3) (n0 : Nr f 0 x y 4) (sk : Skd f 1 r y x) (nr : Nr f 1 y x r) (e : clr y r = y') : Lf f X Y x y' := by
  obtain ⟨n, H, p⟩ := H
  have c := bt_c a b r0 r3 sk.1
  rw [e] at c
  exact ⟨n + 1, ⟨x, y, H, Rd.col (r := -1) (Or.inr ⟨rfl, n0⟩) (by omega) (Or.inl ⟨r0, r3, sk, nr⟩) r0 e⟩, by omega⟩
theorem Lf.fin {f : Int → Int → Int → Int} {X Y x y : Int} (H : Lf f X Y x y) (a : 0 ≤ x) (b : x ≤ 15) (c : 0 ≤ y) (d : y ≤ 15) (n0 : Nr f 0 x y 4) (n1 : Nr f 1 y x 4) : Rn f X Y 8 x y := by
  obtain ⟨n, H, p⟩ := H
  have p1 := bm a b
  have p2 := bm c d
  exact (H.fix (Rd.no (r := -1) (c := -1) (Or.inr ⟨rfl, n0⟩) (by omega) (Or.inr ⟨rfl, n1⟩) (by omega) rfl) (8 - n)).to (by omega)
def Eo (f : Int → Int → Int → Int) (s x ln cr n : Int) : Prop := ∃ o, 0 ≤ o ∧ o < n ∧ o ≠ x ∧ bt ln o = 1 ∧ Bt f s o x cr 4
theorem Eo.sk {f : Int → Int → Int → Int} {s x ln cr n : Int} (H : Eo f s x ln cr n) (n4 : n ≤ 4) (b : bt ln x = 1) : Skd f s x ln cr := by
  obtain ⟨o, a1, a2, a3, a4, a5⟩ := H
  exact ⟨b, o, a1, by omega, a3, a4, a5⟩
theorem Skd.eo {f : Int → Int → Int → Int} {s x ln cr n : Int} (H : Skd f s x ln cr) (l0 : 0 ≤ ln) (l1 : ln ≤ 15) (n0 : 0 ≤ n) (n4 : n ≤ 4) (hl : ln ≤ jshl 1 n - 1) : Eo f s x ln cr n := by
  obtain ⟨_, o, a1, a2, a3, a4, a5⟩ := H
  exact ⟨o, a1, bt_hi l0 l1 a1 (by omega) n0 n4 a4 hl, a3, a4, a5⟩
theorem eo_kp {W : List (Nat × Nat)} {h h1 : JH} {r s x ln cr n : Int} (k : Kp W h h1) (cc : ∀ j, inW W 67 j = false) (X : r = 1 ↔ Eo (gR h1) s x ln cr n) : r = 1 ↔ Eo (gR h) s x ln cr n := by
  rw [gR_kp k cc] at X
  exact X
theorem Nr.all {f : Int → Int → Int → Int} {s ln cr n m : Int} (H : Nr f s ln cr m) (hm : n ≤ m) (l0 : 0 ≤ ln) (l1 : ln ≤ 15) (n0 : 0 ≤ n) (n4 : n ≤ 4) (hl : ln ≤ jshl 1 n - 1) : Nr f s ln cr 4 := fun t a b z => by
  have := bt_hi l0 l1 a (by omega) n0 n4 z.1 hl
  exact H t a (by omega) z
def SkS (f : Int → Int → Int → Int) (R C w r : Int) : Prop := (¬ (0 ≤ w ∧ w ≤ 1 ∧ R ≠ 0) ∧ r = -1) ∨ ((0 ≤ w ∧ w ≤ 1 ∧ R ≠ 0) ∧ ∃ x y, Rn f (jshl 1 R - 1) (jshl 1 C - 1) 8 x y ∧ r = if w = 0 then x else y)
theorem SkS.eq {f : Int → Int → Int → Int} {R C w r q : Int} (a : SkS f R C w r) (b : SkS f R C w q) : r = q := by
  rcases a with ⟨a1, a2⟩ | ⟨a1, x, y, a2, a3⟩
  · rcases b with ⟨b1, b2⟩ | ⟨b1, _⟩
    · exact a2.trans b2.symm
    · exact absurd b1 a1
  · rcases b with ⟨b1, _⟩ | ⟨b1, u, v, b2, b3⟩
    · exact absurd a1 b1
    · obtain ⟨e1, e2⟩ := Rn.uniq 8 a2 b2
      rw [a3, b3, e1, e2]
theorem Rl.gg {h : JH} (x : Rl h) : gC h = gR h := by
  funext s r c
  unfold gC gR
  split
  · have := x.2.2 r.toNat c.toNat s.toNat (by omega) (by omega) (by omega)
    rw [show (8 * r + 2 * c + s).toNat = 8 * r.toNat + 2 * c.toNat + s.toNat by omega, show (16 * s + 4 * r + c).toNat = 16 * s.toNat + 4 * r.toNat + c.toNat by omega]
    exact this
  · rfl
set_option maxHeartbeats 4000000 in
theorem t118_l {G : GH} {h : JH} {a1 : Int} (la1 : 0 ≤ a1) (ua1 : a1 ≤ 3) {a2 : Int} (la2 : 0 ≤ a2) (ua2 : a2 ≤ 3) {a3 : Int} (la3 : 0 ≤ a3) (ua3 : a3 ≤ 15) {a4 : Int} (la4 : 0 ≤ a4) (ua4 : a4 ≤ 1) : ∀ N : Nat, (∀ (h1 : JH) (x5 : Int) (j6 j7 : AV), Gd G h1 → Kp [] h h1 → 0 ≤ a1 → a1 ≤ 3 → 0 ≤ a2 → a2 ≤ 3 → 0 ≤ a3 → a3 ≤ 15 → 0 ≤ a4 → a4 ≤ 1 → 0 ≤ x5 → x5 ≤ 4 → Bt (gC h) a4 a1 a2 a3 x5 → ((-x5) + 4) < N → jEv (jOk 1) none (fun _ => 0) c118_0 0 0 (fun v h' => ∃ r : Int, v = some (0, r) ∧ Gd G h' ∧ Kp [] h h' ∧ 0 ≤ r ∧ r ≤ 1 ∧ (r = 1 ↔ Bt (gC h) a4 a1 a2 a3 4)) (c118_3, [(2, 26), (0, a1), (0, a2), (0, a3), (0, a4), (0, x5), j6, j7], [], h1, 0, 0)) := by
  intro N
  induction N with
  | zero => exact fun h1 x5 j6 j7 g1 k1 b0 b1 b2 b3 b4 b5 b6 b7 b8 b9 b10 hm => absurd hm (by omega)
  | succ N ih =>
    show _
    intro h1 x5 j6 j7 g1 k1 b0 b1 b2 b3 b4 b5 b6 b7 b8 b9 H0 hm
    refine ev_iload rfl ?_
    refine ev_iconst ?_
    refine ev_icmpge f118_86 (fun c75449 => ?_) (fun c75449 => ?_)
    · refine ev_iconst ?_
      exact ev_ret rfl (by decide) (by decide) ⟨_, rfl, g1, k1, by omega, by omega, ⟨fun _ => H0.to (by omega), fun _ => rfl⟩⟩
    · refine ev_iload_n rfl ?_
      refine ev_iload rfl ?_
      refine g_ishrB (a := 15) (by omega) (by omega) (by decide) (fun v75450 ev75450 lv75450 uv75450 => ?_)
      refine ev_iconst ?_
      refine g_iandB (b := 1) (by omega) (by omega) (by decide) (fun v75451 ev75451 lv75451 uv75451 => ?_)
      refine ev_iconst ?_
      refine ev_icmpne f118_80 (fun c75452 => ?_) (fun c75452 => ?_)
      · refine ev_iinc (w := (x5 + 1)) (L' := [(2, 26), (0, a1), (0, a2), (0, a3), (0, a4), (0, (x5 + 1)), j6, j7]) rfl (by unfold w32; omega) rfl ?_
        refine ev_goto f118_3 ?_
        exact ih _ _ _ _ g1 k1 (by omega) (by omega) (by omega) (by omega) (by omega) (by omega) (by omega) (by omega) (by omega) (by omega) (H0.add (by omega) (fun z => absurd ((bt_of ev75450 ev75451).symm.trans z) (by omega))) (by omega)
      · refine ev_iload rfl ?_
        refine ev_ifne f118_35 (fun c75453 => ?_) (fun c75453 => ?_)
        · refine ev_aload_n rfl ?_
          refine ev_iload rfl ?_
          refine ev_iload_n rfl ?_
          refine ev_iconst ?_
          refine ev_in (d := 0) (a := 0) (b := 0) (cd' := c106_0) (m := 4) (L0 := [(2, 26), (0, x5), (0, a1), (0, 1)]) (jcall_v (A := [(0, 1), (0, a1), (0, x5)]) (S' := []) (r := 26) rfl (g1.lt ad26) (g1.tg ad26) (Nat.le_of_ble_eq_true rfl)) (by decide) ml106 pp106 (Nat.le_of_ble_eq_true rfl) rfl (by decide) (by decide) ?_
          refine ev_aload_n rfl ?_
          refine g_getp (r := 26) (c := 27) g1 ad26 (by decide) (by decide) rf26_2 ft9_2 ?_
          refine ev_bipush ?_
          refine ev_iload_n rfl ?_
          refine ev_imul (r := (8 * x5)) (by unfold w32; omega) ?_
          refine ev_iconst ?_
          refine ev_iload_n rfl ?_
          refine ev_imul (r := (2 * a1)) (by unfold w32; omega) ?_
          refine ev_iadd (r := (2 * a1 + 8 * x5)) (by unfold w32; omega) ?_
          refine ev_iload_n rfl ?_
          refine ev_iadd (r := (2 * a1 + 8 * x5 + 1)) (by unfold w32; omega) ?_
          refine g_iald g1 ad27 rt27 (by omega) (by omega) (fun v75454 ev75454 lv75454 uv75454 => ?_)
          refine ev_ret rfl (by decide) (by decide) ?_
          show jEv _ _ _ _ _ _ _ (_, [(2, 26), (0, a1), (0, a2), (0, a3), (0, a4), (0, x5), j6, j7], [(0, v75454)], _, _, _)
          refine ev_istore (L' := [(2, 26), (0, a1), (0, a2), (0, a3), (0, a4), (0, x5), (0, v75454), j7]) (Nat.le_of_ble_eq_true rfl) rfl ?_
          refine ev_iload rfl ?_
          refine ev_ifne f118_61 (fun c75455 => ?_) (fun c75455 => absurd c75455 (by omega))
          refine ev_aload_n rfl ?_
          refine ev_iload rfl ?_
          refine ev_iload_n rfl ?_
          refine ev_iconst ?_
          refine ev_in (d := 0) (a := 0) (b := 0) (cd' := c106_0) (m := 4) (L0 := [(2, 26), (0, x5), (0, a2), (0, 1)]) (jcall_v (A := [(0, 1), (0, a2), (0, x5)]) (S' := []) (r := 26) rfl (g1.lt ad26) (g1.tg ad26) (Nat.le_of_ble_eq_true rfl)) (by decide) ml106 pp106 (Nat.le_of_ble_eq_true rfl) rfl (by decide) (by decide) ?_
          refine ev_aload_n rfl ?_
          refine g_getp (r := 26) (c := 27) g1 ad26 (by decide) (by decide) rf26_2 ft9_2 ?_
          refine ev_bipush ?_
          refine ev_iload_n rfl ?_
          refine ev_imul (r := (8 * x5)) (by unfold w32; omega) ?_
          refine ev_iconst ?_
          refine ev_iload_n rfl ?_
          refine ev_imul (r := (2 * a2)) (by unfold w32; omega) ?_
          refine ev_iadd (r := (2 * a2 + 8 * x5)) (by unfold w32; omega) ?_
          refine ev_iload_n rfl ?_
          refine ev_iadd (r := (2 * a2 + 8 * x5 + 1)) (by unfold w32; omega) ?_
          refine g_iald g1 ad27 rt27 (by omega) (by omega) (fun v75456 ev75456 lv75456 uv75456 => ?_)
          refine ev_ret rfl (by decide) (by decide) ?_
          show jEv _ _ _ _ _ _ _ (_, [(2, 26), (0, a1), (0, a2), (0, a3), (0, a4), (0, x5), (0, v75454), j7], [(0, v75456)], _, _, _)
          refine ev_istore (L' := [(2, 26), (0, a1), (0, a2), (0, a3), (0, a4), (0, x5), (0, v75454), (0, v75456)]) (Nat.le_of_ble_eq_true rfl) rfl ?_
          refine ev_iload rfl ?_
          refine ev_iload rfl ?_
          refine ev_icmpgt f118_80 (fun c75457 => ?_) (fun c75457 => ?_)
          · refine ev_iinc (w := (x5 + 1)) (L' := [(2, 26), (0, a1), (0, a2), (0, a3), (0, a4), (0, (x5 + 1)), (0, v75454), (0, v75456)]) rfl (by unfold w32; omega) rfl ?_
            refine ev_goto f118_3 ?_
            exact ih _ _ _ _ g1 k1 (by omega) (by omega) (by omega) (by omega) (by omega) (by omega) (by omega) (by omega) (by omega) (by omega) (H0.add (by omega) (fun _ => (by show fv _ _ _ _ < fv _ _ _ _; unfold fv; rw [if_neg (show ¬ a4 = 0 by omega), if_neg (show ¬ a4 = 0 by omega), gC_at (s := 1) (r := x5) (c := a2) k1 (fun _ => rfl) (i := (2 * a2 + 8 * x5 + 1)) (ev75456) (by omega) (by omega), gC_at (s := 1) (r := x5) (c := a1) k1 (fun _ => rfl) (i := (2 * a1 + 8 * x5 + 1)) (ev75454) (by omega) (by omega)]; omega))) (by omega)
          · refine ev_iconst ?_
            exact ev_ret rfl (by decide) (by decide) ⟨_, rfl, g1, k1, by omega, by omega, ⟨fun z => absurd z (by decide), fun z => absurd (z x5 (by omega) (by omega) ((bt_of ev75450 ev75451).trans (by omega))) (by show ¬ fv _ _ _ _ < fv _ _ _ _; unfold fv; rw [if_neg (show ¬ a4 = 0 by omega), if_neg (show ¬ a4 = 0 by omega), gC_at (s := 1) (r := x5) (c := a2) k1 (fun _ => rfl) (i := (2 * a2 + 8 * x5 + 1)) (ev75456) (by omega) (by omega), gC_at (s := 1) (r := x5) (c := a1) k1 (fun _ => rfl) (i := (2 * a1 + 8 * x5 + 1)) (ev75454) (by omega) (by omega)]; omega)⟩⟩
        · refine ev_aload_n rfl ?_
          refine ev_iload_n rfl ?_
          refine ev_iload rfl ?_
          refine ev_iconst ?_
          refine ev_in (d := 0) (a := 0) (b := 0) (cd' := c106_0) (m := 4) (L0 := [(2, 26), (0, a1), (0, x5), (0, 0)]) (jcall_v (A := [(0, 0), (0, x5), (0, a1)]) (S' := []) (r := 26) rfl (g1.lt ad26) (g1.tg ad26) (Nat.le_of_ble_eq_true rfl)) (by decide) ml106 pp106 (Nat.le_of_ble_eq_true rfl) rfl (by decide) (by decide) ?_
          refine ev_aload_n rfl ?_
          refine g_getp (r := 26) (c := 27) g1 ad26 (by decide) (by decide) rf26_2 ft9_2 ?_
          refine ev_bipush ?_
          refine ev_iload_n rfl ?_
          refine ev_imul (r := (8 * a1)) (by unfold w32; omega) ?_
          refine ev_iconst ?_
          refine ev_iload_n rfl ?_
          refine ev_imul (r := (2 * x5)) (by unfold w32; omega) ?_
          refine ev_iadd (r := (8 * a1 + 2 * x5)) (by unfold w32; omega) ?_
          refine ev_iload_n rfl ?_
          refine ev_iadd (r := (8 * a1 + 2 * x5)) (by unfold w32; omega) ?_
          refine g_iald g1 ad27 rt27 (by omega) (by omega) (fun v75458 ev75458 lv75458 uv75458 => ?_)
          refine ev_ret rfl (by decide) (by decide) ?_
          show jEv _ _ _ _ _ _ _ (_, [(2, 26), (0, a1), (0, a2), (0, a3), (0, a4), (0, x5), j6, j7], [(0, v75458)], _, _, _)
          refine ev_goto f118_43 ?_
          refine ev_istore (L' := [(2, 26), (0, a1), (0, a2), (0, a3), (0, a4), (0, x5), (0, v75458), j7]) (Nat.le_of_ble_eq_true rfl) rfl ?_
          refine ev_iload rfl ?_
          refine ev_ifne f118_61 (fun c75459 => absurd c75459 (by omega)) (fun c75459 => ?_)
          refine ev_aload_n rfl ?_
          refine ev_iload_n rfl ?_
          refine ev_iload rfl ?_
          refine ev_iconst ?_
          refine ev_in (d := 0) (a := 0) (b := 0) (cd' := c106_0) (m := 4) (L0 := [(2, 26), (0, a2), (0, x5), (0, 0)]) (jcall_v (A := [(0, 0), (0, x5), (0, a2)]) (S' := []) (r := 26) rfl (g1.lt ad26) (g1.tg ad26) (Nat.le_of_ble_eq_true rfl)) (by decide) ml106 pp106 (Nat.le_of_ble_eq_true rfl) rfl (by decide) (by decide) ?_
          refine ev_aload_n rfl ?_
          refine g_getp (r := 26) (c := 27) g1 ad26 (by decide) (by decide) rf26_2 ft9_2 ?_
          refine ev_bipush ?_
          refine ev_iload_n rfl ?_
          refine ev_imul (r := (8 * a2)) (by unfold w32; omega) ?_
          refine ev_iconst ?_
          refine ev_iload_n rfl ?_
          refine ev_imul (r := (2 * x5)) (by unfold w32; omega) ?_
          refine ev_iadd (r := (8 * a2 + 2 * x5)) (by unfold w32; omega) ?_
          refine ev_iload_n rfl ?_
          refine ev_iadd (r := (8 * a2 + 2 * x5)) (by unfold w32; omega) ?_
          refine g_iald g1 ad27 rt27 (by omega) (by omega) (fun v75460 ev75460 lv75460 uv75460 => ?_)
          refine ev_ret rfl (by decide) (by decide) ?_
          show jEv _ _ _ _ _ _ _ (_, [(2, 26), (0, a1), (0, a2), (0, a3), (0, a4), (0, x5), (0, v75458), j7], [(0, v75460)], _, _, _)
          refine ev_goto f118_69 ?_
          refine ev_istore (L' := [(2, 26), (0, a1), (0, a2), (0, a3), (0, a4), (0, x5), (0, v75458), (0, v75460)]) (Nat.le_of_ble_eq_true rfl) rfl ?_
          refine ev_iload rfl ?_
          refine ev_iload rfl ?_
          refine ev_icmpgt f118_80 (fun c75461 => ?_) (fun c75461 => ?_)
          · refine ev_iinc (w := (x5 + 1)) (L' := [(2, 26), (0, a1), (0, a2), (0, a3), (0, a4), (0, (x5 + 1)), (0, v75458), (0, v75460)]) rfl (by unfold w32; omega) rfl ?_
            refine ev_goto f118_3 ?_
            exact ih _ _ _ _ g1 k1 (by omega) (by omega) (by omega) (by omega) (by omega) (by omega) (by omega) (by omega) (by omega) (by omega) (H0.add (by omega) (fun _ => (by show fv _ _ _ _ < fv _ _ _ _; unfold fv; rw [if_pos (show a4 = 0 by omega), if_pos (show a4 = 0 by omega), gC_at (s := 0) (r := a2) (c := x5) k1 (fun _ => rfl) (i := (8 * a2 + 2 * x5)) (ev75460) (by omega) (by omega), gC_at (s := 0) (r := a1) (c := x5) k1 (fun _ => rfl) (i := (8 * a1 + 2 * x5)) (ev75458) (by omega) (by omega)]; omega))) (by omega)
          · refine ev_iconst ?_
            exact ev_ret rfl (by decide) (by decide) ⟨_, rfl, g1, k1, by omega, by omega, ⟨fun z => absurd z (by decide), fun z => absurd (z x5 (by omega) (by omega) ((bt_of ev75450 ev75451).trans (by omega))) (by show ¬ fv _ _ _ _ < fv _ _ _ _; unfold fv; rw [if_pos (show a4 = 0 by omega), if_pos (show a4 = 0 by omega), gC_at (s := 0) (r := a2) (c := x5) k1 (fun _ => rfl) (i := (8 * a2 + 2 * x5)) (ev75460) (by omega) (by omega), gC_at (s := 0) (r := a1) (c := x5) k1 (fun _ => rfl) (i := (8 * a1 + 2 * x5)) (ev75458) (by omega) (by omega)]; omega)⟩⟩
set_option maxHeartbeats 4000000 in
theorem t118 {G : GH} {h : JH} (g : Gd G h) {a1 : Int} (la1 : 0 ≤ a1) (ua1 : a1 ≤ 3) {a2 : Int} (la2 : 0 ≤ a2) (ua2 : a2 ≤ 3) {a3 : Int} (la3 : 0 ≤ a3) (ua3 : a3 ≤ 15) {a4 : Int} (la4 : 0 ≤ a4) (ua4 : a4 ≤ 1) : jOk 2 0 0 118 [(2, 26), (0, a1), (0, a2), (0, a3), (0, a4)] h (fun v h' => ∃ r : Int, v = some (0, r) ∧ Gd G h' ∧ Kp [] h h' ∧ 0 ≤ r ∧ r ≤ 1 ∧ (r = 1 ↔ Bt (gC h) a4 a1 a2 a3 4)) := by
  refine ⟨by decide, by rw [ml118]; exact Nat.le_of_ble_eq_true rfl, ?_⟩
  rw [ml118, pp118]
  show jEv _ none _ c118_0 0 0 _ (c118_0, [(2, 26), (0, a1), (0, a2), (0, a3), (0, a4), (9, 0), (9, 0), (9, 0)], [], h, 0, 0)
  have k0 := Kp.rf [] h
  refine ev_iconst ?_
  refine ev_istore (L' := [(2, 26), (0, a1), (0, a2), (0, a3), (0, a4), (0, 0), (9, 0), (9, 0)]) (Nat.le_of_ble_eq_true rfl) rfl ?_
  exact (t118_l la1 ua1 la2 ua2 la3 ua3 la4 ua4 10) _ _ _ _ g k0 (by omega) (by omega) (by omega) (by omega) (by omega) (by omega) (by omega) (by omega) (by omega) (by omega) (Bt.start _ _ _ _ _) (by omega)
set_option maxHeartbeats 4000000 in
theorem t117_l {G : GH} {h : JH} {a1 : Int} (la1 : 0 ≤ a1) (ua1 : a1 ≤ 15) {a2 : Int} (la2 : 0 ≤ a2) (ua2 : a2 ≤ 15) {a3 : Int} (la3 : 0 ≤ a3) (ua3 : a3 ≤ 1) : ∀ N : Nat, (∀ (h1 : JH) (x4 : Int) (j5 : AV), Gd G h1 → Kp [] h h1 → 0 ≤ a1 → a1 ≤ 15 → 0 ≤ a2 → a2 ≤ 15 → 0 ≤ a3 → a3 ≤ 1 → 0 ≤ x4 → x4 ≤ 4 → Nr (gC h) a3 a1 a2 x4 → ((-10) * x4 + 45) < N → jEv (jOk 2) none (fun _ => 0) c117_0 0 0 (fun v h' => ∃ r : Int, v = some (0, r) ∧ Gd G h' ∧ Kp [] h h' ∧ (-1) ≤ r ∧ r ≤ 3 ∧ Ls (gC h) a3 a1 a2 r) (c117_3, [(2, 26), (0, a1), (0, a2), (0, a3), (0, x4), j5], [], h1, 0, 0)) ∧ (∀ (h1 : JH) (x4 x5 : Int), Gd G h1 → Kp [] h h1 → 0 ≤ a1 → a1 ≤ 15 → 0 ≤ a2 → a2 ≤ 15 → 0 ≤ a3 → a3 ≤ 1 → 0 ≤ x4 → x4 ≤ 3 → 0 ≤ x5 → x5 ≤ 4 → Nr (gC h) a3 a1 a2 x4 → No (gC h) a3 x4 a1 a2 x5 → ((-10) * x4 + (-x5) + 44) < N → jEv (jOk 2) none (fun _ => 0) c117_0 0 0 (fun v h' => ∃ r : Int, v = some (0, r) ∧ Gd G h' ∧ Kp [] h h' ∧ (-1) ≤ r ∧ r ≤ 3 ∧ Ls (gC h) a3 a1 a2 r) (c117_12, [(2, 26), (0, a1), (0, a2), (0, a3), (0, x4), (0, x5)], [], h1, 0, 0)) := by
  intro N
  induction N with
  | zero => exact ⟨fun h1 x4 j5 g1 k1 b0 b1 b2 b3 b4 b5 b6 b7 b8 hm => absurd hm (by omega), fun h1 x4 x5 g1 k1 b0 b1 b2 b3 b4 b5 b6 b7 b8 b9 b10 b11 hm => absurd hm (by omega)⟩
  | succ N ih =>
    refine ⟨?_, ?_⟩
    · intro h1 x4 j5 g1 k1 b0 b1 b2 b3 b4 b5 b6 b7 H0 hm
      refine ev_iload rfl ?_
      refine ev_iconst ?_
      refine ev_icmpge f117_73 (fun c75527 => ?_) (fun c75527 => ?_)
      · refine ev_iconst ?_
        exact ev_ret rfl (by decide) (by decide) ⟨_, rfl, g1, k1, by omega, by omega, Or.inr ⟨rfl, fun t a b => H0 t a (by omega)⟩⟩
      · refine ev_iconst ?_
        refine ev_istore (L' := [(2, 26), (0, a1), (0, a2), (0, a3), (0, x4), (0, 0)]) (Nat.le_of_ble_eq_true rfl) rfl ?_
        exact ih.2 _ _ _ g1 k1 (by omega) (by omega) (by omega) (by omega) (by omega) (by omega) (by omega) (by omega) (by omega) (by omega) H0 (No.start _ _ _ _ _) (by omega)
    · intro h1 x4 x5 g1 k1 b0 b1 b2 b3 b4 b5 b6 b7 b8 b9 H0 H1 hm
      refine ev_iload rfl ?_
      refine ev_iconst ?_
      refine ev_icmpge f117_67 (fun c75528 => ?_) (fun c75528 => ?_)
      · refine ev_iinc (w := (x4 + 1)) (L' := [(2, 26), (0, a1), (0, a2), (0, a3), (0, (x4 + 1)), (0, x5)]) rfl (by unfold w32; omega) rfl ?_
        refine ev_goto f117_3 ?_
        exact ih.1 _ _ _ g1 k1 (by omega) (by omega) (by omega) (by omega) (by omega) (by omega) (by omega) (by omega) (H0.add (by omega) (H1.sk (fun o a b c => by omega))) (by omega)
      · refine ev_iload_n rfl ?_
        refine ev_iload rfl ?_
        refine g_ishrB (a := 15) (by omega) (by omega) (by decide) (fun v75529 ev75529 lv75529 uv75529 => ?_)
        refine ev_iconst ?_
        refine g_iandB (b := 1) (by omega) (by omega) (by decide) (fun v75530 ev75530 lv75530 uv75530 => ?_)
        refine ev_iconst ?_
        refine ev_icmpne f117_67 (fun c75531 => ?_) (fun c75531 => ?_)
        · refine ev_iinc (w := (x4 + 1)) (L' := [(2, 26), (0, a1), (0, a2), (0, a3), (0, (x4 + 1)), (0, x5)]) rfl (by unfold w32; omega) rfl ?_
          refine ev_goto f117_3 ?_
          exact ih.1 _ _ _ g1 k1 (by omega) (by omega) (by omega) (by omega) (by omega) (by omega) (by omega) (by omega) (H0.add (by omega) (fun z => absurd ((bt_of ev75529 ev75530).symm.trans z.1) (by omega))) (by omega)
        · refine ev_iload rfl ?_
          refine ev_iload rfl ?_
          refine ev_icmpeq f117_61 (fun c75532 => ?_) (fun c75532 => ?_)
          · refine ev_iinc (w := (x5 + 1)) (L' := [(2, 26), (0, a1), (0, a2), (0, a3), (0, x4), (0, (x5 + 1))]) rfl (by unfold w32; omega) rfl ?_
            refine ev_goto f117_12 ?_
            exact ih.2 _ _ _ g1 k1 (by omega) (by omega) (by omega) (by omega) (by omega) (by omega) (by omega) (by omega) (by omega) (by omega) H0 (H1.add (by omega) (fun z => absurd (show x5 = x4 by omega) z)) (by omega)
          · refine ev_iload_n rfl ?_
            refine ev_iload rfl ?_
            refine g_ishrB (a := 15) (by omega) (by omega) (by decide) (fun v75533 ev75533 lv75533 uv75533 => ?_)
            refine ev_iconst ?_
            refine g_iandB (b := 1) (by omega) (by omega) (by decide) (fun v75534 ev75534 lv75534 uv75534 => ?_)
            refine ev_iconst ?_
            refine ev_icmpne f117_61 (fun c75535 => ?_) (fun c75535 => ?_)
            · refine ev_iinc (w := (x5 + 1)) (L' := [(2, 26), (0, a1), (0, a2), (0, a3), (0, x4), (0, (x5 + 1))]) rfl (by unfold w32; omega) rfl ?_
              refine ev_goto f117_12 ?_
              exact ih.2 _ _ _ g1 k1 (by omega) (by omega) (by omega) (by omega) (by omega) (by omega) (by omega) (by omega) (by omega) (by omega) H0 (H1.add (by omega) (fun _ z => absurd ((bt_of ev75533 ev75534).symm.trans z) (by omega))) (by omega)
            · refine ev_aload_n rfl ?_
              refine ev_iload rfl ?_
              refine ev_iload rfl ?_
              refine ev_iload_n rfl ?_
              refine ev_iload_n rfl ?_
              refine ev_call (jcall_v (A := [(0, a3), (0, a2), (0, x4), (0, x5)]) (S' := []) (r := 26) rfl (g1.lt ad26) (g1.tg ad26) (Nat.le_of_ble_eq_true rfl)) (jOk_le (by decide) (t118 g1 (by omega) (by omega) (by omega) (by omega) (by omega) (by omega) (by omega) (by omega))) (by decide) (by decide) (fun w75536 h75536 q75536 => ?_)
              obtain ⟨v75537, rfl, g75536, kk75536, lv75537, uv75537, X75536⟩ := q75536
              have k75536 := k1.tr kk75536 (by decide)
              show jEv _ _ _ _ _ _ _ (_, [(2, 26), (0, a1), (0, a2), (0, a3), (0, x4), (0, x5)], [(0, v75537)], _, _, _)
              refine ev_ifeq f117_61 (fun c75538 => ?_) (fun c75538 => ?_)
              · refine ev_iinc (w := (x5 + 1)) (L' := [(2, 26), (0, a1), (0, a2), (0, a3), (0, x4), (0, (x5 + 1))]) rfl (by unfold w32; omega) rfl ?_
                refine ev_goto f117_12 ?_
                exact ih.2 _ _ _ g75536 k75536 (by omega) (by omega) (by omega) (by omega) (by omega) (by omega) (by omega) (by omega) (by omega) (by omega) H0 (H1.add (by omega) (fun _ _ => by rw [← gC_kp k1 (fun _ => rfl)]; exact fun z => absurd (X75536.mpr z) (by omega))) (by omega)
              · refine ev_iload rfl ?_
                exact ev_ret rfl (by decide) (by decide) ⟨_, rfl, g75536, k75536, by omega, by omega, Or.inl ⟨by omega, by omega, ⟨(bt_of ev75529 ev75530).trans (by omega), x5, by omega, by omega, by omega, (bt_of ev75533 ev75534).trans (by omega), by rw [← gC_kp k1 (fun _ => rfl)]; exact X75536.mp (by omega)⟩, H0⟩⟩
set_option maxHeartbeats 4000000 in
theorem t117 {G : GH} {h : JH} (g : Gd G h) {a1 : Int} (la1 : 0 ≤ a1) (ua1 : a1 ≤ 15) {a2 : Int} (la2 : 0 ≤ a2) (ua2 : a2 ≤ 15) {a3 : Int} (la3 : 0 ≤ a3) (ua3 : a3 ≤ 1) : jOk 3 0 0 117 [(2, 26), (0, a1), (0, a2), (0, a3)] h (fun v h' => ∃ r : Int, v = some (0, r) ∧ Gd G h' ∧ Kp [] h h' ∧ (-1) ≤ r ∧ r ≤ 3 ∧ Ls (gC h) a3 a1 a2 r) := by
  refine ⟨by decide, by rw [ml117]; exact Nat.le_of_ble_eq_true rfl, ?_⟩
  rw [ml117, pp117]
  show jEv _ none _ c117_0 0 0 _ (c117_0, [(2, 26), (0, a1), (0, a2), (0, a3), (9, 0), (9, 0)], [], h, 0, 0)
  have k0 := Kp.rf [] h
  refine ev_iconst ?_
  refine ev_istore (L' := [(2, 26), (0, a1), (0, a2), (0, a3), (0, 0), (9, 0)]) (Nat.le_of_ble_eq_true rfl) rfl ?_
  exact (t117_l la1 ua1 la2 ua2 la3 ua3 100).1 _ _ _ g k0 (by omega) (by omega) (by omega) (by omega) (by omega) (by omega) (by omega) (by omega) (Nr.start _ _ _ _) (by omega)
set_option maxHeartbeats 4000000 in
theorem t116_l {G : GH} {h : JH} {a1 : Int} (la1 : 0 ≤ a1) (ua1 : a1 ≤ 1) {w0 : Int} (ew0 : h.2.2 26 0 = w0) (lw0 : 0 ≤ w0) (uw0 : w0 ≤ 4) {w1 : Int} (ew1 : h.2.2 26 1 = w1) (lw1 : 0 ≤ w1) (uw1 : w1 ≤ 4) : ∀ N : Nat, (∀ (h1 : JH) (x2 x3 x4 : Int) (j5 j6 : AV), Gd G h1 → Kp [] h h1 → 0 ≤ a1 → a1 ≤ 1 → 0 ≤ x2 → x2 ≤ 15 → 0 ≤ x3 → x3 ≤ 15 → 0 ≤ x4 → x4 ≤ 8 → x2 ≤ 15 → x3 ≤ 15 → ((-x2)) ≤ 0 → ((-x3)) ≤ 0 → Rn (gC h) (jshl 1 w0 - 1) (jshl 1 w1 - 1) (x4).toNat x2 x3 → ((-x4) + 8) < N → jEv (jOk 3) none (fun _ => 0) c116_0 0 0 (fun v h' => ∃ r : Int, v = some (0, r) ∧ Gd G h' ∧ Kp [] h h' ∧ 0 ≤ r ∧ r ≤ 15 ∧ ∃ x y, Rn (gC h) (jshl 1 w0 - 1) (jshl 1 w1 - 1) 8 x y ∧ r = if a1 = 0 then x else y) (c116_21, [(2, 26), (0, a1), (0, x2), (0, x3), (0, x4), j5, j6], [], h1, 0, 0)) := by
  intro N
  induction N with
  | zero => exact fun h1 x2 x3 x4 j5 j6 g1 k1 b0 b1 b2 b3 b4 b5 b6 b7 b8 b9 b10 b11 b12 hm => absurd hm (by omega)
  | succ N ih =>
    show _
    intro h1 x2 x3 x4 j5 j6 g1 k1 b0 b1 b2 b3 b4 b5 b6 b7 b8 b9 b10 b11 H0 hm
    refine ev_iload rfl ?_
    refine ev_bipush ?_
    refine ev_icmpge f116_87 (fun c75685 => ?_) (fun c75685 => ?_)
    · refine ev_iload_n rfl ?_
      refine ev_ifne f116_95 (fun c75686 => ?_) (fun c75686 => ?_)
      · refine ev_iload_n rfl ?_
        exact ev_ret rfl (by decide) (by decide) ⟨_, rfl, g1, k1, by omega, by omega, ⟨x2, x3, H0.to (by omega), by split <;> omega⟩⟩
      · refine ev_iload_n rfl ?_
        refine ev_goto f116_96 ?_
        exact ev_ret rfl (by decide) (by decide) ⟨_, rfl, g1, k1, by omega, by omega, ⟨x2, x3, H0.to (by omega), by split <;> omega⟩⟩
    · refine ev_aload_n rfl ?_
      refine ev_iload_n rfl ?_
      refine ev_iload_n rfl ?_
      refine ev_iconst ?_
      refine ev_call (jcall_v (A := [(0, 0), (0, x3), (0, x2)]) (S' := []) (r := 26) rfl (g1.lt ad26) (g1.tg ad26) (Nat.le_of_ble_eq_true rfl)) (jOk_le (by decide) (t117 g1 (by omega) (by omega) (by omega) (by omega) (by omega) (by omega))) (by decide) (by decide) (fun w75687 h75687 q75687 => ?_)
      obtain ⟨v75688, rfl, g75687, kk75687, lv75688, uv75688, X75687⟩ := q75687
      have k75687 := k1.tr kk75687 (by decide)
      show jEv _ _ _ _ _ _ _ (_, [(2, 26), (0, a1), (0, x2), (0, x3), (0, x4), j5, j6], [(0, v75688)], _, _, _)
      refine ev_istore (L' := [(2, 26), (0, a1), (0, x2), (0, x3), (0, x4), (0, v75688), j6]) (Nat.le_of_ble_eq_true rfl) rfl ?_
      refine ev_iload rfl ?_
      refine ev_iflt f116_54 (fun c75689 => ?_) (fun c75689 => ?_)
      · refine ev_aload_n rfl ?_
        refine ev_iload_n rfl ?_
        refine ev_iload_n rfl ?_
        refine ev_iconst ?_
        refine ev_call (jcall_v (A := [(0, 1), (0, x2), (0, x3)]) (S' := []) (r := 26) rfl (g75687.lt ad26) (g75687.tg ad26) (Nat.le_of_ble_eq_true rfl)) (jOk_le (by decide) (t117 g75687 (by omega) (by omega) (by omega) (by omega) (by omega) (by omega))) (by decide) (by decide) (fun w75690 h75690 q75690 => ?_)
        obtain ⟨v75691, rfl, g75690, kk75690, lv75691, uv75691, X75690⟩ := q75690
        have k75690 := k75687.tr kk75690 (by decide)
        show jEv _ _ _ _ _ _ _ (_, [(2, 26), (0, a1), (0, x2), (0, x3), (0, x4), (0, v75688), j6], [(0, v75691)], _, _, _)
        refine ev_istore (L' := [(2, 26), (0, a1), (0, x2), (0, x3), (0, x4), (0, v75688), (0, v75691)]) (Nat.le_of_ble_eq_true rfl) rfl ?_
        refine ev_iload_n rfl ?_
        refine ev_iload rfl ?_
        refine ev_ifge f116_73 (fun c75692 => ?_) (fun c75692 => ?_)
        · refine ev_iconst ?_
          refine ev_iload rfl ?_
          refine g_ishlB (a' := 1) (a := 1) (b := 3) (hi := 8) (by omega) (by omega) (by omega) (by omega) (by decide) (by decide) (fun v75693 ev75693 lv75693 uv75693 => ?_)
          refine ev_iconst ?_
          refine g_ixorG (fun v75694 ev75694 lv75694 uv75694 => ?_)
          refine g_iandA (b := 15) (by omega) (by omega) (by decide) (fun v75695 ev75695 lv75695 uv75695 => ?_)
          refine ev_istore_n (L' := [(2, 26), (0, a1), (0, x2), (0, v75695), (0, x4), (0, v75688), (0, v75691)]) (Nat.le_of_ble_eq_true rfl) rfl ?_
          refine ev_iinc (w := (x4 + 1)) (L' := [(2, 26), (0, a1), (0, x2), (0, v75695), (0, (x4 + 1)), (0, v75688), (0, v75691)]) rfl (by unfold w32; omega) rfl ?_
          refine ev_goto f116_21 ?_
          exact ih _ _ _ _ _ _ g75690 k75690 (by omega) (by omega) (by omega) (by omega) (by omega) (by omega) (by omega) (by omega) (by omega) (by omega) (by omega) (by omega) (H0.add (by omega) (Rd.col (by have q := X75687; rw [gC_kp k1 (fun _ => rfl)] at q; exact q) (by omega) (by have q := X75690; rw [gC_kp k75687 (fun _ => rfl)] at q; exact q) (by omega) (clr_of ev75693 ev75694 ev75695))) (by omega)
        · refine ev_iconst ?_
          refine ev_goto f116_79 ?_
          refine g_iandA (b := 15) (by omega) (by omega) (by decide) (fun v75696 ev75696 lv75696 uv75696 => ?_)
          refine ev_istore_n (L' := [(2, 26), (0, a1), (0, x2), (0, v75696), (0, x4), (0, v75688), (0, v75691)]) (Nat.le_of_ble_eq_true rfl) rfl ?_
          refine ev_iinc (w := (x4 + 1)) (L' := [(2, 26), (0, a1), (0, x2), (0, v75696), (0, (x4 + 1)), (0, v75688), (0, v75691)]) rfl (by unfold w32; omega) rfl ?_
          refine ev_goto f116_21 ?_
          exact ih _ _ _ _ _ _ g75690 k75690 (by omega) (by omega) (by omega) (by omega) (by omega) (by omega) (by omega) (by omega) (by omega) (by omega) (by omega) (by omega) (H0.add (by omega) (Rd.no (by have q := X75687; rw [gC_kp k1 (fun _ => rfl)] at q; exact q) (by omega) (by have q := X75690; rw [gC_kp k75687 (fun _ => rfl)] at q; exact q) (by omega) (ev75696.symm.trans (bm (by omega) (by omega)).1))) (by omega)
      · refine ev_iload_n rfl ?_
        refine ev_iconst ?_
        refine ev_iload rfl ?_
        refine g_ishlB (a' := 1) (a := 1) (b := 3) (hi := 8) (by omega) (by omega) (by omega) (by omega) (by decide) (by decide) (fun v75697 ev75697 lv75697 uv75697 => ?_)
        refine ev_iconst ?_
        refine g_ixorG (fun v75698 ev75698 lv75698 uv75698 => ?_)
        refine g_iandA (b := 15) (by omega) (by omega) (by decide) (fun v75699 ev75699 lv75699 uv75699 => ?_)
        refine ev_istore_n (L' := [(2, 26), (0, a1), (0, v75699), (0, x3), (0, x4), (0, v75688), j6]) (Nat.le_of_ble_eq_true rfl) rfl ?_
        refine ev_goto f116_81 ?_
        refine ev_iinc (w := (x4 + 1)) (L' := [(2, 26), (0, a1), (0, v75699), (0, x3), (0, (x4 + 1)), (0, v75688), j6]) rfl (by unfold w32; omega) rfl ?_
        refine ev_goto f116_21 ?_
        exact ih _ _ _ _ _ _ g75687 k75687 (by omega) (by omega) (by omega) (by omega) (by omega) (by omega) (by omega) (by omega) (by omega) (by omega) (by omega) (by omega) (H0.add (by omega) (Rd.row (by have q := X75687; rw [gC_kp k1 (fun _ => rfl)] at q; exact q) (by omega) (clr_of ev75697 ev75698 ev75699))) (by omega)
set_option maxHeartbeats 4000000 in
theorem t116 {G : GH} {h : JH} (g : Gd G h) {a1 : Int} (la1 : 0 ≤ a1) (ua1 : a1 ≤ 1) {w0 : Int} (ew0 : h.2.2 26 0 = w0) (lw0 : 0 ≤ w0) (uw0 : w0 ≤ 4) {w1 : Int} (ew1 : h.2.2 26 1 = w1) (lw1 : 0 ≤ w1) (uw1 : w1 ≤ 4) : jOk 4 0 0 116 [(2, 26), (0, a1)] h (fun v h' => ∃ r : Int, v = some (0, r) ∧ Gd G h' ∧ Kp [] h h' ∧ 0 ≤ r ∧ r ≤ 15 ∧ ∃ x y, Rn (gC h) (jshl 1 w0 - 1) (jshl 1 w1 - 1) 8 x y ∧ r = if a1 = 0 then x else y) := by
  refine ⟨by decide, by rw [ml116]; exact Nat.le_of_ble_eq_true rfl, ?_⟩
  rw [ml116, pp116]
  show jEv _ none _ c116_0 0 0 _ (c116_0, [(2, 26), (0, a1), (9, 0), (9, 0), (9, 0), (9, 0), (9, 0)], [], h, 0, 0)
  have k0 := Kp.rf [] h
  refine ev_iconst ?_
  refine ev_aload_n rfl ?_
  refine g_getv (r := 26) (v := w0) g ad26 (by decide) ft9_0 (ew0) ?_
  refine g_ishlB (a' := 1) (a := 1) (b := 4) (hi := 16) (by omega) (by omega) (by omega) (by omega) (by decide) (by decide) (fun v75700 ev75700 lv75700 uv75700 => ?_)
  refine ev_iconst ?_
  refine ev_isub (r := (v75700 - 1)) (by unfold w32; omega) ?_
  refine ev_istore_n (L' := [(2, 26), (0, a1), (0, (v75700 - 1)), (9, 0), (9, 0), (9, 0), (9, 0)]) (Nat.le_of_ble_eq_true rfl) rfl ?_
  refine ev_iconst ?_
  refine ev_aload_n rfl ?_
  refine g_getv (r := 26) (v := w1) g ad26 (by decide) ft9_1 (ew1) ?_
  refine g_ishlB (a' := 1) (a := 1) (b := 4) (hi := 16) (by omega) (by omega) (by omega) (by omega) (by decide) (by decide) (fun v75701 ev75701 lv75701 uv75701 => ?_)
  refine ev_iconst ?_
  refine ev_isub (r := (v75701 - 1)) (by unfold w32; omega) ?_
  refine ev_istore_n (L' := [(2, 26), (0, a1), (0, (v75700 - 1)), (0, (v75701 - 1)), (9, 0), (9, 0), (9, 0)]) (Nat.le_of_ble_eq_true rfl) rfl ?_
  refine ev_iconst ?_
  refine ev_istore (L' := [(2, 26), (0, a1), (0, (v75700 - 1)), (0, (v75701 - 1)), (0, 0), (9, 0), (9, 0)]) (Nat.le_of_ble_eq_true rfl) rfl ?_
  exact (t116_l la1 ua1 ew0 lw0 uw0 ew1 lw1 uw1 18) _ _ _ _ _ _ g k0 (by omega) (by omega) (by omega) (by omega) (by omega) (by omega) (by omega) (by omega) (by omega) (by omega) (by omega) (by omega) (Rn.start (by decide) (by rw [ev75700]) (by rw [ev75701])) (by omega)
set_option maxHeartbeats 4000000 in
theorem t199 {G : GH} {h : JH} (g : Gd G h) {a1 : Int} (la1 : (-2147483648) ≤ a1) (ua1 : a1 ≤ 2147483647) {w0 : Int} (ew0 : h.2.2 26 0 = w0) (lw0 : 0 ≤ w0) (uw0 : w0 ≤ 4) {w1 : Int} (ew1 : h.2.2 26 1 = w1) (lw1 : 0 ≤ w1) (uw1 : w1 ≤ 4) : jOk 5 0 0 199 [(2, 0), (0, a1)] h (fun v h' => ∃ r : Int, v = some (0, r) ∧ Gd G h' ∧ Kp [] h h' ∧ (-1) ≤ r ∧ r ≤ 15 ∧ SkS (gC h) w0 w1 a1 r) := by
  refine ⟨by decide, by rw [ml199]; exact Nat.le_of_ble_eq_true rfl, ?_⟩
  rw [ml199, pp199]
  show jEv _ none _ c199_0 0 0 _ (c199_0, [(2, 0), (0, a1)], [], h, 0, 0)
  have k0 := Kp.rf [] h
  refine ev_iload_n rfl ?_
  refine ev_in (d := 3) (a := 0) (b := 0) (cd' := c221_0) (m := 1) (L0 := [(0, a1)]) (jcall_s (A := [(0, a1)]) (S' := []) (by decide) rfl (Nat.le_of_ble_eq_true rfl)) (by decide) ml221 pp221 (Nat.le_of_ble_eq_true rfl) rfl (by decide) (by decide) ?_
  refine ev_iload_n rfl ?_
  refine ev_ifeq f221_9 (fun c75732 => ?_) (fun c75732 => ?_)
  · refine ev_iconst ?_
    refine ev_goto f221_14 ?_
    refine ev_ret rfl (by decide) (by decide) ?_
    show jEv _ _ _ _ _ _ _ (_, [(2, 0), (0, a1)], [(0, 1)], _, _, _)
    refine ev_ifeq f199_17 (fun c75733 => absurd c75733 (by omega)) (fun c75733 => ?_)
    refine ev_aload_n rfl ?_
    refine g_getp (r := 0) (c := 26) g ad0 (by decide) (by decide) rf0_11 ft11_11 ?_
    refine ev_in (d := 3) (a := 0) (b := 0) (cd' := c104_0) (m := 1) (L0 := [(2, 26)]) (jcall_v (A := []) (S' := []) (r := 26) rfl (g.lt ad26) (g.tg ad26) (Nat.le_of_ble_eq_true rfl)) (by decide) ml104 pp104 (Nat.le_of_ble_eq_true rfl) rfl (by decide) (by decide) ?_
    refine ev_aload_n rfl ?_
    refine g_getv (r := 26) (v := w0) g ad26 (by decide) ft9_0 (ew0) ?_
    refine ev_ifle f104_11 (fun c75734 => ?_) (fun c75734 => ?_)
    · refine ev_iconst ?_
      refine ev_ret rfl (by decide) (by decide) ?_
      show jEv _ _ _ _ _ _ _ (_, [(2, 0), (0, a1)], [(0, 0)], _, _, _)
      refine ev_ifne f199_21 (fun c75735 => absurd c75735 (by omega)) (fun c75735 => ?_)
      refine ev_iconst ?_
      refine ev_goto f199_29 ?_
      exact ev_ret rfl (by decide) (by decide) ⟨_, rfl, g, k0, by omega, by omega, Or.inl ⟨by omega, rfl⟩⟩
    · refine ev_iconst ?_
      refine ev_goto f104_12 ?_
      refine ev_ret rfl (by decide) (by decide) ?_
      show jEv _ _ _ _ _ _ _ (_, [(2, 0), (0, a1)], [(0, 1)], _, _, _)
      refine ev_ifne f199_21 (fun c75736 => ?_) (fun c75736 => absurd c75736 (by omega))
      refine ev_aload_n rfl ?_
      refine g_getp (r := 0) (c := 26) g ad0 (by decide) (by decide) rf0_11 ft11_11 ?_
      refine ev_iload_n rfl ?_
      refine ev_call (jcall_v (A := [(0, a1)]) (S' := []) (r := 26) rfl (g.lt ad26) (g.tg ad26) (Nat.le_of_ble_eq_true rfl)) (jOk_le (by decide) (t116 g (by omega) (by omega) (ew0) (by omega) (by omega) (ew1) (by omega) (by omega))) (by decide) (by decide) (fun w75737 h75737 q75737 => ?_)
      obtain ⟨v75738, rfl, g75737, kk75737, lv75738, uv75738, X75737⟩ := q75737
      have k75737 := k0.tr kk75737 (by decide)
      show jEv _ _ _ _ _ _ _ (_, [(2, 0), (0, a1)], [(0, v75738)], _, _, _)
      exact ev_ret rfl (by decide) (by decide) ⟨_, rfl, g75737, k75737, by omega, by omega, Or.inr ⟨by omega, X75737⟩⟩
  · refine ev_iload_n rfl ?_
    refine ev_iconst ?_
    refine ev_icmpne f221_13 (fun c75739 => ?_) (fun c75739 => ?_)
    · refine ev_iconst ?_
      refine ev_ret rfl (by decide) (by decide) ?_
      show jEv _ _ _ _ _ _ _ (_, [(2, 0), (0, a1)], [(0, 0)], _, _, _)
      refine ev_ifeq f199_17 (fun c75740 => ?_) (fun c75740 => absurd c75740 (by omega))
      refine ev_iconst ?_
      refine ev_goto f199_29 ?_
      exact ev_ret rfl (by decide) (by decide) ⟨_, rfl, g, k0, by omega, by omega, Or.inl ⟨by omega, rfl⟩⟩
    · refine ev_iconst ?_
      refine ev_goto f221_14 ?_
      refine ev_ret rfl (by decide) (by decide) ?_
      show jEv _ _ _ _ _ _ _ (_, [(2, 0), (0, a1)], [(0, 1)], _, _, _)
      refine ev_ifeq f199_17 (fun c75741 => absurd c75741 (by omega)) (fun c75741 => ?_)
      refine ev_aload_n rfl ?_
      refine g_getp (r := 0) (c := 26) g ad0 (by decide) (by decide) rf0_11 ft11_11 ?_
      refine ev_in (d := 3) (a := 0) (b := 0) (cd' := c104_0) (m := 1) (L0 := [(2, 26)]) (jcall_v (A := []) (S' := []) (r := 26) rfl (g.lt ad26) (g.tg ad26) (Nat.le_of_ble_eq_true rfl)) (by decide) ml104 pp104 (Nat.le_of_ble_eq_true rfl) rfl (by decide) (by decide) ?_
      refine ev_aload_n rfl ?_
      refine g_getv (r := 26) (v := w0) g ad26 (by decide) ft9_0 (ew0) ?_
      refine ev_ifle f104_11 (fun c75742 => ?_) (fun c75742 => ?_)
      · refine ev_iconst ?_
        refine ev_ret rfl (by decide) (by decide) ?_
        show jEv _ _ _ _ _ _ _ (_, [(2, 0), (0, a1)], [(0, 0)], _, _, _)
        refine ev_ifne f199_21 (fun c75743 => absurd c75743 (by omega)) (fun c75743 => ?_)
        refine ev_iconst ?_
        refine ev_goto f199_29 ?_
        exact ev_ret rfl (by decide) (by decide) ⟨_, rfl, g, k0, by omega, by omega, Or.inl ⟨by omega, rfl⟩⟩
      · refine ev_iconst ?_
        refine ev_goto f104_12 ?_
        refine ev_ret rfl (by decide) (by decide) ?_
        show jEv _ _ _ _ _ _ _ (_, [(2, 0), (0, a1)], [(0, 1)], _, _, _)
        refine ev_ifne f199_21 (fun c75744 => ?_) (fun c75744 => absurd c75744 (by omega))
        refine ev_aload_n rfl ?_
        refine g_getp (r := 0) (c := 26) g ad0 (by decide) (by decide) rf0_11 ft11_11 ?_
        refine ev_iload_n rfl ?_
        refine ev_call (jcall_v (A := [(0, a1)]) (S' := []) (r := 26) rfl (g.lt ad26) (g.tg ad26) (Nat.le_of_ble_eq_true rfl)) (jOk_le (by decide) (t116 g (by omega) (by omega) (ew0) (by omega) (by omega) (ew1) (by omega) (by omega))) (by decide) (by decide) (fun w75745 h75745 q75745 => ?_)
        obtain ⟨v75746, rfl, g75745, kk75745, lv75746, uv75746, X75745⟩ := q75745
        have k75745 := k0.tr kk75745 (by decide)
        show jEv _ _ _ _ _ _ _ (_, [(2, 0), (0, a1)], [(0, v75746)], _, _, _)
        exact ev_ret rfl (by decide) (by decide) ⟨_, rfl, g75745, k75745, by omega, by omega, Or.inr ⟨by omega, X75745⟩⟩
set_option maxHeartbeats 4000000 in
theorem t337r_l {G : GH} {h : JH} {a2 : Int} (la2 : 0 ≤ a2) (ua2 : a2 ≤ 3) {a3 : Int} (la3 : 0 ≤ a3) (ua3 : a3 ≤ 15) {a4 : Int} (la4 : 0 ≤ a4) (ua4 : a4 ≤ 15) {w0 : Int} (ew0 : h.2.2 42 44 = w0) (lw0 : 0 ≤ w0) (uw0 : w0 ≤ 4) {w1 : Int} (ew1 : h.2.2 42 45 = w1) (lw1 : 0 ≤ w1) (uw1 : w1 ≤ 4) : ∀ N : Nat, (∀ (h1 : JH) (x6 : Int) (j7 j8 : AV), Gd G h1 → Kp [] h h1 → 0 ≤ a2 → a2 ≤ 3 → 0 ≤ a3 → a3 ≤ 15 → 0 ≤ a4 → a4 ≤ 15 → 0 ≤ x6 → x6 ≤ 4 → ((-w0) + x6) ≤ 0 → No (gR h) 0 a2 a3 a4 x6 → ((-10) * x6 + 45) < N → jEv (jOk 0) none (fun _ => 0) c337_0 0 0 (fun v h' => ∃ r : Int, v = some (0, r) ∧ Gd G h' ∧ Kp [] h h' ∧ 0 ≤ r ∧ r ≤ 1 ∧ (r = 1 ↔ Eo (gR h) 0 a2 a3 a4 w0)) (c337_20, [(2, 42), (0, 1), (0, a2), (0, a3), (0, a4), (0, w0), (0, x6), j7, j8], [], h1, 0, 0)) ∧ (∀ (h1 : JH) (x6 x7 x8 : Int), Gd G h1 → Kp [] h h1 → 0 ≤ a2 → a2 ≤ 3 → 0 ≤ a3 → a3 ≤ 15 → 0 ≤ a4 → a4 ≤ 15 → 0 ≤ x6 → x6 ≤ 3 → 0 ≤ x7 → x7 ≤ 1 → 0 ≤ x8 → x8 ≤ 4 → ((-w0) + x6) ≤ (-1) → No (gR h) 0 a2 a3 a4 x6 → bt a3 x6 = 1 → ((x7 = 1 ∧ Bt (gR h) 0 x6 a2 a4 x8) ∨ (x7 = 0 ∧ ¬ Bt (gR h) 0 x6 a2 a4 4)) → x6 ≠ a2 → ((-10) * x6 + (-x8) + 44) < N → jEv (jOk 0) none (fun _ => 0) c337_0 0 0 (fun v h' => ∃ r : Int, v = some (0, r) ∧ Gd G h' ∧ Kp [] h h' ∧ 0 ≤ r ∧ r ≤ 1 ∧ (r = 1 ↔ Eo (gR h) 0 a2 a3 a4 w0)) (c337_60, [(2, 42), (0, 1), (0, a2), (0, a3), (0, a4), (0, w0), (0, x6), (0, x7), (0, x8)], [], h1, 0, 0)) := by
  intro N
  induction N with
  | zero => exact ⟨fun h1 x6 j7 j8 g1 k1 b0 b1 b2 b3 b4 b5 b6 b7 b8 b9 hm => absurd hm (by omega), fun h1 x6 x7 x8 g1 k1 b0 b1 b2 b3 b4 b5 b6 b7 b8 b9 b10 b11 b12 b13 b14 b15 b16 hm => absurd hm (by omega)⟩
  | succ N ih =>
    refine ⟨?_, ?_⟩
    · intro h1 x6 j7 j8 g1 k1 b0 b1 b2 b3 b4 b5 b6 b7 b8 H0 hm
      refine ev_iload rfl ?_
      refine ev_iload rfl ?_
      refine ev_icmpge f337_188 (fun c75850 => ?_) (fun c75850 => ?_)
      · refine ev_iconst ?_
        exact ev_ret rfl (by decide) (by decide) ⟨_, rfl, g1, k1, by omega, by omega, ⟨fun z => absurd z (by decide), fun z => by obtain ⟨o, b1, b2, b3, b4, b5⟩ := z; exact absurd b5 (H0 o b1 (by omega) b3 b4)⟩⟩
      · refine ev_iload rfl ?_
        refine ev_iload_n rfl ?_
        refine ev_icmpeq f337_182 (fun c75851 => ?_) (fun c75851 => ?_)
        · refine ev_iinc (w := (x6 + 1)) (L' := [(2, 42), (0, 1), (0, a2), (0, a3), (0, a4), (0, w0), (0, (x6 + 1)), j7, j8]) rfl (by unfold w32; omega) rfl ?_
          refine ev_goto f337_20 ?_
          exact ih.1 _ _ _ _ g1 k1 (by omega) (by omega) (by omega) (by omega) (by omega) (by omega) (by omega) (by omega) (by omega) (H0.add (by omega) (fun z => absurd (show x6 = a2 by omega) z)) (by omega)
        · refine ev_iload_n rfl ?_
          refine ev_ifeq f337_41 (fun c75852 => absurd c75852 (by omega)) (fun c75852 => ?_)
          refine ev_iload_n rfl ?_
          refine ev_goto f337_43 ?_
          refine ev_iload rfl ?_
          refine g_ishrB (a := 15) (by omega) (by omega) (by decide) (fun v75853 ev75853 lv75853 uv75853 => ?_)
          refine ev_iconst ?_
          refine g_iandB (b := 1) (by omega) (by omega) (by decide) (fun v75854 ev75854 lv75854 uv75854 => ?_)
          refine ev_ifne f337_54 (fun c75855 => ?_) (fun c75855 => ?_)
          · refine ev_iconst ?_
            refine ev_istore (L' := [(2, 42), (0, 1), (0, a2), (0, a3), (0, a4), (0, w0), (0, x6), (0, 1), j8]) (Nat.le_of_ble_eq_true rfl) rfl ?_
            refine ev_iconst ?_
            refine ev_istore (L' := [(2, 42), (0, 1), (0, a2), (0, a3), (0, a4), (0, w0), (0, x6), (0, 1), (0, 0)]) (Nat.le_of_ble_eq_true rfl) rfl ?_
            exact ih.2 _ _ _ _ g1 k1 (by omega) (by omega) (by omega) (by omega) (by omega) (by omega) (by omega) (by omega) (by omega) (by omega) (by omega) (by omega) (by omega) H0 ((bt_of ev75853 ev75854).trans (by omega)) (Or.inl ⟨rfl, Bt.start _ _ _ _ _⟩) (by omega) (by omega)
          · refine ev_goto f337_182 ?_
            refine ev_iinc (w := (x6 + 1)) (L' := [(2, 42), (0, 1), (0, a2), (0, a3), (0, a4), (0, w0), (0, (x6 + 1)), j7, j8]) rfl (by unfold w32; omega) rfl ?_
            refine ev_goto f337_20 ?_
            exact ih.1 _ _ _ _ g1 k1 (by omega) (by omega) (by omega) (by omega) (by omega) (by omega) (by omega) (by omega) (by omega) (H0.add (by omega) (fun _ z => absurd ((bt_of ev75853 ev75854).symm.trans z) (by omega))) (by omega)
    · intro h1 x6 x7 x8 g1 k1 b0 b1 b2 b3 b4 b5 b6 b7 b8 b9 b10 b11 b12 H0 H1 H2 H3 hm
      refine ev_iload rfl ?_
      refine ev_iconst ?_
      refine ev_icmpge f337_175 (fun c75856 => ?_) (fun c75856 => ?_)
      · refine ev_iload rfl ?_
        refine ev_ifeq f337_182 (fun c75857 => ?_) (fun c75857 => ?_)
        · refine ev_iinc (w := (x6 + 1)) (L' := [(2, 42), (0, 1), (0, a2), (0, a3), (0, a4), (0, w0), (0, (x6 + 1)), (0, x7), (0, x8)]) rfl (by unfold w32; omega) rfl ?_
          refine ev_goto f337_20 ?_
          exact ih.1 _ _ _ _ g1 k1 (by omega) (by omega) (by omega) (by omega) (by omega) (by omega) (by omega) (by omega) (by omega) (H0.add (by omega) (fun _ _ => (H2.resolve_left (fun z => absurd z.1 (by omega))).2)) (by omega)
        · refine ev_iconst ?_
          exact ev_ret rfl (by decide) (by decide) ⟨_, rfl, g1, k1, by omega, by omega, ⟨fun _ => ⟨x6, by omega, by omega, by omega, H1, (H2.resolve_right (fun z => absurd z.1 (by omega))).2.to (by omega)⟩, fun _ => rfl⟩⟩
      · refine ev_iload rfl ?_
        refine ev_ifeq f337_175 (fun c75858 => ?_) (fun c75858 => ?_)
        · refine ev_iload rfl ?_
          refine ev_ifeq f337_182 (fun c75859 => ?_) (fun c75859 => absurd c75859 (by omega))
          refine ev_iinc (w := (x6 + 1)) (L' := [(2, 42), (0, 1), (0, a2), (0, a3), (0, a4), (0, w0), (0, (x6 + 1)), (0, x7), (0, x8)]) rfl (by unfold w32; omega) rfl ?_
          refine ev_goto f337_20 ?_
          exact ih.1 _ _ _ _ g1 k1 (by omega) (by omega) (by omega) (by omega) (by omega) (by omega) (by omega) (by omega) (by omega) (H0.add (by omega) (fun _ _ => (H2.resolve_left (fun z => absurd z.1 (by omega))).2)) (by omega)
        · refine ev_iload_n rfl ?_
          refine ev_ifeq f337_80 (fun c75860 => absurd c75860 (by omega)) (fun c75860 => ?_)
          refine ev_iload rfl ?_
          refine ev_goto f337_81 ?_
          refine ev_iload rfl ?_
          refine g_ishrB (a := 15) (by omega) (by omega) (by decide) (fun v75861 ev75861 lv75861 uv75861 => ?_)
          refine ev_iconst ?_
          refine g_iandB (b := 1) (by omega) (by omega) (by decide) (fun v75862 ev75862 lv75862 uv75862 => ?_)
          refine ev_ifne f337_92 (fun c75863 => ?_) (fun c75863 => ?_)
          · refine ev_iload_n rfl ?_
            refine ev_ifeq f337_130 (fun c75864 => absurd c75864 (by omega)) (fun c75864 => ?_)
            refine ev_aload_n rfl ?_
            refine g_getp (r := 42) (c := 67) g1 ad42 (by decide) (by decide) rf42_46 ft12_46 ?_
            refine ev_iconst ?_
            refine ev_iload rfl ?_
            refine ev_imul (r := (4 * x6)) (by unfold w32; omega) ?_
            refine ev_iload rfl ?_
            refine ev_iadd (r := (4 * x6 + x8)) (by unfold w32; omega) ?_
            refine g_iald g1 ad67 rt67 (by omega) (by omega) (fun v75865 ev75865 lv75865 uv75865 => ?_)
            refine ev_aload_n rfl ?_
            refine g_getp (r := 42) (c := 67) g1 ad42 (by decide) (by decide) rf42_46 ft12_46 ?_
            refine ev_iconst ?_
            refine ev_iload_n rfl ?_
            refine ev_imul (r := (4 * a2)) (by unfold w32; omega) ?_
            refine ev_iload rfl ?_
            refine ev_iadd (r := (4 * a2 + x8)) (by unfold w32; omega) ?_
            refine g_iald g1 ad67 rt67 (by omega) (by omega) (fun v75866 ev75866 lv75866 uv75866 => ?_)
            refine ev_icmple f337_126 (fun c75867 => ?_) (fun c75867 => ?_)
            · refine ev_iconst ?_
              refine ev_goto f337_167 ?_
              refine ev_istore (L' := [(2, 42), (0, 1), (0, a2), (0, a3), (0, a4), (0, w0), (0, x6), (0, 0), (0, x8)]) (Nat.le_of_ble_eq_true rfl) rfl ?_
              refine ev_iinc (w := (x8 + 1)) (L' := [(2, 42), (0, 1), (0, a2), (0, a3), (0, a4), (0, w0), (0, x6), (0, 0), (0, (x8 + 1))]) rfl (by unfold w32; omega) rfl ?_
              refine ev_goto f337_60 ?_
              exact ih.2 _ _ _ _ g1 k1 (by omega) (by omega) (by omega) (by omega) (by omega) (by omega) (by omega) (by omega) (by omega) (by omega) (by omega) (by omega) (by omega) H0 H1 (Or.inr ⟨rfl, fun z => absurd (z x8 (by omega) (by omega) ((bt_of ev75861 ev75862).trans (by omega))) (by show ¬ fv _ _ _ _ < fv _ _ _ _; unfold fv; rw [if_pos rfl, if_pos rfl, gR_at (s := 0) (r := a2) (c := x8) k1 (fun _ => rfl) (i := (4 * a2 + x8)) (ev75866) (by omega) (by omega), gR_at (s := 0) (r := x6) (c := x8) k1 (fun _ => rfl) (i := (4 * x6 + x8)) (ev75865) (by omega) (by omega)]; omega)⟩) H3 (by omega)
            · refine ev_iconst ?_
              refine ev_goto f337_167 ?_
              refine ev_istore (L' := [(2, 42), (0, 1), (0, a2), (0, a3), (0, a4), (0, w0), (0, x6), (0, 1), (0, x8)]) (Nat.le_of_ble_eq_true rfl) rfl ?_
              refine ev_iinc (w := (x8 + 1)) (L' := [(2, 42), (0, 1), (0, a2), (0, a3), (0, a4), (0, w0), (0, x6), (0, 1), (0, (x8 + 1))]) rfl (by unfold w32; omega) rfl ?_
              refine ev_goto f337_60 ?_
              exact ih.2 _ _ _ _ g1 k1 (by omega) (by omega) (by omega) (by omega) (by omega) (by omega) (by omega) (by omega) (by omega) (by omega) (by omega) (by omega) (by omega) H0 H1 (Or.inl ⟨rfl, (H2.resolve_right (fun z => absurd z.1 (by omega))).2.add (by omega) (fun _ => (by show fv _ _ _ _ < fv _ _ _ _; unfold fv; rw [if_pos rfl, if_pos rfl, gR_at (s := 0) (r := a2) (c := x8) k1 (fun _ => rfl) (i := (4 * a2 + x8)) (ev75866) (by omega) (by omega), gR_at (s := 0) (r := x6) (c := x8) k1 (fun _ => rfl) (i := (4 * x6 + x8)) (ev75865) (by omega) (by omega)]; omega))⟩) H3 (by omega)
          · refine ev_goto f337_169 ?_
            refine ev_iinc (w := (x8 + 1)) (L' := [(2, 42), (0, 1), (0, a2), (0, a3), (0, a4), (0, w0), (0, x6), (0, x7), (0, (x8 + 1))]) rfl (by unfold w32; omega) rfl ?_
            refine ev_goto f337_60 ?_
            exact ih.2 _ _ _ _ g1 k1 (by omega) (by omega) (by omega) (by omega) (by omega) (by omega) (by omega) (by omega) (by omega) (by omega) (by omega) (by omega) (by omega) H0 H1 (Or.inl ⟨by omega, (H2.resolve_right (fun z => absurd z.1 (by omega))).2.add (by omega) (fun z => absurd ((bt_of ev75861 ev75862).symm.trans z) (by omega))⟩) H3 (by omega)
set_option maxHeartbeats 4000000 in
theorem t337r {G : GH} {h : JH} (g : Gd G h) {a2 : Int} (la2 : 0 ≤ a2) (ua2 : a2 ≤ 3) {a3 : Int} (la3 : 0 ≤ a3) (ua3 : a3 ≤ 15) {a4 : Int} (la4 : 0 ≤ a4) (ua4 : a4 ≤ 15) {w0 : Int} (ew0 : h.2.2 42 44 = w0) (lw0 : 0 ≤ w0) (uw0 : w0 ≤ 4) {w1 : Int} (ew1 : h.2.2 42 45 = w1) (lw1 : 0 ≤ w1) (uw1 : w1 ≤ 4) : jOk 1 0 0 337 [(2, 42), (0, 1), (0, a2), (0, a3), (0, a4)] h (fun v h' => ∃ r : Int, v = some (0, r) ∧ Gd G h' ∧ Kp [] h h' ∧ 0 ≤ r ∧ r ≤ 1 ∧ (r = 1 ↔ Eo (gR h) 0 a2 a3 a4 w0)) := by
  refine ⟨by decide, by rw [ml337]; exact Nat.le_of_ble_eq_true rfl, ?_⟩
  rw [ml337, pp337]
  show jEv _ none _ c337_0 0 0 _ (c337_0, [(2, 42), (0, 1), (0, a2), (0, a3), (0, a4), (9, 0), (9, 0), (9, 0), (9, 0)], [], h, 0, 0)
  have k0 := Kp.rf [] h
  refine ev_iload_n rfl ?_
  refine ev_ifeq f337_11 (fun c75868 => absurd c75868 (by omega)) (fun c75868 => ?_)
  refine ev_aload_n rfl ?_
  refine g_getv (r := 42) (v := w0) g ad42 (by decide) ft12_44 (ew0) ?_
  refine ev_goto f337_15 ?_
  refine ev_istore (L' := [(2, 42), (0, 1), (0, a2), (0, a3), (0, a4), (0, w0), (9, 0), (9, 0), (9, 0)]) (Nat.le_of_ble_eq_true rfl) rfl ?_
  refine ev_iconst ?_
  refine ev_istore (L' := [(2, 42), (0, 1), (0, a2), (0, a3), (0, a4), (0, w0), (0, 0), (9, 0), (9, 0)]) (Nat.le_of_ble_eq_true rfl) rfl ?_
  exact (t337r_l la2 ua2 la3 ua3 la4 ua4 ew0 lw0 uw0 ew1 lw1 uw1 100).1 _ _ _ _ g k0 (by omega) (by omega) (by omega) (by omega) (by omega) (by omega) (by omega) (by omega) (by omega) (No.start _ _ _ _ _) (by omega)
set_option maxHeartbeats 4000000 in
theorem t337c_l {G : GH} {h : JH} {a2 : Int} (la2 : 0 ≤ a2) (ua2 : a2 ≤ 3) {a3 : Int} (la3 : 0 ≤ a3) (ua3 : a3 ≤ 15) {a4 : Int} (la4 : 0 ≤ a4) (ua4 : a4 ≤ 15) {w0 : Int} (ew0 : h.2.2 42 44 = w0) (lw0 : 0 ≤ w0) (uw0 : w0 ≤ 4) {w1 : Int} (ew1 : h.2.2 42 45 = w1) (lw1 : 0 ≤ w1) (uw1 : w1 ≤ 4) : ∀ N : Nat, (∀ (h1 : JH) (x6 : Int) (j7 j8 : AV), Gd G h1 → Kp [] h h1 → 0 ≤ a2 → a2 ≤ 3 → 0 ≤ a3 → a3 ≤ 15 → 0 ≤ a4 → a4 ≤ 15 → 0 ≤ x6 → x6 ≤ 4 → ((-w1) + x6) ≤ 0 → No (gR h) 1 a2 a4 a3 x6 → ((-10) * x6 + 45) < N → jEv (jOk 0) none (fun _ => 0) c337_0 0 0 (fun v h' => ∃ r : Int, v = some (0, r) ∧ Gd G h' ∧ Kp [] h h' ∧ 0 ≤ r ∧ r ≤ 1 ∧ (r = 1 ↔ Eo (gR h) 1 a2 a4 a3 w1)) (c337_20, [(2, 42), (0, 0), (0, a2), (0, a3), (0, a4), (0, w1), (0, x6), j7, j8], [], h1, 0, 0)) ∧ (∀ (h1 : JH) (x6 x7 x8 : Int), Gd G h1 → Kp [] h h1 → 0 ≤ a2 → a2 ≤ 3 → 0 ≤ a3 → a3 ≤ 15 → 0 ≤ a4 → a4 ≤ 15 → 0 ≤ x6 → x6 ≤ 3 → 0 ≤ x7 → x7 ≤ 1 → 0 ≤ x8 → x8 ≤ 4 → ((-w1) + x6) ≤ (-1) → No (gR h) 1 a2 a4 a3 x6 → bt a4 x6 = 1 → ((x7 = 1 ∧ Bt (gR h) 1 x6 a2 a3 x8) ∨ (x7 = 0 ∧ ¬ Bt (gR h) 1 x6 a2 a3 4)) → x6 ≠ a2 → ((-10) * x6 + (-x8) + 44) < N → jEv (jOk 0) none (fun _ => 0) c337_0 0 0 (fun v h' => ∃ r : Int, v = some (0, r) ∧ Gd G h' ∧ Kp [] h h' ∧ 0 ≤ r ∧ r ≤ 1 ∧ (r = 1 ↔ Eo (gR h) 1 a2 a4 a3 w1)) (c337_60, [(2, 42), (0, 0), (0, a2), (0, a3), (0, a4), (0, w1), (0, x6), (0, x7), (0, x8)], [], h1, 0, 0)) := by
  intro N
  induction N with
  | zero => exact ⟨fun h1 x6 j7 j8 g1 k1 b0 b1 b2 b3 b4 b5 b6 b7 b8 b9 hm => absurd hm (by omega), fun h1 x6 x7 x8 g1 k1 b0 b1 b2 b3 b4 b5 b6 b7 b8 b9 b10 b11 b12 b13 b14 b15 b16 hm => absurd hm (by omega)⟩
  | succ N ih =>
    refine ⟨?_, ?_⟩
    · intro h1 x6 j7 j8 g1 k1 b0 b1 b2 b3 b4 b5 b6 b7 b8 H0 hm
      refine ev_iload rfl ?_
      refine ev_iload rfl ?_
      refine ev_icmpge f337_188 (fun c75972 => ?_) (fun c75972 => ?_)
      · refine ev_iconst ?_
        exact ev_ret rfl (by decide) (by decide) ⟨_, rfl, g1, k1, by omega, by omega, ⟨fun z => absurd z (by decide), fun z => by obtain ⟨o, b1, b2, b3, b4, b5⟩ := z; exact absurd b5 (H0 o b1 (by omega) b3 b4)⟩⟩
      · refine ev_iload rfl ?_
        refine ev_iload_n rfl ?_
        refine ev_icmpeq f337_182 (fun c75973 => ?_) (fun c75973 => ?_)
        · refine ev_iinc (w := (x6 + 1)) (L' := [(2, 42), (0, 0), (0, a2), (0, a3), (0, a4), (0, w1), (0, (x6 + 1)), j7, j8]) rfl (by unfold w32; omega) rfl ?_
          refine ev_goto f337_20 ?_
          exact ih.1 _ _ _ _ g1 k1 (by omega) (by omega) (by omega) (by omega) (by omega) (by omega) (by omega) (by omega) (by omega) (H0.add (by omega) (fun z => absurd (show x6 = a2 by omega) z)) (by omega)
        · refine ev_iload_n rfl ?_
          refine ev_ifeq f337_41 (fun c75974 => ?_) (fun c75974 => absurd c75974 (by omega))
          refine ev_iload rfl ?_
          refine ev_iload rfl ?_
          refine g_ishrB (a := 15) (by omega) (by omega) (by decide) (fun v75975 ev75975 lv75975 uv75975 => ?_)
          refine ev_iconst ?_
          refine g_iandB (b := 1) (by omega) (by omega) (by decide) (fun v75976 ev75976 lv75976 uv75976 => ?_)
          refine ev_ifne f337_54 (fun c75977 => ?_) (fun c75977 => ?_)
          · refine ev_iconst ?_
            refine ev_istore (L' := [(2, 42), (0, 0), (0, a2), (0, a3), (0, a4), (0, w1), (0, x6), (0, 1), j8]) (Nat.le_of_ble_eq_true rfl) rfl ?_
            refine ev_iconst ?_
            refine ev_istore (L' := [(2, 42), (0, 0), (0, a2), (0, a3), (0, a4), (0, w1), (0, x6), (0, 1), (0, 0)]) (Nat.le_of_ble_eq_true rfl) rfl ?_
            exact ih.2 _ _ _ _ g1 k1 (by omega) (by omega) (by omega) (by omega) (by omega) (by omega) (by omega) (by omega) (by omega) (by omega) (by omega) (by omega) (by omega) H0 ((bt_of ev75975 ev75976).trans (by omega)) (Or.inl ⟨rfl, Bt.start _ _ _ _ _⟩) (by omega) (by omega)
          · refine ev_goto f337_182 ?_
            refine ev_iinc (w := (x6 + 1)) (L' := [(2, 42), (0, 0), (0, a2), (0, a3), (0, a4), (0, w1), (0, (x6 + 1)), j7, j8]) rfl (by unfold w32; omega) rfl ?_
            refine ev_goto f337_20 ?_
            exact ih.1 _ _ _ _ g1 k1 (by omega) (by omega) (by omega) (by omega) (by omega) (by omega) (by omega) (by omega) (by omega) (H0.add (by omega) (fun _ z => absurd ((bt_of ev75975 ev75976).symm.trans z) (by omega))) (by omega)
    · intro h1 x6 x7 x8 g1 k1 b0 b1 b2 b3 b4 b5 b6 b7 b8 b9 b10 b11 b12 H0 H1 H2 H3 hm
      refine ev_iload rfl ?_
      refine ev_iconst ?_
      refine ev_icmpge f337_175 (fun c75978 => ?_) (fun c75978 => ?_)
      · refine ev_iload rfl ?_
        refine ev_ifeq f337_182 (fun c75979 => ?_) (fun c75979 => ?_)
        · refine ev_iinc (w := (x6 + 1)) (L' := [(2, 42), (0, 0), (0, a2), (0, a3), (0, a4), (0, w1), (0, (x6 + 1)), (0, x7), (0, x8)]) rfl (by unfold w32; omega) rfl ?_
          refine ev_goto f337_20 ?_
          exact ih.1 _ _ _ _ g1 k1 (by omega) (by omega) (by omega) (by omega) (by omega) (by omega) (by omega) (by omega) (by omega) (H0.add (by omega) (fun _ _ => (H2.resolve_left (fun z => absurd z.1 (by omega))).2)) (by omega)
        · refine ev_iconst ?_
          exact ev_ret rfl (by decide) (by decide) ⟨_, rfl, g1, k1, by omega, by omega, ⟨fun _ => ⟨x6, by omega, by omega, by omega, H1, (H2.resolve_right (fun z => absurd z.1 (by omega))).2.to (by omega)⟩, fun _ => rfl⟩⟩
      · refine ev_iload rfl ?_
        refine ev_ifeq f337_175 (fun c75980 => ?_) (fun c75980 => ?_)
        · refine ev_iload rfl ?_
          refine ev_ifeq f337_182 (fun c75981 => ?_) (fun c75981 => absurd c75981 (by omega))
          refine ev_iinc (w := (x6 + 1)) (L' := [(2, 42), (0, 0), (0, a2), (0, a3), (0, a4), (0, w1), (0, (x6 + 1)), (0, x7), (0, x8)]) rfl (by unfold w32; omega) rfl ?_
          refine ev_goto f337_20 ?_
          exact ih.1 _ _ _ _ g1 k1 (by omega) (by omega) (by omega) (by omega) (by omega) (by omega) (by omega) (by omega) (by omega) (H0.add (by omega) (fun _ _ => (H2.resolve_left (fun z => absurd z.1 (by omega))).2)) (by omega)
        · refine ev_iload_n rfl ?_
          refine ev_ifeq f337_80 (fun c75982 => ?_) (fun c75982 => absurd c75982 (by omega))
          refine ev_iload_n rfl ?_
          refine ev_iload rfl ?_
          refine g_ishrB (a := 15) (by omega) (by omega) (by decide) (fun v75983 ev75983 lv75983 uv75983 => ?_)
          refine ev_iconst ?_
          refine g_iandB (b := 1) (by omega) (by omega) (by decide) (fun v75984 ev75984 lv75984 uv75984 => ?_)
          refine ev_ifne f337_92 (fun c75985 => ?_) (fun c75985 => ?_)
          · refine ev_iload_n rfl ?_
            refine ev_ifeq f337_130 (fun c75986 => ?_) (fun c75986 => absurd c75986 (by omega))
            refine ev_aload_n rfl ?_
            refine g_getp (r := 42) (c := 67) g1 ad42 (by decide) (by decide) rf42_46 ft12_46 ?_
            refine ev_bipush ?_
            refine ev_iconst ?_
            refine ev_iload rfl ?_
            refine ev_imul (r := (4 * x8)) (by unfold w32; omega) ?_
            refine ev_iadd (r := (4 * x8 + 16)) (by unfold w32; omega) ?_
            refine ev_iload rfl ?_
            refine ev_iadd (r := (x6 + 4 * x8 + 16)) (by unfold w32; omega) ?_
            refine g_iald g1 ad67 rt67 (by omega) (by omega) (fun v75987 ev75987 lv75987 uv75987 => ?_)
            refine ev_aload_n rfl ?_
            refine g_getp (r := 42) (c := 67) g1 ad42 (by decide) (by decide) rf42_46 ft12_46 ?_
            refine ev_bipush ?_
            refine ev_iconst ?_
            refine ev_iload rfl ?_
            refine ev_imul (r := (4 * x8)) (by unfold w32; omega) ?_
            refine ev_iadd (r := (4 * x8 + 16)) (by unfold w32; omega) ?_
            refine ev_iload_n rfl ?_
            refine ev_iadd (r := (a2 + 4 * x8 + 16)) (by unfold w32; omega) ?_
            refine g_iald g1 ad67 rt67 (by omega) (by omega) (fun v75988 ev75988 lv75988 uv75988 => ?_)
            refine ev_icmple f337_166 (fun c75989 => ?_) (fun c75989 => ?_)
            · refine ev_iconst ?_
              refine ev_istore (L' := [(2, 42), (0, 0), (0, a2), (0, a3), (0, a4), (0, w1), (0, x6), (0, 0), (0, x8)]) (Nat.le_of_ble_eq_true rfl) rfl ?_
              refine ev_iinc (w := (x8 + 1)) (L' := [(2, 42), (0, 0), (0, a2), (0, a3), (0, a4), (0, w1), (0, x6), (0, 0), (0, (x8 + 1))]) rfl (by unfold w32; omega) rfl ?_
              refine ev_goto f337_60 ?_
              exact ih.2 _ _ _ _ g1 k1 (by omega) (by omega) (by omega) (by omega) (by omega) (by omega) (by omega) (by omega) (by omega) (by omega) (by omega) (by omega) (by omega) H0 H1 (Or.inr ⟨rfl, fun z => absurd (z x8 (by omega) (by omega) ((bt_of ev75983 ev75984).trans (by omega))) (by show ¬ fv _ _ _ _ < fv _ _ _ _; unfold fv; rw [if_neg (show ¬ (1 : Int) = 0 by decide), if_neg (show ¬ (1 : Int) = 0 by decide), gR_at (s := 1) (r := x8) (c := a2) k1 (fun _ => rfl) (i := (a2 + 4 * x8 + 16)) (ev75988) (by omega) (by omega), gR_at (s := 1) (r := x8) (c := x6) k1 (fun _ => rfl) (i := (x6 + 4 * x8 + 16)) (ev75987) (by omega) (by omega)]; omega)⟩) H3 (by omega)
            · refine ev_iconst ?_
              refine ev_goto f337_167 ?_
              refine ev_istore (L' := [(2, 42), (0, 0), (0, a2), (0, a3), (0, a4), (0, w1), (0, x6), (0, 1), (0, x8)]) (Nat.le_of_ble_eq_true rfl) rfl ?_
              refine ev_iinc (w := (x8 + 1)) (L' := [(2, 42), (0, 0), (0, a2), (0, a3), (0, a4), (0, w1), (0, x6), (0, 1), (0, (x8 + 1))]) rfl (by unfold w32; omega) rfl ?_
              refine ev_goto f337_60 ?_
              exact ih.2 _ _ _ _ g1 k1 (by omega) (by omega) (by omega) (by omega) (by omega) (by omega) (by omega) (by omega) (by omega) (by omega) (by omega) (by omega) (by omega) H0 H1 (Or.inl ⟨rfl, (H2.resolve_right (fun z => absurd z.1 (by omega))).2.add (by omega) (fun _ => (by show fv _ _ _ _ < fv _ _ _ _; unfold fv; rw [if_neg (show ¬ (1 : Int) = 0 by decide), if_neg (show ¬ (1 : Int) = 0 by decide), gR_at (s := 1) (r := x8) (c := a2) k1 (fun _ => rfl) (i := (a2 + 4 * x8 + 16)) (ev75988) (by omega) (by omega), gR_at (s := 1) (r := x8) (c := x6) k1 (fun _ => rfl) (i := (x6 + 4 * x8 + 16)) (ev75987) (by omega) (by omega)]; omega))⟩) H3 (by omega)
          · refine ev_goto f337_169 ?_
            refine ev_iinc (w := (x8 + 1)) (L' := [(2, 42), (0, 0), (0, a2), (0, a3), (0, a4), (0, w1), (0, x6), (0, x7), (0, (x8 + 1))]) rfl (by unfold w32; omega) rfl ?_
            refine ev_goto f337_60 ?_
            exact ih.2 _ _ _ _ g1 k1 (by omega) (by omega) (by omega) (by omega) (by omega) (by omega) (by omega) (by omega) (by omega) (by omega) (by omega) (by omega) (by omega) H0 H1 (Or.inl ⟨by omega, (H2.resolve_right (fun z => absurd z.1 (by omega))).2.add (by omega) (fun z => absurd ((bt_of ev75983 ev75984).symm.trans z) (by omega))⟩) H3 (by omega)
set_option maxHeartbeats 4000000 in
theorem t337c {G : GH} {h : JH} (g : Gd G h) {a2 : Int} (la2 : 0 ≤ a2) (ua2 : a2 ≤ 3) {a3 : Int} (la3 : 0 ≤ a3) (ua3 : a3 ≤ 15) {a4 : Int} (la4 : 0 ≤ a4) (ua4 : a4 ≤ 15) {w0 : Int} (ew0 : h.2.2 42 44 = w0) (lw0 : 0 ≤ w0) (uw0 : w0 ≤ 4) {w1 : Int} (ew1 : h.2.2 42 45 = w1) (lw1 : 0 ≤ w1) (uw1 : w1 ≤ 4) : jOk 1 0 0 337 [(2, 42), (0, 0), (0, a2), (0, a3), (0, a4)] h (fun v h' => ∃ r : Int, v = some (0, r) ∧ Gd G h' ∧ Kp [] h h' ∧ 0 ≤ r ∧ r ≤ 1 ∧ (r = 1 ↔ Eo (gR h) 1 a2 a4 a3 w1)) := by
  refine ⟨by decide, by rw [ml337]; exact Nat.le_of_ble_eq_true rfl, ?_⟩
  rw [ml337, pp337]
  show jEv _ none _ c337_0 0 0 _ (c337_0, [(2, 42), (0, 0), (0, a2), (0, a3), (0, a4), (9, 0), (9, 0), (9, 0), (9, 0)], [], h, 0, 0)
  have k0 := Kp.rf [] h
  refine ev_iload_n rfl ?_
  refine ev_ifeq f337_11 (fun c75990 => ?_) (fun c75990 => absurd c75990 (by omega))
  refine ev_aload_n rfl ?_
  refine g_getv (r := 42) (v := w1) g ad42 (by decide) ft12_45 (ew1) ?_
  refine ev_istore (L' := [(2, 42), (0, 0), (0, a2), (0, a3), (0, a4), (0, w1), (9, 0), (9, 0), (9, 0)]) (Nat.le_of_ble_eq_true rfl) rfl ?_
  refine ev_iconst ?_
  refine ev_istore (L' := [(2, 42), (0, 0), (0, a2), (0, a3), (0, a4), (0, w1), (0, 0), (9, 0), (9, 0)]) (Nat.le_of_ble_eq_true rfl) rfl ?_
  exact (t337c_l la2 ua2 la3 ua3 la4 ua4 ew0 lw0 uw0 ew1 lw1 uw1 100).1 _ _ _ _ g k0 (by omega) (by omega) (by omega) (by omega) (by omega) (by omega) (by omega) (by omega) (by omega) (No.start _ _ _ _ _) (by omega)
set_option maxHeartbeats 4000000 in
theorem t338_l {G : GH} {h : JH} {a1 : Int} (la1 : (-2147483648) ≤ a1) (ua1 : a1 ≤ 2147483647) {w0 : Int} (ew0 : h.2.2 42 44 = w0) (lw0 : 0 ≤ w0) (uw0 : w0 ≤ 4) {w1 : Int} (ew1 : h.2.2 42 45 = w1) (lw1 : 0 ≤ w1) (uw1 : w1 ≤ 4) : ∀ N : Nat, (∀ (h1 : JH) (x2 x3 x4 : Int) (j5 : AV), Gd G h1 → Kp [] h h1 → 0 ≤ a1 → a1 ≤ 1 → 0 ≤ x2 → x2 ≤ 15 → 0 ≤ x3 → x3 ≤ 15 → 0 ≤ x4 → x4 ≤ 1 → a1 ≤ 1 → ((-a1)) ≤ 0 → ((-w0)) ≤ (-1) → Lf (gR h) (jshl 1 w0 - 1) (jshl 1 w1 - 1) x2 x3 → x2 ≤ jshl 1 w0 - 1 ∧ x3 ≤ jshl 1 w1 - 1 → (x4 = 0 → Nr (gR h) 0 x2 x3 4 ∧ Nr (gR h) 1 x3 x2 4) → (15 * x2 + 15 * x3 + 15 * x4 + 10) < N → jEv (jOk 1) none (fun _ => 0) c338_0 0 0 (fun v h' => ∃ r : Int, v = some (0, r) ∧ Gd G h' ∧ Kp [] h h' ∧ (-1) ≤ r ∧ r ≤ 15 ∧ SkS (gR h) w0 w1 a1 r) (c338_39, [(2, 42), (0, a1), (0, x2), (0, x3), (0, x4), j5], [], h1, 0, 0)) ∧ (∀ (h1 : JH) (x2 x3 x4 x5 : Int), Gd G h1 → Kp [] h h1 → 0 ≤ a1 → a1 ≤ 1 → 0 ≤ x2 → x2 ≤ 15 → 0 ≤ x3 → x3 ≤ 15 → 0 ≤ x4 → x4 ≤ 1 → 0 ≤ x5 → x5 ≤ 4 → a1 ≤ 1 → ((-a1)) ≤ 0 → ((-w0)) ≤ (-1) → ((-w0) + x5) ≤ 0 → Lf (gR h) (jshl 1 w0 - 1) (jshl 1 w1 - 1) x2 x3 → x2 ≤ jshl 1 w0 - 1 ∧ x3 ≤ jshl 1 w1 - 1 → (x4 = 0 → Nr (gR h) 0 x2 x3 x5) → (15 * x2 + 15 * x3 + 15 * x4 + (-x5) + 24) < N → jEv (jOk 1) none (fun _ => 0) c338_0 0 0 (fun v h' => ∃ r : Int, v = some (0, r) ∧ Gd G h' ∧ Kp [] h h' ∧ (-1) ≤ r ∧ r ≤ 15 ∧ SkS (gR h) w0 w1 a1 r) (c338_50, [(2, 42), (0, a1), (0, x2), (0, x3), (0, x4), (0, x5)], [], h1, 0, 0)) ∧ (∀ (h1 : JH) (x2 x3 x4 x5 : Int), Gd G h1 → Kp [] h h1 → 0 ≤ a1 → a1 ≤ 1 → 0 ≤ x2 → x2 ≤ 15 → 0 ≤ x3 → x3 ≤ 15 → 0 ≤ x4 → x4 ≤ 1 → 0 ≤ x5 → x5 ≤ 4 → a1 ≤ 1 → ((-a1)) ≤ 0 → ((-w0)) ≤ (-1) → ((-w1) + x5) ≤ 0 → Lf (gR h) (jshl 1 w0 - 1) (jshl 1 w1 - 1) x2 x3 → x2 ≤ jshl 1 w0 - 1 ∧ x3 ≤ jshl 1 w1 - 1 → (x4 = 0 → Nr (gR h) 0 x2 x3 4 ∧ Nr (gR h) 1 x3 x2 x5) → (15 * x2 + 15 * x3 + 15 * x4 + (-x5) + 19) < N → jEv (jOk 1) none (fun _ => 0) c338_0 0 0 (fun v h' => ∃ r : Int, v = some (0, r) ∧ Gd G h' ∧ Kp [] h h' ∧ (-1) ≤ r ∧ r ≤ 15 ∧ SkS (gR h) w0 w1 a1 r) (c338_109, [(2, 42), (0, a1), (0, x2), (0, x3), (0, x4), (0, x5)], [], h1, 0, 0)) := by
  intro N
  induction N with
  | zero => exact ⟨fun h1 x2 x3 x4 j5 g1 k1 b0 b1 b2 b3 b4 b5 b6 b7 b8 b9 b10 b11 b12 b13 hm => absurd hm (by omega), fun h1 x2 x3 x4 x5 g1 k1 b0 b1 b2 b3 b4 b5 b6 b7 b8 b9 b10 b11 b12 b13 b14 b15 b16 hm => absurd hm (by omega), fun h1 x2 x3 x4 x5 g1 k1 b0 b1 b2 b3 b4 b5 b6 b7 b8 b9 b10 b11 b12 b13 b14 b15 b16 hm => absurd hm (by omega)⟩
  | succ N ih =>
    refine ⟨?_, ?_, ?_⟩
    · intro h1 x2 x3 x4 j5 g1 k1 b0 b1 b2 b3 b4 b5 b6 b7 b8 b9 b10 H0 H1 H2 hm
      refine ev_iload rfl ?_
      refine ev_ifeq f338_168 (fun c76138 => ?_) (fun c76138 => ?_)
      · refine ev_iload_n rfl ?_
        refine ev_ifne f338_176 (fun c76139 => ?_) (fun c76139 => ?_)
        · refine ev_iload_n rfl ?_
          exact ev_ret rfl (by decide) (by decide) ⟨_, rfl, g1, k1, by omega, by omega, Or.inr ⟨by omega, x2, x3, H0.fin (by omega) (by omega) (by omega) (by omega) (H2 (by omega)).1 (H2 (by omega)).2, by split <;> omega⟩⟩
        · refine ev_iload_n rfl ?_
          refine ev_goto f338_177 ?_
          exact ev_ret rfl (by decide) (by decide) ⟨_, rfl, g1, k1, by omega, by omega, Or.inr ⟨by omega, x2, x3, H0.fin (by omega) (by omega) (by omega) (by omega) (H2 (by omega)).1 (H2 (by omega)).2, by split <;> omega⟩⟩
      · refine ev_iconst ?_
        refine ev_istore (L' := [(2, 42), (0, a1), (0, x2), (0, x3), (0, 0), j5]) (Nat.le_of_ble_eq_true rfl) rfl ?_
        refine ev_iconst ?_
        refine ev_istore (L' := [(2, 42), (0, a1), (0, x2), (0, x3), (0, 0), (0, 0)]) (Nat.le_of_ble_eq_true rfl) rfl ?_
        exact ih.2.1 _ _ _ _ _ g1 k1 (by omega) (by omega) (by omega) (by omega) (by omega) (by omega) (by omega) (by omega) (by omega) (by omega) (by omega) (by omega) (by omega) (by omega) H0 H1 (fun _ => Nr.start _ _ _ _) (by omega)
    · intro h1 x2 x3 x4 x5 g1 k1 b0 b1 b2 b3 b4 b5 b6 b7 b8 b9 b10 b11 b12 b13 H0 H1 H2 hm
      refine ev_iload rfl ?_
      refine ev_aload_n rfl ?_
      refine g_getv (r := 42) (v := w0) g1 ad42 (by decide) ft12_44 (((k1.v (by decide)).trans ew0)) ?_
      refine ev_icmpge f338_106 (fun c76140 => ?_) (fun c76140 => ?_)
      · refine ev_iconst ?_
        refine ev_istore (L' := [(2, 42), (0, a1), (0, x2), (0, x3), (0, x4), (0, 0)]) (Nat.le_of_ble_eq_true rfl) rfl ?_
        exact ih.2.2 _ _ _ _ _ g1 k1 (by omega) (by omega) (by omega) (by omega) (by omega) (by omega) (by omega) (by omega) (by omega) (by omega) (by omega) (by omega) (by omega) (by omega) H0 H1 (fun z => ⟨(H2 z).all (n := w0) (by omega) (by omega) (by omega) (by omega) (by omega) H1.1, Nr.start _ _ _ _⟩) (by omega)
      · refine ev_iload rfl ?_
        refine ev_ifne f338_106 (fun c76141 => ?_) (fun c76141 => ?_)
        · refine ev_iconst ?_
          refine ev_istore (L' := [(2, 42), (0, a1), (0, x2), (0, x3), (0, x4), (0, 0)]) (Nat.le_of_ble_eq_true rfl) rfl ?_
          exact ih.2.2 _ _ _ _ _ g1 k1 (by omega) (by omega) (by omega) (by omega) (by omega) (by omega) (by omega) (by omega) (by omega) (by omega) (by omega) (by omega) (by omega) (by omega) H0 H1 (fun z => ⟨(H2 z).all (n := w0) (by omega) (by omega) (by omega) (by omega) (by omega) H1.1, Nr.start _ _ _ _⟩) (by omega)
        · refine ev_iload_n rfl ?_
          refine ev_iload rfl ?_
          refine g_ishrB (a := 15) (by omega) (by omega) (by decide) (fun v76142 ev76142 lv76142 uv76142 => ?_)
          refine ev_iconst ?_
          refine g_iandB (b := 1) (by omega) (by omega) (by decide) (fun v76143 ev76143 lv76143 uv76143 => ?_)
          refine ev_ifeq f338_100 (fun c76144 => ?_) (fun c76144 => ?_)
          · refine ev_iinc (w := (x5 + 1)) (L' := [(2, 42), (0, a1), (0, x2), (0, x3), (0, x4), (0, (x5 + 1))]) rfl (by unfold w32; omega) rfl ?_
            refine ev_goto f338_50 ?_
            exact ih.2.1 _ _ _ _ _ g1 k1 (by omega) (by omega) (by omega) (by omega) (by omega) (by omega) (by omega) (by omega) (by omega) (by omega) (by omega) (by omega) (by omega) (by omega) H0 H1 (fun z => (H2 z).add (by omega) (fun z => absurd ((bt_of ev76142 ev76143).symm.trans z.1) (by omega))) (by omega)
          · refine ev_aload_n rfl ?_
            refine ev_iconst ?_
            refine ev_iload rfl ?_
            refine ev_iload_n rfl ?_
            refine ev_iload_n rfl ?_
            refine ev_call (jcall_v (A := [(0, x3), (0, x2), (0, x5), (0, 1)]) (S' := []) (r := 42) rfl (g1.lt ad42) (g1.tg ad42) (Nat.le_of_ble_eq_true rfl)) (jOk_le (by decide) (t337r g1 (by omega) (by omega) (by omega) (by omega) (by omega) (by omega) (((k1.v (by decide)).trans ew0)) (by omega) (by omega) (((k1.v (by decide)).trans ew1)) (by omega) (by omega))) (by decide) (by decide) (fun w76145 h76145 q76145 => ?_)
            obtain ⟨v76146, rfl, g76145, kk76145, lv76146, uv76146, X76145⟩ := q76145
            have k76145 := k1.tr kk76145 (by decide)
            show jEv _ _ _ _ _ _ _ (_, [(2, 42), (0, a1), (0, x2), (0, x3), (0, x4), (0, x5)], [(0, v76146)], _, _, _)
            refine ev_ifne f338_88 (fun c76147 => ?_) (fun c76147 => ?_)
            · refine ev_iload_n rfl ?_
              refine ev_iconst ?_
              refine ev_iload rfl ?_
              refine g_ishlB (a' := 1) (a := 1) (b := 3) (hi := 8) (by omega) (by omega) (by omega) (by omega) (by decide) (by decide) (fun v76148 ev76148 lv76148 uv76148 => ?_)
              refine ev_iconst ?_
              refine g_ixorG (fun v76149 ev76149 lv76149 uv76149 => ?_)
              refine g_iandA (b := 15) (by omega) (by omega) (by decide) (fun v76150 ev76150 lv76150 uv76150 => ?_)
              have zv76150 := bits_off (x := x2) (k := x5) (by omega) (by omega) (by omega) (by omega) ev76142 ev76143 (by omega) ev76148 ev76149 ev76150
              refine ev_istore_n (L' := [(2, 42), (0, a1), (0, v76150), (0, x3), (0, x4), (0, x5)]) (Nat.le_of_ble_eq_true rfl) rfl ?_
              refine ev_iconst ?_
              refine ev_istore (L' := [(2, 42), (0, a1), (0, v76150), (0, x3), (0, 1), (0, x5)]) (Nat.le_of_ble_eq_true rfl) rfl ?_
              refine ev_iinc (w := (x5 + 1)) (L' := [(2, 42), (0, a1), (0, v76150), (0, x3), (0, 1), (0, (x5 + 1))]) rfl (by unfold w32; omega) rfl ?_
              refine ev_goto f338_50 ?_
              exact ih.2.1 _ _ _ _ _ g76145 k76145 (by omega) (by omega) (by omega) (by omega) (by omega) (by omega) (by omega) (by omega) (by omega) (by omega) (by omega) (by omega) (by omega) (by omega) (H0.row (by omega) (by omega) (by omega) (by omega) (((eo_kp k1 (fun _ => rfl) X76145).mp (by omega)).sk (by omega) ((bt_of ev76142 ev76143).trans (by omega))) (H2 (by omega)) (clr_of ev76148 ev76149 ev76150)) ⟨by have := H1.1; have := bt_c (x := x2) (k := x5) (by omega) (by omega) (by omega) (by omega) ((bt_of ev76142 ev76143).trans (by omega)); have q := (clr_of ev76148 ev76149 ev76150); omega, H1.2⟩ (fun z => absurd z (by decide)) (by omega)
            · refine ev_goto f338_100 ?_
              refine ev_iinc (w := (x5 + 1)) (L' := [(2, 42), (0, a1), (0, x2), (0, x3), (0, x4), (0, (x5 + 1))]) rfl (by unfold w32; omega) rfl ?_
              refine ev_goto f338_50 ?_
              exact ih.2.1 _ _ _ _ _ g76145 k76145 (by omega) (by omega) (by omega) (by omega) (by omega) (by omega) (by omega) (by omega) (by omega) (by omega) (by omega) (by omega) (by omega) (by omega) H0 H1 (fun z => (H2 z).add (by omega) (fun z => absurd ((eo_kp k1 (fun _ => rfl) X76145).mpr (z.eo (by omega) (by omega) (by omega) (by omega) H1.1)) (by omega))) (by omega)
    · intro h1 x2 x3 x4 x5 g1 k1 b0 b1 b2 b3 b4 b5 b6 b7 b8 b9 b10 b11 b12 b13 H0 H1 H2 hm
      refine ev_iload rfl ?_
      refine ev_aload_n rfl ?_
      refine g_getv (r := 42) (v := w1) g1 ad42 (by decide) ft12_45 (((k1.v (by decide)).trans ew1)) ?_
      refine ev_icmpge f338_165 (fun c76151 => ?_) (fun c76151 => ?_)
      · refine ev_goto f338_39 ?_
        exact ih.1 _ _ _ _ _ g1 k1 (by omega) (by omega) (by omega) (by omega) (by omega) (by omega) (by omega) (by omega) (by omega) (by omega) (by omega) H0 H1 (fun z => ⟨(H2 z).1, (H2 z).2.all (n := w1) (by omega) (by omega) (by omega) (by omega) (by omega) H1.2⟩) (by omega)
      · refine ev_iload rfl ?_
        refine ev_ifne f338_165 (fun c76152 => ?_) (fun c76152 => ?_)
        · refine ev_goto f338_39 ?_
          exact ih.1 _ _ _ _ _ g1 k1 (by omega) (by omega) (by omega) (by omega) (by omega) (by omega) (by omega) (by omega) (by omega) (by omega) (by omega) H0 H1 (fun z => ⟨(H2 z).1, (H2 z).2.all (n := w1) (by omega) (by omega) (by omega) (by omega) (by omega) H1.2⟩) (by omega)
        · refine ev_iload_n rfl ?_
          refine ev_iload rfl ?_
          refine g_ishrB (a := 15) (by omega) (by omega) (by decide) (fun v76153 ev76153 lv76153 uv76153 => ?_)
          refine ev_iconst ?_
          refine g_iandB (b := 1) (by omega) (by omega) (by decide) (fun v76154 ev76154 lv76154 uv76154 => ?_)
          refine ev_ifeq f338_159 (fun c76155 => ?_) (fun c76155 => ?_)
          · refine ev_iinc (w := (x5 + 1)) (L' := [(2, 42), (0, a1), (0, x2), (0, x3), (0, x4), (0, (x5 + 1))]) rfl (by unfold w32; omega) rfl ?_
            refine ev_goto f338_109 ?_
            exact ih.2.2 _ _ _ _ _ g1 k1 (by omega) (by omega) (by omega) (by omega) (by omega) (by omega) (by omega) (by omega) (by omega) (by omega) (by omega) (by omega) (by omega) (by omega) H0 H1 (fun z => ⟨(H2 z).1, (H2 z).2.add (by omega) (fun z => absurd ((bt_of ev76153 ev76154).symm.trans z.1) (by omega))⟩) (by omega)
          · refine ev_aload_n rfl ?_
            refine ev_iconst ?_
            refine ev_iload rfl ?_
            refine ev_iload_n rfl ?_
            refine ev_iload_n rfl ?_
            refine ev_call (jcall_v (A := [(0, x3), (0, x2), (0, x5), (0, 0)]) (S' := []) (r := 42) rfl (g1.lt ad42) (g1.tg ad42) (Nat.le_of_ble_eq_true rfl)) (jOk_le (by decide) (t337c g1 (by omega) (by omega) (by omega) (by omega) (by omega) (by omega) (((k1.v (by decide)).trans ew0)) (by omega) (by omega) (((k1.v (by decide)).trans ew1)) (by omega) (by omega))) (by decide) (by decide) (fun w76156 h76156 q76156 => ?_)
            obtain ⟨v76157, rfl, g76156, kk76156, lv76157, uv76157, X76156⟩ := q76156
            have k76156 := k1.tr kk76156 (by decide)
            show jEv _ _ _ _ _ _ _ (_, [(2, 42), (0, a1), (0, x2), (0, x3), (0, x4), (0, x5)], [(0, v76157)], _, _, _)
            refine ev_ifne f338_147 (fun c76158 => ?_) (fun c76158 => ?_)
            · refine ev_iload_n rfl ?_
              refine ev_iconst ?_
              refine ev_iload rfl ?_
              refine g_ishlB (a' := 1) (a := 1) (b := 3) (hi := 8) (by omega) (by omega) (by omega) (by omega) (by decide) (by decide) (fun v76159 ev76159 lv76159 uv76159 => ?_)
              refine ev_iconst ?_
              refine g_ixorG (fun v76160 ev76160 lv76160 uv76160 => ?_)
              refine g_iandA (b := 15) (by omega) (by omega) (by decide) (fun v76161 ev76161 lv76161 uv76161 => ?_)
              have zv76161 := bits_off (x := x3) (k := x5) (by omega) (by omega) (by omega) (by omega) ev76153 ev76154 (by omega) ev76159 ev76160 ev76161
              refine ev_istore_n (L' := [(2, 42), (0, a1), (0, x2), (0, v76161), (0, x4), (0, x5)]) (Nat.le_of_ble_eq_true rfl) rfl ?_
              refine ev_iconst ?_
              refine ev_istore (L' := [(2, 42), (0, a1), (0, x2), (0, v76161), (0, 1), (0, x5)]) (Nat.le_of_ble_eq_true rfl) rfl ?_
              refine ev_iinc (w := (x5 + 1)) (L' := [(2, 42), (0, a1), (0, x2), (0, v76161), (0, 1), (0, (x5 + 1))]) rfl (by unfold w32; omega) rfl ?_
              refine ev_goto f338_109 ?_
              exact ih.2.2 _ _ _ _ _ g76156 k76156 (by omega) (by omega) (by omega) (by omega) (by omega) (by omega) (by omega) (by omega) (by omega) (by omega) (by omega) (by omega) (by omega) (by omega) (H0.col (by omega) (by omega) (by omega) (by omega) (H2 (by omega)).1 (((eo_kp k1 (fun _ => rfl) X76156).mp (by omega)).sk (by omega) ((bt_of ev76153 ev76154).trans (by omega))) (H2 (by omega)).2 (clr_of ev76159 ev76160 ev76161)) ⟨H1.1, by have := H1.2; have := bt_c (x := x3) (k := x5) (by omega) (by omega) (by omega) (by omega) ((bt_of ev76153 ev76154).trans (by omega)); have q := (clr_of ev76159 ev76160 ev76161); omega⟩ (fun z => absurd z (by decide)) (by omega)
            · refine ev_goto f338_159 ?_
              refine ev_iinc (w := (x5 + 1)) (L' := [(2, 42), (0, a1), (0, x2), (0, x3), (0, x4), (0, (x5 + 1))]) rfl (by unfold w32; omega) rfl ?_
              refine ev_goto f338_109 ?_
              exact ih.2.2 _ _ _ _ _ g76156 k76156 (by omega) (by omega) (by omega) (by omega) (by omega) (by omega) (by omega) (by omega) (by omega) (by omega) (by omega) (by omega) (by omega) (by omega) H0 H1 (fun z => ⟨(H2 z).1, (H2 z).2.add (by omega) (fun z => absurd ((eo_kp k1 (fun _ => rfl) X76156).mpr (z.eo (by omega) (by omega) (by omega) (by omega) H1.2)) (by omega))⟩) (by omega)
set_option maxHeartbeats 4000000 in
theorem t338 {G : GH} {h : JH} (g : Gd G h) {a1 : Int} (la1 : (-2147483648) ≤ a1) (ua1 : a1 ≤ 2147483647) {w0 : Int} (ew0 : h.2.2 42 44 = w0) (lw0 : 0 ≤ w0) (uw0 : w0 ≤ 4) {w1 : Int} (ew1 : h.2.2 42 45 = w1) (lw1 : 0 ≤ w1) (uw1 : w1 ≤ 4) : jOk 2 0 0 338 [(2, 42), (0, a1)] h (fun v h' => ∃ r : Int, v = some (0, r) ∧ Gd G h' ∧ Kp [] h h' ∧ (-1) ≤ r ∧ r ≤ 15 ∧ SkS (gR h) w0 w1 a1 r) := by
  refine ⟨by decide, by rw [ml338]; exact Nat.le_of_ble_eq_true rfl, ?_⟩
  rw [ml338, pp338]
  show jEv _ none _ c338_0 0 0 _ (c338_0, [(2, 42), (0, a1), (9, 0), (9, 0), (9, 0), (9, 0)], [], h, 0, 0)
  have k0 := Kp.rf [] h
  refine ev_aload_n rfl ?_
  refine g_getv (r := 42) (v := w0) g ad42 (by decide) ft12_44 (ew0) ?_
  refine ev_ifeq f338_16 (fun c76162 => ?_) (fun c76162 => ?_)
  · refine ev_iconst ?_
    exact ev_ret rfl (by decide) (by decide) ⟨_, rfl, g, k0, by omega, by omega, Or.inl ⟨by omega, rfl⟩⟩
  · refine ev_iload_n rfl ?_
    refine ev_iconst ?_
    refine ev_iconst ?_
    refine ev_in (d := 0) (a := 0) (b := 0) (cd' := c242_0) (m := 3) (L0 := [(0, a1), (0, 0), (0, 1)]) (jcall_s (A := [(0, 1), (0, 0), (0, a1)]) (S' := []) (by decide) rfl (Nat.le_of_ble_eq_true rfl)) (by decide) ml242 pp242 (Nat.le_of_ble_eq_true rfl) rfl (by decide) (by decide) ?_
    refine ev_iload_n rfl ?_
    refine ev_iload_n rfl ?_
    refine ev_icmplt f242_14 (fun c76163 => ?_) (fun c76163 => ?_)
    · refine ev_iconst ?_
      refine ev_ret rfl (by decide) (by decide) ?_
      show jEv _ _ _ _ _ _ _ (_, [(2, 42), (0, a1), (9, 0), (9, 0), (9, 0), (9, 0)], [(0, 0)], _, _, _)
      refine ev_ifne f338_18 (fun c76164 => absurd c76164 (by omega)) (fun c76164 => ?_)
      refine ev_iconst ?_
      exact ev_ret rfl (by decide) (by decide) ⟨_, rfl, g, k0, by omega, by omega, Or.inl ⟨by omega, rfl⟩⟩
    · refine ev_iload_n rfl ?_
      refine ev_iload_n rfl ?_
      refine ev_icmpgt f242_14 (fun c76165 => ?_) (fun c76165 => ?_)
      · refine ev_iconst ?_
        refine ev_ret rfl (by decide) (by decide) ?_
        show jEv _ _ _ _ _ _ _ (_, [(2, 42), (0, a1), (9, 0), (9, 0), (9, 0), (9, 0)], [(0, 0)], _, _, _)
        refine ev_ifne f338_18 (fun c76166 => absurd c76166 (by omega)) (fun c76166 => ?_)
        refine ev_iconst ?_
        exact ev_ret rfl (by decide) (by decide) ⟨_, rfl, g, k0, by omega, by omega, Or.inl ⟨by omega, rfl⟩⟩
      · refine ev_iconst ?_
        refine ev_goto f242_15 ?_
        refine ev_ret rfl (by decide) (by decide) ?_
        show jEv _ _ _ _ _ _ _ (_, [(2, 42), (0, a1), (9, 0), (9, 0), (9, 0), (9, 0)], [(0, 1)], _, _, _)
        refine ev_ifne f338_18 (fun c76167 => ?_) (fun c76167 => absurd c76167 (by omega))
        refine ev_iconst ?_
        refine ev_aload_n rfl ?_
        refine g_getv (r := 42) (v := w0) g ad42 (by decide) ft12_44 (ew0) ?_
        refine g_ishlB (a' := 1) (a := 1) (b := 4) (hi := 16) (by omega) (by omega) (by omega) (by omega) (by decide) (by decide) (fun v76168 ev76168 lv76168 uv76168 => ?_)
        refine ev_iconst ?_
        refine ev_isub (r := (v76168 - 1)) (by unfold w32; omega) ?_
        refine ev_istore_n (L' := [(2, 42), (0, a1), (0, (v76168 - 1)), (9, 0), (9, 0), (9, 0)]) (Nat.le_of_ble_eq_true rfl) rfl ?_
        refine ev_iconst ?_
        refine ev_aload_n rfl ?_
        refine g_getv (r := 42) (v := w1) g ad42 (by decide) ft12_45 (ew1) ?_
        refine g_ishlB (a' := 1) (a := 1) (b := 4) (hi := 16) (by omega) (by omega) (by omega) (by omega) (by decide) (by decide) (fun v76169 ev76169 lv76169 uv76169 => ?_)
        refine ev_iconst ?_
        refine ev_isub (r := (v76169 - 1)) (by unfold w32; omega) ?_
        refine ev_istore_n (L' := [(2, 42), (0, a1), (0, (v76168 - 1)), (0, (v76169 - 1)), (9, 0), (9, 0)]) (Nat.le_of_ble_eq_true rfl) rfl ?_
        refine ev_iconst ?_
        refine ev_istore (L' := [(2, 42), (0, a1), (0, (v76168 - 1)), (0, (v76169 - 1)), (0, 1), (9, 0)]) (Nat.le_of_ble_eq_true rfl) rfl ?_
        exact (t338_l la1 ua1 ew0 lw0 uw0 ew1 lw1 uw1 1230).1 _ _ _ _ _ g k0 (by omega) (by omega) (by omega) (by omega) (by omega) (by omega) (by omega) (by omega) (by omega) (by omega) (by omega) (Lf.start (by rw [ev76168]) (by rw [ev76169]) (by omega) (by omega) (by omega) (by omega)) ⟨by rw [ev76168]; omega, by rw [ev76169]; omega⟩ (fun z => absurd z (by decide)) (by omega)
theorem jn11 : jN 11 = 17 := by decide +kernel
theorem jn12 : jN 12 = 66 := by decide +kernel
theorem ml384 : jML jnM = 4 := by decide +kernel
theorem pp384 : jP jnM = c384_0 := rfl
set_option maxRecDepth 100000 in
theorem jlawN : jchkN jnM = true := jchkNF_ok (by decide +kernel)
set_option maxRecDepth 100000 in
theorem f384_18 : jfind c384_0 18 = some c384_18 := rfl
set_option maxRecDepth 100000 in
theorem f384_260 : jfind c384_0 260 = some c384_260 := rfl
set_option maxRecDepth 100000 in
theorem f384_283 : jfind c384_0 283 = some c384_283 := rfl
set_option maxRecDepth 100000 in
theorem f384_316 : jfind c384_0 316 = some c384_316 := rfl
set_option maxRecDepth 100000 in
theorem f384_369 : jfind c384_0 369 = some c384_369 := rfl
set_option maxRecDepth 100000 in
theorem f384_382 : jfind c384_0 382 = some c384_382 := rfl
set_option maxRecDepth 100000 in
theorem f384_405 : jfind c384_0 405 = some c384_405 := rfl
set_option maxRecDepth 100000 in
theorem f384_448 : jfind c384_0 448 = some c384_448 := rfl
set_option maxRecDepth 100000 in
theorem f384_481 : jfind c384_0 481 = some c384_481 := rfl
set_option maxRecDepth 100000 in
theorem f384_494 : jfind c384_0 494 = some c384_494 := rfl
set_option maxRecDepth 100000 in
theorem f384_537 : jfind c384_0 537 = some c384_537 := rfl
set_option maxRecDepth 100000 in
theorem f384_590 : jfind c384_0 590 = some c384_590 := rfl
set_option maxRecDepth 100000 in
theorem f384_603 : jfind c384_0 603 = some c384_603 := rfl
set_option maxRecDepth 100000 in
theorem f384_616 : jfind c384_0 616 = some c384_616 := rfl
set_option maxRecDepth 100000 in
theorem f384_649 : jfind c384_0 649 = some c384_649 := rfl
set_option maxRecDepth 100000 in
theorem f384_682 : jfind c384_0 682 = some c384_682 := rfl
set_option maxRecDepth 100000 in
theorem f384_715 : jfind c384_0 715 = some c384_715 := rfl
set_option maxRecDepth 100000 in
theorem f384_758 : jfind c384_0 758 = some c384_758 := rfl
set_option maxRecDepth 100000 in
theorem f384_801 : jfind c384_0 801 = some c384_801 := rfl
set_option maxRecDepth 100000 in
theorem f384_844 : jfind c384_0 844 = some c384_844 := rfl
set_option maxRecDepth 100000 in
theorem f384_877 : jfind c384_0 877 = some c384_877 := rfl
set_option maxRecDepth 100000 in
theorem f384_930 : jfind c384_0 930 = some c384_930 := rfl
set_option maxRecDepth 100000 in
theorem f384_963 : jfind c384_0 963 = some c384_963 := rfl
set_option maxRecDepth 100000 in
theorem f384_1006 : jfind c384_0 1006 = some c384_1006 := rfl
set_option maxRecDepth 100000 in
theorem f384_1059 : jfind c384_0 1059 = some c384_1059 := rfl
set_option maxRecDepth 100000 in
theorem f384_1082 : jfind c384_0 1082 = some c384_1082 := rfl
set_option maxRecDepth 100000 in
theorem f384_1125 : jfind c384_0 1125 = some c384_1125 := rfl
set_option maxRecDepth 100000 in
theorem f384_1178 : jfind c384_0 1178 = some c384_1178 := rfl
set_option maxRecDepth 100000 in
theorem f384_1201 : jfind c384_0 1201 = some c384_1201 := rfl
set_option maxRecDepth 100000 in
theorem f384_1254 : jfind c384_0 1254 = some c384_1254 := rfl
set_option maxRecDepth 100000 in
theorem f384_1307 : jfind c384_0 1307 = some c384_1307 := rfl
set_option maxRecDepth 100000 in
theorem f384_1340 : jfind c384_0 1340 = some c384_1340 := rfl
set_option maxRecDepth 100000 in
theorem f384_1383 : jfind c384_0 1383 = some c384_1383 := rfl
set_option maxRecDepth 100000 in
theorem f384_1406 : jfind c384_0 1406 = some c384_1406 := rfl
set_option maxRecDepth 100000 in
theorem f384_1429 : jfind c384_0 1429 = some c384_1429 := rfl
set_option maxRecDepth 100000 in
theorem f384_1452 : jfind c384_0 1452 = some c384_1452 := rfl
set_option maxRecDepth 100000 in
theorem f384_1495 : jfind c384_0 1495 = some c384_1495 := rfl
set_option maxRecDepth 100000 in
theorem f384_1518 : jfind c384_0 1518 = some c384_1518 := rfl
set_option maxRecDepth 100000 in
theorem f384_1551 : jfind c384_0 1551 = some c384_1551 := rfl
set_option maxRecDepth 100000 in
theorem f384_1564 : jfind c384_0 1564 = some c384_1564 := rfl
set_option maxRecDepth 100000 in
theorem f384_1597 : jfind c384_0 1597 = some c384_1597 := rfl
set_option maxRecDepth 100000 in
theorem f384_1630 : jfind c384_0 1630 = some c384_1630 := rfl
set_option maxRecDepth 100000 in
theorem f384_1683 : jfind c384_0 1683 = some c384_1683 := rfl
set_option maxRecDepth 100000 in
theorem f384_1726 : jfind c384_0 1726 = some c384_1726 := rfl
set_option maxRecDepth 100000 in
theorem f384_1769 : jfind c384_0 1769 = some c384_1769 := rfl
set_option maxRecDepth 100000 in
theorem f384_1812 : jfind c384_0 1812 = some c384_1812 := rfl
set_option maxRecDepth 100000 in
theorem f384_1855 : jfind c384_0 1855 = some c384_1855 := rfl
set_option maxRecDepth 100000 in
theorem f384_1878 : jfind c384_0 1878 = some c384_1878 := rfl
set_option maxRecDepth 100000 in
theorem f384_1911 : jfind c384_0 1911 = some c384_1911 := rfl
set_option maxRecDepth 100000 in
theorem f384_1954 : jfind c384_0 1954 = some c384_1954 := rfl
set_option maxRecDepth 100000 in
theorem f384_2027 : jfind c384_0 2027 = some c384_2027 := rfl
set_option maxRecDepth 100000 in
theorem f384_2060 : jfind c384_0 2060 = some c384_2060 := rfl
set_option maxRecDepth 100000 in
theorem f384_2123 : jfind c384_0 2123 = some c384_2123 := rfl
set_option maxRecDepth 100000 in
theorem f384_2156 : jfind c384_0 2156 = some c384_2156 := rfl
set_option maxRecDepth 100000 in
theorem f384_2179 : jfind c384_0 2179 = some c384_2179 := rfl
set_option maxRecDepth 100000 in
theorem f384_2185 : jfind c384_0 2185 = some c384_2185 := rfl

