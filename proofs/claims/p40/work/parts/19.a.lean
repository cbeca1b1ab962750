def efF (c p n : Int) : Int := if 0 ≤ c ∧ c ≤ 99 ∧ 0 ≤ p ∧ p ≤ 100 then (if n = 4 then -3 else n + 1) else -1
def efG (c p n : Int) : Int := if 0 ≤ c ∧ c ≤ 99 ∧ 0 ≤ p ∧ p ≤ 100 ∧ n ≠ 4 then n + 1 else n
def hiG (w k n : Int) : Int := if 0 ≤ w ∧ w ≤ 999 ∧ k = -1 then 0 else n
def Cc : List (Nat × Nat) := [(26, 10), (42, 54)]
def Rl (h : JH) : Prop := h.2.2 26 9 = h.2.2 42 53 ∧ True
theorem Rl.fr {h h' : JH} (x : Rl h) (e : ∀ a i, inW Cc a i = true → h'.2.2 a i = h.2.2 a i) : Rl h' := by
  unfold Rl at x ⊢
  rw [e 26 9 rfl, e 42 53 rfl]
  exact x
def dsj (C W : List (Nat × Nat)) : Bool := C.all (fun c => decide (c.1 < 83) && W.all (fun w => w.1 != c.1 || (w.2 != 0 && c.2 != 0 && w.2 != c.2)))
theorem dsj_at {C W : List (Nat × Nat)} (h : dsj C W = true) {a i : Nat} (hc : inW C a i = true) : a < 83 ∧ inW W a i = false := by
  unfold inW at hc
  obtain ⟨c, hm, hq⟩ := List.any_eq_true.mp hc
  have h1 := List.all_eq_true.mp h c hm
  rw [Bool.and_eq_true, decide_eq_true_eq] at h1
  simp only [Bool.or_eq_true, Bool.and_eq_true, beq_iff_eq, decide_eq_true_eq] at hq
  have ha : a < 83 := by omega
  refine ⟨ha, ?_⟩
  unfold inW
  rw [List.any_eq_false]
  intro w hw hx
  have h2 := List.all_eq_true.mp h1.2 w hw
  simp only [Bool.or_eq_true, Bool.and_eq_true, bne_iff_ne] at h2
  simp only [Bool.or_eq_true, Bool.and_eq_true, beq_iff_eq, decide_eq_true_eq] at hx
  omega
theorem Rl.kp {W : List (Nat × Nat)} {h h' : JH} (x : Rl h) (k : Kp W h h') (hd : dsj Cc W = true) : Rl h' := x.fr (fun a i hc => k.v (dsj_at hd hc).2)
theorem Rl.kx {W : List (Nat × Nat)} {h h' : JH} (x : Rl h) (k : Kx W h h') (hd : dsj Cc W = true) (h83 : 83 ≤ h.1) : Rl h' := x.fr (fun a i hc => k.2.2 a i (Nat.lt_of_lt_of_le (dsj_at hd hc).1 h83) (dsj_at hd hc).2)
set_option maxHeartbeats 4000000 in
theorem t204 {G : GH} {h : JH} (g : Gd G h) {a1 : Int} (la1 : (-2147483648) ≤ a1) (ua1 : a1 ≤ 2147483647) {a2 : Int} (la2 : (-2147483648) ≤ a2) (ua2 : a2 ≤ 2147483647) {w0 : Int} (ew0 : h.2.2 26 9 = w0) (lw0 : 0 ≤ w0) (uw0 : w0 ≤ 4) : jOk 2 0 0 204 [(2, 0), (0, a1), (0, a2)] h (fun v h' => ∃ r : Int, v = some (0, r) ∧ Gd G h' ∧ Kp [(26, 10), (32, 0), (33, 0)] h h' ∧ r = efF a1 a2 w0 ∧ h'.2.2 26 9 = efG a1 a2 w0) := by
  refine ⟨by decide, by rw [ml204]; exact Nat.le_of_ble_eq_true rfl, ?_⟩
  rw [ml204, pp204]
  show jEv _ none _ c204_0 0 0 _ (c204_0, [(2, 0), (0, a1), (0, a2)], [], h, 0, 0)
  have k0 := Kp.rf [(26, 10), (32, 0), (33, 0)] h
  refine ev_iload_n rfl ?_
  refine ev_iflt f204_20 (fun c75118 => ?_) (fun c75118 => ?_)
  · refine ev_iconst ?_
    refine ev_goto f204_33 ?_
    exact ev_ret rfl (by decide) (by decide) ⟨_, rfl, g, k0, by (try unfold efF); (try unfold efG); (try unfold hiG); (repeat' split) <;> omega, ((ew0)).trans (by (try unfold efF); (try unfold efG); (try unfold hiG); (repeat' split) <;> omega)⟩
  · refine ev_iload_n rfl ?_
    refine ev_bipush ?_
    refine ev_icmpgt f204_20 (fun c75119 => ?_) (fun c75119 => ?_)
    · refine ev_iconst ?_
      refine ev_goto f204_33 ?_
      exact ev_ret rfl (by decide) (by decide) ⟨_, rfl, g, k0, by (try unfold efF); (try unfold efG); (try unfold hiG); (repeat' split) <;> omega, ((ew0)).trans (by (try unfold efF); (try unfold efG); (try unfold hiG); (repeat' split) <;> omega)⟩
    · refine ev_iload_n rfl ?_
      refine ev_iflt f204_20 (fun c75120 => ?_) (fun c75120 => ?_)
      · refine ev_iconst ?_
        refine ev_goto f204_33 ?_
        exact ev_ret rfl (by decide) (by decide) ⟨_, rfl, g, k0, by (try unfold efF); (try unfold efG); (try unfold hiG); (repeat' split) <;> omega, ((ew0)).trans (by (try unfold efF); (try unfold efG); (try unfold hiG); (repeat' split) <;> omega)⟩
      · refine ev_iload_n rfl ?_
        refine ev_bipush ?_
        refine ev_icmple f204_24 (fun c75121 => ?_) (fun c75121 => ?_)
        · refine ev_aload_n rfl ?_
          refine g_getp (r := 0) (c := 26) g ad0 (by decide) (by decide) rf0_11 ft11_11 ?_
          refine ev_iload_n rfl ?_
          refine ev_iload_n rfl ?_
          refine ev_in (d := 0) (a := 0) (b := 0) (cd' := c129_0) (m := 3) (L0 := [(2, 26), (0, a1), (0, a2)]) (jcall_v (A := [(0, a2), (0, a1)]) (S' := []) (r := 26) rfl (g.lt ad26) (g.tg ad26) (Nat.le_of_ble_eq_true rfl)) (by decide) ml129 pp129 (Nat.le_of_ble_eq_true rfl) rfl (by decide) (by decide) ?_
          refine ev_aload_n rfl ?_
          refine g_getv (r := 26) (v := w0) g ad26 (by decide) ft9_9 (ew0) ?_
          refine ev_iconst ?_
          refine ev_icmplt f129_11 (fun c75122 => ?_) (fun c75122 => ?_)
          · refine ev_aload_n rfl ?_
            refine g_getp (r := 26) (c := 32) g ad26 (by decide) (by decide) rf26_10 ft9_10 ?_
            refine ev_aload_n rfl ?_
            refine g_getv (r := 26) (v := w0) g ad26 (by decide) ft9_9 (ew0) ?_
            refine ev_iload_n rfl ?_
            refine g_iast g ad32 rt32 (fun _ => rfl) (by omega) (by omega) (by omega) (by omega) (fun h75123 e75123 g75123 => ?_)
            have k75123 := k0.wr e75123 rfl
            refine ev_aload_n rfl ?_
            refine g_getp (r := 26) (c := 33) g75123 ad26 (by decide) (by decide) rf26_11 ft9_11 ?_
            refine ev_aload_n rfl ?_
            refine g_getv (r := 26) (v := w0) g75123 ad26 (by decide) ft9_9 (((jw_ne e75123 (Or.inl (by decide))).trans ew0)) ?_
            refine ev_iload_n rfl ?_
            refine g_iast g75123 ad33 rt33 (fun _ => rfl) (by omega) (by omega) (by omega) (by omega) (fun h75124 e75124 g75124 => ?_)
            have k75124 := k75123.wr e75124 rfl
            refine ev_aload_n rfl ?_
            refine ev_dup (by decide) ?_
            refine g_getv (r := 26) (v := w0) g75124 ad26 (by decide) ft9_9 (((jw_ne e75124 (Or.inl (by decide))).trans ((jw_ne e75123 (Or.inl (by decide))).trans ew0))) ?_
            refine ev_iconst ?_
            refine ev_iadd (r := (w0 + 1)) (by unfold w32; omega) ?_
            refine g_putf (r := 26) g75124 ad26 (by decide) ft9_9 (by decide) (fun e => absurd e nz9_9) rf26_9 (by decide) (by omega) (by omega) (fun h75125 e75125 g75125 => ?_)
            have k75125 := k75124.wr e75125 rfl
            refine ev_aload_n rfl ?_
            refine g_getv (r := 26) (v := (w0 + 1)) g75125 ad26 (by decide) ft9_9 ((jw_eq e75125)) ?_
            refine ev_ret rfl (by decide) (by decide) ?_
            show jEv _ _ _ _ _ _ _ (_, [(2, 0), (0, a1), (0, a2)], [(0, (w0 + 1))], _, _, _)
            exact ev_ret rfl (by decide) (by decide) ⟨_, rfl, g75125, k75125, by (try unfold efF); (try unfold efG); (try unfold hiG); (repeat' split) <;> omega, (((jw_eq e75125))).trans (by (try unfold efF); (try unfold efG); (try unfold hiG); (repeat' split) <;> omega)⟩
          · refine ev_bipush ?_
            refine ev_ret rfl (by decide) (by decide) ?_
            show jEv _ _ _ _ _ _ _ (_, [(2, 0), (0, a1), (0, a2)], [(0, (-3))], _, _, _)
            exact ev_ret rfl (by decide) (by decide) ⟨_, rfl, g, k0, by (try unfold efF); (try unfold efG); (try unfold hiG); (repeat' split) <;> omega, ((ew0)).trans (by (try unfold efF); (try unfold efG); (try unfold hiG); (repeat' split) <;> omega)⟩
        · refine ev_iconst ?_
          refine ev_goto f204_33 ?_
          exact ev_ret rfl (by decide) (by decide) ⟨_, rfl, g, k0, by (try unfold efF); (try unfold efG); (try unfold hiG); (repeat' split) <;> omega, ((ew0)).trans (by (try unfold efF); (try unfold efG); (try unfold hiG); (repeat' split) <;> omega)⟩
set_option maxHeartbeats 4000000 in
theorem t347 {G : GH} {h : JH} (g : Gd G h) {a1 : Int} (la1 : (-2147483648) ≤ a1) (ua1 : a1 ≤ 2147483647) {a2 : Int} (la2 : (-2147483648) ≤ a2) (ua2 : a2 ≤ 2147483647) {w0 : Int} (ew0 : h.2.2 42 53 = w0) (lw0 : 0 ≤ w0) (uw0 : w0 ≤ 4) : jOk 2 0 0 347 [(2, 42), (0, a1), (0, a2)] h (fun v h' => ∃ r : Int, v = some (0, r) ∧ Gd G h' ∧ Kp [(42, 54), (72, 0), (73, 0)] h h' ∧ r = efF a1 a2 w0 ∧ h'.2.2 42 53 = efG a1 a2 w0) := by
  refine ⟨by decide, by rw [ml347]; exact Nat.le_of_ble_eq_true rfl, ?_⟩
  rw [ml347, pp347]
  show jEv _ none _ c347_0 0 0 _ (c347_0, [(2, 42), (0, a1), (0, a2)], [], h, 0, 0)
  have k0 := Kp.rf [(42, 54), (72, 0), (73, 0)] h
  refine ev_iload_n rfl ?_
  refine ev_iconst ?_
  refine ev_bipush ?_
  refine ev_in (d := 0) (a := 0) (b := 0) (cd' := c242_0) (m := 3) (L0 := [(0, a1), (0, 0), (0, 99)]) (jcall_s (A := [(0, 99), (0, 0), (0, a1)]) (S' := []) (by decide) rfl (Nat.le_of_ble_eq_true rfl)) (by decide) ml242 pp242 (Nat.le_of_ble_eq_true rfl) rfl (by decide) (by decide) ?_
  refine ev_iload_n rfl ?_
  refine ev_iload_n rfl ?_
  refine ev_icmplt f242_14 (fun c75154 => ?_) (fun c75154 => ?_)
  · refine ev_iconst ?_
    refine ev_ret rfl (by decide) (by decide) ?_
    show jEv _ _ _ _ _ _ _ (_, [(2, 42), (0, a1), (0, a2)], [(0, 0)], _, _, _)
    refine ev_ifeq f347_20 (fun c75155 => ?_) (fun c75155 => absurd c75155 (by omega))
    refine ev_iconst ?_
    exact ev_ret rfl (by decide) (by decide) ⟨_, rfl, g, k0, by (try unfold efF); (try unfold efG); (try unfold hiG); (repeat' split) <;> omega, ((ew0)).trans (by (try unfold efF); (try unfold efG); (try unfold hiG); (repeat' split) <;> omega)⟩
  · refine ev_iload_n rfl ?_
    refine ev_iload_n rfl ?_
    refine ev_icmpgt f242_14 (fun c75156 => ?_) (fun c75156 => ?_)
    · refine ev_iconst ?_
      refine ev_ret rfl (by decide) (by decide) ?_
      show jEv _ _ _ _ _ _ _ (_, [(2, 42), (0, a1), (0, a2)], [(0, 0)], _, _, _)
      refine ev_ifeq f347_20 (fun c75157 => ?_) (fun c75157 => absurd c75157 (by omega))
      refine ev_iconst ?_
      exact ev_ret rfl (by decide) (by decide) ⟨_, rfl, g, k0, by (try unfold efF); (try unfold efG); (try unfold hiG); (repeat' split) <;> omega, ((ew0)).trans (by (try unfold efF); (try unfold efG); (try unfold hiG); (repeat' split) <;> omega)⟩
    · refine ev_iconst ?_
      refine ev_goto f242_15 ?_
      refine ev_ret rfl (by decide) (by decide) ?_
      show jEv _ _ _ _ _ _ _ (_, [(2, 42), (0, a1), (0, a2)], [(0, 1)], _, _, _)
      refine ev_ifeq f347_20 (fun c75158 => absurd c75158 (by omega)) (fun c75158 => ?_)
      refine ev_iload_n rfl ?_
      refine ev_iconst ?_
      refine ev_bipush ?_
      refine ev_in (d := 0) (a := 0) (b := 0) (cd' := c242_0) (m := 3) (L0 := [(0, a2), (0, 0), (0, 100)]) (jcall_s (A := [(0, 100), (0, 0), (0, a2)]) (S' := []) (by decide) rfl (Nat.le_of_ble_eq_true rfl)) (by decide) ml242 pp242 (Nat.le_of_ble_eq_true rfl) rfl (by decide) (by decide) ?_
      refine ev_iload_n rfl ?_
      refine ev_iload_n rfl ?_
      refine ev_icmplt f242_14 (fun c75159 => ?_) (fun c75159 => ?_)
      · refine ev_iconst ?_
        refine ev_ret rfl (by decide) (by decide) ?_
        show jEv _ _ _ _ _ _ _ (_, [(2, 42), (0, a1), (0, a2)], [(0, 0)], _, _, _)
        refine ev_ifne f347_22 (fun c75160 => absurd c75160 (by omega)) (fun c75160 => ?_)
        refine ev_iconst ?_
        exact ev_ret rfl (by decide) (by decide) ⟨_, rfl, g, k0, by (try unfold efF); (try unfold efG); (try unfold hiG); (repeat' split) <;> omega, ((ew0)).trans (by (try unfold efF); (try unfold efG); (try unfold hiG); (repeat' split) <;> omega)⟩
      · refine ev_iload_n rfl ?_
        refine ev_iload_n rfl ?_
        refine ev_icmpgt f242_14 (fun c75161 => ?_) (fun c75161 => ?_)
        · refine ev_iconst ?_
          refine ev_ret rfl (by decide) (by decide) ?_
          show jEv _ _ _ _ _ _ _ (_, [(2, 42), (0, a1), (0, a2)], [(0, 0)], _, _, _)
          refine ev_ifne f347_22 (fun c75162 => absurd c75162 (by omega)) (fun c75162 => ?_)
          refine ev_iconst ?_
          exact ev_ret rfl (by decide) (by decide) ⟨_, rfl, g, k0, by (try unfold efF); (try unfold efG); (try unfold hiG); (repeat' split) <;> omega, ((ew0)).trans (by (try unfold efF); (try unfold efG); (try unfold hiG); (repeat' split) <;> omega)⟩
        · refine ev_iconst ?_
          refine ev_goto f242_15 ?_
          refine ev_ret rfl (by decide) (by decide) ?_
          show jEv _ _ _ _ _ _ _ (_, [(2, 42), (0, a1), (0, a2)], [(0, 1)], _, _, _)
          refine ev_ifne f347_22 (fun c75163 => ?_) (fun c75163 => absurd c75163 (by omega))
          refine ev_aload_n rfl ?_
          refine g_getv (r := 42) (v := w0) g ad42 (by decide) ft12_53 (ew0) ?_
          refine ev_iconst ?_
          refine ev_icmpne f347_33 (fun c75164 => ?_) (fun c75164 => ?_)
          · refine ev_aload_n rfl ?_
            refine g_getp (r := 42) (c := 72) g ad42 (by decide) (by decide) rf42_54 ft12_54 ?_
            refine ev_aload_n rfl ?_
            refine g_getv (r := 42) (v := w0) g ad42 (by decide) ft12_53 (ew0) ?_
            refine ev_iload_n rfl ?_
            refine g_iast g ad72 rt72 (fun _ => rfl) (by omega) (by omega) (by omega) (by omega) (fun h75165 e75165 g75165 => ?_)
            have k75165 := k0.wr e75165 rfl
            refine ev_aload_n rfl ?_
            refine g_getp (r := 42) (c := 73) g75165 ad42 (by decide) (by decide) rf42_55 ft12_55 ?_
            refine ev_aload_n rfl ?_
            refine g_getv (r := 42) (v := w0) g75165 ad42 (by decide) ft12_53 (((jw_ne e75165 (Or.inl (by decide))).trans ew0)) ?_
            refine ev_iload_n rfl ?_
            refine g_iast g75165 ad73 rt73 (fun _ => rfl) (by omega) (by omega) (by omega) (by omega) (fun h75166 e75166 g75166 => ?_)
            have k75166 := k75165.wr e75166 rfl
            refine ev_aload_n rfl ?_
            refine ev_dup (by decide) ?_
            refine g_getv (r := 42) (v := w0) g75166 ad42 (by decide) ft12_53 (((jw_ne e75166 (Or.inl (by decide))).trans ((jw_ne e75165 (Or.inl (by decide))).trans ew0))) ?_
            refine ev_iconst ?_
            refine ev_iadd (r := (w0 + 1)) (by unfold w32; omega) ?_
            refine g_putf (r := 42) g75166 ad42 (by decide) ft12_53 (by decide) (fun e => absurd e nz12_53) rf42_53 (by decide) (by omega) (by omega) (fun h75167 e75167 g75167 => ?_)
            have k75167 := k75166.wr e75167 rfl
            refine ev_aload_n rfl ?_
            refine g_getv (r := 42) (v := (w0 + 1)) g75167 ad42 (by decide) ft12_53 ((jw_eq e75167)) ?_
            exact ev_ret rfl (by decide) (by decide) ⟨_, rfl, g75167, k75167, by (try unfold efF); (try unfold efG); (try unfold hiG); (repeat' split) <;> omega, (((jw_eq e75167))).trans (by (try unfold efF); (try unfold efG); (try unfold hiG); (repeat' split) <;> omega)⟩
          · refine ev_bipush ?_
            exact ev_ret rfl (by decide) (by decide) ⟨_, rfl, g, k0, by (try unfold efF); (try unfold efG); (try unfold hiG); (repeat' split) <;> omega, ((ew0)).trans (by (try unfold efF); (try unfold efG); (try unfold hiG); (repeat' split) <;> omega)⟩
set_option maxHeartbeats 4000000 in
theorem t205 {G : GH} {h : JH} (g : Gd G h) {a1 : Int} (la1 : (-2147483648) ≤ a1) (ua1 : a1 ≤ 2147483647) {a2 : Int} (la2 : (-2147483648) ≤ a2) (ua2 : a2 ≤ 2147483647) {w0 : Int} (ew0 : h.2.2 26 9 = w0) (lw0 : 0 ≤ w0) (uw0 : w0 ≤ 4) : jOk 4 0 0 205 [(2, 0), (0, a1), (0, a2)] h (fun v h' => ∃ r : Int, v = some (0, r) ∧ Gd G h' ∧ Kp [(26, 10)] h h' ∧ h'.2.2 26 9 = hiG a1 a2 w0) := by
  refine ⟨by decide, by rw [ml205]; exact Nat.le_of_ble_eq_true rfl, ?_⟩
  rw [ml205, pp205]
  show jEv _ none _ c205_0 0 0 _ (c205_0, [(2, 0), (0, a1), (0, a2), (9, 0)], [], h, 0, 0)
  have k0 := Kp.rf [(26, 10)] h
  refine ev_iload_n rfl ?_
  refine ev_iflt f205_21 (fun c75204 => ?_) (fun c75204 => ?_)
  · refine ev_iconst ?_
    exact ev_ret rfl (by decide) (by decide) ⟨_, rfl, g, k0, ((ew0)).trans (by (try unfold efF); (try unfold efG); (try unfold hiG); (repeat' split) <;> omega)⟩
  · refine ev_iload_n rfl ?_
    refine ev_sipush ?_
    refine ev_icmpgt f205_21 (fun c75205 => ?_) (fun c75205 => ?_)
    · refine ev_iconst ?_
      exact ev_ret rfl (by decide) (by decide) ⟨_, rfl, g, k0, ((ew0)).trans (by (try unfold efF); (try unfold efG); (try unfold hiG); (repeat' split) <;> omega)⟩
    · refine ev_iload_n rfl ?_
      refine ev_iconst ?_
      refine ev_icmplt f205_21 (fun c75206 => ?_) (fun c75206 => ?_)
      · refine ev_iconst ?_
        exact ev_ret rfl (by decide) (by decide) ⟨_, rfl, g, k0, ((ew0)).trans (by (try unfold efF); (try unfold efG); (try unfold hiG); (repeat' split) <;> omega)⟩
      · refine ev_iload_n rfl ?_
        refine ev_iconst ?_
        refine ev_icmple f205_23 (fun c75207 => ?_) (fun c75207 => ?_)
        · refine ev_iload_n rfl ?_
          refine ev_iconst ?_
          refine ev_icmpne f205_36 (fun c75208 => ?_) (fun c75208 => ?_)
          · refine ev_aload_n rfl ?_
            refine g_getp (r := 0) (c := 26) g ad0 (by decide) (by decide) rf0_11 ft11_11 ?_
            refine g_getv (r := 26) (v := w0) g ad26 (by decide) ft9_9 (ew0) ?_
            refine ev_iconst ?_
            refine ev_icmpge f205_50 (fun c75209 => ?_) (fun c75209 => ?_)
            · refine ev_aload_n rfl ?_
              refine g_getp (r := 0) (c := 26) g ad0 (by decide) (by decide) rf0_11 ft11_11 ?_
              refine ev_iload_n rfl ?_
              refine ev_call (jcall_v (A := [(0, a1)]) (S' := []) (r := 26) rfl (g.lt ad26) (g.tg ad26) (Nat.le_of_ble_eq_true rfl)) (jOk_le (by decide) (s133 g (by omega) (by omega))) (by decide) (by decide) (fun w75210 h75210 q75210 => ?_)
              obtain ⟨v75211, rfl, lv75211, uv75211, g75210, kk75210⟩ := q75210
              have k75210 := k0.tr kk75210 (by decide)
              show jEv _ _ _ _ _ _ _ (_, [(2, 0), (0, a1), (0, a2), (9, 0)], [(0, v75211)], _, _, _)
              refine ev_istore_n (L' := [(2, 0), (0, a1), (0, a2), (0, v75211)]) (Nat.le_of_ble_eq_true rfl) rfl ?_
              refine ev_iload_n rfl ?_
              refine ev_ifne f205_65 (fun c75212 => ?_) (fun c75212 => ?_)
              · refine ev_iload_n rfl ?_
                refine ev_iconst ?_
                refine ev_icmpne f205_82 (fun c75213 => ?_) (fun c75213 => ?_)
                · refine ev_aload_n rfl ?_
                  refine g_getp (r := 0) (c := 26) g75210 ad0 (by decide) (by decide) rf0_11 ft11_11 ?_
                  refine ev_iload_n rfl ?_
                  refine ev_iload_n rfl ?_
                  refine ev_call (jcall_v (A := [(0, v75211), (0, a1)]) (S' := []) (r := 26) rfl (g75210.lt ad26) (g75210.tg ad26) (Nat.le_of_ble_eq_true rfl)) (jOk_le (by decide) (s132 g75210 (by omega) (by omega) (by omega) (by omega))) (by decide) (by decide) (fun w75214 h75214 q75214 => ?_)
                  obtain ⟨v75215, rfl, lv75215, uv75215, g75214, kk75214⟩ := q75214
                  have k75214 := k75210.tr kk75214 (by decide)
                  show jEv _ _ _ _ _ _ _ (_, [(2, 0), (0, a1), (0, a2), (0, v75211)], [(0, v75215)], _, _, _)
                  refine ev_i2l ?_
                  refine ev_ldc2_w ?_
                  refine ev_iload_n rfl ?_
                  refine ev_iconst ?_
                  refine ev_isub (r := (a2 - 2)) (by unfold w32; omega) ?_
                  refine ev_call (jcall_s (A := [(0, (a2 - 2)), (1, 10000), (1, v75215)]) (S' := []) (by decide) rfl (Nat.le_of_ble_eq_true rfl)) (jOk_le (by decide) (s223 g75214 (by omega) (by omega) (by omega) (by omega) (by omega) (by omega))) (by decide) (by decide) (fun w75216 h75216 q75216 => ?_)
                  obtain ⟨v75217, rfl, lv75217, uv75217, g75216, kk75216⟩ := q75216
                  have k75216 := k75214.tr kk75216 (by decide)
                  show jEv _ _ _ _ _ _ _ (_, [(2, 0), (0, a1), (0, a2), (0, v75211)], [(1, v75217)], _, _, _)
                  refine g_l2iG (fun v75218 ev75218 lv75218 uv75218 => ?_)
                  exact ev_ret rfl (by decide) (by decide) ⟨_, rfl, g75216, k75216, ((((kk75216.v (by decide)).trans ((kk75214.v (by decide)).trans ((kk75210.v (by decide)).trans ew0))))).trans (by (try unfold efF); (try unfold efG); (try unfold hiG); (repeat' split) <;> omega)⟩
                · refine ev_aload_n rfl ?_
                  refine g_getp (r := 0) (c := 26) g75210 ad0 (by decide) (by decide) rf0_11 ft11_11 ?_
                  refine ev_iload_n rfl ?_
                  refine ev_iload_n rfl ?_
                  refine ev_call (jcall_v (A := [(0, v75211), (0, a1)]) (S' := []) (r := 26) rfl (g75210.lt ad26) (g75210.tg ad26) (Nat.le_of_ble_eq_true rfl)) (jOk_le (by decide) (s131 g75210 (by omega) (by omega) (by omega) (by omega))) (by decide) (by decide) (fun w75219 h75219 q75219 => ?_)
                  obtain ⟨v75220, rfl, lv75220, uv75220, g75219, kk75219⟩ := q75219
                  have k75219 := k75210.tr kk75219 (by decide)
                  show jEv _ _ _ _ _ _ _ (_, [(2, 0), (0, a1), (0, a2), (0, v75211)], [(0, v75220)], _, _, _)
                  refine ev_goto f205_102 ?_
                  exact ev_ret rfl (by decide) (by decide) ⟨_, rfl, g75219, k75219, ((((kk75219.v (by decide)).trans ((kk75210.v (by decide)).trans ew0)))).trans (by (try unfold efF); (try unfold efG); (try unfold hiG); (repeat' split) <;> omega)⟩
              · refine ev_iload_n rfl ?_
                exact ev_ret rfl (by decide) (by decide) ⟨_, rfl, g75210, k75210, ((((kk75210.v (by decide)).trans ew0))).trans (by (try unfold efF); (try unfold efG); (try unfold hiG); (repeat' split) <;> omega)⟩
            · refine ev_bipush ?_
              exact ev_ret rfl (by decide) (by decide) ⟨_, rfl, g, k0, ((ew0)).trans (by (try unfold efF); (try unfold efG); (try unfold hiG); (repeat' split) <;> omega)⟩
          · refine ev_aload_n rfl ?_
            refine g_getp (r := 0) (c := 26) g ad0 (by decide) (by decide) rf0_11 ft11_11 ?_
            refine ev_in (d := 2) (a := 0) (b := 0) (cd' := c130_0) (m := 2) (L0 := [(2, 26), (9, 0)]) (jcall_v (A := []) (S' := []) (r := 26) rfl (g.lt ad26) (g.tg ad26) (Nat.le_of_ble_eq_true rfl)) (by decide) ml130 pp130 (Nat.le_of_ble_eq_true rfl) rfl (by decide) (by decide) ?_
            refine ev_aload_n rfl ?_
            refine g_getv (r := 26) (v := w0) g ad26 (by decide) ft9_9 (ew0) ?_
            refine ev_istore_n (L' := [(2, 26), (0, w0)]) (Nat.le_of_ble_eq_true rfl) rfl ?_
            refine ev_aload_n rfl ?_
            refine ev_iconst ?_
            refine g_putf (r := 26) g ad26 (by decide) ft9_9 (by decide) (fun e => absurd e nz9_9) rf26_9 (by decide) (by omega) (by omega) (fun h75221 e75221 g75221 => ?_)
            have k75221 := k0.wr e75221 rfl
            refine ev_iload_n rfl ?_
            refine ev_ret rfl (by decide) (by decide) ?_
            show jEv _ _ _ _ _ _ _ (_, [(2, 0), (0, a1), (0, a2), (9, 0)], [(0, w0)], _, _, _)
            exact ev_ret rfl (by decide) (by decide) ⟨_, rfl, g75221, k75221, (((jw_eq e75221))).trans (by (try unfold efF); (try unfold efG); (try unfold hiG); (repeat' split) <;> omega)⟩
        · refine ev_iconst ?_
          exact ev_ret rfl (by decide) (by decide) ⟨_, rfl, g, k0, ((ew0)).trans (by (try unfold efF); (try unfold efG); (try unfold hiG); (repeat' split) <;> omega)⟩
set_option maxHeartbeats 4000000 in
theorem t349_l {G : GH} {h : JH} {a1 : Int} (la1 : (-2147483648) ≤ a1) (ua1 : a1 ≤ 2147483647) {a2 : Int} (la2 : (-2147483648) ≤ a2) (ua2 : a2 ≤ 2147483647) {w0 : Int} (ew0 : h.2.2 42 53 = w0) (lw0 : 0 ≤ w0) (uw0 : w0 ≤ 4) : ∀ N : Nat, (∀ (h1 : JH) (x3 x4 x5 y0 : Int) (j6 : AV), Gd G h1 → Kp [(42, 54)] h h1 → 0 ≤ a1 → a1 ≤ 999 → 0 ≤ a2 → a2 ≤ 3 → 0 ≤ x3 → x3 ≤ 100 → (-1) ≤ x4 → x4 ≤ 9990000 → 0 ≤ x5 → x5 ≤ 101 → ((-w0) + y0) ≤ 0 → (w0 + (-y0)) ≤ 0 → h1.2.2 42 53 = y0 → 0 ≤ y0 → y0 ≤ 4 → ((-x5) + 101) < N → jEv (jOk 2) none (fun _ => 0) c349_0 0 0 (fun v h' => ∃ r : Int, v = some (0, r) ∧ Gd G h' ∧ Kp [(42, 54)] h h' ∧ h'.2.2 42 53 = hiG a1 a2 w0) (c349_58, [(2, 42), (0, a1), (0, a2), (0, x3), (0, x4), (0, x5), j6], [], h1, 0, 0)) := by
  intro N
  induction N with
  | zero => exact fun h1 x3 x4 x5 y0 j6 g1 k1 b0 b1 b2 b3 b4 b5 b6 b7 b8 b9 b10 b11 b12 b13 b14 hm => absurd hm (by omega)
  | succ N ih =>
    show _
    intro h1 x3 x4 x5 y0 j6 g1 k1 b0 b1 b2 b3 b4 b5 b6 b7 b8 b9 b10 b11 ey0 ly0 uy0 hm
    refine ev_iload rfl ?_
    refine ev_bipush ?_
    refine ev_icmpgt f349_110 (fun c75541 => ?_) (fun c75541 => ?_)
    · refine ev_iload_n rfl ?_
      refine ev_iconst ?_
      refine ev_icmpge f349_130 (fun c75542 => ?_) (fun c75542 => ?_)
      · refine ev_iload rfl ?_
        refine ev_i2l ?_
        refine ev_ldc2_w ?_
        refine ev_iload_n rfl ?_
        refine ev_iconst ?_
        refine ev_isub (r := (a2 - 2)) (by unfold w32; omega) ?_
        refine ev_call (jcall_s (A := [(0, (a2 - 2)), (1, 10000), (1, x4)]) (S' := []) (by decide) rfl (Nat.le_of_ble_eq_true rfl)) (jOk_le (by decide) (s244 g1 (by omega) (by omega) (by omega) (by omega) (by omega) (by omega))) (by decide) (by decide) (fun w75543 h75543 q75543 => ?_)
        obtain ⟨v75544, rfl, lv75544, uv75544, g75543, kk75543⟩ := q75543
        have k75543 := k1.tr kk75543 (by decide)
        show jEv _ _ _ _ _ _ _ (_, [(2, 42), (0, a1), (0, a2), (0, x3), (0, x4), (0, x5), j6], [(1, v75544)], _, _, _)
        refine g_l2iG (fun v75545 ev75545 lv75545 uv75545 => ?_)
        exact ev_ret rfl (by decide) (by decide) ⟨_, rfl, g75543, k75543, ((((kk75543.v (by decide)).trans ey0))).trans (by (try unfold efF); (try unfold efG); (try unfold hiG); (repeat' split) <;> omega)⟩
      · refine ev_iload_n rfl ?_
        refine ev_ifne f349_123 (fun c75546 => ?_) (fun c75546 => ?_)
        · refine ev_aload_n rfl ?_
          refine ev_iload_n rfl ?_
          refine ev_iload_n rfl ?_
          refine ev_call (jcall_v (A := [(0, a1), (0, x3)]) (S' := []) (r := 42) rfl (g1.lt ad42) (g1.tg ad42) (Nat.le_of_ble_eq_true rfl)) (jOk_le (by decide) (s348 g1 (by omega) (by omega) (by omega) (by omega))) (by decide) (by decide) (fun w75547 h75547 q75547 => ?_)
          obtain ⟨v75548, rfl, lv75548, uv75548, g75547, kk75547⟩ := q75547
          have k75547 := k1.tr kk75547 (by decide)
          show jEv _ _ _ _ _ _ _ (_, [(2, 42), (0, a1), (0, a2), (0, x3), (0, x4), (0, x5), j6], [(0, v75548)], _, _, _)
          exact ev_ret rfl (by decide) (by decide) ⟨_, rfl, g75547, k75547, ((((kk75547.v (by decide)).trans ey0))).trans (by (try unfold efF); (try unfold efG); (try unfold hiG); (repeat' split) <;> omega)⟩
        · refine ev_iload_n rfl ?_
          refine ev_goto f349_129 ?_
          exact ev_ret rfl (by decide) (by decide) ⟨_, rfl, g1, k1, ((ey0)).trans (by (try unfold efF); (try unfold efG); (try unfold hiG); (repeat' split) <;> omega)⟩
    · refine ev_bipush ?_
      refine ev_iload rfl ?_
      refine ev_isub (r := ((-x5) + 100)) (by unfold w32; omega) ?_
      refine ev_iload_n rfl ?_
      refine g_imulB (a := 100) (b := 999) (a' := 0) (b' := 0) (by omega) (by omega) (by omega) (by omega) (by decide) (lo := 0) (hi := 99900) (by decide) (by decide) (fun v75549 ev75549 lv75549 uv75549 => ?_)
      refine ev_aload_n rfl ?_
      refine g_getp (r := 42) (c := 73) g1 ad42 (by decide) (by decide) rf42_55 ft12_55 ?_
      refine ev_aload_n rfl ?_
      refine ev_iload rfl ?_
      refine ev_iload_n rfl ?_
      refine ev_call (jcall_v (A := [(0, a1), (0, x5)]) (S' := [(2, 73), (0, v75549)]) (r := 42) rfl (g1.lt ad42) (g1.tg ad42) (Nat.le_of_ble_eq_true rfl)) (jOk_le (by decide) (s348 g1 (by omega) (by omega) (by omega) (by omega))) (by decide) (by decide) (fun w75550 h75550 q75550 => ?_)
      obtain ⟨v75551, rfl, lv75551, uv75551, g75550, kk75550⟩ := q75550
      have k75550 := k1.tr kk75550 (by decide)
      show jEv _ _ _ _ _ _ _ (_, [(2, 42), (0, a1), (0, a2), (0, x3), (0, x4), (0, x5), j6], [(0, v75551), (2, 73), (0, v75549)], _, _, _)
      refine g_iald g75550 ad73 rt73 (by omega) (by omega) (fun v75552 ev75552 lv75552 uv75552 => ?_)
      refine g_imulB (a := 99900) (b := 100) (a' := 0) (b' := 0) (by omega) (by omega) (by omega) (by omega) (by decide) (lo := 0) (hi := 9990000) (by decide) (by decide) (fun v75553 ev75553 lv75553 uv75553 => ?_)
      refine ev_istore (L' := [(2, 42), (0, a1), (0, a2), (0, x3), (0, x4), (0, x5), (0, v75553)]) (Nat.le_of_ble_eq_true rfl) rfl ?_
      refine ev_iload rfl ?_
      refine ev_iload rfl ?_
      refine ev_icmpgt f349_97 (fun c75554 => ?_) (fun c75554 => ?_)
      · refine ev_iload rfl ?_
        refine ev_istore_n (L' := [(2, 42), (0, a1), (0, a2), (0, x5), (0, x4), (0, x5), (0, v75553)]) (Nat.le_of_ble_eq_true rfl) rfl ?_
        refine ev_iload rfl ?_
        refine ev_istore (L' := [(2, 42), (0, a1), (0, a2), (0, x5), (0, v75553), (0, x5), (0, v75553)]) (Nat.le_of_ble_eq_true rfl) rfl ?_
        refine ev_iinc (w := (x5 + 1)) (L' := [(2, 42), (0, a1), (0, a2), (0, x5), (0, v75553), (0, (x5 + 1)), (0, v75553)]) rfl (by unfold w32; omega) rfl ?_
        refine ev_goto f349_58 ?_
        exact ih _ _ _ _ _ _ g75550 k75550 (by omega) (by omega) (by omega) (by omega) (by omega) (by omega) (by omega) (by omega) (by omega) (by omega) (by omega) (by omega) (((kk75550.v (by decide)).trans ey0)) (by omega) (by omega) (by omega)
      · refine ev_goto f349_104 ?_
        refine ev_iinc (w := (x5 + 1)) (L' := [(2, 42), (0, a1), (0, a2), (0, x3), (0, x4), (0, (x5 + 1)), (0, v75553)]) rfl (by unfold w32; omega) rfl ?_
        refine ev_goto f349_58 ?_
        exact ih _ _ _ _ _ _ g75550 k75550 (by omega) (by omega) (by omega) (by omega) (by omega) (by omega) (by omega) (by omega) (by omega) (by omega) (by omega) (by omega) (((kk75550.v (by decide)).trans ey0)) (by omega) (by omega) (by omega)
set_option maxHeartbeats 4000000 in
theorem t349 {G : GH} {h : JH} (g : Gd G h) {a1 : Int} (la1 : (-2147483648) ≤ a1) (ua1 : a1 ≤ 2147483647) {a2 : Int} (la2 : (-2147483648) ≤ a2) (ua2 : a2 ≤ 2147483647) {w0 : Int} (ew0 : h.2.2 42 53 = w0) (lw0 : 0 ≤ w0) (uw0 : w0 ≤ 4) : jOk 3 0 0 349 [(2, 42), (0, a1), (0, a2)] h (fun v h' => ∃ r : Int, v = some (0, r) ∧ Gd G h' ∧ Kp [(42, 54)] h h' ∧ h'.2.2 42 53 = hiG a1 a2 w0) := by
  refine ⟨by decide, by rw [ml349]; exact Nat.le_of_ble_eq_true rfl, ?_⟩
  rw [ml349, pp349]
  show jEv _ none _ c349_0 0 0 _ (c349_0, [(2, 42), (0, a1), (0, a2), (9, 0), (9, 0), (9, 0), (9, 0)], [], h, 0, 0)
  have k0 := Kp.rf [(42, 54)] h
  refine ev_iload_n rfl ?_
  refine ev_iconst ?_
  refine ev_sipush ?_
  refine ev_in (d := 1) (a := 0) (b := 0) (cd' := c242_0) (m := 3) (L0 := [(0, a1), (0, 0), (0, 999)]) (jcall_s (A := [(0, 999), (0, 0), (0, a1)]) (S' := []) (by decide) rfl (Nat.le_of_ble_eq_true rfl)) (by decide) ml242 pp242 (Nat.le_of_ble_eq_true rfl) rfl (by decide) (by decide) ?_
  refine ev_iload_n rfl ?_
  refine ev_iload_n rfl ?_
  refine ev_icmplt f242_14 (fun c75555 => ?_) (fun c75555 => ?_)
  · refine ev_iconst ?_
    refine ev_ret rfl (by decide) (by decide) ?_
    show jEv _ _ _ _ _ _ _ (_, [(2, 42), (0, a1), (0, a2), (9, 0), (9, 0), (9, 0), (9, 0)], [(0, 0)], _, _, _)
    refine ev_ifeq f349_20 (fun c75556 => ?_) (fun c75556 => absurd c75556 (by omega))
    refine ev_iconst ?_
    exact ev_ret rfl (by decide) (by decide) ⟨_, rfl, g, k0, ((ew0)).trans (by (try unfold efF); (try unfold efG); (try unfold hiG); (repeat' split) <;> omega)⟩
  · refine ev_iload_n rfl ?_
    refine ev_iload_n rfl ?_
    refine ev_icmpgt f242_14 (fun c75557 => ?_) (fun c75557 => ?_)
    · refine ev_iconst ?_
      refine ev_ret rfl (by decide) (by decide) ?_
      show jEv _ _ _ _ _ _ _ (_, [(2, 42), (0, a1), (0, a2), (9, 0), (9, 0), (9, 0), (9, 0)], [(0, 0)], _, _, _)
      refine ev_ifeq f349_20 (fun c75558 => ?_) (fun c75558 => absurd c75558 (by omega))
      refine ev_iconst ?_
      exact ev_ret rfl (by decide) (by decide) ⟨_, rfl, g, k0, ((ew0)).trans (by (try unfold efF); (try unfold efG); (try unfold hiG); (repeat' split) <;> omega)⟩
    · refine ev_iconst ?_
      refine ev_goto f242_15 ?_
      refine ev_ret rfl (by decide) (by decide) ?_
      show jEv _ _ _ _ _ _ _ (_, [(2, 42), (0, a1), (0, a2), (9, 0), (9, 0), (9, 0), (9, 0)], [(0, 1)], _, _, _)
      refine ev_ifeq f349_20 (fun c75559 => absurd c75559 (by omega)) (fun c75559 => ?_)
      refine ev_iload_n rfl ?_
      refine ev_iconst ?_
      refine ev_iconst ?_
      refine ev_in (d := 1) (a := 0) (b := 0) (cd' := c242_0) (m := 3) (L0 := [(0, a2), (0, (-1)), (0, 3)]) (jcall_s (A := [(0, 3), (0, (-1)), (0, a2)]) (S' := []) (by decide) rfl (Nat.le_of_ble_eq_true rfl)) (by decide) ml242 pp242 (Nat.le_of_ble_eq_true rfl) rfl (by decide) (by decide) ?_
      refine ev_iload_n rfl ?_
      refine ev_iload_n rfl ?_
      refine ev_icmplt f242_14 (fun c75560 => ?_) (fun c75560 => ?_)
      · refine ev_iconst ?_
        refine ev_ret rfl (by decide) (by decide) ?_
        show jEv _ _ _ _ _ _ _ (_, [(2, 42), (0, a1), (0, a2), (9, 0), (9, 0), (9, 0), (9, 0)], [(0, 0)], _, _, _)
        refine ev_ifne f349_22 (fun c75561 => absurd c75561 (by omega)) (fun c75561 => ?_)
        refine ev_iconst ?_
        exact ev_ret rfl (by decide) (by decide) ⟨_, rfl, g, k0, ((ew0)).trans (by (try unfold efF); (try unfold efG); (try unfold hiG); (repeat' split) <;> omega)⟩
      · refine ev_iload_n rfl ?_
        refine ev_iload_n rfl ?_
        refine ev_icmpgt f242_14 (fun c75562 => ?_) (fun c75562 => ?_)
        · refine ev_iconst ?_
          refine ev_ret rfl (by decide) (by decide) ?_
          show jEv _ _ _ _ _ _ _ (_, [(2, 42), (0, a1), (0, a2), (9, 0), (9, 0), (9, 0), (9, 0)], [(0, 0)], _, _, _)
          refine ev_ifne f349_22 (fun c75563 => absurd c75563 (by omega)) (fun c75563 => ?_)
          refine ev_iconst ?_
          exact ev_ret rfl (by decide) (by decide) ⟨_, rfl, g, k0, ((ew0)).trans (by (try unfold efF); (try unfold efG); (try unfold hiG); (repeat' split) <;> omega)⟩
        · refine ev_iconst ?_
          refine ev_goto f242_15 ?_
          refine ev_ret rfl (by decide) (by decide) ?_
          show jEv _ _ _ _ _ _ _ (_, [(2, 42), (0, a1), (0, a2), (9, 0), (9, 0), (9, 0), (9, 0)], [(0, 1)], _, _, _)
          refine ev_ifne f349_22 (fun c75564 => ?_) (fun c75564 => absurd c75564 (by omega))
          refine ev_iload_n rfl ?_
          refine ev_iconst ?_
          refine ev_icmpne f349_39 (fun c75565 => ?_) (fun c75565 => ?_)
          · refine ev_aload_n rfl ?_
            refine g_getv (r := 42) (v := w0) g ad42 (by decide) ft12_53 (ew0) ?_
            refine ev_iconst ?_
            refine ev_icmpge f349_50 (fun c75566 => ?_) (fun c75566 => ?_)
            · refine ev_iconst ?_
              refine ev_istore_n (L' := [(2, 42), (0, a1), (0, a2), (0, 0), (9, 0), (9, 0), (9, 0)]) (Nat.le_of_ble_eq_true rfl) rfl ?_
              refine ev_iconst ?_
              refine ev_istore (L' := [(2, 42), (0, a1), (0, a2), (0, 0), (0, (-1)), (9, 0), (9, 0)]) (Nat.le_of_ble_eq_true rfl) rfl ?_
              refine ev_iconst ?_
              refine ev_istore (L' := [(2, 42), (0, a1), (0, a2), (0, 0), (0, (-1)), (0, 0), (9, 0)]) (Nat.le_of_ble_eq_true rfl) rfl ?_
              exact (t349_l la1 ua1 la2 ua2 ew0 lw0 uw0 204) _ _ _ _ _ _ g k0 (by omega) (by omega) (by omega) (by omega) (by omega) (by omega) (by omega) (by omega) (by omega) (by omega) (by omega) (by omega) (ew0) (by omega) (by omega) (by omega)
            · refine ev_bipush ?_
              exact ev_ret rfl (by decide) (by decide) ⟨_, rfl, g, k0, ((ew0)).trans (by (try unfold efF); (try unfold efG); (try unfold hiG); (repeat' split) <;> omega)⟩
          · refine ev_aload_n rfl ?_
            refine g_getv (r := 42) (v := w0) g ad42 (by decide) ft12_53 (ew0) ?_
            refine ev_istore_n (L' := [(2, 42), (0, a1), (0, a2), (0, w0), (9, 0), (9, 0), (9, 0)]) (Nat.le_of_ble_eq_true rfl) rfl ?_
            refine ev_aload_n rfl ?_
            refine ev_iconst ?_
            refine g_putf (r := 42) g ad42 (by decide) ft12_53 (by decide) (fun e => absurd e nz12_53) rf42_53 (by decide) (by omega) (by omega) (fun h75567 e75567 g75567 => ?_)
            have k75567 := k0.wr e75567 rfl
            refine ev_iload_n rfl ?_
            exact ev_ret rfl (by decide) (by decide) ⟨_, rfl, g75567, k75567, (((jw_eq e75567))).trans (by (try unfold efF); (try unfold efG); (try unfold hiG); (repeat' split) <;> omega)⟩
theorem jn11 : jN 11 = 17 := by decide +kernel
theorem jn12 : jN 12 = 66 := by decide +kernel
theorem ml384 : jML jnM = 4 := by decide +kernel
theorem pp384 : jP jnM = c384_0 := rfl
set_option maxRecDepth 100000 in
theorem jlawN : jchkN jnM = true := jchkNF_ok (by decide +kernel)
set_option maxRecDepth 100000 in
theorem f384_18 : jfind c384_0 18 = some c384_18 := rfl
set_option maxRecDepth 100000 in
theorem f384_260 : jfind c384_0 260 = some c384_260 := rfl
set_option maxRecDepth 100000 in
theorem f384_283 : jfind c384_0 283 = some c384_283 := rfl
set_option maxRecDepth 100000 in
theorem f384_316 : jfind c384_0 316 = some c384_316 := rfl
set_option maxRecDepth 100000 in
theorem f384_369 : jfind c384_0 369 = some c384_369 := rfl
set_option maxRecDepth 100000 in
theorem f384_382 : jfind c384_0 382 = some c384_382 := rfl
set_option maxRecDepth 100000 in
theorem f384_405 : jfind c384_0 405 = some c384_405 := rfl
set_option maxRecDepth 100000 in
theorem f384_448 : jfind c384_0 448 = some c384_448 := rfl
set_option maxRecDepth 100000 in
theorem f384_481 : jfind c384_0 481 = some c384_481 := rfl
set_option maxRecDepth 100000 in
theorem f384_494 : jfind c384_0 494 = some c384_494 := rfl
set_option maxRecDepth 100000 in
theorem f384_537 : jfind c384_0 537 = some c384_537 := rfl
set_option maxRecDepth 100000 in
theorem f384_590 : jfind c384_0 590 = some c384_590 := rfl
set_option maxRecDepth 100000 in
theorem f384_603 : jfind c384_0 603 = some c384_603 := rfl
set_option maxRecDepth 100000 in
theorem f384_616 : jfind c384_0 616 = some c384_616 := rfl
set_option maxRecDepth 100000 in
theorem f384_649 : jfind c384_0 649 = some c384_649 := rfl
set_option maxRecDepth 100000 in
theorem f384_682 : jfind c384_0 682 = some c384_682 := rfl
set_option maxRecDepth 100000 in
theorem f384_715 : jfind c384_0 715 = some c384_715 := rfl
set_option maxRecDepth 100000 in
theorem f384_758 : jfind c384_0 758 = some c384_758 := rfl
set_option maxRecDepth 100000 in
theorem f384_801 : jfind c384_0 801 = some c384_801 := rfl
set_option maxRecDepth 100000 in
theorem f384_844 : jfind c384_0 844 = some c384_844 := rfl
set_option maxRecDepth 100000 in
theorem f384_877 : jfind c384_0 877 = some c384_877 := rfl
set_option maxRecDepth 100000 in
theorem f384_930 : jfind c384_0 930 = some c384_930 := rfl
set_option maxRecDepth 100000 in
theorem f384_963 : jfind c384_0 963 = some c384_963 := rfl
set_option maxRecDepth 100000 in
theorem f384_1006 : jfind c384_0 1006 = some c384_1006 := rfl
set_option maxRecDepth 100000 in
theorem f384_1059 : jfind c384_0 1059 = some c384_1059 := rfl
set_option maxRecDepth 100000 in
theorem f384_1082 : jfind c384_0 1082 = some c384_1082 := rfl
set_option maxRecDepth 100000 in
theorem f384_1125 : jfind c384_0 1125 = some c384_1125 := rfl
set_option maxRecDepth 100000 in
theorem f384_1178 : jfind c384_0 1178 = some c384_1178 := rfl
set_option maxRecDepth 100000 in
theorem f384_1201 : jfind c384_0 1201 = some c384_1201 := rfl
set_option maxRecDepth 100000 in
theorem f384_1254 : jfind c384_0 1254 = some c384_1254 := rfl
set_option maxRecDepth 100000 in
theorem f384_1307 : jfind c384_0 1307 = some c384_1307 := rfl
set_option maxRecDepth 100000 in
theorem f384_1340 : jfind c384_0 1340 = some c384_1340 := rfl
set_option maxRecDepth 100000 in
theorem f384_1383 : jfind c384_0 1383 = some c384_1383 := rfl
set_option maxRecDepth 100000 in
theorem f384_1406 : jfind c384_0 1406 = some c384_1406 := rfl
set_option maxRecDepth 100000 in
theorem f384_1429 : jfind c384_0 1429 = some c384_1429 := rfl
set_option maxRecDepth 100000 in
theorem f384_1452 : jfind c384_0 1452 = some c384_1452 := rfl
set_option maxRecDepth 100000 in
theorem f384_1495 : jfind c384_0 1495 = some c384_1495 := rfl
set_option maxRecDepth 100000 in
theorem f384_1518 : jfind c384_0 1518 = some c384_1518 := rfl
set_option maxRecDepth 100000 in
theorem f384_1551 : jfind c384_0 1551 = some c384_1551 := rfl
set_option maxRecDepth 100000 in
theorem f384_1564 : jfind c384_0 1564 = some c384_1564 := rfl
set_option maxRecDepth 100000 in
theorem f384_1597 : jfind c384_0 1597 = some c384_1597 := rfl
set_option maxRecDepth 100000 in
theorem f384_1630 : jfind c384_0 1630 = some c384_1630 := rfl
set_option maxRecDepth 100000 in
theorem f384_1683 : jfind c384_0 1683 = some c384_1683 := rfl
set_option maxRecDepth 100000 in
theorem f384_1726 : jfind c384_0 1726 = some c384_1726 := rfl
set_option maxRecDepth 100000 in
theorem f384_1769 : jfind c384_0 1769 = some c384_1769 := rfl
set_option maxRecDepth 100000 in
theorem f384_1812 : jfind c384_0 1812 = some c384_1812 := rfl
set_option maxRecDepth 100000 in
theorem f384_1855 : jfind c384_0 1855 = some c384_1855 := rfl
set_option maxRecDepth 100000 in
theorem f384_1878 : jfind c384_0 1878 = some c384_1878 := rfl
set_option maxRecDepth 100000 in
theorem f384_1911 : jfind c384_0 1911 = some c384_1911 := rfl
set_option maxRecDepth 100000 in
theorem f384_1954 : jfind c384_0 1954 = some c384_1954 := rfl
set_option maxRecDepth 100000 in
theorem f384_2027 : jfind c384_0 2027 = some c384_2027 := rfl
set_option maxRecDepth 100000 in
theorem f384_2060 : jfind c384_0 2060 = some c384_2060 := rfl
set_option maxRecDepth 100000 in
theorem f384_2123 : jfind c384_0 2123 = some c384_2123 := rfl
set_option maxRecDepth 100000 in
theorem f384_2156 : jfind c384_0 2156 = some c384_2156 := rfl
set_option maxRecDepth 100000 in
theorem f384_2179 : jfind c384_0 2179 = some c384_2179 := rfl
set_option maxRecDepth 100000 in
theorem f384_2185 : jfind c384_0 2185 = some c384_2185 := rfl

