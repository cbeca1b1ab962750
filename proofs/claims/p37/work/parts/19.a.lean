def ofF (x n a b c d : Int) : Int := if 0 ≤ x ∧ x ≤ 99 then (if (0 < n ∧ a = x) ∨ (1 < n ∧ b = x) ∨ (2 < n ∧ c = x) ∨ (3 < n ∧ d = x) then -1 else if n = 4 then -3 else n + 1) else -1
def ofG (x n a b c d : Int) : Int := if 0 ≤ x ∧ x ≤ 99 ∧ ¬ ((0 < n ∧ a = x) ∨ (1 < n ∧ b = x) ∨ (2 < n ∧ c = x) ∨ (3 < n ∧ d = x)) ∧ n ≠ 4 then n + 1 else n
def ofH (j : Int) (x n a b c d o : Int) : Int := if 0 ≤ x ∧ x ≤ 99 ∧ ¬ ((0 < n ∧ a = x) ∨ (1 < n ∧ b = x) ∨ (2 < n ∧ c = x) ∨ (3 < n ∧ d = x)) ∧ n = j then x else o
def Cc : List (Nat × Nat) := [(26, 8), (31, 1), (31, 2), (31, 3), (31, 4), (42, 52), (71, 1), (71, 2), (71, 3), (71, 4)]
def Rl (h : JH) : Prop := h.2.2 26 7 = h.2.2 42 51 ∧ h.2.2 31 0 = h.2.2 71 0 ∧ h.2.2 31 1 = h.2.2 71 1 ∧ h.2.2 31 2 = h.2.2 71 2 ∧ h.2.2 31 3 = h.2.2 71 3 ∧ True
theorem Rl.fr {h h' : JH} (x : Rl h) (e : ∀ a i, inW Cc a i = true → h'.2.2 a i = h.2.2 a i) : Rl h' := by
  unfold Rl at x ⊢
  rw [e 26 7 rfl, e 31 0 rfl, e 31 1 rfl, e 31 2 rfl, e 31 3 rfl, e 42 51 rfl, e 71 0 rfl, e 71 1 rfl, e 71 2 rfl, e 71 3 rfl]
  exact x
def dsj (C W : List (Nat × Nat)) : Bool := C.all (fun c => decide (c.1 < 83) && W.all (fun w => w.1 != c.1 || (w.2 != 0 && c.2 != 0 && w.2 != c.2)))
theorem dsj_at {C W : List (Nat × Nat)} (h : dsj C W = true) {a i : Nat} (hc : inW C a i = true) : a < 83 ∧ inW W a i = false := by
  unfold inW at hc
  obtain ⟨c, hm, hq⟩ := List.any_eq_true.mp hc
  have h1 := List.all_eq_true.mp h c hm
  rw [Bool.and_eq_true, decide_eq_true_eq] at h1
  simp only [Bool.or_eq_true, Bool.and_eq_true, beq_iff_eq, decide_eq_true_eq] at hq
  have ha : a < 83 := by omega
  refine ⟨ha, ?_⟩
  unfold inW
  rw [List.any_eq_false]
  intro w hw hx
  have h2 := List.all_eq_true.mp h1.2 w hw
  simp only [Bool.or_eq_true, Bool.and_eq_true, bne_iff_ne] at h2
  simp only [Bool.or_eq_true, Bool.and_eq_true, beq_iff_eq, decide_eq_true_eq] at hx
  omega
theorem Rl.kp {W : List (Nat × Nat)} {h h' : JH} (x : Rl h) (k : Kp W h h') (hd : dsj Cc W = true) : Rl h' := x.fr (fun a i hc => k.v (dsj_at hd hc).2)
theorem Rl.kx {W : List (Nat × Nat)} {h h' : JH} (x : Rl h) (k : Kx W h h') (hd : dsj Cc W = true) (h83 : 83 ≤ h.1) : Rl h' := x.fr (fun a i hc => k.2.2 a i (Nat.lt_of_lt_of_le (dsj_at hd hc).1 h83) (dsj_at hd hc).2)
set_option maxHeartbeats 4000000 in
theorem t201_0 {G : GH} {h : JH} (g : Gd G h) {a1 : Int} (la1 : (-2147483648) ≤ a1) (ua1 : a1 ≤ 2147483647) (ew0 : h.2.2 26 7 = 0) {w1 : Int} (ew1 : h.2.2 31 0 = w1) (lw1 : 0 ≤ w1) (uw1 : w1 ≤ 99) {w2 : Int} (ew2 : h.2.2 31 1 = w2) (lw2 : 0 ≤ w2) (uw2 : w2 ≤ 99) {w3 : Int} (ew3 : h.2.2 31 2 = w3) (lw3 : 0 ≤ w3) (uw3 : w3 ≤ 99) {w4 : Int} (ew4 : h.2.2 31 3 = w4) (lw4 : 0 ≤ w4) (uw4 : w4 ≤ 99) : jOk 2 0 0 201 [(2, 0), (0, a1)] h (fun v h' => ∃ r : Int, v = some (0, r) ∧ Gd G h' ∧ Kp [(26, 8), (31, 0)] h h' ∧ r = ofF a1 0 w1 w2 w3 w4 ∧ h'.2.2 26 7 = ofG a1 0 w1 w2 w3 w4 ∧ h'.2.2 31 0 = ofH 0 a1 0 w1 w2 w3 w4 w1 ∧ h'.2.2 31 1 = ofH 1 a1 0 w1 w2 w3 w4 w2 ∧ h'.2.2 31 2 = ofH 2 a1 0 w1 w2 w3 w4 w3 ∧ h'.2.2 31 3 = ofH 3 a1 0 w1 w2 w3 w4 w4) := by
  refine ⟨by decide, by rw [ml201]; exact Nat.le_of_ble_eq_true rfl, ?_⟩
  rw [ml201, pp201]
  show jEv _ none _ c201_0 0 0 _ (c201_0, [(2, 0), (0, a1)], [], h, 0, 0)
  have k0 := Kp.rf [(26, 8), (31, 0)] h
  refine ev_iload_n rfl ?_
  refine ev_iflt f201_10 (fun c75114 => ?_) (fun c75114 => ?_)
  · refine ev_iconst ?_
    refine ev_goto f201_22 ?_
    exact ev_ret rfl (by decide) (by decide) ⟨_, rfl, g, k0, by (try unfold ofF); (try unfold ofG); (try unfold ofH); (repeat' split) <;> omega, ((ew0)).trans (by (try unfold ofF); (try unfold ofG); (try unfold ofH); (repeat' split) <;> omega), ((ew1)).trans (by (try unfold ofF); (try unfold ofG); (try unfold ofH); (repeat' split) <;> omega), ((ew2)).trans (by (try unfold ofF); (try unfold ofG); (try unfold ofH); (repeat' split) <;> omega), ((ew3)).trans (by (try unfold ofF); (try unfold ofG); (try unfold ofH); (repeat' split) <;> omega), ((ew4)).trans (by (try unfold ofF); (try unfold ofG); (try unfold ofH); (repeat' split) <;> omega)⟩
  · refine ev_iload_n rfl ?_
    refine ev_bipush ?_
    refine ev_icmple f201_14 (fun c75115 => ?_) (fun c75115 => ?_)
    · refine ev_aload_n rfl ?_
      refine g_getp (r := 0) (c := 26) g ad0 (by decide) (by decide) rf0_11 ft11_11 ?_
      refine ev_iload_n rfl ?_
      refine ev_in (d := 0) (a := 0) (b := 0) (cd' := c120_0) (m := 3) (L0 := [(2, 26), (0, a1), (9, 0)]) (jcall_v (A := [(0, a1)]) (S' := []) (r := 26) rfl (g.lt ad26) (g.tg ad26) (Nat.le_of_ble_eq_true rfl)) (by decide) ml120 pp120 (Nat.le_of_ble_eq_true rfl) rfl (by decide) (by decide) ?_
      refine ev_iconst ?_
      refine ev_istore_n (L' := [(2, 26), (0, a1), (0, 0)]) (Nat.le_of_ble_eq_true rfl) rfl ?_
      refine ev_iload_n rfl ?_
      refine ev_aload_n rfl ?_
      refine g_getv (r := 26) (v := 0) g ad26 (by decide) ft9_7 (ew0) ?_
      refine ev_icmpge f120_28 (fun c75116 => ?_) (fun c75116 => absurd c75116 (by omega))
      refine ev_aload_n rfl ?_
      refine g_getv (r := 26) (v := 0) g ad26 (by decide) ft9_7 (ew0) ?_
      refine ev_iconst ?_
      refine ev_icmplt f120_39 (fun c75117 => ?_) (fun c75117 => absurd c75117 (by omega))
      refine ev_aload_n rfl ?_
      refine g_getp (r := 26) (c := 31) g ad26 (by decide) (by decide) rf26_8 ft9_8 ?_
      refine ev_aload_n rfl ?_
      refine g_getv (r := 26) (v := 0) g ad26 (by decide) ft9_7 (ew0) ?_
      refine ev_iload_n rfl ?_
      refine g_iast g ad31 rt31 (fun _ => rfl) (by omega) (by omega) (by omega) (by omega) (fun h75118 e75118 g75118 => ?_)
      have k75118 := k0.wr e75118 rfl
      refine ev_aload_n rfl ?_
      refine ev_dup (by decide) ?_
      refine g_getv (r := 26) (v := 0) g75118 ad26 (by decide) ft9_7 (((jw_ne e75118 (Or.inl (by decide))).trans ew0)) ?_
      refine ev_iconst ?_
      refine ev_iadd (r := 1) (by decide) ?_
      refine g_putf (r := 26) g75118 ad26 (by decide) ft9_7 (by decide) (fun e => absurd e nz9_7) rf26_7 (by decide) (by omega) (by omega) (fun h75119 e75119 g75119 => ?_)
      have k75119 := k75118.wr e75119 rfl
      refine ev_aload_n rfl ?_
      refine g_getv (r := 26) (v := 1) g75119 ad26 (by decide) ft9_7 ((jw_eq e75119)) ?_
      refine ev_ret rfl (by decide) (by decide) ?_
      show jEv _ _ _ _ _ _ _ (_, [(2, 0), (0, a1)], [(0, 1)], _, _, _)
      exact ev_ret rfl (by decide) (by decide) ⟨_, rfl, g75119, k75119, by (try unfold ofF); (try unfold ofG); (try unfold ofH); (repeat' split) <;> omega, (((jw_eq e75119))).trans (by (try unfold ofF); (try unfold ofG); (try unfold ofH); (repeat' split) <;> omega), ((((jw_ne e75119 (Or.inl (by decide))).trans (jw_eq e75118)))).trans (by (try unfold ofF); (try unfold ofG); (try unfold ofH); (repeat' split) <;> omega), ((((jw_ne e75119 (Or.inl (by decide))).trans ((jw_ne e75118 (Or.inr (by decide))).trans ew2)))).trans (by (try unfold ofF); (try unfold ofG); (try unfold ofH); (repeat' split) <;> omega), ((((jw_ne e75119 (Or.inl (by decide))).trans ((jw_ne e75118 (Or.inr (by decide))).trans ew3)))).trans (by (try unfold ofF); (try unfold ofG); (try unfold ofH); (repeat' split) <;> omega), ((((jw_ne e75119 (Or.inl (by decide))).trans ((jw_ne e75118 (Or.inr (by decide))).trans ew4)))).trans (by (try unfold ofF); (try unfold ofG); (try unfold ofH); (repeat' split) <;> omega)⟩
    · refine ev_iconst ?_
      refine ev_goto f201_22 ?_
      exact ev_ret rfl (by decide) (by decide) ⟨_, rfl, g, k0, by (try unfold ofF); (try unfold ofG); (try unfold ofH); (repeat' split) <;> omega, ((ew0)).trans (by (try unfold ofF); (try unfold ofG); (try unfold ofH); (repeat' split) <;> omega), ((ew1)).trans (by (try unfold ofF); (try unfold ofG); (try unfold ofH); (repeat' split) <;> omega), ((ew2)).trans (by (try unfold ofF); (try unfold ofG); (try unfold ofH); (repeat' split) <;> omega), ((ew3)).trans (by (try unfold ofF); (try unfold ofG); (try unfold ofH); (repeat' split) <;> omega), ((ew4)).trans (by (try unfold ofF); (try unfold ofG); (try unfold ofH); (repeat' split) <;> omega)⟩
set_option maxHeartbeats 4000000 in
theorem t201_1 {G : GH} {h : JH} (g : Gd G h) {a1 : Int} (la1 : (-2147483648) ≤ a1) (ua1 : a1 ≤ 2147483647) (ew0 : h.2.2 26 7 = 1) {w1 : Int} (ew1 : h.2.2 31 0 = w1) (lw1 : 0 ≤ w1) (uw1 : w1 ≤ 99) {w2 : Int} (ew2 : h.2.2 31 1 = w2) (lw2 : 0 ≤ w2) (uw2 : w2 ≤ 99) {w3 : Int} (ew3 : h.2.2 31 2 = w3) (lw3 : 0 ≤ w3) (uw3 : w3 ≤ 99) {w4 : Int} (ew4 : h.2.2 31 3 = w4) (lw4 : 0 ≤ w4) (uw4 : w4 ≤ 99) : jOk 2 0 0 201 [(2, 0), (0, a1)] h (fun v h' => ∃ r : Int, v = some (0, r) ∧ Gd G h' ∧ Kp [(26, 8), (31, 0)] h h' ∧ r = ofF a1 1 w1 w2 w3 w4 ∧ h'.2.2 26 7 = ofG a1 1 w1 w2 w3 w4 ∧ h'.2.2 31 0 = ofH 0 a1 1 w1 w2 w3 w4 w1 ∧ h'.2.2 31 1 = ofH 1 a1 1 w1 w2 w3 w4 w2 ∧ h'.2.2 31 2 = ofH 2 a1 1 w1 w2 w3 w4 w3 ∧ h'.2.2 31 3 = ofH 3 a1 1 w1 w2 w3 w4 w4) := by
  refine ⟨by decide, by rw [ml201]; exact Nat.le_of_ble_eq_true rfl, ?_⟩
  rw [ml201, pp201]
  show jEv _ none _ c201_0 0 0 _ (c201_0, [(2, 0), (0, a1)], [], h, 0, 0)
  have k0 := Kp.rf [(26, 8), (31, 0)] h
  refine ev_iload_n rfl ?_
  refine ev_iflt f201_10 (fun c75136 => ?_) (fun c75136 => ?_)
  · refine ev_iconst ?_
    refine ev_goto f201_22 ?_
    exact ev_ret rfl (by decide) (by decide) ⟨_, rfl, g, k0, by (try unfold ofF); (try unfold ofG); (try unfold ofH); (repeat' split) <;> omega, ((ew0)).trans (by (try unfold ofF); (try unfold ofG); (try unfold ofH); (repeat' split) <;> omega), ((ew1)).trans (by (try unfold ofF); (try unfold ofG); (try unfold ofH); (repeat' split) <;> omega), ((ew2)).trans (by (try unfold ofF); (try unfold ofG); (try unfold ofH); (repeat' split) <;> omega), ((ew3)).trans (by (try unfold ofF); (try unfold ofG); (try unfold ofH); (repeat' split) <;> omega), ((ew4)).trans (by (try unfold ofF); (try unfold ofG); (try unfold ofH); (repeat' split) <;> omega)⟩
  · refine ev_iload_n rfl ?_
    refine ev_bipush ?_
    refine ev_icmple f201_14 (fun c75137 => ?_) (fun c75137 => ?_)
    · refine ev_aload_n rfl ?_
      refine g_getp (r := 0) (c := 26) g ad0 (by decide) (by decide) rf0_11 ft11_11 ?_
      refine ev_iload_n rfl ?_
      refine ev_in (d := 0) (a := 0) (b := 0) (cd' := c120_0) (m := 3) (L0 := [(2, 26), (0, a1), (9, 0)]) (jcall_v (A := [(0, a1)]) (S' := []) (r := 26) rfl (g.lt ad26) (g.tg ad26) (Nat.le_of_ble_eq_true rfl)) (by decide) ml120 pp120 (Nat.le_of_ble_eq_true rfl) rfl (by decide) (by decide) ?_
      refine ev_iconst ?_
      refine ev_istore_n (L' := [(2, 26), (0, a1), (0, 0)]) (Nat.le_of_ble_eq_true rfl) rfl ?_
      refine ev_iload_n rfl ?_
      refine ev_aload_n rfl ?_
      refine g_getv (r := 26) (v := 1) g ad26 (by decide) ft9_7 (ew0) ?_
      refine ev_icmpge f120_28 (fun c75138 => absurd c75138 (by omega)) (fun c75138 => ?_)
      refine ev_aload_n rfl ?_
      refine g_getp (r := 26) (c := 31) g ad26 (by decide) (by decide) rf26_8 ft9_8 ?_
      refine ev_iload_n rfl ?_
      refine g_ialdv (v := w1) g ad31 (by omega) (by omega) (ew1) ?_
      refine ev_iload_n rfl ?_
      refine ev_icmpne f120_22 (fun c75139 => ?_) (fun c75139 => ?_)
      · refine ev_iinc (w := 1) (L' := [(2, 26), (0, a1), (0, 1)]) rfl (by decide) rfl ?_
        refine ev_goto f120_2 ?_
        refine ev_iload_n rfl ?_
        refine ev_aload_n rfl ?_
        refine g_getv (r := 26) (v := 1) g ad26 (by decide) ft9_7 (ew0) ?_
        refine ev_icmpge f120_28 (fun c75140 => ?_) (fun c75140 => absurd c75140 (by omega))
        refine ev_aload_n rfl ?_
        refine g_getv (r := 26) (v := 1) g ad26 (by decide) ft9_7 (ew0) ?_
        refine ev_iconst ?_
        refine ev_icmplt f120_39 (fun c75141 => ?_) (fun c75141 => absurd c75141 (by omega))
        refine ev_aload_n rfl ?_
        refine g_getp (r := 26) (c := 31) g ad26 (by decide) (by decide) rf26_8 ft9_8 ?_
        refine ev_aload_n rfl ?_
        refine g_getv (r := 26) (v := 1) g ad26 (by decide) ft9_7 (ew0) ?_
        refine ev_iload_n rfl ?_
        refine g_iast g ad31 rt31 (fun _ => rfl) (by omega) (by omega) (by omega) (by omega) (fun h75142 e75142 g75142 => ?_)
        have k75142 := k0.wr e75142 rfl
        refine ev_aload_n rfl ?_
        refine ev_dup (by decide) ?_
        refine g_getv (r := 26) (v := 1) g75142 ad26 (by decide) ft9_7 (((jw_ne e75142 (Or.inl (by decide))).trans ew0)) ?_
        refine ev_iconst ?_
        refine ev_iadd (r := 2) (by decide) ?_
        refine g_putf (r := 26) g75142 ad26 (by decide) ft9_7 (by decide) (fun e => absurd e nz9_7) rf26_7 (by decide) (by omega) (by omega) (fun h75143 e75143 g75143 => ?_)
        have k75143 := k75142.wr e75143 rfl
        refine ev_aload_n rfl ?_
        refine g_getv (r := 26) (v := 2) g75143 ad26 (by decide) ft9_7 ((jw_eq e75143)) ?_
        refine ev_ret rfl (by decide) (by decide) ?_
        show jEv _ _ _ _ _ _ _ (_, [(2, 0), (0, a1)], [(0, 2)], _, _, _)
        exact ev_ret rfl (by decide) (by decide) ⟨_, rfl, g75143, k75143, by (try unfold ofF); (try unfold ofG); (try unfold ofH); (repeat' split) <;> omega, (((jw_eq e75143))).trans (by (try unfold ofF); (try unfold ofG); (try unfold ofH); (repeat' split) <;> omega), ((((jw_ne e75143 (Or.inl (by decide))).trans ((jw_ne e75142 (Or.inr (by decide))).trans ew1)))).trans (by (try unfold ofF); (try unfold ofG); (try unfold ofH); (repeat' split) <;> omega), ((((jw_ne e75143 (Or.inl (by decide))).trans (jw_eq e75142)))).trans (by (try unfold ofF); (try unfold ofG); (try unfold ofH); (repeat' split) <;> omega), ((((jw_ne e75143 (Or.inl (by decide))).trans ((jw_ne e75142 (Or.inr (by decide))).trans ew3)))).trans (by (try unfold ofF); (try unfold ofG); (try unfold ofH); (repeat' split) <;> omega), ((((jw_ne e75143 (Or.inl (by decide))).trans ((jw_ne e75142 (Or.inr (by decide))).trans ew4)))).trans (by (try unfold ofF); (try unfold ofG); (try unfold ofH); (repeat' split) <;> omega)⟩
      · refine ev_iconst ?_
        refine ev_ret rfl (by decide) (by decide) ?_
        show jEv _ _ _ _ _ _ _ (_, [(2, 0), (0, a1)], [(0, (-1))], _, _, _)
        exact ev_ret rfl (by decide) (by decide) ⟨_, rfl, g, k0, by (try unfold ofF); (try unfold ofG); (try unfold ofH); (repeat' split) <;> omega, ((ew0)).trans (by (try unfold ofF); (try unfold ofG); (try unfold ofH); (repeat' split) <;> omega), ((ew1)).trans (by (try unfold ofF); (try unfold ofG); (try unfold ofH); (repeat' split) <;> omega), ((ew2)).trans (by (try unfold ofF); (try unfold ofG); (try unfold ofH); (repeat' split) <;> omega), ((ew3)).trans (by (try unfold ofF); (try unfold ofG); (try unfold ofH); (repeat' split) <;> omega), ((ew4)).trans (by (try unfold ofF); (try unfold ofG); (try unfold ofH); (repeat' split) <;> omega)⟩
    · refine ev_iconst ?_
      refine ev_goto f201_22 ?_
      exact ev_ret rfl (by decide) (by decide) ⟨_, rfl, g, k0, by (try unfold ofF); (try unfold ofG); (try unfold ofH); (repeat' split) <;> omega, ((ew0)).trans (by (try unfold ofF); (try unfold ofG); (try unfold ofH); (repeat' split) <;> omega), ((ew1)).trans (by (try unfold ofF); (try unfold ofG); (try unfold ofH); (repeat' split) <;> omega), ((ew2)).trans (by (try unfold ofF); (try unfold ofG); (try unfold ofH); (repeat' split) <;> omega), ((ew3)).trans (by (try unfold ofF); (try unfold ofG); (try unfold ofH); (repeat' split) <;> omega), ((ew4)).trans (by (try unfold ofF); (try unfold ofG); (try unfold ofH); (repeat' split) <;> omega)⟩
set_option maxHeartbeats 4000000 in
theorem t201_2 {G : GH} {h : JH} (g : Gd G h) {a1 : Int} (la1 : (-2147483648) ≤ a1) (ua1 : a1 ≤ 2147483647) (ew0 : h.2.2 26 7 = 2) {w1 : Int} (ew1 : h.2.2 31 0 = w1) (lw1 : 0 ≤ w1) (uw1 : w1 ≤ 99) {w2 : Int} (ew2 : h.2.2 31 1 = w2) (lw2 : 0 ≤ w2) (uw2 : w2 ≤ 99) {w3 : Int} (ew3 : h.2.2 31 2 = w3) (lw3 : 0 ≤ w3) (uw3 : w3 ≤ 99) {w4 : Int} (ew4 : h.2.2 31 3 = w4) (lw4 : 0 ≤ w4) (uw4 : w4 ≤ 99) : jOk 2 0 0 201 [(2, 0), (0, a1)] h (fun v h' => ∃ r : Int, v = some (0, r) ∧ Gd G h' ∧ Kp [(26, 8), (31, 0)] h h' ∧ r = ofF a1 2 w1 w2 w3 w4 ∧ h'.2.2 26 7 = ofG a1 2 w1 w2 w3 w4 ∧ h'.2.2 31 0 = ofH 0 a1 2 w1 w2 w3 w4 w1 ∧ h'.2.2 31 1 = ofH 1 a1 2 w1 w2 w3 w4 w2 ∧ h'.2.2 31 2 = ofH 2 a1 2 w1 w2 w3 w4 w3 ∧ h'.2.2 31 3 = ofH 3 a1 2 w1 w2 w3 w4 w4) := by
  refine ⟨by decide, by rw [ml201]; exact Nat.le_of_ble_eq_true rfl, ?_⟩
  rw [ml201, pp201]
  show jEv _ none _ c201_0 0 0 _ (c201_0, [(2, 0), (0, a1)], [], h, 0, 0)
  have k0 := Kp.rf [(26, 8), (31, 0)] h
  refine ev_iload_n rfl ?_
  refine ev_iflt f201_10 (fun c75164 => ?_) (fun c75164 => ?_)
  · refine ev_iconst ?_
    refine ev_goto f201_22 ?_
    exact ev_ret rfl (by decide) (by decide) ⟨_, rfl, g, k0, by (try unfold ofF); (try unfold ofG); (try unfold ofH); (repeat' split) <;> omega, ((ew0)).trans (by (try unfold ofF); (try unfold ofG); (try unfold ofH); (repeat' split) <;> omega), ((ew1)).trans (by (try unfold ofF); (try unfold ofG); (try unfold ofH); (repeat' split) <;> omega), ((ew2)).trans (by (try unfold ofF); (try unfold ofG); (try unfold ofH); (repeat' split) <;> omega), ((ew3)).trans (by (try unfold ofF); (try unfold ofG); (try unfold ofH); (repeat' split) <;> omega), ((ew4)).trans (by (try unfold ofF); (try unfold ofG); (try unfold ofH); (repeat' split) <;> omega)⟩
  · refine ev_iload_n rfl ?_
    refine ev_bipush ?_
    refine ev_icmple f201_14 (fun c75165 => ?_) (fun c75165 => ?_)
    · refine ev_aload_n rfl ?_
      refine g_getp (r := 0) (c := 26) g ad0 (by decide) (by decide) rf0_11 ft11_11 ?_
      refine ev_iload_n rfl ?_
      refine ev_in (d := 0) (a := 0) (b := 0) (cd' := c120_0) (m := 3) (L0 := [(2, 26), (0, a1), (9, 0)]) (jcall_v (A := [(0, a1)]) (S' := []) (r := 26) rfl (g.lt ad26) (g.tg ad26) (Nat.le_of_ble_eq_true rfl)) (by decide) ml120 pp120 (Nat.le_of_ble_eq_true rfl) rfl (by decide) (by decide) ?_
      refine ev_iconst ?_
      refine ev_istore_n (L' := [(2, 26), (0, a1), (0, 0)]) (Nat.le_of_ble_eq_true rfl) rfl ?_
      refine ev_iload_n rfl ?_
      refine ev_aload_n rfl ?_
      refine g_getv (r := 26) (v := 2) g ad26 (by decide) ft9_7 (ew0) ?_
      refine ev_icmpge f120_28 (fun c75166 => absurd c75166 (by omega)) (fun c75166 => ?_)
      refine ev_aload_n rfl ?_
      refine g_getp (r := 26) (c := 31) g ad26 (by decide) (by decide) rf26_8 ft9_8 ?_
      refine ev_iload_n rfl ?_
      refine g_ialdv (v := w1) g ad31 (by omega) (by omega) (ew1) ?_
      refine ev_iload_n rfl ?_
      refine ev_icmpne f120_22 (fun c75167 => ?_) (fun c75167 => ?_)
      · refine ev_iinc (w := 1) (L' := [(2, 26), (0, a1), (0, 1)]) rfl (by decide) rfl ?_
        refine ev_goto f120_2 ?_
        refine ev_iload_n rfl ?_
        refine ev_aload_n rfl ?_
        refine g_getv (r := 26) (v := 2) g ad26 (by decide) ft9_7 (ew0) ?_
        refine ev_icmpge f120_28 (fun c75168 => absurd c75168 (by omega)) (fun c75168 => ?_)
        refine ev_aload_n rfl ?_
        refine g_getp (r := 26) (c := 31) g ad26 (by decide) (by decide) rf26_8 ft9_8 ?_
        refine ev_iload_n rfl ?_
        refine g_ialdv (v := w2) g ad31 (by omega) (by omega) (ew2) ?_
        refine ev_iload_n rfl ?_
        refine ev_icmpne f120_22 (fun c75169 => ?_) (fun c75169 => ?_)
        · refine ev_iinc (w := 2) (L' := [(2, 26), (0, a1), (0, 2)]) rfl (by decide) rfl ?_
          refine ev_goto f120_2 ?_
          refine ev_iload_n rfl ?_
          refine ev_aload_n rfl ?_
          refine g_getv (r := 26) (v := 2) g ad26 (by decide) ft9_7 (ew0) ?_
          refine ev_icmpge f120_28 (fun c75170 => ?_) (fun c75170 => absurd c75170 (by omega))
          refine ev_aload_n rfl ?_
          refine g_getv (r := 26) (v := 2) g ad26 (by decide) ft9_7 (ew0) ?_
          refine ev_iconst ?_
          refine ev_icmplt f120_39 (fun c75171 => ?_) (fun c75171 => absurd c75171 (by omega))
          refine ev_aload_n rfl ?_
          refine g_getp (r := 26) (c := 31) g ad26 (by decide) (by decide) rf26_8 ft9_8 ?_
          refine ev_aload_n rfl ?_
          refine g_getv (r := 26) (v := 2) g ad26 (by decide) ft9_7 (ew0) ?_
          refine ev_iload_n rfl ?_
          refine g_iast g ad31 rt31 (fun _ => rfl) (by omega) (by omega) (by omega) (by omega) (fun h75172 e75172 g75172 => ?_)
          have k75172 := k0.wr e75172 rfl
          refine ev_aload_n rfl ?_
          refine ev_dup (by decide) ?_
          refine g_getv (r := 26) (v := 2) g75172 ad26 (by decide) ft9_7 (((jw_ne e75172 (Or.inl (by decide))).trans ew0)) ?_
          refine ev_iconst ?_
          refine ev_iadd (r := 3) (by decide) ?_
          refine g_putf (r := 26) g75172 ad26 (by decide) ft9_7 (by decide) (fun e => absurd e nz9_7) rf26_7 (by decide) (by omega) (by omega) (fun h75173 e75173 g75173 => ?_)
          have k75173 := k75172.wr e75173 rfl
          refine ev_aload_n rfl ?_
          refine g_getv (r := 26) (v := 3) g75173 ad26 (by decide) ft9_7 ((jw_eq e75173)) ?_
          refine ev_ret rfl (by decide) (by decide) ?_
          show jEv _ _ _ _ _ _ _ (_, [(2, 0), (0, a1)], [(0, 3)], _, _, _)
          exact ev_ret rfl (by decide) (by decide) ⟨_, rfl, g75173, k75173, by (try unfold ofF); (try unfold ofG); (try unfold ofH); (repeat' split) <;> omega, (((jw_eq e75173))).trans (by (try unfold ofF); (try unfold ofG); (try unfold ofH); (repeat' split) <;> omega), ((((jw_ne e75173 (Or.inl (by decide))).trans ((jw_ne e75172 (Or.inr (by decide))).trans ew1)))).trans (by (try unfold ofF); (try unfold ofG); (try unfold ofH); (repeat' split) <;> omega), ((((jw_ne e75173 (Or.inl (by decide))).trans ((jw_ne e75172 (Or.inr (by decide))).trans ew2)))).trans (by (try unfold ofF); (try unfold ofG); (try unfold ofH); (repeat' split) <;> omega), ((((jw_ne e75173 (Or.inl (by decide))).trans (jw_eq e75172)))).trans (by (try unfold ofF); (try unfold ofG); (try unfold ofH); (repeat' split) <;> omega), ((((jw_ne e75173 (Or.inl (by decide))).trans ((jw_ne e75172 (Or.inr (by decide))).trans ew4)))).trans (by (try unfold ofF); (try unfold ofG); (try unfold ofH); (repeat' split) <;> omega)⟩
        · refine ev_iconst ?_
          refine ev_ret rfl (by decide) (by decide) ?_
          show jEv _ _ _ _ _ _ _ (_, [(2, 0), (0, a1)], [(0, (-1))], _, _, _)
          exact ev_ret rfl (by decide) (by decide) ⟨_, rfl, g, k0, by (try unfold ofF); (try unfold ofG); (try unfold ofH); (repeat' split) <;> omega, ((ew0)).trans (by (try unfold ofF); (try unfold ofG); (try unfold ofH); (repeat' split) <;> omega), ((ew1)).trans (by (try unfold ofF); (try unfold ofG); (try unfold ofH); (repeat' split) <;> omega), ((ew2)).trans (by (try unfold ofF); (try unfold ofG); (try unfold ofH); (repeat' split) <;> omega), ((ew3)).trans (by (try unfold ofF); (try unfold ofG); (try unfold ofH); (repeat' split) <;> omega), ((ew4)).trans (by (try unfold ofF); (try unfold ofG); (try unfold ofH); (repeat' split) <;> omega)⟩
      · refine ev_iconst ?_
        refine ev_ret rfl (by decide) (by decide) ?_
        show jEv _ _ _ _ _ _ _ (_, [(2, 0), (0, a1)], [(0, (-1))], _, _, _)
        exact ev_ret rfl (by decide) (by decide) ⟨_, rfl, g, k0, by (try unfold ofF); (try unfold ofG); (try unfold ofH); (repeat' split) <;> omega, ((ew0)).trans (by (try unfold ofF); (try unfold ofG); (try unfold ofH); (repeat' split) <;> omega), ((ew1)).trans (by (try unfold ofF); (try unfold ofG); (try unfold ofH); (repeat' split) <;> omega), ((ew2)).trans (by (try unfold ofF); (try unfold ofG); (try unfold ofH); (repeat' split) <;> omega), ((ew3)).trans (by (try unfold ofF); (try unfold ofG); (try unfold ofH); (repeat' split) <;> omega), ((ew4)).trans (by (try unfold ofF); (try unfold ofG); (try unfold ofH); (repeat' split) <;> omega)⟩
    · refine ev_iconst ?_
      refine ev_goto f201_22 ?_
      exact ev_ret rfl (by decide) (by decide) ⟨_, rfl, g, k0, by (try unfold ofF); (try unfold ofG); (try unfold ofH); (repeat' split) <;> omega, ((ew0)).trans (by (try unfold ofF); (try unfold ofG); (try unfold ofH); (repeat' split) <;> omega), ((ew1)).trans (by (try unfold ofF); (try unfold ofG); (try unfold ofH); (repeat' split) <;> omega), ((ew2)).trans (by (try unfold ofF); (try unfold ofG); (try unfold ofH); (repeat' split) <;> omega), ((ew3)).trans (by (try unfold ofF); (try unfold ofG); (try unfold ofH); (repeat' split) <;> omega), ((ew4)).trans (by (try unfold ofF); (try unfold ofG); (try unfold ofH); (repeat' split) <;> omega)⟩
set_option maxHeartbeats 4000000 in
theorem t201_3 {G : GH} {h : JH} (g : Gd G h) {a1 : Int} (la1 : (-2147483648) ≤ a1) (ua1 : a1 ≤ 2147483647) (ew0 : h.2.2 26 7 = 3) {w1 : Int} (ew1 : h.2.2 31 0 = w1) (lw1 : 0 ≤ w1) (uw1 : w1 ≤ 99) {w2 : Int} (ew2 : h.2.2 31 1 = w2) (lw2 : 0 ≤ w2) (uw2 : w2 ≤ 99) {w3 : Int} (ew3 : h.2.2 31 2 = w3) (lw3 : 0 ≤ w3) (uw3 : w3 ≤ 99) {w4 : Int} (ew4 : h.2.2 31 3 = w4) (lw4 : 0 ≤ w4) (uw4 : w4 ≤ 99) : jOk 2 0 0 201 [(2, 0), (0, a1)] h (fun v h' => ∃ r : Int, v = some (0, r) ∧ Gd G h' ∧ Kp [(26, 8), (31, 0)] h h' ∧ r = ofF a1 3 w1 w2 w3 w4 ∧ h'.2.2 26 7 = ofG a1 3 w1 w2 w3 w4 ∧ h'.2.2 31 0 = ofH 0 a1 3 w1 w2 w3 w4 w1 ∧ h'.2.2 31 1 = ofH 1 a1 3 w1 w2 w3 w4 w2 ∧ h'.2.2 31 2 = ofH 2 a1 3 w1 w2 w3 w4 w3 ∧ h'.2.2 31 3 = ofH 3 a1 3 w1 w2 w3 w4 w4) := by
  refine ⟨by decide, by rw [ml201]; exact Nat.le_of_ble_eq_true rfl, ?_⟩
  rw [ml201, pp201]
  show jEv _ none _ c201_0 0 0 _ (c201_0, [(2, 0), (0, a1)], [], h, 0, 0)
  have k0 := Kp.rf [(26, 8), (31, 0)] h
  refine ev_iload_n rfl ?_
  refine ev_iflt f201_10 (fun c75198 => ?_) (fun c75198 => ?_)
  · refine ev_iconst ?_
    refine ev_goto f201_22 ?_
    exact ev_ret rfl (by decide) (by decide) ⟨_, rfl, g, k0, by (try unfold ofF); (try unfold ofG); (try unfold ofH); (repeat' split) <;> omega, ((ew0)).trans (by (try unfold ofF); (try unfold ofG); (try unfold ofH); (repeat' split) <;> omega), ((ew1)).trans (by (try unfold ofF); (try unfold ofG); (try unfold ofH); (repeat' split) <;> omega), ((ew2)).trans (by (try unfold ofF); (try unfold ofG); (try unfold ofH); (repeat' split) <;> omega), ((ew3)).trans (by (try unfold ofF); (try unfold ofG); (try unfold ofH); (repeat' split) <;> omega), ((ew4)).trans (by (try unfold ofF); (try unfold ofG); (try unfold ofH); (repeat' split) <;> omega)⟩
  · refine ev_iload_n rfl ?_
    refine ev_bipush ?_
    refine ev_icmple f201_14 (fun c75199 => ?_) (fun c75199 => ?_)
    · refine ev_aload_n rfl ?_
      refine g_getp (r := 0) (c := 26) g ad0 (by decide) (by decide) rf0_11 ft11_11 ?_
      refine ev_iload_n rfl ?_
      refine ev_in (d := 0) (a := 0) (b := 0) (cd' := c120_0) (m := 3) (L0 := [(2, 26), (0, a1), (9, 0)]) (jcall_v (A := [(0, a1)]) (S' := []) (r := 26) rfl (g.lt ad26) (g.tg ad26) (Nat.le_of_ble_eq_true rfl)) (by decide) ml120 pp120 (Nat.le_of_ble_eq_true rfl) rfl (by decide) (by decide) ?_
      refine ev_iconst ?_
      refine ev_istore_n (L' := [(2, 26), (0, a1), (0, 0)]) (Nat.le_of_ble_eq_true rfl) rfl ?_
      refine ev_iload_n rfl ?_
      refine ev_aload_n rfl ?_
      refine g_getv (r := 26) (v := 3) g ad26 (by decide) ft9_7 (ew0) ?_
      refine ev_icmpge f120_28 (fun c75200 => absurd c75200 (by omega)) (fun c75200 => ?_)
      refine ev_aload_n rfl ?_
      refine g_getp (r := 26) (c := 31) g ad26 (by decide) (by decide) rf26_8 ft9_8 ?_
      refine ev_iload_n rfl ?_
      refine g_ialdv (v := w1) g ad31 (by omega) (by omega) (ew1) ?_
      refine ev_iload_n rfl ?_
      refine ev_icmpne f120_22 (fun c75201 => ?_) (fun c75201 => ?_)
      · refine ev_iinc (w := 1) (L' := [(2, 26), (0, a1), (0, 1)]) rfl (by decide) rfl ?_
        refine ev_goto f120_2 ?_
        refine ev_iload_n rfl ?_
        refine ev_aload_n rfl ?_
        refine g_getv (r := 26) (v := 3) g ad26 (by decide) ft9_7 (ew0) ?_
        refine ev_icmpge f120_28 (fun c75202 => absurd c75202 (by omega)) (fun c75202 => ?_)
        refine ev_aload_n rfl ?_
        refine g_getp (r := 26) (c := 31) g ad26 (by decide) (by decide) rf26_8 ft9_8 ?_
        refine ev_iload_n rfl ?_
        refine g_ialdv (v := w2) g ad31 (by omega) (by omega) (ew2) ?_
        refine ev_iload_n rfl ?_
        refine ev_icmpne f120_22 (fun c75203 => ?_) (fun c75203 => ?_)
        · refine ev_iinc (w := 2) (L' := [(2, 26), (0, a1), (0, 2)]) rfl (by decide) rfl ?_
          refine ev_goto f120_2 ?_
          refine ev_iload_n rfl ?_
          refine ev_aload_n rfl ?_
          refine g_getv (r := 26) (v := 3) g ad26 (by decide) ft9_7 (ew0) ?_
          refine ev_icmpge f120_28 (fun c75204 => absurd c75204 (by omega)) (fun c75204 => ?_)
          refine ev_aload_n rfl ?_
          refine g_getp (r := 26) (c := 31) g ad26 (by decide) (by decide) rf26_8 ft9_8 ?_
          refine ev_iload_n rfl ?_
          refine g_ialdv (v := w3) g ad31 (by omega) (by omega) (ew3) ?_
          refine ev_iload_n rfl ?_
          refine ev_icmpne f120_22 (fun c75205 => ?_) (fun c75205 => ?_)
          · refine ev_iinc (w := 3) (L' := [(2, 26), (0, a1), (0, 3)]) rfl (by decide) rfl ?_
            refine ev_goto f120_2 ?_
            refine ev_iload_n rfl ?_
            refine ev_aload_n rfl ?_
            refine g_getv (r := 26) (v := 3) g ad26 (by decide) ft9_7 (ew0) ?_
            refine ev_icmpge f120_28 (fun c75206 => ?_) (fun c75206 => absurd c75206 (by omega))
            refine ev_aload_n rfl ?_
            refine g_getv (r := 26) (v := 3) g ad26 (by decide) ft9_7 (ew0) ?_
            refine ev_iconst ?_
            refine ev_icmplt f120_39 (fun c75207 => ?_) (fun c75207 => absurd c75207 (by omega))
            refine ev_aload_n rfl ?_
            refine g_getp (r := 26) (c := 31) g ad26 (by decide) (by decide) rf26_8 ft9_8 ?_
            refine ev_aload_n rfl ?_
            refine g_getv (r := 26) (v := 3) g ad26 (by decide) ft9_7 (ew0) ?_
            refine ev_iload_n rfl ?_
            refine g_iast g ad31 rt31 (fun _ => rfl) (by omega) (by omega) (by omega) (by omega) (fun h75208 e75208 g75208 => ?_)
            have k75208 := k0.wr e75208 rfl
            refine ev_aload_n rfl ?_
            refine ev_dup (by decide) ?_
            refine g_getv (r := 26) (v := 3) g75208 ad26 (by decide) ft9_7 (((jw_ne e75208 (Or.inl (by decide))).trans ew0)) ?_
            refine ev_iconst ?_
            refine ev_iadd (r := 4) (by decide) ?_
            refine g_putf (r := 26) g75208 ad26 (by decide) ft9_7 (by decide) (fun e => absurd e nz9_7) rf26_7 (by decide) (by omega) (by omega) (fun h75209 e75209 g75209 => ?_)
            have k75209 := k75208.wr e75209 rfl
            refine ev_aload_n rfl ?_
            refine g_getv (r := 26) (v := 4) g75209 ad26 (by decide) ft9_7 ((jw_eq e75209)) ?_
            refine ev_ret rfl (by decide) (by decide) ?_
            show jEv _ _ _ _ _ _ _ (_, [(2, 0), (0, a1)], [(0, 4)], _, _, _)
            exact ev_ret rfl (by decide) (by decide) ⟨_, rfl, g75209, k75209, by (try unfold ofF); (try unfold ofG); (try unfold ofH); (repeat' split) <;> omega, (((jw_eq e75209))).trans (by (try unfold ofF); (try unfold ofG); (try unfold ofH); (repeat' split) <;> omega), ((((jw_ne e75209 (Or.inl (by decide))).trans ((jw_ne e75208 (Or.inr (by decide))).trans ew1)))).trans (by (try unfold ofF); (try unfold ofG); (try unfold ofH); (repeat' split) <;> omega), ((((jw_ne e75209 (Or.inl (by decide))).trans ((jw_ne e75208 (Or.inr (by decide))).trans ew2)))).trans (by (try unfold ofF); (try unfold ofG); (try unfold ofH); (repeat' split) <;> omega), ((((jw_ne e75209 (Or.inl (by decide))).trans ((jw_ne e75208 (Or.inr (by decide))).trans ew3)))).trans (by (try unfold ofF); (try unfold ofG); (try unfold ofH); (repeat' split) <;> omega), ((((jw_ne e75209 (Or.inl (by decide))).trans (jw_eq e75208)))).trans (by (try unfold ofF); (try unfold ofG); (try unfold ofH); (repeat' split) <;> omega)⟩
          · refine ev_iconst ?_
            refine ev_ret rfl (by decide) (by decide) ?_
            show jEv _ _ _ _ _ _ _ (_, [(2, 0), (0, a1)], [(0, (-1))], _, _, _)
            exact ev_ret rfl (by decide) (by decide) ⟨_, rfl, g, k0, by (try unfold ofF); (try unfold ofG); (try unfold ofH); (repeat' split) <;> omega, ((ew0)).trans (by (try unfold ofF); (try unfold ofG); (try unfold ofH); (repeat' split) <;> omega), ((ew1)).trans (by (try unfold ofF); (try unfold ofG); (try unfold ofH); (repeat' split) <;> omega), ((ew2)).trans (by (try unfold ofF); (try unfold ofG); (try unfold ofH); (repeat' split) <;> omega), ((ew3)).trans (by (try unfold ofF); (try unfold ofG); (try unfold ofH); (repeat' split) <;> omega), ((ew4)).trans (by (try unfold ofF); (try unfold ofG); (try unfold ofH); (repeat' split) <;> omega)⟩
        · refine ev_iconst ?_
          refine ev_ret rfl (by decide) (by decide) ?_
          show jEv _ _ _ _ _ _ _ (_, [(2, 0), (0, a1)], [(0, (-1))], _, _, _)
          exact ev_ret rfl (by decide) (by decide) ⟨_, rfl, g, k0, by (try unfold ofF); (try unfold ofG); (try unfold ofH); (repeat' split) <;> omega, ((ew0)).trans (by (try unfold ofF); (try unfold ofG); (try unfold ofH); (repeat' split) <;> omega), ((ew1)).trans (by (try unfold ofF); (try unfold ofG); (try unfold ofH); (repeat' split) <;> omega), ((ew2)).trans (by (try unfold ofF); (try unfold ofG); (try unfold ofH); (repeat' split) <;> omega), ((ew3)).trans (by (try unfold ofF); (try unfold ofG); (try unfold ofH); (repeat' split) <;> omega), ((ew4)).trans (by (try unfold ofF); (try unfold ofG); (try unfold ofH); (repeat' split) <;> omega)⟩
      · refine ev_iconst ?_
        refine ev_ret rfl (by decide) (by decide) ?_
        show jEv _ _ _ _ _ _ _ (_, [(2, 0), (0, a1)], [(0, (-1))], _, _, _)
        exact ev_ret rfl (by decide) (by decide) ⟨_, rfl, g, k0, by (try unfold ofF); (try unfold ofG); (try unfold ofH); (repeat' split) <;> omega, ((ew0)).trans (by (try unfold ofF); (try unfold ofG); (try unfold ofH); (repeat' split) <;> omega), ((ew1)).trans (by (try unfold ofF); (try unfold ofG); (try unfold ofH); (repeat' split) <;> omega), ((ew2)).trans (by (try unfold ofF); (try unfold ofG); (try unfold ofH); (repeat' split) <;> omega), ((ew3)).trans (by (try unfold ofF); (try unfold ofG); (try unfold ofH); (repeat' split) <;> omega), ((ew4)).trans (by (try unfold ofF); (try unfold ofG); (try unfold ofH); (repeat' split) <;> omega)⟩
    · refine ev_iconst ?_
      refine ev_goto f201_22 ?_
      exact ev_ret rfl (by decide) (by decide) ⟨_, rfl, g, k0, by (try unfold ofF); (try unfold ofG); (try unfold ofH); (repeat' split) <;> omega, ((ew0)).trans (by (try unfold ofF); (try unfold ofG); (try unfold ofH); (repeat' split) <;> omega), ((ew1)).trans (by (try unfold ofF); (try unfold ofG); (try unfold ofH); (repeat' split) <;> omega), ((ew2)).trans (by (try unfold ofF); (try unfold ofG); (try unfold ofH); (repeat' split) <;> omega), ((ew3)).trans (by (try unfold ofF); (try unfold ofG); (try unfold ofH); (repeat' split) <;> omega), ((ew4)).trans (by (try unfold ofF); (try unfold ofG); (try unfold ofH); (repeat' split) <;> omega)⟩
set_option maxHeartbeats 4000000 in
theorem t201_4 {G : GH} {h : JH} (g : Gd G h) {a1 : Int} (la1 : (-2147483648) ≤ a1) (ua1 : a1 ≤ 2147483647) (ew0 : h.2.2 26 7 = 4) {w1 : Int} (ew1 : h.2.2 31 0 = w1) (lw1 : 0 ≤ w1) (uw1 : w1 ≤ 99) {w2 : Int} (ew2 : h.2.2 31 1 = w2) (lw2 : 0 ≤ w2) (uw2 : w2 ≤ 99) {w3 : Int} (ew3 : h.2.2 31 2 = w3) (lw3 : 0 ≤ w3) (uw3 : w3 ≤ 99) {w4 : Int} (ew4 : h.2.2 31 3 = w4) (lw4 : 0 ≤ w4) (uw4 : w4 ≤ 99) : jOk 2 0 0 201 [(2, 0), (0, a1)] h (fun v h' => ∃ r : Int, v = some (0, r) ∧ Gd G h' ∧ Kp [(26, 8), (31, 0)] h h' ∧ r = ofF a1 4 w1 w2 w3 w4 ∧ h'.2.2 26 7 = ofG a1 4 w1 w2 w3 w4 ∧ h'.2.2 31 0 = ofH 0 a1 4 w1 w2 w3 w4 w1 ∧ h'.2.2 31 1 = ofH 1 a1 4 w1 w2 w3 w4 w2 ∧ h'.2.2 31 2 = ofH 2 a1 4 w1 w2 w3 w4 w3 ∧ h'.2.2 31 3 = ofH 3 a1 4 w1 w2 w3 w4 w4) := by
  refine ⟨by decide, by rw [ml201]; exact Nat.le_of_ble_eq_true rfl, ?_⟩
  rw [ml201, pp201]
  show jEv _ none _ c201_0 0 0 _ (c201_0, [(2, 0), (0, a1)], [], h, 0, 0)
  have k0 := Kp.rf [(26, 8), (31, 0)] h
  refine ev_iload_n rfl ?_
  refine ev_iflt f201_10 (fun c75234 => ?_) (fun c75234 => ?_)
  · refine ev_iconst ?_
    refine ev_goto f201_22 ?_
    exact ev_ret rfl (by decide) (by decide) ⟨_, rfl, g, k0, by (try unfold ofF); (try unfold ofG); (try unfold ofH); (repeat' split) <;> omega, ((ew0)).trans (by (try unfold ofF); (try unfold ofG); (try unfold ofH); (repeat' split) <;> omega), ((ew1)).trans (by (try unfold ofF); (try unfold ofG); (try unfold ofH); (repeat' split) <;> omega), ((ew2)).trans (by (try unfold ofF); (try unfold ofG); (try unfold ofH); (repeat' split) <;> omega), ((ew3)).trans (by (try unfold ofF); (try unfold ofG); (try unfold ofH); (repeat' split) <;> omega), ((ew4)).trans (by (try unfold ofF); (try unfold ofG); (try unfold ofH); (repeat' split) <;> omega)⟩
  · refine ev_iload_n rfl ?_
    refine ev_bipush ?_
    refine ev_icmple f201_14 (fun c75235 => ?_) (fun c75235 => ?_)
    · refine ev_aload_n rfl ?_
      refine g_getp (r := 0) (c := 26) g ad0 (by decide) (by decide) rf0_11 ft11_11 ?_
      refine ev_iload_n rfl ?_
      refine ev_in (d := 0) (a := 0) (b := 0) (cd' := c120_0) (m := 3) (L0 := [(2, 26), (0, a1), (9, 0)]) (jcall_v (A := [(0, a1)]) (S' := []) (r := 26) rfl (g.lt ad26) (g.tg ad26) (Nat.le_of_ble_eq_true rfl)) (by decide) ml120 pp120 (Nat.le_of_ble_eq_true rfl) rfl (by decide) (by decide) ?_
      refine ev_iconst ?_
      refine ev_istore_n (L' := [(2, 26), (0, a1), (0, 0)]) (Nat.le_of_ble_eq_true rfl) rfl ?_
      refine ev_iload_n rfl ?_
      refine ev_aload_n rfl ?_
      refine g_getv (r := 26) (v := 4) g ad26 (by decide) ft9_7 (ew0) ?_
      refine ev_icmpge f120_28 (fun c75236 => absurd c75236 (by omega)) (fun c75236 => ?_)
      refine ev_aload_n rfl ?_
      refine g_getp (r := 26) (c := 31) g ad26 (by decide) (by decide) rf26_8 ft9_8 ?_
      refine ev_iload_n rfl ?_
      refine g_ialdv (v := w1) g ad31 (by omega) (by omega) (ew1) ?_
      refine ev_iload_n rfl ?_
      refine ev_icmpne f120_22 (fun c75237 => ?_) (fun c75237 => ?_)
      · refine ev_iinc (w := 1) (L' := [(2, 26), (0, a1), (0, 1)]) rfl (by decide) rfl ?_
        refine ev_goto f120_2 ?_
        refine ev_iload_n rfl ?_
        refine ev_aload_n rfl ?_
        refine g_getv (r := 26) (v := 4) g ad26 (by decide) ft9_7 (ew0) ?_
        refine ev_icmpge f120_28 (fun c75238 => absurd c75238 (by omega)) (fun c75238 => ?_)
        refine ev_aload_n rfl ?_
        refine g_getp (r := 26) (c := 31) g ad26 (by decide) (by decide) rf26_8 ft9_8 ?_
        refine ev_iload_n rfl ?_
        refine g_ialdv (v := w2) g ad31 (by omega) (by omega) (ew2) ?_
        refine ev_iload_n rfl ?_
        refine ev_icmpne f120_22 (fun c75239 => ?_) (fun c75239 => ?_)
        · refine ev_iinc (w := 2) (L' := [(2, 26), (0, a1), (0, 2)]) rfl (by decide) rfl ?_
          refine ev_goto f120_2 ?_
          refine ev_iload_n rfl ?_
          refine ev_aload_n rfl ?_
          refine g_getv (r := 26) (v := 4) g ad26 (by decide) ft9_7 (ew0) ?_
          refine ev_icmpge f120_28 (fun c75240 => absurd c75240 (by omega)) (fun c75240 => ?_)
          refine ev_aload_n rfl ?_
          refine g_getp (r := 26) (c := 31) g ad26 (by decide) (by decide) rf26_8 ft9_8 ?_
          refine ev_iload_n rfl ?_
          refine g_ialdv (v := w3) g ad31 (by omega) (by omega) (ew3) ?_
          refine ev_iload_n rfl ?_
          refine ev_icmpne f120_22 (fun c75241 => ?_) (fun c75241 => ?_)
          · refine ev_iinc (w := 3) (L' := [(2, 26), (0, a1), (0, 3)]) rfl (by decide) rfl ?_
            refine ev_goto f120_2 ?_
            refine ev_iload_n rfl ?_
            refine ev_aload_n rfl ?_
            refine g_getv (r := 26) (v := 4) g ad26 (by decide) ft9_7 (ew0) ?_
            refine ev_icmpge f120_28 (fun c75242 => absurd c75242 (by omega)) (fun c75242 => ?_)
            refine ev_aload_n rfl ?_
            refine g_getp (r := 26) (c := 31) g ad26 (by decide) (by decide) rf26_8 ft9_8 ?_
            refine ev_iload_n rfl ?_
            refine g_ialdv (v := w4) g ad31 (by omega) (by omega) (ew4) ?_
            refine ev_iload_n rfl ?_
            refine ev_icmpne f120_22 (fun c75243 => ?_) (fun c75243 => ?_)
            · refine ev_iinc (w := 4) (L' := [(2, 26), (0, a1), (0, 4)]) rfl (by decide) rfl ?_
              refine ev_goto f120_2 ?_
              refine ev_iload_n rfl ?_
              refine ev_aload_n rfl ?_
              refine g_getv (r := 26) (v := 4) g ad26 (by decide) ft9_7 (ew0) ?_
              refine ev_icmpge f120_28 (fun c75244 => ?_) (fun c75244 => absurd c75244 (by omega))
              refine ev_aload_n rfl ?_
              refine g_getv (r := 26) (v := 4) g ad26 (by decide) ft9_7 (ew0) ?_
              refine ev_iconst ?_
              refine ev_icmplt f120_39 (fun c75245 => absurd c75245 (by omega)) (fun c75245 => ?_)
              refine ev_bipush ?_
              refine ev_ret rfl (by decide) (by decide) ?_
              show jEv _ _ _ _ _ _ _ (_, [(2, 0), (0, a1)], [(0, (-3))], _, _, _)
              exact ev_ret rfl (by decide) (by decide) ⟨_, rfl, g, k0, by (try unfold ofF); (try unfold ofG); (try unfold ofH); (repeat' split) <;> omega, ((ew0)).trans (by (try unfold ofF); (try unfold ofG); (try unfold ofH); (repeat' split) <;> omega), ((ew1)).trans (by (try unfold ofF); (try unfold ofG); (try unfold ofH); (repeat' split) <;> omega), ((ew2)).trans (by (try unfold ofF); (try unfold ofG); (try unfold ofH); (repeat' split) <;> omega), ((ew3)).trans (by (try unfold ofF); (try unfold ofG); (try unfold ofH); (repeat' split) <;> omega), ((ew4)).trans (by (try unfold ofF); (try unfold ofG); (try unfold ofH); (repeat' split) <;> omega)⟩
            · refine ev_iconst ?_
              refine ev_ret rfl (by decide) (by decide) ?_
              show jEv _ _ _ _ _ _ _ (_, [(2, 0), (0, a1)], [(0, (-1))], _, _, _)
              exact ev_ret rfl (by decide) (by decide) ⟨_, rfl, g, k0, by (try unfold ofF); (try unfold ofG); (try unfold ofH); (repeat' split) <;> omega, ((ew0)).trans (by (try unfold ofF); (try unfold ofG); (try unfold ofH); (repeat' split) <;> omega), ((ew1)).trans (by (try unfold ofF); (try unfold ofG); (try unfold ofH); (repeat' split) <;> omega), ((ew2)).trans (by (try unfold ofF); (try unfold ofG); (try unfold ofH); (repeat' split) <;> omega), ((ew3)).trans (by (try unfold ofF); (try unfold ofG); (try unfold ofH); (repeat' split) <;> omega), ((ew4)).trans (by (try unfold ofF); (try unfold ofG); (try unfold ofH); (repeat' split) <;> omega)⟩
          · refine ev_iconst ?_
            refine ev_ret rfl (by decide) (by decide) ?_
            show jEv _ _ _ _ _ _ _ (_, [(2, 0), (0, a1)], [(0, (-1))], _, _, _)
            exact ev_ret rfl (by decide) (by decide) ⟨_, rfl, g, k0, by (try unfold ofF); (try unfold ofG); (try unfold ofH); (repeat' split) <;> omega, ((ew0)).trans (by (try unfold ofF); (try unfold ofG); (try unfold ofH); (repeat' split) <;> omega), ((ew1)).trans (by (try unfold ofF); (try unfold ofG); (try unfold ofH); (repeat' split) <;> omega), ((ew2)).trans (by (try unfold ofF); (try unfold ofG); (try unfold ofH); (repeat' split) <;> omega), ((ew3)).trans (by (try unfold ofF); (try unfold ofG); (try unfold ofH); (repeat' split) <;> omega), ((ew4)).trans (by (try unfold ofF); (try unfold ofG); (try unfold ofH); (repeat' split) <;> omega)⟩
        · refine ev_iconst ?_
          refine ev_ret rfl (by decide) (by decide) ?_
          show jEv _ _ _ _ _ _ _ (_, [(2, 0), (0, a1)], [(0, (-1))], _, _, _)
          exact ev_ret rfl (by decide) (by decide) ⟨_, rfl, g, k0, by (try unfold ofF); (try unfold ofG); (try unfold ofH); (repeat' split) <;> omega, ((ew0)).trans (by (try unfold ofF); (try unfold ofG); (try unfold ofH); (repeat' split) <;> omega), ((ew1)).trans (by (try unfold ofF); (try unfold ofG); (try unfold ofH); (repeat' split) <;> omega), ((ew2)).trans (by (try unfold ofF); (try unfold ofG); (try unfold ofH); (repeat' split) <;> omega), ((ew3)).trans (by (try unfold ofF); (try unfold ofG); (try unfold ofH); (repeat' split) <;> omega), ((ew4)).trans (by (try unfold ofF); (try unfold ofG); (try unfold ofH); (repeat' split) <;> omega)⟩
      · refine ev_iconst ?_
        refine ev_ret rfl (by decide) (by decide) ?_
        show jEv _ _ _ _ _ _ _ (_, [(2, 0), (0, a1)], [(0, (-1))], _, _, _)
        exact ev_ret rfl (by decide) (by decide) ⟨_, rfl, g, k0, by (try unfold ofF); (try unfold ofG); (try unfold ofH); (repeat' split) <;> omega, ((ew0)).trans (by (try unfold ofF); (try unfold ofG); (try unfold ofH); (repeat' split) <;> omega), ((ew1)).trans (by (try unfold ofF); (try unfold ofG); (try unfold ofH); (repeat' split) <;> omega), ((ew2)).trans (by (try unfold ofF); (try unfold ofG); (try unfold ofH); (repeat' split) <;> omega), ((ew3)).trans (by (try unfold ofF); (try unfold ofG); (try unfold ofH); (repeat' split) <;> omega), ((ew4)).trans (by (try unfold ofF); (try unfold ofG); (try unfold ofH); (repeat' split) <;> omega)⟩
    · refine ev_iconst ?_
      refine ev_goto f201_22 ?_
      exact ev_ret rfl (by decide) (by decide) ⟨_, rfl, g, k0, by (try unfold ofF); (try unfold ofG); (try unfold ofH); (repeat' split) <;> omega, ((ew0)).trans (by (try unfold ofF); (try unfold ofG); (try unfold ofH); (repeat' split) <;> omega), ((ew1)).trans (by (try unfold ofF); (try unfold ofG); (try unfold ofH); (repeat' split) <;> omega), ((ew2)).trans (by (try unfold ofF); (try unfold ofG); (try unfold ofH); (repeat' split) <;> omega), ((ew3)).trans (by (try unfold ofF); (try unfold ofG); (try unfold ofH); (repeat' split) <;> omega), ((ew4)).trans (by (try unfold ofF); (try unfold ofG); (try unfold ofH); (repeat' split) <;> omega)⟩
theorem t201 {G : GH} {h : JH} (g : Gd G h) {a1 : Int} (la1 : (-2147483648) ≤ a1) (ua1 : a1 ≤ 2147483647) {w0 : Int} (ew0 : h.2.2 26 7 = w0) (lw0 : 0 ≤ w0) (uw0 : w0 ≤ 4) {w1 : Int} (ew1 : h.2.2 31 0 = w1) (lw1 : 0 ≤ w1) (uw1 : w1 ≤ 99) {w2 : Int} (ew2 : h.2.2 31 1 = w2) (lw2 : 0 ≤ w2) (uw2 : w2 ≤ 99) {w3 : Int} (ew3 : h.2.2 31 2 = w3) (lw3 : 0 ≤ w3) (uw3 : w3 ≤ 99) {w4 : Int} (ew4 : h.2.2 31 3 = w4) (lw4 : 0 ≤ w4) (uw4 : w4 ≤ 99) : jOk 2 0 0 201 [(2, 0), (0, a1)] h (fun v h' => ∃ r : Int, v = some (0, r) ∧ Gd G h' ∧ Kp [(26, 8), (31, 0)] h h' ∧ r = ofF a1 w0 w1 w2 w3 w4 ∧ h'.2.2 26 7 = ofG a1 w0 w1 w2 w3 w4 ∧ h'.2.2 31 0 = ofH 0 a1 w0 w1 w2 w3 w4 w1 ∧ h'.2.2 31 1 = ofH 1 a1 w0 w1 w2 w3 w4 w2 ∧ h'.2.2 31 2 = ofH 2 a1 w0 w1 w2 w3 w4 w3 ∧ h'.2.2 31 3 = ofH 3 a1 w0 w1 w2 w3 w4 w4) := by
  rcases (show w0 = 0 ∨ w0 = 1 ∨ w0 = 2 ∨ w0 = 3 ∨ w0 = 4 by omega) with z | z | z | z | z <;> subst z
  · exact jOk_le (by decide) (t201_0 g la1 ua1 ew0 ew1 lw1 uw1 ew2 lw2 uw2 ew3 lw3 uw3 ew4 lw4 uw4)
  · exact jOk_le (by decide) (t201_1 g la1 ua1 ew0 ew1 lw1 uw1 ew2 lw2 uw2 ew3 lw3 uw3 ew4 lw4 uw4)
  · exact jOk_le (by decide) (t201_2 g la1 ua1 ew0 ew1 lw1 uw1 ew2 lw2 uw2 ew3 lw3 uw3 ew4 lw4 uw4)
  · exact jOk_le (by decide) (t201_3 g la1 ua1 ew0 ew1 lw1 uw1 ew2 lw2 uw2 ew3 lw3 uw3 ew4 lw4 uw4)
  · exact jOk_le (by decide) (t201_4 g la1 ua1 ew0 ew1 lw1 uw1 ew2 lw2 uw2 ew3 lw3 uw3 ew4 lw4 uw4)

set_option maxHeartbeats 4000000 in
theorem t340_0 {G : GH} {h : JH} (g : Gd G h) {a1 : Int} (la1 : (-2147483648) ≤ a1) (ua1 : a1 ≤ 2147483647) (ew0 : h.2.2 42 51 = 0) {w1 : Int} (ew1 : h.2.2 71 0 = w1) (lw1 : 0 ≤ w1) (uw1 : w1 ≤ 99) {w2 : Int} (ew2 : h.2.2 71 1 = w2) (lw2 : 0 ≤ w2) (uw2 : w2 ≤ 99) {w3 : Int} (ew3 : h.2.2 71 2 = w3) (lw3 : 0 ≤ w3) (uw3 : w3 ≤ 99) {w4 : Int} (ew4 : h.2.2 71 3 = w4) (lw4 : 0 ≤ w4) (uw4 : w4 ≤ 99) : jOk 2 0 0 340 [(2, 42), (0, a1)] h (fun v h' => ∃ r : Int, v = some (0, r) ∧ Gd G h' ∧ Kp [(42, 52), (71, 0)] h h' ∧ r = ofF a1 0 w1 w2 w3 w4 ∧ h'.2.2 42 51 = ofG a1 0 w1 w2 w3 w4 ∧ h'.2.2 71 0 = ofH 0 a1 0 w1 w2 w3 w4 w1 ∧ h'.2.2 71 1 = ofH 1 a1 0 w1 w2 w3 w4 w2 ∧ h'.2.2 71 2 = ofH 2 a1 0 w1 w2 w3 w4 w3 ∧ h'.2.2 71 3 = ofH 3 a1 0 w1 w2 w3 w4 w4) := by
  refine ⟨by decide, by rw [ml340]; exact Nat.le_of_ble_eq_true rfl, ?_⟩
  rw [ml340, pp340]
  show jEv _ none _ c340_0 0 0 _ (c340_0, [(2, 42), (0, a1), (9, 0)], [], h, 0, 0)
  have k0 := Kp.rf [(42, 52), (71, 0)] h
  refine ev_iload_n rfl ?_
  refine ev_iconst ?_
  refine ev_bipush ?_
  refine ev_in (d := 0) (a := 0) (b := 0) (cd' := c242_0) (m := 3) (L0 := [(0, a1), (0, 0), (0, 99)]) (jcall_s (A := [(0, 99), (0, 0), (0, a1)]) (S' := []) (by decide) rfl (Nat.le_of_ble_eq_true rfl)) (by decide) ml242 pp242 (Nat.le_of_ble_eq_true rfl) rfl (by decide) (by decide) ?_
  refine ev_iload_n rfl ?_
  refine ev_iload_n rfl ?_
  refine ev_icmplt f242_14 (fun c75264 => ?_) (fun c75264 => ?_)
  · refine ev_iconst ?_
    refine ev_ret rfl (by decide) (by decide) ?_
    show jEv _ _ _ _ _ _ _ (_, [(2, 42), (0, a1), (9, 0)], [(0, 0)], _, _, _)
    refine ev_ifne f340_12 (fun c75265 => absurd c75265 (by omega)) (fun c75265 => ?_)
    refine ev_iconst ?_
    exact ev_ret rfl (by decide) (by decide) ⟨_, rfl, g, k0, by (try unfold ofF); (try unfold ofG); (try unfold ofH); (repeat' split) <;> omega, ((ew0)).trans (by (try unfold ofF); (try unfold ofG); (try unfold ofH); (repeat' split) <;> omega), ((ew1)).trans (by (try unfold ofF); (try unfold ofG); (try unfold ofH); (repeat' split) <;> omega), ((ew2)).trans (by (try unfold ofF); (try unfold ofG); (try unfold ofH); (repeat' split) <;> omega), ((ew3)).trans (by (try unfold ofF); (try unfold ofG); (try unfold ofH); (repeat' split) <;> omega), ((ew4)).trans (by (try unfold ofF); (try unfold ofG); (try unfold ofH); (repeat' split) <;> omega)⟩
  · refine ev_iload_n rfl ?_
    refine ev_iload_n rfl ?_
    refine ev_icmpgt f242_14 (fun c75266 => ?_) (fun c75266 => ?_)
    · refine ev_iconst ?_
      refine ev_ret rfl (by decide) (by decide) ?_
      show jEv _ _ _ _ _ _ _ (_, [(2, 42), (0, a1), (9, 0)], [(0, 0)], _, _, _)
      refine ev_ifne f340_12 (fun c75267 => absurd c75267 (by omega)) (fun c75267 => ?_)
      refine ev_iconst ?_
      exact ev_ret rfl (by decide) (by decide) ⟨_, rfl, g, k0, by (try unfold ofF); (try unfold ofG); (try unfold ofH); (repeat' split) <;> omega, ((ew0)).trans (by (try unfold ofF); (try unfold ofG); (try unfold ofH); (repeat' split) <;> omega), ((ew1)).trans (by (try unfold ofF); (try unfold ofG); (try unfold ofH); (repeat' split) <;> omega), ((ew2)).trans (by (try unfold ofF); (try unfold ofG); (try unfold ofH); (repeat' split) <;> omega), ((ew3)).trans (by (try unfold ofF); (try unfold ofG); (try unfold ofH); (repeat' split) <;> omega), ((ew4)).trans (by (try unfold ofF); (try unfold ofG); (try unfold ofH); (repeat' split) <;> omega)⟩
    · refine ev_iconst ?_
      refine ev_goto f242_15 ?_
      refine ev_ret rfl (by decide) (by decide) ?_
      show jEv _ _ _ _ _ _ _ (_, [(2, 42), (0, a1), (9, 0)], [(0, 1)], _, _, _)
      refine ev_ifne f340_12 (fun c75268 => ?_) (fun c75268 => absurd c75268 (by omega))
      refine ev_iconst ?_
      refine ev_istore_n (L' := [(2, 42), (0, a1), (0, 0)]) (Nat.le_of_ble_eq_true rfl) rfl ?_
      refine ev_iload_n rfl ?_
      refine ev_aload_n rfl ?_
      refine g_getv (r := 42) (v := 0) g ad42 (by decide) ft12_51 (ew0) ?_
      refine ev_icmpge f340_40 (fun c75269 => ?_) (fun c75269 => absurd c75269 (by omega))
      refine ev_aload_n rfl ?_
      refine g_getv (r := 42) (v := 0) g ad42 (by decide) ft12_51 (ew0) ?_
      refine ev_iconst ?_
      refine ev_icmpne f340_51 (fun c75270 => ?_) (fun c75270 => absurd c75270 (by omega))
      refine ev_aload_n rfl ?_
      refine g_getp (r := 42) (c := 71) g ad42 (by decide) (by decide) rf42_52 ft12_52 ?_
      refine ev_aload_n rfl ?_
      refine g_getv (r := 42) (v := 0) g ad42 (by decide) ft12_51 (ew0) ?_
      refine ev_iload_n rfl ?_
      refine g_iast g ad71 rt71 (fun _ => rfl) (by omega) (by omega) (by omega) (by omega) (fun h75271 e75271 g75271 => ?_)
      have k75271 := k0.wr e75271 rfl
      refine ev_aload_n rfl ?_
      refine ev_dup (by decide) ?_
      refine g_getv (r := 42) (v := 0) g75271 ad42 (by decide) ft12_51 (((jw_ne e75271 (Or.inl (by decide))).trans ew0)) ?_
      refine ev_iconst ?_
      refine ev_iadd (r := 1) (by decide) ?_
      refine g_putf (r := 42) g75271 ad42 (by decide) ft12_51 (by decide) (fun e => absurd e nz12_51) rf42_51 (by decide) (by omega) (by omega) (fun h75272 e75272 g75272 => ?_)
      have k75272 := k75271.wr e75272 rfl
      refine ev_aload_n rfl ?_
      refine g_getv (r := 42) (v := 1) g75272 ad42 (by decide) ft12_51 ((jw_eq e75272)) ?_
      exact ev_ret rfl (by decide) (by decide) ⟨_, rfl, g75272, k75272, by (try unfold ofF); (try unfold ofG); (try unfold ofH); (repeat' split) <;> omega, (((jw_eq e75272))).trans (by (try unfold ofF); (try unfold ofG); (try unfold ofH); (repeat' split) <;> omega), ((((jw_ne e75272 (Or.inl (by decide))).trans (jw_eq e75271)))).trans (by (try unfold ofF); (try unfold ofG); (try unfold ofH); (repeat' split) <;> omega), ((((jw_ne e75272 (Or.inl (by decide))).trans ((jw_ne e75271 (Or.inr (by decide))).trans ew2)))).trans (by (try unfold ofF); (try unfold ofG); (try unfold ofH); (repeat' split) <;> omega), ((((jw_ne e75272 (Or.inl (by decide))).trans ((jw_ne e75271 (Or.inr (by decide))).trans ew3)))).trans (by (try unfold ofF); (try unfold ofG); (try unfold ofH); (repeat' split) <;> omega), ((((jw_ne e75272 (Or.inl (by decide))).trans ((jw_ne e75271 (Or.inr (by decide))).trans ew4)))).trans (by (try unfold ofF); (try unfold ofG); (try unfold ofH); (repeat' split) <;> omega)⟩
set_option maxHeartbeats 4000000 in
theorem t340_1 {G : GH} {h : JH} (g : Gd G h) {a1 : Int} (la1 : (-2147483648) ≤ a1) (ua1 : a1 ≤ 2147483647) (ew0 : h.2.2 42 51 = 1) {w1 : Int} (ew1 : h.2.2 71 0 = w1) (lw1 : 0 ≤ w1) (uw1 : w1 ≤ 99) {w2 : Int} (ew2 : h.2.2 71 1 = w2) (lw2 : 0 ≤ w2) (uw2 : w2 ≤ 99) {w3 : Int} (ew3 : h.2.2 71 2 = w3) (lw3 : 0 ≤ w3) (uw3 : w3 ≤ 99) {w4 : Int} (ew4 : h.2.2 71 3 = w4) (lw4 : 0 ≤ w4) (uw4 : w4 ≤ 99) : jOk 2 0 0 340 [(2, 42), (0, a1)] h (fun v h' => ∃ r : Int, v = some (0, r) ∧ Gd G h' ∧ Kp [(42, 52), (71, 0)] h h' ∧ r = ofF a1 1 w1 w2 w3 w4 ∧ h'.2.2 42 51 = ofG a1 1 w1 w2 w3 w4 ∧ h'.2.2 71 0 = ofH 0 a1 1 w1 w2 w3 w4 w1 ∧ h'.2.2 71 1 = ofH 1 a1 1 w1 w2 w3 w4 w2 ∧ h'.2.2 71 2 = ofH 2 a1 1 w1 w2 w3 w4 w3 ∧ h'.2.2 71 3 = ofH 3 a1 1 w1 w2 w3 w4 w4) := by
  refine ⟨by decide, by rw [ml340]; exact Nat.le_of_ble_eq_true rfl, ?_⟩
  rw [ml340, pp340]
  show jEv _ none _ c340_0 0 0 _ (c340_0, [(2, 42), (0, a1), (9, 0)], [], h, 0, 0)
  have k0 := Kp.rf [(42, 52), (71, 0)] h
  refine ev_iload_n rfl ?_
  refine ev_iconst ?_
  refine ev_bipush ?_
  refine ev_in (d := 0) (a := 0) (b := 0) (cd' := c242_0) (m := 3) (L0 := [(0, a1), (0, 0), (0, 99)]) (jcall_s (A := [(0, 99), (0, 0), (0, a1)]) (S' := []) (by decide) rfl (Nat.le_of_ble_eq_true rfl)) (by decide) ml242 pp242 (Nat.le_of_ble_eq_true rfl) rfl (by decide) (by decide) ?_
  refine ev_iload_n rfl ?_
  refine ev_iload_n rfl ?_
  refine ev_icmplt f242_14 (fun c75295 => ?_) (fun c75295 => ?_)
  · refine ev_iconst ?_
    refine ev_ret rfl (by decide) (by decide) ?_
    show jEv _ _ _ _ _ _ _ (_, [(2, 42), (0, a1), (9, 0)], [(0, 0)], _, _, _)
    refine ev_ifne f340_12 (fun c75296 => absurd c75296 (by omega)) (fun c75296 => ?_)
    refine ev_iconst ?_
    exact ev_ret rfl (by decide) (by decide) ⟨_, rfl, g, k0, by (try unfold ofF); (try unfold ofG); (try unfold ofH); (repeat' split) <;> omega, ((ew0)).trans (by (try unfold ofF); (try unfold ofG); (try unfold ofH); (repeat' split) <;> omega), ((ew1)).trans (by (try unfold ofF); (try unfold ofG); (try unfold ofH); (repeat' split) <;> omega), ((ew2)).trans (by (try unfold ofF); (try unfold ofG); (try unfold ofH); (repeat' split) <;> omega), ((ew3)).trans (by (try unfold ofF); (try unfold ofG); (try unfold ofH); (repeat' split) <;> omega), ((ew4)).trans (by (try unfold ofF); (try unfold ofG); (try unfold ofH); (repeat' split) <;> omega)⟩
  · refine ev_iload_n rfl ?_
    refine ev_iload_n rfl ?_
    refine ev_icmpgt f242_14 (fun c75297 => ?_) (fun c75297 => ?_)
    · refine ev_iconst ?_
      refine ev_ret rfl (by decide) (by decide) ?_
      show jEv _ _ _ _ _ _ _ (_, [(2, 42), (0, a1), (9, 0)], [(0, 0)], _, _, _)
      refine ev_ifne f340_12 (fun c75298 => absurd c75298 (by omega)) (fun c75298 => ?_)
      refine ev_iconst ?_
      exact ev_ret rfl (by decide) (by decide) ⟨_, rfl, g, k0, by (try unfold ofF); (try unfold ofG); (try unfold ofH); (repeat' split) <;> omega, ((ew0)).trans (by (try unfold ofF); (try unfold ofG); (try unfold ofH); (repeat' split) <;> omega), ((ew1)).trans (by (try unfold ofF); (try unfold ofG); (try unfold ofH); (repeat' split) <;> omega), ((ew2)).trans (by (try unfold ofF); (try unfold ofG); (try unfold ofH); (repeat' split) <;> omega), ((ew3)).trans (by (try unfold ofF); (try unfold ofG); (try unfold ofH); (repeat' split) <;> omega), ((ew4)).trans (by (try unfold ofF); (try unfold ofG); (try unfold ofH); (repeat' split) <;> omega)⟩
    · refine ev_iconst ?_
      refine ev_goto f242_15 ?_
      refine ev_ret rfl (by decide) (by decide) ?_
      show jEv _ _ _ _ _ _ _ (_, [(2, 42), (0, a1), (9, 0)], [(0, 1)], _, _, _)
      refine ev_ifne f340_12 (fun c75299 => ?_) (fun c75299 => absurd c75299 (by omega))
      refine ev_iconst ?_
      refine ev_istore_n (L' := [(2, 42), (0, a1), (0, 0)]) (Nat.le_of_ble_eq_true rfl) rfl ?_
      refine ev_iload_n rfl ?_
      refine ev_aload_n rfl ?_
      refine g_getv (r := 42) (v := 1) g ad42 (by decide) ft12_51 (ew0) ?_
      refine ev_icmpge f340_40 (fun c75300 => absurd c75300 (by omega)) (fun c75300 => ?_)
      refine ev_aload_n rfl ?_
      refine g_getp (r := 42) (c := 71) g ad42 (by decide) (by decide) rf42_52 ft12_52 ?_
      refine ev_iload_n rfl ?_
      refine g_ialdv (v := w1) g ad71 (by omega) (by omega) (ew1) ?_
      refine ev_iload_n rfl ?_
      refine ev_icmpne f340_34 (fun c75301 => ?_) (fun c75301 => ?_)
      · refine ev_iinc (w := 1) (L' := [(2, 42), (0, a1), (0, 1)]) rfl (by decide) rfl ?_
        refine ev_goto f340_14 ?_
        refine ev_iload_n rfl ?_
        refine ev_aload_n rfl ?_
        refine g_getv (r := 42) (v := 1) g ad42 (by decide) ft12_51 (ew0) ?_
        refine ev_icmpge f340_40 (fun c75302 => ?_) (fun c75302 => absurd c75302 (by omega))
        refine ev_aload_n rfl ?_
        refine g_getv (r := 42) (v := 1) g ad42 (by decide) ft12_51 (ew0) ?_
        refine ev_iconst ?_
        refine ev_icmpne f340_51 (fun c75303 => ?_) (fun c75303 => absurd c75303 (by omega))
        refine ev_aload_n rfl ?_
        refine g_getp (r := 42) (c := 71) g ad42 (by decide) (by decide) rf42_52 ft12_52 ?_
        refine ev_aload_n rfl ?_
        refine g_getv (r := 42) (v := 1) g ad42 (by decide) ft12_51 (ew0) ?_
        refine ev_iload_n rfl ?_
        refine g_iast g ad71 rt71 (fun _ => rfl) (by omega) (by omega) (by omega) (by omega) (fun h75304 e75304 g75304 => ?_)
        have k75304 := k0.wr e75304 rfl
        refine ev_aload_n rfl ?_
        refine ev_dup (by decide) ?_
        refine g_getv (r := 42) (v := 1) g75304 ad42 (by decide) ft12_51 (((jw_ne e75304 (Or.inl (by decide))).trans ew0)) ?_
        refine ev_iconst ?_
        refine ev_iadd (r := 2) (by decide) ?_
        refine g_putf (r := 42) g75304 ad42 (by decide) ft12_51 (by decide) (fun e => absurd e nz12_51) rf42_51 (by decide) (by omega) (by omega) (fun h75305 e75305 g75305 => ?_)
        have k75305 := k75304.wr e75305 rfl
        refine ev_aload_n rfl ?_
        refine g_getv (r := 42) (v := 2) g75305 ad42 (by decide) ft12_51 ((jw_eq e75305)) ?_
        exact ev_ret rfl (by decide) (by decide) ⟨_, rfl, g75305, k75305, by (try unfold ofF); (try unfold ofG); (try unfold ofH); (repeat' split) <;> omega, (((jw_eq e75305))).trans (by (try unfold ofF); (try unfold ofG); (try unfold ofH); (repeat' split) <;> omega), ((((jw_ne e75305 (Or.inl (by decide))).trans ((jw_ne e75304 (Or.inr (by decide))).trans ew1)))).trans (by (try unfold ofF); (try unfold ofG); (try unfold ofH); (repeat' split) <;> omega), ((((jw_ne e75305 (Or.inl (by decide))).trans (jw_eq e75304)))).trans (by (try unfold ofF); (try unfold ofG); (try unfold ofH); (repeat' split) <;> omega), ((((jw_ne e75305 (Or.inl (by decide))).trans ((jw_ne e75304 (Or.inr (by decide))).trans ew3)))).trans (by (try unfold ofF); (try unfold ofG); (try unfold ofH); (repeat' split) <;> omega), ((((jw_ne e75305 (Or.inl (by decide))).trans ((jw_ne e75304 (Or.inr (by decide))).trans ew4)))).trans (by (try unfold ofF); (try unfold ofG); (try unfold ofH); (repeat' split) <;> omega)⟩
      · refine ev_iconst ?_
        exact ev_ret rfl (by decide) (by decide) ⟨_, rfl, g, k0, by (try unfold ofF); (try unfold ofG); (try unfold ofH); (repeat' split) <;> omega, ((ew0)).trans (by (try unfold ofF); (try unfold ofG); (try unfold ofH); (repeat' split) <;> omega), ((ew1)).trans (by (try unfold ofF); (try unfold ofG); (try unfold ofH); (repeat' split) <;> omega), ((ew2)).trans (by (try unfold ofF); (try unfold ofG); (try unfold ofH); (repeat' split) <;> omega), ((ew3)).trans (by (try unfold ofF); (try unfold ofG); (try unfold ofH); (repeat' split) <;> omega), ((ew4)).trans (by (try unfold ofF); (try unfold ofG); (try unfold ofH); (repeat' split) <;> omega)⟩
set_option maxHeartbeats 4000000 in
theorem t340_2 {G : GH} {h : JH} (g : Gd G h) {a1 : Int} (la1 : (-2147483648) ≤ a1) (ua1 : a1 ≤ 2147483647) (ew0 : h.2.2 42 51 = 2) {w1 : Int} (ew1 : h.2.2 71 0 = w1) (lw1 : 0 ≤ w1) (uw1 : w1 ≤ 99) {w2 : Int} (ew2 : h.2.2 71 1 = w2) (lw2 : 0 ≤ w2) (uw2 : w2 ≤ 99) {w3 : Int} (ew3 : h.2.2 71 2 = w3) (lw3 : 0 ≤ w3) (uw3 : w3 ≤ 99) {w4 : Int} (ew4 : h.2.2 71 3 = w4) (lw4 : 0 ≤ w4) (uw4 : w4 ≤ 99) : jOk 2 0 0 340 [(2, 42), (0, a1)] h (fun v h' => ∃ r : Int, v = some (0, r) ∧ Gd G h' ∧ Kp [(42, 52), (71, 0)] h h' ∧ r = ofF a1 2 w1 w2 w3 w4 ∧ h'.2.2 42 51 = ofG a1 2 w1 w2 w3 w4 ∧ h'.2.2 71 0 = ofH 0 a1 2 w1 w2 w3 w4 w1 ∧ h'.2.2 71 1 = ofH 1 a1 2 w1 w2 w3 w4 w2 ∧ h'.2.2 71 2 = ofH 2 a1 2 w1 w2 w3 w4 w3 ∧ h'.2.2 71 3 = ofH 3 a1 2 w1 w2 w3 w4 w4) := by
  refine ⟨by decide, by rw [ml340]; exact Nat.le_of_ble_eq_true rfl, ?_⟩
  rw [ml340, pp340]
  show jEv _ none _ c340_0 0 0 _ (c340_0, [(2, 42), (0, a1), (9, 0)], [], h, 0, 0)
  have k0 := Kp.rf [(42, 52), (71, 0)] h
  refine ev_iload_n rfl ?_
  refine ev_iconst ?_
  refine ev_bipush ?_
  refine ev_in (d := 0) (a := 0) (b := 0) (cd' := c242_0) (m := 3) (L0 := [(0, a1), (0, 0), (0, 99)]) (jcall_s (A := [(0, 99), (0, 0), (0, a1)]) (S' := []) (by decide) rfl (Nat.le_of_ble_eq_true rfl)) (by decide) ml242 pp242 (Nat.le_of_ble_eq_true rfl) rfl (by decide) (by decide) ?_
  refine ev_iload_n rfl ?_
  refine ev_iload_n rfl ?_
  refine ev_icmplt f242_14 (fun c75332 => ?_) (fun c75332 => ?_)
  · refine ev_iconst ?_
    refine ev_ret rfl (by decide) (by decide) ?_
    show jEv _ _ _ _ _ _ _ (_, [(2, 42), (0, a1), (9, 0)], [(0, 0)], _, _, _)
    refine ev_ifne f340_12 (fun c75333 => absurd c75333 (by omega)) (fun c75333 => ?_)
    refine ev_iconst ?_
    exact ev_ret rfl (by decide) (by decide) ⟨_, rfl, g, k0, by (try unfold ofF); (try unfold ofG); (try unfold ofH); (repeat' split) <;> omega, ((ew0)).trans (by (try unfold ofF); (try unfold ofG); (try unfold ofH); (repeat' split) <;> omega), ((ew1)).trans (by (try unfold ofF); (try unfold ofG); (try unfold ofH); (repeat' split) <;> omega), ((ew2)).trans (by (try unfold ofF); (try unfold ofG); (try unfold ofH); (repeat' split) <;> omega), ((ew3)).trans (by (try unfold ofF); (try unfold ofG); (try unfold ofH); (repeat' split) <;> omega), ((ew4)).trans (by (try unfold ofF); (try unfold ofG); (try unfold ofH); (repeat' split) <;> omega)⟩
  · refine ev_iload_n rfl ?_
    refine ev_iload_n rfl ?_
    refine ev_icmpgt f242_14 (fun c75334 => ?_) (fun c75334 => ?_)
    · refine ev_iconst ?_
      refine ev_ret rfl (by decide) (by decide) ?_
      show jEv _ _ _ _ _ _ _ (_, [(2, 42), (0, a1), (9, 0)], [(0, 0)], _, _, _)
      refine ev_ifne f340_12 (fun c75335 => absurd c75335 (by omega)) (fun c75335 => ?_)
      refine ev_iconst ?_
      exact ev_ret rfl (by decide) (by decide) ⟨_, rfl, g, k0, by (try unfold ofF); (try unfold ofG); (try unfold ofH); (repeat' split) <;> omega, ((ew0)).trans (by (try unfold ofF); (try unfold ofG); (try unfold ofH); (repeat' split) <;> omega), ((ew1)).trans (by (try unfold ofF); (try unfold ofG); (try unfold ofH); (repeat' split) <;> omega), ((ew2)).trans (by (try unfold ofF); (try unfold ofG); (try unfold ofH); (repeat' split) <;> omega), ((ew3)).trans (by (try unfold ofF); (try unfold ofG); (try unfold ofH); (repeat' split) <;> omega), ((ew4)).trans (by (try unfold ofF); (try unfold ofG); (try unfold ofH); (repeat' split) <;> omega)⟩
    · refine ev_iconst ?_
      refine ev_goto f242_15 ?_
      refine ev_ret rfl (by decide) (by decide) ?_
      show jEv _ _ _ _ _ _ _ (_, [(2, 42), (0, a1), (9, 0)], [(0, 1)], _, _, _)
      refine ev_ifne f340_12 (fun c75336 => ?_) (fun c75336 => absurd c75336 (by omega))
      refine ev_iconst ?_
      refine ev_istore_n (L' := [(2, 42), (0, a1), (0, 0)]) (Nat.le_of_ble_eq_true rfl) rfl ?_
      refine ev_iload_n rfl ?_
      refine ev_aload_n rfl ?_
      refine g_getv (r := 42) (v := 2) g ad42 (by decide) ft12_51 (ew0) ?_
      refine ev_icmpge f340_40 (fun c75337 => absurd c75337 (by omega)) (fun c75337 => ?_)
      refine ev_aload_n rfl ?_
      refine g_getp (r := 42) (c := 71) g ad42 (by decide) (by decide) rf42_52 ft12_52 ?_
      refine ev_iload_n rfl ?_
      refine g_ialdv (v := w1) g ad71 (by omega) (by omega) (ew1) ?_
      refine ev_iload_n rfl ?_
      refine ev_icmpne f340_34 (fun c75338 => ?_) (fun c75338 => ?_)
      · refine ev_iinc (w := 1) (L' := [(2, 42), (0, a1), (0, 1)]) rfl (by decide) rfl ?_
        refine ev_goto f340_14 ?_
        refine ev_iload_n rfl ?_
        refine ev_aload_n rfl ?_
        refine g_getv (r := 42) (v := 2) g ad42 (by decide) ft12_51 (ew0) ?_
        refine ev_icmpge f340_40 (fun c75339 => absurd c75339 (by omega)) (fun c75339 => ?_)
        refine ev_aload_n rfl ?_
        refine g_getp (r := 42) (c := 71) g ad42 (by decide) (by decide) rf42_52 ft12_52 ?_
        refine ev_iload_n rfl ?_
        refine g_ialdv (v := w2) g ad71 (by omega) (by omega) (ew2) ?_
        refine ev_iload_n rfl ?_
        refine ev_icmpne f340_34 (fun c75340 => ?_) (fun c75340 => ?_)
        · refine ev_iinc (w := 2) (L' := [(2, 42), (0, a1), (0, 2)]) rfl (by decide) rfl ?_
          refine ev_goto f340_14 ?_
          refine ev_iload_n rfl ?_
          refine ev_aload_n rfl ?_
          refine g_getv (r := 42) (v := 2) g ad42 (by decide) ft12_51 (ew0) ?_
          refine ev_icmpge f340_40 (fun c75341 => ?_) (fun c75341 => absurd c75341 (by omega))
          refine ev_aload_n rfl ?_
          refine g_getv (r := 42) (v := 2) g ad42 (by decide) ft12_51 (ew0) ?_
          refine ev_iconst ?_
          refine ev_icmpne f340_51 (fun c75342 => ?_) (fun c75342 => absurd c75342 (by omega))
          refine ev_aload_n rfl ?_
          refine g_getp (r := 42) (c := 71) g ad42 (by decide) (by decide) rf42_52 ft12_52 ?_
          refine ev_aload_n rfl ?_
          refine g_getv (r := 42) (v := 2) g ad42 (by decide) ft12_51 (ew0) ?_
          refine ev_iload_n rfl ?_
          refine g_iast g ad71 rt71 (fun _ => rfl) (by omega) (by omega) (by omega) (by omega) (fun h75343 e75343 g75343 => ?_)
          have k75343 := k0.wr e75343 rfl
          refine ev_aload_n rfl ?_
          refine ev_dup (by decide) ?_
          refine g_getv (r := 42) (v := 2) g75343 ad42 (by decide) ft12_51 (((jw_ne e75343 (Or.inl (by decide))).trans ew0)) ?_
          refine ev_iconst ?_
          refine ev_iadd (r := 3) (by decide) ?_
          refine g_putf (r := 42) g75343 ad42 (by decide) ft12_51 (by decide) (fun e => absurd e nz12_51) rf42_51 (by decide) (by omega) (by omega) (fun h75344 e75344 g75344 => ?_)
          have k75344 := k75343.wr e75344 rfl
          refine ev_aload_n rfl ?_
          refine g_getv (r := 42) (v := 3) g75344 ad42 (by decide) ft12_51 ((jw_eq e75344)) ?_
          exact ev_ret rfl (by decide) (by decide) ⟨_, rfl, g75344, k75344, by (try unfold ofF); (try unfold ofG); (try unfold ofH); (repeat' split) <;> omega, (((jw_eq e75344))).trans (by (try unfold ofF); (try unfold ofG); (try unfold ofH); (repeat' split) <;> omega), ((((jw_ne e75344 (Or.inl (by decide))).trans ((jw_ne e75343 (Or.inr (by decide))).trans ew1)))).trans (by (try unfold ofF); (try unfold ofG); (try unfold ofH); (repeat' split) <;> omega), ((((jw_ne e75344 (Or.inl (by decide))).trans ((jw_ne e75343 (Or.inr (by decide))).trans ew2)))).trans (by (try unfold ofF); (try unfold ofG); (try unfold ofH); (repeat' split) <;> omega), ((((jw_ne e75344 (Or.inl (by decide))).trans (jw_eq e75343)))).trans (by (try unfold ofF); (try unfold ofG); (try unfold ofH); (repeat' split) <;> omega), ((((jw_ne e75344 (Or.inl (by decide))).trans ((jw_ne e75343 (Or.inr (by decide))).trans ew4)))).trans (by (try unfold ofF); (try unfold ofG); (try unfold ofH); (repeat' split) <;> omega)⟩
        · refine ev_iconst ?_
          exact ev_ret rfl (by decide) (by decide) ⟨_, rfl, g, k0, by (try unfold ofF); (try unfold ofG); (try unfold ofH); (repeat' split) <;> omega, ((ew0)).trans (by (try unfold ofF); (try unfold ofG); (try unfold ofH); (repeat' split) <;> omega), ((ew1)).trans (by (try unfold ofF); (try unfold ofG); (try unfold ofH); (repeat' split) <;> omega), ((ew2)).trans (by (try unfold ofF); (try unfold ofG); (try unfold ofH); (repeat' split) <;> omega), ((ew3)).trans (by (try unfold ofF); (try unfold ofG); (try unfold ofH); (repeat' split) <;> omega), ((ew4)).trans (by (try unfold ofF); (try unfold ofG); (try unfold ofH); (repeat' split) <;> omega)⟩
      · refine ev_iconst ?_
        exact ev_ret rfl (by decide) (by decide) ⟨_, rfl, g, k0, by (try unfold ofF); (try unfold ofG); (try unfold ofH); (repeat' split) <;> omega, ((ew0)).trans (by (try unfold ofF); (try unfold ofG); (try unfold ofH); (repeat' split) <;> omega), ((ew1)).trans (by (try unfold ofF); (try unfold ofG); (try unfold ofH); (repeat' split) <;> omega), ((ew2)).trans (by (try unfold ofF); (try unfold ofG); (try unfold ofH); (repeat' split) <;> omega), ((ew3)).trans (by (try unfold ofF); (try unfold ofG); (try unfold ofH); (repeat' split) <;> omega), ((ew4)).trans (by (try unfold ofF); (try unfold ofG); (try unfold ofH); (repeat' split) <;> omega)⟩
set_option maxHeartbeats 4000000 in
theorem t340_3 {G : GH} {h : JH} (g : Gd G h) {a1 : Int} (la1 : (-2147483648) ≤ a1) (ua1 : a1 ≤ 2147483647) (ew0 : h.2.2 42 51 = 3) {w1 : Int} (ew1 : h.2.2 71 0 = w1) (lw1 : 0 ≤ w1) (uw1 : w1 ≤ 99) {w2 : Int} (ew2 : h.2.2 71 1 = w2) (lw2 : 0 ≤ w2) (uw2 : w2 ≤ 99) {w3 : Int} (ew3 : h.2.2 71 2 = w3) (lw3 : 0 ≤ w3) (uw3 : w3 ≤ 99) {w4 : Int} (ew4 : h.2.2 71 3 = w4) (lw4 : 0 ≤ w4) (uw4 : w4 ≤ 99) : jOk 2 0 0 340 [(2, 42), (0, a1)] h (fun v h' => ∃ r : Int, v = some (0, r) ∧ Gd G h' ∧ Kp [(42, 52), (71, 0)] h h' ∧ r = ofF a1 3 w1 w2 w3 w4 ∧ h'.2.2 42 51 = ofG a1 3 w1 w2 w3 w4 ∧ h'.2.2 71 0 = ofH 0 a1 3 w1 w2 w3 w4 w1 ∧ h'.2.2 71 1 = ofH 1 a1 3 w1 w2 w3 w4 w2 ∧ h'.2.2 71 2 = ofH 2 a1 3 w1 w2 w3 w4 w3 ∧ h'.2.2 71 3 = ofH 3 a1 3 w1 w2 w3 w4 w4) := by
  refine ⟨by decide, by rw [ml340]; exact Nat.le_of_ble_eq_true rfl, ?_⟩
  rw [ml340, pp340]
  show jEv _ none _ c340_0 0 0 _ (c340_0, [(2, 42), (0, a1), (9, 0)], [], h, 0, 0)
  have k0 := Kp.rf [(42, 52), (71, 0)] h
  refine ev_iload_n rfl ?_
  refine ev_iconst ?_
  refine ev_bipush ?_
  refine ev_in (d := 0) (a := 0) (b := 0) (cd' := c242_0) (m := 3) (L0 := [(0, a1), (0, 0), (0, 99)]) (jcall_s (A := [(0, 99), (0, 0), (0, a1)]) (S' := []) (by decide) rfl (Nat.le_of_ble_eq_true rfl)) (by decide) ml242 pp242 (Nat.le_of_ble_eq_true rfl) rfl (by decide) (by decide) ?_
  refine ev_iload_n rfl ?_
  refine ev_iload_n rfl ?_
  refine ev_icmplt f242_14 (fun c75375 => ?_) (fun c75375 => ?_)
  · refine ev_iconst ?_
    refine ev_ret rfl (by decide) (by decide) ?_
    show jEv _ _ _ _ _ _ _ (_, [(2, 42), (0, a1), (9, 0)], [(0, 0)], _, _, _)
    refine ev_ifne f340_12 (fun c75376 => absurd c75376 (by omega)) (fun c75376 => ?_)
    refine ev_iconst ?_
    exact ev_ret rfl (by decide) (by decide) ⟨_, rfl, g, k0, by (try unfold ofF); (try unfold ofG); (try unfold ofH); (repeat' split) <;> omega, ((ew0)).trans (by (try unfold ofF); (try unfold ofG); (try unfold ofH); (repeat' split) <;> omega), ((ew1)).trans (by (try unfold ofF); (try unfold ofG); (try unfold ofH); (repeat' split) <;> omega), ((ew2)).trans (by (try unfold ofF); (try unfold ofG); (try unfold ofH); (repeat' split) <;> omega), ((ew3)).trans (by (try unfold ofF); (try unfold ofG); (try unfold ofH); (repeat' split) <;> omega), ((ew4)).trans (by (try unfold ofF); (try unfold ofG); (try unfold ofH); (repeat' split) <;> omega)⟩
  · refine ev_iload_n rfl ?_
    refine ev_iload_n rfl ?_
    refine ev_icmpgt f242_14 (fun c75377 => ?_) (fun c75377 => ?_)
    · refine ev_iconst ?_
      refine ev_ret rfl (by decide) (by decide) ?_
      show jEv _ _ _ _ _ _ _ (_, [(2, 42), (0, a1), (9, 0)], [(0, 0)], _, _, _)
      refine ev_ifne f340_12 (fun c75378 => absurd c75378 (by omega)) (fun c75378 => ?_)
      refine ev_iconst ?_
      exact ev_ret rfl (by decide) (by decide) ⟨_, rfl, g, k0, by (try unfold ofF); (try unfold ofG); (try unfold ofH); (repeat' split) <;> omega, ((ew0)).trans (by (try unfold ofF); (try unfold ofG); (try unfold ofH); (repeat' split) <;> omega), ((ew1)).trans (by (try unfold ofF); (try unfold ofG); (try unfold ofH); (repeat' split) <;> omega), ((ew2)).trans (by (try unfold ofF); (try unfold ofG); (try unfold ofH); (repeat' split) <;> omega), ((ew3)).trans (by (try unfold ofF); (try unfold ofG); (try unfold ofH); (repeat' split) <;> omega), ((ew4)).trans (by (try unfold ofF); (try unfold ofG); (try unfold ofH); (repeat' split) <;> omega)⟩
    · refine ev_iconst ?_
      refine ev_goto f242_15 ?_
      refine ev_ret rfl (by decide) (by decide) ?_
      show jEv _ _ _ _ _ _ _ (_, [(2, 42), (0, a1), (9, 0)], [(0, 1)], _, _, _)
      refine ev_ifne f340_12 (fun c75379 => ?_) (fun c75379 => absurd c75379 (by omega))
      refine ev_iconst ?_
      refine ev_istore_n (L' := [(2, 42), (0, a1), (0, 0)]) (Nat.le_of_ble_eq_true rfl) rfl ?_
      refine ev_iload_n rfl ?_
      refine ev_aload_n rfl ?_
      refine g_getv (r := 42) (v := 3) g ad42 (by decide) ft12_51 (ew0) ?_
      refine ev_icmpge f340_40 (fun c75380 => absurd c75380 (by omega)) (fun c75380 => ?_)
      refine ev_aload_n rfl ?_
      refine g_getp (r := 42) (c := 71) g ad42 (by decide) (by decide) rf42_52 ft12_52 ?_
      refine ev_iload_n rfl ?_
      refine g_ialdv (v := w1) g ad71 (by omega) (by omega) (ew1) ?_
      refine ev_iload_n rfl ?_
      refine ev_icmpne f340_34 (fun c75381 => ?_) (fun c75381 => ?_)
      · refine ev_iinc (w := 1) (L' := [(2, 42), (0, a1), (0, 1)]) rfl (by decide) rfl ?_
        refine ev_goto f340_14 ?_
        refine ev_iload_n rfl ?_
        refine ev_aload_n rfl ?_
        refine g_getv (r := 42) (v := 3) g ad42 (by decide) ft12_51 (ew0) ?_
        refine ev_icmpge f340_40 (fun c75382 => absurd c75382 (by omega)) (fun c75382 => ?_)
        refine ev_aload_n rfl ?_
        refine g_getp (r := 42) (c := 71) g ad42 (by decide) (by decide) rf42_52 ft12_52 ?_
        refine ev_iload_n rfl ?_
        refine g_ialdv (v := w2) g ad71 (by omega) (by omega) (ew2) ?_
        refine ev_iload_n rfl ?_
        refine ev_icmpne f340_34 (fun c75383 => ?_) (fun c75383 => ?_)
        · refine ev_iinc (w := 2) (L' := [(2, 42), (0, a1), (0, 2)]) rfl (by decide) rfl ?_
          refine ev_goto f340_14 ?_
          refine ev_iload_n rfl ?_
          refine ev_aload_n rfl ?_
          refine g_getv (r := 42) (v := 3) g ad42 (by decide) ft12_51 (ew0) ?_
          refine ev_icmpge f340_40 (fun c75384 => absurd c75384 (by omega)) (fun c75384 => ?_)
          refine ev_aload_n rfl ?_
          refine g_getp (r := 42) (c := 71) g ad42 (by decide) (by decide) rf42_52 ft12_52 ?_
          refine ev_iload_n rfl ?_
          refine g_ialdv (v := w3) g ad71 (by omega) (by omega) (ew3) ?_
          refine ev_iload_n rfl ?_
          refine ev_icmpne f340_34 (fun c75385 => ?_) (fun c75385 => ?_)
          · refine ev_iinc (w := 3) (L' := [(2, 42), (0, a1), (0, 3)]) rfl (by decide) rfl ?_
            refine ev_goto f340_14 ?_
            refine ev_iload_n rfl ?_
            refine ev_aload_n rfl ?_
            refine g_getv (r := 42) (v := 3) g ad42 (by decide) ft12_51 (ew0) ?_
            refine ev_icmpge f340_40 (fun c75386 => ?_) (fun c75386 => absurd c75386 (by omega))
            refine ev_aload_n rfl ?_
            refine g_getv (r := 42) (v := 3) g ad42 (by decide) ft12_51 (ew0) ?_
            refine ev_iconst ?_
            refine ev_icmpne f340_51 (fun c75387 => ?_) (fun c75387 => absurd c75387 (by omega))
            refine ev_aload_n rfl ?_
            refine g_getp (r := 42) (c := 71) g ad42 (by decide) (by decide) rf42_52 ft12_52 ?_
            refine ev_aload_n rfl ?_
            refine g_getv (r := 42) (v := 3) g ad42 (by decide) ft12_51 (ew0) ?_
            refine ev_iload_n rfl ?_
            refine g_iast g ad71 rt71 (fun _ => rfl) (by omega) (by omega) (by omega) (by omega) (fun h75388 e75388 g75388 => ?_)
            have k75388 := k0.wr e75388 rfl
            refine ev_aload_n rfl ?_
            refine ev_dup (by decide) ?_
            refine g_getv (r := 42) (v := 3) g75388 ad42 (by decide) ft12_51 (((jw_ne e75388 (Or.inl (by decide))).trans ew0)) ?_
            refine ev_iconst ?_
            refine ev_iadd (r := 4) (by decide) ?_
            refine g_putf (r := 42) g75388 ad42 (by decide) ft12_51 (by decide) (fun e => absurd e nz12_51) rf42_51 (by decide) (by omega) (by omega) (fun h75389 e75389 g75389 => ?_)
            have k75389 := k75388.wr e75389 rfl
            refine ev_aload_n rfl ?_
            refine g_getv (r := 42) (v := 4) g75389 ad42 (by decide) ft12_51 ((jw_eq e75389)) ?_
            exact ev_ret rfl (by decide) (by decide) ⟨_, rfl, g75389, k75389, by (try unfold ofF); (try unfold ofG); (try unfold ofH); (repeat' split) <;> omega, (((jw_eq e75389))).trans (by (try unfold ofF); (try unfold ofG); (try unfold ofH); (repeat' split) <;> omega), ((((jw_ne e75389 (Or.inl (by decide))).trans ((jw_ne e75388 (Or.inr (by decide))).trans ew1)))).trans (by (try unfold ofF); (try unfold ofG); (try unfold ofH); (repeat' split) <;> omega), ((((jw_ne e75389 (Or.inl (by decide))).trans ((jw_ne e75388 (Or.inr (by decide))).trans ew2)))).trans (by (try unfold ofF); (try unfold ofG); (try unfold ofH); (repeat' split) <;> omega), ((((jw_ne e75389 (Or.inl (by decide))).trans ((jw_ne e75388 (Or.inr (by decide))).trans ew3)))).trans (by (try unfold ofF); (try unfold ofG); (try unfold ofH); (repeat' split) <;> omega), ((((jw_ne e75389 (Or.inl (by decide))).trans (jw_eq e75388)))).trans (by (try unfold ofF); (try unfold ofG); (try unfold ofH); (repeat' split) <;> omega)⟩
          · refine ev_iconst ?_
            exact ev_ret rfl (by decide) (by decide) ⟨_, rfl, g, k0, by (try unfold ofF); (try unfold ofG); (try unfold ofH); (repeat' split) <;> omega, ((ew0)).trans (by (try unfold ofF); (try unfold ofG); (try unfold ofH); (repeat' split) <;> omega), ((ew1)).trans (by (try unfold ofF); (try unfold ofG); (try unfold ofH); (repeat' split) <;> omega), ((ew2)).trans (by (try unfold ofF); (try unfold ofG); (try unfold ofH); (repeat' split) <;> omega), ((ew3)).trans (by (try unfold ofF); (try unfold ofG); (try unfold ofH); (repeat' split) <;> omega), ((ew4)).trans (by (try unfold ofF); (try unfold ofG); (try unfold ofH); (repeat' split) <;> omega)⟩
        · refine ev_iconst ?_
          exact ev_ret rfl (by decide) (by decide) ⟨_, rfl, g, k0, by (try unfold ofF); (try unfold ofG); (try unfold ofH); (repeat' split) <;> omega, ((ew0)).trans (by (try unfold ofF); (try unfold ofG); (try unfold ofH); (repeat' split) <;> omega), ((ew1)).trans (by (try unfold ofF); (try unfold ofG); (try unfold ofH); (repeat' split) <;> omega), ((ew2)).trans (by (try unfold ofF); (try unfold ofG); (try unfold ofH); (repeat' split) <;> omega), ((ew3)).trans (by (try unfold ofF); (try unfold ofG); (try unfold ofH); (repeat' split) <;> omega), ((ew4)).trans (by (try unfold ofF); (try unfold ofG); (try unfold ofH); (repeat' split) <;> omega)⟩
      · refine ev_iconst ?_
        exact ev_ret rfl (by decide) (by decide) ⟨_, rfl, g, k0, by (try unfold ofF); (try unfold ofG); (try unfold ofH); (repeat' split) <;> omega, ((ew0)).trans (by (try unfold ofF); (try unfold ofG); (try unfold ofH); (repeat' split) <;> omega), ((ew1)).trans (by (try unfold ofF); (try unfold ofG); (try unfold ofH); (repeat' split) <;> omega), ((ew2)).trans (by (try unfold ofF); (try unfold ofG); (try unfold ofH); (repeat' split) <;> omega), ((ew3)).trans (by (try unfold ofF); (try unfold ofG); (try unfold ofH); (repeat' split) <;> omega), ((ew4)).trans (by (try unfold ofF); (try unfold ofG); (try unfold ofH); (repeat' split) <;> omega)⟩
set_option maxHeartbeats 4000000 in
theorem t340_4 {G : GH} {h : JH} (g : Gd G h) {a1 : Int} (la1 : (-2147483648) ≤ a1) (ua1 : a1 ≤ 2147483647) (ew0 : h.2.2 42 51 = 4) {w1 : Int} (ew1 : h.2.2 71 0 = w1) (lw1 : 0 ≤ w1) (uw1 : w1 ≤ 99) {w2 : Int} (ew2 : h.2.2 71 1 = w2) (lw2 : 0 ≤ w2) (uw2 : w2 ≤ 99) {w3 : Int} (ew3 : h.2.2 71 2 = w3) (lw3 : 0 ≤ w3) (uw3 : w3 ≤ 99) {w4 : Int} (ew4 : h.2.2 71 3 = w4) (lw4 : 0 ≤ w4) (uw4 : w4 ≤ 99) : jOk 2 0 0 340 [(2, 42), (0, a1)] h (fun v h' => ∃ r : Int, v = some (0, r) ∧ Gd G h' ∧ Kp [(42, 52), (71, 0)] h h' ∧ r = ofF a1 4 w1 w2 w3 w4 ∧ h'.2.2 42 51 = ofG a1 4 w1 w2 w3 w4 ∧ h'.2.2 71 0 = ofH 0 a1 4 w1 w2 w3 w4 w1 ∧ h'.2.2 71 1 = ofH 1 a1 4 w1 w2 w3 w4 w2 ∧ h'.2.2 71 2 = ofH 2 a1 4 w1 w2 w3 w4 w3 ∧ h'.2.2 71 3 = ofH 3 a1 4 w1 w2 w3 w4 w4) := by
  refine ⟨by decide, by rw [ml340]; exact Nat.le_of_ble_eq_true rfl, ?_⟩
  rw [ml340, pp340]
  show jEv _ none _ c340_0 0 0 _ (c340_0, [(2, 42), (0, a1), (9, 0)], [], h, 0, 0)
  have k0 := Kp.rf [(42, 52), (71, 0)] h
  refine ev_iload_n rfl ?_
  refine ev_iconst ?_
  refine ev_bipush ?_
  refine ev_in (d := 0) (a := 0) (b := 0) (cd' := c242_0) (m := 3) (L0 := [(0, a1), (0, 0), (0, 99)]) (jcall_s (A := [(0, 99), (0, 0), (0, a1)]) (S' := []) (by decide) rfl (Nat.le_of_ble_eq_true rfl)) (by decide) ml242 pp242 (Nat.le_of_ble_eq_true rfl) rfl (by decide) (by decide) ?_
  refine ev_iload_n rfl ?_
  refine ev_iload_n rfl ?_
  refine ev_icmplt f242_14 (fun c75420 => ?_) (fun c75420 => ?_)
  · refine ev_iconst ?_
    refine ev_ret rfl (by decide) (by decide) ?_
    show jEv _ _ _ _ _ _ _ (_, [(2, 42), (0, a1), (9, 0)], [(0, 0)], _, _, _)
    refine ev_ifne f340_12 (fun c75421 => absurd c75421 (by omega)) (fun c75421 => ?_)
    refine ev_iconst ?_
    exact ev_ret rfl (by decide) (by decide) ⟨_, rfl, g, k0, by (try unfold ofF); (try unfold ofG); (try unfold ofH); (repeat' split) <;> omega, ((ew0)).trans (by (try unfold ofF); (try unfold ofG); (try unfold ofH); (repeat' split) <;> omega), ((ew1)).trans (by (try unfold ofF); (try unfold ofG); (try unfold ofH); (repeat' split) <;> omega), ((ew2)).trans (by (try unfold ofF); (try unfold ofG); (try unfold ofH); (repeat' split) <;> omega), ((ew3)).trans (by (try unfold ofF); (try unfold ofG); (try unfold ofH); (repeat' split) <;> omega), ((ew4)).trans (by (try unfold ofF); (try unfold ofG); (try unfold ofH); (repeat' split) <;> omega)⟩
  · refine ev_iload_n rfl ?_
    refine ev_iload_n rfl ?_
    refine ev_icmpgt f242_14 (fun c75422 => ?_) (fun c75422 => ?_)
    · refine ev_iconst ?_
      refine ev_ret rfl (by decide) (by decide) ?_
      show jEv _ _ _ _ _ _ _ (_, [(2, 42), (0, a1), (9, 0)], [(0, 0)], _, _, _)
      refine ev_ifne f340_12 (fun c75423 => absurd c75423 (by omega)) (fun c75423 => ?_)
      refine ev_iconst ?_
      exact ev_ret rfl (by decide) (by decide) ⟨_, rfl, g, k0, by (try unfold ofF); (try unfold ofG); (try unfold ofH); (repeat' split) <;> omega, ((ew0)).trans (by (try unfold ofF); (try unfold ofG); (try unfold ofH); (repeat' split) <;> omega), ((ew1)).trans (by (try unfold ofF); (try unfold ofG); (try unfold ofH); (repeat' split) <;> omega), ((ew2)).trans (by (try unfold ofF); (try unfold ofG); (try unfold ofH); (repeat' split) <;> omega), ((ew3)).trans (by (try unfold ofF); (try unfold ofG); (try unfold ofH); (repeat' split) <;> omega), ((ew4)).trans (by (try unfold ofF); (try unfold ofG); (try unfold ofH); (repeat' split) <;> omega)⟩
    · refine ev_iconst ?_
      refine ev_goto f242_15 ?_
      refine ev_ret rfl (by decide) (by decide) ?_
      show jEv _ _ _ _ _ _ _ (_, [(2, 42), (0, a1), (9, 0)], [(0, 1)], _, _, _)
      refine ev_ifne f340_12 (fun c75424 => ?_) (fun c75424 => absurd c75424 (by omega))
      refine ev_iconst ?_
      refine ev_istore_n (L' := [(2, 42), (0, a1), (0, 0)]) (Nat.le_of_ble_eq_true rfl) rfl ?_
      refine ev_iload_n rfl ?_
      refine ev_aload_n rfl ?_
      refine g_getv (r := 42) (v := 4) g ad42 (by decide) ft12_51 (ew0) ?_
      refine ev_icmpge f340_40 (fun c75425 => absurd c75425 (by omega)) (fun c75425 => ?_)
      refine ev_aload_n rfl ?_
      refine g_getp (r := 42) (c := 71) g ad42 (by decide) (by decide) rf42_52 ft12_52 ?_
      refine ev_iload_n rfl ?_
      refine g_ialdv (v := w1) g ad71 (by omega) (by omega) (ew1) ?_
      refine ev_iload_n rfl ?_
      refine ev_icmpne f340_34 (fun c75426 => ?_) (fun c75426 => ?_)
      · refine ev_iinc (w := 1) (L' := [(2, 42), (0, a1), (0, 1)]) rfl (by decide) rfl ?_
        refine ev_goto f340_14 ?_
        refine ev_iload_n rfl ?_
        refine ev_aload_n rfl ?_
        refine g_getv (r := 42) (v := 4) g ad42 (by decide) ft12_51 (ew0) ?_
        refine ev_icmpge f340_40 (fun c75427 => absurd c75427 (by omega)) (fun c75427 => ?_)
        refine ev_aload_n rfl ?_
        refine g_getp (r := 42) (c := 71) g ad42 (by decide) (by decide) rf42_52 ft12_52 ?_
        refine ev_iload_n rfl ?_
        refine g_ialdv (v := w2) g ad71 (by omega) (by omega) (ew2) ?_
        refine ev_iload_n rfl ?_
        refine ev_icmpne f340_34 (fun c75428 => ?_) (fun c75428 => ?_)
        · refine ev_iinc (w := 2) (L' := [(2, 42), (0, a1), (0, 2)]) rfl (by decide) rfl ?_
          refine ev_goto f340_14 ?_
          refine ev_iload_n rfl ?_
          refine ev_aload_n rfl ?_
          refine g_getv (r := 42) (v := 4) g ad42 (by decide) ft12_51 (ew0) ?_
          refine ev_icmpge f340_40 (fun c75429 => absurd c75429 (by omega)) (fun c75429 => ?_)
          refine ev_aload_n rfl ?_
          refine g_getp (r := 42) (c := 71) g ad42 (by decide) (by decide) rf42_52 ft12_52 ?_
          refine ev_iload_n rfl ?_
          refine g_ialdv (v := w3) g ad71 (by omega) (by omega) (ew3) ?_
          refine ev_iload_n rfl ?_
          refine ev_icmpne f340_34 (fun c75430 => ?_) (fun c75430 => ?_)
          · refine ev_iinc (w := 3) (L' := [(2, 42), (0, a1), (0, 3)]) rfl (by decide) rfl ?_
            refine ev_goto f340_14 ?_
            refine ev_iload_n rfl ?_
            refine ev_aload_n rfl ?_
            refine g_getv (r := 42) (v := 4) g ad42 (by decide) ft12_51 (ew0) ?_
            refine ev_icmpge f340_40 (fun c75431 => absurd c75431 (by omega)) (fun c75431 => ?_)
            refine ev_aload_n rfl ?_
            refine g_getp (r := 42) (c := 71) g ad42 (by decide) (by decide) rf42_52 ft12_52 ?_
            refine ev_iload_n rfl ?_
            refine g_ialdv (v := w4) g ad71 (by omega) (by omega) (ew4) ?_
            refine ev_iload_n rfl ?_
            refine ev_icmpne f340_34 (fun c75432 => ?_) (fun c75432 => ?_)
            · refine ev_iinc (w := 4) (L' := [(2, 42), (0, a1), (0, 4)]) rfl (by decide) rfl ?_
              refine ev_goto f340_14 ?_
              refine ev_iload_n rfl ?_
              refine ev_aload_n rfl ?_
              refine g_getv (r := 42) (v := 4) g ad42 (by decide) ft12_51 (ew0) ?_
              refine ev_icmpge f340_40 (fun c75433 => ?_) (fun c75433 => absurd c75433 (by omega))
              refine ev_aload_n rfl ?_
              refine g_getv (r := 42) (v := 4) g ad42 (by decide) ft12_51 (ew0) ?_
              refine ev_iconst ?_
              refine ev_icmpne f340_51 (fun c75434 => absurd c75434 (by omega)) (fun c75434 => ?_)
              refine ev_bipush ?_
              exact ev_ret rfl (by decide) (by decide) ⟨_, rfl, g, k0, by (try unfold ofF); (try unfold ofG); (try unfold ofH); (repeat' split) <;> omega, ((ew0)).trans (by (try unfold ofF); (try unfold ofG); (try unfold ofH); (repeat' split) <;> omega), ((ew1)).trans (by (try unfold ofF); (try unfold ofG); (try unfold ofH); (repeat' split) <;> omega), ((ew2)).trans (by (try unfold ofF); (try unfold ofG); (try unfold ofH); (repeat' split) <;> omega), ((ew3)).trans (by (try unfold ofF); (try unfold ofG); (try unfold ofH); (repeat' split) <;> omega), ((ew4)).trans (by (try unfold ofF); (try unfold ofG); (try unfold ofH); (repeat' split) <;> omega)⟩
            · refine ev_iconst ?_
              exact ev_ret rfl (by decide) (by decide) ⟨_, rfl, g, k0, by (try unfold ofF); (try unfold ofG); (try unfold ofH); (repeat' split) <;> omega, ((ew0)).trans (by (try unfold ofF); (try unfold ofG); (try unfold ofH); (repeat' split) <;> omega), ((ew1)).trans (by (try unfold ofF); (try unfold ofG); (try unfold ofH); (repeat' split) <;> omega), ((ew2)).trans (by (try unfold ofF); (try unfold ofG); (try unfold ofH); (repeat' split) <;> omega), ((ew3)).trans (by (try unfold ofF); (try unfold ofG); (try unfold ofH); (repeat' split) <;> omega), ((ew4)).trans (by (try unfold ofF); (try unfold ofG); (try unfold ofH); (repeat' split) <;> omega)⟩
          · refine ev_iconst ?_
            exact ev_ret rfl (by decide) (by decide) ⟨_, rfl, g, k0, by (try unfold ofF); (try unfold ofG); (try unfold ofH); (repeat' split) <;> omega, ((ew0)).trans (by (try unfold ofF); (try unfold ofG); (try unfold ofH); (repeat' split) <;> omega), ((ew1)).trans (by (try unfold ofF); (try unfold ofG); (try unfold ofH); (repeat' split) <;> omega), ((ew2)).trans (by (try unfold ofF); (try unfold ofG); (try unfold ofH); (repeat' split) <;> omega), ((ew3)).trans (by (try unfold ofF); (try unfold ofG); (try unfold ofH); (repeat' split) <;> omega), ((ew4)).trans (by (try unfold ofF); (try unfold ofG); (try unfold ofH); (repeat' split) <;> omega)⟩
        · refine ev_iconst ?_
          exact ev_ret rfl (by decide) (by decide) ⟨_, rfl, g, k0, by (try unfold ofF); (try unfold ofG); (try unfold ofH); (repeat' split) <;> omega, ((ew0)).trans (by (try unfold ofF); (try unfold ofG); (try unfold ofH); (repeat' split) <;> omega), ((ew1)).trans (by (try unfold ofF); (try unfold ofG); (try unfold ofH); (repeat' split) <;> omega), ((ew2)).trans (by (try unfold ofF); (try unfold ofG); (try unfold ofH); (repeat' split) <;> omega), ((ew3)).trans (by (try unfold ofF); (try unfold ofG); (try unfold ofH); (repeat' split) <;> omega), ((ew4)).trans (by (try unfold ofF); (try unfold ofG); (try unfold ofH); (repeat' split) <;> omega)⟩
      · refine ev_iconst ?_
        exact ev_ret rfl (by decide) (by decide) ⟨_, rfl, g, k0, by (try unfold ofF); (try unfold ofG); (try unfold ofH); (repeat' split) <;> omega, ((ew0)).trans (by (try unfold ofF); (try unfold ofG); (try unfold ofH); (repeat' split) <;> omega), ((ew1)).trans (by (try unfold ofF); (try unfold ofG); (try unfold ofH); (repeat' split) <;> omega), ((ew2)).trans (by (try unfold ofF); (try unfold ofG); (try unfold ofH); (repeat' split) <;> omega), ((ew3)).trans (by (try unfold ofF); (try unfold ofG); (try unfold ofH); (repeat' split) <;> omega), ((ew4)).trans (by (try unfold ofF); (try unfold ofG); (try unfold ofH); (repeat' split) <;> omega)⟩
theorem t340 {G : GH} {h : JH} (g : Gd G h) {a1 : Int} (la1 : (-2147483648) ≤ a1) (ua1 : a1 ≤ 2147483647) {w0 : Int} (ew0 : h.2.2 42 51 = w0) (lw0 : 0 ≤ w0) (uw0 : w0 ≤ 4) {w1 : Int} (ew1 : h.2.2 71 0 = w1) (lw1 : 0 ≤ w1) (uw1 : w1 ≤ 99) {w2 : Int} (ew2 : h.2.2 71 1 = w2) (lw2 : 0 ≤ w2) (uw2 : w2 ≤ 99) {w3 : Int} (ew3 : h.2.2 71 2 = w3) (lw3 : 0 ≤ w3) (uw3 : w3 ≤ 99) {w4 : Int} (ew4 : h.2.2 71 3 = w4) (lw4 : 0 ≤ w4) (uw4 : w4 ≤ 99) : jOk 2 0 0 340 [(2, 42), (0, a1)] h (fun v h' => ∃ r : Int, v = some (0, r) ∧ Gd G h' ∧ Kp [(42, 52), (71, 0)] h h' ∧ r = ofF a1 w0 w1 w2 w3 w4 ∧ h'.2.2 42 51 = ofG a1 w0 w1 w2 w3 w4 ∧ h'.2.2 71 0 = ofH 0 a1 w0 w1 w2 w3 w4 w1 ∧ h'.2.2 71 1 = ofH 1 a1 w0 w1 w2 w3 w4 w2 ∧ h'.2.2 71 2 = ofH 2 a1 w0 w1 w2 w3 w4 w3 ∧ h'.2.2 71 3 = ofH 3 a1 w0 w1 w2 w3 w4 w4) := by
  rcases (show w0 = 0 ∨ w0 = 1 ∨ w0 = 2 ∨ w0 = 3 ∨ w0 = 4 by omega) with z | z | z | z | z <;> subst z
  · exact jOk_le (by decide) (t340_0 g la1 ua1 ew0 ew1 lw1 uw1 ew2 lw2 uw2 ew3 lw3 uw3 ew4 lw4 uw4)
  · exact jOk_le (by decide) (t340_1 g la1 ua1 ew0 ew1 lw1 uw1 ew2 lw2 uw2 ew3 lw3 uw3 ew4 lw4 uw4)
  · exact jOk_le (by decide) (t340_2 g la1 ua1 ew0 ew1 lw1 uw1 ew2 lw2 uw2 ew3 lw3 uw3 ew4 lw4 uw4)
  · exact jOk_le (by decide) (t340_3 g la1 ua1 ew0 ew1 lw1 uw1 ew2 lw2 uw2 ew3 lw3 uw3 ew4 lw4 uw4)
  · exact jOk_le (by decide) (t340_4 g la1 ua1 ew0 ew1 lw1 uw1 ew2 lw2 uw2 ew3 lw3 uw3 ew4 lw4 uw4)

set_option maxHeartbeats 4000000 in
theorem t203 {G : GH} {h : JH} (g : Gd G h) {w0 : Int} (ew0 : h.2.2 26 7 = w0) (lw0 : 0 ≤ w0) (uw0 : w0 ≤ 4) {w1 : Int} (ew1 : h.2.2 31 0 = w1) (lw1 : 0 ≤ w1) (uw1 : w1 ≤ 99) {w2 : Int} (ew2 : h.2.2 31 1 = w2) (lw2 : 0 ≤ w2) (uw2 : w2 ≤ 99) {w3 : Int} (ew3 : h.2.2 31 2 = w3) (lw3 : 0 ≤ w3) (uw3 : w3 ≤ 99) {w4 : Int} (ew4 : h.2.2 31 3 = w4) (lw4 : 0 ≤ w4) (uw4 : w4 ≤ 99) : jOk 2 0 0 203 [(2, 0)] h (fun v h' => ∃ r : Int, v = some (0, r) ∧ Gd G h' ∧ Kp [(26, 4), (26, 8)] h h' ∧ h'.2.2 26 7 = 0 ∧ h'.2.2 31 0 = w1 ∧ h'.2.2 31 1 = w2 ∧ h'.2.2 31 2 = w3 ∧ h'.2.2 31 3 = w4) := by
  refine ⟨by decide, by rw [ml203]; exact Nat.le_of_ble_eq_true rfl, ?_⟩
  rw [ml203, pp203]
  show jEv _ none _ c203_0 0 0 _ (c203_0, [(2, 0)], [], h, 0, 0)
  have k0 := Kp.rf [(26, 4), (26, 8)] h
  refine ev_aload_n rfl ?_
  refine g_getp (r := 0) (c := 26) g ad0 (by decide) (by decide) rf0_11 ft11_11 ?_
  refine ev_in (d := 0) (a := 0) (b := 0) (cd' := c121_0) (m := 2) (L0 := [(2, 26), (9, 0)]) (jcall_v (A := []) (S' := []) (r := 26) rfl (g.lt ad26) (g.tg ad26) (Nat.le_of_ble_eq_true rfl)) (by decide) ml121 pp121 (Nat.le_of_ble_eq_true rfl) rfl (by decide) (by decide) ?_
  refine ev_aload_n rfl ?_
  obtain ⟨v75441, ev75441, lv75441, uv75441⟩ := g.rd ad26 (show 3 < 15 by decide) rf26_3
  refine g_getv (r := 26) (v := v75441) g ad26 (by decide) ft9_3 ev75441 ?_
  refine ev_istore_n (L' := [(2, 26), (0, v75441)]) (Nat.le_of_ble_eq_true rfl) rfl ?_
  refine ev_aload_n rfl ?_
  refine ev_iconst ?_
  refine g_putf (r := 26) g ad26 (by decide) ft9_3 (by decide) (fun e => absurd e nz9_3) rf26_3 (by decide) (by omega) (by omega) (fun h75442 e75442 g75442 => ?_)
  have k75442 := k0.wr e75442 rfl
  refine ev_aload_n rfl ?_
  refine ev_iconst ?_
  refine g_putf (r := 26) g75442 ad26 (by decide) ft9_7 (by decide) (fun e => absurd e nz9_7) rf26_7 (by decide) (by omega) (by omega) (fun h75443 e75443 g75443 => ?_)
  have k75443 := k75442.wr e75443 rfl
  refine ev_iload_n rfl ?_
  refine ev_ret rfl (by decide) (by decide) ?_
  show jEv _ _ _ _ _ _ _ (_, [(2, 0)], [(0, v75441)], _, _, _)
  exact ev_ret rfl (by decide) (by decide) ⟨_, rfl, g75443, k75443, (((jw_eq e75443))).trans (by (try unfold ofF); (try unfold ofG); (try unfold ofH); (repeat' split) <;> omega), ((((jw_ne e75443 (Or.inl (by decide))).trans ((jw_ne e75442 (Or.inl (by decide))).trans ew1)))).trans (by (try unfold ofF); (try unfold ofG); (try unfold ofH); (repeat' split) <;> omega), ((((jw_ne e75443 (Or.inl (by decide))).trans ((jw_ne e75442 (Or.inl (by decide))).trans ew2)))).trans (by (try unfold ofF); (try unfold ofG); (try unfold ofH); (repeat' split) <;> omega), ((((jw_ne e75443 (Or.inl (by decide))).trans ((jw_ne e75442 (Or.inl (by decide))).trans ew3)))).trans (by (try unfold ofF); (try unfold ofG); (try unfold ofH); (repeat' split) <;> omega), ((((jw_ne e75443 (Or.inl (by decide))).trans ((jw_ne e75442 (Or.inl (by decide))).trans ew4)))).trans (by (try unfold ofF); (try unfold ofG); (try unfold ofH); (repeat' split) <;> omega)⟩
set_option maxHeartbeats 4000000 in
theorem t346 {G : GH} {h : JH} (g : Gd G h) {w0 : Int} (ew0 : h.2.2 42 51 = w0) (lw0 : 0 ≤ w0) (uw0 : w0 ≤ 4) {w1 : Int} (ew1 : h.2.2 71 0 = w1) (lw1 : 0 ≤ w1) (uw1 : w1 ≤ 99) {w2 : Int} (ew2 : h.2.2 71 1 = w2) (lw2 : 0 ≤ w2) (uw2 : w2 ≤ 99) {w3 : Int} (ew3 : h.2.2 71 2 = w3) (lw3 : 0 ≤ w3) (uw3 : w3 ≤ 99) {w4 : Int} (ew4 : h.2.2 71 3 = w4) (lw4 : 0 ≤ w4) (uw4 : w4 ≤ 99) : jOk 1 0 0 346 [(2, 42)] h (fun v h' => ∃ r : Int, v = some (0, r) ∧ Gd G h' ∧ Kp [(42, 48), (42, 52)] h h' ∧ h'.2.2 42 51 = 0 ∧ h'.2.2 71 0 = w1 ∧ h'.2.2 71 1 = w2 ∧ h'.2.2 71 2 = w3 ∧ h'.2.2 71 3 = w4) := by
  refine ⟨by decide, by rw [ml346]; exact Nat.le_of_ble_eq_true rfl, ?_⟩
  rw [ml346, pp346]
  show jEv _ none _ c346_0 0 0 _ (c346_0, [(2, 42), (9, 0)], [], h, 0, 0)
  have k0 := Kp.rf [(42, 48), (42, 52)] h
  refine ev_aload_n rfl ?_
  obtain ⟨v75450, ev75450, lv75450, uv75450⟩ := g.rd ad42 (show 47 < 66 by decide) rf42_47
  refine g_getv (r := 42) (v := v75450) g ad42 (by decide) ft12_47 ev75450 ?_
  refine ev_istore_n (L' := [(2, 42), (0, v75450)]) (Nat.le_of_ble_eq_true rfl) rfl ?_
  refine ev_aload_n rfl ?_
  refine ev_iconst ?_
  refine g_putf (r := 42) g ad42 (by decide) ft12_47 (by decide) (fun e => absurd e nz12_47) rf42_47 (by decide) (by omega) (by omega) (fun h75451 e75451 g75451 => ?_)
  have k75451 := k0.wr e75451 rfl
  refine ev_aload_n rfl ?_
  refine ev_iconst ?_
  refine g_putf (r := 42) g75451 ad42 (by decide) ft12_51 (by decide) (fun e => absurd e nz12_51) rf42_51 (by decide) (by omega) (by omega) (fun h75452 e75452 g75452 => ?_)
  have k75452 := k75451.wr e75452 rfl
  refine ev_iload_n rfl ?_
  exact ev_ret rfl (by decide) (by decide) ⟨_, rfl, g75452, k75452, (((jw_eq e75452))).trans (by (try unfold ofF); (try unfold ofG); (try unfold ofH); (repeat' split) <;> omega), ((((jw_ne e75452 (Or.inl (by decide))).trans ((jw_ne e75451 (Or.inl (by decide))).trans ew1)))).trans (by (try unfold ofF); (try unfold ofG); (try unfold ofH); (repeat' split) <;> omega), ((((jw_ne e75452 (Or.inl (by decide))).trans ((jw_ne e75451 (Or.inl (by decide))).trans ew2)))).trans (by (try unfold ofF); (try unfold ofG); (try unfold ofH); (repeat' split) <;> omega), ((((jw_ne e75452 (Or.inl (by decide))).trans ((jw_ne e75451 (Or.inl (by decide))).trans ew3)))).trans (by (try unfold ofF); (try unfold ofG); (try unfold ofH); (repeat' split) <;> omega), ((((jw_ne e75452 (Or.inl (by decide))).trans ((jw_ne e75451 (Or.inl (by decide))).trans ew4)))).trans (by (try unfold ofF); (try unfold ofG); (try unfold ofH); (repeat' split) <;> omega)⟩
theorem jn11 : jN 11 = 17 := by decide +kernel
theorem jn12 : jN 12 = 66 := by decide +kernel
theorem ml384 : jML jnM = 4 := by decide +kernel
theorem pp384 : jP jnM = c384_0 := rfl
set_option maxRecDepth 100000 in
theorem jlawN : jchkN jnM = true := jchkNF_ok (by decide +kernel)
set_option maxRecDepth 100000 in
theorem f384_18 : jfind c384_0 18 = some c384_18 := rfl
set_option maxRecDepth 100000 in
theorem f384_260 : jfind c384_0 260 = some c384_260 := rfl
set_option maxRecDepth 100000 in
theorem f384_283 : jfind c384_0 283 = some c384_283 := rfl
set_option maxRecDepth 100000 in
theorem f384_316 : jfind c384_0 316 = some c384_316 := rfl
set_option maxRecDepth 100000 in
theorem f384_369 : jfind c384_0 369 = some c384_369 := rfl
set_option maxRecDepth 100000 in
theorem f384_382 : jfind c384_0 382 = some c384_382 := rfl
set_option maxRecDepth 100000 in
theorem f384_405 : jfind c384_0 405 = some c384_405 := rfl
set_option maxRecDepth 100000 in
theorem f384_448 : jfind c384_0 448 = some c384_448 := rfl
set_option maxRecDepth 100000 in
theorem f384_481 : jfind c384_0 481 = some c384_481 := rfl
set_option maxRecDepth 100000 in
theorem f384_494 : jfind c384_0 494 = some c384_494 := rfl
set_option maxRecDepth 100000 in
theorem f384_537 : jfind c384_0 537 = some c384_537 := rfl
set_option maxRecDepth 100000 in
theorem f384_590 : jfind c384_0 590 = some c384_590 := rfl
set_option maxRecDepth 100000 in
theorem f384_603 : jfind c384_0 603 = some c384_603 := rfl
set_option maxRecDepth 100000 in
theorem f384_616 : jfind c384_0 616 = some c384_616 := rfl
set_option maxRecDepth 100000 in
theorem f384_649 : jfind c384_0 649 = some c384_649 := rfl
set_option maxRecDepth 100000 in
theorem f384_682 : jfind c384_0 682 = some c384_682 := rfl
set_option maxRecDepth 100000 in
theorem f384_715 : jfind c384_0 715 = some c384_715 := rfl
set_option maxRecDepth 100000 in
theorem f384_758 : jfind c384_0 758 = some c384_758 := rfl
set_option maxRecDepth 100000 in
theorem f384_801 : jfind c384_0 801 = some c384_801 := rfl
set_option maxRecDepth 100000 in
theorem f384_844 : jfind c384_0 844 = some c384_844 := rfl
set_option maxRecDepth 100000 in
theorem f384_877 : jfind c384_0 877 = some c384_877 := rfl
set_option maxRecDepth 100000 in
theorem f384_930 : jfind c384_0 930 = some c384_930 := rfl
set_option maxRecDepth 100000 in
theorem f384_963 : jfind c384_0 963 = some c384_963 := rfl
set_option maxRecDepth 100000 in
theorem f384_1006 : jfind c384_0 1006 = some c384_1006 := rfl
set_option maxRecDepth 100000 in
theorem f384_1059 : jfind c384_0 1059 = some c384_1059 := rfl
set_option maxRecDepth 100000 in
theorem f384_1082 : jfind c384_0 1082 = some c384_1082 := rfl
set_option maxRecDepth 100000 in
theorem f384_1125 : jfind c384_0 1125 = some c384_1125 := rfl
set_option maxRecDepth 100000 in
theorem f384_1178 : jfind c384_0 1178 = some c384_1178 := rfl
set_option maxRecDepth 100000 in
theorem f384_1201 : jfind c384_0 1201 = some c384_1201 := rfl
set_option maxRecDepth 100000 in
theorem f384_1254 : jfind c384_0 1254 = some c384_1254 := rfl
set_option maxRecDepth 100000 in
theorem f384_1307 : jfind c384_0 1307 = some c384_1307 := rfl
set_option maxRecDepth 100000 in
theorem f384_1340 : jfind c384_0 1340 = some c384_1340 := rfl
set_option maxRecDepth 100000 in
theorem f384_1383 : jfind c384_0 1383 = some c384_1383 := rfl
set_option maxRecDepth 100000 in
theorem f384_1406 : jfind c384_0 1406 = some c384_1406 := rfl
set_option maxRecDepth 100000 in
theorem f384_1429 : jfind c384_0 1429 = some c384_1429 := rfl
set_option maxRecDepth 100000 in
theorem f384_1452 : jfind c384_0 1452 = some c384_1452 := rfl
set_option maxRecDepth 100000 in
theorem f384_1495 : jfind c384_0 1495 = some c384_1495 := rfl
set_option maxRecDepth 100000 in
theorem f384_1518 : jfind c384_0 1518 = some c384_1518 := rfl
set_option maxRecDepth 100000 in
theorem f384_1551 : jfind c384_0 1551 = some c384_1551 := rfl
set_option maxRecDepth 100000 in
theorem f384_1564 : jfind c384_0 1564 = some c384_1564 := rfl
set_option maxRecDepth 100000 in
theorem f384_1597 : jfind c384_0 1597 = some c384_1597 := rfl
set_option maxRecDepth 100000 in
theorem f384_1630 : jfind c384_0 1630 = some c384_1630 := rfl
set_option maxRecDepth 100000 in
theorem f384_1683 : jfind c384_0 1683 = some c384_1683 := rfl
set_option maxRecDepth 100000 in
theorem f384_1726 : jfind c384_0 1726 = some c384_1726 := rfl
set_option maxRecDepth 100000 in
theorem f384_1769 : jfind c384_0 1769 = some c384_1769 := rfl
set_option maxRecDepth 100000 in
theorem f384_1812 : jfind c384_0 1812 = some c384_1812 := rfl
set_option maxRecDepth 100000 in
theorem f384_1855 : jfind c384_0 1855 = some c384_1855 := rfl
set_option maxRecDepth 100000 in
theorem f384_1878 : jfind c384_0 1878 = some c384_1878 := rfl
set_option maxRecDepth 100000 in
theorem f384_1911 : jfind c384_0 1911 = some c384_1911 := rfl
set_option maxRecDepth 100000 in
theorem f384_1954 : jfind c384_0 1954 = some c384_1954 := rfl
set_option maxRecDepth 100000 in
theorem f384_2027 : jfind c384_0 2027 = some c384_2027 := rfl
set_option maxRecDepth 100000 in
theorem f384_2060 : jfind c384_0 2060 = some c384_2060 := rfl
set_option maxRecDepth 100000 in
theorem f384_2123 : jfind c384_0 2123 = some c384_2123 := rfl
set_option maxRecDepth 100000 in
theorem f384_2156 : jfind c384_0 2156 = some c384_2156 := rfl
set_option maxRecDepth 100000 in
theorem f384_2179 : jfind c384_0 2179 = some c384_2179 := rfl
set_option maxRecDepth 100000 in
theorem f384_2185 : jfind c384_0 2185 = some c384_2185 := rfl

