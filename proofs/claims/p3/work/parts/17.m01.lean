/-! 91 felt -/
set_option maxHeartbeats 4000000 in
theorem s91 {G : GH} {h : JH} (g : Gd G h) {a1 : Int} (la1 : (-2147483648) ≤ a1) (ua1 : a1 ≤ 2147483647) : jOk 2 0 0 91 [(2, 19), (0, a1)] h (PI G [] h 0 (-2147483648) 2147483647) := by
  refine ⟨by decide, by rw [ml91]; exact Nat.le_of_ble_eq_true rfl, ?_⟩
  rw [ml91, pp91]
  show jEv _ none _ c91_0 0 0 _ (c91_0, [(2, 19), (0, a1)], [], h, 0, 0)
  have k0 := Kp.rf [] h
  refine ev_iload_n rfl ?_
  refine ev_ifle f91_13 (fun c4271 => ?_) (fun c4271 => ?_)
  · refine ev_aload_n rfl ?_
    refine ev_iload_n rfl ?_
    refine ev_iconst ?_
    refine ev_iadd (r := (a1 + 1)) (by unfold w32; omega) ?_
    refine ev_iconst ?_
    refine ev_call (jcall_v (A := [(0, 0), (0, (a1 + 1))]) (S' := []) (r := 19) rfl (g.lt ad19) (g.tg ad19) (Nat.le_of_ble_eq_true rfl)) (jOk_le (by decide) (s92 g (by omega) (by omega) (by omega) (by omega))) (by decide) (by decide) (fun w4272 h4272 q4272 => ?_)
    obtain ⟨v4273, rfl, lv4273, uv4273, g4272, kk4272⟩ := q4272
    have k4272 := k0.tr kk4272 (by decide)
    show jEv _ _ _ _ _ _ _ (_, [(2, 19), (0, a1)], [(0, v4273)], _, _, _)
    refine g_inegG (fun v4274 ev4274 lv4274 uv4274 => ?_)
    exact ev_ret rfl (by decide) (by decide) ⟨_, rfl, by omega, by omega, g4272, k4272⟩
  · refine ev_aload_n rfl ?_
    refine ev_iconst ?_
    refine ev_iload_n rfl ?_
    refine ev_call (jcall_v (A := [(0, a1), (0, 1)]) (S' := []) (r := 19) rfl (g.lt ad19) (g.tg ad19) (Nat.le_of_ble_eq_true rfl)) (jOk_le (by decide) (s92 g (by omega) (by omega) (by omega) (by omega))) (by decide) (by decide) (fun w4275 h4275 q4275 => ?_)
    obtain ⟨v4276, rfl, lv4276, uv4276, g4275, kk4275⟩ := q4275
    have k4275 := k0.tr kk4275 (by decide)
    show jEv _ _ _ _ _ _ _ (_, [(2, 19), (0, a1)], [(0, v4276)], _, _, _)
    refine ev_goto f91_22 ?_
    exact ev_ret rfl (by decide) (by decide) ⟨_, rfl, by omega, by omega, g4275, k4275⟩
/-! 94 begins -/
set_option maxHeartbeats 4000000 in
theorem s94 {G : GH} {h : JH} (g : Gd G h) {a1 : Int} (la1 : (-2147483648) ≤ a1) (ua1 : a1 ≤ 2147483647) {w0 : Int} (ew0 : h.2.2 19 5 = w0) (lw0 : 0 ≤ w0) (uw0 : w0 ≤ 999) : jOk 1 0 0 94 [(2, 19), (0, a1)] h (fun v h' => PV G [(19, 6), (22, 0)] h v h' ∧ h'.2.2 19 5 ≤ w0 + 1) := by
  refine ⟨by decide, by rw [ml94]; exact Nat.le_of_ble_eq_true rfl, ?_⟩
  rw [ml94, pp94]
  show jEv _ none _ c94_0 0 0 _ (c94_0, [(2, 19), (0, a1)], [], h, 0, 0)
  have k0 := Kp.rf [(19, 6), (22, 0)] h
  refine ev_aload_n rfl ?_
  refine g_getv (r := 19) (v := w0) g ad19 (by decide) ft7_5 (ew0) ?_
  refine ev_bipush ?_
  refine ev_icmpge f94_19 (fun c4285 => ?_) (fun c4285 => ?_)
  · refine ev_aload_n rfl ?_
    refine ev_dup (by decide) ?_
    refine g_getv (r := 19) (v := w0) g ad19 (by decide) ft7_5 (ew0) ?_
    refine ev_iconst ?_
    refine ev_iadd (r := (w0 + 1)) (by unfold w32; omega) ?_
    refine g_putf (r := 19) g ad19 (by decide) ft7_5 (by decide) (fun e => absurd e nz7_5) rf19_5 (by decide) (by omega) (by omega) (fun h4286 e4286 g4286 => ?_)
    have k4286 := k0.wr e4286 rfl
    exact ev_ret rfl (by decide) (by decide) ⟨⟨rfl, g4286, k4286⟩, Int.le_trans (Int.le_of_eq ((jw_eq e4286))) (by omega)⟩
  · refine ev_aload_n rfl ?_
    refine g_getp (r := 19) (c := 22) g ad19 (by decide) (by decide) rf19_2 ft7_2 ?_
    refine ev_aload_n rfl ?_
    refine g_getv (r := 19) (v := w0) g ad19 (by decide) ft7_5 (ew0) ?_
    refine ev_iload_n rfl ?_
    refine g_iast g ad22 rt22 (fun _ => rfl) (by omega) (by omega) (by omega) (by omega) (fun h4287 e4287 g4287 => ?_)
    have k4287 := k0.wr e4287 rfl
    refine ev_aload_n rfl ?_
    refine ev_dup (by decide) ?_
    refine g_getv (r := 19) (v := w0) g4287 ad19 (by decide) ft7_5 (((jw_ne e4287 (Or.inl (by decide))).trans ew0)) ?_
    refine ev_iconst ?_
    refine ev_iadd (r := (w0 + 1)) (by unfold w32; omega) ?_
    refine g_putf (r := 19) g4287 ad19 (by decide) ft7_5 (by decide) (fun e => absurd e nz7_5) rf19_5 (by decide) (by omega) (by omega) (fun h4288 e4288 g4288 => ?_)
    have k4288 := k4287.wr e4288 rfl
    exact ev_ret rfl (by decide) (by decide) ⟨⟨rfl, g4288, k4288⟩, Int.le_trans (Int.le_of_eq ((jw_eq e4288))) (by omega)⟩
/-! 5 pays -/
set_option maxHeartbeats 4000000 in
theorem s5 {G : GH} {h : JH} (g : Gd G h) {f0 : Nat} (q0 : IsF G f0) {a1 : Int} (la1 : (-2147483648) ≤ a1) (ua1 : a1 ≤ 2147483647) {w0 : Int} (ew0 : h.2.2 19 5 = w0) (lw0 : 0 ≤ w0) (uw0 : w0 ≤ 999) : jOk 2 0 0 5 [(2, (f0 : Int)), (0, a1)] h (fun v h' => PI G [(19, 6), (22, 0)] h 0 (-2147483648) 2147483647 v h' ∧ h'.2.2 19 5 ≤ w0 + 1) := by
  refine ⟨by decide, by rw [ml5]; exact Nat.le_of_ble_eq_true rfl, ?_⟩
  rw [ml5, pp5]
  show jEv _ none _ c5_0 0 0 _ (c5_0, [(2, (f0 : Int)), (0, a1)], [], h, 0, 0)
  have k0 := Kp.rf [(19, 6), (22, 0)] h
  refine ev_aload_n rfl ?_
  refine g_fget0 g q0 ft0_0 ?_
  refine ev_iconst ?_
  refine ev_call (jcall_v (A := [(0, 1)]) (S' := []) (r := 19) rfl (g.lt ad19) (g.tg ad19) (Nat.le_of_ble_eq_true rfl)) (jOk_le (by decide) (s94 g (by omega) (by omega) (ew0) (by omega) (by omega))) (by decide) (by decide) (fun w4297 h4297 q4297 => ?_)
  obtain ⟨q4297, fp4297⟩ := q4297
  obtain ⟨rfl, g4297, kk4297⟩ := q4297
  have k4297 := k0.tr kk4297 (by decide)
  obtain ⟨v4298, ev4298, lv4298, uv4298⟩ := g4297.rd ad19 (show 5 < 6 by decide) rf19_5
  rw [ev4298] at fp4297
  show jEv _ _ _ _ _ _ _ (_, [(2, (f0 : Int)), (0, a1)], [], _, _, _)
  refine ev_iload_n rfl ?_
  refine ev_aload_n rfl ?_
  refine g_fget1 g4297 q0 ft0_1 (fun v4299 ev4299 lv4299 uv4299 => ?_)
  refine g_iaddG (fun v4300 ev4300 lv4300 uv4300 => ?_)
  exact ev_ret rfl (by decide) (by decide) ⟨⟨_, rfl, by omega, by omega, g4297, k4297⟩, Int.le_trans (Int.le_of_eq (ev4298)) (by omega)⟩
/-! 20 pays -/
set_option maxHeartbeats 4000000 in
theorem s20 {G : GH} {h : JH} (g : Gd G h) {f0 : Nat} (q0 : IsF G f0) {a1 : Int} (la1 : (-2147483648) ≤ a1) (ua1 : a1 ≤ 2147483647) {w0 : Int} (ew0 : h.2.2 19 5 = w0) (lw0 : 0 ≤ w0) (uw0 : w0 ≤ 998) : jOk 3 0 0 20 [(2, (f0 : Int)), (0, a1)] h (fun v h' => PI G [(19, 6), (22, 0)] h 0 (-2147483648) 2147483647 v h' ∧ h'.2.2 19 5 ≤ w0 + 2) := by
  refine ⟨by decide, by rw [ml20]; exact Nat.le_of_ble_eq_true rfl, ?_⟩
  rw [ml20, pp20]
  show jEv _ none _ c20_0 0 0 _ (c20_0, [(2, (f0 : Int)), (0, a1)], [], h, 0, 0)
  have k0 := Kp.rf [(19, 6), (22, 0)] h
  refine ev_aload_n rfl ?_
  refine g_fget0 g q0 ft0_0 ?_
  refine ev_bipush ?_
  refine ev_call (jcall_v (A := [(0, 50)]) (S' := []) (r := 19) rfl (g.lt ad19) (g.tg ad19) (Nat.le_of_ble_eq_true rfl)) (jOk_le (by decide) (s94 g (by omega) (by omega) (ew0) (by omega) (by omega))) (by decide) (by decide) (fun w4315 h4315 q4315 => ?_)
  obtain ⟨q4315, fp4315⟩ := q4315
  obtain ⟨rfl, g4315, kk4315⟩ := q4315
  have k4315 := k0.tr kk4315 (by decide)
  obtain ⟨v4316, ev4316, lv4316, uv4316⟩ := g4315.rd ad19 (show 5 < 6 by decide) rf19_5
  rw [ev4316] at fp4315
  show jEv _ _ _ _ _ _ _ (_, [(2, (f0 : Int)), (0, a1)], [], _, _, _)
  refine ev_aload_n rfl ?_
  refine ev_iload_n rfl ?_
  refine ev_call (jcall_u (A := [(0, a1)]) (S' := []) (r := f0) rfl (g4315.flt q0) (g4315.ffam q0) (Nat.le_of_ble_eq_true rfl)) (jOk_le (by decide) (s5 g4315 q0 (by omega) (by omega) (ev4316) (by omega) (by omega))) (by decide) (by decide) (fun w4317 h4317 q4317 => ?_)
  obtain ⟨q4317, fp4317⟩ := q4317
  obtain ⟨v4318, rfl, lv4318, uv4318, g4317, kk4317⟩ := q4317
  have k4317 := k4315.tr kk4317 (by decide)
  obtain ⟨v4319, ev4319, lv4319, uv4319⟩ := g4317.rd ad19 (show 5 < 6 by decide) rf19_5
  rw [ev4319] at fp4317
  show jEv _ _ _ _ _ _ _ (_, [(2, (f0 : Int)), (0, a1)], [(0, v4318)], _, _, _)
  refine ev_aload_n rfl ?_
  refine g_fget2 g4317 q0 ft0_2 (fun v4320 ev4320 lv4320 uv4320 => ?_)
  refine g_iaddG (fun v4321 ev4321 lv4321 uv4321 => ?_)
  exact ev_ret rfl (by decide) (by decide) ⟨⟨_, rfl, by omega, by omega, g4317, k4317⟩, Int.le_trans (Int.le_of_eq (ev4319)) (by omega)⟩
/-! 100 pays -/
set_option maxHeartbeats 4000000 in
theorem s100 {G : GH} {h : JH} (g : Gd G h) {f0 : Nat} (q0 : IsF G f0) {a1 : Int} (la1 : (-2147483648) ≤ a1) (ua1 : a1 ≤ 2147483647) {w0 : Int} (ew0 : h.2.2 19 5 = w0) (lw0 : 0 ≤ w0) (uw0 : w0 ≤ 997) : jOk 4 0 0 100 [(2, (f0 : Int)), (0, a1)] h (fun v h' => PI G [(19, 6), (22, 0)] h 0 (-2147483648) 2147483647 v h' ∧ h'.2.2 19 5 ≤ w0 + 3) := by
  refine ⟨by decide, by rw [ml100]; exact Nat.le_of_ble_eq_true rfl, ?_⟩
  rw [ml100, pp100]
  show jEv _ none _ c100_0 0 0 _ (c100_0, [(2, (f0 : Int)), (0, a1)], [], h, 0, 0)
  have k0 := Kp.rf [(19, 6), (22, 0)] h
  refine ev_aload_n rfl ?_
  refine g_fget0 g q0 ft0_0 ?_
  refine ev_bipush ?_
  refine ev_call (jcall_v (A := [(0, 60)]) (S' := []) (r := 19) rfl (g.lt ad19) (g.tg ad19) (Nat.le_of_ble_eq_true rfl)) (jOk_le (by decide) (s94 g (by omega) (by omega) (ew0) (by omega) (by omega))) (by decide) (by decide) (fun w4334 h4334 q4334 => ?_)
  obtain ⟨q4334, fp4334⟩ := q4334
  obtain ⟨rfl, g4334, kk4334⟩ := q4334
  have k4334 := k0.tr kk4334 (by decide)
  obtain ⟨v4335, ev4335, lv4335, uv4335⟩ := g4334.rd ad19 (show 5 < 6 by decide) rf19_5
  rw [ev4335] at fp4334
  show jEv _ _ _ _ _ _ _ (_, [(2, (f0 : Int)), (0, a1)], [], _, _, _)
  refine ev_aload_n rfl ?_
  refine ev_iload_n rfl ?_
  refine ev_call (jcall_u (A := [(0, a1)]) (S' := []) (r := f0) rfl (g4334.flt q0) (g4334.ffam q0) (Nat.le_of_ble_eq_true rfl)) (jOk_le (by decide) (s20 g4334 q0 (by omega) (by omega) (ev4335) (by omega) (by omega))) (by decide) (by decide) (fun w4336 h4336 q4336 => ?_)
  obtain ⟨q4336, fp4336⟩ := q4336
  obtain ⟨v4337, rfl, lv4337, uv4337, g4336, kk4336⟩ := q4336
  have k4336 := k4334.tr kk4336 (by decide)
  obtain ⟨v4338, ev4338, lv4338, uv4338⟩ := g4336.rd ad19 (show 5 < 6 by decide) rf19_5
  rw [ev4338] at fp4336
  show jEv _ _ _ _ _ _ _ (_, [(2, (f0 : Int)), (0, a1)], [(0, v4337)], _, _, _)
  refine g_inegG (fun v4339 ev4339 lv4339 uv4339 => ?_)
  exact ev_ret rfl (by decide) (by decide) ⟨⟨_, rfl, by omega, by omega, g4336, k4336⟩, Int.le_trans (Int.le_of_eq (ev4338)) (by omega)⟩
/-! fam_pays  -/
theorem fam_pays {G : GH} {h : JH} (g : Gd G h) {f0 : Nat} (q0 : IsF G f0) {a1 : Int} (la1 : (-2147483648) ≤ a1) (ua1 : a1 ≤ 2147483647) {w0 : Int} (ew0 : h.2.2 19 5 = w0) (lw0 : 0 ≤ w0) (uw0 : w0 ≤ 997) : ∃ k, [5, 5, 5, 20, 5, 100].getD (jpos (h.2.1 f0).1) 0 = k ∧ k ≠ 9999 ∧ jOk 4 0 0 k [(2, (f0 : Int)), (0, a1)] h (fun v h' => PI G [(19, 6), (22, 0)] h 0 (-2147483648) 2147483647 v h' ∧ h'.2.2 19 5 ≤ w0 + 3) := by
  have ht := jfam_in (g.ffam q0)
  simp only [jtags, if_true, List.mem_cons, List.not_mem_nil, or_false] at ht
  rcases ht with e | e | e | e | e | e
  · rw [e]
    exact ⟨5, rfl, by decide, jOk_post (fun v h' q => ⟨q.1, by have := q.2; omega⟩) (jOk_le (by decide) (s5 g q0 la1 ua1 ew0 lw0 (by omega)))⟩
  · rw [e]
    exact ⟨5, rfl, by decide, jOk_post (fun v h' q => ⟨q.1, by have := q.2; omega⟩) (jOk_le (by decide) (s5 g q0 la1 ua1 ew0 lw0 (by omega)))⟩
  · rw [e]
    exact ⟨5, rfl, by decide, jOk_post (fun v h' q => ⟨q.1, by have := q.2; omega⟩) (jOk_le (by decide) (s5 g q0 la1 ua1 ew0 lw0 (by omega)))⟩
  · rw [e]
    exact ⟨20, rfl, by decide, jOk_post (fun v h' q => ⟨q.1, by have := q.2; omega⟩) (jOk_le (by decide) (s20 g q0 la1 ua1 ew0 lw0 (by omega)))⟩
  · rw [e]
    exact ⟨5, rfl, by decide, jOk_post (fun v h' q => ⟨q.1, by have := q.2; omega⟩) (jOk_le (by decide) (s5 g q0 la1 ua1 ew0 lw0 (by omega)))⟩
  · rw [e]
    exact ⟨100, rfl, by decide, jOk_post (fun v h' q => ⟨q.1, by have := q.2; omega⟩) (jOk_le (by decide) (s100 g q0 la1 ua1 ew0 lw0 (by omega)))⟩

/-! 7 fears -/
set_option maxHeartbeats 4000000 in
theorem s7 {G : GH} {h : JH} (g : Gd G h) {f0 : Nat} (q0 : IsF G f0) {a1 : Int} (la1 : (-2147483648) ≤ a1) (ua1 : a1 ≤ 2147483647) {w0 : Int} (ew0 : h.2.2 19 5 = w0) (lw0 : 0 ≤ w0) (uw0 : w0 ≤ 999) : jOk 2 0 0 7 [(2, (f0 : Int)), (0, a1)] h (fun v h' => PI G [(19, 6), (22, 0)] h 0 (-2147483648) 2147483647 v h' ∧ h'.2.2 19 5 ≤ w0 + 1) := by
  refine ⟨by decide, by rw [ml7]; exact Nat.le_of_ble_eq_true rfl, ?_⟩
  rw [ml7, pp7]
  show jEv _ none _ c7_0 0 0 _ (c7_0, [(2, (f0 : Int)), (0, a1)], [], h, 0, 0)
  have k0 := Kp.rf [(19, 6), (22, 0)] h
  refine ev_aload_n rfl ?_
  refine g_fget0 g q0 ft0_0 ?_
  refine ev_bipush ?_
  refine ev_call (jcall_v (A := [(0, 11)]) (S' := []) (r := 19) rfl (g.lt ad19) (g.tg ad19) (Nat.le_of_ble_eq_true rfl)) (jOk_le (by decide) (s94 g (by omega) (by omega) (ew0) (by omega) (by omega))) (by decide) (by decide) (fun w4348 h4348 q4348 => ?_)
  obtain ⟨q4348, fp4348⟩ := q4348
  obtain ⟨rfl, g4348, kk4348⟩ := q4348
  have k4348 := k0.tr kk4348 (by decide)
  obtain ⟨v4349, ev4349, lv4349, uv4349⟩ := g4348.rd ad19 (show 5 < 6 by decide) rf19_5
  rw [ev4349] at fp4348
  show jEv _ _ _ _ _ _ _ (_, [(2, (f0 : Int)), (0, a1)], [], _, _, _)
  refine ev_iload_n rfl ?_
  refine ev_aload_n rfl ?_
  refine g_fget1 g4348 q0 ft0_1 (fun v4350 ev4350 lv4350 uv4350 => ?_)
  refine g_ixorG (fun v4351 ev4351 lv4351 uv4351 => ?_)
  exact ev_ret rfl (by decide) (by decide) ⟨⟨_, rfl, by omega, by omega, g4348, k4348⟩, Int.le_trans (Int.le_of_eq (ev4349)) (by omega)⟩
/-! 16 fears -/
set_option maxHeartbeats 4000000 in
theorem s16 {G : GH} {h : JH} (g : Gd G h) {f0 : Nat} (q0 : IsF G f0) {a1 : Int} (la1 : (-2147483648) ≤ a1) (ua1 : a1 ≤ 2147483647) {w0 : Int} (ew0 : h.2.2 19 5 = w0) (lw0 : 0 ≤ w0) (uw0 : w0 ≤ 998) : jOk 3 0 0 16 [(2, (f0 : Int)), (0, a1)] h (fun v h' => PI G [(19, 6), (22, 0)] h 0 (-2147483648) 2147483647 v h' ∧ h'.2.2 19 5 ≤ w0 + 2) := by
  refine ⟨by decide, by rw [ml16]; exact Nat.le_of_ble_eq_true rfl, ?_⟩
  rw [ml16, pp16]
  show jEv _ none _ c16_0 0 0 _ (c16_0, [(2, (f0 : Int)), (0, a1)], [], h, 0, 0)
  have k0 := Kp.rf [(19, 6), (22, 0)] h
  refine ev_aload_n rfl ?_
  refine g_fget0 g q0 ft0_0 ?_
  refine ev_bipush ?_
  refine ev_call (jcall_v (A := [(0, 30)]) (S' := []) (r := 19) rfl (g.lt ad19) (g.tg ad19) (Nat.le_of_ble_eq_true rfl)) (jOk_le (by decide) (s94 g (by omega) (by omega) (ew0) (by omega) (by omega))) (by decide) (by decide) (fun w4364 h4364 q4364 => ?_)
  obtain ⟨q4364, fp4364⟩ := q4364
  obtain ⟨rfl, g4364, kk4364⟩ := q4364
  have k4364 := k0.tr kk4364 (by decide)
  obtain ⟨v4365, ev4365, lv4365, uv4365⟩ := g4364.rd ad19 (show 5 < 6 by decide) rf19_5
  rw [ev4365] at fp4364
  show jEv _ _ _ _ _ _ _ (_, [(2, (f0 : Int)), (0, a1)], [], _, _, _)
  refine ev_aload_n rfl ?_
  refine ev_iload_n rfl ?_
  refine ev_call (jcall_u (A := [(0, a1)]) (S' := []) (r := f0) rfl (g4364.flt q0) (g4364.ffam q0) (Nat.le_of_ble_eq_true rfl)) (jOk_le (by decide) (s7 g4364 q0 (by omega) (by omega) (ev4365) (by omega) (by omega))) (by decide) (by decide) (fun w4366 h4366 q4366 => ?_)
  obtain ⟨q4366, fp4366⟩ := q4366
  obtain ⟨v4367, rfl, lv4367, uv4367, g4366, kk4366⟩ := q4366
  have k4366 := k4364.tr kk4366 (by decide)
  obtain ⟨v4368, ev4368, lv4368, uv4368⟩ := g4366.rd ad19 (show 5 < 6 by decide) rf19_5
  rw [ev4368] at fp4366
  show jEv _ _ _ _ _ _ _ (_, [(2, (f0 : Int)), (0, a1)], [(0, v4367)], _, _, _)
  refine ev_iconst ?_
  refine g_imulG (fun v4369 ev4369 lv4369 uv4369 => ?_)
  exact ev_ret rfl (by decide) (by decide) ⟨⟨_, rfl, by omega, by omega, g4366, k4366⟩, Int.le_trans (Int.le_of_eq (ev4368)) (by omega)⟩
/-! 101 fears -/
set_option maxHeartbeats 4000000 in
theorem s101 {G : GH} {h : JH} (g : Gd G h) {f0 : Nat} (q0 : IsF G f0) (tyf0 : (h.2.1 f0).1 = 8) {a1 : Int} (la1 : (-2147483648) ≤ a1) (ua1 : a1 ≤ 2147483647) {w0 : Int} (ew0 : h.2.2 19 5 = w0) (lw0 : 0 ≤ w0) (uw0 : w0 ≤ 995) : jOk 5 0 0 101 [(2, (f0 : Int)), (0, a1)] h (fun v h' => PI G [(19, 6), (22, 0)] h 0 (-2147483648) 2147483647 v h' ∧ h'.2.2 19 5 ≤ w0 + 5) := by
  refine ⟨by decide, by rw [ml101]; exact Nat.le_of_ble_eq_true rfl, ?_⟩
  rw [ml101, pp101]
  show jEv _ none _ c101_0 0 0 _ (c101_0, [(2, (f0 : Int)), (0, a1)], [], h, 0, 0)
  have k0 := Kp.rf [(19, 6), (22, 0)] h
  refine ev_aload_n rfl ?_
  refine g_fget0 g q0 ft0_0 ?_
  refine ev_bipush ?_
  refine ev_call (jcall_v (A := [(0, 61)]) (S' := []) (r := 19) rfl (g.lt ad19) (g.tg ad19) (Nat.le_of_ble_eq_true rfl)) (jOk_le (by decide) (s94 g (by omega) (by omega) (ew0) (by omega) (by omega))) (by decide) (by decide) (fun w4388 h4388 q4388 => ?_)
  obtain ⟨q4388, fp4388⟩ := q4388
  obtain ⟨rfl, g4388, kk4388⟩ := q4388
  have k4388 := k0.tr kk4388 (by decide)
  obtain ⟨v4389, ev4389, lv4389, uv4389⟩ := g4388.rd ad19 (show 5 < 6 by decide) rf19_5
  rw [ev4389] at fp4388
  show jEv _ _ _ _ _ _ _ (_, [(2, (f0 : Int)), (0, a1)], [], _, _, _)
  refine ev_aload_n rfl ?_
  refine ev_iload_n rfl ?_
  refine ev_call (jcall_u (A := [(0, a1)]) (S' := []) (r := f0) rfl (g4388.flt q0) (g4388.ffam q0) (Nat.le_of_ble_eq_true rfl)) (jOk_le (by decide) (s7 g4388 q0 (by omega) (by omega) (ev4389) (by omega) (by omega))) (by decide) (by decide) (fun w4390 h4390 q4390 => ?_)
  obtain ⟨q4390, fp4390⟩ := q4390
  obtain ⟨v4391, rfl, lv4391, uv4391, g4390, kk4390⟩ := q4390
  have k4390 := k4388.tr kk4390 (by decide)
  obtain ⟨v4392, ev4392, lv4392, uv4392⟩ := g4390.rd ad19 (show 5 < 6 by decide) rf19_5
  rw [ev4392] at fp4390
  show jEv _ _ _ _ _ _ _ (_, [(2, (f0 : Int)), (0, a1)], [(0, v4391)], _, _, _)
  refine ev_aload_n rfl ?_
  refine ev_iconst ?_
  refine ev_call (jcall_v (A := [(0, 1)]) (S' := [(0, v4391)]) (r := f0) rfl (g4390.flt q0) (by rw [k4390.2.1]; exact tyf0) (Nat.le_of_ble_eq_true rfl)) (jOk_le (by decide) (s100 g4390 q0 (by omega) (by omega) (ev4392) (by omega) (by omega))) (by decide) (by decide) (fun w4393 h4393 q4393 => ?_)
  obtain ⟨q4393, fp4393⟩ := q4393
  obtain ⟨v4394, rfl, lv4394, uv4394, g4393, kk4393⟩ := q4393
  have k4393 := k4390.tr kk4393 (by decide)
  obtain ⟨v4395, ev4395, lv4395, uv4395⟩ := g4393.rd ad19 (show 5 < 6 by decide) rf19_5
  rw [ev4395] at fp4393
  show jEv _ _ _ _ _ _ _ (_, [(2, (f0 : Int)), (0, a1)], [(0, v4394), (0, v4391)], _, _, _)
  refine g_iaddG (fun v4396 ev4396 lv4396 uv4396 => ?_)
  exact ev_ret rfl (by decide) (by decide) ⟨⟨_, rfl, by omega, by omega, g4393, k4393⟩, Int.le_trans (Int.le_of_eq (ev4395)) (by omega)⟩
/-! fam_fears  -/
theorem fam_fears {G : GH} {h : JH} (g : Gd G h) {f0 : Nat} (q0 : IsF G f0) {a1 : Int} (la1 : (-2147483648) ≤ a1) (ua1 : a1 ≤ 2147483647) {w0 : Int} (ew0 : h.2.2 19 5 = w0) (lw0 : 0 ≤ w0) (uw0 : w0 ≤ 995) : ∃ k, [7, 7, 16, 7, 7, 101].getD (jpos (h.2.1 f0).1) 0 = k ∧ k ≠ 9999 ∧ jOk 5 0 0 k [(2, (f0 : Int)), (0, a1)] h (fun v h' => PI G [(19, 6), (22, 0)] h 0 (-2147483648) 2147483647 v h' ∧ h'.2.2 19 5 ≤ w0 + 5) := by
  have ht := jfam_in (g.ffam q0)
  simp only [jtags, if_true, List.mem_cons, List.not_mem_nil, or_false] at ht
  rcases ht with e | e | e | e | e | e
  · rw [e]
    exact ⟨7, rfl, by decide, jOk_post (fun v h' q => ⟨q.1, by have := q.2; omega⟩) (jOk_le (by decide) (s7 g q0 la1 ua1 ew0 lw0 (by omega)))⟩
  · rw [e]
    exact ⟨7, rfl, by decide, jOk_post (fun v h' q => ⟨q.1, by have := q.2; omega⟩) (jOk_le (by decide) (s7 g q0 la1 ua1 ew0 lw0 (by omega)))⟩
  · rw [e]
    exact ⟨16, rfl, by decide, jOk_post (fun v h' q => ⟨q.1, by have := q.2; omega⟩) (jOk_le (by decide) (s16 g q0 la1 ua1 ew0 lw0 (by omega)))⟩
  · rw [e]
    exact ⟨7, rfl, by decide, jOk_post (fun v h' q => ⟨q.1, by have := q.2; omega⟩) (jOk_le (by decide) (s7 g q0 la1 ua1 ew0 lw0 (by omega)))⟩
  · rw [e]
    exact ⟨7, rfl, by decide, jOk_post (fun v h' q => ⟨q.1, by have := q.2; omega⟩) (jOk_le (by decide) (s7 g q0 la1 ua1 ew0 lw0 (by omega)))⟩
  · rw [e]
    exact ⟨101, rfl, by decide, jOk_post (fun v h' q => ⟨q.1, by have := q.2; omega⟩) (jOk_le (by decide) (s101 g q0 e la1 ua1 ew0 lw0 (by omega)))⟩

/-! fam_rfears  -/
theorem fam_rfears {G : GH} {h : JH} (g : Gd G h) {f0 : Nat} (q0 : IsF G f0) {a1 : Int} (la1 : (-2147483648) ≤ a1) (ua1 : a1 ≤ 2147483647) {w0 : Int} (ew0 : h.2.2 19 5 = w0) (lw0 : 0 ≤ w0) (uw0 : w0 ≤ 999) (tyf0 : (h.2.1 f0).1 = 6) : ∃ k, [9999, 9999, 9999, 9999, 7, 9999].getD (jpos (h.2.1 f0).1) 0 = k ∧ k ≠ 9999 ∧ jOk 2 0 0 k [(2, (f0 : Int)), (0, a1)] h (fun v h' => PI G [(19, 6), (22, 0)] h 0 (-2147483648) 2147483647 v h' ∧ h'.2.2 19 5 ≤ w0 + 1) := by
  rw [tyf0]
  exact ⟨7, rfl, by decide, jOk_post (fun v h' q => ⟨q.1, by have := q.2; omega⟩) (jOk_le (by decide) (s7 g q0 la1 ua1 ew0 lw0 (by omega)))⟩

/-! 6 feels -/
set_option maxHeartbeats 4000000 in
theorem s6 {G : GH} {h : JH} (g : Gd G h) {f0 : Nat} (q0 : IsF G f0) {a1 : Int} (la1 : (-2147483648) ≤ a1) (ua1 : a1 ≤ 2147483647) {w0 : Int} (ew0 : h.2.2 19 5 = w0) (lw0 : 0 ≤ w0) (uw0 : w0 ≤ 996) : jOk 5 0 0 6 [(2, (f0 : Int)), (0, a1)] h (fun v h' => PI G [(19, 6), (22, 0)] h 0 (-2147483648) 2147483647 v h' ∧ h'.2.2 19 5 ≤ w0 + 4) := by
  refine ⟨by decide, by rw [ml6]; exact Nat.le_of_ble_eq_true rfl, ?_⟩
  rw [ml6, pp6]
  show jEv _ none _ c6_0 0 0 _ (c6_0, [(2, (f0 : Int)), (0, a1)], [], h, 0, 0)
  have k0 := Kp.rf [(19, 6), (22, 0)] h
  refine ev_aload_n rfl ?_
  refine g_fget0 g q0 ft0_0 ?_
  refine ev_bipush ?_
  refine ev_call (jcall_v (A := [(0, 10)]) (S' := []) (r := 19) rfl (g.lt ad19) (g.tg ad19) (Nat.le_of_ble_eq_true rfl)) (jOk_le (by decide) (s94 g (by omega) (by omega) (ew0) (by omega) (by omega))) (by decide) (by decide) (fun w4409 h4409 q4409 => ?_)
  obtain ⟨q4409, fp4409⟩ := q4409
  obtain ⟨rfl, g4409, kk4409⟩ := q4409
  have k4409 := k0.tr kk4409 (by decide)
  obtain ⟨v4410, ev4410, lv4410, uv4410⟩ := g4409.rd ad19 (show 5 < 6 by decide) rf19_5
  rw [ev4410] at fp4409
  show jEv _ _ _ _ _ _ _ (_, [(2, (f0 : Int)), (0, a1)], [], _, _, _)
  refine ev_aload_n rfl ?_
  refine ev_iload_n rfl ?_
  refine ev_callF (A := [(0, a1)]) (S' := []) (r := f0) rfl (g4409.flt q0) (g4409.ffam q0) (Nat.le_of_ble_eq_true rfl) (famL (by decide) (fam_pays g4409 q0 (by omega) (by omega) (ev4410) (by omega) (by omega))) (by decide) (by decide) (fun w4411 h4411 q4411 => ?_)
  obtain ⟨q4411, fp4411⟩ := q4411
  obtain ⟨v4412, rfl, lv4412, uv4412, g4411, kk4411⟩ := q4411
  have k4411 := k4409.tr kk4411 (by decide)
  obtain ⟨v4413, ev4413, lv4413, uv4413⟩ := g4411.rd ad19 (show 5 < 6 by decide) rf19_5
  rw [ev4413] at fp4411
  show jEv _ _ _ _ _ _ _ (_, [(2, (f0 : Int)), (0, a1)], [(0, v4412)], _, _, _)
  refine ev_iconst ?_
  refine g_imulG (fun v4414 ev4414 lv4414 uv4414 => ?_)
  exact ev_ret rfl (by decide) (by decide) ⟨⟨_, rfl, by omega, by omega, g4411, k4411⟩, Int.le_trans (Int.le_of_eq (ev4413)) (by omega)⟩
/-! 12 feels -/
set_option maxHeartbeats 4000000 in
theorem s12 {G : GH} {h : JH} (g : Gd G h) {f0 : Nat} (q0 : IsF G f0) {a1 : Int} (la1 : (-2147483648) ≤ a1) (ua1 : a1 ≤ 2147483647) {w0 : Int} (ew0 : h.2.2 19 5 = w0) (lw0 : 0 ≤ w0) (uw0 : w0 ≤ 995) : jOk 6 0 0 12 [(2, (f0 : Int)), (0, a1)] h (fun v h' => PI G [(19, 6), (22, 0)] h 0 (-2147483648) 2147483647 v h' ∧ h'.2.2 19 5 ≤ w0 + 5) := by
  refine ⟨by decide, by rw [ml12]; exact Nat.le_of_ble_eq_true rfl, ?_⟩
  rw [ml12, pp12]
  show jEv _ none _ c12_0 0 0 _ (c12_0, [(2, (f0 : Int)), (0, a1)], [], h, 0, 0)
  have k0 := Kp.rf [(19, 6), (22, 0)] h
  refine ev_aload_n rfl ?_
  refine g_fget0 g q0 ft0_0 ?_
  refine ev_bipush ?_
  refine ev_call (jcall_v (A := [(0, 20)]) (S' := []) (r := 19) rfl (g.lt ad19) (g.tg ad19) (Nat.le_of_ble_eq_true rfl)) (jOk_le (by decide) (s94 g (by omega) (by omega) (ew0) (by omega) (by omega))) (by decide) (by decide) (fun w4427 h4427 q4427 => ?_)
  obtain ⟨q4427, fp4427⟩ := q4427
  obtain ⟨rfl, g4427, kk4427⟩ := q4427
  have k4427 := k0.tr kk4427 (by decide)
  obtain ⟨v4428, ev4428, lv4428, uv4428⟩ := g4427.rd ad19 (show 5 < 6 by decide) rf19_5
  rw [ev4428] at fp4427
  show jEv _ _ _ _ _ _ _ (_, [(2, (f0 : Int)), (0, a1)], [], _, _, _)
  refine ev_aload_n rfl ?_
  refine ev_iload_n rfl ?_
  refine ev_call (jcall_u (A := [(0, a1)]) (S' := []) (r := f0) rfl (g4427.flt q0) (g4427.ffam q0) (Nat.le_of_ble_eq_true rfl)) (jOk_le (by decide) (s6 g4427 q0 (by omega) (by omega) (ev4428) (by omega) (by omega))) (by decide) (by decide) (fun w4429 h4429 q4429 => ?_)
  obtain ⟨q4429, fp4429⟩ := q4429
  obtain ⟨v4430, rfl, lv4430, uv4430, g4429, kk4429⟩ := q4429
  have k4429 := k4427.tr kk4429 (by decide)
  obtain ⟨v4431, ev4431, lv4431, uv4431⟩ := g4429.rd ad19 (show 5 < 6 by decide) rf19_5
  rw [ev4431] at fp4429
  show jEv _ _ _ _ _ _ _ (_, [(2, (f0 : Int)), (0, a1)], [(0, v4430)], _, _, _)
  refine ev_iconst ?_
  refine g_isubG (fun v4432 ev4432 lv4432 uv4432 => ?_)
  exact ev_ret rfl (by decide) (by decide) ⟨⟨_, rfl, by omega, by omega, g4429, k4429⟩, Int.le_trans (Int.le_of_eq (ev4431)) (by omega)⟩
/-! 86 feels -/
set_option maxHeartbeats 4000000 in
theorem s86 {G : GH} {h : JH} (g : Gd G h) {f0 : Nat} (q0 : IsF G f0) (tyf0 : (h.2.1 f0).1 = 6) {a1 : Int} (la1 : (-2147483648) ≤ a1) (ua1 : a1 ≤ 2147483647) {w0 : Int} (ew0 : h.2.2 19 5 = w0) (lw0 : 0 ≤ w0) (uw0 : w0 ≤ 993) : jOk 7 0 0 86 [(2, (f0 : Int)), (0, a1)] h (fun v h' => PI G [(19, 6), (22, 0)] h 0 (-2147483648) 2147483647 v h' ∧ h'.2.2 19 5 ≤ w0 + 7) := by
  refine ⟨by decide, by rw [ml86]; exact Nat.le_of_ble_eq_true rfl, ?_⟩
  rw [ml86, pp86]
  show jEv _ none _ c86_0 0 0 _ (c86_0, [(2, (f0 : Int)), (0, a1)], [], h, 0, 0)
  have k0 := Kp.rf [(19, 6), (22, 0)] h
  refine ev_aload_n rfl ?_
  refine g_fget0 g q0 ft0_0 ?_
  refine ev_bipush ?_
  refine ev_call (jcall_v (A := [(0, 40)]) (S' := []) (r := 19) rfl (g.lt ad19) (g.tg ad19) (Nat.le_of_ble_eq_true rfl)) (jOk_le (by decide) (s94 g (by omega) (by omega) (ew0) (by omega) (by omega))) (by decide) (by decide) (fun w4451 h4451 q4451 => ?_)
  obtain ⟨q4451, fp4451⟩ := q4451
  obtain ⟨rfl, g4451, kk4451⟩ := q4451
  have k4451 := k0.tr kk4451 (by decide)
  obtain ⟨v4452, ev4452, lv4452, uv4452⟩ := g4451.rd ad19 (show 5 < 6 by decide) rf19_5
  rw [ev4452] at fp4451
  show jEv _ _ _ _ _ _ _ (_, [(2, (f0 : Int)), (0, a1)], [], _, _, _)
  refine ev_aload_n rfl ?_
  refine ev_iload_n rfl ?_
  refine ev_call (jcall_u (A := [(0, a1)]) (S' := []) (r := f0) rfl (g4451.flt q0) (g4451.ffam q0) (Nat.le_of_ble_eq_true rfl)) (jOk_le (by decide) (s12 g4451 q0 (by omega) (by omega) (ev4452) (by omega) (by omega))) (by decide) (by decide) (fun w4453 h4453 q4453 => ?_)
  obtain ⟨q4453, fp4453⟩ := q4453
  obtain ⟨v4454, rfl, lv4454, uv4454, g4453, kk4453⟩ := q4453
  have k4453 := k4451.tr kk4453 (by decide)
  obtain ⟨v4455, ev4455, lv4455, uv4455⟩ := g4453.rd ad19 (show 5 < 6 by decide) rf19_5
  rw [ev4455] at fp4453
  show jEv _ _ _ _ _ _ _ (_, [(2, (f0 : Int)), (0, a1)], [(0, v4454)], _, _, _)
  refine ev_aload_n rfl ?_
  refine ev_iconst ?_
  refine ev_callF (A := [(0, 2)]) (S' := [(0, v4454)]) (r := f0) rfl (g4453.flt q0) (g4453.ffam q0) (Nat.le_of_ble_eq_true rfl) (famL (by decide) (fam_rfears g4453 q0 (by omega) (by omega) (ev4455) (by omega) (by omega) (by rw [k4453.2.1]; exact tyf0))) (by decide) (by decide) (fun w4456 h4456 q4456 => ?_)
  obtain ⟨q4456, fp4456⟩ := q4456
  obtain ⟨v4457, rfl, lv4457, uv4457, g4456, kk4456⟩ := q4456
  have k4456 := k4453.tr kk4456 (by decide)
  obtain ⟨v4458, ev4458, lv4458, uv4458⟩ := g4456.rd ad19 (show 5 < 6 by decide) rf19_5
  rw [ev4458] at fp4456
  show jEv _ _ _ _ _ _ _ (_, [(2, (f0 : Int)), (0, a1)], [(0, v4457), (0, v4454)], _, _, _)
  refine g_iaddG (fun v4459 ev4459 lv4459 uv4459 => ?_)
  exact ev_ret rfl (by decide) (by decide) ⟨⟨_, rfl, by omega, by omega, g4456, k4456⟩, Int.le_trans (Int.le_of_eq (ev4458)) (by omega)⟩
/-! fam_feels  -/
theorem fam_feels {G : GH} {h : JH} (g : Gd G h) {f0 : Nat} (q0 : IsF G f0) {a1 : Int} (la1 : (-2147483648) ≤ a1) (ua1 : a1 ≤ 2147483647) {w0 : Int} (ew0 : h.2.2 19 5 = w0) (lw0 : 0 ≤ w0) (uw0 : w0 ≤ 993) : ∃ k, [6, 12, 6, 6, 86, 6].getD (jpos (h.2.1 f0).1) 0 = k ∧ k ≠ 9999 ∧ jOk 7 0 0 k [(2, (f0 : Int)), (0, a1)] h (fun v h' => PI G [(19, 6), (22, 0)] h 0 (-2147483648) 2147483647 v h' ∧ h'.2.2 19 5 ≤ w0 + 7) := by
  have ht := jfam_in (g.ffam q0)
  simp only [jtags, if_true, List.mem_cons, List.not_mem_nil, or_false] at ht
  rcases ht with e | e | e | e | e | e
  · rw [e]
    exact ⟨6, rfl, by decide, jOk_post (fun v h' q => ⟨q.1, by have := q.2; omega⟩) (jOk_le (by decide) (s6 g q0 la1 ua1 ew0 lw0 (by omega)))⟩
  · rw [e]
    exact ⟨12, rfl, by decide, jOk_post (fun v h' q => ⟨q.1, by have := q.2; omega⟩) (jOk_le (by decide) (s12 g q0 la1 ua1 ew0 lw0 (by omega)))⟩
  · rw [e]
    exact ⟨6, rfl, by decide, jOk_post (fun v h' q => ⟨q.1, by have := q.2; omega⟩) (jOk_le (by decide) (s6 g q0 la1 ua1 ew0 lw0 (by omega)))⟩
  · rw [e]
    exact ⟨6, rfl, by decide, jOk_post (fun v h' q => ⟨q.1, by have := q.2; omega⟩) (jOk_le (by decide) (s6 g q0 la1 ua1 ew0 lw0 (by omega)))⟩
  · rw [e]
    exact ⟨86, rfl, by decide, jOk_post (fun v h' q => ⟨q.1, by have := q.2; omega⟩) (jOk_le (by decide) (s86 g q0 e la1 ua1 ew0 lw0 (by omega)))⟩
  · rw [e]
    exact ⟨6, rfl, by decide, jOk_post (fun v h' q => ⟨q.1, by have := q.2; omega⟩) (jOk_le (by decide) (s6 g q0 la1 ua1 ew0 lw0 (by omega)))⟩

/-! 8 tells -/
set_option maxHeartbeats 4000000 in
theorem s8 {G : GH} {h : JH} (g : Gd G h) {f0 : Nat} (q0 : IsF G f0) {a1 : Int} (la1 : (-2147483648) ≤ a1) (ua1 : a1 ≤ 2147483647) {w0 : Int} (ew0 : h.2.2 19 5 = w0) (lw0 : 0 ≤ w0) (uw0 : w0 ≤ 987) : jOk 8 0 0 8 [(2, (f0 : Int)), (0, a1)] h (fun v h' => PI G [(19, 6), (22, 0)] h 0 (-2147483648) 2147483647 v h' ∧ h'.2.2 19 5 ≤ w0 + 13) := by
  refine ⟨by decide, by rw [ml8]; exact Nat.le_of_ble_eq_true rfl, ?_⟩
  rw [ml8, pp8]
  show jEv _ none _ c8_0 0 0 _ (c8_0, [(2, (f0 : Int)), (0, a1)], [], h, 0, 0)
  have k0 := Kp.rf [(19, 6), (22, 0)] h
  refine ev_aload_n rfl ?_
  refine g_fget0 g q0 ft0_0 ?_
  refine ev_iconst ?_
  refine ev_call (jcall_v (A := [(0, 2)]) (S' := []) (r := 19) rfl (g.lt ad19) (g.tg ad19) (Nat.le_of_ble_eq_true rfl)) (jOk_le (by decide) (s94 g (by omega) (by omega) (ew0) (by omega) (by omega))) (by decide) (by decide) (fun w4478 h4478 q4478 => ?_)
  obtain ⟨q4478, fp4478⟩ := q4478
  obtain ⟨rfl, g4478, kk4478⟩ := q4478
  have k4478 := k0.tr kk4478 (by decide)
  obtain ⟨v4479, ev4479, lv4479, uv4479⟩ := g4478.rd ad19 (show 5 < 6 by decide) rf19_5
  rw [ev4479] at fp4478
  show jEv _ _ _ _ _ _ _ (_, [(2, (f0 : Int)), (0, a1)], [], _, _, _)
  refine ev_aload_n rfl ?_
  refine ev_iload_n rfl ?_
  refine ev_callF (A := [(0, a1)]) (S' := []) (r := f0) rfl (g4478.flt q0) (g4478.ffam q0) (Nat.le_of_ble_eq_true rfl) (famL (by decide) (fam_feels g4478 q0 (by omega) (by omega) (ev4479) (by omega) (by omega))) (by decide) (by decide) (fun w4480 h4480 q4480 => ?_)
  obtain ⟨q4480, fp4480⟩ := q4480
  obtain ⟨v4481, rfl, lv4481, uv4481, g4480, kk4480⟩ := q4480
  have k4480 := k4478.tr kk4480 (by decide)
  obtain ⟨v4482, ev4482, lv4482, uv4482⟩ := g4480.rd ad19 (show 5 < 6 by decide) rf19_5
  rw [ev4482] at fp4480
  show jEv _ _ _ _ _ _ _ (_, [(2, (f0 : Int)), (0, a1)], [(0, v4481)], _, _, _)
  refine ev_aload_n rfl ?_
  refine ev_iconst ?_
  refine ev_callF (A := [(0, 1)]) (S' := [(0, v4481)]) (r := f0) rfl (g4480.flt q0) (g4480.ffam q0) (Nat.le_of_ble_eq_true rfl) (famL (by decide) (fam_fears g4480 q0 (by omega) (by omega) (ev4482) (by omega) (by omega))) (by decide) (by decide) (fun w4483 h4483 q4483 => ?_)
  obtain ⟨q4483, fp4483⟩ := q4483
  obtain ⟨v4484, rfl, lv4484, uv4484, g4483, kk4483⟩ := q4483
  have k4483 := k4480.tr kk4483 (by decide)
  obtain ⟨v4485, ev4485, lv4485, uv4485⟩ := g4483.rd ad19 (show 5 < 6 by decide) rf19_5
  rw [ev4485] at fp4483
  show jEv _ _ _ _ _ _ _ (_, [(2, (f0 : Int)), (0, a1)], [(0, v4484), (0, v4481)], _, _, _)
  refine g_isubG (fun v4486 ev4486 lv4486 uv4486 => ?_)
  exact ev_ret rfl (by decide) (by decide) ⟨⟨_, rfl, by omega, by omega, g4483, k4483⟩, Int.le_trans (Int.le_of_eq (ev4485)) (by omega)⟩
/-! 87 tells -/
set_option maxHeartbeats 4000000 in
theorem s87 {G : GH} {h : JH} (g : Gd G h) {f0 : Nat} (q0 : IsF G f0) {a1 : Int} (la1 : (-2147483648) ≤ a1) (ua1 : a1 ≤ 2147483647) {w0 : Int} (ew0 : h.2.2 19 5 = w0) (lw0 : 0 ≤ w0) (uw0 : w0 ≤ 986) : jOk 9 0 0 87 [(2, (f0 : Int)), (0, a1)] h (fun v h' => PI G [(19, 6), (22, 0)] h 0 (-2147483648) 2147483647 v h' ∧ h'.2.2 19 5 ≤ w0 + 14) := by
  refine ⟨by decide, by rw [ml87]; exact Nat.le_of_ble_eq_true rfl, ?_⟩
  rw [ml87, pp87]
  show jEv _ none _ c87_0 0 0 _ (c87_0, [(2, (f0 : Int)), (0, a1)], [], h, 0, 0)
  have k0 := Kp.rf [(19, 6), (22, 0)] h
  refine ev_aload_n rfl ?_
  refine g_fget0 g q0 ft0_0 ?_
  refine ev_bipush ?_
  refine ev_call (jcall_v (A := [(0, 41)]) (S' := []) (r := 19) rfl (g.lt ad19) (g.tg ad19) (Nat.le_of_ble_eq_true rfl)) (jOk_le (by decide) (s94 g (by omega) (by omega) (ew0) (by omega) (by omega))) (by decide) (by decide) (fun w4499 h4499 q4499 => ?_)
  obtain ⟨q4499, fp4499⟩ := q4499
  obtain ⟨rfl, g4499, kk4499⟩ := q4499
  have k4499 := k0.tr kk4499 (by decide)
  obtain ⟨v4500, ev4500, lv4500, uv4500⟩ := g4499.rd ad19 (show 5 < 6 by decide) rf19_5
  rw [ev4500] at fp4499
  show jEv _ _ _ _ _ _ _ (_, [(2, (f0 : Int)), (0, a1)], [], _, _, _)
  refine ev_aload_n rfl ?_
  refine ev_iload_n rfl ?_
  refine ev_iconst ?_
  refine g_iaddG (fun v4501 ev4501 lv4501 uv4501 => ?_)
  refine ev_call (jcall_u (A := [(0, v4501)]) (S' := []) (r := f0) rfl (g4499.flt q0) (g4499.ffam q0) (Nat.le_of_ble_eq_true rfl)) (jOk_le (by decide) (s8 g4499 q0 (by omega) (by omega) (ev4500) (by omega) (by omega))) (by decide) (by decide) (fun w4502 h4502 q4502 => ?_)
  obtain ⟨q4502, fp4502⟩ := q4502
  obtain ⟨v4503, rfl, lv4503, uv4503, g4502, kk4502⟩ := q4502
  have k4502 := k4499.tr kk4502 (by decide)
  obtain ⟨v4504, ev4504, lv4504, uv4504⟩ := g4502.rd ad19 (show 5 < 6 by decide) rf19_5
  rw [ev4504] at fp4502
  show jEv _ _ _ _ _ _ _ (_, [(2, (f0 : Int)), (0, a1)], [(0, v4503)], _, _, _)
  exact ev_ret rfl (by decide) (by decide) ⟨⟨_, rfl, by omega, by omega, g4502, k4502⟩, Int.le_trans (Int.le_of_eq (ev4504)) (by omega)⟩
/-! fam_tells  -/
theorem fam_tells {G : GH} {h : JH} (g : Gd G h) {f0 : Nat} (q0 : IsF G f0) {a1 : Int} (la1 : (-2147483648) ≤ a1) (ua1 : a1 ≤ 2147483647) {w0 : Int} (ew0 : h.2.2 19 5 = w0) (lw0 : 0 ≤ w0) (uw0 : w0 ≤ 986) : ∃ k, [8, 8, 8, 8, 87, 8].getD (jpos (h.2.1 f0).1) 0 = k ∧ k ≠ 9999 ∧ jOk 9 0 0 k [(2, (f0 : Int)), (0, a1)] h (fun v h' => PI G [(19, 6), (22, 0)] h 0 (-2147483648) 2147483647 v h' ∧ h'.2.2 19 5 ≤ w0 + 14) := by
  have ht := jfam_in (g.ffam q0)
  simp only [jtags, if_true, List.mem_cons, List.not_mem_nil, or_false] at ht
  rcases ht with e | e | e | e | e | e
  · rw [e]
    exact ⟨8, rfl, by decide, jOk_post (fun v h' q => ⟨q.1, by have := q.2; omega⟩) (jOk_le (by decide) (s8 g q0 la1 ua1 ew0 lw0 (by omega)))⟩
  · rw [e]
    exact ⟨8, rfl, by decide, jOk_post (fun v h' q => ⟨q.1, by have := q.2; omega⟩) (jOk_le (by decide) (s8 g q0 la1 ua1 ew0 lw0 (by omega)))⟩
  · rw [e]
    exact ⟨8, rfl, by decide, jOk_post (fun v h' q => ⟨q.1, by have := q.2; omega⟩) (jOk_le (by decide) (s8 g q0 la1 ua1 ew0 lw0 (by omega)))⟩
  · rw [e]
    exact ⟨8, rfl, by decide, jOk_post (fun v h' q => ⟨q.1, by have := q.2; omega⟩) (jOk_le (by decide) (s8 g q0 la1 ua1 ew0 lw0 (by omega)))⟩
  · rw [e]
    exact ⟨87, rfl, by decide, jOk_post (fun v h' q => ⟨q.1, by have := q.2; omega⟩) (jOk_le (by decide) (s87 g q0 la1 ua1 ew0 lw0 (by omega)))⟩
  · rw [e]
    exact ⟨8, rfl, by decide, jOk_post (fun v h' q => ⟨q.1, by have := q.2; omega⟩) (jOk_le (by decide) (s8 g q0 la1 ua1 ew0 lw0 (by omega)))⟩

/-! 2 measure -/
set_option maxHeartbeats 4000000 in
theorem s2 {G : GH} {h : JH} (g : Gd G h) {f0 : Nat} (q0 : IsF G f0) {a1 : Int} (la1 : (-2147483648) ≤ a1) (ua1 : a1 ≤ 2147483647) : jOk 1 0 0 2 [(2, (f0 : Int)), (0, a1)] h (PI G [] h 0 (-2147483648) 2147483647) := by
  refine ⟨by decide, by rw [ml2]; exact Nat.le_of_ble_eq_true rfl, ?_⟩
  rw [ml2, pp2]
  show jEv _ none _ c2_0 0 0 _ (c2_0, [(2, (f0 : Int)), (0, a1)], [], h, 0, 0)
  have k0 := Kp.rf [] h
  refine ev_bipush ?_
  refine ev_iload_n rfl ?_
  refine g_imulG (fun v4507 ev4507 lv4507 uv4507 => ?_)
  exact ev_ret rfl (by decide) (by decide) ⟨_, rfl, by omega, by omega, g, k0⟩
/-! 11 measure -/
set_option maxHeartbeats 4000000 in
theorem s11 {G : GH} {h : JH} (g : Gd G h) {f0 : Nat} (q0 : IsF G f0) {a1 : Int} (la1 : (-2147483648) ≤ a1) (ua1 : a1 ≤ 2147483647) : jOk 3 0 0 11 [(2, (f0 : Int)), (0, a1)] h (PI G [] h 0 (-2147483648) 2147483647) := by
  refine ⟨by decide, by rw [ml11]; exact Nat.le_of_ble_eq_true rfl, ?_⟩
  rw [ml11, pp11]
  show jEv _ none _ c11_0 0 0 _ (c11_0, [(2, (f0 : Int)), (0, a1)], [], h, 0, 0)
  have k0 := Kp.rf [] h
  refine ev_aload_n rfl ?_
  refine g_fget0 g q0 ft0_0 ?_
  refine ev_iload_n rfl ?_
  refine ev_call (jcall_v (A := [(0, a1)]) (S' := []) (r := 19) rfl (g.lt ad19) (g.tg ad19) (Nat.le_of_ble_eq_true rfl)) (jOk_le (by decide) (s91 g (by omega) (by omega))) (by decide) (by decide) (fun w4512 h4512 q4512 => ?_)
  obtain ⟨v4513, rfl, lv4513, uv4513, g4512, kk4512⟩ := q4512
  have k4512 := k0.tr kk4512 (by decide)
  show jEv _ _ _ _ _ _ _ (_, [(2, (f0 : Int)), (0, a1)], [(0, v4513)], _, _, _)
  exact ev_ret rfl (by decide) (by decide) ⟨_, rfl, by omega, by omega, g4512, k4512⟩
/-! 19 measure -/
set_option maxHeartbeats 4000000 in
theorem s19 {G : GH} {h : JH} (g : Gd G h) {f0 : Nat} (q0 : IsF G f0) {a1 : Int} (la1 : (-2147483648) ≤ a1) (ua1 : a1 ≤ 2147483647) : jOk 1 0 0 19 [(2, (f0 : Int)), (0, a1)] h (PI G [] h 0 (-2147483648) 2147483647) := by
  refine ⟨by decide, by rw [ml19]; exact Nat.le_of_ble_eq_true rfl, ?_⟩
  rw [ml19, pp19]
  show jEv _ none _ c19_0 0 0 _ (c19_0, [(2, (f0 : Int)), (0, a1)], [], h, 0, 0)
  have k0 := Kp.rf [] h
  refine ev_aload_n rfl ?_
  refine g_fget2 g q0 ft0_2 (fun v4518 ev4518 lv4518 uv4518 => ?_)
  refine ev_iload_n rfl ?_
  refine g_imulG (fun v4519 ev4519 lv4519 uv4519 => ?_)
  exact ev_ret rfl (by decide) (by decide) ⟨_, rfl, by omega, by omega, g, k0⟩
/-! 99 measure -/
set_option maxHeartbeats 4000000 in
theorem s99 {G : GH} {h : JH} (g : Gd G h) {f0 : Nat} (q0 : IsF G f0) {a1 : Int} (la1 : (-2147483648) ≤ a1) (ua1 : a1 ≤ 2147483647) : jOk 1 0 0 99 [(2, (f0 : Int)), (0, a1)] h (PI G [] h 0 (-2147483648) 2147483647) := by
  refine ⟨by decide, by rw [ml99]; exact Nat.le_of_ble_eq_true rfl, ?_⟩
  rw [ml99, pp99]
  show jEv _ none _ c99_0 0 0 _ (c99_0, [(2, (f0 : Int)), (0, a1)], [], h, 0, 0)
  have k0 := Kp.rf [] h
  refine ev_iload_n rfl ?_
  refine ev_ifge f99_11 (fun c4528 => ?_) (fun c4528 => ?_)
  · refine ev_aload_n rfl ?_
    refine g_fget2 g q0 ft0_2 (fun v4529 ev4529 lv4529 uv4529 => ?_)
    refine ev_iload_n rfl ?_
    refine g_imulG (fun v4530 ev4530 lv4530 uv4530 => ?_)
    exact ev_ret rfl (by decide) (by decide) ⟨_, rfl, by omega, by omega, g, k0⟩
  · refine ev_bipush ?_
    refine ev_iload_n rfl ?_
    refine g_imulG (fun v4531 ev4531 lv4531 uv4531 => ?_)
    refine ev_goto f99_17 ?_
    exact ev_ret rfl (by decide) (by decide) ⟨_, rfl, by omega, by omega, g, k0⟩
/-! fam_measure  -/
theorem fam_measure {G : GH} {h : JH} (g : Gd G h) {f0 : Nat} (q0 : IsF G f0) {a1 : Int} (la1 : (-2147483648) ≤ a1) (ua1 : a1 ≤ 2147483647) : ∃ k, [2, 11, 2, 19, 11, 99].getD (jpos (h.2.1 f0).1) 0 = k ∧ k ≠ 9999 ∧ jOk 3 0 0 k [(2, (f0 : Int)), (0, a1)] h (PI G [] h 0 (-2147483648) 2147483647) := by
  have ht := jfam_in (g.ffam q0)
  simp only [jtags, if_true, List.mem_cons, List.not_mem_nil, or_false] at ht
  rcases ht with e | e | e | e | e | e
  · rw [e]
    exact ⟨2, rfl, by decide, jOk_post (fun v h' q => q) (jOk_le (by decide) (s2 g q0 la1 ua1))⟩
  · rw [e]
    exact ⟨11, rfl, by decide, jOk_post (fun v h' q => q) (jOk_le (by decide) (s11 g q0 la1 ua1))⟩
  · rw [e]
    exact ⟨2, rfl, by decide, jOk_post (fun v h' q => q) (jOk_le (by decide) (s2 g q0 la1 ua1))⟩
  · rw [e]
    exact ⟨19, rfl, by decide, jOk_post (fun v h' q => q) (jOk_le (by decide) (s19 g q0 la1 ua1))⟩
  · rw [e]
    exact ⟨11, rfl, by decide, jOk_post (fun v h' q => q) (jOk_le (by decide) (s11 g q0 la1 ua1))⟩
  · rw [e]
    exact ⟨99, rfl, by decide, jOk_post (fun v h' q => q) (jOk_le (by decide) (s99 g q0 la1 ua1))⟩

/-! 3 fearsWorst -/
set_option maxHeartbeats 4000000 in
theorem s3 {G : GH} {h : JH} (g : Gd G h) {f0 : Nat} (q0 : IsF G f0) : jOk 1 0 0 3 [(2, (f0 : Int))] h (PI G [] h 0 0 1) := by
  refine ⟨by decide, by rw [ml3]; exact Nat.le_of_ble_eq_true rfl, ?_⟩
  rw [ml3, pp3]
  show jEv _ none _ c3_0 0 0 _ (c3_0, [(2, (f0 : Int))], [], h, 0, 0)
  have k0 := Kp.rf [] h
  refine ev_iconst ?_
  exact ev_ret rfl (by decide) (by decide) ⟨_, rfl, by omega, by omega, g, k0⟩
/-! 15 fearsWorst -/
set_option maxHeartbeats 4000000 in
theorem s15 {G : GH} {h : JH} (g : Gd G h) {f0 : Nat} (q0 : IsF G f0) : jOk 1 0 0 15 [(2, (f0 : Int))] h (PI G [] h 0 0 1) := by
  refine ⟨by decide, by rw [ml15]; exact Nat.le_of_ble_eq_true rfl, ?_⟩
  rw [ml15, pp15]
  show jEv _ none _ c15_0 0 0 _ (c15_0, [(2, (f0 : Int))], [], h, 0, 0)
  have k0 := Kp.rf [] h
  refine ev_iconst ?_
  exact ev_ret rfl (by decide) (by decide) ⟨_, rfl, by omega, by omega, g, k0⟩
