/-! 72 passOpening -/
set_option maxHeartbeats 4000000 in
theorem s72 {G : GH} {h : JH} (g : Gd G h) {a1 : Int} (la1 : 0 ≤ a1) (ua1 : a1 ≤ 13) {w0 : Int} (ew0 : h.2.2 7 1 = w0) (lw0 : (-1) ≤ w0) (uw0 : w0 ≤ 200) : jOk 3 0 0 72 [(2, 7), (0, a1)] h (fun v h' => ∃ F : Int, v = none ∧ Gd G h' ∧ Kp [(7, 2), (7, 3)] h h' ∧ h'.2.2 7 1 = F ∧ ((-F) + w0) ≤ 0) := by
  refine ⟨by decide, by rw [ml72]; exact Nat.le_of_ble_eq_true rfl, ?_⟩
  rw [ml72, pp72]
  show jEv _ none _ c72_0 0 0 _ (c72_0, [(2, 7), (0, a1)], [], h, 0, 0)
  have k0 := Kp.rf [(7, 2), (7, 3)] h
  refine ev_iload_n rfl ?_
  refine ev_bipush ?_
  refine ev_icmplt f72_10 (fun c15749 => ?_) (fun c15749 => ?_)
  · refine ev_aload_n rfl ?_
    refine ev_bipush ?_
    refine ev_call (jcall_v (A := [(0, 40)]) (S' := []) (r := 7) rfl (g.lt ad7) (g.tg ad7) (Nat.le_of_ble_eq_true rfl)) (jOk_le (by decide) (s71 g (by omega) (by omega) (ew0) (by omega) (by omega))) (by decide) (by decide) (fun w15750 h15750 q15750 => ?_)
    obtain ⟨v15751, rfl, g15750, kk15750, ev15751, p15750_0⟩ := q15750
    have bv15751 := g15750.rg ad7 (i := 1) (by decide) rf7_1
    rw [ev15751] at bv15751
    have k15750 := k0.tr kk15750 (by decide)
    show jEv _ _ _ _ _ _ _ (_, [(2, 7), (0, a1)], [], _, _, _)
    exact ev_ret rfl (by decide) (by decide) ⟨_, rfl, g15750, k15750, (ev15751), by omega⟩
  · refine ev_aload_n rfl ?_
    refine ev_in (d := 1) (a := 0) (b := 0) (cd' := c70_0) (m := 1) (L0 := [(2, 7)]) (jcall_v (A := []) (S' := []) (r := 7) rfl (g.lt ad7) (g.tg ad7) (Nat.le_of_ble_eq_true rfl)) (by decide) ml70 pp70 (Nat.le_of_ble_eq_true rfl) rfl (by decide) (by decide) ?_
    refine ev_aload_n rfl ?_
    refine g_getv (r := 7) (v := w0) g ad7 (by decide) ft5_1 (ew0) ?_
    refine ev_ifge f70_15 (fun c15752 => ?_) (fun c15752 => ?_)
    · refine ev_ret rfl (by decide) (by decide) ?_
      show jEv _ _ _ _ _ _ _ (_, [(2, 7), (0, a1)], [], _, _, _)
      refine ev_aload_n rfl ?_
      refine ev_bipush ?_
      refine ev_call (jcall_v (A := [(0, 40)]) (S' := []) (r := 7) rfl (g.lt ad7) (g.tg ad7) (Nat.le_of_ble_eq_true rfl)) (jOk_le (by decide) (s71 g (by omega) (by omega) (ew0) (by omega) (by omega))) (by decide) (by decide) (fun w15753 h15753 q15753 => ?_)
      obtain ⟨v15754, rfl, g15753, kk15753, ev15754, p15753_0⟩ := q15753
      have bv15754 := g15753.rg ad7 (i := 1) (by decide) rf7_1
      rw [ev15754] at bv15754
      have k15753 := k0.tr kk15753 (by decide)
      show jEv _ _ _ _ _ _ _ (_, [(2, 7), (0, a1)], [], _, _, _)
      exact ev_ret rfl (by decide) (by decide) ⟨_, rfl, g15753, k15753, (ev15754), by omega⟩
    · refine ev_aload_n rfl ?_
      refine ev_aload_n rfl ?_
      obtain ⟨v15755, ev15755, lv15755, uv15755⟩ := g.rd ad7 (show 2 < 15 by decide) rf7_2
      refine g_getv (r := 7) (v := v15755) g ad7 (by decide) ft5_2 ev15755 ?_
      refine g_putf (r := 7) g ad7 (by decide) ft5_1 (by decide) (fun e => absurd e nz5_1) rf7_1 (by decide) (by omega) (by omega) (fun h15756 e15756 g15756 => ?_)
      have k15756 := k0.wr e15756 rfl
      refine ev_ret rfl (by decide) (by decide) ?_
      show jEv _ _ _ _ _ _ _ (_, [(2, 7), (0, a1)], [], _, _, _)
      refine ev_aload_n rfl ?_
      refine ev_bipush ?_
      refine ev_call (jcall_v (A := [(0, 40)]) (S' := []) (r := 7) rfl (g15756.lt ad7) (g15756.tg ad7) (Nat.le_of_ble_eq_true rfl)) (jOk_le (by decide) (s71 g15756 (by omega) (by omega) ((jw_eq e15756)) (by omega) (by omega))) (by decide) (by decide) (fun w15757 h15757 q15757 => ?_)
      obtain ⟨v15758, rfl, g15757, kk15757, ev15758, p15757_0⟩ := q15757
      have bv15758 := g15757.rg ad7 (i := 1) (by decide) rf7_1
      rw [ev15758] at bv15758
      have k15757 := k15756.tr kk15757 (by decide)
      show jEv _ _ _ _ _ _ _ (_, [(2, 7), (0, a1)], [], _, _, _)
      exact ev_ret rfl (by decide) (by decide) ⟨_, rfl, g15757, k15757, (ev15758), by omega⟩
/-! 73 newNode -/
set_option maxHeartbeats 4000000 in
theorem s73 {G : GH} {h : JH} (g : Gd G h) {a1 : Int} (la1 : 0 ≤ a1) (ua1 : a1 ≤ 2) {w0 : Int} (ew0 : h.2.2 7 1 = w0) (lw0 : (-1) ≤ w0) (uw0 : w0 ≤ 200) : jOk 2 0 0 73 [(2, 7), (0, a1)] h (fun v h' => ∃ r F : Int, v = some (0, r) ∧ (-1) ≤ r ∧ r ≤ 199 ∧ Gd G h' ∧ Kp [(7, 2), (7, 4), (10, 0), (11, 0), (12, 0), (15, 0), (16, 0), (17, 0)] h h' ∧ h'.2.2 7 1 = F ∧ ((-F) + w0) ≤ 0 ∧ ((-F) + (-r)) ≤ 1) := by
  refine ⟨by decide, by rw [ml73]; exact Nat.le_of_ble_eq_true rfl, ?_⟩
  rw [ml73, pp73]
  show jEv _ none _ c73_0 0 0 _ (c73_0, [(2, 7), (0, a1)], [], h, 0, 0)
  have k0 := Kp.rf [(7, 2), (7, 4), (10, 0), (11, 0), (12, 0), (15, 0), (16, 0), (17, 0)] h
  refine ev_aload_n rfl ?_
  obtain ⟨v15783, ev15783, lv15783, uv15783⟩ := g.rd ad7 (show 3 < 15 by decide) rf7_3
  refine g_getv (r := 7) (v := v15783) g ad7 (by decide) ft5_3 ev15783 ?_
  refine ev_sipush ?_
  refine ev_icmplt f73_16 (fun c15784 => ?_) (fun c15784 => ?_)
  · refine ev_aload_n rfl ?_
    refine g_getp (r := 7) (c := 10) g ad7 (by decide) (by decide) rf7_7 ft5_7 ?_
    refine ev_aload_n rfl ?_
    refine g_getv (r := 7) (v := v15783) g ad7 (by decide) ft5_3 (ev15783) ?_
    refine ev_iload_n rfl ?_
    refine g_iast g ad10 rt10 (fun _ => rfl) (by omega) (by omega) (by omega) (by omega) (fun h15785 e15785 g15785 => ?_)
    have k15785 := k0.wr e15785 rfl
    refine ev_aload_n rfl ?_
    refine g_getp (r := 7) (c := 11) g15785 ad7 (by decide) (by decide) rf7_8 ft5_8 ?_
    refine ev_aload_n rfl ?_
    refine g_getv (r := 7) (v := v15783) g15785 ad7 (by decide) ft5_3 (((jw_ne e15785 (Or.inl (by decide))).trans ev15783)) ?_
    refine ev_iconst ?_
    refine g_iast g15785 ad11 rt11 (fun _ => rfl) (by omega) (by omega) (by omega) (by omega) (fun h15786 e15786 g15786 => ?_)
    have k15786 := k15785.wr e15786 rfl
    refine ev_aload_n rfl ?_
    refine g_getp (r := 7) (c := 12) g15786 ad7 (by decide) (by decide) rf7_9 ft5_9 ?_
    refine ev_aload_n rfl ?_
    refine g_getv (r := 7) (v := v15783) g15786 ad7 (by decide) ft5_3 (((jw_ne e15786 (Or.inl (by decide))).trans ((jw_ne e15785 (Or.inl (by decide))).trans ev15783))) ?_
    refine ev_iconst ?_
    refine g_iast g15786 ad12 rt12 (fun _ => rfl) (by omega) (by omega) (by omega) (by omega) (fun h15787 e15787 g15787 => ?_)
    have k15787 := k15786.wr e15787 rfl
    refine ev_aload_n rfl ?_
    refine g_getp (r := 7) (c := 15) g15787 ad7 (by decide) (by decide) rf7_12 ft5_12 ?_
    refine ev_aload_n rfl ?_
    refine g_getv (r := 7) (v := v15783) g15787 ad7 (by decide) ft5_3 (((jw_ne e15787 (Or.inl (by decide))).trans ((jw_ne e15786 (Or.inl (by decide))).trans ((jw_ne e15785 (Or.inl (by decide))).trans ev15783)))) ?_
    refine ev_iconst ?_
    refine g_iast g15787 ad15 rt15 (fun _ => rfl) (by omega) (by omega) (by omega) (by omega) (fun h15788 e15788 g15788 => ?_)
    have k15788 := k15787.wr e15788 rfl
    refine ev_aload_n rfl ?_
    refine g_getp (r := 7) (c := 16) g15788 ad7 (by decide) (by decide) rf7_13 ft5_13 ?_
    refine ev_aload_n rfl ?_
    refine g_getv (r := 7) (v := v15783) g15788 ad7 (by decide) ft5_3 (((jw_ne e15788 (Or.inl (by decide))).trans ((jw_ne e15787 (Or.inl (by decide))).trans ((jw_ne e15786 (Or.inl (by decide))).trans ((jw_ne e15785 (Or.inl (by decide))).trans ev15783))))) ?_
    refine ev_iconst ?_
    refine g_iast g15788 ad16 rt16 (fun _ => rfl) (by omega) (by omega) (by omega) (by omega) (fun h15789 e15789 g15789 => ?_)
    have k15789 := k15788.wr e15789 rfl
    refine ev_aload_n rfl ?_
    refine g_getp (r := 7) (c := 17) g15789 ad7 (by decide) (by decide) rf7_14 ft5_14 ?_
    refine ev_aload_n rfl ?_
    refine g_getv (r := 7) (v := v15783) g15789 ad7 (by decide) ft5_3 (((jw_ne e15789 (Or.inl (by decide))).trans ((jw_ne e15788 (Or.inl (by decide))).trans ((jw_ne e15787 (Or.inl (by decide))).trans ((jw_ne e15786 (Or.inl (by decide))).trans ((jw_ne e15785 (Or.inl (by decide))).trans ev15783)))))) ?_
    refine ev_iconst ?_
    refine g_iast g15789 ad17 rt17 (fun _ => rfl) (by omega) (by omega) (by omega) (by omega) (fun h15790 e15790 g15790 => ?_)
    have k15790 := k15789.wr e15790 rfl
    refine ev_aload_n rfl ?_
    refine ev_dup (by decide) ?_
    refine g_getv (r := 7) (v := v15783) g15790 ad7 (by decide) ft5_3 (((jw_ne e15790 (Or.inl (by decide))).trans ((jw_ne e15789 (Or.inl (by decide))).trans ((jw_ne e15788 (Or.inl (by decide))).trans ((jw_ne e15787 (Or.inl (by decide))).trans ((jw_ne e15786 (Or.inl (by decide))).trans ((jw_ne e15785 (Or.inl (by decide))).trans ev15783))))))) ?_
    refine ev_iconst ?_
    refine ev_iadd (r := (v15783 + 1)) (by unfold w32; omega) ?_
    refine g_putf (r := 7) g15790 ad7 (by decide) ft5_3 (by decide) (fun e => absurd e nz5_3) rf7_3 (by decide) (by omega) (by omega) (fun h15791 e15791 g15791 => ?_)
    have k15791 := k15790.wr e15791 rfl
    refine ev_aload_n rfl ?_
    refine g_getv (r := 7) (v := (v15783 + 1)) g15791 ad7 (by decide) ft5_3 ((jw_eq e15791)) ?_
    refine ev_iconst ?_
    refine ev_isub (r := v15783) (by unfold w32; omega) ?_
    exact ev_ret rfl (by decide) (by decide) ⟨_, _, rfl, by omega, by omega, g15791, k15791, (((jw_ne e15791 (Or.inr (by decide))).trans ((jw_ne e15790 (Or.inl (by decide))).trans ((jw_ne e15789 (Or.inl (by decide))).trans ((jw_ne e15788 (Or.inl (by decide))).trans ((jw_ne e15787 (Or.inl (by decide))).trans ((jw_ne e15786 (Or.inl (by decide))).trans ((jw_ne e15785 (Or.inl (by decide))).trans ew0)))))))), by omega, by omega⟩
  · refine ev_aload_n rfl ?_
    refine ev_in (d := 0) (a := 0) (b := 0) (cd' := c70_0) (m := 1) (L0 := [(2, 7)]) (jcall_v (A := []) (S' := []) (r := 7) rfl (g.lt ad7) (g.tg ad7) (Nat.le_of_ble_eq_true rfl)) (by decide) ml70 pp70 (Nat.le_of_ble_eq_true rfl) rfl (by decide) (by decide) ?_
    refine ev_aload_n rfl ?_
    refine g_getv (r := 7) (v := w0) g ad7 (by decide) ft5_1 (ew0) ?_
    refine ev_ifge f70_15 (fun c15792 => ?_) (fun c15792 => ?_)
    · refine ev_ret rfl (by decide) (by decide) ?_
      show jEv _ _ _ _ _ _ _ (_, [(2, 7), (0, a1)], [], _, _, _)
      refine ev_iconst ?_
      exact ev_ret rfl (by decide) (by decide) ⟨_, _, rfl, by omega, by omega, g, k0, (ew0), by omega, by omega⟩
    · refine ev_aload_n rfl ?_
      refine ev_aload_n rfl ?_
      obtain ⟨v15793, ev15793, lv15793, uv15793⟩ := g.rd ad7 (show 2 < 15 by decide) rf7_2
      refine g_getv (r := 7) (v := v15793) g ad7 (by decide) ft5_2 ev15793 ?_
      refine g_putf (r := 7) g ad7 (by decide) ft5_1 (by decide) (fun e => absurd e nz5_1) rf7_1 (by decide) (by omega) (by omega) (fun h15794 e15794 g15794 => ?_)
      have k15794 := k0.wr e15794 rfl
      refine ev_ret rfl (by decide) (by decide) ?_
      show jEv _ _ _ _ _ _ _ (_, [(2, 7), (0, a1)], [], _, _, _)
      refine ev_iconst ?_
      exact ev_ret rfl (by decide) (by decide) ⟨_, _, rfl, by omega, by omega, g15794, k15794, ((jw_eq e15794)), by omega, by omega⟩
/-! 76 readNumber -/
set_option maxHeartbeats 4000000 in
theorem s76_l {G : GH} {h : JH} {a1 : Int} (la1 : 1 ≤ a1) (ua1 : a1 ≤ 3) {w0 : Int} (ew0 : h.2.2 7 1 = w0) (lw0 : (-1) ≤ w0) (uw0 : w0 ≤ 200) : ∀ N : Nat, (∀ (h1 : JH) (x2 x3 y0 : Int), Gd G h1 → Kp [(7, 2), (7, 3)] h h1 → 1 ≤ a1 → a1 ≤ 3 → (-2147483648) ≤ x2 → x2 ≤ 2147483647 → 0 ≤ x3 → x3 ≤ 3 → (w0 + (-y0)) ≤ 0 → h1.2.2 7 1 = y0 → (-1) ≤ y0 → y0 ≤ 200 → ((-x3) + 3) < N → jEv (jOk 2) none (fun _ => 0) c76_0 0 0 (fun v h' => ∃ r F : Int, v = some (0, r) ∧ (-2147483648) ≤ r ∧ r ≤ 2147483647 ∧ Gd G h' ∧ Kp [(7, 2), (7, 3)] h h' ∧ h'.2.2 7 1 = F ∧ ((-F) + w0) ≤ 0) (c76_15, [(2, 7), (0, a1), (0, x2), (0, x3)], [], h1, 0, 0)) := by
  intro N
  induction N with
  | zero => exact fun h1 x2 x3 y0 g1 k1 b0 b1 b2 b3 b4 b5 b6 b7 b8 b9 hm => absurd hm (by omega)
  | succ N ih =>
    show _
    intro h1 x2 x3 y0 g1 k1 b0 b1 b2 b3 b4 b5 b6 ey0 ly0 uy0 hm
    refine ev_iload_n rfl ?_
    refine ev_iload_n rfl ?_
    refine ev_icmpge f76_63 (fun c16015 => ?_) (fun c16015 => ?_)
    · refine ev_iload_n rfl ?_
      exact ev_ret rfl (by decide) (by decide) ⟨_, _, rfl, by omega, by omega, g1, k1, (ey0), by omega⟩
    · refine ev_aload_n rfl ?_
      refine g_getv (r := 7) (v := y0) g1 ad7 (by decide) ft5_1 (ey0) ?_
      refine ev_ifge f76_63 (fun c16016 => ?_) (fun c16016 => ?_)
      · refine ev_iload_n rfl ?_
        exact ev_ret rfl (by decide) (by decide) ⟨_, _, rfl, by omega, by omega, g1, k1, (ey0), by omega⟩
      · refine ev_aload_n rfl ?_
        refine ev_in (d := 1) (a := 0) (b := 0) (cd' := c69_0) (m := 1) (L0 := [(2, 7)]) (jcall_v (A := []) (S' := []) (r := 7) rfl (g1.lt ad7) (g1.tg ad7) (Nat.le_of_ble_eq_true rfl)) (by decide) ml69 pp69 (Nat.le_of_ble_eq_true rfl) rfl (by decide) (by decide) ?_
        refine ev_aload_n rfl ?_
        refine ev_in (d := 0) (a := 0) (b := 0) (cd' := c68_0) (m := 1) (L0 := [(2, 7)]) (jcall_v (A := []) (S' := []) (r := 7) rfl (g1.lt ad7) (g1.tg ad7) (Nat.le_of_ble_eq_true rfl)) (by decide) ml68 pp68 (Nat.le_of_ble_eq_true rfl) rfl (by decide) (by decide) ?_
        refine ev_aload_n rfl ?_
        obtain ⟨v16017, ev16017, lv16017, uv16017⟩ := g1.rd ad7 (show 2 < 15 by decide) rf7_2
        refine g_getv (r := 7) (v := v16017) g1 ad7 (by decide) ft5_2 ev16017 ?_
        refine ev_aload_n rfl ?_
        obtain ⟨v16018, ev16018, lv16018, uv16018⟩ := g1.rd ad7 (show 0 < 15 by decide) rf7_0
        refine g_getv (r := 7) (v := v16018) g1 ad7 (by decide) ft5_0 ev16018 ?_
        refine ev_icmpge f68_27 (fun c16019 => ?_) (fun c16019 => ?_)
        · refine ev_iconst ?_
          refine ev_ret rfl (by decide) (by decide) ?_
          show jEv _ _ _ _ _ _ _ (_, [(2, 7)], [(0, (-1))], _, _, _)
          refine ev_bipush ?_
          refine ev_icmplt f69_22 (fun c16020 => ?_) (fun c16020 => absurd c16020 (by omega))
          refine ev_iconst ?_
          refine ev_ret rfl (by decide) (by decide) ?_
          show jEv _ _ _ _ _ _ _ (_, [(2, 7), (0, a1), (0, x2), (0, x3)], [(0, 0)], _, _, _)
          refine ev_ifeq f76_63 (fun c16021 => ?_) (fun c16021 => absurd c16021 (by omega))
          refine ev_iload_n rfl ?_
          exact ev_ret rfl (by decide) (by decide) ⟨_, _, rfl, by omega, by omega, g1, k1, (ey0), by omega⟩
        · refine ev_aload_n rfl ?_
          refine g_getp (r := 7) (c := 8) g1 ad7 (by decide) (by decide) rf7_5 ft5_5 ?_
          refine ev_aload_n rfl ?_
          refine g_getv (r := 7) (v := v16017) g1 ad7 (by decide) ft5_2 (ev16017) ?_
          refine g_bald g1 ad8 rt8 (by omega) (by omega) (fun v16022 ev16022 lv16022 uv16022 => ?_)
          refine ev_sipush ?_
          refine g_iandB (b := 255) (by omega) (by omega) (by decide) (fun v16023 ev16023 lv16023 uv16023 => ?_)
          refine ev_goto f68_28 ?_
          refine ev_ret rfl (by decide) (by decide) ?_
          show jEv _ _ _ _ _ _ _ (_, [(2, 7)], [(0, v16023)], _, _, _)
          refine ev_bipush ?_
          refine ev_icmplt f69_22 (fun c16024 => ?_) (fun c16024 => ?_)
          · refine ev_iconst ?_
            refine ev_ret rfl (by decide) (by decide) ?_
            show jEv _ _ _ _ _ _ _ (_, [(2, 7), (0, a1), (0, x2), (0, x3)], [(0, 0)], _, _, _)
            refine ev_ifeq f76_63 (fun c16025 => ?_) (fun c16025 => absurd c16025 (by omega))
            refine ev_iload_n rfl ?_
            exact ev_ret rfl (by decide) (by decide) ⟨_, _, rfl, by omega, by omega, g1, k1, (ey0), by omega⟩
          · refine ev_aload_n rfl ?_
            refine ev_in (d := 0) (a := 0) (b := 0) (cd' := c68_0) (m := 1) (L0 := [(2, 7)]) (jcall_v (A := []) (S' := []) (r := 7) rfl (g1.lt ad7) (g1.tg ad7) (Nat.le_of_ble_eq_true rfl)) (by decide) ml68 pp68 (Nat.le_of_ble_eq_true rfl) rfl (by decide) (by decide) ?_
            refine ev_aload_n rfl ?_
            refine g_getv (r := 7) (v := v16017) g1 ad7 (by decide) ft5_2 (ev16017) ?_
            refine ev_aload_n rfl ?_
            refine g_getv (r := 7) (v := v16018) g1 ad7 (by decide) ft5_0 (ev16018) ?_
            refine ev_icmpge f68_27 (fun c16026 => absurd c16026 (by omega)) (fun c16026 => ?_)
            refine ev_aload_n rfl ?_
            refine g_getp (r := 7) (c := 8) g1 ad7 (by decide) (by decide) rf7_5 ft5_5 ?_
            refine ev_aload_n rfl ?_
            refine g_getv (r := 7) (v := v16017) g1 ad7 (by decide) ft5_2 (ev16017) ?_
            refine g_baldv (v := v16022) g1 ad8 (by omega) (by omega) (ev16022) ?_
            refine ev_sipush ?_
            refine g_iandB (b := 255) (by omega) (by omega) (by decide) (fun v16027 ev16027 lv16027 uv16027 => ?_)
            obtain rfl : v16023 = v16027 := by omega
            refine ev_goto f68_28 ?_
            refine ev_ret rfl (by decide) (by decide) ?_
            show jEv _ _ _ _ _ _ _ (_, [(2, 7)], [(0, v16023)], _, _, _)
            refine ev_bipush ?_
            refine ev_icmpgt f69_22 (fun c16028 => ?_) (fun c16028 => ?_)
            · refine ev_iconst ?_
              refine ev_ret rfl (by decide) (by decide) ?_
              show jEv _ _ _ _ _ _ _ (_, [(2, 7), (0, a1), (0, x2), (0, x3)], [(0, 0)], _, _, _)
              refine ev_ifeq f76_63 (fun c16029 => ?_) (fun c16029 => absurd c16029 (by omega))
              refine ev_iload_n rfl ?_
              exact ev_ret rfl (by decide) (by decide) ⟨_, _, rfl, by omega, by omega, g1, k1, (ey0), by omega⟩
            · refine ev_iconst ?_
              refine ev_goto f69_23 ?_
              refine ev_ret rfl (by decide) (by decide) ?_
              show jEv _ _ _ _ _ _ _ (_, [(2, 7), (0, a1), (0, x2), (0, x3)], [(0, 1)], _, _, _)
              refine ev_ifeq f76_63 (fun c16030 => absurd c16030 (by omega)) (fun c16030 => ?_)
              refine ev_bipush ?_
              refine ev_iload_n rfl ?_
              refine g_imulG (fun v16031 ev16031 lv16031 uv16031 => ?_)
              refine ev_aload_n rfl ?_
              refine ev_in (d := 1) (a := 0) (b := 0) (cd' := c68_0) (m := 1) (L0 := [(2, 7)]) (jcall_v (A := []) (S' := [(0, v16031)]) (r := 7) rfl (g1.lt ad7) (g1.tg ad7) (Nat.le_of_ble_eq_true rfl)) (by decide) ml68 pp68 (Nat.le_of_ble_eq_true rfl) rfl (by decide) (by decide) ?_
              refine ev_aload_n rfl ?_
              refine g_getv (r := 7) (v := v16017) g1 ad7 (by decide) ft5_2 (ev16017) ?_
              refine ev_aload_n rfl ?_
              refine g_getv (r := 7) (v := v16018) g1 ad7 (by decide) ft5_0 (ev16018) ?_
              refine ev_icmpge f68_27 (fun c16032 => absurd c16032 (by omega)) (fun c16032 => ?_)
              refine ev_aload_n rfl ?_
              refine g_getp (r := 7) (c := 8) g1 ad7 (by decide) (by decide) rf7_5 ft5_5 ?_
              refine ev_aload_n rfl ?_
              refine g_getv (r := 7) (v := v16017) g1 ad7 (by decide) ft5_2 (ev16017) ?_
              refine g_baldv (v := v16022) g1 ad8 (by omega) (by omega) (ev16022) ?_
              refine ev_sipush ?_
              refine g_iandB (b := 255) (by omega) (by omega) (by decide) (fun v16033 ev16033 lv16033 uv16033 => ?_)
              obtain rfl : v16023 = v16033 := by omega
              refine ev_goto f68_28 ?_
              refine ev_ret rfl (by decide) (by decide) ?_
              show jEv _ _ _ _ _ _ _ (_, [(2, 7), (0, a1), (0, x2), (0, x3)], [(0, v16023), (0, v16031)], _, _, _)
              refine g_iaddG (fun v16034 ev16034 lv16034 uv16034 => ?_)
              refine ev_bipush ?_
              refine g_isubG (fun v16035 ev16035 lv16035 uv16035 => ?_)
              refine ev_istore_n (L' := [(2, 7), (0, a1), (0, v16035), (0, x3)]) (Nat.le_of_ble_eq_true rfl) rfl ?_
              refine ev_aload_n rfl ?_
              refine ev_dup (by decide) ?_
              refine g_getv (r := 7) (v := v16017) g1 ad7 (by decide) ft5_2 (ev16017) ?_
              refine ev_iconst ?_
              refine ev_iadd (r := (v16017 + 1)) (by unfold w32; omega) ?_
              refine g_putf (r := 7) g1 ad7 (by decide) ft5_2 (by decide) (fun e => absurd e nz5_2) rf7_2 (by decide) (by omega) (by omega) (fun h16036 e16036 g16036 => ?_)
              have k16036 := k1.wr e16036 rfl
              refine ev_iinc (w := (x3 + 1)) (L' := [(2, 7), (0, a1), (0, v16035), (0, (x3 + 1))]) rfl (by unfold w32; omega) rfl ?_
              refine ev_goto f76_15 ?_
              exact ih _ _ _ _ g16036 k16036 (by omega) (by omega) (by omega) (by omega) (by omega) (by omega) (by omega) (((jw_ne e16036 (Or.inr (by decide))).trans ey0)) (by omega) (by omega) (by omega)
set_option maxHeartbeats 4000000 in
theorem s76 {G : GH} {h : JH} (g : Gd G h) {a1 : Int} (la1 : 1 ≤ a1) (ua1 : a1 ≤ 3) {w0 : Int} (ew0 : h.2.2 7 1 = w0) (lw0 : (-1) ≤ w0) (uw0 : w0 ≤ 200) : jOk 3 0 0 76 [(2, 7), (0, a1)] h (fun v h' => ∃ r F : Int, v = some (0, r) ∧ (-2147483648) ≤ r ∧ r ≤ 2147483647 ∧ Gd G h' ∧ Kp [(7, 2), (7, 3)] h h' ∧ h'.2.2 7 1 = F ∧ ((-F) + w0) ≤ 0) := by
  refine ⟨by decide, by rw [ml76]; exact Nat.le_of_ble_eq_true rfl, ?_⟩
  rw [ml76, pp76]
  show jEv _ none _ c76_0 0 0 _ (c76_0, [(2, 7), (0, a1), (9, 0), (9, 0)], [], h, 0, 0)
  have k0 := Kp.rf [(7, 2), (7, 3)] h
  refine ev_iconst ?_
  refine ev_istore_n (L' := [(2, 7), (0, a1), (0, 0), (9, 0)]) (Nat.le_of_ble_eq_true rfl) rfl ?_
  refine ev_aload_n rfl ?_
  refine ev_in (d := 1) (a := 0) (b := 0) (cd' := c69_0) (m := 1) (L0 := [(2, 7)]) (jcall_v (A := []) (S' := []) (r := 7) rfl (g.lt ad7) (g.tg ad7) (Nat.le_of_ble_eq_true rfl)) (by decide) ml69 pp69 (Nat.le_of_ble_eq_true rfl) rfl (by decide) (by decide) ?_
  refine ev_aload_n rfl ?_
  refine ev_in (d := 0) (a := 0) (b := 0) (cd' := c68_0) (m := 1) (L0 := [(2, 7)]) (jcall_v (A := []) (S' := []) (r := 7) rfl (g.lt ad7) (g.tg ad7) (Nat.le_of_ble_eq_true rfl)) (by decide) ml68 pp68 (Nat.le_of_ble_eq_true rfl) rfl (by decide) (by decide) ?_
  refine ev_aload_n rfl ?_
  obtain ⟨v16037, ev16037, lv16037, uv16037⟩ := g.rd ad7 (show 2 < 15 by decide) rf7_2
  refine g_getv (r := 7) (v := v16037) g ad7 (by decide) ft5_2 ev16037 ?_
  refine ev_aload_n rfl ?_
  obtain ⟨v16038, ev16038, lv16038, uv16038⟩ := g.rd ad7 (show 0 < 15 by decide) rf7_0
  refine g_getv (r := 7) (v := v16038) g ad7 (by decide) ft5_0 ev16038 ?_
  refine ev_icmpge f68_27 (fun c16039 => ?_) (fun c16039 => ?_)
  · refine ev_iconst ?_
    refine ev_ret rfl (by decide) (by decide) ?_
    show jEv _ _ _ _ _ _ _ (_, [(2, 7)], [(0, (-1))], _, _, _)
    refine ev_bipush ?_
    refine ev_icmplt f69_22 (fun c16040 => ?_) (fun c16040 => absurd c16040 (by omega))
    refine ev_iconst ?_
    refine ev_ret rfl (by decide) (by decide) ?_
    show jEv _ _ _ _ _ _ _ (_, [(2, 7), (0, a1), (0, 0), (9, 0)], [(0, 0)], _, _, _)
    refine ev_ifne f76_13 (fun c16041 => absurd c16041 (by omega)) (fun c16041 => ?_)
    refine ev_aload_n rfl ?_
    refine ev_in (d := 1) (a := 0) (b := 0) (cd' := c70_0) (m := 1) (L0 := [(2, 7)]) (jcall_v (A := []) (S' := []) (r := 7) rfl (g.lt ad7) (g.tg ad7) (Nat.le_of_ble_eq_true rfl)) (by decide) ml70 pp70 (Nat.le_of_ble_eq_true rfl) rfl (by decide) (by decide) ?_
    refine ev_aload_n rfl ?_
    refine g_getv (r := 7) (v := w0) g ad7 (by decide) ft5_1 (ew0) ?_
    refine ev_ifge f70_15 (fun c16042 => ?_) (fun c16042 => ?_)
    · refine ev_ret rfl (by decide) (by decide) ?_
      show jEv _ _ _ _ _ _ _ (_, [(2, 7), (0, a1), (0, 0), (9, 0)], [], _, _, _)
      refine ev_iconst ?_
      refine ev_istore_n (L' := [(2, 7), (0, a1), (0, 0), (0, 0)]) (Nat.le_of_ble_eq_true rfl) rfl ?_
      exact (s76_l la1 ua1 ew0 lw0 uw0 8) _ _ _ _ g k0 (by omega) (by omega) (by omega) (by omega) (by omega) (by omega) (by omega) (ew0) (by omega) (by omega) (by omega)
    · refine ev_aload_n rfl ?_
      refine ev_aload_n rfl ?_
      refine g_getv (r := 7) (v := v16037) g ad7 (by decide) ft5_2 (ev16037) ?_
      refine g_putf (r := 7) g ad7 (by decide) ft5_1 (by decide) (fun e => absurd e nz5_1) rf7_1 (by decide) (by omega) (by omega) (fun h16043 e16043 g16043 => ?_)
      have k16043 := k0.wr e16043 rfl
      refine ev_ret rfl (by decide) (by decide) ?_
      show jEv _ _ _ _ _ _ _ (_, [(2, 7), (0, a1), (0, 0), (9, 0)], [], _, _, _)
      refine ev_iconst ?_
      refine ev_istore_n (L' := [(2, 7), (0, a1), (0, 0), (0, 0)]) (Nat.le_of_ble_eq_true rfl) rfl ?_
      exact (s76_l la1 ua1 ew0 lw0 uw0 8) _ _ _ _ g16043 k16043 (by omega) (by omega) (by omega) (by omega) (by omega) (by omega) (by omega) ((jw_eq e16043)) (by omega) (by omega) (by omega)
  · refine ev_aload_n rfl ?_
    refine g_getp (r := 7) (c := 8) g ad7 (by decide) (by decide) rf7_5 ft5_5 ?_
    refine ev_aload_n rfl ?_
    refine g_getv (r := 7) (v := v16037) g ad7 (by decide) ft5_2 (ev16037) ?_
    refine g_bald g ad8 rt8 (by omega) (by omega) (fun v16044 ev16044 lv16044 uv16044 => ?_)
    refine ev_sipush ?_
    refine g_iandB (b := 255) (by omega) (by omega) (by decide) (fun v16045 ev16045 lv16045 uv16045 => ?_)
    refine ev_goto f68_28 ?_
    refine ev_ret rfl (by decide) (by decide) ?_
    show jEv _ _ _ _ _ _ _ (_, [(2, 7)], [(0, v16045)], _, _, _)
    refine ev_bipush ?_
    refine ev_icmplt f69_22 (fun c16046 => ?_) (fun c16046 => ?_)
    · refine ev_iconst ?_
      refine ev_ret rfl (by decide) (by decide) ?_
      show jEv _ _ _ _ _ _ _ (_, [(2, 7), (0, a1), (0, 0), (9, 0)], [(0, 0)], _, _, _)
      refine ev_ifne f76_13 (fun c16047 => absurd c16047 (by omega)) (fun c16047 => ?_)
      refine ev_aload_n rfl ?_
      refine ev_in (d := 1) (a := 0) (b := 0) (cd' := c70_0) (m := 1) (L0 := [(2, 7)]) (jcall_v (A := []) (S' := []) (r := 7) rfl (g.lt ad7) (g.tg ad7) (Nat.le_of_ble_eq_true rfl)) (by decide) ml70 pp70 (Nat.le_of_ble_eq_true rfl) rfl (by decide) (by decide) ?_
      refine ev_aload_n rfl ?_
      refine g_getv (r := 7) (v := w0) g ad7 (by decide) ft5_1 (ew0) ?_
      refine ev_ifge f70_15 (fun c16048 => ?_) (fun c16048 => ?_)
      · refine ev_ret rfl (by decide) (by decide) ?_
        show jEv _ _ _ _ _ _ _ (_, [(2, 7), (0, a1), (0, 0), (9, 0)], [], _, _, _)
        refine ev_iconst ?_
        refine ev_istore_n (L' := [(2, 7), (0, a1), (0, 0), (0, 0)]) (Nat.le_of_ble_eq_true rfl) rfl ?_
        exact (s76_l la1 ua1 ew0 lw0 uw0 8) _ _ _ _ g k0 (by omega) (by omega) (by omega) (by omega) (by omega) (by omega) (by omega) (ew0) (by omega) (by omega) (by omega)
      · refine ev_aload_n rfl ?_
        refine ev_aload_n rfl ?_
        refine g_getv (r := 7) (v := v16037) g ad7 (by decide) ft5_2 (ev16037) ?_
        refine g_putf (r := 7) g ad7 (by decide) ft5_1 (by decide) (fun e => absurd e nz5_1) rf7_1 (by decide) (by omega) (by omega) (fun h16049 e16049 g16049 => ?_)
        have k16049 := k0.wr e16049 rfl
        refine ev_ret rfl (by decide) (by decide) ?_
        show jEv _ _ _ _ _ _ _ (_, [(2, 7), (0, a1), (0, 0), (9, 0)], [], _, _, _)
        refine ev_iconst ?_
        refine ev_istore_n (L' := [(2, 7), (0, a1), (0, 0), (0, 0)]) (Nat.le_of_ble_eq_true rfl) rfl ?_
        exact (s76_l la1 ua1 ew0 lw0 uw0 8) _ _ _ _ g16049 k16049 (by omega) (by omega) (by omega) (by omega) (by omega) (by omega) (by omega) ((jw_eq e16049)) (by omega) (by omega) (by omega)
    · refine ev_aload_n rfl ?_
      refine ev_in (d := 0) (a := 0) (b := 0) (cd' := c68_0) (m := 1) (L0 := [(2, 7)]) (jcall_v (A := []) (S' := []) (r := 7) rfl (g.lt ad7) (g.tg ad7) (Nat.le_of_ble_eq_true rfl)) (by decide) ml68 pp68 (Nat.le_of_ble_eq_true rfl) rfl (by decide) (by decide) ?_
      refine ev_aload_n rfl ?_
      refine g_getv (r := 7) (v := v16037) g ad7 (by decide) ft5_2 (ev16037) ?_
      refine ev_aload_n rfl ?_
      refine g_getv (r := 7) (v := v16038) g ad7 (by decide) ft5_0 (ev16038) ?_
      refine ev_icmpge f68_27 (fun c16050 => absurd c16050 (by omega)) (fun c16050 => ?_)
      refine ev_aload_n rfl ?_
      refine g_getp (r := 7) (c := 8) g ad7 (by decide) (by decide) rf7_5 ft5_5 ?_
      refine ev_aload_n rfl ?_
      refine g_getv (r := 7) (v := v16037) g ad7 (by decide) ft5_2 (ev16037) ?_
      refine g_baldv (v := v16044) g ad8 (by omega) (by omega) (ev16044) ?_
      refine ev_sipush ?_
      refine g_iandB (b := 255) (by omega) (by omega) (by decide) (fun v16051 ev16051 lv16051 uv16051 => ?_)
      obtain rfl : v16045 = v16051 := by omega
      refine ev_goto f68_28 ?_
      refine ev_ret rfl (by decide) (by decide) ?_
      show jEv _ _ _ _ _ _ _ (_, [(2, 7)], [(0, v16045)], _, _, _)
      refine ev_bipush ?_
      refine ev_icmpgt f69_22 (fun c16052 => ?_) (fun c16052 => ?_)
      · refine ev_iconst ?_
        refine ev_ret rfl (by decide) (by decide) ?_
        show jEv _ _ _ _ _ _ _ (_, [(2, 7), (0, a1), (0, 0), (9, 0)], [(0, 0)], _, _, _)
        refine ev_ifne f76_13 (fun c16053 => absurd c16053 (by omega)) (fun c16053 => ?_)
        refine ev_aload_n rfl ?_
        refine ev_in (d := 1) (a := 0) (b := 0) (cd' := c70_0) (m := 1) (L0 := [(2, 7)]) (jcall_v (A := []) (S' := []) (r := 7) rfl (g.lt ad7) (g.tg ad7) (Nat.le_of_ble_eq_true rfl)) (by decide) ml70 pp70 (Nat.le_of_ble_eq_true rfl) rfl (by decide) (by decide) ?_
        refine ev_aload_n rfl ?_
        refine g_getv (r := 7) (v := w0) g ad7 (by decide) ft5_1 (ew0) ?_
        refine ev_ifge f70_15 (fun c16054 => ?_) (fun c16054 => ?_)
        · refine ev_ret rfl (by decide) (by decide) ?_
          show jEv _ _ _ _ _ _ _ (_, [(2, 7), (0, a1), (0, 0), (9, 0)], [], _, _, _)
          refine ev_iconst ?_
          refine ev_istore_n (L' := [(2, 7), (0, a1), (0, 0), (0, 0)]) (Nat.le_of_ble_eq_true rfl) rfl ?_
          exact (s76_l la1 ua1 ew0 lw0 uw0 8) _ _ _ _ g k0 (by omega) (by omega) (by omega) (by omega) (by omega) (by omega) (by omega) (ew0) (by omega) (by omega) (by omega)
        · refine ev_aload_n rfl ?_
          refine ev_aload_n rfl ?_
          refine g_getv (r := 7) (v := v16037) g ad7 (by decide) ft5_2 (ev16037) ?_
          refine g_putf (r := 7) g ad7 (by decide) ft5_1 (by decide) (fun e => absurd e nz5_1) rf7_1 (by decide) (by omega) (by omega) (fun h16055 e16055 g16055 => ?_)
          have k16055 := k0.wr e16055 rfl
          refine ev_ret rfl (by decide) (by decide) ?_
          show jEv _ _ _ _ _ _ _ (_, [(2, 7), (0, a1), (0, 0), (9, 0)], [], _, _, _)
          refine ev_iconst ?_
          refine ev_istore_n (L' := [(2, 7), (0, a1), (0, 0), (0, 0)]) (Nat.le_of_ble_eq_true rfl) rfl ?_
          exact (s76_l la1 ua1 ew0 lw0 uw0 8) _ _ _ _ g16055 k16055 (by omega) (by omega) (by omega) (by omega) (by omega) (by omega) (by omega) ((jw_eq e16055)) (by omega) (by omega) (by omega)
      · refine ev_iconst ?_
        refine ev_goto f69_23 ?_
        refine ev_ret rfl (by decide) (by decide) ?_
        show jEv _ _ _ _ _ _ _ (_, [(2, 7), (0, a1), (0, 0), (9, 0)], [(0, 1)], _, _, _)
        refine ev_ifne f76_13 (fun c16056 => ?_) (fun c16056 => absurd c16056 (by omega))
        refine ev_iconst ?_
        refine ev_istore_n (L' := [(2, 7), (0, a1), (0, 0), (0, 0)]) (Nat.le_of_ble_eq_true rfl) rfl ?_
        exact (s76_l la1 ua1 ew0 lw0 uw0 8) _ _ _ _ g k0 (by omega) (by omega) (by omega) (by omega) (by omega) (by omega) (by omega) (ew0) (by omega) (by omega) (by omega)
/-! 80 lead -/
set_option maxHeartbeats 4000000 in
theorem s80 {G : GH} {h : JH} (g : Gd G h) {a1 : Int} (la1 : (-1) ≤ a1) (ua1 : a1 ≤ 199) {a2 : Int} (la2 : 0 ≤ a2) (ua2 : a2 ≤ 3) {a3 : Int} (la3 : (-2147483648) ≤ a3) (ua3 : a3 ≤ 2147483647) {a4 : Int} (la4 : (-1) ≤ a4) (ua4 : a4 ≤ 199) : jOk 2 0 0 80 [(2, 7), (0, a1), (0, a2), (0, a3), (0, a4)] h (PV G [(12, 0), (13, 0), (14, 0), (15, 0), (16, 0), (17, 0)] h) := by
  refine ⟨by decide, by rw [ml80]; exact Nat.le_of_ble_eq_true rfl, ?_⟩
  rw [ml80, pp80]
  show jEv _ none _ c80_0 0 0 _ (c80_0, [(2, 7), (0, a1), (0, a2), (0, a3), (0, a4)], [], h, 0, 0)
  have k0 := Kp.rf [(12, 0), (13, 0), (14, 0), (15, 0), (16, 0), (17, 0)] h
  refine ev_aload_n rfl ?_
  obtain ⟨v16117, ev16117, lv16117, uv16117⟩ := g.rd ad7 (show 1 < 15 by decide) rf7_1
  refine g_getv (r := 7) (v := v16117) g ad7 (by decide) ft5_1 ev16117 ?_
  refine ev_ifge f80_21 (fun c16118 => ?_) (fun c16118 => ?_)
  · exact ev_ret rfl (by decide) (by decide) ⟨rfl, g, k0⟩
  · refine ev_iload_n rfl ?_
    refine ev_iflt f80_21 (fun c16119 => ?_) (fun c16119 => ?_)
    · exact ev_ret rfl (by decide) (by decide) ⟨rfl, g, k0⟩
    · refine ev_iload rfl ?_
      refine ev_iflt f80_21 (fun c16120 => ?_) (fun c16120 => ?_)
      · exact ev_ret rfl (by decide) (by decide) ⟨rfl, g, k0⟩
      · refine ev_iload_n rfl ?_
        refine ev_iconst ?_
        refine ev_icmplt f80_22 (fun c16121 => ?_) (fun c16121 => absurd c16121 (by omega))
        refine ev_aload_n rfl ?_
        refine g_getp (r := 7) (c := 13) g ad7 (by decide) (by decide) rf7_10 ft5_10 ?_
        refine ev_iconst ?_
        refine ev_iload_n rfl ?_
        refine ev_imul (r := (4 * a1)) (by unfold w32; omega) ?_
        refine ev_iload_n rfl ?_
        refine ev_iadd (r := (4 * a1 + a2)) (by unfold w32; omega) ?_
        refine ev_iload rfl ?_
        refine g_iast g ad13 rt13 (fun _ => rfl) (by omega) (by omega) (by omega) (by omega) (fun h16122 e16122 g16122 => ?_)
        have k16122 := k0.wr e16122 rfl
        refine ev_aload_n rfl ?_
        refine g_getp (r := 7) (c := 14) g16122 ad7 (by decide) (by decide) rf7_11 ft5_11 ?_
        refine ev_iconst ?_
        refine ev_iload_n rfl ?_
        refine ev_imul (r := (4 * a1)) (by unfold w32; omega) ?_
        refine ev_iload_n rfl ?_
        refine ev_iadd (r := (4 * a1 + a2)) (by unfold w32; omega) ?_
        refine ev_iload_n rfl ?_
        refine g_iast g16122 ad14 rt14 (fun _ => rfl) (by omega) (by omega) (by omega) (by omega) (fun h16123 e16123 g16123 => ?_)
        have k16123 := k16122.wr e16123 rfl
        refine ev_aload_n rfl ?_
        refine g_getp (r := 7) (c := 12) g16123 ad7 (by decide) (by decide) rf7_9 ft5_9 ?_
        refine ev_iload_n rfl ?_
        refine ev_iload_n rfl ?_
        refine ev_iconst ?_
        refine ev_iadd (r := (a2 + 1)) (by unfold w32; omega) ?_
        refine g_iast g16123 ad12 rt12 (fun _ => rfl) (by omega) (by omega) (by omega) (by omega) (fun h16124 e16124 g16124 => ?_)
        have k16124 := k16123.wr e16124 rfl
        refine ev_aload_n rfl ?_
        refine g_getp (r := 7) (c := 15) g16124 ad7 (by decide) (by decide) rf7_12 ft5_12 ?_
        refine ev_iload_n rfl ?_
        refine ev_dup2 (by decide) (by decide) ?_
        refine g_iald g16124 ad15 rt15 (by omega) (by omega) (fun v16125 ev16125 lv16125 uv16125 => ?_)
        refine ev_aload_n rfl ?_
        refine g_getp (r := 7) (c := 15) g16124 ad7 (by decide) (by decide) rf7_12 ft5_12 ?_
        refine ev_iload rfl ?_
        refine g_iald g16124 ad15 rt15 (by omega) (by omega) (fun v16126 ev16126 lv16126 uv16126 => ?_)
        refine g_iorG (fun v16127 ev16127 lv16127 uv16127 => ?_)
        refine g_iast g16124 ad15 rt15 (fun _ => rfl) (by omega) (by omega) (by omega) (by omega) (fun h16128 e16128 g16128 => ?_)
        have k16128 := k16124.wr e16128 rfl
        refine ev_aload_n rfl ?_
        refine g_getp (r := 7) (c := 16) g16128 ad7 (by decide) (by decide) rf7_13 ft5_13 ?_
        refine ev_iload_n rfl ?_
        refine ev_aload_n rfl ?_
        refine g_getp (r := 7) (c := 16) g16128 ad7 (by decide) (by decide) rf7_13 ft5_13 ?_
        refine ev_iload_n rfl ?_
        refine g_iald g16128 ad16 rt16 (by omega) (by omega) (fun v16129 ev16129 lv16129 uv16129 => ?_)
        refine ev_iconst ?_
        refine ev_aload_n rfl ?_
        refine g_getp (r := 7) (c := 16) g16128 ad7 (by decide) (by decide) rf7_13 ft5_13 ?_
        refine ev_iload rfl ?_
        refine g_iald g16128 ad16 rt16 (by omega) (by omega) (fun v16130 ev16130 lv16130 uv16130 => ?_)
        refine g_iaddG (fun v16131 ev16131 lv16131 uv16131 => ?_)
        refine ev_in (d := 0) (a := 0) (b := 0) (cd' := c379_0) (m := 2) (L0 := [(0, v16129), (0, v16131)]) (jcall_s (A := [(0, v16131), (0, v16129)]) (S' := [(0, a1), (2, 16)]) (by decide) rfl (Nat.le_of_ble_eq_true rfl)) (by decide) ml379 pp379 (Nat.le_of_ble_eq_true rfl) rfl (by decide) (by decide) ?_
        refine ev_iload_n rfl ?_
        refine ev_iload_n rfl ?_
        refine ev_icmplt f379_9 (fun c16132 => ?_) (fun c16132 => ?_)
        · refine ev_iload_n rfl ?_
          refine ev_ret rfl (by decide) (by decide) ?_
          show jEv _ _ _ _ _ _ _ (_, [(2, 7), (0, a1), (0, a2), (0, a3), (0, a4)], [(0, v16131), (0, a1), (2, 16)], _, _, _)
          refine g_iast g16128 ad16 rt16 (fun _ => rfl) (by omega) (by omega) (by omega) (by omega) (fun h16133 e16133 g16133 => ?_)
          have k16133 := k16128.wr e16133 rfl
          refine ev_aload_n rfl ?_
          refine g_getp (r := 7) (c := 17) g16133 ad7 (by decide) (by decide) rf7_14 ft5_14 ?_
          refine ev_iload_n rfl ?_
          refine ev_sipush ?_
          refine ev_aload_n rfl ?_
          refine g_getp (r := 7) (c := 17) g16133 ad7 (by decide) (by decide) rf7_14 ft5_14 ?_
          refine ev_iload_n rfl ?_
          refine g_iald g16133 ad17 rt17 (by omega) (by omega) (fun v16134 ev16134 lv16134 uv16134 => ?_)
          refine ev_aload_n rfl ?_
          refine g_getp (r := 7) (c := 17) g16133 ad7 (by decide) (by decide) rf7_14 ft5_14 ?_
          refine ev_iload rfl ?_
          refine g_iald g16133 ad17 rt17 (by omega) (by omega) (fun v16135 ev16135 lv16135 uv16135 => ?_)
          refine g_iaddG (fun v16136 ev16136 lv16136 uv16136 => ?_)
          refine ev_in (d := 0) (a := 0) (b := 0) (cd' := c381_0) (m := 2) (L0 := [(0, 1000), (0, v16136)]) (jcall_s (A := [(0, v16136), (0, 1000)]) (S' := [(0, a1), (2, 17)]) (by decide) rfl (Nat.le_of_ble_eq_true rfl)) (by decide) ml381 pp381 (Nat.le_of_ble_eq_true rfl) rfl (by decide) (by decide) ?_
          refine ev_iload_n rfl ?_
          refine ev_iload_n rfl ?_
          refine ev_icmpgt f381_9 (fun c16137 => ?_) (fun c16137 => ?_)
          · refine ev_iload_n rfl ?_
            refine ev_ret rfl (by decide) (by decide) ?_
            show jEv _ _ _ _ _ _ _ (_, [(2, 7), (0, a1), (0, a2), (0, a3), (0, a4)], [(0, v16136), (0, a1), (2, 17)], _, _, _)
            refine g_iast g16133 ad17 rt17 (fun _ => rfl) (by omega) (by omega) (by omega) (by omega) (fun h16138 e16138 g16138 => ?_)
            have k16138 := k16133.wr e16138 rfl
            exact ev_ret rfl (by decide) (by decide) ⟨rfl, g16138, k16138⟩
          · refine ev_iload_n rfl ?_
            refine ev_goto f381_10 ?_
            refine ev_ret rfl (by decide) (by decide) ?_
            show jEv _ _ _ _ _ _ _ (_, [(2, 7), (0, a1), (0, a2), (0, a3), (0, a4)], [(0, 1000), (0, a1), (2, 17)], _, _, _)
            refine g_iast g16133 ad17 rt17 (fun _ => rfl) (by omega) (by omega) (by omega) (by omega) (fun h16139 e16139 g16139 => ?_)
            have k16139 := k16133.wr e16139 rfl
            exact ev_ret rfl (by decide) (by decide) ⟨rfl, g16139, k16139⟩
        · refine ev_iload_n rfl ?_
          refine ev_goto f379_10 ?_
          refine ev_ret rfl (by decide) (by decide) ?_
          show jEv _ _ _ _ _ _ _ (_, [(2, 7), (0, a1), (0, a2), (0, a3), (0, a4)], [(0, v16129), (0, a1), (2, 16)], _, _, _)
          refine g_iast g16128 ad16 rt16 (fun _ => rfl) (by omega) (by omega) (by omega) (by omega) (fun h16140 e16140 g16140 => ?_)
          have k16140 := k16128.wr e16140 rfl
          refine ev_aload_n rfl ?_
          refine g_getp (r := 7) (c := 17) g16140 ad7 (by decide) (by decide) rf7_14 ft5_14 ?_
          refine ev_iload_n rfl ?_
          refine ev_sipush ?_
          refine ev_aload_n rfl ?_
          refine g_getp (r := 7) (c := 17) g16140 ad7 (by decide) (by decide) rf7_14 ft5_14 ?_
          refine ev_iload_n rfl ?_
          refine g_iald g16140 ad17 rt17 (by omega) (by omega) (fun v16141 ev16141 lv16141 uv16141 => ?_)
          refine ev_aload_n rfl ?_
          refine g_getp (r := 7) (c := 17) g16140 ad7 (by decide) (by decide) rf7_14 ft5_14 ?_
          refine ev_iload rfl ?_
          refine g_iald g16140 ad17 rt17 (by omega) (by omega) (fun v16142 ev16142 lv16142 uv16142 => ?_)
          refine g_iaddG (fun v16143 ev16143 lv16143 uv16143 => ?_)
          refine ev_in (d := 0) (a := 0) (b := 0) (cd' := c381_0) (m := 2) (L0 := [(0, 1000), (0, v16143)]) (jcall_s (A := [(0, v16143), (0, 1000)]) (S' := [(0, a1), (2, 17)]) (by decide) rfl (Nat.le_of_ble_eq_true rfl)) (by decide) ml381 pp381 (Nat.le_of_ble_eq_true rfl) rfl (by decide) (by decide) ?_
          refine ev_iload_n rfl ?_
          refine ev_iload_n rfl ?_
          refine ev_icmpgt f381_9 (fun c16144 => ?_) (fun c16144 => ?_)
          · refine ev_iload_n rfl ?_
            refine ev_ret rfl (by decide) (by decide) ?_
            show jEv _ _ _ _ _ _ _ (_, [(2, 7), (0, a1), (0, a2), (0, a3), (0, a4)], [(0, v16143), (0, a1), (2, 17)], _, _, _)
            refine g_iast g16140 ad17 rt17 (fun _ => rfl) (by omega) (by omega) (by omega) (by omega) (fun h16145 e16145 g16145 => ?_)
            have k16145 := k16140.wr e16145 rfl
            exact ev_ret rfl (by decide) (by decide) ⟨rfl, g16145, k16145⟩
          · refine ev_iload_n rfl ?_
            refine ev_goto f381_10 ?_
            refine ev_ret rfl (by decide) (by decide) ?_
            show jEv _ _ _ _ _ _ _ (_, [(2, 7), (0, a1), (0, a2), (0, a3), (0, a4)], [(0, 1000), (0, a1), (2, 17)], _, _, _)
            refine g_iast g16140 ad17 rt17 (fun _ => rfl) (by omega) (by omega) (by omega) (by omega) (fun h16146 e16146 g16146 => ?_)
            have k16146 := k16140.wr e16146 rfl
            exact ev_ret rfl (by decide) (by decide) ⟨rfl, g16146, k16146⟩
/-! 75 readEnd -/
set_option maxHeartbeats 4000000 in
theorem s75 {G : GH} {h : JH} (g : Gd G h) {w0 : Int} (ew0 : h.2.2 7 1 = w0) (lw0 : (-1) ≤ w0) (uw0 : w0 ≤ 200) : jOk 4 0 0 75 [(2, 7)] h (fun v h' => ∃ r F : Int, v = some (0, r) ∧ (-1) ≤ r ∧ r ≤ 199 ∧ Gd G h' ∧ Kp [(7, 2), (7, 3), (7, 4), (10, 0), (11, 0), (12, 0), (13, 0), (14, 0), (15, 0), (16, 0), (17, 0)] h h' ∧ h'.2.2 7 1 = F ∧ ((-F) + w0) ≤ 0 ∧ ((-F) + (-r)) ≤ 1) := by
  refine ⟨by decide, by rw [ml75]; exact Nat.le_of_ble_eq_true rfl, ?_⟩
  rw [ml75, pp75]
  show jEv _ none _ c75_0 0 0 _ (c75_0, [(2, 7), (9, 0), (9, 0), (9, 0)], [], h, 0, 0)
  have k0 := Kp.rf [(7, 2), (7, 3), (7, 4), (10, 0), (11, 0), (12, 0), (13, 0), (14, 0), (15, 0), (16, 0), (17, 0)] h
  refine ev_aload_n rfl ?_
  refine ev_in (d := 2) (a := 0) (b := 0) (cd' := c68_0) (m := 1) (L0 := [(2, 7)]) (jcall_v (A := []) (S' := []) (r := 7) rfl (g.lt ad7) (g.tg ad7) (Nat.le_of_ble_eq_true rfl)) (by decide) ml68 pp68 (Nat.le_of_ble_eq_true rfl) rfl (by decide) (by decide) ?_
  refine ev_aload_n rfl ?_
  obtain ⟨v16231, ev16231, lv16231, uv16231⟩ := g.rd ad7 (show 2 < 15 by decide) rf7_2
  refine g_getv (r := 7) (v := v16231) g ad7 (by decide) ft5_2 ev16231 ?_
  refine ev_aload_n rfl ?_
  obtain ⟨v16232, ev16232, lv16232, uv16232⟩ := g.rd ad7 (show 0 < 15 by decide) rf7_0
  refine g_getv (r := 7) (v := v16232) g ad7 (by decide) ft5_0 ev16232 ?_
  refine ev_icmpge f68_27 (fun c16233 => ?_) (fun c16233 => ?_)
  · refine ev_iconst ?_
    refine ev_ret rfl (by decide) (by decide) ?_
    show jEv _ _ _ _ _ _ _ (_, [(2, 7), (9, 0), (9, 0), (9, 0)], [(0, (-1))], _, _, _)
    refine ev_bipush ?_
    refine ev_icmpne f75_13 (fun c16234 => ?_) (fun c16234 => absurd c16234 (by omega))
    refine ev_iconst ?_
    refine ev_istore_n (L' := [(2, 7), (0, 0), (9, 0), (9, 0)]) (Nat.le_of_ble_eq_true rfl) rfl ?_
    refine ev_iload_n rfl ?_
    refine ev_ifeq f75_29 (fun c16235 => ?_) (fun c16235 => absurd c16235 (by omega))
    refine ev_aload_n rfl ?_
    refine ev_iconst ?_
    refine ev_call (jcall_v (A := [(0, 3)]) (S' := []) (r := 7) rfl (g.lt ad7) (g.tg ad7) (Nat.le_of_ble_eq_true rfl)) (jOk_le (by decide) (s76 g (by omega) (by omega) (ew0) (by omega) (by omega))) (by decide) (by decide) (fun w16236 h16236 q16236 => ?_)
    obtain ⟨v16238, v16237, rfl, lv16238, uv16238, g16236, kk16236, ev16237, p16236_0⟩ := q16236
    have bv16237 := g16236.rg ad7 (i := 1) (by decide) rf7_1
    rw [ev16237] at bv16237
    have k16236 := k0.tr kk16236 (by decide)
    show jEv _ _ _ _ _ _ _ (_, [(2, 7), (0, 0), (9, 0), (9, 0)], [(0, v16238)], _, _, _)
    refine ev_istore_n (L' := [(2, 7), (0, 0), (0, v16238), (9, 0)]) (Nat.le_of_ble_eq_true rfl) rfl ?_
    refine ev_aload_n rfl ?_
    refine ev_iconst ?_
    refine ev_call (jcall_v (A := [(0, 0)]) (S' := []) (r := 7) rfl (g16236.lt ad7) (g16236.tg ad7) (Nat.le_of_ble_eq_true rfl)) (jOk_le (by decide) (s73 g16236 (by omega) (by omega) (ev16237) (by omega) (by omega))) (by decide) (by decide) (fun w16239 h16239 q16239 => ?_)
    obtain ⟨v16241, v16240, rfl, lv16241, uv16241, g16239, kk16239, ev16240, p16239_0, p16239_1⟩ := q16239
    have bv16240 := g16239.rg ad7 (i := 1) (by decide) rf7_1
    rw [ev16240] at bv16240
    have k16239 := k16236.tr kk16239 (by decide)
    show jEv _ _ _ _ _ _ _ (_, [(2, 7), (0, 0), (0, v16238), (9, 0)], [(0, v16241)], _, _, _)
    refine ev_istore_n (L' := [(2, 7), (0, 0), (0, v16238), (0, v16241)]) (Nat.le_of_ble_eq_true rfl) rfl ?_
    refine ev_aload_n rfl ?_
    refine g_getv (r := 7) (v := v16240) g16239 ad7 (by decide) ft5_1 (ev16240) ?_
    refine ev_ifge f75_52 (fun c16242 => ?_) (fun c16242 => ?_)
    · refine ev_iconst ?_
      exact ev_ret rfl (by decide) (by decide) ⟨_, _, rfl, by omega, by omega, g16239, k16239, (ev16240), by omega, by omega⟩
    · refine ev_iload_n rfl ?_
      refine ev_ifge f75_54 (fun c16243 => ?_) (fun c16243 => absurd c16243 (by omega))
      refine ev_aload_n rfl ?_
      refine g_getp (r := 7) (c := 11) g16239 ad7 (by decide) (by decide) rf7_8 ft5_8 ?_
      refine ev_iload_n rfl ?_
      refine ev_iload_n rfl ?_
      refine ev_ifeq f75_68 (fun c16244 => ?_) (fun c16244 => absurd c16244 (by omega))
      refine ev_iload_n rfl ?_
      refine g_iast g16239 ad11 rt11 (fun _ => rfl) (by omega) (by omega) (by omega) (by omega) (fun h16245 e16245 g16245 => ?_)
      have k16245 := k16239.wr e16245 rfl
      refine ev_iload_n rfl ?_
      exact ev_ret rfl (by decide) (by decide) ⟨_, _, rfl, by omega, by omega, g16245, k16245, (((jw_ne e16245 (Or.inl (by decide))).trans ev16240)), by omega, by omega⟩
  · refine ev_aload_n rfl ?_
    refine g_getp (r := 7) (c := 8) g ad7 (by decide) (by decide) rf7_5 ft5_5 ?_
    refine ev_aload_n rfl ?_
    refine g_getv (r := 7) (v := v16231) g ad7 (by decide) ft5_2 (ev16231) ?_
    refine g_bald g ad8 rt8 (by omega) (by omega) (fun v16246 ev16246 lv16246 uv16246 => ?_)
    refine ev_sipush ?_
    refine g_iandB (b := 255) (by omega) (by omega) (by decide) (fun v16247 ev16247 lv16247 uv16247 => ?_)
    refine ev_goto f68_28 ?_
    refine ev_ret rfl (by decide) (by decide) ?_
    show jEv _ _ _ _ _ _ _ (_, [(2, 7), (9, 0), (9, 0), (9, 0)], [(0, v16247)], _, _, _)
    refine ev_bipush ?_
    refine ev_icmpne f75_13 (fun c16248 => ?_) (fun c16248 => ?_)
    · refine ev_iconst ?_
      refine ev_istore_n (L' := [(2, 7), (0, 0), (9, 0), (9, 0)]) (Nat.le_of_ble_eq_true rfl) rfl ?_
      refine ev_iload_n rfl ?_
      refine ev_ifeq f75_29 (fun c16249 => ?_) (fun c16249 => absurd c16249 (by omega))
      refine ev_aload_n rfl ?_
      refine ev_iconst ?_
      refine ev_call (jcall_v (A := [(0, 3)]) (S' := []) (r := 7) rfl (g.lt ad7) (g.tg ad7) (Nat.le_of_ble_eq_true rfl)) (jOk_le (by decide) (s76 g (by omega) (by omega) (ew0) (by omega) (by omega))) (by decide) (by decide) (fun w16250 h16250 q16250 => ?_)
      obtain ⟨v16252, v16251, rfl, lv16252, uv16252, g16250, kk16250, ev16251, p16250_0⟩ := q16250
      have bv16251 := g16250.rg ad7 (i := 1) (by decide) rf7_1
      rw [ev16251] at bv16251
      have k16250 := k0.tr kk16250 (by decide)
      show jEv _ _ _ _ _ _ _ (_, [(2, 7), (0, 0), (9, 0), (9, 0)], [(0, v16252)], _, _, _)
      refine ev_istore_n (L' := [(2, 7), (0, 0), (0, v16252), (9, 0)]) (Nat.le_of_ble_eq_true rfl) rfl ?_
      refine ev_aload_n rfl ?_
      refine ev_iconst ?_
      refine ev_call (jcall_v (A := [(0, 0)]) (S' := []) (r := 7) rfl (g16250.lt ad7) (g16250.tg ad7) (Nat.le_of_ble_eq_true rfl)) (jOk_le (by decide) (s73 g16250 (by omega) (by omega) (ev16251) (by omega) (by omega))) (by decide) (by decide) (fun w16253 h16253 q16253 => ?_)
      obtain ⟨v16255, v16254, rfl, lv16255, uv16255, g16253, kk16253, ev16254, p16253_0, p16253_1⟩ := q16253
      have bv16254 := g16253.rg ad7 (i := 1) (by decide) rf7_1
      rw [ev16254] at bv16254
      have k16253 := k16250.tr kk16253 (by decide)
      show jEv _ _ _ _ _ _ _ (_, [(2, 7), (0, 0), (0, v16252), (9, 0)], [(0, v16255)], _, _, _)
      refine ev_istore_n (L' := [(2, 7), (0, 0), (0, v16252), (0, v16255)]) (Nat.le_of_ble_eq_true rfl) rfl ?_
      refine ev_aload_n rfl ?_
      refine g_getv (r := 7) (v := v16254) g16253 ad7 (by decide) ft5_1 (ev16254) ?_
      refine ev_ifge f75_52 (fun c16256 => ?_) (fun c16256 => ?_)
      · refine ev_iconst ?_
        exact ev_ret rfl (by decide) (by decide) ⟨_, _, rfl, by omega, by omega, g16253, k16253, (ev16254), by omega, by omega⟩
      · refine ev_iload_n rfl ?_
        refine ev_ifge f75_54 (fun c16257 => ?_) (fun c16257 => absurd c16257 (by omega))
        refine ev_aload_n rfl ?_
        refine g_getp (r := 7) (c := 11) g16253 ad7 (by decide) (by decide) rf7_8 ft5_8 ?_
        refine ev_iload_n rfl ?_
        refine ev_iload_n rfl ?_
        refine ev_ifeq f75_68 (fun c16258 => ?_) (fun c16258 => absurd c16258 (by omega))
        refine ev_iload_n rfl ?_
        refine g_iast g16253 ad11 rt11 (fun _ => rfl) (by omega) (by omega) (by omega) (by omega) (fun h16259 e16259 g16259 => ?_)
        have k16259 := k16253.wr e16259 rfl
        refine ev_iload_n rfl ?_
        exact ev_ret rfl (by decide) (by decide) ⟨_, _, rfl, by omega, by omega, g16259, k16259, (((jw_ne e16259 (Or.inl (by decide))).trans ev16254)), by omega, by omega⟩
    · refine ev_iconst ?_
      refine ev_goto f75_14 ?_
      refine ev_istore_n (L' := [(2, 7), (0, 1), (9, 0), (9, 0)]) (Nat.le_of_ble_eq_true rfl) rfl ?_
      refine ev_iload_n rfl ?_
      refine ev_ifeq f75_29 (fun c16260 => absurd c16260 (by omega)) (fun c16260 => ?_)
      refine ev_aload_n rfl ?_
      refine ev_dup (by decide) ?_
      refine g_getv (r := 7) (v := v16231) g ad7 (by decide) ft5_2 (ev16231) ?_
      refine ev_iconst ?_
      refine ev_iadd (r := (v16231 + 1)) (by unfold w32; omega) ?_
      refine g_putf (r := 7) g ad7 (by decide) ft5_2 (by decide) (fun e => absurd e nz5_2) rf7_2 (by decide) (by omega) (by omega) (fun h16261 e16261 g16261 => ?_)
      have k16261 := k0.wr e16261 rfl
      refine ev_aload_n rfl ?_
      refine ev_iconst ?_
      refine ev_call (jcall_v (A := [(0, 3)]) (S' := []) (r := 7) rfl (g16261.lt ad7) (g16261.tg ad7) (Nat.le_of_ble_eq_true rfl)) (jOk_le (by decide) (s76 g16261 (by omega) (by omega) (((jw_ne e16261 (Or.inr (by decide))).trans ew0)) (by omega) (by omega))) (by decide) (by decide) (fun w16262 h16262 q16262 => ?_)
      obtain ⟨v16264, v16263, rfl, lv16264, uv16264, g16262, kk16262, ev16263, p16262_0⟩ := q16262
      have bv16263 := g16262.rg ad7 (i := 1) (by decide) rf7_1
      rw [ev16263] at bv16263
      have k16262 := k16261.tr kk16262 (by decide)
      show jEv _ _ _ _ _ _ _ (_, [(2, 7), (0, 1), (9, 0), (9, 0)], [(0, v16264)], _, _, _)
      refine ev_istore_n (L' := [(2, 7), (0, 1), (0, v16264), (9, 0)]) (Nat.le_of_ble_eq_true rfl) rfl ?_
      refine ev_aload_n rfl ?_
      refine ev_iconst ?_
      refine ev_call (jcall_v (A := [(0, 0)]) (S' := []) (r := 7) rfl (g16262.lt ad7) (g16262.tg ad7) (Nat.le_of_ble_eq_true rfl)) (jOk_le (by decide) (s73 g16262 (by omega) (by omega) (ev16263) (by omega) (by omega))) (by decide) (by decide) (fun w16265 h16265 q16265 => ?_)
      obtain ⟨v16267, v16266, rfl, lv16267, uv16267, g16265, kk16265, ev16266, p16265_0, p16265_1⟩ := q16265
      have bv16266 := g16265.rg ad7 (i := 1) (by decide) rf7_1
      rw [ev16266] at bv16266
      have k16265 := k16262.tr kk16265 (by decide)
      show jEv _ _ _ _ _ _ _ (_, [(2, 7), (0, 1), (0, v16264), (9, 0)], [(0, v16267)], _, _, _)
      refine ev_istore_n (L' := [(2, 7), (0, 1), (0, v16264), (0, v16267)]) (Nat.le_of_ble_eq_true rfl) rfl ?_
      refine ev_aload_n rfl ?_
      refine g_getv (r := 7) (v := v16266) g16265 ad7 (by decide) ft5_1 (ev16266) ?_
      refine ev_ifge f75_52 (fun c16268 => ?_) (fun c16268 => ?_)
      · refine ev_iconst ?_
        exact ev_ret rfl (by decide) (by decide) ⟨_, _, rfl, by omega, by omega, g16265, k16265, (ev16266), by omega, by omega⟩
      · refine ev_iload_n rfl ?_
        refine ev_ifge f75_54 (fun c16269 => ?_) (fun c16269 => absurd c16269 (by omega))
        refine ev_aload_n rfl ?_
        refine g_getp (r := 7) (c := 11) g16265 ad7 (by decide) (by decide) rf7_8 ft5_8 ?_
        refine ev_iload_n rfl ?_
        refine ev_iload_n rfl ?_
        refine ev_ifeq f75_68 (fun c16270 => absurd c16270 (by omega)) (fun c16270 => ?_)
        refine ev_iload_n rfl ?_
        refine g_inegG (fun v16271 ev16271 lv16271 uv16271 => ?_)
        refine ev_goto f75_69 ?_
        refine g_iast g16265 ad11 rt11 (fun _ => rfl) (by omega) (by omega) (by omega) (by omega) (fun h16272 e16272 g16272 => ?_)
        have k16272 := k16265.wr e16272 rfl
        refine ev_iload_n rfl ?_
        exact ev_ret rfl (by decide) (by decide) ⟨_, _, rfl, by omega, by omega, g16272, k16272, (((jw_ne e16272 (Or.inl (by decide))).trans ev16266)), by omega, by omega⟩
/-! 77 readCapital -/
set_option maxHeartbeats 4000000 in
theorem s77 {G : GH} {h : JH} (g : Gd G h) {a1 : Int} (la1 : 0 ≤ a1) (ua1 : a1 ≤ 13) {a2 : Int} (la2 : (-2147483648) ≤ a2) (ua2 : a2 ≤ 2147483647) {w0 : Int} (ew0 : h.2.2 7 1 = w0) (lw0 : (-1) ≤ w0) (uw0 : w0 ≤ 200) : jOk 2 0 0 77 [(2, 7), (0, a1), (0, a2)] h (fun v h' => ∃ r F : Int, v = some (0, r) ∧ (-1) ≤ r ∧ r ≤ 199 ∧ Gd G h' ∧ Kp [(7, 2), (7, 3), (7, 4), (10, 0), (11, 0), (12, 0), (13, 0), (14, 0), (15, 0), (16, 0), (17, 0)] h h' ∧ h'.2.2 7 1 = F ∧ ((-F) + w0) ≤ 0 ∧ ((-F) + (-r)) ≤ 1) := by
  refine ⟨by decide, by rw [ml77]; exact Nat.le_of_ble_eq_true rfl, ?_⟩
  rw [ml77, pp77]
  show jEv _ none _ c77_0 0 0 _ (c77_0, [(2, 7), (0, a1), (0, a2), (9, 0), (9, 0)], [], h, 0, 0)
  have k0 := Kp.rf [(7, 2), (7, 3), (7, 4), (10, 0), (11, 0), (12, 0), (13, 0), (14, 0), (15, 0), (16, 0), (17, 0)] h
  refine ev_aload_n rfl ?_
  refine ev_in (d := 0) (a := 0) (b := 0) (cd' := c68_0) (m := 1) (L0 := [(2, 7)]) (jcall_v (A := []) (S' := []) (r := 7) rfl (g.lt ad7) (g.tg ad7) (Nat.le_of_ble_eq_true rfl)) (by decide) ml68 pp68 (Nat.le_of_ble_eq_true rfl) rfl (by decide) (by decide) ?_
  refine ev_aload_n rfl ?_
  obtain ⟨v16327, ev16327, lv16327, uv16327⟩ := g.rd ad7 (show 2 < 15 by decide) rf7_2
  refine g_getv (r := 7) (v := v16327) g ad7 (by decide) ft5_2 ev16327 ?_
  refine ev_aload_n rfl ?_
  obtain ⟨v16328, ev16328, lv16328, uv16328⟩ := g.rd ad7 (show 0 < 15 by decide) rf7_0
  refine g_getv (r := 7) (v := v16328) g ad7 (by decide) ft5_0 ev16328 ?_
  refine ev_icmpge f68_27 (fun c16329 => ?_) (fun c16329 => ?_)
  · refine ev_iconst ?_
    refine ev_ret rfl (by decide) (by decide) ?_
    show jEv _ _ _ _ _ _ _ (_, [(2, 7), (0, a1), (0, a2), (9, 0), (9, 0)], [(0, (-1))], _, _, _)
    refine ev_bipush ?_
    refine ev_isub (r := (-66)) (by decide) ?_
    refine ev_istore_n (L' := [(2, 7), (0, a1), (0, a2), (0, (-66)), (9, 0)]) (Nat.le_of_ble_eq_true rfl) rfl ?_
    refine ev_iload_n rfl ?_
    refine ev_iflt f77_20 (fun c16330 => ?_) (fun c16330 => absurd c16330 (by omega))
    refine ev_aload_n rfl ?_
    refine ev_in (d := 0) (a := 0) (b := 0) (cd' := c70_0) (m := 1) (L0 := [(2, 7)]) (jcall_v (A := []) (S' := []) (r := 7) rfl (g.lt ad7) (g.tg ad7) (Nat.le_of_ble_eq_true rfl)) (by decide) ml70 pp70 (Nat.le_of_ble_eq_true rfl) rfl (by decide) (by decide) ?_
    refine ev_aload_n rfl ?_
    refine g_getv (r := 7) (v := w0) g ad7 (by decide) ft5_1 (ew0) ?_
    refine ev_ifge f70_15 (fun c16331 => ?_) (fun c16331 => ?_)
    · refine ev_ret rfl (by decide) (by decide) ?_
      show jEv _ _ _ _ _ _ _ (_, [(2, 7), (0, a1), (0, a2), (0, (-66)), (9, 0)], [], _, _, _)
      refine ev_iconst ?_
      exact ev_ret rfl (by decide) (by decide) ⟨_, _, rfl, by omega, by omega, g, k0, (ew0), by omega, by omega⟩
    · refine ev_aload_n rfl ?_
      refine ev_aload_n rfl ?_
      refine g_getv (r := 7) (v := v16327) g ad7 (by decide) ft5_2 (ev16327) ?_
      refine g_putf (r := 7) g ad7 (by decide) ft5_1 (by decide) (fun e => absurd e nz5_1) rf7_1 (by decide) (by omega) (by omega) (fun h16332 e16332 g16332 => ?_)
      have k16332 := k0.wr e16332 rfl
      refine ev_ret rfl (by decide) (by decide) ?_
      show jEv _ _ _ _ _ _ _ (_, [(2, 7), (0, a1), (0, a2), (0, (-66)), (9, 0)], [], _, _, _)
      refine ev_iconst ?_
      exact ev_ret rfl (by decide) (by decide) ⟨_, _, rfl, by omega, by omega, g16332, k16332, ((jw_eq e16332)), by omega, by omega⟩
  · refine ev_aload_n rfl ?_
    refine g_getp (r := 7) (c := 8) g ad7 (by decide) (by decide) rf7_5 ft5_5 ?_
    refine ev_aload_n rfl ?_
    refine g_getv (r := 7) (v := v16327) g ad7 (by decide) ft5_2 (ev16327) ?_
    refine g_bald g ad8 rt8 (by omega) (by omega) (fun v16333 ev16333 lv16333 uv16333 => ?_)
    refine ev_sipush ?_
    refine g_iandB (b := 255) (by omega) (by omega) (by decide) (fun v16334 ev16334 lv16334 uv16334 => ?_)
    refine ev_goto f68_28 ?_
    refine ev_ret rfl (by decide) (by decide) ?_
    show jEv _ _ _ _ _ _ _ (_, [(2, 7), (0, a1), (0, a2), (9, 0), (9, 0)], [(0, v16334)], _, _, _)
    refine ev_bipush ?_
    refine ev_isub (r := (v16334 - 65)) (by unfold w32; omega) ?_
    refine ev_istore_n (L' := [(2, 7), (0, a1), (0, a2), (0, (v16334 - 65)), (9, 0)]) (Nat.le_of_ble_eq_true rfl) rfl ?_
    refine ev_iload_n rfl ?_
    refine ev_iflt f77_20 (fun c16335 => ?_) (fun c16335 => ?_)
    · refine ev_aload_n rfl ?_
      refine ev_in (d := 0) (a := 0) (b := 0) (cd' := c70_0) (m := 1) (L0 := [(2, 7)]) (jcall_v (A := []) (S' := []) (r := 7) rfl (g.lt ad7) (g.tg ad7) (Nat.le_of_ble_eq_true rfl)) (by decide) ml70 pp70 (Nat.le_of_ble_eq_true rfl) rfl (by decide) (by decide) ?_
      refine ev_aload_n rfl ?_
      refine g_getv (r := 7) (v := w0) g ad7 (by decide) ft5_1 (ew0) ?_
      refine ev_ifge f70_15 (fun c16336 => ?_) (fun c16336 => ?_)
      · refine ev_ret rfl (by decide) (by decide) ?_
        show jEv _ _ _ _ _ _ _ (_, [(2, 7), (0, a1), (0, a2), (0, (v16334 - 65)), (9, 0)], [], _, _, _)
        refine ev_iconst ?_
        exact ev_ret rfl (by decide) (by decide) ⟨_, _, rfl, by omega, by omega, g, k0, (ew0), by omega, by omega⟩
      · refine ev_aload_n rfl ?_
        refine ev_aload_n rfl ?_
        refine g_getv (r := 7) (v := v16327) g ad7 (by decide) ft5_2 (ev16327) ?_
        refine g_putf (r := 7) g ad7 (by decide) ft5_1 (by decide) (fun e => absurd e nz5_1) rf7_1 (by decide) (by omega) (by omega) (fun h16337 e16337 g16337 => ?_)
        have k16337 := k0.wr e16337 rfl
        refine ev_ret rfl (by decide) (by decide) ?_
        show jEv _ _ _ _ _ _ _ (_, [(2, 7), (0, a1), (0, a2), (0, (v16334 - 65)), (9, 0)], [], _, _, _)
        refine ev_iconst ?_
        exact ev_ret rfl (by decide) (by decide) ⟨_, _, rfl, by omega, by omega, g16337, k16337, ((jw_eq e16337)), by omega, by omega⟩
    · refine ev_iload_n rfl ?_
      refine ev_aload_n rfl ?_
      obtain ⟨v16338, ev16338, lv16338, uv16338⟩ := g.rd ad7 (show 4 < 15 by decide) rf7_4
      refine g_getv (r := 7) (v := v16338) g ad7 (by decide) ft5_4 ev16338 ?_
      refine ev_icmplt f77_26 (fun c16339 => ?_) (fun c16339 => ?_)
      · refine ev_aload_n rfl ?_
        refine g_getp (r := 7) (c := 9) g ad7 (by decide) (by decide) rf7_6 ft5_6 ?_
        refine ev_iload_n rfl ?_
        refine g_iald g ad9 rt9 (by omega) (by omega) (fun v16340 ev16340 lv16340 uv16340 => ?_)
        refine ev_istore (L' := [(2, 7), (0, a1), (0, a2), (0, (v16334 - 65)), (0, v16340)]) (Nat.le_of_ble_eq_true rfl) rfl ?_
        refine ev_aload_n rfl ?_
        refine g_getp (r := 7) (c := 15) g ad7 (by decide) (by decide) rf7_12 ft5_12 ?_
        refine ev_iload rfl ?_
        refine g_iald g ad15 rt15 (by omega) (by omega) (fun v16341 ev16341 lv16341 uv16341 => ?_)
        refine ev_iload_n rfl ?_
        refine g_iandG (fun v16342 ev16342 lv16342 uv16342 => ?_)
        refine ev_ifne f77_60 (fun c16343 => ?_) (fun c16343 => ?_)
        · refine ev_aload_n rfl ?_
          refine ev_in (d := 0) (a := 0) (b := 0) (cd' := c70_0) (m := 1) (L0 := [(2, 7)]) (jcall_v (A := []) (S' := []) (r := 7) rfl (g.lt ad7) (g.tg ad7) (Nat.le_of_ble_eq_true rfl)) (by decide) ml70 pp70 (Nat.le_of_ble_eq_true rfl) rfl (by decide) (by decide) ?_
          refine ev_aload_n rfl ?_
          refine g_getv (r := 7) (v := w0) g ad7 (by decide) ft5_1 (ew0) ?_
          refine ev_ifge f70_15 (fun c16344 => ?_) (fun c16344 => ?_)
          · refine ev_ret rfl (by decide) (by decide) ?_
            show jEv _ _ _ _ _ _ _ (_, [(2, 7), (0, a1), (0, a2), (0, (v16334 - 65)), (0, v16340)], [], _, _, _)
            refine ev_iconst ?_
            exact ev_ret rfl (by decide) (by decide) ⟨_, _, rfl, by omega, by omega, g, k0, (ew0), by omega, by omega⟩
          · refine ev_aload_n rfl ?_
            refine ev_aload_n rfl ?_
            refine g_getv (r := 7) (v := v16327) g ad7 (by decide) ft5_2 (ev16327) ?_
            refine g_putf (r := 7) g ad7 (by decide) ft5_1 (by decide) (fun e => absurd e nz5_1) rf7_1 (by decide) (by omega) (by omega) (fun h16345 e16345 g16345 => ?_)
            have k16345 := k0.wr e16345 rfl
            refine ev_ret rfl (by decide) (by decide) ?_
            show jEv _ _ _ _ _ _ _ (_, [(2, 7), (0, a1), (0, a2), (0, (v16334 - 65)), (0, v16340)], [], _, _, _)
            refine ev_iconst ?_
            exact ev_ret rfl (by decide) (by decide) ⟨_, _, rfl, by omega, by omega, g16345, k16345, ((jw_eq e16345)), by omega, by omega⟩
        · refine ev_iload_n rfl ?_
          refine ev_aload_n rfl ?_
          refine g_getp (r := 7) (c := 16) g ad7 (by decide) (by decide) rf7_13 ft5_13 ?_
          refine ev_iload rfl ?_
          refine g_iald g ad16 rt16 (by omega) (by omega) (fun v16346 ev16346 lv16346 uv16346 => ?_)
          refine g_iaddG (fun v16347 ev16347 lv16347 uv16347 => ?_)
          refine ev_bipush ?_
          refine ev_icmple f77_66 (fun c16348 => ?_) (fun c16348 => ?_)
          · refine ev_aload_n rfl ?_
            refine ev_dup (by decide) ?_
            refine g_getv (r := 7) (v := v16327) g ad7 (by decide) ft5_2 (ev16327) ?_
            refine ev_iconst ?_
            refine ev_iadd (r := (v16327 + 1)) (by unfold w32; omega) ?_
            refine g_putf (r := 7) g ad7 (by decide) ft5_2 (by decide) (fun e => absurd e nz5_2) rf7_2 (by decide) (by omega) (by omega) (fun h16349 e16349 g16349 => ?_)
            have k16349 := k0.wr e16349 rfl
            refine ev_iload rfl ?_
            exact ev_ret rfl (by decide) (by decide) ⟨_, _, rfl, by omega, by omega, g16349, k16349, (((jw_ne e16349 (Or.inr (by decide))).trans ew0)), by omega, by omega⟩
          · refine ev_aload_n rfl ?_
            refine ev_in (d := 0) (a := 0) (b := 0) (cd' := c70_0) (m := 1) (L0 := [(2, 7)]) (jcall_v (A := []) (S' := []) (r := 7) rfl (g.lt ad7) (g.tg ad7) (Nat.le_of_ble_eq_true rfl)) (by decide) ml70 pp70 (Nat.le_of_ble_eq_true rfl) rfl (by decide) (by decide) ?_
            refine ev_aload_n rfl ?_
            refine g_getv (r := 7) (v := w0) g ad7 (by decide) ft5_1 (ew0) ?_
            refine ev_ifge f70_15 (fun c16350 => ?_) (fun c16350 => ?_)
            · refine ev_ret rfl (by decide) (by decide) ?_
              show jEv _ _ _ _ _ _ _ (_, [(2, 7), (0, a1), (0, a2), (0, (v16334 - 65)), (0, v16340)], [], _, _, _)
              refine ev_iconst ?_
              exact ev_ret rfl (by decide) (by decide) ⟨_, _, rfl, by omega, by omega, g, k0, (ew0), by omega, by omega⟩
            · refine ev_aload_n rfl ?_
              refine ev_aload_n rfl ?_
              refine g_getv (r := 7) (v := v16327) g ad7 (by decide) ft5_2 (ev16327) ?_
              refine g_putf (r := 7) g ad7 (by decide) ft5_1 (by decide) (fun e => absurd e nz5_1) rf7_1 (by decide) (by omega) (by omega) (fun h16351 e16351 g16351 => ?_)
              have k16351 := k0.wr e16351 rfl
              refine ev_ret rfl (by decide) (by decide) ?_
              show jEv _ _ _ _ _ _ _ (_, [(2, 7), (0, a1), (0, a2), (0, (v16334 - 65)), (0, v16340)], [], _, _, _)
              refine ev_iconst ?_
              exact ev_ret rfl (by decide) (by decide) ⟨_, _, rfl, by omega, by omega, g16351, k16351, ((jw_eq e16351)), by omega, by omega⟩
      · refine ev_aload_n rfl ?_
        refine ev_in (d := 0) (a := 0) (b := 0) (cd' := c70_0) (m := 1) (L0 := [(2, 7)]) (jcall_v (A := []) (S' := []) (r := 7) rfl (g.lt ad7) (g.tg ad7) (Nat.le_of_ble_eq_true rfl)) (by decide) ml70 pp70 (Nat.le_of_ble_eq_true rfl) rfl (by decide) (by decide) ?_
        refine ev_aload_n rfl ?_
        refine g_getv (r := 7) (v := w0) g ad7 (by decide) ft5_1 (ew0) ?_
        refine ev_ifge f70_15 (fun c16352 => ?_) (fun c16352 => ?_)
        · refine ev_ret rfl (by decide) (by decide) ?_
          show jEv _ _ _ _ _ _ _ (_, [(2, 7), (0, a1), (0, a2), (0, (v16334 - 65)), (9, 0)], [], _, _, _)
          refine ev_iconst ?_
          exact ev_ret rfl (by decide) (by decide) ⟨_, _, rfl, by omega, by omega, g, k0, (ew0), by omega, by omega⟩
        · refine ev_aload_n rfl ?_
          refine ev_aload_n rfl ?_
          refine g_getv (r := 7) (v := v16327) g ad7 (by decide) ft5_2 (ev16327) ?_
          refine g_putf (r := 7) g ad7 (by decide) ft5_1 (by decide) (fun e => absurd e nz5_1) rf7_1 (by decide) (by omega) (by omega) (fun h16353 e16353 g16353 => ?_)
          have k16353 := k0.wr e16353 rfl
          refine ev_ret rfl (by decide) (by decide) ?_
          show jEv _ _ _ _ _ _ _ (_, [(2, 7), (0, a1), (0, a2), (0, (v16334 - 65)), (9, 0)], [], _, _, _)
          refine ev_iconst ?_
          exact ev_ret rfl (by decide) (by decide) ⟨_, _, rfl, by omega, by omega, g16353, k16353, ((jw_eq e16353)), by omega, by omega⟩
/-! s74_13  -/
set_option maxHeartbeats 4000000 in
theorem s74_13 {G : GH} {h : JH} (g : Gd G h) {a3 : Int} (la3 : (-2147483648) ≤ a3) (ua3 : a3 ≤ 2147483647) {w0 : Int} (ew0 : h.2.2 7 1 = w0) (lw0 : (-1) ≤ w0) (uw0 : w0 ≤ 200) : jOk 2 0 0 74 [(2, 7), (2, 1), (0, 13), (0, a3)] h (fun v h' => ∃ r F : Int, v = some (0, r) ∧ (-1) ≤ r ∧ r ≤ 199 ∧ Gd G h' ∧ Kp [(7, 2), (7, 3), (7, 4), (10, 0), (11, 0), (12, 0), (13, 0), (14, 0), (15, 0), (16, 0), (17, 0)] h h' ∧ h'.2.2 7 1 = F ∧ ((-F) + w0) ≤ 0 ∧ ((-F) + (-r)) ≤ 1) := by
  refine ⟨by decide, by rw [ml74]; exact Nat.le_of_ble_eq_true rfl, ?_⟩
  rw [ml74, pp74]
  show jEv _ none _ c74_0 0 0 _ (c74_0, [(2, 7), (2, 1), (0, 13), (0, a3), (9, 0)], [], h, 0, 0)
  have k0 := Kp.rf [(7, 2), (7, 3), (7, 4), (10, 0), (11, 0), (12, 0), (13, 0), (14, 0), (15, 0), (16, 0), (17, 0)] h
  refine ev_aload_n rfl ?_
  refine g_getv (r := 7) (v := w0) g ad7 (by decide) ft5_1 (ew0) ?_
  refine ev_ifge f74_13 (fun c16366 => ?_) (fun c16366 => ?_)
  · refine ev_aload_n rfl ?_
    refine ev_in (d := 0) (a := 0) (b := 0) (cd' := c70_0) (m := 1) (L0 := [(2, 7)]) (jcall_v (A := []) (S' := []) (r := 7) rfl (g.lt ad7) (g.tg ad7) (Nat.le_of_ble_eq_true rfl)) (by decide) ml70 pp70 (Nat.le_of_ble_eq_true rfl) rfl (by decide) (by decide) ?_
    refine ev_aload_n rfl ?_
    refine g_getv (r := 7) (v := w0) g ad7 (by decide) ft5_1 (ew0) ?_
    refine ev_ifge f70_15 (fun c16367 => ?_) (fun c16367 => absurd c16367 (by omega))
    refine ev_ret rfl (by decide) (by decide) ?_
    show jEv _ _ _ _ _ _ _ (_, [(2, 7), (2, 1), (0, 13), (0, a3), (9, 0)], [], _, _, _)
    refine ev_iconst ?_
    exact ev_ret rfl (by decide) (by decide) ⟨_, _, rfl, by omega, by omega, g, k0, (ew0), by omega, by omega⟩
  · refine ev_iload_n rfl ?_
    refine ev_bipush ?_
    refine ev_icmple f74_19 (fun c16368 => absurd c16368 (by omega)) (fun c16368 => ?_)
    refine ev_aload_n rfl ?_
    refine ev_in (d := 0) (a := 0) (b := 0) (cd' := c70_0) (m := 1) (L0 := [(2, 7)]) (jcall_v (A := []) (S' := []) (r := 7) rfl (g.lt ad7) (g.tg ad7) (Nat.le_of_ble_eq_true rfl)) (by decide) ml70 pp70 (Nat.le_of_ble_eq_true rfl) rfl (by decide) (by decide) ?_
    refine ev_aload_n rfl ?_
    refine g_getv (r := 7) (v := w0) g ad7 (by decide) ft5_1 (ew0) ?_
    refine ev_ifge f70_15 (fun c16369 => absurd c16369 (by omega)) (fun c16369 => ?_)
    refine ev_aload_n rfl ?_
    refine ev_aload_n rfl ?_
    obtain ⟨v16370, ev16370, lv16370, uv16370⟩ := g.rd ad7 (show 2 < 15 by decide) rf7_2
    refine g_getv (r := 7) (v := v16370) g ad7 (by decide) ft5_2 ev16370 ?_
    refine g_putf (r := 7) g ad7 (by decide) ft5_1 (by decide) (fun e => absurd e nz5_1) rf7_1 (by decide) (by omega) (by omega) (fun h16371 e16371 g16371 => ?_)
    have k16371 := k0.wr e16371 rfl
    refine ev_ret rfl (by decide) (by decide) ?_
    show jEv _ _ _ _ _ _ _ (_, [(2, 7), (2, 1), (0, 13), (0, a3), (9, 0)], [], _, _, _)
    refine ev_iconst ?_
    exact ev_ret rfl (by decide) (by decide) ⟨_, _, rfl, by omega, by omega, g16371, k16371, ((jw_eq e16371)), by omega, by omega⟩
/-! s78_12  -/
set_option maxHeartbeats 4000000 in
theorem s78_12_l {G : GH} {h : JH} {a3 : Int} (la3 : (-2147483648) ≤ a3) (ua3 : a3 ≤ 2147483647) {w0 : Int} (ew0 : h.2.2 7 1 = w0) (lw0 : (-1) ≤ w0) (uw0 : w0 ≤ 200) {w1 : Int} (ew1 : h.2.2 7 2 = w1) (lw1 : 0 ≤ w1) (uw1 : w1 ≤ 199) : ∀ N : Nat, (∀ (h1 : JH) (x4 x5 y0 : Int) (j6 : AV), Gd G h1 → Kp [(7, 2), (7, 3), (7, 4), (10, 0), (11, 0), (12, 0), (13, 0), (14, 0), (15, 0), (16, 0), (17, 0)] h h1 → (-2147483648) ≤ a3 → a3 ≤ 2147483647 → (-1) ≤ x4 → x4 ≤ 199 → 0 ≤ x5 → x5 ≤ 3 → (w0 + (-y0)) ≤ 0 → ((-x4) + (-y0)) ≤ 1 → h1.2.2 7 1 = y0 → (-1) ≤ y0 → y0 ≤ 200 → ((-x5) + 3) < N → jEv (jOk 3) none (fun _ => 0) c78_0 0 0 (fun v h' => ∃ r F : Int, v = some (0, r) ∧ (-1) ≤ r ∧ r ≤ 199 ∧ Gd G h' ∧ Kp [(7, 2), (7, 3), (7, 4), (10, 0), (11, 0), (12, 0), (13, 0), (14, 0), (15, 0), (16, 0), (17, 0)] h h' ∧ h'.2.2 7 1 = F ∧ ((-F) + w0) ≤ 0 ∧ ((-F) + (-r)) ≤ 1) (c78_25, [(2, 7), (2, 1), (0, 12), (0, a3), (0, x4), (0, x5), j6], [], h1, 0, 0)) := by
  intro N
  induction N with
  | zero => exact fun h1 x4 x5 y0 j6 g1 k1 b0 b1 b2 b3 b4 b5 b6 b7 b8 b9 b10 hm => absurd hm (by omega)
  | succ N ih =>
    show _
    intro h1 x4 x5 y0 j6 g1 k1 b0 b1 b2 b3 b4 b5 b6 b7 ey0 ly0 uy0 hm
    refine ev_iload rfl ?_
    refine ev_iconst ?_
    refine ev_icmpge f78_100 (fun c16540 => absurd c16540 (by omega)) (fun c16540 => ?_)
    refine ev_aload_n rfl ?_
    refine g_getv (r := 7) (v := y0) g1 ad7 (by decide) ft5_1 (ey0) ?_
    refine ev_ifge f78_100 (fun c16541 => ?_) (fun c16541 => ?_)
    · refine ev_aload_n rfl ?_
      refine ev_bipush ?_
      refine ev_call (jcall_v (A := [(0, 41)]) (S' := []) (r := 7) rfl (g1.lt ad7) (g1.tg ad7) (Nat.le_of_ble_eq_true rfl)) (jOk_le (by decide) (s71 g1 (by omega) (by omega) (ey0) (by omega) (by omega))) (by decide) (by decide) (fun w16542 h16542 q16542 => ?_)
      obtain ⟨v16543, rfl, g16542, kk16542, ev16543, p16542_0⟩ := q16542
      have bv16543 := g16542.rg ad7 (i := 1) (by decide) rf7_1
      rw [ev16543] at bv16543
      have k16542 := k1.tr kk16542 (by decide)
      show jEv _ _ _ _ _ _ _ (_, [(2, 7), (2, 1), (0, 12), (0, a3), (0, x4), (0, x5), j6], [], _, _, _)
      refine ev_aload_n rfl ?_
      refine g_getv (r := 7) (v := v16543) g16542 ad7 (by decide) ft5_1 (ev16543) ?_
      refine ev_iflt f78_117 (fun c16544 => absurd c16544 (by omega)) (fun c16544 => ?_)
      refine ev_iconst ?_
      refine ev_goto f78_119 ?_
      exact ev_ret rfl (by decide) (by decide) ⟨_, _, rfl, by omega, by omega, g16542, k16542, (ev16543), by omega, by omega⟩
    · refine ev_aload_n rfl ?_
      refine ev_iconst ?_
      refine ev_call (jcall_v (A := [(0, 2)]) (S' := []) (r := 7) rfl (g1.lt ad7) (g1.tg ad7) (Nat.le_of_ble_eq_true rfl)) (jOk_le (by decide) (s76 g1 (by omega) (by omega) (ey0) (by omega) (by omega))) (by decide) (by decide) (fun w16545 h16545 q16545 => ?_)
      obtain ⟨v16547, v16546, rfl, lv16547, uv16547, g16545, kk16545, ev16546, p16545_0⟩ := q16545
      have bv16546 := g16545.rg ad7 (i := 1) (by decide) rf7_1
      rw [ev16546] at bv16546
      have k16545 := k1.tr kk16545 (by decide)
      show jEv _ _ _ _ _ _ _ (_, [(2, 7), (2, 1), (0, 12), (0, a3), (0, x4), (0, x5), j6], [(0, v16547)], _, _, _)
      refine ev_istore (L' := [(2, 7), (2, 1), (0, 12), (0, a3), (0, x4), (0, x5), (0, v16547)]) (Nat.le_of_ble_eq_true rfl) rfl ?_
      refine ev_aload_n rfl ?_
      refine ev_bipush ?_
      refine ev_call (jcall_v (A := [(0, 58)]) (S' := []) (r := 7) rfl (g16545.lt ad7) (g16545.tg ad7) (Nat.le_of_ble_eq_true rfl)) (jOk_le (by decide) (s71 g16545 (by omega) (by omega) (ev16546) (by omega) (by omega))) (by decide) (by decide) (fun w16548 h16548 q16548 => ?_)
      obtain ⟨v16549, rfl, g16548, kk16548, ev16549, p16548_0⟩ := q16548
      have bv16549 := g16548.rg ad7 (i := 1) (by decide) rf7_1
      rw [ev16549] at bv16549
      have k16548 := k16545.tr kk16548 (by decide)
      show jEv _ _ _ _ _ _ _ (_, [(2, 7), (2, 1), (0, 12), (0, a3), (0, x4), (0, x5), (0, v16547)], [], _, _, _)
      refine ev_aload_n rfl ?_
      refine ev_iload rfl ?_
      refine ev_iload rfl ?_
      refine ev_iload rfl ?_
      refine ev_aload_n rfl ?_
      refine ev_aload_n rfl ?_
      refine ev_iload_n rfl ?_
      refine ev_iconst ?_
      refine ev_iadd (r := 13) (by decide) ?_
      refine ev_iload_n rfl ?_
      refine ev_call (jcall_v (A := [(0, a3), (0, 13), (2, 1)]) (S' := [(0, v16547), (0, x5), (0, x4), (2, 7)]) (r := 7) rfl (g16548.lt ad7) (g16548.tg ad7) (Nat.le_of_ble_eq_true rfl)) (jOk_le (by decide) (s74_13 g16548 (by omega) (by omega) (ev16549) (by omega) (by omega))) (by decide) (by decide) (fun w16550 h16550 q16550 => ?_)
      obtain ⟨v16552, v16551, rfl, lv16552, uv16552, g16550, kk16550, ev16551, p16550_0, p16550_1⟩ := q16550
      have bv16551 := g16550.rg ad7 (i := 1) (by decide) rf7_1
      rw [ev16551] at bv16551
      have k16550 := k16548.tr kk16550 (by decide)
      show jEv _ _ _ _ _ _ _ (_, [(2, 7), (2, 1), (0, 12), (0, a3), (0, x4), (0, x5), (0, v16547)], [(0, v16552), (0, v16547), (0, x5), (0, x4), (2, 7)], _, _, _)
      refine ev_call (jcall_v (A := [(0, v16552), (0, v16547), (0, x5), (0, x4)]) (S' := []) (r := 7) rfl (g16550.lt ad7) (g16550.tg ad7) (Nat.le_of_ble_eq_true rfl)) (jOk_le (by decide) (s80 g16550 (by omega) (by omega) (by omega) (by omega) (by omega) (by omega) (by omega) (by omega))) (by decide) (by decide) (fun w16553 h16553 q16553 => ?_)
      obtain ⟨rfl, g16553, kk16553⟩ := q16553
      have k16553 := k16550.tr kk16553 (by decide)
      show jEv _ _ _ _ _ _ _ (_, [(2, 7), (2, 1), (0, 12), (0, a3), (0, x4), (0, x5), (0, v16547)], [], _, _, _)
      refine ev_aload_n rfl ?_
      refine ev_in (d := 2) (a := 0) (b := 0) (cd' := c68_0) (m := 1) (L0 := [(2, 7)]) (jcall_v (A := []) (S' := []) (r := 7) rfl (g16553.lt ad7) (g16553.tg ad7) (Nat.le_of_ble_eq_true rfl)) (by decide) ml68 pp68 (Nat.le_of_ble_eq_true rfl) rfl (by decide) (by decide) ?_
      refine ev_aload_n rfl ?_
      obtain ⟨v16554, ev16554, lv16554, uv16554⟩ := g16553.rd ad7 (show 2 < 15 by decide) rf7_2
      refine g_getv (r := 7) (v := v16554) g16553 ad7 (by decide) ft5_2 ev16554 ?_
      refine ev_aload_n rfl ?_
      obtain ⟨v16555, ev16555, lv16555, uv16555⟩ := g16553.rd ad7 (show 0 < 15 by decide) rf7_0
      refine g_getv (r := 7) (v := v16555) g16553 ad7 (by decide) ft5_0 ev16555 ?_
      refine ev_icmpge f68_27 (fun c16556 => ?_) (fun c16556 => ?_)
      · refine ev_iconst ?_
        refine ev_ret rfl (by decide) (by decide) ?_
        show jEv _ _ _ _ _ _ _ (_, [(2, 7), (2, 1), (0, 12), (0, a3), (0, x4), (0, x5), (0, v16547)], [(0, (-1))], _, _, _)
        refine ev_bipush ?_
        refine ev_icmpne f78_100 (fun c16557 => ?_) (fun c16557 => absurd c16557 (by omega))
        refine ev_aload_n rfl ?_
        refine ev_bipush ?_
        refine ev_call (jcall_v (A := [(0, 41)]) (S' := []) (r := 7) rfl (g16553.lt ad7) (g16553.tg ad7) (Nat.le_of_ble_eq_true rfl)) (jOk_le (by decide) (s71 g16553 (by omega) (by omega) (((kk16553.v (by decide)).trans ev16551)) (by omega) (by omega))) (by decide) (by decide) (fun w16558 h16558 q16558 => ?_)
        obtain ⟨v16559, rfl, g16558, kk16558, ev16559, p16558_0⟩ := q16558
        have bv16559 := g16558.rg ad7 (i := 1) (by decide) rf7_1
        rw [ev16559] at bv16559
        have k16558 := k16553.tr kk16558 (by decide)
        show jEv _ _ _ _ _ _ _ (_, [(2, 7), (2, 1), (0, 12), (0, a3), (0, x4), (0, x5), (0, v16547)], [], _, _, _)
        refine ev_aload_n rfl ?_
        refine g_getv (r := 7) (v := v16559) g16558 ad7 (by decide) ft5_1 (ev16559) ?_
        refine ev_iflt f78_117 (fun c16560 => ?_) (fun c16560 => ?_)
        · refine ev_iload rfl ?_
          exact ev_ret rfl (by decide) (by decide) ⟨_, _, rfl, by omega, by omega, g16558, k16558, (ev16559), by omega, by omega⟩
        · refine ev_iconst ?_
          refine ev_goto f78_119 ?_
          exact ev_ret rfl (by decide) (by decide) ⟨_, _, rfl, by omega, by omega, g16558, k16558, (ev16559), by omega, by omega⟩
      · refine ev_aload_n rfl ?_
        refine g_getp (r := 7) (c := 8) g16553 ad7 (by decide) (by decide) rf7_5 ft5_5 ?_
        refine ev_aload_n rfl ?_
        refine g_getv (r := 7) (v := v16554) g16553 ad7 (by decide) ft5_2 (ev16554) ?_
        refine g_bald g16553 ad8 rt8 (by omega) (by omega) (fun v16561 ev16561 lv16561 uv16561 => ?_)
        refine ev_sipush ?_
        refine g_iandB (b := 255) (by omega) (by omega) (by decide) (fun v16562 ev16562 lv16562 uv16562 => ?_)
        refine ev_goto f68_28 ?_
        refine ev_ret rfl (by decide) (by decide) ?_
        show jEv _ _ _ _ _ _ _ (_, [(2, 7), (2, 1), (0, 12), (0, a3), (0, x4), (0, x5), (0, v16547)], [(0, v16562)], _, _, _)
        refine ev_bipush ?_
        refine ev_icmpne f78_100 (fun c16563 => ?_) (fun c16563 => ?_)
        · refine ev_aload_n rfl ?_
          refine ev_bipush ?_
          refine ev_call (jcall_v (A := [(0, 41)]) (S' := []) (r := 7) rfl (g16553.lt ad7) (g16553.tg ad7) (Nat.le_of_ble_eq_true rfl)) (jOk_le (by decide) (s71 g16553 (by omega) (by omega) (((kk16553.v (by decide)).trans ev16551)) (by omega) (by omega))) (by decide) (by decide) (fun w16564 h16564 q16564 => ?_)
          obtain ⟨v16565, rfl, g16564, kk16564, ev16565, p16564_0⟩ := q16564
          have bv16565 := g16564.rg ad7 (i := 1) (by decide) rf7_1
          rw [ev16565] at bv16565
          have k16564 := k16553.tr kk16564 (by decide)
          show jEv _ _ _ _ _ _ _ (_, [(2, 7), (2, 1), (0, 12), (0, a3), (0, x4), (0, x5), (0, v16547)], [], _, _, _)
          refine ev_aload_n rfl ?_
          refine g_getv (r := 7) (v := v16565) g16564 ad7 (by decide) ft5_1 (ev16565) ?_
          refine ev_iflt f78_117 (fun c16566 => ?_) (fun c16566 => ?_)
          · refine ev_iload rfl ?_
            exact ev_ret rfl (by decide) (by decide) ⟨_, _, rfl, by omega, by omega, g16564, k16564, (ev16565), by omega, by omega⟩
          · refine ev_iconst ?_
            refine ev_goto f78_119 ?_
            exact ev_ret rfl (by decide) (by decide) ⟨_, _, rfl, by omega, by omega, g16564, k16564, (ev16565), by omega, by omega⟩
        · refine ev_iload rfl ?_
          refine ev_iconst ?_
          refine ev_icmpne f78_88 (fun c16567 => ?_) (fun c16567 => ?_)
          · refine ev_aload_n rfl ?_
            refine ev_bipush ?_
            refine ev_call (jcall_v (A := [(0, 44)]) (S' := []) (r := 7) rfl (g16553.lt ad7) (g16553.tg ad7) (Nat.le_of_ble_eq_true rfl)) (jOk_le (by decide) (s71 g16553 (by omega) (by omega) (((kk16553.v (by decide)).trans ev16551)) (by omega) (by omega))) (by decide) (by decide) (fun w16568 h16568 q16568 => ?_)
            obtain ⟨v16569, rfl, g16568, kk16568, ev16569, p16568_0⟩ := q16568
            have bv16569 := g16568.rg ad7 (i := 1) (by decide) rf7_1
            rw [ev16569] at bv16569
            have k16568 := k16553.tr kk16568 (by decide)
            show jEv _ _ _ _ _ _ _ (_, [(2, 7), (2, 1), (0, 12), (0, a3), (0, x4), (0, x5), (0, v16547)], [], _, _, _)
            refine ev_iinc (w := (x5 + 1)) (L' := [(2, 7), (2, 1), (0, 12), (0, a3), (0, x4), (0, (x5 + 1)), (0, v16547)]) rfl (by unfold w32; omega) rfl ?_
            refine ev_goto f78_25 ?_
            exact ih _ _ _ _ _ g16568 k16568 (by omega) (by omega) (by omega) (by omega) (by omega) (by omega) (by omega) (by omega) (ev16569) (by omega) (by omega) (by omega)
          · refine ev_goto f78_100 ?_
            refine ev_aload_n rfl ?_
            refine ev_bipush ?_
            refine ev_call (jcall_v (A := [(0, 41)]) (S' := []) (r := 7) rfl (g16553.lt ad7) (g16553.tg ad7) (Nat.le_of_ble_eq_true rfl)) (jOk_le (by decide) (s71 g16553 (by omega) (by omega) (((kk16553.v (by decide)).trans ev16551)) (by omega) (by omega))) (by decide) (by decide) (fun w16570 h16570 q16570 => ?_)
            obtain ⟨v16571, rfl, g16570, kk16570, ev16571, p16570_0⟩ := q16570
            have bv16571 := g16570.rg ad7 (i := 1) (by decide) rf7_1
            rw [ev16571] at bv16571
            have k16570 := k16553.tr kk16570 (by decide)
            show jEv _ _ _ _ _ _ _ (_, [(2, 7), (2, 1), (0, 12), (0, a3), (0, x4), (0, x5), (0, v16547)], [], _, _, _)
            refine ev_aload_n rfl ?_
            refine g_getv (r := 7) (v := v16571) g16570 ad7 (by decide) ft5_1 (ev16571) ?_
            refine ev_iflt f78_117 (fun c16572 => ?_) (fun c16572 => ?_)
            · refine ev_iload rfl ?_
              exact ev_ret rfl (by decide) (by decide) ⟨_, _, rfl, by omega, by omega, g16570, k16570, (ev16571), by omega, by omega⟩
            · refine ev_iconst ?_
              refine ev_goto f78_119 ?_
              exact ev_ret rfl (by decide) (by decide) ⟨_, _, rfl, by omega, by omega, g16570, k16570, (ev16571), by omega, by omega⟩
set_option maxHeartbeats 4000000 in
theorem s78_12 {G : GH} {h : JH} (g : Gd G h) {a3 : Int} (la3 : (-2147483648) ≤ a3) (ua3 : a3 ≤ 2147483647) {w0 : Int} (ew0 : h.2.2 7 1 = w0) (lw0 : (-1) ≤ w0) (uw0 : w0 ≤ 200) {w1 : Int} (ew1 : h.2.2 7 2 = w1) (lw1 : 0 ≤ w1) (uw1 : w1 ≤ 199) : jOk 4 0 0 78 [(2, 7), (2, 1), (0, 12), (0, a3)] h (fun v h' => ∃ r F : Int, v = some (0, r) ∧ (-1) ≤ r ∧ r ≤ 199 ∧ Gd G h' ∧ Kp [(7, 2), (7, 3), (7, 4), (10, 0), (11, 0), (12, 0), (13, 0), (14, 0), (15, 0), (16, 0), (17, 0)] h h' ∧ h'.2.2 7 1 = F ∧ ((-F) + w0) ≤ 0 ∧ ((-F) + (-r)) ≤ 1) := by
  refine ⟨by decide, by rw [ml78]; exact Nat.le_of_ble_eq_true rfl, ?_⟩
  rw [ml78, pp78]
  show jEv _ none _ c78_0 0 0 _ (c78_0, [(2, 7), (2, 1), (0, 12), (0, a3), (9, 0), (9, 0), (9, 0)], [], h, 0, 0)
  have k0 := Kp.rf [(7, 2), (7, 3), (7, 4), (10, 0), (11, 0), (12, 0), (13, 0), (14, 0), (15, 0), (16, 0), (17, 0)] h
  refine ev_aload_n rfl ?_
  refine ev_dup (by decide) ?_
  refine g_getv (r := 7) (v := w1) g ad7 (by decide) ft5_2 (ew1) ?_
  refine ev_iconst ?_
  refine ev_iadd (r := (w1 + 1)) (by unfold w32; omega) ?_
  refine g_putf (r := 7) g ad7 (by decide) ft5_2 (by decide) (fun e => absurd e nz5_2) rf7_2 (by decide) (by omega) (by omega) (fun h16573 e16573 g16573 => ?_)
  have k16573 := k0.wr e16573 rfl
  refine ev_aload_n rfl ?_
  refine ev_iload_n rfl ?_
  refine ev_call (jcall_v (A := [(0, 12)]) (S' := []) (r := 7) rfl (g16573.lt ad7) (g16573.tg ad7) (Nat.le_of_ble_eq_true rfl)) (jOk_le (by decide) (s72 g16573 (by omega) (by omega) (((jw_ne e16573 (Or.inr (by decide))).trans ew0)) (by omega) (by omega))) (by decide) (by decide) (fun w16574 h16574 q16574 => ?_)
  obtain ⟨v16575, rfl, g16574, kk16574, ev16575, p16574_0⟩ := q16574
  have bv16575 := g16574.rg ad7 (i := 1) (by decide) rf7_1
  rw [ev16575] at bv16575
  have k16574 := k16573.tr kk16574 (by decide)
  show jEv _ _ _ _ _ _ _ (_, [(2, 7), (2, 1), (0, 12), (0, a3), (9, 0), (9, 0), (9, 0)], [], _, _, _)
  refine ev_aload_n rfl ?_
  refine ev_iconst ?_
  refine ev_call (jcall_v (A := [(0, 1)]) (S' := []) (r := 7) rfl (g16574.lt ad7) (g16574.tg ad7) (Nat.le_of_ble_eq_true rfl)) (jOk_le (by decide) (s73 g16574 (by omega) (by omega) (ev16575) (by omega) (by omega))) (by decide) (by decide) (fun w16576 h16576 q16576 => ?_)
  obtain ⟨v16578, v16577, rfl, lv16578, uv16578, g16576, kk16576, ev16577, p16576_0, p16576_1⟩ := q16576
  have bv16577 := g16576.rg ad7 (i := 1) (by decide) rf7_1
  rw [ev16577] at bv16577
  have k16576 := k16574.tr kk16576 (by decide)
  show jEv _ _ _ _ _ _ _ (_, [(2, 7), (2, 1), (0, 12), (0, a3), (9, 0), (9, 0), (9, 0)], [(0, v16578)], _, _, _)
  refine ev_istore (L' := [(2, 7), (2, 1), (0, 12), (0, a3), (0, v16578), (9, 0), (9, 0)]) (Nat.le_of_ble_eq_true rfl) rfl ?_
  refine ev_iconst ?_
  refine ev_istore (L' := [(2, 7), (2, 1), (0, 12), (0, a3), (0, v16578), (0, 0), (9, 0)]) (Nat.le_of_ble_eq_true rfl) rfl ?_
  exact (s78_12_l la3 ua3 ew0 lw0 uw0 ew1 lw1 uw1 8) _ _ _ _ _ g16576 k16576 (by omega) (by omega) (by omega) (by omega) (by omega) (by omega) (by omega) (by omega) (ev16577) (by omega) (by omega) (by omega)
/-! s79_12  -/
set_option maxHeartbeats 4000000 in
theorem s79_12_l {G : GH} {h : JH} {a3 : Int} (la3 : (-2147483648) ≤ a3) (ua3 : a3 ≤ 2147483647) {w0 : Int} (ew0 : h.2.2 7 1 = w0) (lw0 : (-1) ≤ w0) (uw0 : w0 ≤ 200) {w1 : Int} (ew1 : h.2.2 7 2 = w1) (lw1 : 0 ≤ w1) (uw1 : w1 ≤ 199) : ∀ N : Nat, (∀ (h1 : JH) (x4 x5 x6 y0 : Int), Gd G h1 → Kp [(7, 2), (7, 3), (7, 4), (10, 0), (11, 0), (12, 0), (13, 0), (14, 0), (15, 0), (16, 0), (17, 0)] h h1 → (-2147483648) ≤ a3 → a3 ≤ 2147483647 → 0 ≤ x4 → x4 ≤ 3 → (-1) ≤ x5 → x5 ≤ 199 → 0 ≤ x6 → x6 ≤ 3 → (w0 + (-y0)) ≤ 0 → ((-x5) + (-y0)) ≤ 1 → h1.2.2 7 1 = y0 → (-1) ≤ y0 → y0 ≤ 200 → ((-x6) + 3) < N → jEv (jOk 3) none (fun _ => 0) c79_0 0 0 (fun v h' => ∃ r F : Int, v = some (0, r) ∧ (-1) ≤ r ∧ r ≤ 199 ∧ Gd G h' ∧ Kp [(7, 2), (7, 3), (7, 4), (10, 0), (11, 0), (12, 0), (13, 0), (14, 0), (15, 0), (16, 0), (17, 0)] h h' ∧ h'.2.2 7 1 = F ∧ ((-F) + w0) ≤ 0 ∧ ((-F) + (-r)) ≤ 1) (c79_68, [(2, 7), (2, 1), (0, 12), (0, a3), (0, x4), (0, x5), (0, x6)], [], h1, 0, 0)) := by
  intro N
  induction N with
  | zero => exact fun h1 x4 x5 x6 y0 g1 k1 b0 b1 b2 b3 b4 b5 b6 b7 b8 b9 b10 b11 b12 hm => absurd hm (by omega)
  | succ N ih =>
    show _
    intro h1 x4 x5 x6 y0 g1 k1 b0 b1 b2 b3 b4 b5 b6 b7 b8 b9 ey0 ly0 uy0 hm
    refine ev_iload rfl ?_
    refine ev_aload_n rfl ?_
    refine ev_iload rfl ?_
    refine ev_in (d := 2) (a := 0) (b := 0) (cd' := c141_0) (m := 2) (L0 := [(2, 1), (0, x4)]) (jcall_v (A := [(0, x4)]) (S' := [(0, x6)]) (r := 1) rfl (g1.lt ad1) (g1.tg ad1) (Nat.le_of_ble_eq_true rfl)) (by decide) ml141 pp141 (Nat.le_of_ble_eq_true rfl) rfl (by decide) (by decide) ?_
    refine ev_aload_n rfl ?_
    refine ev_iload_n rfl ?_
    refine ev_in (d := 1) (a := 0) (b := 0) (cd' := c140_0) (m := 2) (L0 := [(2, 1), (0, x4)]) (jcall_v (A := [(0, x4)]) (S' := []) (r := 1) rfl (g1.lt ad1) (g1.tg ad1) (Nat.le_of_ble_eq_true rfl)) (by decide) ml140 pp140 (Nat.le_of_ble_eq_true rfl) rfl (by decide) (by decide) ?_
    refine ev_iload_n rfl ?_
    refine ev_iflt f140_16 (fun c16838 => absurd c16838 (by omega)) (fun c16838 => ?_)
    refine ev_iload_n rfl ?_
    refine ev_aload_n rfl ?_
    obtain ⟨v16839, ev16839, lv16839, uv16839⟩ := g1.rd ad1 (show 0 < 8 by decide) rf1_0
    refine g_getv (r := 1) (v := v16839) g1 ad1 (by decide) ft10_0 ev16839 ?_
    refine ev_icmpge f140_16 (fun c16840 => ?_) (fun c16840 => ?_)
    · refine ev_iconst ?_
      refine ev_ret rfl (by decide) (by decide) ?_
      show jEv _ _ _ _ _ _ _ (_, [(2, 1), (0, x4)], [(0, 0)], _, _, _)
      refine ev_ifeq f141_17 (fun c16841 => ?_) (fun c16841 => absurd c16841 (by omega))
      refine ev_iconst ?_
      refine ev_ret rfl (by decide) (by decide) ?_
      show jEv _ _ _ _ _ _ _ (_, [(2, 7), (2, 1), (0, 12), (0, a3), (0, x4), (0, x5), (0, x6)], [(0, 0), (0, x6)], _, _, _)
      refine ev_icmpge f79_126 (fun c16842 => ?_) (fun c16842 => absurd c16842 (by omega))
      refine ev_aload_n rfl ?_
      refine ev_bipush ?_
      refine ev_call (jcall_v (A := [(0, 41)]) (S' := []) (r := 7) rfl (g1.lt ad7) (g1.tg ad7) (Nat.le_of_ble_eq_true rfl)) (jOk_le (by decide) (s71 g1 (by omega) (by omega) (ey0) (by omega) (by omega))) (by decide) (by decide) (fun w16843 h16843 q16843 => ?_)
      obtain ⟨v16844, rfl, g16843, kk16843, ev16844, p16843_0⟩ := q16843
      have bv16844 := g16843.rg ad7 (i := 1) (by decide) rf7_1
      rw [ev16844] at bv16844
      have k16843 := k1.tr kk16843 (by decide)
      show jEv _ _ _ _ _ _ _ (_, [(2, 7), (2, 1), (0, 12), (0, a3), (0, x4), (0, x5), (0, x6)], [], _, _, _)
      refine ev_aload_n rfl ?_
      refine g_getv (r := 7) (v := v16844) g16843 ad7 (by decide) ft5_1 (ev16844) ?_
      refine ev_ifge f79_144 (fun c16845 => ?_) (fun c16845 => ?_)
      · refine ev_iconst ?_
        exact ev_ret rfl (by decide) (by decide) ⟨_, _, rfl, by omega, by omega, g16843, k16843, (ev16844), by omega, by omega⟩
      · refine ev_iload rfl ?_
        refine ev_ifge f79_146 (fun c16846 => ?_) (fun c16846 => absurd c16846 (by omega))
        refine ev_aload_n rfl ?_
        refine g_getp (r := 7) (c := 11) g16843 ad7 (by decide) (by decide) rf7_8 ft5_8 ?_
        refine ev_iload rfl ?_
        refine ev_iload rfl ?_
        refine g_iast g16843 ad11 rt11 (fun _ => rfl) (by omega) (by omega) (by omega) (by omega) (fun h16847 e16847 g16847 => ?_)
        have k16847 := k16843.wr e16847 rfl
        refine ev_aload_n rfl ?_
        refine g_getp (r := 7) (c := 15) g16847 ad7 (by decide) (by decide) rf7_12 ft5_12 ?_
        refine ev_iload rfl ?_
        refine ev_dup2 (by decide) (by decide) ?_
        refine g_iald g16847 ad15 rt15 (by omega) (by omega) (fun v16848 ev16848 lv16848 uv16848 => ?_)
        refine ev_iconst ?_
        refine ev_iload rfl ?_
        refine g_ishlB (a' := 1) (a := 1) (b := 3) (hi := 8) (by omega) (by omega) (by omega) (by omega) (by decide) (by decide) (fun v16849 ev16849 lv16849 uv16849 => ?_)
        refine g_iorG (fun v16850 ev16850 lv16850 uv16850 => ?_)
        refine g_iast g16847 ad15 rt15 (fun _ => rfl) (by omega) (by omega) (by omega) (by omega) (fun h16851 e16851 g16851 => ?_)
        have k16851 := k16847.wr e16851 rfl
        refine ev_iload rfl ?_
        exact ev_ret rfl (by decide) (by decide) ⟨_, _, rfl, by omega, by omega, g16851, k16851, (((jw_ne e16851 (Or.inl (by decide))).trans ((jw_ne e16847 (Or.inl (by decide))).trans ev16844))), by omega, by omega⟩
    · refine ev_iconst ?_
      refine ev_goto f140_17 ?_
      refine ev_ret rfl (by decide) (by decide) ?_
      show jEv _ _ _ _ _ _ _ (_, [(2, 1), (0, x4)], [(0, 1)], _, _, _)
      refine ev_ifeq f141_17 (fun c16852 => absurd c16852 (by omega)) (fun c16852 => ?_)
      refine ev_aload_n rfl ?_
      refine g_getp (r := 1) (c := 2) g1 ad1 (by decide) (by decide) rf1_3 ft10_3 ?_
      refine ev_iload_n rfl ?_
      refine g_iald g1 ad2 rt2 (by omega) (by omega) (fun v16853 ev16853 lv16853 uv16853 => ?_)
      have xv16853 := (g1.ex.1.1 (x4 : Int).toNat (by rw [(ev16839)]; omega))
      rw [ev16853] at xv16853
      refine ev_goto f141_18 ?_
      refine ev_ret rfl (by decide) (by decide) ?_
      show jEv _ _ _ _ _ _ _ (_, [(2, 7), (2, 1), (0, 12), (0, a3), (0, x4), (0, x5), (0, x6)], [(0, v16853), (0, x6)], _, _, _)
      refine ev_icmpge f79_126 (fun c16854 => ?_) (fun c16854 => ?_)
      · refine ev_aload_n rfl ?_
        refine ev_bipush ?_
        refine ev_call (jcall_v (A := [(0, 41)]) (S' := []) (r := 7) rfl (g1.lt ad7) (g1.tg ad7) (Nat.le_of_ble_eq_true rfl)) (jOk_le (by decide) (s71 g1 (by omega) (by omega) (ey0) (by omega) (by omega))) (by decide) (by decide) (fun w16855 h16855 q16855 => ?_)
        obtain ⟨v16856, rfl, g16855, kk16855, ev16856, p16855_0⟩ := q16855
        have bv16856 := g16855.rg ad7 (i := 1) (by decide) rf7_1
        rw [ev16856] at bv16856
        have k16855 := k1.tr kk16855 (by decide)
        show jEv _ _ _ _ _ _ _ (_, [(2, 7), (2, 1), (0, 12), (0, a3), (0, x4), (0, x5), (0, x6)], [], _, _, _)
        refine ev_aload_n rfl ?_
        refine g_getv (r := 7) (v := v16856) g16855 ad7 (by decide) ft5_1 (ev16856) ?_
        refine ev_ifge f79_144 (fun c16857 => ?_) (fun c16857 => ?_)
        · refine ev_iconst ?_
          exact ev_ret rfl (by decide) (by decide) ⟨_, _, rfl, by omega, by omega, g16855, k16855, (ev16856), by omega, by omega⟩
        · refine ev_iload rfl ?_
          refine ev_ifge f79_146 (fun c16858 => ?_) (fun c16858 => absurd c16858 (by omega))
          refine ev_aload_n rfl ?_
          refine g_getp (r := 7) (c := 11) g16855 ad7 (by decide) (by decide) rf7_8 ft5_8 ?_
          refine ev_iload rfl ?_
          refine ev_iload rfl ?_
          refine g_iast g16855 ad11 rt11 (fun _ => rfl) (by omega) (by omega) (by omega) (by omega) (fun h16859 e16859 g16859 => ?_)
          have k16859 := k16855.wr e16859 rfl
          refine ev_aload_n rfl ?_
          refine g_getp (r := 7) (c := 15) g16859 ad7 (by decide) (by decide) rf7_12 ft5_12 ?_
          refine ev_iload rfl ?_
          refine ev_dup2 (by decide) (by decide) ?_
          refine g_iald g16859 ad15 rt15 (by omega) (by omega) (fun v16860 ev16860 lv16860 uv16860 => ?_)
          refine ev_iconst ?_
          refine ev_iload rfl ?_
          refine g_ishlB (a' := 1) (a := 1) (b := 3) (hi := 8) (by omega) (by omega) (by omega) (by omega) (by decide) (by decide) (fun v16861 ev16861 lv16861 uv16861 => ?_)
          refine g_iorG (fun v16862 ev16862 lv16862 uv16862 => ?_)
          refine g_iast g16859 ad15 rt15 (fun _ => rfl) (by omega) (by omega) (by omega) (by omega) (fun h16863 e16863 g16863 => ?_)
          have k16863 := k16859.wr e16863 rfl
          refine ev_iload rfl ?_
          exact ev_ret rfl (by decide) (by decide) ⟨_, _, rfl, by omega, by omega, g16863, k16863, (((jw_ne e16863 (Or.inl (by decide))).trans ((jw_ne e16859 (Or.inl (by decide))).trans ev16856))), by omega, by omega⟩
      · refine ev_aload_n rfl ?_
        refine g_getv (r := 7) (v := y0) g1 ad7 (by decide) ft5_1 (ey0) ?_
        refine ev_ifge f79_126 (fun c16864 => ?_) (fun c16864 => ?_)
        · refine ev_aload_n rfl ?_
          refine ev_bipush ?_
          refine ev_call (jcall_v (A := [(0, 41)]) (S' := []) (r := 7) rfl (g1.lt ad7) (g1.tg ad7) (Nat.le_of_ble_eq_true rfl)) (jOk_le (by decide) (s71 g1 (by omega) (by omega) (ey0) (by omega) (by omega))) (by decide) (by decide) (fun w16865 h16865 q16865 => ?_)
          obtain ⟨v16866, rfl, g16865, kk16865, ev16866, p16865_0⟩ := q16865
          have bv16866 := g16865.rg ad7 (i := 1) (by decide) rf7_1
          rw [ev16866] at bv16866
          have k16865 := k1.tr kk16865 (by decide)
          show jEv _ _ _ _ _ _ _ (_, [(2, 7), (2, 1), (0, 12), (0, a3), (0, x4), (0, x5), (0, x6)], [], _, _, _)
          refine ev_aload_n rfl ?_
          refine g_getv (r := 7) (v := v16866) g16865 ad7 (by decide) ft5_1 (ev16866) ?_
          refine ev_ifge f79_144 (fun c16867 => ?_) (fun c16867 => absurd c16867 (by omega))
          refine ev_iconst ?_
          exact ev_ret rfl (by decide) (by decide) ⟨_, _, rfl, by omega, by omega, g16865, k16865, (ev16866), by omega, by omega⟩
        · refine ev_iload rfl ?_
          refine ev_ifle f79_97 (fun c16868 => ?_) (fun c16868 => ?_)
          · refine ev_aload_n rfl ?_
            refine ev_iload rfl ?_
            refine ev_iload rfl ?_
            refine ev_iconst ?_
            refine ev_aload_n rfl ?_
            refine ev_aload_n rfl ?_
            refine ev_iload_n rfl ?_
            refine ev_iconst ?_
            refine ev_iadd (r := 13) (by decide) ?_
            refine ev_iload_n rfl ?_
            refine ev_iconst ?_
            refine ev_iload rfl ?_
            refine g_ishlB (a' := 1) (a := 1) (b := 3) (hi := 8) (by omega) (by omega) (by omega) (by omega) (by decide) (by decide) (fun v16869 ev16869 lv16869 uv16869 => ?_)
            refine g_iorG (fun v16870 ev16870 lv16870 uv16870 => ?_)
            refine ev_call (jcall_v (A := [(0, v16870), (0, 13), (2, 1)]) (S' := [(0, 0), (0, x6), (0, x5), (2, 7)]) (r := 7) rfl (g1.lt ad7) (g1.tg ad7) (Nat.le_of_ble_eq_true rfl)) (jOk_le (by decide) (s74_13 g1 (by omega) (by omega) (ey0) (by omega) (by omega))) (by decide) (by decide) (fun w16871 h16871 q16871 => ?_)
            obtain ⟨v16873, v16872, rfl, lv16873, uv16873, g16871, kk16871, ev16872, p16871_0, p16871_1⟩ := q16871
            have bv16872 := g16871.rg ad7 (i := 1) (by decide) rf7_1
            rw [ev16872] at bv16872
            have k16871 := k1.tr kk16871 (by decide)
            show jEv _ _ _ _ _ _ _ (_, [(2, 7), (2, 1), (0, 12), (0, a3), (0, x4), (0, x5), (0, x6)], [(0, v16873), (0, 0), (0, x6), (0, x5), (2, 7)], _, _, _)
            refine ev_call (jcall_v (A := [(0, v16873), (0, 0), (0, x6), (0, x5)]) (S' := []) (r := 7) rfl (g16871.lt ad7) (g16871.tg ad7) (Nat.le_of_ble_eq_true rfl)) (jOk_le (by decide) (s80 g16871 (by omega) (by omega) (by omega) (by omega) (by omega) (by omega) (by omega) (by omega))) (by decide) (by decide) (fun w16874 h16874 q16874 => ?_)
            obtain ⟨rfl, g16874, kk16874⟩ := q16874
            have k16874 := k16871.tr kk16874 (by decide)
            show jEv _ _ _ _ _ _ _ (_, [(2, 7), (2, 1), (0, 12), (0, a3), (0, x4), (0, x5), (0, x6)], [], _, _, _)
            refine ev_iinc (w := (x6 + 1)) (L' := [(2, 7), (2, 1), (0, 12), (0, a3), (0, x4), (0, x5), (0, (x6 + 1))]) rfl (by unfold w32; omega) rfl ?_
            refine ev_goto f79_68 ?_
            exact ih _ _ _ _ _ g16874 k16874 (by omega) (by omega) (by omega) (by omega) (by omega) (by omega) (by omega) (by omega) (by omega) (by omega) (((kk16874.v (by decide)).trans ev16872)) (by omega) (by omega) (by omega)
          · refine ev_aload_n rfl ?_
            refine ev_bipush ?_
            refine ev_call (jcall_v (A := [(0, 44)]) (S' := []) (r := 7) rfl (g1.lt ad7) (g1.tg ad7) (Nat.le_of_ble_eq_true rfl)) (jOk_le (by decide) (s71 g1 (by omega) (by omega) (ey0) (by omega) (by omega))) (by decide) (by decide) (fun w16875 h16875 q16875 => ?_)
            obtain ⟨v16876, rfl, g16875, kk16875, ev16876, p16875_0⟩ := q16875
            have bv16876 := g16875.rg ad7 (i := 1) (by decide) rf7_1
            rw [ev16876] at bv16876
            have k16875 := k1.tr kk16875 (by decide)
            show jEv _ _ _ _ _ _ _ (_, [(2, 7), (2, 1), (0, 12), (0, a3), (0, x4), (0, x5), (0, x6)], [], _, _, _)
            refine ev_aload_n rfl ?_
            refine ev_iload rfl ?_
            refine ev_iload rfl ?_
            refine ev_iconst ?_
            refine ev_aload_n rfl ?_
            refine ev_aload_n rfl ?_
            refine ev_iload_n rfl ?_
            refine ev_iconst ?_
            refine ev_iadd (r := 13) (by decide) ?_
            refine ev_iload_n rfl ?_
            refine ev_iconst ?_
            refine ev_iload rfl ?_
            refine g_ishlB (a' := 1) (a := 1) (b := 3) (hi := 8) (by omega) (by omega) (by omega) (by omega) (by decide) (by decide) (fun v16877 ev16877 lv16877 uv16877 => ?_)
            refine g_iorG (fun v16878 ev16878 lv16878 uv16878 => ?_)
            refine ev_call (jcall_v (A := [(0, v16878), (0, 13), (2, 1)]) (S' := [(0, 0), (0, x6), (0, x5), (2, 7)]) (r := 7) rfl (g16875.lt ad7) (g16875.tg ad7) (Nat.le_of_ble_eq_true rfl)) (jOk_le (by decide) (s74_13 g16875 (by omega) (by omega) (ev16876) (by omega) (by omega))) (by decide) (by decide) (fun w16879 h16879 q16879 => ?_)
            obtain ⟨v16881, v16880, rfl, lv16881, uv16881, g16879, kk16879, ev16880, p16879_0, p16879_1⟩ := q16879
            have bv16880 := g16879.rg ad7 (i := 1) (by decide) rf7_1
            rw [ev16880] at bv16880
            have k16879 := k16875.tr kk16879 (by decide)
            show jEv _ _ _ _ _ _ _ (_, [(2, 7), (2, 1), (0, 12), (0, a3), (0, x4), (0, x5), (0, x6)], [(0, v16881), (0, 0), (0, x6), (0, x5), (2, 7)], _, _, _)
            refine ev_call (jcall_v (A := [(0, v16881), (0, 0), (0, x6), (0, x5)]) (S' := []) (r := 7) rfl (g16879.lt ad7) (g16879.tg ad7) (Nat.le_of_ble_eq_true rfl)) (jOk_le (by decide) (s80 g16879 (by omega) (by omega) (by omega) (by omega) (by omega) (by omega) (by omega) (by omega))) (by decide) (by decide) (fun w16882 h16882 q16882 => ?_)
            obtain ⟨rfl, g16882, kk16882⟩ := q16882
            have k16882 := k16879.tr kk16882 (by decide)
            show jEv _ _ _ _ _ _ _ (_, [(2, 7), (2, 1), (0, 12), (0, a3), (0, x4), (0, x5), (0, x6)], [], _, _, _)
            refine ev_iinc (w := (x6 + 1)) (L' := [(2, 7), (2, 1), (0, 12), (0, a3), (0, x4), (0, x5), (0, (x6 + 1))]) rfl (by unfold w32; omega) rfl ?_
            refine ev_goto f79_68 ?_
            exact ih _ _ _ _ _ g16882 k16882 (by omega) (by omega) (by omega) (by omega) (by omega) (by omega) (by omega) (by omega) (by omega) (by omega) (((kk16882.v (by decide)).trans ev16880)) (by omega) (by omega) (by omega)
set_option maxHeartbeats 4000000 in
theorem s79_12 {G : GH} {h : JH} (g : Gd G h) {a3 : Int} (la3 : (-2147483648) ≤ a3) (ua3 : a3 ≤ 2147483647) {w0 : Int} (ew0 : h.2.2 7 1 = w0) (lw0 : (-1) ≤ w0) (uw0 : w0 ≤ 200) {w1 : Int} (ew1 : h.2.2 7 2 = w1) (lw1 : 0 ≤ w1) (uw1 : w1 ≤ 199) : jOk 4 0 0 79 [(2, 7), (2, 1), (0, 12), (0, a3)] h (fun v h' => ∃ r F : Int, v = some (0, r) ∧ (-1) ≤ r ∧ r ≤ 199 ∧ Gd G h' ∧ Kp [(7, 2), (7, 3), (7, 4), (10, 0), (11, 0), (12, 0), (13, 0), (14, 0), (15, 0), (16, 0), (17, 0)] h h' ∧ h'.2.2 7 1 = F ∧ ((-F) + w0) ≤ 0 ∧ ((-F) + (-r)) ≤ 1) := by
  refine ⟨by decide, by rw [ml79]; exact Nat.le_of_ble_eq_true rfl, ?_⟩
  rw [ml79, pp79]
  show jEv _ none _ c79_0 0 0 _ (c79_0, [(2, 7), (2, 1), (0, 12), (0, a3), (9, 0), (9, 0), (9, 0)], [], h, 0, 0)
  have k0 := Kp.rf [(7, 2), (7, 3), (7, 4), (10, 0), (11, 0), (12, 0), (13, 0), (14, 0), (15, 0), (16, 0), (17, 0)] h
  refine ev_aload_n rfl ?_
  refine ev_dup (by decide) ?_
  refine g_getv (r := 7) (v := w1) g ad7 (by decide) ft5_2 (ew1) ?_
  refine ev_iconst ?_
  refine ev_iadd (r := (w1 + 1)) (by unfold w32; omega) ?_
  refine g_putf (r := 7) g ad7 (by decide) ft5_2 (by decide) (fun e => absurd e nz5_2) rf7_2 (by decide) (by omega) (by omega) (fun h16883 e16883 g16883 => ?_)
  have k16883 := k0.wr e16883 rfl
  refine ev_aload_n rfl ?_
  refine ev_in (d := 2) (a := 0) (b := 0) (cd' := c68_0) (m := 1) (L0 := [(2, 7)]) (jcall_v (A := []) (S' := []) (r := 7) rfl (g16883.lt ad7) (g16883.tg ad7) (Nat.le_of_ble_eq_true rfl)) (by decide) ml68 pp68 (Nat.le_of_ble_eq_true rfl) rfl (by decide) (by decide) ?_
  refine ev_aload_n rfl ?_
  refine g_getv (r := 7) (v := (w1 + 1)) g16883 ad7 (by decide) ft5_2 ((jw_eq e16883)) ?_
  refine ev_aload_n rfl ?_
  obtain ⟨v16884, ev16884, lv16884, uv16884⟩ := g16883.rd ad7 (show 0 < 15 by decide) rf7_0
  refine g_getv (r := 7) (v := v16884) g16883 ad7 (by decide) ft5_0 ev16884 ?_
  refine ev_icmpge f68_27 (fun c16885 => ?_) (fun c16885 => ?_)
  · refine ev_iconst ?_
    refine ev_ret rfl (by decide) (by decide) ?_
    show jEv _ _ _ _ _ _ _ (_, [(2, 7), (2, 1), (0, 12), (0, a3), (9, 0), (9, 0), (9, 0)], [(0, (-1))], _, _, _)
    refine ev_bipush ?_
    refine ev_isub (r := (-98)) (by decide) ?_
    refine ev_istore (L' := [(2, 7), (2, 1), (0, 12), (0, a3), (0, (-98)), (9, 0), (9, 0)]) (Nat.le_of_ble_eq_true rfl) rfl ?_
    refine ev_aload_n rfl ?_
    refine ev_iload rfl ?_
    refine ev_in (d := 2) (a := 0) (b := 0) (cd' := c140_0) (m := 2) (L0 := [(2, 1), (0, (-98))]) (jcall_v (A := [(0, (-98))]) (S' := []) (r := 1) rfl (g16883.lt ad1) (g16883.tg ad1) (Nat.le_of_ble_eq_true rfl)) (by decide) ml140 pp140 (Nat.le_of_ble_eq_true rfl) rfl (by decide) (by decide) ?_
    refine ev_iload_n rfl ?_
    refine ev_iflt f140_16 (fun c16886 => ?_) (fun c16886 => absurd c16886 (by omega))
    refine ev_iconst ?_
    refine ev_ret rfl (by decide) (by decide) ?_
    show jEv _ _ _ _ _ _ _ (_, [(2, 7), (2, 1), (0, 12), (0, a3), (0, (-98)), (9, 0), (9, 0)], [(0, 0)], _, _, _)
    refine ev_ifeq f79_37 (fun c16887 => ?_) (fun c16887 => absurd c16887 (by omega))
    refine ev_aload_n rfl ?_
    refine ev_in (d := 2) (a := 0) (b := 0) (cd' := c70_0) (m := 1) (L0 := [(2, 7)]) (jcall_v (A := []) (S' := []) (r := 7) rfl (g16883.lt ad7) (g16883.tg ad7) (Nat.le_of_ble_eq_true rfl)) (by decide) ml70 pp70 (Nat.le_of_ble_eq_true rfl) rfl (by decide) (by decide) ?_
    refine ev_aload_n rfl ?_
    refine g_getv (r := 7) (v := w0) g16883 ad7 (by decide) ft5_1 (((jw_ne e16883 (Or.inr (by decide))).trans ew0)) ?_
    refine ev_ifge f70_15 (fun c16888 => ?_) (fun c16888 => ?_)
    · refine ev_ret rfl (by decide) (by decide) ?_
      show jEv _ _ _ _ _ _ _ (_, [(2, 7), (2, 1), (0, 12), (0, a3), (0, (-98)), (9, 0), (9, 0)], [], _, _, _)
      refine ev_iconst ?_
      exact ev_ret rfl (by decide) (by decide) ⟨_, _, rfl, by omega, by omega, g16883, k16883, (((jw_ne e16883 (Or.inr (by decide))).trans ew0)), by omega, by omega⟩
    · refine ev_aload_n rfl ?_
      refine ev_aload_n rfl ?_
      refine g_getv (r := 7) (v := (w1 + 1)) g16883 ad7 (by decide) ft5_2 ((jw_eq e16883)) ?_
      refine g_putf (r := 7) g16883 ad7 (by decide) ft5_1 (by decide) (fun e => absurd e nz5_1) rf7_1 (by decide) (by omega) (by omega) (fun h16889 e16889 g16889 => ?_)
      have k16889 := k16883.wr e16889 rfl
      refine ev_ret rfl (by decide) (by decide) ?_
      show jEv _ _ _ _ _ _ _ (_, [(2, 7), (2, 1), (0, 12), (0, a3), (0, (-98)), (9, 0), (9, 0)], [], _, _, _)
      refine ev_iconst ?_
      exact ev_ret rfl (by decide) (by decide) ⟨_, _, rfl, by omega, by omega, g16889, k16889, ((jw_eq e16889)), by omega, by omega⟩
  · refine ev_aload_n rfl ?_
    refine g_getp (r := 7) (c := 8) g16883 ad7 (by decide) (by decide) rf7_5 ft5_5 ?_
    refine ev_aload_n rfl ?_
    refine g_getv (r := 7) (v := (w1 + 1)) g16883 ad7 (by decide) ft5_2 ((jw_eq e16883)) ?_
    refine g_bald g16883 ad8 rt8 (by omega) (by omega) (fun v16890 ev16890 lv16890 uv16890 => ?_)
    refine ev_sipush ?_
    refine g_iandB (b := 255) (by omega) (by omega) (by decide) (fun v16891 ev16891 lv16891 uv16891 => ?_)
    refine ev_goto f68_28 ?_
    refine ev_ret rfl (by decide) (by decide) ?_
    show jEv _ _ _ _ _ _ _ (_, [(2, 7), (2, 1), (0, 12), (0, a3), (9, 0), (9, 0), (9, 0)], [(0, v16891)], _, _, _)
    refine ev_bipush ?_
    refine ev_isub (r := (v16891 - 97)) (by unfold w32; omega) ?_
    refine ev_istore (L' := [(2, 7), (2, 1), (0, 12), (0, a3), (0, (v16891 - 97)), (9, 0), (9, 0)]) (Nat.le_of_ble_eq_true rfl) rfl ?_
    refine ev_aload_n rfl ?_
    refine ev_iload rfl ?_
    refine ev_in (d := 2) (a := 0) (b := 0) (cd' := c140_0) (m := 2) (L0 := [(2, 1), (0, (v16891 - 97))]) (jcall_v (A := [(0, (v16891 - 97))]) (S' := []) (r := 1) rfl (g16883.lt ad1) (g16883.tg ad1) (Nat.le_of_ble_eq_true rfl)) (by decide) ml140 pp140 (Nat.le_of_ble_eq_true rfl) rfl (by decide) (by decide) ?_
    refine ev_iload_n rfl ?_
    refine ev_iflt f140_16 (fun c16892 => ?_) (fun c16892 => ?_)
    · refine ev_iconst ?_
      refine ev_ret rfl (by decide) (by decide) ?_
      show jEv _ _ _ _ _ _ _ (_, [(2, 7), (2, 1), (0, 12), (0, a3), (0, (v16891 - 97)), (9, 0), (9, 0)], [(0, 0)], _, _, _)
      refine ev_ifeq f79_37 (fun c16893 => ?_) (fun c16893 => absurd c16893 (by omega))
      refine ev_aload_n rfl ?_
      refine ev_in (d := 2) (a := 0) (b := 0) (cd' := c70_0) (m := 1) (L0 := [(2, 7)]) (jcall_v (A := []) (S' := []) (r := 7) rfl (g16883.lt ad7) (g16883.tg ad7) (Nat.le_of_ble_eq_true rfl)) (by decide) ml70 pp70 (Nat.le_of_ble_eq_true rfl) rfl (by decide) (by decide) ?_
      refine ev_aload_n rfl ?_
      refine g_getv (r := 7) (v := w0) g16883 ad7 (by decide) ft5_1 (((jw_ne e16883 (Or.inr (by decide))).trans ew0)) ?_
      refine ev_ifge f70_15 (fun c16894 => ?_) (fun c16894 => ?_)
      · refine ev_ret rfl (by decide) (by decide) ?_
        show jEv _ _ _ _ _ _ _ (_, [(2, 7), (2, 1), (0, 12), (0, a3), (0, (v16891 - 97)), (9, 0), (9, 0)], [], _, _, _)
        refine ev_iconst ?_
        exact ev_ret rfl (by decide) (by decide) ⟨_, _, rfl, by omega, by omega, g16883, k16883, (((jw_ne e16883 (Or.inr (by decide))).trans ew0)), by omega, by omega⟩
      · refine ev_aload_n rfl ?_
        refine ev_aload_n rfl ?_
        refine g_getv (r := 7) (v := (w1 + 1)) g16883 ad7 (by decide) ft5_2 ((jw_eq e16883)) ?_
        refine g_putf (r := 7) g16883 ad7 (by decide) ft5_1 (by decide) (fun e => absurd e nz5_1) rf7_1 (by decide) (by omega) (by omega) (fun h16895 e16895 g16895 => ?_)
        have k16895 := k16883.wr e16895 rfl
        refine ev_ret rfl (by decide) (by decide) ?_
        show jEv _ _ _ _ _ _ _ (_, [(2, 7), (2, 1), (0, 12), (0, a3), (0, (v16891 - 97)), (9, 0), (9, 0)], [], _, _, _)
        refine ev_iconst ?_
        exact ev_ret rfl (by decide) (by decide) ⟨_, _, rfl, by omega, by omega, g16895, k16895, ((jw_eq e16895)), by omega, by omega⟩
    · refine ev_iload_n rfl ?_
      refine ev_aload_n rfl ?_
      obtain ⟨v16896, ev16896, lv16896, uv16896⟩ := g16883.rd ad1 (show 0 < 8 by decide) rf1_0
      refine g_getv (r := 1) (v := v16896) g16883 ad1 (by decide) ft10_0 ev16896 ?_
      refine ev_icmpge f140_16 (fun c16897 => ?_) (fun c16897 => ?_)
      · refine ev_iconst ?_
        refine ev_ret rfl (by decide) (by decide) ?_
        show jEv _ _ _ _ _ _ _ (_, [(2, 7), (2, 1), (0, 12), (0, a3), (0, (v16891 - 97)), (9, 0), (9, 0)], [(0, 0)], _, _, _)
        refine ev_ifeq f79_37 (fun c16898 => ?_) (fun c16898 => absurd c16898 (by omega))
        refine ev_aload_n rfl ?_
        refine ev_in (d := 2) (a := 0) (b := 0) (cd' := c70_0) (m := 1) (L0 := [(2, 7)]) (jcall_v (A := []) (S' := []) (r := 7) rfl (g16883.lt ad7) (g16883.tg ad7) (Nat.le_of_ble_eq_true rfl)) (by decide) ml70 pp70 (Nat.le_of_ble_eq_true rfl) rfl (by decide) (by decide) ?_
        refine ev_aload_n rfl ?_
        refine g_getv (r := 7) (v := w0) g16883 ad7 (by decide) ft5_1 (((jw_ne e16883 (Or.inr (by decide))).trans ew0)) ?_
        refine ev_ifge f70_15 (fun c16899 => ?_) (fun c16899 => ?_)
        · refine ev_ret rfl (by decide) (by decide) ?_
          show jEv _ _ _ _ _ _ _ (_, [(2, 7), (2, 1), (0, 12), (0, a3), (0, (v16891 - 97)), (9, 0), (9, 0)], [], _, _, _)
          refine ev_iconst ?_
          exact ev_ret rfl (by decide) (by decide) ⟨_, _, rfl, by omega, by omega, g16883, k16883, (((jw_ne e16883 (Or.inr (by decide))).trans ew0)), by omega, by omega⟩
        · refine ev_aload_n rfl ?_
          refine ev_aload_n rfl ?_
          refine g_getv (r := 7) (v := (w1 + 1)) g16883 ad7 (by decide) ft5_2 ((jw_eq e16883)) ?_
          refine g_putf (r := 7) g16883 ad7 (by decide) ft5_1 (by decide) (fun e => absurd e nz5_1) rf7_1 (by decide) (by omega) (by omega) (fun h16900 e16900 g16900 => ?_)
          have k16900 := k16883.wr e16900 rfl
          refine ev_ret rfl (by decide) (by decide) ?_
          show jEv _ _ _ _ _ _ _ (_, [(2, 7), (2, 1), (0, 12), (0, a3), (0, (v16891 - 97)), (9, 0), (9, 0)], [], _, _, _)
          refine ev_iconst ?_
          exact ev_ret rfl (by decide) (by decide) ⟨_, _, rfl, by omega, by omega, g16900, k16900, ((jw_eq e16900)), by omega, by omega⟩
      · refine ev_iconst ?_
        refine ev_goto f140_17 ?_
        refine ev_ret rfl (by decide) (by decide) ?_
        show jEv _ _ _ _ _ _ _ (_, [(2, 7), (2, 1), (0, 12), (0, a3), (0, (v16891 - 97)), (9, 0), (9, 0)], [(0, 1)], _, _, _)
        refine ev_ifeq f79_37 (fun c16901 => absurd c16901 (by omega)) (fun c16901 => ?_)
        refine ev_iload_n rfl ?_
        refine ev_iload rfl ?_
        refine g_ishrG (fun v16902 ev16902 lv16902 uv16902 => ?_)
        refine ev_iconst ?_
        refine g_iandB (b := 1) (by omega) (by omega) (by decide) (fun v16903 ev16903 lv16903 uv16903 => ?_)
        refine ev_ifeq f79_43 (fun c16904 => ?_) (fun c16904 => ?_)
        · refine ev_aload_n rfl ?_
          refine ev_dup (by decide) ?_
          refine g_getv (r := 7) (v := (w1 + 1)) g16883 ad7 (by decide) ft5_2 ((jw_eq e16883)) ?_
          refine ev_iconst ?_
          refine ev_iadd (r := (w1 + 2)) (by unfold w32; omega) ?_
          refine g_putf (r := 7) g16883 ad7 (by decide) ft5_2 (by decide) (fun e => absurd e nz5_2) rf7_2 (by decide) (by omega) (by omega) (fun h16905 e16905 g16905 => ?_)
          have k16905 := k16883.wr e16905 rfl
          refine ev_aload_n rfl ?_
          refine ev_iload_n rfl ?_
          refine ev_call (jcall_v (A := [(0, 12)]) (S' := []) (r := 7) rfl (g16905.lt ad7) (g16905.tg ad7) (Nat.le_of_ble_eq_true rfl)) (jOk_le (by decide) (s72 g16905 (by omega) (by omega) (((jw_ne e16905 (Or.inr (by decide))).trans ((jw_ne e16883 (Or.inr (by decide))).trans ew0))) (by omega) (by omega))) (by decide) (by decide) (fun w16906 h16906 q16906 => ?_)
          obtain ⟨v16907, rfl, g16906, kk16906, ev16907, p16906_0⟩ := q16906
          have bv16907 := g16906.rg ad7 (i := 1) (by decide) rf7_1
          rw [ev16907] at bv16907
          have k16906 := k16905.tr kk16906 (by decide)
          show jEv _ _ _ _ _ _ _ (_, [(2, 7), (2, 1), (0, 12), (0, a3), (0, (v16891 - 97)), (9, 0), (9, 0)], [], _, _, _)
          refine ev_aload_n rfl ?_
          refine ev_iconst ?_
          refine ev_call (jcall_v (A := [(0, 2)]) (S' := []) (r := 7) rfl (g16906.lt ad7) (g16906.tg ad7) (Nat.le_of_ble_eq_true rfl)) (jOk_le (by decide) (s73 g16906 (by omega) (by omega) (ev16907) (by omega) (by omega))) (by decide) (by decide) (fun w16908 h16908 q16908 => ?_)
          obtain ⟨v16910, v16909, rfl, lv16910, uv16910, g16908, kk16908, ev16909, p16908_0, p16908_1⟩ := q16908
          have bv16909 := g16908.rg ad7 (i := 1) (by decide) rf7_1
          rw [ev16909] at bv16909
          have k16908 := k16906.tr kk16908 (by decide)
          show jEv _ _ _ _ _ _ _ (_, [(2, 7), (2, 1), (0, 12), (0, a3), (0, (v16891 - 97)), (9, 0), (9, 0)], [(0, v16910)], _, _, _)
          refine ev_istore (L' := [(2, 7), (2, 1), (0, 12), (0, a3), (0, (v16891 - 97)), (0, v16910), (9, 0)]) (Nat.le_of_ble_eq_true rfl) rfl ?_
          refine ev_iconst ?_
          refine ev_istore (L' := [(2, 7), (2, 1), (0, 12), (0, a3), (0, (v16891 - 97)), (0, v16910), (0, 0)]) (Nat.le_of_ble_eq_true rfl) rfl ?_
          exact (s79_12_l la3 ua3 ew0 lw0 uw0 ew1 lw1 uw1 8) _ _ _ _ _ g16908 k16908 (by omega) (by omega) (by omega) (by omega) (by omega) (by omega) (by omega) (by omega) (by omega) (by omega) (ev16909) (by omega) (by omega) (by omega)
        · refine ev_aload_n rfl ?_
          refine ev_in (d := 2) (a := 0) (b := 0) (cd' := c70_0) (m := 1) (L0 := [(2, 7)]) (jcall_v (A := []) (S' := []) (r := 7) rfl (g16883.lt ad7) (g16883.tg ad7) (Nat.le_of_ble_eq_true rfl)) (by decide) ml70 pp70 (Nat.le_of_ble_eq_true rfl) rfl (by decide) (by decide) ?_
          refine ev_aload_n rfl ?_
          refine g_getv (r := 7) (v := w0) g16883 ad7 (by decide) ft5_1 (((jw_ne e16883 (Or.inr (by decide))).trans ew0)) ?_
          refine ev_ifge f70_15 (fun c16911 => ?_) (fun c16911 => ?_)
          · refine ev_ret rfl (by decide) (by decide) ?_
            show jEv _ _ _ _ _ _ _ (_, [(2, 7), (2, 1), (0, 12), (0, a3), (0, (v16891 - 97)), (9, 0), (9, 0)], [], _, _, _)
            refine ev_iconst ?_
            exact ev_ret rfl (by decide) (by decide) ⟨_, _, rfl, by omega, by omega, g16883, k16883, (((jw_ne e16883 (Or.inr (by decide))).trans ew0)), by omega, by omega⟩
          · refine ev_aload_n rfl ?_
            refine ev_aload_n rfl ?_
            refine g_getv (r := 7) (v := (w1 + 1)) g16883 ad7 (by decide) ft5_2 ((jw_eq e16883)) ?_
            refine g_putf (r := 7) g16883 ad7 (by decide) ft5_1 (by decide) (fun e => absurd e nz5_1) rf7_1 (by decide) (by omega) (by omega) (fun h16912 e16912 g16912 => ?_)
            have k16912 := k16883.wr e16912 rfl
            refine ev_ret rfl (by decide) (by decide) ?_
            show jEv _ _ _ _ _ _ _ (_, [(2, 7), (2, 1), (0, 12), (0, a3), (0, (v16891 - 97)), (9, 0), (9, 0)], [], _, _, _)
            refine ev_iconst ?_
            exact ev_ret rfl (by decide) (by decide) ⟨_, _, rfl, by omega, by omega, g16912, k16912, ((jw_eq e16912)), by omega, by omega⟩
/-! s74_12  -/
set_option maxHeartbeats 4000000 in
theorem s74_12 {G : GH} {h : JH} (g : Gd G h) {a3 : Int} (la3 : (-2147483648) ≤ a3) (ua3 : a3 ≤ 2147483647) {w0 : Int} (ew0 : h.2.2 7 1 = w0) (lw0 : (-1) ≤ w0) (uw0 : w0 ≤ 200) : jOk 5 0 0 74 [(2, 7), (2, 1), (0, 12), (0, a3)] h (fun v h' => ∃ r F : Int, v = some (0, r) ∧ (-1) ≤ r ∧ r ≤ 199 ∧ Gd G h' ∧ Kp [(7, 2), (7, 3), (7, 4), (10, 0), (11, 0), (12, 0), (13, 0), (14, 0), (15, 0), (16, 0), (17, 0)] h h' ∧ h'.2.2 7 1 = F ∧ ((-F) + w0) ≤ 0 ∧ ((-F) + (-r)) ≤ 1) := by
  refine ⟨by decide, by rw [ml74]; exact Nat.le_of_ble_eq_true rfl, ?_⟩
  rw [ml74, pp74]
  show jEv _ none _ c74_0 0 0 _ (c74_0, [(2, 7), (2, 1), (0, 12), (0, a3), (9, 0)], [], h, 0, 0)
  have k0 := Kp.rf [(7, 2), (7, 3), (7, 4), (10, 0), (11, 0), (12, 0), (13, 0), (14, 0), (15, 0), (16, 0), (17, 0)] h
  refine ev_aload_n rfl ?_
  refine g_getv (r := 7) (v := w0) g ad7 (by decide) ft5_1 (ew0) ?_
  refine ev_ifge f74_13 (fun c16979 => ?_) (fun c16979 => ?_)
  · refine ev_aload_n rfl ?_
    refine ev_in (d := 3) (a := 0) (b := 0) (cd' := c70_0) (m := 1) (L0 := [(2, 7)]) (jcall_v (A := []) (S' := []) (r := 7) rfl (g.lt ad7) (g.tg ad7) (Nat.le_of_ble_eq_true rfl)) (by decide) ml70 pp70 (Nat.le_of_ble_eq_true rfl) rfl (by decide) (by decide) ?_
    refine ev_aload_n rfl ?_
    refine g_getv (r := 7) (v := w0) g ad7 (by decide) ft5_1 (ew0) ?_
    refine ev_ifge f70_15 (fun c16980 => ?_) (fun c16980 => absurd c16980 (by omega))
    refine ev_ret rfl (by decide) (by decide) ?_
    show jEv _ _ _ _ _ _ _ (_, [(2, 7), (2, 1), (0, 12), (0, a3), (9, 0)], [], _, _, _)
    refine ev_iconst ?_
    exact ev_ret rfl (by decide) (by decide) ⟨_, _, rfl, by omega, by omega, g, k0, (ew0), by omega, by omega⟩
  · refine ev_iload_n rfl ?_
    refine ev_bipush ?_
    refine ev_icmple f74_19 (fun c16981 => ?_) (fun c16981 => absurd c16981 (by omega))
    refine ev_aload_n rfl ?_
    refine ev_in (d := 3) (a := 0) (b := 0) (cd' := c68_0) (m := 1) (L0 := [(2, 7)]) (jcall_v (A := []) (S' := []) (r := 7) rfl (g.lt ad7) (g.tg ad7) (Nat.le_of_ble_eq_true rfl)) (by decide) ml68 pp68 (Nat.le_of_ble_eq_true rfl) rfl (by decide) (by decide) ?_
    refine ev_aload_n rfl ?_
    obtain ⟨v16982, ev16982, lv16982, uv16982⟩ := g.rd ad7 (show 2 < 15 by decide) rf7_2
    refine g_getv (r := 7) (v := v16982) g ad7 (by decide) ft5_2 ev16982 ?_
    refine ev_aload_n rfl ?_
    obtain ⟨v16983, ev16983, lv16983, uv16983⟩ := g.rd ad7 (show 0 < 15 by decide) rf7_0
    refine g_getv (r := 7) (v := v16983) g ad7 (by decide) ft5_0 ev16983 ?_
    refine ev_icmpge f68_27 (fun c16984 => ?_) (fun c16984 => ?_)
    · refine ev_iconst ?_
      refine ev_ret rfl (by decide) (by decide) ?_
      show jEv _ _ _ _ _ _ _ (_, [(2, 7), (2, 1), (0, 12), (0, a3), (9, 0)], [(0, (-1))], _, _, _)
      refine ev_istore (L' := [(2, 7), (2, 1), (0, 12), (0, a3), (0, (-1))]) (Nat.le_of_ble_eq_true rfl) rfl ?_
      refine ev_iload rfl ?_
      refine ev_bipush ?_
      refine ev_icmpne f74_40 (fun c16985 => ?_) (fun c16985 => absurd c16985 (by omega))
      refine ev_iload rfl ?_
      refine ev_bipush ?_
      refine ev_icmpne f74_55 (fun c16986 => ?_) (fun c16986 => absurd c16986 (by omega))
      refine ev_iload rfl ?_
      refine ev_bipush ?_
      refine ev_icmplt f74_78 (fun c16987 => ?_) (fun c16987 => absurd c16987 (by omega))
      refine ev_aload_n rfl ?_
      refine ev_call (jcall_v (A := []) (S' := []) (r := 7) rfl (g.lt ad7) (g.tg ad7) (Nat.le_of_ble_eq_true rfl)) (jOk_le (by decide) (s75 g (ew0) (by omega) (by omega))) (by decide) (by decide) (fun w16988 h16988 q16988 => ?_)
      obtain ⟨v16990, v16989, rfl, lv16990, uv16990, g16988, kk16988, ev16989, p16988_0, p16988_1⟩ := q16988
      have bv16989 := g16988.rg ad7 (i := 1) (by decide) rf7_1
      rw [ev16989] at bv16989
      have k16988 := k0.tr kk16988 (by decide)
      show jEv _ _ _ _ _ _ _ (_, [(2, 7), (2, 1), (0, 12), (0, a3), (0, (-1))], [(0, v16990)], _, _, _)
      exact ev_ret rfl (by decide) (by decide) ⟨_, _, rfl, by omega, by omega, g16988, k16988, (ev16989), by omega, by omega⟩
    · refine ev_aload_n rfl ?_
      refine g_getp (r := 7) (c := 8) g ad7 (by decide) (by decide) rf7_5 ft5_5 ?_
      refine ev_aload_n rfl ?_
      refine g_getv (r := 7) (v := v16982) g ad7 (by decide) ft5_2 (ev16982) ?_
      refine g_bald g ad8 rt8 (by omega) (by omega) (fun v16991 ev16991 lv16991 uv16991 => ?_)
      refine ev_sipush ?_
      refine g_iandB (b := 255) (by omega) (by omega) (by decide) (fun v16992 ev16992 lv16992 uv16992 => ?_)
      refine ev_goto f68_28 ?_
      refine ev_ret rfl (by decide) (by decide) ?_
      show jEv _ _ _ _ _ _ _ (_, [(2, 7), (2, 1), (0, 12), (0, a3), (9, 0)], [(0, v16992)], _, _, _)
      refine ev_istore (L' := [(2, 7), (2, 1), (0, 12), (0, a3), (0, v16992)]) (Nat.le_of_ble_eq_true rfl) rfl ?_
      refine ev_iload rfl ?_
      refine ev_bipush ?_
      refine ev_icmpne f74_40 (fun c16993 => ?_) (fun c16993 => ?_)
      · refine ev_iload rfl ?_
        refine ev_bipush ?_
        refine ev_icmpne f74_55 (fun c16994 => ?_) (fun c16994 => ?_)
        · refine ev_iload rfl ?_
          refine ev_bipush ?_
          refine ev_icmplt f74_78 (fun c16995 => ?_) (fun c16995 => ?_)
          · refine ev_aload_n rfl ?_
            refine ev_call (jcall_v (A := []) (S' := []) (r := 7) rfl (g.lt ad7) (g.tg ad7) (Nat.le_of_ble_eq_true rfl)) (jOk_le (by decide) (s75 g (ew0) (by omega) (by omega))) (by decide) (by decide) (fun w16996 h16996 q16996 => ?_)
            obtain ⟨v16998, v16997, rfl, lv16998, uv16998, g16996, kk16996, ev16997, p16996_0, p16996_1⟩ := q16996
            have bv16997 := g16996.rg ad7 (i := 1) (by decide) rf7_1
            rw [ev16997] at bv16997
            have k16996 := k0.tr kk16996 (by decide)
            show jEv _ _ _ _ _ _ _ (_, [(2, 7), (2, 1), (0, 12), (0, a3), (0, v16992)], [(0, v16998)], _, _, _)
            exact ev_ret rfl (by decide) (by decide) ⟨_, _, rfl, by omega, by omega, g16996, k16996, (ev16997), by omega, by omega⟩
          · refine ev_iload rfl ?_
            refine ev_bipush ?_
            refine ev_icmpge f74_78 (fun c16999 => ?_) (fun c16999 => ?_)
            · refine ev_aload_n rfl ?_
              refine ev_call (jcall_v (A := []) (S' := []) (r := 7) rfl (g.lt ad7) (g.tg ad7) (Nat.le_of_ble_eq_true rfl)) (jOk_le (by decide) (s75 g (ew0) (by omega) (by omega))) (by decide) (by decide) (fun w17000 h17000 q17000 => ?_)
              obtain ⟨v17002, v17001, rfl, lv17002, uv17002, g17000, kk17000, ev17001, p17000_0, p17000_1⟩ := q17000
              have bv17001 := g17000.rg ad7 (i := 1) (by decide) rf7_1
              rw [ev17001] at bv17001
              have k17000 := k0.tr kk17000 (by decide)
              show jEv _ _ _ _ _ _ _ (_, [(2, 7), (2, 1), (0, 12), (0, a3), (0, v16992)], [(0, v17002)], _, _, _)
              exact ev_ret rfl (by decide) (by decide) ⟨_, _, rfl, by omega, by omega, g17000, k17000, (ev17001), by omega, by omega⟩
            · refine ev_aload_n rfl ?_
              refine ev_iload_n rfl ?_
              refine ev_iload_n rfl ?_
              refine ev_call (jcall_v (A := [(0, a3), (0, 12)]) (S' := []) (r := 7) rfl (g.lt ad7) (g.tg ad7) (Nat.le_of_ble_eq_true rfl)) (jOk_le (by decide) (s77 g (by omega) (by omega) (by omega) (by omega) (ew0) (by omega) (by omega))) (by decide) (by decide) (fun w17003 h17003 q17003 => ?_)
              obtain ⟨v17005, v17004, rfl, lv17005, uv17005, g17003, kk17003, ev17004, p17003_0, p17003_1⟩ := q17003
              have bv17004 := g17003.rg ad7 (i := 1) (by decide) rf7_1
              rw [ev17004] at bv17004
              have k17003 := k0.tr kk17003 (by decide)
              show jEv _ _ _ _ _ _ _ (_, [(2, 7), (2, 1), (0, 12), (0, a3), (0, v16992)], [(0, v17005)], _, _, _)
              refine ev_goto f74_82 ?_
              exact ev_ret rfl (by decide) (by decide) ⟨_, _, rfl, by omega, by omega, g17003, k17003, (ev17004), by omega, by omega⟩
        · refine ev_aload_n rfl ?_
          refine ev_aload_n rfl ?_
          refine ev_iload_n rfl ?_
          refine ev_iload_n rfl ?_
          refine ev_call (jcall_v (A := [(0, a3), (0, 12), (2, 1)]) (S' := []) (r := 7) rfl (g.lt ad7) (g.tg ad7) (Nat.le_of_ble_eq_true rfl)) (jOk_le (by decide) (s79_12 g (by omega) (by omega) (ew0) (by omega) (by omega) (ev16982) (by omega) (by omega))) (by decide) (by decide) (fun w17006 h17006 q17006 => ?_)
          obtain ⟨v17008, v17007, rfl, lv17008, uv17008, g17006, kk17006, ev17007, p17006_0, p17006_1⟩ := q17006
          have bv17007 := g17006.rg ad7 (i := 1) (by decide) rf7_1
          rw [ev17007] at bv17007
          have k17006 := k0.tr kk17006 (by decide)
          show jEv _ _ _ _ _ _ _ (_, [(2, 7), (2, 1), (0, 12), (0, a3), (0, v16992)], [(0, v17008)], _, _, _)
          exact ev_ret rfl (by decide) (by decide) ⟨_, _, rfl, by omega, by omega, g17006, k17006, (ev17007), by omega, by omega⟩
      · refine ev_aload_n rfl ?_
        refine ev_aload_n rfl ?_
        refine ev_iload_n rfl ?_
        refine ev_iload_n rfl ?_
        refine ev_call (jcall_v (A := [(0, a3), (0, 12), (2, 1)]) (S' := []) (r := 7) rfl (g.lt ad7) (g.tg ad7) (Nat.le_of_ble_eq_true rfl)) (jOk_le (by decide) (s78_12 g (by omega) (by omega) (ew0) (by omega) (by omega) (ev16982) (by omega) (by omega))) (by decide) (by decide) (fun w17009 h17009 q17009 => ?_)
        obtain ⟨v17011, v17010, rfl, lv17011, uv17011, g17009, kk17009, ev17010, p17009_0, p17009_1⟩ := q17009
        have bv17010 := g17009.rg ad7 (i := 1) (by decide) rf7_1
        rw [ev17010] at bv17010
        have k17009 := k0.tr kk17009 (by decide)
        show jEv _ _ _ _ _ _ _ (_, [(2, 7), (2, 1), (0, 12), (0, a3), (0, v16992)], [(0, v17011)], _, _, _)
        exact ev_ret rfl (by decide) (by decide) ⟨_, _, rfl, by omega, by omega, g17009, k17009, (ev17010), by omega, by omega⟩
/-! s78_11  -/
set_option maxHeartbeats 4000000 in
theorem s78_11_l {G : GH} {h : JH} {a3 : Int} (la3 : (-2147483648) ≤ a3) (ua3 : a3 ≤ 2147483647) {w0 : Int} (ew0 : h.2.2 7 1 = w0) (lw0 : (-1) ≤ w0) (uw0 : w0 ≤ 200) {w1 : Int} (ew1 : h.2.2 7 2 = w1) (lw1 : 0 ≤ w1) (uw1 : w1 ≤ 199) : ∀ N : Nat, (∀ (h1 : JH) (x4 x5 y0 : Int) (j6 : AV), Gd G h1 → Kp [(7, 2), (7, 3), (7, 4), (10, 0), (11, 0), (12, 0), (13, 0), (14, 0), (15, 0), (16, 0), (17, 0)] h h1 → (-2147483648) ≤ a3 → a3 ≤ 2147483647 → (-1) ≤ x4 → x4 ≤ 199 → 0 ≤ x5 → x5 ≤ 3 → (w0 + (-y0)) ≤ 0 → ((-x4) + (-y0)) ≤ 1 → h1.2.2 7 1 = y0 → (-1) ≤ y0 → y0 ≤ 200 → ((-x5) + 3) < N → jEv (jOk 5) none (fun _ => 0) c78_0 0 0 (fun v h' => ∃ r F : Int, v = some (0, r) ∧ (-1) ≤ r ∧ r ≤ 199 ∧ Gd G h' ∧ Kp [(7, 2), (7, 3), (7, 4), (10, 0), (11, 0), (12, 0), (13, 0), (14, 0), (15, 0), (16, 0), (17, 0)] h h' ∧ h'.2.2 7 1 = F ∧ ((-F) + w0) ≤ 0 ∧ ((-F) + (-r)) ≤ 1) (c78_25, [(2, 7), (2, 1), (0, 11), (0, a3), (0, x4), (0, x5), j6], [], h1, 0, 0)) := by
  intro N
  induction N with
  | zero => exact fun h1 x4 x5 y0 j6 g1 k1 b0 b1 b2 b3 b4 b5 b6 b7 b8 b9 b10 hm => absurd hm (by omega)
  | succ N ih =>
    show _
    intro h1 x4 x5 y0 j6 g1 k1 b0 b1 b2 b3 b4 b5 b6 b7 ey0 ly0 uy0 hm
    refine ev_iload rfl ?_
    refine ev_iconst ?_
    refine ev_icmpge f78_100 (fun c17180 => absurd c17180 (by omega)) (fun c17180 => ?_)
    refine ev_aload_n rfl ?_
    refine g_getv (r := 7) (v := y0) g1 ad7 (by decide) ft5_1 (ey0) ?_
    refine ev_ifge f78_100 (fun c17181 => ?_) (fun c17181 => ?_)
    · refine ev_aload_n rfl ?_
      refine ev_bipush ?_
      refine ev_call (jcall_v (A := [(0, 41)]) (S' := []) (r := 7) rfl (g1.lt ad7) (g1.tg ad7) (Nat.le_of_ble_eq_true rfl)) (jOk_le (by decide) (s71 g1 (by omega) (by omega) (ey0) (by omega) (by omega))) (by decide) (by decide) (fun w17182 h17182 q17182 => ?_)
      obtain ⟨v17183, rfl, g17182, kk17182, ev17183, p17182_0⟩ := q17182
      have bv17183 := g17182.rg ad7 (i := 1) (by decide) rf7_1
      rw [ev17183] at bv17183
      have k17182 := k1.tr kk17182 (by decide)
      show jEv _ _ _ _ _ _ _ (_, [(2, 7), (2, 1), (0, 11), (0, a3), (0, x4), (0, x5), j6], [], _, _, _)
      refine ev_aload_n rfl ?_
      refine g_getv (r := 7) (v := v17183) g17182 ad7 (by decide) ft5_1 (ev17183) ?_
      refine ev_iflt f78_117 (fun c17184 => absurd c17184 (by omega)) (fun c17184 => ?_)
      refine ev_iconst ?_
      refine ev_goto f78_119 ?_
      exact ev_ret rfl (by decide) (by decide) ⟨_, _, rfl, by omega, by omega, g17182, k17182, (ev17183), by omega, by omega⟩
    · refine ev_aload_n rfl ?_
      refine ev_iconst ?_
      refine ev_call (jcall_v (A := [(0, 2)]) (S' := []) (r := 7) rfl (g1.lt ad7) (g1.tg ad7) (Nat.le_of_ble_eq_true rfl)) (jOk_le (by decide) (s76 g1 (by omega) (by omega) (ey0) (by omega) (by omega))) (by decide) (by decide) (fun w17185 h17185 q17185 => ?_)
      obtain ⟨v17187, v17186, rfl, lv17187, uv17187, g17185, kk17185, ev17186, p17185_0⟩ := q17185
      have bv17186 := g17185.rg ad7 (i := 1) (by decide) rf7_1
      rw [ev17186] at bv17186
      have k17185 := k1.tr kk17185 (by decide)
      show jEv _ _ _ _ _ _ _ (_, [(2, 7), (2, 1), (0, 11), (0, a3), (0, x4), (0, x5), j6], [(0, v17187)], _, _, _)
      refine ev_istore (L' := [(2, 7), (2, 1), (0, 11), (0, a3), (0, x4), (0, x5), (0, v17187)]) (Nat.le_of_ble_eq_true rfl) rfl ?_
      refine ev_aload_n rfl ?_
      refine ev_bipush ?_
      refine ev_call (jcall_v (A := [(0, 58)]) (S' := []) (r := 7) rfl (g17185.lt ad7) (g17185.tg ad7) (Nat.le_of_ble_eq_true rfl)) (jOk_le (by decide) (s71 g17185 (by omega) (by omega) (ev17186) (by omega) (by omega))) (by decide) (by decide) (fun w17188 h17188 q17188 => ?_)
      obtain ⟨v17189, rfl, g17188, kk17188, ev17189, p17188_0⟩ := q17188
      have bv17189 := g17188.rg ad7 (i := 1) (by decide) rf7_1
      rw [ev17189] at bv17189
      have k17188 := k17185.tr kk17188 (by decide)
      show jEv _ _ _ _ _ _ _ (_, [(2, 7), (2, 1), (0, 11), (0, a3), (0, x4), (0, x5), (0, v17187)], [], _, _, _)
      refine ev_aload_n rfl ?_
      refine ev_iload rfl ?_
      refine ev_iload rfl ?_
      refine ev_iload rfl ?_
      refine ev_aload_n rfl ?_
      refine ev_aload_n rfl ?_
      refine ev_iload_n rfl ?_
      refine ev_iconst ?_
      refine ev_iadd (r := 12) (by decide) ?_
      refine ev_iload_n rfl ?_
      refine ev_call (jcall_v (A := [(0, a3), (0, 12), (2, 1)]) (S' := [(0, v17187), (0, x5), (0, x4), (2, 7)]) (r := 7) rfl (g17188.lt ad7) (g17188.tg ad7) (Nat.le_of_ble_eq_true rfl)) (jOk_le (by decide) (s74_12 g17188 (by omega) (by omega) (ev17189) (by omega) (by omega))) (by decide) (by decide) (fun w17190 h17190 q17190 => ?_)
      obtain ⟨v17192, v17191, rfl, lv17192, uv17192, g17190, kk17190, ev17191, p17190_0, p17190_1⟩ := q17190
      have bv17191 := g17190.rg ad7 (i := 1) (by decide) rf7_1
      rw [ev17191] at bv17191
      have k17190 := k17188.tr kk17190 (by decide)
      show jEv _ _ _ _ _ _ _ (_, [(2, 7), (2, 1), (0, 11), (0, a3), (0, x4), (0, x5), (0, v17187)], [(0, v17192), (0, v17187), (0, x5), (0, x4), (2, 7)], _, _, _)
      refine ev_call (jcall_v (A := [(0, v17192), (0, v17187), (0, x5), (0, x4)]) (S' := []) (r := 7) rfl (g17190.lt ad7) (g17190.tg ad7) (Nat.le_of_ble_eq_true rfl)) (jOk_le (by decide) (s80 g17190 (by omega) (by omega) (by omega) (by omega) (by omega) (by omega) (by omega) (by omega))) (by decide) (by decide) (fun w17193 h17193 q17193 => ?_)
      obtain ⟨rfl, g17193, kk17193⟩ := q17193
      have k17193 := k17190.tr kk17193 (by decide)
      show jEv _ _ _ _ _ _ _ (_, [(2, 7), (2, 1), (0, 11), (0, a3), (0, x4), (0, x5), (0, v17187)], [], _, _, _)
      refine ev_aload_n rfl ?_
      refine ev_in (d := 4) (a := 0) (b := 0) (cd' := c68_0) (m := 1) (L0 := [(2, 7)]) (jcall_v (A := []) (S' := []) (r := 7) rfl (g17193.lt ad7) (g17193.tg ad7) (Nat.le_of_ble_eq_true rfl)) (by decide) ml68 pp68 (Nat.le_of_ble_eq_true rfl) rfl (by decide) (by decide) ?_
      refine ev_aload_n rfl ?_
      obtain ⟨v17194, ev17194, lv17194, uv17194⟩ := g17193.rd ad7 (show 2 < 15 by decide) rf7_2
      refine g_getv (r := 7) (v := v17194) g17193 ad7 (by decide) ft5_2 ev17194 ?_
      refine ev_aload_n rfl ?_
      obtain ⟨v17195, ev17195, lv17195, uv17195⟩ := g17193.rd ad7 (show 0 < 15 by decide) rf7_0
      refine g_getv (r := 7) (v := v17195) g17193 ad7 (by decide) ft5_0 ev17195 ?_
      refine ev_icmpge f68_27 (fun c17196 => ?_) (fun c17196 => ?_)
      · refine ev_iconst ?_
        refine ev_ret rfl (by decide) (by decide) ?_
        show jEv _ _ _ _ _ _ _ (_, [(2, 7), (2, 1), (0, 11), (0, a3), (0, x4), (0, x5), (0, v17187)], [(0, (-1))], _, _, _)
        refine ev_bipush ?_
        refine ev_icmpne f78_100 (fun c17197 => ?_) (fun c17197 => absurd c17197 (by omega))
        refine ev_aload_n rfl ?_
        refine ev_bipush ?_
        refine ev_call (jcall_v (A := [(0, 41)]) (S' := []) (r := 7) rfl (g17193.lt ad7) (g17193.tg ad7) (Nat.le_of_ble_eq_true rfl)) (jOk_le (by decide) (s71 g17193 (by omega) (by omega) (((kk17193.v (by decide)).trans ev17191)) (by omega) (by omega))) (by decide) (by decide) (fun w17198 h17198 q17198 => ?_)
        obtain ⟨v17199, rfl, g17198, kk17198, ev17199, p17198_0⟩ := q17198
        have bv17199 := g17198.rg ad7 (i := 1) (by decide) rf7_1
        rw [ev17199] at bv17199
        have k17198 := k17193.tr kk17198 (by decide)
        show jEv _ _ _ _ _ _ _ (_, [(2, 7), (2, 1), (0, 11), (0, a3), (0, x4), (0, x5), (0, v17187)], [], _, _, _)
        refine ev_aload_n rfl ?_
        refine g_getv (r := 7) (v := v17199) g17198 ad7 (by decide) ft5_1 (ev17199) ?_
        refine ev_iflt f78_117 (fun c17200 => ?_) (fun c17200 => ?_)
        · refine ev_iload rfl ?_
          exact ev_ret rfl (by decide) (by decide) ⟨_, _, rfl, by omega, by omega, g17198, k17198, (ev17199), by omega, by omega⟩
        · refine ev_iconst ?_
          refine ev_goto f78_119 ?_
          exact ev_ret rfl (by decide) (by decide) ⟨_, _, rfl, by omega, by omega, g17198, k17198, (ev17199), by omega, by omega⟩
      · refine ev_aload_n rfl ?_
        refine g_getp (r := 7) (c := 8) g17193 ad7 (by decide) (by decide) rf7_5 ft5_5 ?_
        refine ev_aload_n rfl ?_
        refine g_getv (r := 7) (v := v17194) g17193 ad7 (by decide) ft5_2 (ev17194) ?_
        refine g_bald g17193 ad8 rt8 (by omega) (by omega) (fun v17201 ev17201 lv17201 uv17201 => ?_)
        refine ev_sipush ?_
        refine g_iandB (b := 255) (by omega) (by omega) (by decide) (fun v17202 ev17202 lv17202 uv17202 => ?_)
        refine ev_goto f68_28 ?_
        refine ev_ret rfl (by decide) (by decide) ?_
        show jEv _ _ _ _ _ _ _ (_, [(2, 7), (2, 1), (0, 11), (0, a3), (0, x4), (0, x5), (0, v17187)], [(0, v17202)], _, _, _)
        refine ev_bipush ?_
        refine ev_icmpne f78_100 (fun c17203 => ?_) (fun c17203 => ?_)
        · refine ev_aload_n rfl ?_
          refine ev_bipush ?_
          refine ev_call (jcall_v (A := [(0, 41)]) (S' := []) (r := 7) rfl (g17193.lt ad7) (g17193.tg ad7) (Nat.le_of_ble_eq_true rfl)) (jOk_le (by decide) (s71 g17193 (by omega) (by omega) (((kk17193.v (by decide)).trans ev17191)) (by omega) (by omega))) (by decide) (by decide) (fun w17204 h17204 q17204 => ?_)
          obtain ⟨v17205, rfl, g17204, kk17204, ev17205, p17204_0⟩ := q17204
          have bv17205 := g17204.rg ad7 (i := 1) (by decide) rf7_1
          rw [ev17205] at bv17205
          have k17204 := k17193.tr kk17204 (by decide)
          show jEv _ _ _ _ _ _ _ (_, [(2, 7), (2, 1), (0, 11), (0, a3), (0, x4), (0, x5), (0, v17187)], [], _, _, _)
          refine ev_aload_n rfl ?_
          refine g_getv (r := 7) (v := v17205) g17204 ad7 (by decide) ft5_1 (ev17205) ?_
          refine ev_iflt f78_117 (fun c17206 => ?_) (fun c17206 => ?_)
          · refine ev_iload rfl ?_
            exact ev_ret rfl (by decide) (by decide) ⟨_, _, rfl, by omega, by omega, g17204, k17204, (ev17205), by omega, by omega⟩
          · refine ev_iconst ?_
            refine ev_goto f78_119 ?_
            exact ev_ret rfl (by decide) (by decide) ⟨_, _, rfl, by omega, by omega, g17204, k17204, (ev17205), by omega, by omega⟩
        · refine ev_iload rfl ?_
          refine ev_iconst ?_
          refine ev_icmpne f78_88 (fun c17207 => ?_) (fun c17207 => ?_)
          · refine ev_aload_n rfl ?_
            refine ev_bipush ?_
            refine ev_call (jcall_v (A := [(0, 44)]) (S' := []) (r := 7) rfl (g17193.lt ad7) (g17193.tg ad7) (Nat.le_of_ble_eq_true rfl)) (jOk_le (by decide) (s71 g17193 (by omega) (by omega) (((kk17193.v (by decide)).trans ev17191)) (by omega) (by omega))) (by decide) (by decide) (fun w17208 h17208 q17208 => ?_)
            obtain ⟨v17209, rfl, g17208, kk17208, ev17209, p17208_0⟩ := q17208
            have bv17209 := g17208.rg ad7 (i := 1) (by decide) rf7_1
            rw [ev17209] at bv17209
            have k17208 := k17193.tr kk17208 (by decide)
            show jEv _ _ _ _ _ _ _ (_, [(2, 7), (2, 1), (0, 11), (0, a3), (0, x4), (0, x5), (0, v17187)], [], _, _, _)
            refine ev_iinc (w := (x5 + 1)) (L' := [(2, 7), (2, 1), (0, 11), (0, a3), (0, x4), (0, (x5 + 1)), (0, v17187)]) rfl (by unfold w32; omega) rfl ?_
            refine ev_goto f78_25 ?_
            exact ih _ _ _ _ _ g17208 k17208 (by omega) (by omega) (by omega) (by omega) (by omega) (by omega) (by omega) (by omega) (ev17209) (by omega) (by omega) (by omega)
          · refine ev_goto f78_100 ?_
            refine ev_aload_n rfl ?_
            refine ev_bipush ?_
            refine ev_call (jcall_v (A := [(0, 41)]) (S' := []) (r := 7) rfl (g17193.lt ad7) (g17193.tg ad7) (Nat.le_of_ble_eq_true rfl)) (jOk_le (by decide) (s71 g17193 (by omega) (by omega) (((kk17193.v (by decide)).trans ev17191)) (by omega) (by omega))) (by decide) (by decide) (fun w17210 h17210 q17210 => ?_)
            obtain ⟨v17211, rfl, g17210, kk17210, ev17211, p17210_0⟩ := q17210
            have bv17211 := g17210.rg ad7 (i := 1) (by decide) rf7_1
            rw [ev17211] at bv17211
            have k17210 := k17193.tr kk17210 (by decide)
            show jEv _ _ _ _ _ _ _ (_, [(2, 7), (2, 1), (0, 11), (0, a3), (0, x4), (0, x5), (0, v17187)], [], _, _, _)
            refine ev_aload_n rfl ?_
            refine g_getv (r := 7) (v := v17211) g17210 ad7 (by decide) ft5_1 (ev17211) ?_
            refine ev_iflt f78_117 (fun c17212 => ?_) (fun c17212 => ?_)
            · refine ev_iload rfl ?_
              exact ev_ret rfl (by decide) (by decide) ⟨_, _, rfl, by omega, by omega, g17210, k17210, (ev17211), by omega, by omega⟩
            · refine ev_iconst ?_
              refine ev_goto f78_119 ?_
              exact ev_ret rfl (by decide) (by decide) ⟨_, _, rfl, by omega, by omega, g17210, k17210, (ev17211), by omega, by omega⟩
set_option maxHeartbeats 4000000 in
theorem s78_11 {G : GH} {h : JH} (g : Gd G h) {a3 : Int} (la3 : (-2147483648) ≤ a3) (ua3 : a3 ≤ 2147483647) {w0 : Int} (ew0 : h.2.2 7 1 = w0) (lw0 : (-1) ≤ w0) (uw0 : w0 ≤ 200) {w1 : Int} (ew1 : h.2.2 7 2 = w1) (lw1 : 0 ≤ w1) (uw1 : w1 ≤ 199) : jOk 6 0 0 78 [(2, 7), (2, 1), (0, 11), (0, a3)] h (fun v h' => ∃ r F : Int, v = some (0, r) ∧ (-1) ≤ r ∧ r ≤ 199 ∧ Gd G h' ∧ Kp [(7, 2), (7, 3), (7, 4), (10, 0), (11, 0), (12, 0), (13, 0), (14, 0), (15, 0), (16, 0), (17, 0)] h h' ∧ h'.2.2 7 1 = F ∧ ((-F) + w0) ≤ 0 ∧ ((-F) + (-r)) ≤ 1) := by
  refine ⟨by decide, by rw [ml78]; exact Nat.le_of_ble_eq_true rfl, ?_⟩
  rw [ml78, pp78]
  show jEv _ none _ c78_0 0 0 _ (c78_0, [(2, 7), (2, 1), (0, 11), (0, a3), (9, 0), (9, 0), (9, 0)], [], h, 0, 0)
  have k0 := Kp.rf [(7, 2), (7, 3), (7, 4), (10, 0), (11, 0), (12, 0), (13, 0), (14, 0), (15, 0), (16, 0), (17, 0)] h
  refine ev_aload_n rfl ?_
  refine ev_dup (by decide) ?_
  refine g_getv (r := 7) (v := w1) g ad7 (by decide) ft5_2 (ew1) ?_
  refine ev_iconst ?_
  refine ev_iadd (r := (w1 + 1)) (by unfold w32; omega) ?_
  refine g_putf (r := 7) g ad7 (by decide) ft5_2 (by decide) (fun e => absurd e nz5_2) rf7_2 (by decide) (by omega) (by omega) (fun h17213 e17213 g17213 => ?_)
  have k17213 := k0.wr e17213 rfl
  refine ev_aload_n rfl ?_
  refine ev_iload_n rfl ?_
  refine ev_call (jcall_v (A := [(0, 11)]) (S' := []) (r := 7) rfl (g17213.lt ad7) (g17213.tg ad7) (Nat.le_of_ble_eq_true rfl)) (jOk_le (by decide) (s72 g17213 (by omega) (by omega) (((jw_ne e17213 (Or.inr (by decide))).trans ew0)) (by omega) (by omega))) (by decide) (by decide) (fun w17214 h17214 q17214 => ?_)
  obtain ⟨v17215, rfl, g17214, kk17214, ev17215, p17214_0⟩ := q17214
  have bv17215 := g17214.rg ad7 (i := 1) (by decide) rf7_1
  rw [ev17215] at bv17215
  have k17214 := k17213.tr kk17214 (by decide)
  show jEv _ _ _ _ _ _ _ (_, [(2, 7), (2, 1), (0, 11), (0, a3), (9, 0), (9, 0), (9, 0)], [], _, _, _)
  refine ev_aload_n rfl ?_
  refine ev_iconst ?_
  refine ev_call (jcall_v (A := [(0, 1)]) (S' := []) (r := 7) rfl (g17214.lt ad7) (g17214.tg ad7) (Nat.le_of_ble_eq_true rfl)) (jOk_le (by decide) (s73 g17214 (by omega) (by omega) (ev17215) (by omega) (by omega))) (by decide) (by decide) (fun w17216 h17216 q17216 => ?_)
  obtain ⟨v17218, v17217, rfl, lv17218, uv17218, g17216, kk17216, ev17217, p17216_0, p17216_1⟩ := q17216
  have bv17217 := g17216.rg ad7 (i := 1) (by decide) rf7_1
  rw [ev17217] at bv17217
  have k17216 := k17214.tr kk17216 (by decide)
  show jEv _ _ _ _ _ _ _ (_, [(2, 7), (2, 1), (0, 11), (0, a3), (9, 0), (9, 0), (9, 0)], [(0, v17218)], _, _, _)
  refine ev_istore (L' := [(2, 7), (2, 1), (0, 11), (0, a3), (0, v17218), (9, 0), (9, 0)]) (Nat.le_of_ble_eq_true rfl) rfl ?_
  refine ev_iconst ?_
  refine ev_istore (L' := [(2, 7), (2, 1), (0, 11), (0, a3), (0, v17218), (0, 0), (9, 0)]) (Nat.le_of_ble_eq_true rfl) rfl ?_
  exact (s78_11_l la3 ua3 ew0 lw0 uw0 ew1 lw1 uw1 8) _ _ _ _ _ g17216 k17216 (by omega) (by omega) (by omega) (by omega) (by omega) (by omega) (by omega) (by omega) (ev17217) (by omega) (by omega) (by omega)
/-! s79_11  -/
set_option maxHeartbeats 4000000 in
theorem s79_11_l {G : GH} {h : JH} {a3 : Int} (la3 : (-2147483648) ≤ a3) (ua3 : a3 ≤ 2147483647) {w0 : Int} (ew0 : h.2.2 7 1 = w0) (lw0 : (-1) ≤ w0) (uw0 : w0 ≤ 200) {w1 : Int} (ew1 : h.2.2 7 2 = w1) (lw1 : 0 ≤ w1) (uw1 : w1 ≤ 199) : ∀ N : Nat, (∀ (h1 : JH) (x4 x5 x6 y0 : Int), Gd G h1 → Kp [(7, 2), (7, 3), (7, 4), (10, 0), (11, 0), (12, 0), (13, 0), (14, 0), (15, 0), (16, 0), (17, 0)] h h1 → (-2147483648) ≤ a3 → a3 ≤ 2147483647 → 0 ≤ x4 → x4 ≤ 3 → (-1) ≤ x5 → x5 ≤ 199 → 0 ≤ x6 → x6 ≤ 3 → (w0 + (-y0)) ≤ 0 → ((-x5) + (-y0)) ≤ 1 → h1.2.2 7 1 = y0 → (-1) ≤ y0 → y0 ≤ 200 → ((-x6) + 3) < N → jEv (jOk 5) none (fun _ => 0) c79_0 0 0 (fun v h' => ∃ r F : Int, v = some (0, r) ∧ (-1) ≤ r ∧ r ≤ 199 ∧ Gd G h' ∧ Kp [(7, 2), (7, 3), (7, 4), (10, 0), (11, 0), (12, 0), (13, 0), (14, 0), (15, 0), (16, 0), (17, 0)] h h' ∧ h'.2.2 7 1 = F ∧ ((-F) + w0) ≤ 0 ∧ ((-F) + (-r)) ≤ 1) (c79_68, [(2, 7), (2, 1), (0, 11), (0, a3), (0, x4), (0, x5), (0, x6)], [], h1, 0, 0)) := by
  intro N
  induction N with
  | zero => exact fun h1 x4 x5 x6 y0 g1 k1 b0 b1 b2 b3 b4 b5 b6 b7 b8 b9 b10 b11 b12 hm => absurd hm (by omega)
  | succ N ih =>
    show _
    intro h1 x4 x5 x6 y0 g1 k1 b0 b1 b2 b3 b4 b5 b6 b7 b8 b9 ey0 ly0 uy0 hm
    refine ev_iload rfl ?_
    refine ev_aload_n rfl ?_
    refine ev_iload rfl ?_
    refine ev_in (d := 4) (a := 0) (b := 0) (cd' := c141_0) (m := 2) (L0 := [(2, 1), (0, x4)]) (jcall_v (A := [(0, x4)]) (S' := [(0, x6)]) (r := 1) rfl (g1.lt ad1) (g1.tg ad1) (Nat.le_of_ble_eq_true rfl)) (by decide) ml141 pp141 (Nat.le_of_ble_eq_true rfl) rfl (by decide) (by decide) ?_
    refine ev_aload_n rfl ?_
    refine ev_iload_n rfl ?_
    refine ev_in (d := 3) (a := 0) (b := 0) (cd' := c140_0) (m := 2) (L0 := [(2, 1), (0, x4)]) (jcall_v (A := [(0, x4)]) (S' := []) (r := 1) rfl (g1.lt ad1) (g1.tg ad1) (Nat.le_of_ble_eq_true rfl)) (by decide) ml140 pp140 (Nat.le_of_ble_eq_true rfl) rfl (by decide) (by decide) ?_
    refine ev_iload_n rfl ?_
    refine ev_iflt f140_16 (fun c17478 => absurd c17478 (by omega)) (fun c17478 => ?_)
    refine ev_iload_n rfl ?_
    refine ev_aload_n rfl ?_
    obtain ⟨v17479, ev17479, lv17479, uv17479⟩ := g1.rd ad1 (show 0 < 8 by decide) rf1_0
    refine g_getv (r := 1) (v := v17479) g1 ad1 (by decide) ft10_0 ev17479 ?_
    refine ev_icmpge f140_16 (fun c17480 => ?_) (fun c17480 => ?_)
    · refine ev_iconst ?_
      refine ev_ret rfl (by decide) (by decide) ?_
      show jEv _ _ _ _ _ _ _ (_, [(2, 1), (0, x4)], [(0, 0)], _, _, _)
      refine ev_ifeq f141_17 (fun c17481 => ?_) (fun c17481 => absurd c17481 (by omega))
      refine ev_iconst ?_
      refine ev_ret rfl (by decide) (by decide) ?_
      show jEv _ _ _ _ _ _ _ (_, [(2, 7), (2, 1), (0, 11), (0, a3), (0, x4), (0, x5), (0, x6)], [(0, 0), (0, x6)], _, _, _)
      refine ev_icmpge f79_126 (fun c17482 => ?_) (fun c17482 => absurd c17482 (by omega))
      refine ev_aload_n rfl ?_
      refine ev_bipush ?_
      refine ev_call (jcall_v (A := [(0, 41)]) (S' := []) (r := 7) rfl (g1.lt ad7) (g1.tg ad7) (Nat.le_of_ble_eq_true rfl)) (jOk_le (by decide) (s71 g1 (by omega) (by omega) (ey0) (by omega) (by omega))) (by decide) (by decide) (fun w17483 h17483 q17483 => ?_)
      obtain ⟨v17484, rfl, g17483, kk17483, ev17484, p17483_0⟩ := q17483
      have bv17484 := g17483.rg ad7 (i := 1) (by decide) rf7_1
      rw [ev17484] at bv17484
      have k17483 := k1.tr kk17483 (by decide)
      show jEv _ _ _ _ _ _ _ (_, [(2, 7), (2, 1), (0, 11), (0, a3), (0, x4), (0, x5), (0, x6)], [], _, _, _)
      refine ev_aload_n rfl ?_
      refine g_getv (r := 7) (v := v17484) g17483 ad7 (by decide) ft5_1 (ev17484) ?_
      refine ev_ifge f79_144 (fun c17485 => ?_) (fun c17485 => ?_)
      · refine ev_iconst ?_
        exact ev_ret rfl (by decide) (by decide) ⟨_, _, rfl, by omega, by omega, g17483, k17483, (ev17484), by omega, by omega⟩
      · refine ev_iload rfl ?_
        refine ev_ifge f79_146 (fun c17486 => ?_) (fun c17486 => absurd c17486 (by omega))
        refine ev_aload_n rfl ?_
        refine g_getp (r := 7) (c := 11) g17483 ad7 (by decide) (by decide) rf7_8 ft5_8 ?_
        refine ev_iload rfl ?_
        refine ev_iload rfl ?_
        refine g_iast g17483 ad11 rt11 (fun _ => rfl) (by omega) (by omega) (by omega) (by omega) (fun h17487 e17487 g17487 => ?_)
        have k17487 := k17483.wr e17487 rfl
        refine ev_aload_n rfl ?_
        refine g_getp (r := 7) (c := 15) g17487 ad7 (by decide) (by decide) rf7_12 ft5_12 ?_
        refine ev_iload rfl ?_
        refine ev_dup2 (by decide) (by decide) ?_
        refine g_iald g17487 ad15 rt15 (by omega) (by omega) (fun v17488 ev17488 lv17488 uv17488 => ?_)
        refine ev_iconst ?_
        refine ev_iload rfl ?_
        refine g_ishlB (a' := 1) (a := 1) (b := 3) (hi := 8) (by omega) (by omega) (by omega) (by omega) (by decide) (by decide) (fun v17489 ev17489 lv17489 uv17489 => ?_)
        refine g_iorG (fun v17490 ev17490 lv17490 uv17490 => ?_)
        refine g_iast g17487 ad15 rt15 (fun _ => rfl) (by omega) (by omega) (by omega) (by omega) (fun h17491 e17491 g17491 => ?_)
        have k17491 := k17487.wr e17491 rfl
        refine ev_iload rfl ?_
        exact ev_ret rfl (by decide) (by decide) ⟨_, _, rfl, by omega, by omega, g17491, k17491, (((jw_ne e17491 (Or.inl (by decide))).trans ((jw_ne e17487 (Or.inl (by decide))).trans ev17484))), by omega, by omega⟩
    · refine ev_iconst ?_
      refine ev_goto f140_17 ?_
      refine ev_ret rfl (by decide) (by decide) ?_
      show jEv _ _ _ _ _ _ _ (_, [(2, 1), (0, x4)], [(0, 1)], _, _, _)
      refine ev_ifeq f141_17 (fun c17492 => absurd c17492 (by omega)) (fun c17492 => ?_)
      refine ev_aload_n rfl ?_
      refine g_getp (r := 1) (c := 2) g1 ad1 (by decide) (by decide) rf1_3 ft10_3 ?_
      refine ev_iload_n rfl ?_
      refine g_iald g1 ad2 rt2 (by omega) (by omega) (fun v17493 ev17493 lv17493 uv17493 => ?_)
      have xv17493 := (g1.ex.1.1 (x4 : Int).toNat (by rw [(ev17479)]; omega))
      rw [ev17493] at xv17493
      refine ev_goto f141_18 ?_
      refine ev_ret rfl (by decide) (by decide) ?_
      show jEv _ _ _ _ _ _ _ (_, [(2, 7), (2, 1), (0, 11), (0, a3), (0, x4), (0, x5), (0, x6)], [(0, v17493), (0, x6)], _, _, _)
      refine ev_icmpge f79_126 (fun c17494 => ?_) (fun c17494 => ?_)
      · refine ev_aload_n rfl ?_
        refine ev_bipush ?_
        refine ev_call (jcall_v (A := [(0, 41)]) (S' := []) (r := 7) rfl (g1.lt ad7) (g1.tg ad7) (Nat.le_of_ble_eq_true rfl)) (jOk_le (by decide) (s71 g1 (by omega) (by omega) (ey0) (by omega) (by omega))) (by decide) (by decide) (fun w17495 h17495 q17495 => ?_)
        obtain ⟨v17496, rfl, g17495, kk17495, ev17496, p17495_0⟩ := q17495
        have bv17496 := g17495.rg ad7 (i := 1) (by decide) rf7_1
        rw [ev17496] at bv17496
        have k17495 := k1.tr kk17495 (by decide)
        show jEv _ _ _ _ _ _ _ (_, [(2, 7), (2, 1), (0, 11), (0, a3), (0, x4), (0, x5), (0, x6)], [], _, _, _)
        refine ev_aload_n rfl ?_
        refine g_getv (r := 7) (v := v17496) g17495 ad7 (by decide) ft5_1 (ev17496) ?_
        refine ev_ifge f79_144 (fun c17497 => ?_) (fun c17497 => ?_)
        · refine ev_iconst ?_
          exact ev_ret rfl (by decide) (by decide) ⟨_, _, rfl, by omega, by omega, g17495, k17495, (ev17496), by omega, by omega⟩
        · refine ev_iload rfl ?_
          refine ev_ifge f79_146 (fun c17498 => ?_) (fun c17498 => absurd c17498 (by omega))
          refine ev_aload_n rfl ?_
          refine g_getp (r := 7) (c := 11) g17495 ad7 (by decide) (by decide) rf7_8 ft5_8 ?_
          refine ev_iload rfl ?_
          refine ev_iload rfl ?_
          refine g_iast g17495 ad11 rt11 (fun _ => rfl) (by omega) (by omega) (by omega) (by omega) (fun h17499 e17499 g17499 => ?_)
          have k17499 := k17495.wr e17499 rfl
          refine ev_aload_n rfl ?_
          refine g_getp (r := 7) (c := 15) g17499 ad7 (by decide) (by decide) rf7_12 ft5_12 ?_
          refine ev_iload rfl ?_
          refine ev_dup2 (by decide) (by decide) ?_
          refine g_iald g17499 ad15 rt15 (by omega) (by omega) (fun v17500 ev17500 lv17500 uv17500 => ?_)
          refine ev_iconst ?_
          refine ev_iload rfl ?_
          refine g_ishlB (a' := 1) (a := 1) (b := 3) (hi := 8) (by omega) (by omega) (by omega) (by omega) (by decide) (by decide) (fun v17501 ev17501 lv17501 uv17501 => ?_)
          refine g_iorG (fun v17502 ev17502 lv17502 uv17502 => ?_)
          refine g_iast g17499 ad15 rt15 (fun _ => rfl) (by omega) (by omega) (by omega) (by omega) (fun h17503 e17503 g17503 => ?_)
          have k17503 := k17499.wr e17503 rfl
          refine ev_iload rfl ?_
          exact ev_ret rfl (by decide) (by decide) ⟨_, _, rfl, by omega, by omega, g17503, k17503, (((jw_ne e17503 (Or.inl (by decide))).trans ((jw_ne e17499 (Or.inl (by decide))).trans ev17496))), by omega, by omega⟩
      · refine ev_aload_n rfl ?_
        refine g_getv (r := 7) (v := y0) g1 ad7 (by decide) ft5_1 (ey0) ?_
        refine ev_ifge f79_126 (fun c17504 => ?_) (fun c17504 => ?_)
        · refine ev_aload_n rfl ?_
          refine ev_bipush ?_
          refine ev_call (jcall_v (A := [(0, 41)]) (S' := []) (r := 7) rfl (g1.lt ad7) (g1.tg ad7) (Nat.le_of_ble_eq_true rfl)) (jOk_le (by decide) (s71 g1 (by omega) (by omega) (ey0) (by omega) (by omega))) (by decide) (by decide) (fun w17505 h17505 q17505 => ?_)
          obtain ⟨v17506, rfl, g17505, kk17505, ev17506, p17505_0⟩ := q17505
          have bv17506 := g17505.rg ad7 (i := 1) (by decide) rf7_1
          rw [ev17506] at bv17506
          have k17505 := k1.tr kk17505 (by decide)
          show jEv _ _ _ _ _ _ _ (_, [(2, 7), (2, 1), (0, 11), (0, a3), (0, x4), (0, x5), (0, x6)], [], _, _, _)
          refine ev_aload_n rfl ?_
          refine g_getv (r := 7) (v := v17506) g17505 ad7 (by decide) ft5_1 (ev17506) ?_
          refine ev_ifge f79_144 (fun c17507 => ?_) (fun c17507 => absurd c17507 (by omega))
          refine ev_iconst ?_
          exact ev_ret rfl (by decide) (by decide) ⟨_, _, rfl, by omega, by omega, g17505, k17505, (ev17506), by omega, by omega⟩
        · refine ev_iload rfl ?_
          refine ev_ifle f79_97 (fun c17508 => ?_) (fun c17508 => ?_)
          · refine ev_aload_n rfl ?_
            refine ev_iload rfl ?_
            refine ev_iload rfl ?_
            refine ev_iconst ?_
            refine ev_aload_n rfl ?_
            refine ev_aload_n rfl ?_
            refine ev_iload_n rfl ?_
            refine ev_iconst ?_
            refine ev_iadd (r := 12) (by decide) ?_
            refine ev_iload_n rfl ?_
            refine ev_iconst ?_
            refine ev_iload rfl ?_
            refine g_ishlB (a' := 1) (a := 1) (b := 3) (hi := 8) (by omega) (by omega) (by omega) (by omega) (by decide) (by decide) (fun v17509 ev17509 lv17509 uv17509 => ?_)
            refine g_iorG (fun v17510 ev17510 lv17510 uv17510 => ?_)
            refine ev_call (jcall_v (A := [(0, v17510), (0, 12), (2, 1)]) (S' := [(0, 0), (0, x6), (0, x5), (2, 7)]) (r := 7) rfl (g1.lt ad7) (g1.tg ad7) (Nat.le_of_ble_eq_true rfl)) (jOk_le (by decide) (s74_12 g1 (by omega) (by omega) (ey0) (by omega) (by omega))) (by decide) (by decide) (fun w17511 h17511 q17511 => ?_)
            obtain ⟨v17513, v17512, rfl, lv17513, uv17513, g17511, kk17511, ev17512, p17511_0, p17511_1⟩ := q17511
            have bv17512 := g17511.rg ad7 (i := 1) (by decide) rf7_1
            rw [ev17512] at bv17512
            have k17511 := k1.tr kk17511 (by decide)
            show jEv _ _ _ _ _ _ _ (_, [(2, 7), (2, 1), (0, 11), (0, a3), (0, x4), (0, x5), (0, x6)], [(0, v17513), (0, 0), (0, x6), (0, x5), (2, 7)], _, _, _)
            refine ev_call (jcall_v (A := [(0, v17513), (0, 0), (0, x6), (0, x5)]) (S' := []) (r := 7) rfl (g17511.lt ad7) (g17511.tg ad7) (Nat.le_of_ble_eq_true rfl)) (jOk_le (by decide) (s80 g17511 (by omega) (by omega) (by omega) (by omega) (by omega) (by omega) (by omega) (by omega))) (by decide) (by decide) (fun w17514 h17514 q17514 => ?_)
            obtain ⟨rfl, g17514, kk17514⟩ := q17514
            have k17514 := k17511.tr kk17514 (by decide)
            show jEv _ _ _ _ _ _ _ (_, [(2, 7), (2, 1), (0, 11), (0, a3), (0, x4), (0, x5), (0, x6)], [], _, _, _)
            refine ev_iinc (w := (x6 + 1)) (L' := [(2, 7), (2, 1), (0, 11), (0, a3), (0, x4), (0, x5), (0, (x6 + 1))]) rfl (by unfold w32; omega) rfl ?_
            refine ev_goto f79_68 ?_
            exact ih _ _ _ _ _ g17514 k17514 (by omega) (by omega) (by omega) (by omega) (by omega) (by omega) (by omega) (by omega) (by omega) (by omega) (((kk17514.v (by decide)).trans ev17512)) (by omega) (by omega) (by omega)
          · refine ev_aload_n rfl ?_
            refine ev_bipush ?_
            refine ev_call (jcall_v (A := [(0, 44)]) (S' := []) (r := 7) rfl (g1.lt ad7) (g1.tg ad7) (Nat.le_of_ble_eq_true rfl)) (jOk_le (by decide) (s71 g1 (by omega) (by omega) (ey0) (by omega) (by omega))) (by decide) (by decide) (fun w17515 h17515 q17515 => ?_)
            obtain ⟨v17516, rfl, g17515, kk17515, ev17516, p17515_0⟩ := q17515
            have bv17516 := g17515.rg ad7 (i := 1) (by decide) rf7_1
            rw [ev17516] at bv17516
            have k17515 := k1.tr kk17515 (by decide)
            show jEv _ _ _ _ _ _ _ (_, [(2, 7), (2, 1), (0, 11), (0, a3), (0, x4), (0, x5), (0, x6)], [], _, _, _)
            refine ev_aload_n rfl ?_
            refine ev_iload rfl ?_
            refine ev_iload rfl ?_
            refine ev_iconst ?_
            refine ev_aload_n rfl ?_
            refine ev_aload_n rfl ?_
            refine ev_iload_n rfl ?_
            refine ev_iconst ?_
            refine ev_iadd (r := 12) (by decide) ?_
            refine ev_iload_n rfl ?_
            refine ev_iconst ?_
            refine ev_iload rfl ?_
            refine g_ishlB (a' := 1) (a := 1) (b := 3) (hi := 8) (by omega) (by omega) (by omega) (by omega) (by decide) (by decide) (fun v17517 ev17517 lv17517 uv17517 => ?_)
            refine g_iorG (fun v17518 ev17518 lv17518 uv17518 => ?_)
            refine ev_call (jcall_v (A := [(0, v17518), (0, 12), (2, 1)]) (S' := [(0, 0), (0, x6), (0, x5), (2, 7)]) (r := 7) rfl (g17515.lt ad7) (g17515.tg ad7) (Nat.le_of_ble_eq_true rfl)) (jOk_le (by decide) (s74_12 g17515 (by omega) (by omega) (ev17516) (by omega) (by omega))) (by decide) (by decide) (fun w17519 h17519 q17519 => ?_)
            obtain ⟨v17521, v17520, rfl, lv17521, uv17521, g17519, kk17519, ev17520, p17519_0, p17519_1⟩ := q17519
            have bv17520 := g17519.rg ad7 (i := 1) (by decide) rf7_1
            rw [ev17520] at bv17520
            have k17519 := k17515.tr kk17519 (by decide)
            show jEv _ _ _ _ _ _ _ (_, [(2, 7), (2, 1), (0, 11), (0, a3), (0, x4), (0, x5), (0, x6)], [(0, v17521), (0, 0), (0, x6), (0, x5), (2, 7)], _, _, _)
            refine ev_call (jcall_v (A := [(0, v17521), (0, 0), (0, x6), (0, x5)]) (S' := []) (r := 7) rfl (g17519.lt ad7) (g17519.tg ad7) (Nat.le_of_ble_eq_true rfl)) (jOk_le (by decide) (s80 g17519 (by omega) (by omega) (by omega) (by omega) (by omega) (by omega) (by omega) (by omega))) (by decide) (by decide) (fun w17522 h17522 q17522 => ?_)
            obtain ⟨rfl, g17522, kk17522⟩ := q17522
            have k17522 := k17519.tr kk17522 (by decide)
            show jEv _ _ _ _ _ _ _ (_, [(2, 7), (2, 1), (0, 11), (0, a3), (0, x4), (0, x5), (0, x6)], [], _, _, _)
            refine ev_iinc (w := (x6 + 1)) (L' := [(2, 7), (2, 1), (0, 11), (0, a3), (0, x4), (0, x5), (0, (x6 + 1))]) rfl (by unfold w32; omega) rfl ?_
            refine ev_goto f79_68 ?_
            exact ih _ _ _ _ _ g17522 k17522 (by omega) (by omega) (by omega) (by omega) (by omega) (by omega) (by omega) (by omega) (by omega) (by omega) (((kk17522.v (by decide)).trans ev17520)) (by omega) (by omega) (by omega)
set_option maxHeartbeats 4000000 in
theorem s79_11 {G : GH} {h : JH} (g : Gd G h) {a3 : Int} (la3 : (-2147483648) ≤ a3) (ua3 : a3 ≤ 2147483647) {w0 : Int} (ew0 : h.2.2 7 1 = w0) (lw0 : (-1) ≤ w0) (uw0 : w0 ≤ 200) {w1 : Int} (ew1 : h.2.2 7 2 = w1) (lw1 : 0 ≤ w1) (uw1 : w1 ≤ 199) : jOk 6 0 0 79 [(2, 7), (2, 1), (0, 11), (0, a3)] h (fun v h' => ∃ r F : Int, v = some (0, r) ∧ (-1) ≤ r ∧ r ≤ 199 ∧ Gd G h' ∧ Kp [(7, 2), (7, 3), (7, 4), (10, 0), (11, 0), (12, 0), (13, 0), (14, 0), (15, 0), (16, 0), (17, 0)] h h' ∧ h'.2.2 7 1 = F ∧ ((-F) + w0) ≤ 0 ∧ ((-F) + (-r)) ≤ 1) := by
  refine ⟨by decide, by rw [ml79]; exact Nat.le_of_ble_eq_true rfl, ?_⟩
  rw [ml79, pp79]
  show jEv _ none _ c79_0 0 0 _ (c79_0, [(2, 7), (2, 1), (0, 11), (0, a3), (9, 0), (9, 0), (9, 0)], [], h, 0, 0)
  have k0 := Kp.rf [(7, 2), (7, 3), (7, 4), (10, 0), (11, 0), (12, 0), (13, 0), (14, 0), (15, 0), (16, 0), (17, 0)] h
  refine ev_aload_n rfl ?_
  refine ev_dup (by decide) ?_
  refine g_getv (r := 7) (v := w1) g ad7 (by decide) ft5_2 (ew1) ?_
  refine ev_iconst ?_
  refine ev_iadd (r := (w1 + 1)) (by unfold w32; omega) ?_
  refine g_putf (r := 7) g ad7 (by decide) ft5_2 (by decide) (fun e => absurd e nz5_2) rf7_2 (by decide) (by omega) (by omega) (fun h17523 e17523 g17523 => ?_)
  have k17523 := k0.wr e17523 rfl
  refine ev_aload_n rfl ?_
  refine ev_in (d := 4) (a := 0) (b := 0) (cd' := c68_0) (m := 1) (L0 := [(2, 7)]) (jcall_v (A := []) (S' := []) (r := 7) rfl (g17523.lt ad7) (g17523.tg ad7) (Nat.le_of_ble_eq_true rfl)) (by decide) ml68 pp68 (Nat.le_of_ble_eq_true rfl) rfl (by decide) (by decide) ?_
  refine ev_aload_n rfl ?_
  refine g_getv (r := 7) (v := (w1 + 1)) g17523 ad7 (by decide) ft5_2 ((jw_eq e17523)) ?_
  refine ev_aload_n rfl ?_
  obtain ⟨v17524, ev17524, lv17524, uv17524⟩ := g17523.rd ad7 (show 0 < 15 by decide) rf7_0
  refine g_getv (r := 7) (v := v17524) g17523 ad7 (by decide) ft5_0 ev17524 ?_
  refine ev_icmpge f68_27 (fun c17525 => ?_) (fun c17525 => ?_)
  · refine ev_iconst ?_
    refine ev_ret rfl (by decide) (by decide) ?_
    show jEv _ _ _ _ _ _ _ (_, [(2, 7), (2, 1), (0, 11), (0, a3), (9, 0), (9, 0), (9, 0)], [(0, (-1))], _, _, _)
    refine ev_bipush ?_
    refine ev_isub (r := (-98)) (by decide) ?_
    refine ev_istore (L' := [(2, 7), (2, 1), (0, 11), (0, a3), (0, (-98)), (9, 0), (9, 0)]) (Nat.le_of_ble_eq_true rfl) rfl ?_
    refine ev_aload_n rfl ?_
    refine ev_iload rfl ?_
    refine ev_in (d := 4) (a := 0) (b := 0) (cd' := c140_0) (m := 2) (L0 := [(2, 1), (0, (-98))]) (jcall_v (A := [(0, (-98))]) (S' := []) (r := 1) rfl (g17523.lt ad1) (g17523.tg ad1) (Nat.le_of_ble_eq_true rfl)) (by decide) ml140 pp140 (Nat.le_of_ble_eq_true rfl) rfl (by decide) (by decide) ?_
    refine ev_iload_n rfl ?_
    refine ev_iflt f140_16 (fun c17526 => ?_) (fun c17526 => absurd c17526 (by omega))
    refine ev_iconst ?_
    refine ev_ret rfl (by decide) (by decide) ?_
    show jEv _ _ _ _ _ _ _ (_, [(2, 7), (2, 1), (0, 11), (0, a3), (0, (-98)), (9, 0), (9, 0)], [(0, 0)], _, _, _)
    refine ev_ifeq f79_37 (fun c17527 => ?_) (fun c17527 => absurd c17527 (by omega))
    refine ev_aload_n rfl ?_
    refine ev_in (d := 4) (a := 0) (b := 0) (cd' := c70_0) (m := 1) (L0 := [(2, 7)]) (jcall_v (A := []) (S' := []) (r := 7) rfl (g17523.lt ad7) (g17523.tg ad7) (Nat.le_of_ble_eq_true rfl)) (by decide) ml70 pp70 (Nat.le_of_ble_eq_true rfl) rfl (by decide) (by decide) ?_
    refine ev_aload_n rfl ?_
    refine g_getv (r := 7) (v := w0) g17523 ad7 (by decide) ft5_1 (((jw_ne e17523 (Or.inr (by decide))).trans ew0)) ?_
    refine ev_ifge f70_15 (fun c17528 => ?_) (fun c17528 => ?_)
    · refine ev_ret rfl (by decide) (by decide) ?_
      show jEv _ _ _ _ _ _ _ (_, [(2, 7), (2, 1), (0, 11), (0, a3), (0, (-98)), (9, 0), (9, 0)], [], _, _, _)
      refine ev_iconst ?_
      exact ev_ret rfl (by decide) (by decide) ⟨_, _, rfl, by omega, by omega, g17523, k17523, (((jw_ne e17523 (Or.inr (by decide))).trans ew0)), by omega, by omega⟩
    · refine ev_aload_n rfl ?_
      refine ev_aload_n rfl ?_
      refine g_getv (r := 7) (v := (w1 + 1)) g17523 ad7 (by decide) ft5_2 ((jw_eq e17523)) ?_
      refine g_putf (r := 7) g17523 ad7 (by decide) ft5_1 (by decide) (fun e => absurd e nz5_1) rf7_1 (by decide) (by omega) (by omega) (fun h17529 e17529 g17529 => ?_)
      have k17529 := k17523.wr e17529 rfl
      refine ev_ret rfl (by decide) (by decide) ?_
      show jEv _ _ _ _ _ _ _ (_, [(2, 7), (2, 1), (0, 11), (0, a3), (0, (-98)), (9, 0), (9, 0)], [], _, _, _)
      refine ev_iconst ?_
      exact ev_ret rfl (by decide) (by decide) ⟨_, _, rfl, by omega, by omega, g17529, k17529, ((jw_eq e17529)), by omega, by omega⟩
  · refine ev_aload_n rfl ?_
    refine g_getp (r := 7) (c := 8) g17523 ad7 (by decide) (by decide) rf7_5 ft5_5 ?_
    refine ev_aload_n rfl ?_
    refine g_getv (r := 7) (v := (w1 + 1)) g17523 ad7 (by decide) ft5_2 ((jw_eq e17523)) ?_
    refine g_bald g17523 ad8 rt8 (by omega) (by omega) (fun v17530 ev17530 lv17530 uv17530 => ?_)
    refine ev_sipush ?_
    refine g_iandB (b := 255) (by omega) (by omega) (by decide) (fun v17531 ev17531 lv17531 uv17531 => ?_)
    refine ev_goto f68_28 ?_
    refine ev_ret rfl (by decide) (by decide) ?_
    show jEv _ _ _ _ _ _ _ (_, [(2, 7), (2, 1), (0, 11), (0, a3), (9, 0), (9, 0), (9, 0)], [(0, v17531)], _, _, _)
    refine ev_bipush ?_
    refine ev_isub (r := (v17531 - 97)) (by unfold w32; omega) ?_
    refine ev_istore (L' := [(2, 7), (2, 1), (0, 11), (0, a3), (0, (v17531 - 97)), (9, 0), (9, 0)]) (Nat.le_of_ble_eq_true rfl) rfl ?_
    refine ev_aload_n rfl ?_
    refine ev_iload rfl ?_
    refine ev_in (d := 4) (a := 0) (b := 0) (cd' := c140_0) (m := 2) (L0 := [(2, 1), (0, (v17531 - 97))]) (jcall_v (A := [(0, (v17531 - 97))]) (S' := []) (r := 1) rfl (g17523.lt ad1) (g17523.tg ad1) (Nat.le_of_ble_eq_true rfl)) (by decide) ml140 pp140 (Nat.le_of_ble_eq_true rfl) rfl (by decide) (by decide) ?_
    refine ev_iload_n rfl ?_
    refine ev_iflt f140_16 (fun c17532 => ?_) (fun c17532 => ?_)
    · refine ev_iconst ?_
      refine ev_ret rfl (by decide) (by decide) ?_
      show jEv _ _ _ _ _ _ _ (_, [(2, 7), (2, 1), (0, 11), (0, a3), (0, (v17531 - 97)), (9, 0), (9, 0)], [(0, 0)], _, _, _)
      refine ev_ifeq f79_37 (fun c17533 => ?_) (fun c17533 => absurd c17533 (by omega))
      refine ev_aload_n rfl ?_
      refine ev_in (d := 4) (a := 0) (b := 0) (cd' := c70_0) (m := 1) (L0 := [(2, 7)]) (jcall_v (A := []) (S' := []) (r := 7) rfl (g17523.lt ad7) (g17523.tg ad7) (Nat.le_of_ble_eq_true rfl)) (by decide) ml70 pp70 (Nat.le_of_ble_eq_true rfl) rfl (by decide) (by decide) ?_
      refine ev_aload_n rfl ?_
      refine g_getv (r := 7) (v := w0) g17523 ad7 (by decide) ft5_1 (((jw_ne e17523 (Or.inr (by decide))).trans ew0)) ?_
      refine ev_ifge f70_15 (fun c17534 => ?_) (fun c17534 => ?_)
      · refine ev_ret rfl (by decide) (by decide) ?_
        show jEv _ _ _ _ _ _ _ (_, [(2, 7), (2, 1), (0, 11), (0, a3), (0, (v17531 - 97)), (9, 0), (9, 0)], [], _, _, _)
        refine ev_iconst ?_
        exact ev_ret rfl (by decide) (by decide) ⟨_, _, rfl, by omega, by omega, g17523, k17523, (((jw_ne e17523 (Or.inr (by decide))).trans ew0)), by omega, by omega⟩
      · refine ev_aload_n rfl ?_
        refine ev_aload_n rfl ?_
        refine g_getv (r := 7) (v := (w1 + 1)) g17523 ad7 (by decide) ft5_2 ((jw_eq e17523)) ?_
        refine g_putf (r := 7) g17523 ad7 (by decide) ft5_1 (by decide) (fun e => absurd e nz5_1) rf7_1 (by decide) (by omega) (by omega) (fun h17535 e17535 g17535 => ?_)
        have k17535 := k17523.wr e17535 rfl
        refine ev_ret rfl (by decide) (by decide) ?_
        show jEv _ _ _ _ _ _ _ (_, [(2, 7), (2, 1), (0, 11), (0, a3), (0, (v17531 - 97)), (9, 0), (9, 0)], [], _, _, _)
        refine ev_iconst ?_
        exact ev_ret rfl (by decide) (by decide) ⟨_, _, rfl, by omega, by omega, g17535, k17535, ((jw_eq e17535)), by omega, by omega⟩
    · refine ev_iload_n rfl ?_
      refine ev_aload_n rfl ?_
      obtain ⟨v17536, ev17536, lv17536, uv17536⟩ := g17523.rd ad1 (show 0 < 8 by decide) rf1_0
      refine g_getv (r := 1) (v := v17536) g17523 ad1 (by decide) ft10_0 ev17536 ?_
      refine ev_icmpge f140_16 (fun c17537 => ?_) (fun c17537 => ?_)
      · refine ev_iconst ?_
        refine ev_ret rfl (by decide) (by decide) ?_
        show jEv _ _ _ _ _ _ _ (_, [(2, 7), (2, 1), (0, 11), (0, a3), (0, (v17531 - 97)), (9, 0), (9, 0)], [(0, 0)], _, _, _)
        refine ev_ifeq f79_37 (fun c17538 => ?_) (fun c17538 => absurd c17538 (by omega))
        refine ev_aload_n rfl ?_
        refine ev_in (d := 4) (a := 0) (b := 0) (cd' := c70_0) (m := 1) (L0 := [(2, 7)]) (jcall_v (A := []) (S' := []) (r := 7) rfl (g17523.lt ad7) (g17523.tg ad7) (Nat.le_of_ble_eq_true rfl)) (by decide) ml70 pp70 (Nat.le_of_ble_eq_true rfl) rfl (by decide) (by decide) ?_
        refine ev_aload_n rfl ?_
        refine g_getv (r := 7) (v := w0) g17523 ad7 (by decide) ft5_1 (((jw_ne e17523 (Or.inr (by decide))).trans ew0)) ?_
        refine ev_ifge f70_15 (fun c17539 => ?_) (fun c17539 => ?_)
        · refine ev_ret rfl (by decide) (by decide) ?_
          show jEv _ _ _ _ _ _ _ (_, [(2, 7), (2, 1), (0, 11), (0, a3), (0, (v17531 - 97)), (9, 0), (9, 0)], [], _, _, _)
          refine ev_iconst ?_
          exact ev_ret rfl (by decide) (by decide) ⟨_, _, rfl, by omega, by omega, g17523, k17523, (((jw_ne e17523 (Or.inr (by decide))).trans ew0)), by omega, by omega⟩
        · refine ev_aload_n rfl ?_
          refine ev_aload_n rfl ?_
          refine g_getv (r := 7) (v := (w1 + 1)) g17523 ad7 (by decide) ft5_2 ((jw_eq e17523)) ?_
          refine g_putf (r := 7) g17523 ad7 (by decide) ft5_1 (by decide) (fun e => absurd e nz5_1) rf7_1 (by decide) (by omega) (by omega) (fun h17540 e17540 g17540 => ?_)
          have k17540 := k17523.wr e17540 rfl
          refine ev_ret rfl (by decide) (by decide) ?_
          show jEv _ _ _ _ _ _ _ (_, [(2, 7), (2, 1), (0, 11), (0, a3), (0, (v17531 - 97)), (9, 0), (9, 0)], [], _, _, _)
          refine ev_iconst ?_
          exact ev_ret rfl (by decide) (by decide) ⟨_, _, rfl, by omega, by omega, g17540, k17540, ((jw_eq e17540)), by omega, by omega⟩
      · refine ev_iconst ?_
        refine ev_goto f140_17 ?_
        refine ev_ret rfl (by decide) (by decide) ?_
        show jEv _ _ _ _ _ _ _ (_, [(2, 7), (2, 1), (0, 11), (0, a3), (0, (v17531 - 97)), (9, 0), (9, 0)], [(0, 1)], _, _, _)
        refine ev_ifeq f79_37 (fun c17541 => absurd c17541 (by omega)) (fun c17541 => ?_)
        refine ev_iload_n rfl ?_
        refine ev_iload rfl ?_
        refine g_ishrG (fun v17542 ev17542 lv17542 uv17542 => ?_)
        refine ev_iconst ?_
        refine g_iandB (b := 1) (by omega) (by omega) (by decide) (fun v17543 ev17543 lv17543 uv17543 => ?_)
        refine ev_ifeq f79_43 (fun c17544 => ?_) (fun c17544 => ?_)
        · refine ev_aload_n rfl ?_
          refine ev_dup (by decide) ?_
          refine g_getv (r := 7) (v := (w1 + 1)) g17523 ad7 (by decide) ft5_2 ((jw_eq e17523)) ?_
          refine ev_iconst ?_
          refine ev_iadd (r := (w1 + 2)) (by unfold w32; omega) ?_
          refine g_putf (r := 7) g17523 ad7 (by decide) ft5_2 (by decide) (fun e => absurd e nz5_2) rf7_2 (by decide) (by omega) (by omega) (fun h17545 e17545 g17545 => ?_)
          have k17545 := k17523.wr e17545 rfl
          refine ev_aload_n rfl ?_
          refine ev_iload_n rfl ?_
          refine ev_call (jcall_v (A := [(0, 11)]) (S' := []) (r := 7) rfl (g17545.lt ad7) (g17545.tg ad7) (Nat.le_of_ble_eq_true rfl)) (jOk_le (by decide) (s72 g17545 (by omega) (by omega) (((jw_ne e17545 (Or.inr (by decide))).trans ((jw_ne e17523 (Or.inr (by decide))).trans ew0))) (by omega) (by omega))) (by decide) (by decide) (fun w17546 h17546 q17546 => ?_)
          obtain ⟨v17547, rfl, g17546, kk17546, ev17547, p17546_0⟩ := q17546
          have bv17547 := g17546.rg ad7 (i := 1) (by decide) rf7_1
          rw [ev17547] at bv17547
          have k17546 := k17545.tr kk17546 (by decide)
          show jEv _ _ _ _ _ _ _ (_, [(2, 7), (2, 1), (0, 11), (0, a3), (0, (v17531 - 97)), (9, 0), (9, 0)], [], _, _, _)
          refine ev_aload_n rfl ?_
          refine ev_iconst ?_
          refine ev_call (jcall_v (A := [(0, 2)]) (S' := []) (r := 7) rfl (g17546.lt ad7) (g17546.tg ad7) (Nat.le_of_ble_eq_true rfl)) (jOk_le (by decide) (s73 g17546 (by omega) (by omega) (ev17547) (by omega) (by omega))) (by decide) (by decide) (fun w17548 h17548 q17548 => ?_)
          obtain ⟨v17550, v17549, rfl, lv17550, uv17550, g17548, kk17548, ev17549, p17548_0, p17548_1⟩ := q17548
          have bv17549 := g17548.rg ad7 (i := 1) (by decide) rf7_1
          rw [ev17549] at bv17549
          have k17548 := k17546.tr kk17548 (by decide)
          show jEv _ _ _ _ _ _ _ (_, [(2, 7), (2, 1), (0, 11), (0, a3), (0, (v17531 - 97)), (9, 0), (9, 0)], [(0, v17550)], _, _, _)
          refine ev_istore (L' := [(2, 7), (2, 1), (0, 11), (0, a3), (0, (v17531 - 97)), (0, v17550), (9, 0)]) (Nat.le_of_ble_eq_true rfl) rfl ?_
          refine ev_iconst ?_
          refine ev_istore (L' := [(2, 7), (2, 1), (0, 11), (0, a3), (0, (v17531 - 97)), (0, v17550), (0, 0)]) (Nat.le_of_ble_eq_true rfl) rfl ?_
          exact (s79_11_l la3 ua3 ew0 lw0 uw0 ew1 lw1 uw1 8) _ _ _ _ _ g17548 k17548 (by omega) (by omega) (by omega) (by omega) (by omega) (by omega) (by omega) (by omega) (by omega) (by omega) (ev17549) (by omega) (by omega) (by omega)
        · refine ev_aload_n rfl ?_
          refine ev_in (d := 4) (a := 0) (b := 0) (cd' := c70_0) (m := 1) (L0 := [(2, 7)]) (jcall_v (A := []) (S' := []) (r := 7) rfl (g17523.lt ad7) (g17523.tg ad7) (Nat.le_of_ble_eq_true rfl)) (by decide) ml70 pp70 (Nat.le_of_ble_eq_true rfl) rfl (by decide) (by decide) ?_
          refine ev_aload_n rfl ?_
          refine g_getv (r := 7) (v := w0) g17523 ad7 (by decide) ft5_1 (((jw_ne e17523 (Or.inr (by decide))).trans ew0)) ?_
          refine ev_ifge f70_15 (fun c17551 => ?_) (fun c17551 => ?_)
          · refine ev_ret rfl (by decide) (by decide) ?_
            show jEv _ _ _ _ _ _ _ (_, [(2, 7), (2, 1), (0, 11), (0, a3), (0, (v17531 - 97)), (9, 0), (9, 0)], [], _, _, _)
            refine ev_iconst ?_
            exact ev_ret rfl (by decide) (by decide) ⟨_, _, rfl, by omega, by omega, g17523, k17523, (((jw_ne e17523 (Or.inr (by decide))).trans ew0)), by omega, by omega⟩
          · refine ev_aload_n rfl ?_
            refine ev_aload_n rfl ?_
            refine g_getv (r := 7) (v := (w1 + 1)) g17523 ad7 (by decide) ft5_2 ((jw_eq e17523)) ?_
            refine g_putf (r := 7) g17523 ad7 (by decide) ft5_1 (by decide) (fun e => absurd e nz5_1) rf7_1 (by decide) (by omega) (by omega) (fun h17552 e17552 g17552 => ?_)
            have k17552 := k17523.wr e17552 rfl
            refine ev_ret rfl (by decide) (by decide) ?_
            show jEv _ _ _ _ _ _ _ (_, [(2, 7), (2, 1), (0, 11), (0, a3), (0, (v17531 - 97)), (9, 0), (9, 0)], [], _, _, _)
            refine ev_iconst ?_
            exact ev_ret rfl (by decide) (by decide) ⟨_, _, rfl, by omega, by omega, g17552, k17552, ((jw_eq e17552)), by omega, by omega⟩
/-! s74_11  -/
set_option maxHeartbeats 4000000 in
theorem s74_11 {G : GH} {h : JH} (g : Gd G h) {a3 : Int} (la3 : (-2147483648) ≤ a3) (ua3 : a3 ≤ 2147483647) {w0 : Int} (ew0 : h.2.2 7 1 = w0) (lw0 : (-1) ≤ w0) (uw0 : w0 ≤ 200) : jOk 7 0 0 74 [(2, 7), (2, 1), (0, 11), (0, a3)] h (fun v h' => ∃ r F : Int, v = some (0, r) ∧ (-1) ≤ r ∧ r ≤ 199 ∧ Gd G h' ∧ Kp [(7, 2), (7, 3), (7, 4), (10, 0), (11, 0), (12, 0), (13, 0), (14, 0), (15, 0), (16, 0), (17, 0)] h h' ∧ h'.2.2 7 1 = F ∧ ((-F) + w0) ≤ 0 ∧ ((-F) + (-r)) ≤ 1) := by
  refine ⟨by decide, by rw [ml74]; exact Nat.le_of_ble_eq_true rfl, ?_⟩
  rw [ml74, pp74]
  show jEv _ none _ c74_0 0 0 _ (c74_0, [(2, 7), (2, 1), (0, 11), (0, a3), (9, 0)], [], h, 0, 0)
  have k0 := Kp.rf [(7, 2), (7, 3), (7, 4), (10, 0), (11, 0), (12, 0), (13, 0), (14, 0), (15, 0), (16, 0), (17, 0)] h
  refine ev_aload_n rfl ?_
  refine g_getv (r := 7) (v := w0) g ad7 (by decide) ft5_1 (ew0) ?_
  refine ev_ifge f74_13 (fun c17619 => ?_) (fun c17619 => ?_)
  · refine ev_aload_n rfl ?_
    refine ev_in (d := 5) (a := 0) (b := 0) (cd' := c70_0) (m := 1) (L0 := [(2, 7)]) (jcall_v (A := []) (S' := []) (r := 7) rfl (g.lt ad7) (g.tg ad7) (Nat.le_of_ble_eq_true rfl)) (by decide) ml70 pp70 (Nat.le_of_ble_eq_true rfl) rfl (by decide) (by decide) ?_
    refine ev_aload_n rfl ?_
    refine g_getv (r := 7) (v := w0) g ad7 (by decide) ft5_1 (ew0) ?_
    refine ev_ifge f70_15 (fun c17620 => ?_) (fun c17620 => absurd c17620 (by omega))
    refine ev_ret rfl (by decide) (by decide) ?_
    show jEv _ _ _ _ _ _ _ (_, [(2, 7), (2, 1), (0, 11), (0, a3), (9, 0)], [], _, _, _)
    refine ev_iconst ?_
    exact ev_ret rfl (by decide) (by decide) ⟨_, _, rfl, by omega, by omega, g, k0, (ew0), by omega, by omega⟩
  · refine ev_iload_n rfl ?_
    refine ev_bipush ?_
    refine ev_icmple f74_19 (fun c17621 => ?_) (fun c17621 => absurd c17621 (by omega))
    refine ev_aload_n rfl ?_
    refine ev_in (d := 5) (a := 0) (b := 0) (cd' := c68_0) (m := 1) (L0 := [(2, 7)]) (jcall_v (A := []) (S' := []) (r := 7) rfl (g.lt ad7) (g.tg ad7) (Nat.le_of_ble_eq_true rfl)) (by decide) ml68 pp68 (Nat.le_of_ble_eq_true rfl) rfl (by decide) (by decide) ?_
    refine ev_aload_n rfl ?_
    obtain ⟨v17622, ev17622, lv17622, uv17622⟩ := g.rd ad7 (show 2 < 15 by decide) rf7_2
    refine g_getv (r := 7) (v := v17622) g ad7 (by decide) ft5_2 ev17622 ?_
    refine ev_aload_n rfl ?_
    obtain ⟨v17623, ev17623, lv17623, uv17623⟩ := g.rd ad7 (show 0 < 15 by decide) rf7_0
    refine g_getv (r := 7) (v := v17623) g ad7 (by decide) ft5_0 ev17623 ?_
    refine ev_icmpge f68_27 (fun c17624 => ?_) (fun c17624 => ?_)
    · refine ev_iconst ?_
      refine ev_ret rfl (by decide) (by decide) ?_
      show jEv _ _ _ _ _ _ _ (_, [(2, 7), (2, 1), (0, 11), (0, a3), (9, 0)], [(0, (-1))], _, _, _)
      refine ev_istore (L' := [(2, 7), (2, 1), (0, 11), (0, a3), (0, (-1))]) (Nat.le_of_ble_eq_true rfl) rfl ?_
      refine ev_iload rfl ?_
      refine ev_bipush ?_
      refine ev_icmpne f74_40 (fun c17625 => ?_) (fun c17625 => absurd c17625 (by omega))
      refine ev_iload rfl ?_
      refine ev_bipush ?_
      refine ev_icmpne f74_55 (fun c17626 => ?_) (fun c17626 => absurd c17626 (by omega))
      refine ev_iload rfl ?_
      refine ev_bipush ?_
      refine ev_icmplt f74_78 (fun c17627 => ?_) (fun c17627 => absurd c17627 (by omega))
      refine ev_aload_n rfl ?_
      refine ev_call (jcall_v (A := []) (S' := []) (r := 7) rfl (g.lt ad7) (g.tg ad7) (Nat.le_of_ble_eq_true rfl)) (jOk_le (by decide) (s75 g (ew0) (by omega) (by omega))) (by decide) (by decide) (fun w17628 h17628 q17628 => ?_)
      obtain ⟨v17630, v17629, rfl, lv17630, uv17630, g17628, kk17628, ev17629, p17628_0, p17628_1⟩ := q17628
      have bv17629 := g17628.rg ad7 (i := 1) (by decide) rf7_1
      rw [ev17629] at bv17629
      have k17628 := k0.tr kk17628 (by decide)
      show jEv _ _ _ _ _ _ _ (_, [(2, 7), (2, 1), (0, 11), (0, a3), (0, (-1))], [(0, v17630)], _, _, _)
      exact ev_ret rfl (by decide) (by decide) ⟨_, _, rfl, by omega, by omega, g17628, k17628, (ev17629), by omega, by omega⟩
    · refine ev_aload_n rfl ?_
      refine g_getp (r := 7) (c := 8) g ad7 (by decide) (by decide) rf7_5 ft5_5 ?_
      refine ev_aload_n rfl ?_
      refine g_getv (r := 7) (v := v17622) g ad7 (by decide) ft5_2 (ev17622) ?_
      refine g_bald g ad8 rt8 (by omega) (by omega) (fun v17631 ev17631 lv17631 uv17631 => ?_)
      refine ev_sipush ?_
      refine g_iandB (b := 255) (by omega) (by omega) (by decide) (fun v17632 ev17632 lv17632 uv17632 => ?_)
      refine ev_goto f68_28 ?_
      refine ev_ret rfl (by decide) (by decide) ?_
      show jEv _ _ _ _ _ _ _ (_, [(2, 7), (2, 1), (0, 11), (0, a3), (9, 0)], [(0, v17632)], _, _, _)
      refine ev_istore (L' := [(2, 7), (2, 1), (0, 11), (0, a3), (0, v17632)]) (Nat.le_of_ble_eq_true rfl) rfl ?_
      refine ev_iload rfl ?_
      refine ev_bipush ?_
      refine ev_icmpne f74_40 (fun c17633 => ?_) (fun c17633 => ?_)
      · refine ev_iload rfl ?_
        refine ev_bipush ?_
        refine ev_icmpne f74_55 (fun c17634 => ?_) (fun c17634 => ?_)
        · refine ev_iload rfl ?_
          refine ev_bipush ?_
          refine ev_icmplt f74_78 (fun c17635 => ?_) (fun c17635 => ?_)
          · refine ev_aload_n rfl ?_
            refine ev_call (jcall_v (A := []) (S' := []) (r := 7) rfl (g.lt ad7) (g.tg ad7) (Nat.le_of_ble_eq_true rfl)) (jOk_le (by decide) (s75 g (ew0) (by omega) (by omega))) (by decide) (by decide) (fun w17636 h17636 q17636 => ?_)
            obtain ⟨v17638, v17637, rfl, lv17638, uv17638, g17636, kk17636, ev17637, p17636_0, p17636_1⟩ := q17636
            have bv17637 := g17636.rg ad7 (i := 1) (by decide) rf7_1
            rw [ev17637] at bv17637
            have k17636 := k0.tr kk17636 (by decide)
            show jEv _ _ _ _ _ _ _ (_, [(2, 7), (2, 1), (0, 11), (0, a3), (0, v17632)], [(0, v17638)], _, _, _)
            exact ev_ret rfl (by decide) (by decide) ⟨_, _, rfl, by omega, by omega, g17636, k17636, (ev17637), by omega, by omega⟩
          · refine ev_iload rfl ?_
            refine ev_bipush ?_
            refine ev_icmpge f74_78 (fun c17639 => ?_) (fun c17639 => ?_)
            · refine ev_aload_n rfl ?_
              refine ev_call (jcall_v (A := []) (S' := []) (r := 7) rfl (g.lt ad7) (g.tg ad7) (Nat.le_of_ble_eq_true rfl)) (jOk_le (by decide) (s75 g (ew0) (by omega) (by omega))) (by decide) (by decide) (fun w17640 h17640 q17640 => ?_)
              obtain ⟨v17642, v17641, rfl, lv17642, uv17642, g17640, kk17640, ev17641, p17640_0, p17640_1⟩ := q17640
              have bv17641 := g17640.rg ad7 (i := 1) (by decide) rf7_1
              rw [ev17641] at bv17641
              have k17640 := k0.tr kk17640 (by decide)
              show jEv _ _ _ _ _ _ _ (_, [(2, 7), (2, 1), (0, 11), (0, a3), (0, v17632)], [(0, v17642)], _, _, _)
              exact ev_ret rfl (by decide) (by decide) ⟨_, _, rfl, by omega, by omega, g17640, k17640, (ev17641), by omega, by omega⟩
            · refine ev_aload_n rfl ?_
              refine ev_iload_n rfl ?_
              refine ev_iload_n rfl ?_
              refine ev_call (jcall_v (A := [(0, a3), (0, 11)]) (S' := []) (r := 7) rfl (g.lt ad7) (g.tg ad7) (Nat.le_of_ble_eq_true rfl)) (jOk_le (by decide) (s77 g (by omega) (by omega) (by omega) (by omega) (ew0) (by omega) (by omega))) (by decide) (by decide) (fun w17643 h17643 q17643 => ?_)
              obtain ⟨v17645, v17644, rfl, lv17645, uv17645, g17643, kk17643, ev17644, p17643_0, p17643_1⟩ := q17643
              have bv17644 := g17643.rg ad7 (i := 1) (by decide) rf7_1
              rw [ev17644] at bv17644
              have k17643 := k0.tr kk17643 (by decide)
              show jEv _ _ _ _ _ _ _ (_, [(2, 7), (2, 1), (0, 11), (0, a3), (0, v17632)], [(0, v17645)], _, _, _)
              refine ev_goto f74_82 ?_
              exact ev_ret rfl (by decide) (by decide) ⟨_, _, rfl, by omega, by omega, g17643, k17643, (ev17644), by omega, by omega⟩
        · refine ev_aload_n rfl ?_
          refine ev_aload_n rfl ?_
          refine ev_iload_n rfl ?_
          refine ev_iload_n rfl ?_
          refine ev_call (jcall_v (A := [(0, a3), (0, 11), (2, 1)]) (S' := []) (r := 7) rfl (g.lt ad7) (g.tg ad7) (Nat.le_of_ble_eq_true rfl)) (jOk_le (by decide) (s79_11 g (by omega) (by omega) (ew0) (by omega) (by omega) (ev17622) (by omega) (by omega))) (by decide) (by decide) (fun w17646 h17646 q17646 => ?_)
          obtain ⟨v17648, v17647, rfl, lv17648, uv17648, g17646, kk17646, ev17647, p17646_0, p17646_1⟩ := q17646
          have bv17647 := g17646.rg ad7 (i := 1) (by decide) rf7_1
          rw [ev17647] at bv17647
          have k17646 := k0.tr kk17646 (by decide)
          show jEv _ _ _ _ _ _ _ (_, [(2, 7), (2, 1), (0, 11), (0, a3), (0, v17632)], [(0, v17648)], _, _, _)
          exact ev_ret rfl (by decide) (by decide) ⟨_, _, rfl, by omega, by omega, g17646, k17646, (ev17647), by omega, by omega⟩
      · refine ev_aload_n rfl ?_
        refine ev_aload_n rfl ?_
        refine ev_iload_n rfl ?_
        refine ev_iload_n rfl ?_
        refine ev_call (jcall_v (A := [(0, a3), (0, 11), (2, 1)]) (S' := []) (r := 7) rfl (g.lt ad7) (g.tg ad7) (Nat.le_of_ble_eq_true rfl)) (jOk_le (by decide) (s78_11 g (by omega) (by omega) (ew0) (by omega) (by omega) (ev17622) (by omega) (by omega))) (by decide) (by decide) (fun w17649 h17649 q17649 => ?_)
        obtain ⟨v17651, v17650, rfl, lv17651, uv17651, g17649, kk17649, ev17650, p17649_0, p17649_1⟩ := q17649
        have bv17650 := g17649.rg ad7 (i := 1) (by decide) rf7_1
        rw [ev17650] at bv17650
        have k17649 := k0.tr kk17649 (by decide)
        show jEv _ _ _ _ _ _ _ (_, [(2, 7), (2, 1), (0, 11), (0, a3), (0, v17632)], [(0, v17651)], _, _, _)
        exact ev_ret rfl (by decide) (by decide) ⟨_, _, rfl, by omega, by omega, g17649, k17649, (ev17650), by omega, by omega⟩
/-! s78_10  -/
set_option maxHeartbeats 4000000 in
theorem s78_10_l {G : GH} {h : JH} {a3 : Int} (la3 : (-2147483648) ≤ a3) (ua3 : a3 ≤ 2147483647) {w0 : Int} (ew0 : h.2.2 7 1 = w0) (lw0 : (-1) ≤ w0) (uw0 : w0 ≤ 200) {w1 : Int} (ew1 : h.2.2 7 2 = w1) (lw1 : 0 ≤ w1) (uw1 : w1 ≤ 199) : ∀ N : Nat, (∀ (h1 : JH) (x4 x5 y0 : Int) (j6 : AV), Gd G h1 → Kp [(7, 2), (7, 3), (7, 4), (10, 0), (11, 0), (12, 0), (13, 0), (14, 0), (15, 0), (16, 0), (17, 0)] h h1 → (-2147483648) ≤ a3 → a3 ≤ 2147483647 → (-1) ≤ x4 → x4 ≤ 199 → 0 ≤ x5 → x5 ≤ 3 → (w0 + (-y0)) ≤ 0 → ((-x4) + (-y0)) ≤ 1 → h1.2.2 7 1 = y0 → (-1) ≤ y0 → y0 ≤ 200 → ((-x5) + 3) < N → jEv (jOk 7) none (fun _ => 0) c78_0 0 0 (fun v h' => ∃ r F : Int, v = some (0, r) ∧ (-1) ≤ r ∧ r ≤ 199 ∧ Gd G h' ∧ Kp [(7, 2), (7, 3), (7, 4), (10, 0), (11, 0), (12, 0), (13, 0), (14, 0), (15, 0), (16, 0), (17, 0)] h h' ∧ h'.2.2 7 1 = F ∧ ((-F) + w0) ≤ 0 ∧ ((-F) + (-r)) ≤ 1) (c78_25, [(2, 7), (2, 1), (0, 10), (0, a3), (0, x4), (0, x5), j6], [], h1, 0, 0)) := by
  intro N
  induction N with
  | zero => exact fun h1 x4 x5 y0 j6 g1 k1 b0 b1 b2 b3 b4 b5 b6 b7 b8 b9 b10 hm => absurd hm (by omega)
  | succ N ih =>
    show _
    intro h1 x4 x5 y0 j6 g1 k1 b0 b1 b2 b3 b4 b5 b6 b7 ey0 ly0 uy0 hm
    refine ev_iload rfl ?_
    refine ev_iconst ?_
    refine ev_icmpge f78_100 (fun c17820 => absurd c17820 (by omega)) (fun c17820 => ?_)
    refine ev_aload_n rfl ?_
    refine g_getv (r := 7) (v := y0) g1 ad7 (by decide) ft5_1 (ey0) ?_
    refine ev_ifge f78_100 (fun c17821 => ?_) (fun c17821 => ?_)
    · refine ev_aload_n rfl ?_
      refine ev_bipush ?_
      refine ev_call (jcall_v (A := [(0, 41)]) (S' := []) (r := 7) rfl (g1.lt ad7) (g1.tg ad7) (Nat.le_of_ble_eq_true rfl)) (jOk_le (by decide) (s71 g1 (by omega) (by omega) (ey0) (by omega) (by omega))) (by decide) (by decide) (fun w17822 h17822 q17822 => ?_)
      obtain ⟨v17823, rfl, g17822, kk17822, ev17823, p17822_0⟩ := q17822
      have bv17823 := g17822.rg ad7 (i := 1) (by decide) rf7_1
      rw [ev17823] at bv17823
      have k17822 := k1.tr kk17822 (by decide)
      show jEv _ _ _ _ _ _ _ (_, [(2, 7), (2, 1), (0, 10), (0, a3), (0, x4), (0, x5), j6], [], _, _, _)
      refine ev_aload_n rfl ?_
      refine g_getv (r := 7) (v := v17823) g17822 ad7 (by decide) ft5_1 (ev17823) ?_
      refine ev_iflt f78_117 (fun c17824 => absurd c17824 (by omega)) (fun c17824 => ?_)
      refine ev_iconst ?_
      refine ev_goto f78_119 ?_
      exact ev_ret rfl (by decide) (by decide) ⟨_, _, rfl, by omega, by omega, g17822, k17822, (ev17823), by omega, by omega⟩
    · refine ev_aload_n rfl ?_
      refine ev_iconst ?_
      refine ev_call (jcall_v (A := [(0, 2)]) (S' := []) (r := 7) rfl (g1.lt ad7) (g1.tg ad7) (Nat.le_of_ble_eq_true rfl)) (jOk_le (by decide) (s76 g1 (by omega) (by omega) (ey0) (by omega) (by omega))) (by decide) (by decide) (fun w17825 h17825 q17825 => ?_)
      obtain ⟨v17827, v17826, rfl, lv17827, uv17827, g17825, kk17825, ev17826, p17825_0⟩ := q17825
      have bv17826 := g17825.rg ad7 (i := 1) (by decide) rf7_1
      rw [ev17826] at bv17826
      have k17825 := k1.tr kk17825 (by decide)
      show jEv _ _ _ _ _ _ _ (_, [(2, 7), (2, 1), (0, 10), (0, a3), (0, x4), (0, x5), j6], [(0, v17827)], _, _, _)
      refine ev_istore (L' := [(2, 7), (2, 1), (0, 10), (0, a3), (0, x4), (0, x5), (0, v17827)]) (Nat.le_of_ble_eq_true rfl) rfl ?_
      refine ev_aload_n rfl ?_
      refine ev_bipush ?_
      refine ev_call (jcall_v (A := [(0, 58)]) (S' := []) (r := 7) rfl (g17825.lt ad7) (g17825.tg ad7) (Nat.le_of_ble_eq_true rfl)) (jOk_le (by decide) (s71 g17825 (by omega) (by omega) (ev17826) (by omega) (by omega))) (by decide) (by decide) (fun w17828 h17828 q17828 => ?_)
      obtain ⟨v17829, rfl, g17828, kk17828, ev17829, p17828_0⟩ := q17828
      have bv17829 := g17828.rg ad7 (i := 1) (by decide) rf7_1
      rw [ev17829] at bv17829
      have k17828 := k17825.tr kk17828 (by decide)
      show jEv _ _ _ _ _ _ _ (_, [(2, 7), (2, 1), (0, 10), (0, a3), (0, x4), (0, x5), (0, v17827)], [], _, _, _)
      refine ev_aload_n rfl ?_
      refine ev_iload rfl ?_
      refine ev_iload rfl ?_
      refine ev_iload rfl ?_
      refine ev_aload_n rfl ?_
      refine ev_aload_n rfl ?_
      refine ev_iload_n rfl ?_
      refine ev_iconst ?_
      refine ev_iadd (r := 11) (by decide) ?_
      refine ev_iload_n rfl ?_
      refine ev_call (jcall_v (A := [(0, a3), (0, 11), (2, 1)]) (S' := [(0, v17827), (0, x5), (0, x4), (2, 7)]) (r := 7) rfl (g17828.lt ad7) (g17828.tg ad7) (Nat.le_of_ble_eq_true rfl)) (jOk_le (by decide) (s74_11 g17828 (by omega) (by omega) (ev17829) (by omega) (by omega))) (by decide) (by decide) (fun w17830 h17830 q17830 => ?_)
      obtain ⟨v17832, v17831, rfl, lv17832, uv17832, g17830, kk17830, ev17831, p17830_0, p17830_1⟩ := q17830
      have bv17831 := g17830.rg ad7 (i := 1) (by decide) rf7_1
      rw [ev17831] at bv17831
      have k17830 := k17828.tr kk17830 (by decide)
      show jEv _ _ _ _ _ _ _ (_, [(2, 7), (2, 1), (0, 10), (0, a3), (0, x4), (0, x5), (0, v17827)], [(0, v17832), (0, v17827), (0, x5), (0, x4), (2, 7)], _, _, _)
      refine ev_call (jcall_v (A := [(0, v17832), (0, v17827), (0, x5), (0, x4)]) (S' := []) (r := 7) rfl (g17830.lt ad7) (g17830.tg ad7) (Nat.le_of_ble_eq_true rfl)) (jOk_le (by decide) (s80 g17830 (by omega) (by omega) (by omega) (by omega) (by omega) (by omega) (by omega) (by omega))) (by decide) (by decide) (fun w17833 h17833 q17833 => ?_)
      obtain ⟨rfl, g17833, kk17833⟩ := q17833
      have k17833 := k17830.tr kk17833 (by decide)
      show jEv _ _ _ _ _ _ _ (_, [(2, 7), (2, 1), (0, 10), (0, a3), (0, x4), (0, x5), (0, v17827)], [], _, _, _)
      refine ev_aload_n rfl ?_
      refine ev_in (d := 6) (a := 0) (b := 0) (cd' := c68_0) (m := 1) (L0 := [(2, 7)]) (jcall_v (A := []) (S' := []) (r := 7) rfl (g17833.lt ad7) (g17833.tg ad7) (Nat.le_of_ble_eq_true rfl)) (by decide) ml68 pp68 (Nat.le_of_ble_eq_true rfl) rfl (by decide) (by decide) ?_
      refine ev_aload_n rfl ?_
      obtain ⟨v17834, ev17834, lv17834, uv17834⟩ := g17833.rd ad7 (show 2 < 15 by decide) rf7_2
      refine g_getv (r := 7) (v := v17834) g17833 ad7 (by decide) ft5_2 ev17834 ?_
      refine ev_aload_n rfl ?_
      obtain ⟨v17835, ev17835, lv17835, uv17835⟩ := g17833.rd ad7 (show 0 < 15 by decide) rf7_0
      refine g_getv (r := 7) (v := v17835) g17833 ad7 (by decide) ft5_0 ev17835 ?_
      refine ev_icmpge f68_27 (fun c17836 => ?_) (fun c17836 => ?_)
      · refine ev_iconst ?_
        refine ev_ret rfl (by decide) (by decide) ?_
        show jEv _ _ _ _ _ _ _ (_, [(2, 7), (2, 1), (0, 10), (0, a3), (0, x4), (0, x5), (0, v17827)], [(0, (-1))], _, _, _)
        refine ev_bipush ?_
        refine ev_icmpne f78_100 (fun c17837 => ?_) (fun c17837 => absurd c17837 (by omega))
        refine ev_aload_n rfl ?_
        refine ev_bipush ?_
        refine ev_call (jcall_v (A := [(0, 41)]) (S' := []) (r := 7) rfl (g17833.lt ad7) (g17833.tg ad7) (Nat.le_of_ble_eq_true rfl)) (jOk_le (by decide) (s71 g17833 (by omega) (by omega) (((kk17833.v (by decide)).trans ev17831)) (by omega) (by omega))) (by decide) (by decide) (fun w17838 h17838 q17838 => ?_)
        obtain ⟨v17839, rfl, g17838, kk17838, ev17839, p17838_0⟩ := q17838
        have bv17839 := g17838.rg ad7 (i := 1) (by decide) rf7_1
        rw [ev17839] at bv17839
        have k17838 := k17833.tr kk17838 (by decide)
        show jEv _ _ _ _ _ _ _ (_, [(2, 7), (2, 1), (0, 10), (0, a3), (0, x4), (0, x5), (0, v17827)], [], _, _, _)
        refine ev_aload_n rfl ?_
        refine g_getv (r := 7) (v := v17839) g17838 ad7 (by decide) ft5_1 (ev17839) ?_
        refine ev_iflt f78_117 (fun c17840 => ?_) (fun c17840 => ?_)
        · refine ev_iload rfl ?_
          exact ev_ret rfl (by decide) (by decide) ⟨_, _, rfl, by omega, by omega, g17838, k17838, (ev17839), by omega, by omega⟩
        · refine ev_iconst ?_
          refine ev_goto f78_119 ?_
          exact ev_ret rfl (by decide) (by decide) ⟨_, _, rfl, by omega, by omega, g17838, k17838, (ev17839), by omega, by omega⟩
      · refine ev_aload_n rfl ?_
        refine g_getp (r := 7) (c := 8) g17833 ad7 (by decide) (by decide) rf7_5 ft5_5 ?_
        refine ev_aload_n rfl ?_
        refine g_getv (r := 7) (v := v17834) g17833 ad7 (by decide) ft5_2 (ev17834) ?_
        refine g_bald g17833 ad8 rt8 (by omega) (by omega) (fun v17841 ev17841 lv17841 uv17841 => ?_)
        refine ev_sipush ?_
        refine g_iandB (b := 255) (by omega) (by omega) (by decide) (fun v17842 ev17842 lv17842 uv17842 => ?_)
        refine ev_goto f68_28 ?_
        refine ev_ret rfl (by decide) (by decide) ?_
        show jEv _ _ _ _ _ _ _ (_, [(2, 7), (2, 1), (0, 10), (0, a3), (0, x4), (0, x5), (0, v17827)], [(0, v17842)], _, _, _)
        refine ev_bipush ?_
        refine ev_icmpne f78_100 (fun c17843 => ?_) (fun c17843 => ?_)
        · refine ev_aload_n rfl ?_
          refine ev_bipush ?_
          refine ev_call (jcall_v (A := [(0, 41)]) (S' := []) (r := 7) rfl (g17833.lt ad7) (g17833.tg ad7) (Nat.le_of_ble_eq_true rfl)) (jOk_le (by decide) (s71 g17833 (by omega) (by omega) (((kk17833.v (by decide)).trans ev17831)) (by omega) (by omega))) (by decide) (by decide) (fun w17844 h17844 q17844 => ?_)
          obtain ⟨v17845, rfl, g17844, kk17844, ev17845, p17844_0⟩ := q17844
          have bv17845 := g17844.rg ad7 (i := 1) (by decide) rf7_1
          rw [ev17845] at bv17845
          have k17844 := k17833.tr kk17844 (by decide)
          show jEv _ _ _ _ _ _ _ (_, [(2, 7), (2, 1), (0, 10), (0, a3), (0, x4), (0, x5), (0, v17827)], [], _, _, _)
          refine ev_aload_n rfl ?_
          refine g_getv (r := 7) (v := v17845) g17844 ad7 (by decide) ft5_1 (ev17845) ?_
          refine ev_iflt f78_117 (fun c17846 => ?_) (fun c17846 => ?_)
          · refine ev_iload rfl ?_
            exact ev_ret rfl (by decide) (by decide) ⟨_, _, rfl, by omega, by omega, g17844, k17844, (ev17845), by omega, by omega⟩
          · refine ev_iconst ?_
            refine ev_goto f78_119 ?_
            exact ev_ret rfl (by decide) (by decide) ⟨_, _, rfl, by omega, by omega, g17844, k17844, (ev17845), by omega, by omega⟩
        · refine ev_iload rfl ?_
          refine ev_iconst ?_
          refine ev_icmpne f78_88 (fun c17847 => ?_) (fun c17847 => ?_)
          · refine ev_aload_n rfl ?_
            refine ev_bipush ?_
            refine ev_call (jcall_v (A := [(0, 44)]) (S' := []) (r := 7) rfl (g17833.lt ad7) (g17833.tg ad7) (Nat.le_of_ble_eq_true rfl)) (jOk_le (by decide) (s71 g17833 (by omega) (by omega) (((kk17833.v (by decide)).trans ev17831)) (by omega) (by omega))) (by decide) (by decide) (fun w17848 h17848 q17848 => ?_)
            obtain ⟨v17849, rfl, g17848, kk17848, ev17849, p17848_0⟩ := q17848
            have bv17849 := g17848.rg ad7 (i := 1) (by decide) rf7_1
            rw [ev17849] at bv17849
            have k17848 := k17833.tr kk17848 (by decide)
            show jEv _ _ _ _ _ _ _ (_, [(2, 7), (2, 1), (0, 10), (0, a3), (0, x4), (0, x5), (0, v17827)], [], _, _, _)
            refine ev_iinc (w := (x5 + 1)) (L' := [(2, 7), (2, 1), (0, 10), (0, a3), (0, x4), (0, (x5 + 1)), (0, v17827)]) rfl (by unfold w32; omega) rfl ?_
            refine ev_goto f78_25 ?_
            exact ih _ _ _ _ _ g17848 k17848 (by omega) (by omega) (by omega) (by omega) (by omega) (by omega) (by omega) (by omega) (ev17849) (by omega) (by omega) (by omega)
          · refine ev_goto f78_100 ?_
            refine ev_aload_n rfl ?_
            refine ev_bipush ?_
            refine ev_call (jcall_v (A := [(0, 41)]) (S' := []) (r := 7) rfl (g17833.lt ad7) (g17833.tg ad7) (Nat.le_of_ble_eq_true rfl)) (jOk_le (by decide) (s71 g17833 (by omega) (by omega) (((kk17833.v (by decide)).trans ev17831)) (by omega) (by omega))) (by decide) (by decide) (fun w17850 h17850 q17850 => ?_)
            obtain ⟨v17851, rfl, g17850, kk17850, ev17851, p17850_0⟩ := q17850
            have bv17851 := g17850.rg ad7 (i := 1) (by decide) rf7_1
            rw [ev17851] at bv17851
            have k17850 := k17833.tr kk17850 (by decide)
            show jEv _ _ _ _ _ _ _ (_, [(2, 7), (2, 1), (0, 10), (0, a3), (0, x4), (0, x5), (0, v17827)], [], _, _, _)
            refine ev_aload_n rfl ?_
            refine g_getv (r := 7) (v := v17851) g17850 ad7 (by decide) ft5_1 (ev17851) ?_
            refine ev_iflt f78_117 (fun c17852 => ?_) (fun c17852 => ?_)
            · refine ev_iload rfl ?_
              exact ev_ret rfl (by decide) (by decide) ⟨_, _, rfl, by omega, by omega, g17850, k17850, (ev17851), by omega, by omega⟩
            · refine ev_iconst ?_
              refine ev_goto f78_119 ?_
              exact ev_ret rfl (by decide) (by decide) ⟨_, _, rfl, by omega, by omega, g17850, k17850, (ev17851), by omega, by omega⟩
set_option maxHeartbeats 4000000 in
theorem s78_10 {G : GH} {h : JH} (g : Gd G h) {a3 : Int} (la3 : (-2147483648) ≤ a3) (ua3 : a3 ≤ 2147483647) {w0 : Int} (ew0 : h.2.2 7 1 = w0) (lw0 : (-1) ≤ w0) (uw0 : w0 ≤ 200) {w1 : Int} (ew1 : h.2.2 7 2 = w1) (lw1 : 0 ≤ w1) (uw1 : w1 ≤ 199) : jOk 8 0 0 78 [(2, 7), (2, 1), (0, 10), (0, a3)] h (fun v h' => ∃ r F : Int, v = some (0, r) ∧ (-1) ≤ r ∧ r ≤ 199 ∧ Gd G h' ∧ Kp [(7, 2), (7, 3), (7, 4), (10, 0), (11, 0), (12, 0), (13, 0), (14, 0), (15, 0), (16, 0), (17, 0)] h h' ∧ h'.2.2 7 1 = F ∧ ((-F) + w0) ≤ 0 ∧ ((-F) + (-r)) ≤ 1) := by
  refine ⟨by decide, by rw [ml78]; exact Nat.le_of_ble_eq_true rfl, ?_⟩
  rw [ml78, pp78]
  show jEv _ none _ c78_0 0 0 _ (c78_0, [(2, 7), (2, 1), (0, 10), (0, a3), (9, 0), (9, 0), (9, 0)], [], h, 0, 0)
  have k0 := Kp.rf [(7, 2), (7, 3), (7, 4), (10, 0), (11, 0), (12, 0), (13, 0), (14, 0), (15, 0), (16, 0), (17, 0)] h
  refine ev_aload_n rfl ?_
  refine ev_dup (by decide) ?_
  refine g_getv (r := 7) (v := w1) g ad7 (by decide) ft5_2 (ew1) ?_
  refine ev_iconst ?_
  refine ev_iadd (r := (w1 + 1)) (by unfold w32; omega) ?_
  refine g_putf (r := 7) g ad7 (by decide) ft5_2 (by decide) (fun e => absurd e nz5_2) rf7_2 (by decide) (by omega) (by omega) (fun h17853 e17853 g17853 => ?_)
  have k17853 := k0.wr e17853 rfl
  refine ev_aload_n rfl ?_
  refine ev_iload_n rfl ?_
  refine ev_call (jcall_v (A := [(0, 10)]) (S' := []) (r := 7) rfl (g17853.lt ad7) (g17853.tg ad7) (Nat.le_of_ble_eq_true rfl)) (jOk_le (by decide) (s72 g17853 (by omega) (by omega) (((jw_ne e17853 (Or.inr (by decide))).trans ew0)) (by omega) (by omega))) (by decide) (by decide) (fun w17854 h17854 q17854 => ?_)
  obtain ⟨v17855, rfl, g17854, kk17854, ev17855, p17854_0⟩ := q17854
  have bv17855 := g17854.rg ad7 (i := 1) (by decide) rf7_1
  rw [ev17855] at bv17855
  have k17854 := k17853.tr kk17854 (by decide)
  show jEv _ _ _ _ _ _ _ (_, [(2, 7), (2, 1), (0, 10), (0, a3), (9, 0), (9, 0), (9, 0)], [], _, _, _)
  refine ev_aload_n rfl ?_
  refine ev_iconst ?_
  refine ev_call (jcall_v (A := [(0, 1)]) (S' := []) (r := 7) rfl (g17854.lt ad7) (g17854.tg ad7) (Nat.le_of_ble_eq_true rfl)) (jOk_le (by decide) (s73 g17854 (by omega) (by omega) (ev17855) (by omega) (by omega))) (by decide) (by decide) (fun w17856 h17856 q17856 => ?_)
  obtain ⟨v17858, v17857, rfl, lv17858, uv17858, g17856, kk17856, ev17857, p17856_0, p17856_1⟩ := q17856
  have bv17857 := g17856.rg ad7 (i := 1) (by decide) rf7_1
  rw [ev17857] at bv17857
  have k17856 := k17854.tr kk17856 (by decide)
  show jEv _ _ _ _ _ _ _ (_, [(2, 7), (2, 1), (0, 10), (0, a3), (9, 0), (9, 0), (9, 0)], [(0, v17858)], _, _, _)
  refine ev_istore (L' := [(2, 7), (2, 1), (0, 10), (0, a3), (0, v17858), (9, 0), (9, 0)]) (Nat.le_of_ble_eq_true rfl) rfl ?_
  refine ev_iconst ?_
  refine ev_istore (L' := [(2, 7), (2, 1), (0, 10), (0, a3), (0, v17858), (0, 0), (9, 0)]) (Nat.le_of_ble_eq_true rfl) rfl ?_
  exact (s78_10_l la3 ua3 ew0 lw0 uw0 ew1 lw1 uw1 8) _ _ _ _ _ g17856 k17856 (by omega) (by omega) (by omega) (by omega) (by omega) (by omega) (by omega) (by omega) (ev17857) (by omega) (by omega) (by omega)
/-! s79_10  -/
set_option maxHeartbeats 4000000 in
theorem s79_10_l {G : GH} {h : JH} {a3 : Int} (la3 : (-2147483648) ≤ a3) (ua3 : a3 ≤ 2147483647) {w0 : Int} (ew0 : h.2.2 7 1 = w0) (lw0 : (-1) ≤ w0) (uw0 : w0 ≤ 200) {w1 : Int} (ew1 : h.2.2 7 2 = w1) (lw1 : 0 ≤ w1) (uw1 : w1 ≤ 199) : ∀ N : Nat, (∀ (h1 : JH) (x4 x5 x6 y0 : Int), Gd G h1 → Kp [(7, 2), (7, 3), (7, 4), (10, 0), (11, 0), (12, 0), (13, 0), (14, 0), (15, 0), (16, 0), (17, 0)] h h1 → (-2147483648) ≤ a3 → a3 ≤ 2147483647 → 0 ≤ x4 → x4 ≤ 3 → (-1) ≤ x5 → x5 ≤ 199 → 0 ≤ x6 → x6 ≤ 3 → (w0 + (-y0)) ≤ 0 → ((-x5) + (-y0)) ≤ 1 → h1.2.2 7 1 = y0 → (-1) ≤ y0 → y0 ≤ 200 → ((-x6) + 3) < N → jEv (jOk 7) none (fun _ => 0) c79_0 0 0 (fun v h' => ∃ r F : Int, v = some (0, r) ∧ (-1) ≤ r ∧ r ≤ 199 ∧ Gd G h' ∧ Kp [(7, 2), (7, 3), (7, 4), (10, 0), (11, 0), (12, 0), (13, 0), (14, 0), (15, 0), (16, 0), (17, 0)] h h' ∧ h'.2.2 7 1 = F ∧ ((-F) + w0) ≤ 0 ∧ ((-F) + (-r)) ≤ 1) (c79_68, [(2, 7), (2, 1), (0, 10), (0, a3), (0, x4), (0, x5), (0, x6)], [], h1, 0, 0)) := by
  intro N
  induction N with
  | zero => exact fun h1 x4 x5 x6 y0 g1 k1 b0 b1 b2 b3 b4 b5 b6 b7 b8 b9 b10 b11 b12 hm => absurd hm (by omega)
  | succ N ih =>
    show _
    intro h1 x4 x5 x6 y0 g1 k1 b0 b1 b2 b3 b4 b5 b6 b7 b8 b9 ey0 ly0 uy0 hm
    refine ev_iload rfl ?_
    refine ev_aload_n rfl ?_
    refine ev_iload rfl ?_
    refine ev_in (d := 6) (a := 0) (b := 0) (cd' := c141_0) (m := 2) (L0 := [(2, 1), (0, x4)]) (jcall_v (A := [(0, x4)]) (S' := [(0, x6)]) (r := 1) rfl (g1.lt ad1) (g1.tg ad1) (Nat.le_of_ble_eq_true rfl)) (by decide) ml141 pp141 (Nat.le_of_ble_eq_true rfl) rfl (by decide) (by decide) ?_
    refine ev_aload_n rfl ?_
    refine ev_iload_n rfl ?_
    refine ev_in (d := 5) (a := 0) (b := 0) (cd' := c140_0) (m := 2) (L0 := [(2, 1), (0, x4)]) (jcall_v (A := [(0, x4)]) (S' := []) (r := 1) rfl (g1.lt ad1) (g1.tg ad1) (Nat.le_of_ble_eq_true rfl)) (by decide) ml140 pp140 (Nat.le_of_ble_eq_true rfl) rfl (by decide) (by decide) ?_
    refine ev_iload_n rfl ?_
    refine ev_iflt f140_16 (fun c18118 => absurd c18118 (by omega)) (fun c18118 => ?_)
    refine ev_iload_n rfl ?_
    refine ev_aload_n rfl ?_
    obtain ⟨v18119, ev18119, lv18119, uv18119⟩ := g1.rd ad1 (show 0 < 8 by decide) rf1_0
    refine g_getv (r := 1) (v := v18119) g1 ad1 (by decide) ft10_0 ev18119 ?_
    refine ev_icmpge f140_16 (fun c18120 => ?_) (fun c18120 => ?_)
    · refine ev_iconst ?_
      refine ev_ret rfl (by decide) (by decide) ?_
      show jEv _ _ _ _ _ _ _ (_, [(2, 1), (0, x4)], [(0, 0)], _, _, _)
      refine ev_ifeq f141_17 (fun c18121 => ?_) (fun c18121 => absurd c18121 (by omega))
      refine ev_iconst ?_
      refine ev_ret rfl (by decide) (by decide) ?_
      show jEv _ _ _ _ _ _ _ (_, [(2, 7), (2, 1), (0, 10), (0, a3), (0, x4), (0, x5), (0, x6)], [(0, 0), (0, x6)], _, _, _)
      refine ev_icmpge f79_126 (fun c18122 => ?_) (fun c18122 => absurd c18122 (by omega))
      refine ev_aload_n rfl ?_
      refine ev_bipush ?_
      refine ev_call (jcall_v (A := [(0, 41)]) (S' := []) (r := 7) rfl (g1.lt ad7) (g1.tg ad7) (Nat.le_of_ble_eq_true rfl)) (jOk_le (by decide) (s71 g1 (by omega) (by omega) (ey0) (by omega) (by omega))) (by decide) (by decide) (fun w18123 h18123 q18123 => ?_)
      obtain ⟨v18124, rfl, g18123, kk18123, ev18124, p18123_0⟩ := q18123
      have bv18124 := g18123.rg ad7 (i := 1) (by decide) rf7_1
      rw [ev18124] at bv18124
      have k18123 := k1.tr kk18123 (by decide)
      show jEv _ _ _ _ _ _ _ (_, [(2, 7), (2, 1), (0, 10), (0, a3), (0, x4), (0, x5), (0, x6)], [], _, _, _)
      refine ev_aload_n rfl ?_
      refine g_getv (r := 7) (v := v18124) g18123 ad7 (by decide) ft5_1 (ev18124) ?_
      refine ev_ifge f79_144 (fun c18125 => ?_) (fun c18125 => ?_)
      · refine ev_iconst ?_
        exact ev_ret rfl (by decide) (by decide) ⟨_, _, rfl, by omega, by omega, g18123, k18123, (ev18124), by omega, by omega⟩
      · refine ev_iload rfl ?_
        refine ev_ifge f79_146 (fun c18126 => ?_) (fun c18126 => absurd c18126 (by omega))
        refine ev_aload_n rfl ?_
        refine g_getp (r := 7) (c := 11) g18123 ad7 (by decide) (by decide) rf7_8 ft5_8 ?_
        refine ev_iload rfl ?_
        refine ev_iload rfl ?_
        refine g_iast g18123 ad11 rt11 (fun _ => rfl) (by omega) (by omega) (by omega) (by omega) (fun h18127 e18127 g18127 => ?_)
        have k18127 := k18123.wr e18127 rfl
        refine ev_aload_n rfl ?_
        refine g_getp (r := 7) (c := 15) g18127 ad7 (by decide) (by decide) rf7_12 ft5_12 ?_
        refine ev_iload rfl ?_
        refine ev_dup2 (by decide) (by decide) ?_
        refine g_iald g18127 ad15 rt15 (by omega) (by omega) (fun v18128 ev18128 lv18128 uv18128 => ?_)
        refine ev_iconst ?_
        refine ev_iload rfl ?_
        refine g_ishlB (a' := 1) (a := 1) (b := 3) (hi := 8) (by omega) (by omega) (by omega) (by omega) (by decide) (by decide) (fun v18129 ev18129 lv18129 uv18129 => ?_)
        refine g_iorG (fun v18130 ev18130 lv18130 uv18130 => ?_)
        refine g_iast g18127 ad15 rt15 (fun _ => rfl) (by omega) (by omega) (by omega) (by omega) (fun h18131 e18131 g18131 => ?_)
        have k18131 := k18127.wr e18131 rfl
        refine ev_iload rfl ?_
        exact ev_ret rfl (by decide) (by decide) ⟨_, _, rfl, by omega, by omega, g18131, k18131, (((jw_ne e18131 (Or.inl (by decide))).trans ((jw_ne e18127 (Or.inl (by decide))).trans ev18124))), by omega, by omega⟩
    · refine ev_iconst ?_
      refine ev_goto f140_17 ?_
      refine ev_ret rfl (by decide) (by decide) ?_
      show jEv _ _ _ _ _ _ _ (_, [(2, 1), (0, x4)], [(0, 1)], _, _, _)
      refine ev_ifeq f141_17 (fun c18132 => absurd c18132 (by omega)) (fun c18132 => ?_)
      refine ev_aload_n rfl ?_
      refine g_getp (r := 1) (c := 2) g1 ad1 (by decide) (by decide) rf1_3 ft10_3 ?_
      refine ev_iload_n rfl ?_
      refine g_iald g1 ad2 rt2 (by omega) (by omega) (fun v18133 ev18133 lv18133 uv18133 => ?_)
      have xv18133 := (g1.ex.1.1 (x4 : Int).toNat (by rw [(ev18119)]; omega))
      rw [ev18133] at xv18133
      refine ev_goto f141_18 ?_
      refine ev_ret rfl (by decide) (by decide) ?_
      show jEv _ _ _ _ _ _ _ (_, [(2, 7), (2, 1), (0, 10), (0, a3), (0, x4), (0, x5), (0, x6)], [(0, v18133), (0, x6)], _, _, _)
      refine ev_icmpge f79_126 (fun c18134 => ?_) (fun c18134 => ?_)
      · refine ev_aload_n rfl ?_
        refine ev_bipush ?_
        refine ev_call (jcall_v (A := [(0, 41)]) (S' := []) (r := 7) rfl (g1.lt ad7) (g1.tg ad7) (Nat.le_of_ble_eq_true rfl)) (jOk_le (by decide) (s71 g1 (by omega) (by omega) (ey0) (by omega) (by omega))) (by decide) (by decide) (fun w18135 h18135 q18135 => ?_)
        obtain ⟨v18136, rfl, g18135, kk18135, ev18136, p18135_0⟩ := q18135
        have bv18136 := g18135.rg ad7 (i := 1) (by decide) rf7_1
        rw [ev18136] at bv18136
        have k18135 := k1.tr kk18135 (by decide)
        show jEv _ _ _ _ _ _ _ (_, [(2, 7), (2, 1), (0, 10), (0, a3), (0, x4), (0, x5), (0, x6)], [], _, _, _)
        refine ev_aload_n rfl ?_
        refine g_getv (r := 7) (v := v18136) g18135 ad7 (by decide) ft5_1 (ev18136) ?_
        refine ev_ifge f79_144 (fun c18137 => ?_) (fun c18137 => ?_)
        · refine ev_iconst ?_
          exact ev_ret rfl (by decide) (by decide) ⟨_, _, rfl, by omega, by omega, g18135, k18135, (ev18136), by omega, by omega⟩
        · refine ev_iload rfl ?_
          refine ev_ifge f79_146 (fun c18138 => ?_) (fun c18138 => absurd c18138 (by omega))
          refine ev_aload_n rfl ?_
          refine g_getp (r := 7) (c := 11) g18135 ad7 (by decide) (by decide) rf7_8 ft5_8 ?_
          refine ev_iload rfl ?_
          refine ev_iload rfl ?_
          refine g_iast g18135 ad11 rt11 (fun _ => rfl) (by omega) (by omega) (by omega) (by omega) (fun h18139 e18139 g18139 => ?_)
          have k18139 := k18135.wr e18139 rfl
          refine ev_aload_n rfl ?_
          refine g_getp (r := 7) (c := 15) g18139 ad7 (by decide) (by decide) rf7_12 ft5_12 ?_
          refine ev_iload rfl ?_
          refine ev_dup2 (by decide) (by decide) ?_
          refine g_iald g18139 ad15 rt15 (by omega) (by omega) (fun v18140 ev18140 lv18140 uv18140 => ?_)
          refine ev_iconst ?_
          refine ev_iload rfl ?_
          refine g_ishlB (a' := 1) (a := 1) (b := 3) (hi := 8) (by omega) (by omega) (by omega) (by omega) (by decide) (by decide) (fun v18141 ev18141 lv18141 uv18141 => ?_)
          refine g_iorG (fun v18142 ev18142 lv18142 uv18142 => ?_)
          refine g_iast g18139 ad15 rt15 (fun _ => rfl) (by omega) (by omega) (by omega) (by omega) (fun h18143 e18143 g18143 => ?_)
          have k18143 := k18139.wr e18143 rfl
          refine ev_iload rfl ?_
          exact ev_ret rfl (by decide) (by decide) ⟨_, _, rfl, by omega, by omega, g18143, k18143, (((jw_ne e18143 (Or.inl (by decide))).trans ((jw_ne e18139 (Or.inl (by decide))).trans ev18136))), by omega, by omega⟩
      · refine ev_aload_n rfl ?_
        refine g_getv (r := 7) (v := y0) g1 ad7 (by decide) ft5_1 (ey0) ?_
        refine ev_ifge f79_126 (fun c18144 => ?_) (fun c18144 => ?_)
        · refine ev_aload_n rfl ?_
          refine ev_bipush ?_
          refine ev_call (jcall_v (A := [(0, 41)]) (S' := []) (r := 7) rfl (g1.lt ad7) (g1.tg ad7) (Nat.le_of_ble_eq_true rfl)) (jOk_le (by decide) (s71 g1 (by omega) (by omega) (ey0) (by omega) (by omega))) (by decide) (by decide) (fun w18145 h18145 q18145 => ?_)
          obtain ⟨v18146, rfl, g18145, kk18145, ev18146, p18145_0⟩ := q18145
          have bv18146 := g18145.rg ad7 (i := 1) (by decide) rf7_1
          rw [ev18146] at bv18146
          have k18145 := k1.tr kk18145 (by decide)
          show jEv _ _ _ _ _ _ _ (_, [(2, 7), (2, 1), (0, 10), (0, a3), (0, x4), (0, x5), (0, x6)], [], _, _, _)
          refine ev_aload_n rfl ?_
          refine g_getv (r := 7) (v := v18146) g18145 ad7 (by decide) ft5_1 (ev18146) ?_
          refine ev_ifge f79_144 (fun c18147 => ?_) (fun c18147 => absurd c18147 (by omega))
          refine ev_iconst ?_
          exact ev_ret rfl (by decide) (by decide) ⟨_, _, rfl, by omega, by omega, g18145, k18145, (ev18146), by omega, by omega⟩
        · refine ev_iload rfl ?_
          refine ev_ifle f79_97 (fun c18148 => ?_) (fun c18148 => ?_)
          · refine ev_aload_n rfl ?_
            refine ev_iload rfl ?_
            refine ev_iload rfl ?_
            refine ev_iconst ?_
            refine ev_aload_n rfl ?_
            refine ev_aload_n rfl ?_
            refine ev_iload_n rfl ?_
            refine ev_iconst ?_
            refine ev_iadd (r := 11) (by decide) ?_
            refine ev_iload_n rfl ?_
            refine ev_iconst ?_
            refine ev_iload rfl ?_
            refine g_ishlB (a' := 1) (a := 1) (b := 3) (hi := 8) (by omega) (by omega) (by omega) (by omega) (by decide) (by decide) (fun v18149 ev18149 lv18149 uv18149 => ?_)
            refine g_iorG (fun v18150 ev18150 lv18150 uv18150 => ?_)
            refine ev_call (jcall_v (A := [(0, v18150), (0, 11), (2, 1)]) (S' := [(0, 0), (0, x6), (0, x5), (2, 7)]) (r := 7) rfl (g1.lt ad7) (g1.tg ad7) (Nat.le_of_ble_eq_true rfl)) (jOk_le (by decide) (s74_11 g1 (by omega) (by omega) (ey0) (by omega) (by omega))) (by decide) (by decide) (fun w18151 h18151 q18151 => ?_)
            obtain ⟨v18153, v18152, rfl, lv18153, uv18153, g18151, kk18151, ev18152, p18151_0, p18151_1⟩ := q18151
            have bv18152 := g18151.rg ad7 (i := 1) (by decide) rf7_1
            rw [ev18152] at bv18152
            have k18151 := k1.tr kk18151 (by decide)
            show jEv _ _ _ _ _ _ _ (_, [(2, 7), (2, 1), (0, 10), (0, a3), (0, x4), (0, x5), (0, x6)], [(0, v18153), (0, 0), (0, x6), (0, x5), (2, 7)], _, _, _)
            refine ev_call (jcall_v (A := [(0, v18153), (0, 0), (0, x6), (0, x5)]) (S' := []) (r := 7) rfl (g18151.lt ad7) (g18151.tg ad7) (Nat.le_of_ble_eq_true rfl)) (jOk_le (by decide) (s80 g18151 (by omega) (by omega) (by omega) (by omega) (by omega) (by omega) (by omega) (by omega))) (by decide) (by decide) (fun w18154 h18154 q18154 => ?_)
            obtain ⟨rfl, g18154, kk18154⟩ := q18154
            have k18154 := k18151.tr kk18154 (by decide)
            show jEv _ _ _ _ _ _ _ (_, [(2, 7), (2, 1), (0, 10), (0, a3), (0, x4), (0, x5), (0, x6)], [], _, _, _)
            refine ev_iinc (w := (x6 + 1)) (L' := [(2, 7), (2, 1), (0, 10), (0, a3), (0, x4), (0, x5), (0, (x6 + 1))]) rfl (by unfold w32; omega) rfl ?_
            refine ev_goto f79_68 ?_
            exact ih _ _ _ _ _ g18154 k18154 (by omega) (by omega) (by omega) (by omega) (by omega) (by omega) (by omega) (by omega) (by omega) (by omega) (((kk18154.v (by decide)).trans ev18152)) (by omega) (by omega) (by omega)
          · refine ev_aload_n rfl ?_
            refine ev_bipush ?_
            refine ev_call (jcall_v (A := [(0, 44)]) (S' := []) (r := 7) rfl (g1.lt ad7) (g1.tg ad7) (Nat.le_of_ble_eq_true rfl)) (jOk_le (by decide) (s71 g1 (by omega) (by omega) (ey0) (by omega) (by omega))) (by decide) (by decide) (fun w18155 h18155 q18155 => ?_)
            obtain ⟨v18156, rfl, g18155, kk18155, ev18156, p18155_0⟩ := q18155
            have bv18156 := g18155.rg ad7 (i := 1) (by decide) rf7_1
            rw [ev18156] at bv18156
            have k18155 := k1.tr kk18155 (by decide)
            show jEv _ _ _ _ _ _ _ (_, [(2, 7), (2, 1), (0, 10), (0, a3), (0, x4), (0, x5), (0, x6)], [], _, _, _)
            refine ev_aload_n rfl ?_
            refine ev_iload rfl ?_
            refine ev_iload rfl ?_
            refine ev_iconst ?_
            refine ev_aload_n rfl ?_
            refine ev_aload_n rfl ?_
            refine ev_iload_n rfl ?_
            refine ev_iconst ?_
            refine ev_iadd (r := 11) (by decide) ?_
            refine ev_iload_n rfl ?_
            refine ev_iconst ?_
            refine ev_iload rfl ?_
            refine g_ishlB (a' := 1) (a := 1) (b := 3) (hi := 8) (by omega) (by omega) (by omega) (by omega) (by decide) (by decide) (fun v18157 ev18157 lv18157 uv18157 => ?_)
            refine g_iorG (fun v18158 ev18158 lv18158 uv18158 => ?_)
            refine ev_call (jcall_v (A := [(0, v18158), (0, 11), (2, 1)]) (S' := [(0, 0), (0, x6), (0, x5), (2, 7)]) (r := 7) rfl (g18155.lt ad7) (g18155.tg ad7) (Nat.le_of_ble_eq_true rfl)) (jOk_le (by decide) (s74_11 g18155 (by omega) (by omega) (ev18156) (by omega) (by omega))) (by decide) (by decide) (fun w18159 h18159 q18159 => ?_)
            obtain ⟨v18161, v18160, rfl, lv18161, uv18161, g18159, kk18159, ev18160, p18159_0, p18159_1⟩ := q18159
            have bv18160 := g18159.rg ad7 (i := 1) (by decide) rf7_1
            rw [ev18160] at bv18160
            have k18159 := k18155.tr kk18159 (by decide)
            show jEv _ _ _ _ _ _ _ (_, [(2, 7), (2, 1), (0, 10), (0, a3), (0, x4), (0, x5), (0, x6)], [(0, v18161), (0, 0), (0, x6), (0, x5), (2, 7)], _, _, _)
            refine ev_call (jcall_v (A := [(0, v18161), (0, 0), (0, x6), (0, x5)]) (S' := []) (r := 7) rfl (g18159.lt ad7) (g18159.tg ad7) (Nat.le_of_ble_eq_true rfl)) (jOk_le (by decide) (s80 g18159 (by omega) (by omega) (by omega) (by omega) (by omega) (by omega) (by omega) (by omega))) (by decide) (by decide) (fun w18162 h18162 q18162 => ?_)
            obtain ⟨rfl, g18162, kk18162⟩ := q18162
            have k18162 := k18159.tr kk18162 (by decide)
            show jEv _ _ _ _ _ _ _ (_, [(2, 7), (2, 1), (0, 10), (0, a3), (0, x4), (0, x5), (0, x6)], [], _, _, _)
            refine ev_iinc (w := (x6 + 1)) (L' := [(2, 7), (2, 1), (0, 10), (0, a3), (0, x4), (0, x5), (0, (x6 + 1))]) rfl (by unfold w32; omega) rfl ?_
            refine ev_goto f79_68 ?_
            exact ih _ _ _ _ _ g18162 k18162 (by omega) (by omega) (by omega) (by omega) (by omega) (by omega) (by omega) (by omega) (by omega) (by omega) (((kk18162.v (by decide)).trans ev18160)) (by omega) (by omega) (by omega)
set_option maxHeartbeats 4000000 in
theorem s79_10 {G : GH} {h : JH} (g : Gd G h) {a3 : Int} (la3 : (-2147483648) ≤ a3) (ua3 : a3 ≤ 2147483647) {w0 : Int} (ew0 : h.2.2 7 1 = w0) (lw0 : (-1) ≤ w0) (uw0 : w0 ≤ 200) {w1 : Int} (ew1 : h.2.2 7 2 = w1) (lw1 : 0 ≤ w1) (uw1 : w1 ≤ 199) : jOk 8 0 0 79 [(2, 7), (2, 1), (0, 10), (0, a3)] h (fun v h' => ∃ r F : Int, v = some (0, r) ∧ (-1) ≤ r ∧ r ≤ 199 ∧ Gd G h' ∧ Kp [(7, 2), (7, 3), (7, 4), (10, 0), (11, 0), (12, 0), (13, 0), (14, 0), (15, 0), (16, 0), (17, 0)] h h' ∧ h'.2.2 7 1 = F ∧ ((-F) + w0) ≤ 0 ∧ ((-F) + (-r)) ≤ 1) := by
  refine ⟨by decide, by rw [ml79]; exact Nat.le_of_ble_eq_true rfl, ?_⟩
  rw [ml79, pp79]
  show jEv _ none _ c79_0 0 0 _ (c79_0, [(2, 7), (2, 1), (0, 10), (0, a3), (9, 0), (9, 0), (9, 0)], [], h, 0, 0)
  have k0 := Kp.rf [(7, 2), (7, 3), (7, 4), (10, 0), (11, 0), (12, 0), (13, 0), (14, 0), (15, 0), (16, 0), (17, 0)] h
  refine ev_aload_n rfl ?_
  refine ev_dup (by decide) ?_
  refine g_getv (r := 7) (v := w1) g ad7 (by decide) ft5_2 (ew1) ?_
  refine ev_iconst ?_
  refine ev_iadd (r := (w1 + 1)) (by unfold w32; omega) ?_
  refine g_putf (r := 7) g ad7 (by decide) ft5_2 (by decide) (fun e => absurd e nz5_2) rf7_2 (by decide) (by omega) (by omega) (fun h18163 e18163 g18163 => ?_)
  have k18163 := k0.wr e18163 rfl
  refine ev_aload_n rfl ?_
  refine ev_in (d := 6) (a := 0) (b := 0) (cd' := c68_0) (m := 1) (L0 := [(2, 7)]) (jcall_v (A := []) (S' := []) (r := 7) rfl (g18163.lt ad7) (g18163.tg ad7) (Nat.le_of_ble_eq_true rfl)) (by decide) ml68 pp68 (Nat.le_of_ble_eq_true rfl) rfl (by decide) (by decide) ?_
  refine ev_aload_n rfl ?_
  refine g_getv (r := 7) (v := (w1 + 1)) g18163 ad7 (by decide) ft5_2 ((jw_eq e18163)) ?_
  refine ev_aload_n rfl ?_
  obtain ⟨v18164, ev18164, lv18164, uv18164⟩ := g18163.rd ad7 (show 0 < 15 by decide) rf7_0
  refine g_getv (r := 7) (v := v18164) g18163 ad7 (by decide) ft5_0 ev18164 ?_
  refine ev_icmpge f68_27 (fun c18165 => ?_) (fun c18165 => ?_)
  · refine ev_iconst ?_
    refine ev_ret rfl (by decide) (by decide) ?_
    show jEv _ _ _ _ _ _ _ (_, [(2, 7), (2, 1), (0, 10), (0, a3), (9, 0), (9, 0), (9, 0)], [(0, (-1))], _, _, _)
    refine ev_bipush ?_
    refine ev_isub (r := (-98)) (by decide) ?_
    refine ev_istore (L' := [(2, 7), (2, 1), (0, 10), (0, a3), (0, (-98)), (9, 0), (9, 0)]) (Nat.le_of_ble_eq_true rfl) rfl ?_
    refine ev_aload_n rfl ?_
    refine ev_iload rfl ?_
    refine ev_in (d := 6) (a := 0) (b := 0) (cd' := c140_0) (m := 2) (L0 := [(2, 1), (0, (-98))]) (jcall_v (A := [(0, (-98))]) (S' := []) (r := 1) rfl (g18163.lt ad1) (g18163.tg ad1) (Nat.le_of_ble_eq_true rfl)) (by decide) ml140 pp140 (Nat.le_of_ble_eq_true rfl) rfl (by decide) (by decide) ?_
    refine ev_iload_n rfl ?_
    refine ev_iflt f140_16 (fun c18166 => ?_) (fun c18166 => absurd c18166 (by omega))
    refine ev_iconst ?_
    refine ev_ret rfl (by decide) (by decide) ?_
    show jEv _ _ _ _ _ _ _ (_, [(2, 7), (2, 1), (0, 10), (0, a3), (0, (-98)), (9, 0), (9, 0)], [(0, 0)], _, _, _)
    refine ev_ifeq f79_37 (fun c18167 => ?_) (fun c18167 => absurd c18167 (by omega))
    refine ev_aload_n rfl ?_
    refine ev_in (d := 6) (a := 0) (b := 0) (cd' := c70_0) (m := 1) (L0 := [(2, 7)]) (jcall_v (A := []) (S' := []) (r := 7) rfl (g18163.lt ad7) (g18163.tg ad7) (Nat.le_of_ble_eq_true rfl)) (by decide) ml70 pp70 (Nat.le_of_ble_eq_true rfl) rfl (by decide) (by decide) ?_
    refine ev_aload_n rfl ?_
    refine g_getv (r := 7) (v := w0) g18163 ad7 (by decide) ft5_1 (((jw_ne e18163 (Or.inr (by decide))).trans ew0)) ?_
    refine ev_ifge f70_15 (fun c18168 => ?_) (fun c18168 => ?_)
    · refine ev_ret rfl (by decide) (by decide) ?_
      show jEv _ _ _ _ _ _ _ (_, [(2, 7), (2, 1), (0, 10), (0, a3), (0, (-98)), (9, 0), (9, 0)], [], _, _, _)
      refine ev_iconst ?_
      exact ev_ret rfl (by decide) (by decide) ⟨_, _, rfl, by omega, by omega, g18163, k18163, (((jw_ne e18163 (Or.inr (by decide))).trans ew0)), by omega, by omega⟩
    · refine ev_aload_n rfl ?_
      refine ev_aload_n rfl ?_
      refine g_getv (r := 7) (v := (w1 + 1)) g18163 ad7 (by decide) ft5_2 ((jw_eq e18163)) ?_
      refine g_putf (r := 7) g18163 ad7 (by decide) ft5_1 (by decide) (fun e => absurd e nz5_1) rf7_1 (by decide) (by omega) (by omega) (fun h18169 e18169 g18169 => ?_)
      have k18169 := k18163.wr e18169 rfl
      refine ev_ret rfl (by decide) (by decide) ?_
      show jEv _ _ _ _ _ _ _ (_, [(2, 7), (2, 1), (0, 10), (0, a3), (0, (-98)), (9, 0), (9, 0)], [], _, _, _)
      refine ev_iconst ?_
      exact ev_ret rfl (by decide) (by decide) ⟨_, _, rfl, by omega, by omega, g18169, k18169, ((jw_eq e18169)), by omega, by omega⟩
  · refine ev_aload_n rfl ?_
    refine g_getp (r := 7) (c := 8) g18163 ad7 (by decide) (by decide) rf7_5 ft5_5 ?_
    refine ev_aload_n rfl ?_
    refine g_getv (r := 7) (v := (w1 + 1)) g18163 ad7 (by decide) ft5_2 ((jw_eq e18163)) ?_
    refine g_bald g18163 ad8 rt8 (by omega) (by omega) (fun v18170 ev18170 lv18170 uv18170 => ?_)
    refine ev_sipush ?_
    refine g_iandB (b := 255) (by omega) (by omega) (by decide) (fun v18171 ev18171 lv18171 uv18171 => ?_)
    refine ev_goto f68_28 ?_
    refine ev_ret rfl (by decide) (by decide) ?_
    show jEv _ _ _ _ _ _ _ (_, [(2, 7), (2, 1), (0, 10), (0, a3), (9, 0), (9, 0), (9, 0)], [(0, v18171)], _, _, _)
    refine ev_bipush ?_
    refine ev_isub (r := (v18171 - 97)) (by unfold w32; omega) ?_
    refine ev_istore (L' := [(2, 7), (2, 1), (0, 10), (0, a3), (0, (v18171 - 97)), (9, 0), (9, 0)]) (Nat.le_of_ble_eq_true rfl) rfl ?_
    refine ev_aload_n rfl ?_
    refine ev_iload rfl ?_
    refine ev_in (d := 6) (a := 0) (b := 0) (cd' := c140_0) (m := 2) (L0 := [(2, 1), (0, (v18171 - 97))]) (jcall_v (A := [(0, (v18171 - 97))]) (S' := []) (r := 1) rfl (g18163.lt ad1) (g18163.tg ad1) (Nat.le_of_ble_eq_true rfl)) (by decide) ml140 pp140 (Nat.le_of_ble_eq_true rfl) rfl (by decide) (by decide) ?_
    refine ev_iload_n rfl ?_
    refine ev_iflt f140_16 (fun c18172 => ?_) (fun c18172 => ?_)
    · refine ev_iconst ?_
      refine ev_ret rfl (by decide) (by decide) ?_
      show jEv _ _ _ _ _ _ _ (_, [(2, 7), (2, 1), (0, 10), (0, a3), (0, (v18171 - 97)), (9, 0), (9, 0)], [(0, 0)], _, _, _)
      refine ev_ifeq f79_37 (fun c18173 => ?_) (fun c18173 => absurd c18173 (by omega))
      refine ev_aload_n rfl ?_
      refine ev_in (d := 6) (a := 0) (b := 0) (cd' := c70_0) (m := 1) (L0 := [(2, 7)]) (jcall_v (A := []) (S' := []) (r := 7) rfl (g18163.lt ad7) (g18163.tg ad7) (Nat.le_of_ble_eq_true rfl)) (by decide) ml70 pp70 (Nat.le_of_ble_eq_true rfl) rfl (by decide) (by decide) ?_
      refine ev_aload_n rfl ?_
      refine g_getv (r := 7) (v := w0) g18163 ad7 (by decide) ft5_1 (((jw_ne e18163 (Or.inr (by decide))).trans ew0)) ?_
      refine ev_ifge f70_15 (fun c18174 => ?_) (fun c18174 => ?_)
      · refine ev_ret rfl (by decide) (by decide) ?_
        show jEv _ _ _ _ _ _ _ (_, [(2, 7), (2, 1), (0, 10), (0, a3), (0, (v18171 - 97)), (9, 0), (9, 0)], [], _, _, _)
        refine ev_iconst ?_
        exact ev_ret rfl (by decide) (by decide) ⟨_, _, rfl, by omega, by omega, g18163, k18163, (((jw_ne e18163 (Or.inr (by decide))).trans ew0)), by omega, by omega⟩
      · refine ev_aload_n rfl ?_
        refine ev_aload_n rfl ?_
        refine g_getv (r := 7) (v := (w1 + 1)) g18163 ad7 (by decide) ft5_2 ((jw_eq e18163)) ?_
        refine g_putf (r := 7) g18163 ad7 (by decide) ft5_1 (by decide) (fun e => absurd e nz5_1) rf7_1 (by decide) (by omega) (by omega) (fun h18175 e18175 g18175 => ?_)
        have k18175 := k18163.wr e18175 rfl
        refine ev_ret rfl (by decide) (by decide) ?_
        show jEv _ _ _ _ _ _ _ (_, [(2, 7), (2, 1), (0, 10), (0, a3), (0, (v18171 - 97)), (9, 0), (9, 0)], [], _, _, _)
        refine ev_iconst ?_
        exact ev_ret rfl (by decide) (by decide) ⟨_, _, rfl, by omega, by omega, g18175, k18175, ((jw_eq e18175)), by omega, by omega⟩
    · refine ev_iload_n rfl ?_
      refine ev_aload_n rfl ?_
      obtain ⟨v18176, ev18176, lv18176, uv18176⟩ := g18163.rd ad1 (show 0 < 8 by decide) rf1_0
      refine g_getv (r := 1) (v := v18176) g18163 ad1 (by decide) ft10_0 ev18176 ?_
      refine ev_icmpge f140_16 (fun c18177 => ?_) (fun c18177 => ?_)
      · refine ev_iconst ?_
        refine ev_ret rfl (by decide) (by decide) ?_
        show jEv _ _ _ _ _ _ _ (_, [(2, 7), (2, 1), (0, 10), (0, a3), (0, (v18171 - 97)), (9, 0), (9, 0)], [(0, 0)], _, _, _)
        refine ev_ifeq f79_37 (fun c18178 => ?_) (fun c18178 => absurd c18178 (by omega))
        refine ev_aload_n rfl ?_
        refine ev_in (d := 6) (a := 0) (b := 0) (cd' := c70_0) (m := 1) (L0 := [(2, 7)]) (jcall_v (A := []) (S' := []) (r := 7) rfl (g18163.lt ad7) (g18163.tg ad7) (Nat.le_of_ble_eq_true rfl)) (by decide) ml70 pp70 (Nat.le_of_ble_eq_true rfl) rfl (by decide) (by decide) ?_
        refine ev_aload_n rfl ?_
        refine g_getv (r := 7) (v := w0) g18163 ad7 (by decide) ft5_1 (((jw_ne e18163 (Or.inr (by decide))).trans ew0)) ?_
        refine ev_ifge f70_15 (fun c18179 => ?_) (fun c18179 => ?_)
        · refine ev_ret rfl (by decide) (by decide) ?_
          show jEv _ _ _ _ _ _ _ (_, [(2, 7), (2, 1), (0, 10), (0, a3), (0, (v18171 - 97)), (9, 0), (9, 0)], [], _, _, _)
          refine ev_iconst ?_
          exact ev_ret rfl (by decide) (by decide) ⟨_, _, rfl, by omega, by omega, g18163, k18163, (((jw_ne e18163 (Or.inr (by decide))).trans ew0)), by omega, by omega⟩
        · refine ev_aload_n rfl ?_
          refine ev_aload_n rfl ?_
          refine g_getv (r := 7) (v := (w1 + 1)) g18163 ad7 (by decide) ft5_2 ((jw_eq e18163)) ?_
          refine g_putf (r := 7) g18163 ad7 (by decide) ft5_1 (by decide) (fun e => absurd e nz5_1) rf7_1 (by decide) (by omega) (by omega) (fun h18180 e18180 g18180 => ?_)
          have k18180 := k18163.wr e18180 rfl
          refine ev_ret rfl (by decide) (by decide) ?_
          show jEv _ _ _ _ _ _ _ (_, [(2, 7), (2, 1), (0, 10), (0, a3), (0, (v18171 - 97)), (9, 0), (9, 0)], [], _, _, _)
          refine ev_iconst ?_
          exact ev_ret rfl (by decide) (by decide) ⟨_, _, rfl, by omega, by omega, g18180, k18180, ((jw_eq e18180)), by omega, by omega⟩
      · refine ev_iconst ?_
        refine ev_goto f140_17 ?_
        refine ev_ret rfl (by decide) (by decide) ?_
        show jEv _ _ _ _ _ _ _ (_, [(2, 7), (2, 1), (0, 10), (0, a3), (0, (v18171 - 97)), (9, 0), (9, 0)], [(0, 1)], _, _, _)
        refine ev_ifeq f79_37 (fun c18181 => absurd c18181 (by omega)) (fun c18181 => ?_)
        refine ev_iload_n rfl ?_
        refine ev_iload rfl ?_
        refine g_ishrG (fun v18182 ev18182 lv18182 uv18182 => ?_)
        refine ev_iconst ?_
        refine g_iandB (b := 1) (by omega) (by omega) (by decide) (fun v18183 ev18183 lv18183 uv18183 => ?_)
        refine ev_ifeq f79_43 (fun c18184 => ?_) (fun c18184 => ?_)
        · refine ev_aload_n rfl ?_
          refine ev_dup (by decide) ?_
          refine g_getv (r := 7) (v := (w1 + 1)) g18163 ad7 (by decide) ft5_2 ((jw_eq e18163)) ?_
          refine ev_iconst ?_
          refine ev_iadd (r := (w1 + 2)) (by unfold w32; omega) ?_
          refine g_putf (r := 7) g18163 ad7 (by decide) ft5_2 (by decide) (fun e => absurd e nz5_2) rf7_2 (by decide) (by omega) (by omega) (fun h18185 e18185 g18185 => ?_)
          have k18185 := k18163.wr e18185 rfl
          refine ev_aload_n rfl ?_
          refine ev_iload_n rfl ?_
          refine ev_call (jcall_v (A := [(0, 10)]) (S' := []) (r := 7) rfl (g18185.lt ad7) (g18185.tg ad7) (Nat.le_of_ble_eq_true rfl)) (jOk_le (by decide) (s72 g18185 (by omega) (by omega) (((jw_ne e18185 (Or.inr (by decide))).trans ((jw_ne e18163 (Or.inr (by decide))).trans ew0))) (by omega) (by omega))) (by decide) (by decide) (fun w18186 h18186 q18186 => ?_)
          obtain ⟨v18187, rfl, g18186, kk18186, ev18187, p18186_0⟩ := q18186
          have bv18187 := g18186.rg ad7 (i := 1) (by decide) rf7_1
          rw [ev18187] at bv18187
          have k18186 := k18185.tr kk18186 (by decide)
          show jEv _ _ _ _ _ _ _ (_, [(2, 7), (2, 1), (0, 10), (0, a3), (0, (v18171 - 97)), (9, 0), (9, 0)], [], _, _, _)
          refine ev_aload_n rfl ?_
          refine ev_iconst ?_
          refine ev_call (jcall_v (A := [(0, 2)]) (S' := []) (r := 7) rfl (g18186.lt ad7) (g18186.tg ad7) (Nat.le_of_ble_eq_true rfl)) (jOk_le (by decide) (s73 g18186 (by omega) (by omega) (ev18187) (by omega) (by omega))) (by decide) (by decide) (fun w18188 h18188 q18188 => ?_)
          obtain ⟨v18190, v18189, rfl, lv18190, uv18190, g18188, kk18188, ev18189, p18188_0, p18188_1⟩ := q18188
          have bv18189 := g18188.rg ad7 (i := 1) (by decide) rf7_1
          rw [ev18189] at bv18189
          have k18188 := k18186.tr kk18188 (by decide)
          show jEv _ _ _ _ _ _ _ (_, [(2, 7), (2, 1), (0, 10), (0, a3), (0, (v18171 - 97)), (9, 0), (9, 0)], [(0, v18190)], _, _, _)
          refine ev_istore (L' := [(2, 7), (2, 1), (0, 10), (0, a3), (0, (v18171 - 97)), (0, v18190), (9, 0)]) (Nat.le_of_ble_eq_true rfl) rfl ?_
          refine ev_iconst ?_
          refine ev_istore (L' := [(2, 7), (2, 1), (0, 10), (0, a3), (0, (v18171 - 97)), (0, v18190), (0, 0)]) (Nat.le_of_ble_eq_true rfl) rfl ?_
          exact (s79_10_l la3 ua3 ew0 lw0 uw0 ew1 lw1 uw1 8) _ _ _ _ _ g18188 k18188 (by omega) (by omega) (by omega) (by omega) (by omega) (by omega) (by omega) (by omega) (by omega) (by omega) (ev18189) (by omega) (by omega) (by omega)
        · refine ev_aload_n rfl ?_
          refine ev_in (d := 6) (a := 0) (b := 0) (cd' := c70_0) (m := 1) (L0 := [(2, 7)]) (jcall_v (A := []) (S' := []) (r := 7) rfl (g18163.lt ad7) (g18163.tg ad7) (Nat.le_of_ble_eq_true rfl)) (by decide) ml70 pp70 (Nat.le_of_ble_eq_true rfl) rfl (by decide) (by decide) ?_
          refine ev_aload_n rfl ?_
          refine g_getv (r := 7) (v := w0) g18163 ad7 (by decide) ft5_1 (((jw_ne e18163 (Or.inr (by decide))).trans ew0)) ?_
          refine ev_ifge f70_15 (fun c18191 => ?_) (fun c18191 => ?_)
          · refine ev_ret rfl (by decide) (by decide) ?_
            show jEv _ _ _ _ _ _ _ (_, [(2, 7), (2, 1), (0, 10), (0, a3), (0, (v18171 - 97)), (9, 0), (9, 0)], [], _, _, _)
            refine ev_iconst ?_
            exact ev_ret rfl (by decide) (by decide) ⟨_, _, rfl, by omega, by omega, g18163, k18163, (((jw_ne e18163 (Or.inr (by decide))).trans ew0)), by omega, by omega⟩
          · refine ev_aload_n rfl ?_
            refine ev_aload_n rfl ?_
            refine g_getv (r := 7) (v := (w1 + 1)) g18163 ad7 (by decide) ft5_2 ((jw_eq e18163)) ?_
            refine g_putf (r := 7) g18163 ad7 (by decide) ft5_1 (by decide) (fun e => absurd e nz5_1) rf7_1 (by decide) (by omega) (by omega) (fun h18192 e18192 g18192 => ?_)
            have k18192 := k18163.wr e18192 rfl
            refine ev_ret rfl (by decide) (by decide) ?_
            show jEv _ _ _ _ _ _ _ (_, [(2, 7), (2, 1), (0, 10), (0, a3), (0, (v18171 - 97)), (9, 0), (9, 0)], [], _, _, _)
            refine ev_iconst ?_
            exact ev_ret rfl (by decide) (by decide) ⟨_, _, rfl, by omega, by omega, g18192, k18192, ((jw_eq e18192)), by omega, by omega⟩
/-! s74_10  -/
set_option maxHeartbeats 4000000 in
theorem s74_10 {G : GH} {h : JH} (g : Gd G h) {a3 : Int} (la3 : (-2147483648) ≤ a3) (ua3 : a3 ≤ 2147483647) {w0 : Int} (ew0 : h.2.2 7 1 = w0) (lw0 : (-1) ≤ w0) (uw0 : w0 ≤ 200) : jOk 9 0 0 74 [(2, 7), (2, 1), (0, 10), (0, a3)] h (fun v h' => ∃ r F : Int, v = some (0, r) ∧ (-1) ≤ r ∧ r ≤ 199 ∧ Gd G h' ∧ Kp [(7, 2), (7, 3), (7, 4), (10, 0), (11, 0), (12, 0), (13, 0), (14, 0), (15, 0), (16, 0), (17, 0)] h h' ∧ h'.2.2 7 1 = F ∧ ((-F) + w0) ≤ 0 ∧ ((-F) + (-r)) ≤ 1) := by
  refine ⟨by decide, by rw [ml74]; exact Nat.le_of_ble_eq_true rfl, ?_⟩
  rw [ml74, pp74]
  show jEv _ none _ c74_0 0 0 _ (c74_0, [(2, 7), (2, 1), (0, 10), (0, a3), (9, 0)], [], h, 0, 0)
  have k0 := Kp.rf [(7, 2), (7, 3), (7, 4), (10, 0), (11, 0), (12, 0), (13, 0), (14, 0), (15, 0), (16, 0), (17, 0)] h
  refine ev_aload_n rfl ?_
  refine g_getv (r := 7) (v := w0) g ad7 (by decide) ft5_1 (ew0) ?_
  refine ev_ifge f74_13 (fun c18259 => ?_) (fun c18259 => ?_)
  · refine ev_aload_n rfl ?_
    refine ev_in (d := 7) (a := 0) (b := 0) (cd' := c70_0) (m := 1) (L0 := [(2, 7)]) (jcall_v (A := []) (S' := []) (r := 7) rfl (g.lt ad7) (g.tg ad7) (Nat.le_of_ble_eq_true rfl)) (by decide) ml70 pp70 (Nat.le_of_ble_eq_true rfl) rfl (by decide) (by decide) ?_
    refine ev_aload_n rfl ?_
    refine g_getv (r := 7) (v := w0) g ad7 (by decide) ft5_1 (ew0) ?_
    refine ev_ifge f70_15 (fun c18260 => ?_) (fun c18260 => absurd c18260 (by omega))
    refine ev_ret rfl (by decide) (by decide) ?_
    show jEv _ _ _ _ _ _ _ (_, [(2, 7), (2, 1), (0, 10), (0, a3), (9, 0)], [], _, _, _)
    refine ev_iconst ?_
    exact ev_ret rfl (by decide) (by decide) ⟨_, _, rfl, by omega, by omega, g, k0, (ew0), by omega, by omega⟩
  · refine ev_iload_n rfl ?_
    refine ev_bipush ?_
    refine ev_icmple f74_19 (fun c18261 => ?_) (fun c18261 => absurd c18261 (by omega))
    refine ev_aload_n rfl ?_
    refine ev_in (d := 7) (a := 0) (b := 0) (cd' := c68_0) (m := 1) (L0 := [(2, 7)]) (jcall_v (A := []) (S' := []) (r := 7) rfl (g.lt ad7) (g.tg ad7) (Nat.le_of_ble_eq_true rfl)) (by decide) ml68 pp68 (Nat.le_of_ble_eq_true rfl) rfl (by decide) (by decide) ?_
    refine ev_aload_n rfl ?_
    obtain ⟨v18262, ev18262, lv18262, uv18262⟩ := g.rd ad7 (show 2 < 15 by decide) rf7_2
    refine g_getv (r := 7) (v := v18262) g ad7 (by decide) ft5_2 ev18262 ?_
    refine ev_aload_n rfl ?_
    obtain ⟨v18263, ev18263, lv18263, uv18263⟩ := g.rd ad7 (show 0 < 15 by decide) rf7_0
    refine g_getv (r := 7) (v := v18263) g ad7 (by decide) ft5_0 ev18263 ?_
    refine ev_icmpge f68_27 (fun c18264 => ?_) (fun c18264 => ?_)
    · refine ev_iconst ?_
      refine ev_ret rfl (by decide) (by decide) ?_
      show jEv _ _ _ _ _ _ _ (_, [(2, 7), (2, 1), (0, 10), (0, a3), (9, 0)], [(0, (-1))], _, _, _)
      refine ev_istore (L' := [(2, 7), (2, 1), (0, 10), (0, a3), (0, (-1))]) (Nat.le_of_ble_eq_true rfl) rfl ?_
      refine ev_iload rfl ?_
      refine ev_bipush ?_
      refine ev_icmpne f74_40 (fun c18265 => ?_) (fun c18265 => absurd c18265 (by omega))
      refine ev_iload rfl ?_
      refine ev_bipush ?_
      refine ev_icmpne f74_55 (fun c18266 => ?_) (fun c18266 => absurd c18266 (by omega))
      refine ev_iload rfl ?_
      refine ev_bipush ?_
      refine ev_icmplt f74_78 (fun c18267 => ?_) (fun c18267 => absurd c18267 (by omega))
      refine ev_aload_n rfl ?_
      refine ev_call (jcall_v (A := []) (S' := []) (r := 7) rfl (g.lt ad7) (g.tg ad7) (Nat.le_of_ble_eq_true rfl)) (jOk_le (by decide) (s75 g (ew0) (by omega) (by omega))) (by decide) (by decide) (fun w18268 h18268 q18268 => ?_)
      obtain ⟨v18270, v18269, rfl, lv18270, uv18270, g18268, kk18268, ev18269, p18268_0, p18268_1⟩ := q18268
      have bv18269 := g18268.rg ad7 (i := 1) (by decide) rf7_1
      rw [ev18269] at bv18269
      have k18268 := k0.tr kk18268 (by decide)
      show jEv _ _ _ _ _ _ _ (_, [(2, 7), (2, 1), (0, 10), (0, a3), (0, (-1))], [(0, v18270)], _, _, _)
      exact ev_ret rfl (by decide) (by decide) ⟨_, _, rfl, by omega, by omega, g18268, k18268, (ev18269), by omega, by omega⟩
    · refine ev_aload_n rfl ?_
      refine g_getp (r := 7) (c := 8) g ad7 (by decide) (by decide) rf7_5 ft5_5 ?_
      refine ev_aload_n rfl ?_
      refine g_getv (r := 7) (v := v18262) g ad7 (by decide) ft5_2 (ev18262) ?_
      refine g_bald g ad8 rt8 (by omega) (by omega) (fun v18271 ev18271 lv18271 uv18271 => ?_)
      refine ev_sipush ?_
      refine g_iandB (b := 255) (by omega) (by omega) (by decide) (fun v18272 ev18272 lv18272 uv18272 => ?_)
      refine ev_goto f68_28 ?_
      refine ev_ret rfl (by decide) (by decide) ?_
      show jEv _ _ _ _ _ _ _ (_, [(2, 7), (2, 1), (0, 10), (0, a3), (9, 0)], [(0, v18272)], _, _, _)
      refine ev_istore (L' := [(2, 7), (2, 1), (0, 10), (0, a3), (0, v18272)]) (Nat.le_of_ble_eq_true rfl) rfl ?_
      refine ev_iload rfl ?_
      refine ev_bipush ?_
      refine ev_icmpne f74_40 (fun c18273 => ?_) (fun c18273 => ?_)
      · refine ev_iload rfl ?_
        refine ev_bipush ?_
        refine ev_icmpne f74_55 (fun c18274 => ?_) (fun c18274 => ?_)
        · refine ev_iload rfl ?_
          refine ev_bipush ?_
          refine ev_icmplt f74_78 (fun c18275 => ?_) (fun c18275 => ?_)
          · refine ev_aload_n rfl ?_
            refine ev_call (jcall_v (A := []) (S' := []) (r := 7) rfl (g.lt ad7) (g.tg ad7) (Nat.le_of_ble_eq_true rfl)) (jOk_le (by decide) (s75 g (ew0) (by omega) (by omega))) (by decide) (by decide) (fun w18276 h18276 q18276 => ?_)
            obtain ⟨v18278, v18277, rfl, lv18278, uv18278, g18276, kk18276, ev18277, p18276_0, p18276_1⟩ := q18276
            have bv18277 := g18276.rg ad7 (i := 1) (by decide) rf7_1
            rw [ev18277] at bv18277
            have k18276 := k0.tr kk18276 (by decide)
            show jEv _ _ _ _ _ _ _ (_, [(2, 7), (2, 1), (0, 10), (0, a3), (0, v18272)], [(0, v18278)], _, _, _)
            exact ev_ret rfl (by decide) (by decide) ⟨_, _, rfl, by omega, by omega, g18276, k18276, (ev18277), by omega, by omega⟩
          · refine ev_iload rfl ?_
            refine ev_bipush ?_
            refine ev_icmpge f74_78 (fun c18279 => ?_) (fun c18279 => ?_)
            · refine ev_aload_n rfl ?_
              refine ev_call (jcall_v (A := []) (S' := []) (r := 7) rfl (g.lt ad7) (g.tg ad7) (Nat.le_of_ble_eq_true rfl)) (jOk_le (by decide) (s75 g (ew0) (by omega) (by omega))) (by decide) (by decide) (fun w18280 h18280 q18280 => ?_)
              obtain ⟨v18282, v18281, rfl, lv18282, uv18282, g18280, kk18280, ev18281, p18280_0, p18280_1⟩ := q18280
              have bv18281 := g18280.rg ad7 (i := 1) (by decide) rf7_1
              rw [ev18281] at bv18281
              have k18280 := k0.tr kk18280 (by decide)
              show jEv _ _ _ _ _ _ _ (_, [(2, 7), (2, 1), (0, 10), (0, a3), (0, v18272)], [(0, v18282)], _, _, _)
              exact ev_ret rfl (by decide) (by decide) ⟨_, _, rfl, by omega, by omega, g18280, k18280, (ev18281), by omega, by omega⟩
            · refine ev_aload_n rfl ?_
              refine ev_iload_n rfl ?_
              refine ev_iload_n rfl ?_
              refine ev_call (jcall_v (A := [(0, a3), (0, 10)]) (S' := []) (r := 7) rfl (g.lt ad7) (g.tg ad7) (Nat.le_of_ble_eq_true rfl)) (jOk_le (by decide) (s77 g (by omega) (by omega) (by omega) (by omega) (ew0) (by omega) (by omega))) (by decide) (by decide) (fun w18283 h18283 q18283 => ?_)
              obtain ⟨v18285, v18284, rfl, lv18285, uv18285, g18283, kk18283, ev18284, p18283_0, p18283_1⟩ := q18283
              have bv18284 := g18283.rg ad7 (i := 1) (by decide) rf7_1
              rw [ev18284] at bv18284
              have k18283 := k0.tr kk18283 (by decide)
              show jEv _ _ _ _ _ _ _ (_, [(2, 7), (2, 1), (0, 10), (0, a3), (0, v18272)], [(0, v18285)], _, _, _)
              refine ev_goto f74_82 ?_
              exact ev_ret rfl (by decide) (by decide) ⟨_, _, rfl, by omega, by omega, g18283, k18283, (ev18284), by omega, by omega⟩
        · refine ev_aload_n rfl ?_
          refine ev_aload_n rfl ?_
          refine ev_iload_n rfl ?_
          refine ev_iload_n rfl ?_
          refine ev_call (jcall_v (A := [(0, a3), (0, 10), (2, 1)]) (S' := []) (r := 7) rfl (g.lt ad7) (g.tg ad7) (Nat.le_of_ble_eq_true rfl)) (jOk_le (by decide) (s79_10 g (by omega) (by omega) (ew0) (by omega) (by omega) (ev18262) (by omega) (by omega))) (by decide) (by decide) (fun w18286 h18286 q18286 => ?_)
          obtain ⟨v18288, v18287, rfl, lv18288, uv18288, g18286, kk18286, ev18287, p18286_0, p18286_1⟩ := q18286
          have bv18287 := g18286.rg ad7 (i := 1) (by decide) rf7_1
          rw [ev18287] at bv18287
          have k18286 := k0.tr kk18286 (by decide)
          show jEv _ _ _ _ _ _ _ (_, [(2, 7), (2, 1), (0, 10), (0, a3), (0, v18272)], [(0, v18288)], _, _, _)
          exact ev_ret rfl (by decide) (by decide) ⟨_, _, rfl, by omega, by omega, g18286, k18286, (ev18287), by omega, by omega⟩
      · refine ev_aload_n rfl ?_
        refine ev_aload_n rfl ?_
        refine ev_iload_n rfl ?_
        refine ev_iload_n rfl ?_
        refine ev_call (jcall_v (A := [(0, a3), (0, 10), (2, 1)]) (S' := []) (r := 7) rfl (g.lt ad7) (g.tg ad7) (Nat.le_of_ble_eq_true rfl)) (jOk_le (by decide) (s78_10 g (by omega) (by omega) (ew0) (by omega) (by omega) (ev18262) (by omega) (by omega))) (by decide) (by decide) (fun w18289 h18289 q18289 => ?_)
        obtain ⟨v18291, v18290, rfl, lv18291, uv18291, g18289, kk18289, ev18290, p18289_0, p18289_1⟩ := q18289
        have bv18290 := g18289.rg ad7 (i := 1) (by decide) rf7_1
        rw [ev18290] at bv18290
        have k18289 := k0.tr kk18289 (by decide)
        show jEv _ _ _ _ _ _ _ (_, [(2, 7), (2, 1), (0, 10), (0, a3), (0, v18272)], [(0, v18291)], _, _, _)
        exact ev_ret rfl (by decide) (by decide) ⟨_, _, rfl, by omega, by omega, g18289, k18289, (ev18290), by omega, by omega⟩
/-! s78_9  -/
set_option maxHeartbeats 4000000 in
theorem s78_9_l {G : GH} {h : JH} {a3 : Int} (la3 : (-2147483648) ≤ a3) (ua3 : a3 ≤ 2147483647) {w0 : Int} (ew0 : h.2.2 7 1 = w0) (lw0 : (-1) ≤ w0) (uw0 : w0 ≤ 200) {w1 : Int} (ew1 : h.2.2 7 2 = w1) (lw1 : 0 ≤ w1) (uw1 : w1 ≤ 199) : ∀ N : Nat, (∀ (h1 : JH) (x4 x5 y0 : Int) (j6 : AV), Gd G h1 → Kp [(7, 2), (7, 3), (7, 4), (10, 0), (11, 0), (12, 0), (13, 0), (14, 0), (15, 0), (16, 0), (17, 0)] h h1 → (-2147483648) ≤ a3 → a3 ≤ 2147483647 → (-1) ≤ x4 → x4 ≤ 199 → 0 ≤ x5 → x5 ≤ 3 → (w0 + (-y0)) ≤ 0 → ((-x4) + (-y0)) ≤ 1 → h1.2.2 7 1 = y0 → (-1) ≤ y0 → y0 ≤ 200 → ((-x5) + 3) < N → jEv (jOk 9) none (fun _ => 0) c78_0 0 0 (fun v h' => ∃ r F : Int, v = some (0, r) ∧ (-1) ≤ r ∧ r ≤ 199 ∧ Gd G h' ∧ Kp [(7, 2), (7, 3), (7, 4), (10, 0), (11, 0), (12, 0), (13, 0), (14, 0), (15, 0), (16, 0), (17, 0)] h h' ∧ h'.2.2 7 1 = F ∧ ((-F) + w0) ≤ 0 ∧ ((-F) + (-r)) ≤ 1) (c78_25, [(2, 7), (2, 1), (0, 9), (0, a3), (0, x4), (0, x5), j6], [], h1, 0, 0)) := by
  intro N
  induction N with
  | zero => exact fun h1 x4 x5 y0 j6 g1 k1 b0 b1 b2 b3 b4 b5 b6 b7 b8 b9 b10 hm => absurd hm (by omega)
  | succ N ih =>
    show _
    intro h1 x4 x5 y0 j6 g1 k1 b0 b1 b2 b3 b4 b5 b6 b7 ey0 ly0 uy0 hm
    refine ev_iload rfl ?_
    refine ev_iconst ?_
    refine ev_icmpge f78_100 (fun c18460 => absurd c18460 (by omega)) (fun c18460 => ?_)
    refine ev_aload_n rfl ?_
    refine g_getv (r := 7) (v := y0) g1 ad7 (by decide) ft5_1 (ey0) ?_
    refine ev_ifge f78_100 (fun c18461 => ?_) (fun c18461 => ?_)
    · refine ev_aload_n rfl ?_
      refine ev_bipush ?_
      refine ev_call (jcall_v (A := [(0, 41)]) (S' := []) (r := 7) rfl (g1.lt ad7) (g1.tg ad7) (Nat.le_of_ble_eq_true rfl)) (jOk_le (by decide) (s71 g1 (by omega) (by omega) (ey0) (by omega) (by omega))) (by decide) (by decide) (fun w18462 h18462 q18462 => ?_)
      obtain ⟨v18463, rfl, g18462, kk18462, ev18463, p18462_0⟩ := q18462
      have bv18463 := g18462.rg ad7 (i := 1) (by decide) rf7_1
      rw [ev18463] at bv18463
      have k18462 := k1.tr kk18462 (by decide)
      show jEv _ _ _ _ _ _ _ (_, [(2, 7), (2, 1), (0, 9), (0, a3), (0, x4), (0, x5), j6], [], _, _, _)
      refine ev_aload_n rfl ?_
      refine g_getv (r := 7) (v := v18463) g18462 ad7 (by decide) ft5_1 (ev18463) ?_
      refine ev_iflt f78_117 (fun c18464 => absurd c18464 (by omega)) (fun c18464 => ?_)
      refine ev_iconst ?_
      refine ev_goto f78_119 ?_
      exact ev_ret rfl (by decide) (by decide) ⟨_, _, rfl, by omega, by omega, g18462, k18462, (ev18463), by omega, by omega⟩
    · refine ev_aload_n rfl ?_
      refine ev_iconst ?_
      refine ev_call (jcall_v (A := [(0, 2)]) (S' := []) (r := 7) rfl (g1.lt ad7) (g1.tg ad7) (Nat.le_of_ble_eq_true rfl)) (jOk_le (by decide) (s76 g1 (by omega) (by omega) (ey0) (by omega) (by omega))) (by decide) (by decide) (fun w18465 h18465 q18465 => ?_)
      obtain ⟨v18467, v18466, rfl, lv18467, uv18467, g18465, kk18465, ev18466, p18465_0⟩ := q18465
      have bv18466 := g18465.rg ad7 (i := 1) (by decide) rf7_1
      rw [ev18466] at bv18466
      have k18465 := k1.tr kk18465 (by decide)
      show jEv _ _ _ _ _ _ _ (_, [(2, 7), (2, 1), (0, 9), (0, a3), (0, x4), (0, x5), j6], [(0, v18467)], _, _, _)
      refine ev_istore (L' := [(2, 7), (2, 1), (0, 9), (0, a3), (0, x4), (0, x5), (0, v18467)]) (Nat.le_of_ble_eq_true rfl) rfl ?_
      refine ev_aload_n rfl ?_
      refine ev_bipush ?_
      refine ev_call (jcall_v (A := [(0, 58)]) (S' := []) (r := 7) rfl (g18465.lt ad7) (g18465.tg ad7) (Nat.le_of_ble_eq_true rfl)) (jOk_le (by decide) (s71 g18465 (by omega) (by omega) (ev18466) (by omega) (by omega))) (by decide) (by decide) (fun w18468 h18468 q18468 => ?_)
      obtain ⟨v18469, rfl, g18468, kk18468, ev18469, p18468_0⟩ := q18468
      have bv18469 := g18468.rg ad7 (i := 1) (by decide) rf7_1
      rw [ev18469] at bv18469
      have k18468 := k18465.tr kk18468 (by decide)
      show jEv _ _ _ _ _ _ _ (_, [(2, 7), (2, 1), (0, 9), (0, a3), (0, x4), (0, x5), (0, v18467)], [], _, _, _)
      refine ev_aload_n rfl ?_
      refine ev_iload rfl ?_
      refine ev_iload rfl ?_
      refine ev_iload rfl ?_
      refine ev_aload_n rfl ?_
      refine ev_aload_n rfl ?_
      refine ev_iload_n rfl ?_
      refine ev_iconst ?_
      refine ev_iadd (r := 10) (by decide) ?_
      refine ev_iload_n rfl ?_
      refine ev_call (jcall_v (A := [(0, a3), (0, 10), (2, 1)]) (S' := [(0, v18467), (0, x5), (0, x4), (2, 7)]) (r := 7) rfl (g18468.lt ad7) (g18468.tg ad7) (Nat.le_of_ble_eq_true rfl)) (jOk_le (by decide) (s74_10 g18468 (by omega) (by omega) (ev18469) (by omega) (by omega))) (by decide) (by decide) (fun w18470 h18470 q18470 => ?_)
      obtain ⟨v18472, v18471, rfl, lv18472, uv18472, g18470, kk18470, ev18471, p18470_0, p18470_1⟩ := q18470
      have bv18471 := g18470.rg ad7 (i := 1) (by decide) rf7_1
      rw [ev18471] at bv18471
      have k18470 := k18468.tr kk18470 (by decide)
      show jEv _ _ _ _ _ _ _ (_, [(2, 7), (2, 1), (0, 9), (0, a3), (0, x4), (0, x5), (0, v18467)], [(0, v18472), (0, v18467), (0, x5), (0, x4), (2, 7)], _, _, _)
      refine ev_call (jcall_v (A := [(0, v18472), (0, v18467), (0, x5), (0, x4)]) (S' := []) (r := 7) rfl (g18470.lt ad7) (g18470.tg ad7) (Nat.le_of_ble_eq_true rfl)) (jOk_le (by decide) (s80 g18470 (by omega) (by omega) (by omega) (by omega) (by omega) (by omega) (by omega) (by omega))) (by decide) (by decide) (fun w18473 h18473 q18473 => ?_)
      obtain ⟨rfl, g18473, kk18473⟩ := q18473
      have k18473 := k18470.tr kk18473 (by decide)
      show jEv _ _ _ _ _ _ _ (_, [(2, 7), (2, 1), (0, 9), (0, a3), (0, x4), (0, x5), (0, v18467)], [], _, _, _)
      refine ev_aload_n rfl ?_
      refine ev_in (d := 8) (a := 0) (b := 0) (cd' := c68_0) (m := 1) (L0 := [(2, 7)]) (jcall_v (A := []) (S' := []) (r := 7) rfl (g18473.lt ad7) (g18473.tg ad7) (Nat.le_of_ble_eq_true rfl)) (by decide) ml68 pp68 (Nat.le_of_ble_eq_true rfl) rfl (by decide) (by decide) ?_
      refine ev_aload_n rfl ?_
      obtain ⟨v18474, ev18474, lv18474, uv18474⟩ := g18473.rd ad7 (show 2 < 15 by decide) rf7_2
      refine g_getv (r := 7) (v := v18474) g18473 ad7 (by decide) ft5_2 ev18474 ?_
      refine ev_aload_n rfl ?_
      obtain ⟨v18475, ev18475, lv18475, uv18475⟩ := g18473.rd ad7 (show 0 < 15 by decide) rf7_0
      refine g_getv (r := 7) (v := v18475) g18473 ad7 (by decide) ft5_0 ev18475 ?_
      refine ev_icmpge f68_27 (fun c18476 => ?_) (fun c18476 => ?_)
      · refine ev_iconst ?_
        refine ev_ret rfl (by decide) (by decide) ?_
        show jEv _ _ _ _ _ _ _ (_, [(2, 7), (2, 1), (0, 9), (0, a3), (0, x4), (0, x5), (0, v18467)], [(0, (-1))], _, _, _)
        refine ev_bipush ?_
        refine ev_icmpne f78_100 (fun c18477 => ?_) (fun c18477 => absurd c18477 (by omega))
        refine ev_aload_n rfl ?_
        refine ev_bipush ?_
        refine ev_call (jcall_v (A := [(0, 41)]) (S' := []) (r := 7) rfl (g18473.lt ad7) (g18473.tg ad7) (Nat.le_of_ble_eq_true rfl)) (jOk_le (by decide) (s71 g18473 (by omega) (by omega) (((kk18473.v (by decide)).trans ev18471)) (by omega) (by omega))) (by decide) (by decide) (fun w18478 h18478 q18478 => ?_)
        obtain ⟨v18479, rfl, g18478, kk18478, ev18479, p18478_0⟩ := q18478
        have bv18479 := g18478.rg ad7 (i := 1) (by decide) rf7_1
        rw [ev18479] at bv18479
        have k18478 := k18473.tr kk18478 (by decide)
        show jEv _ _ _ _ _ _ _ (_, [(2, 7), (2, 1), (0, 9), (0, a3), (0, x4), (0, x5), (0, v18467)], [], _, _, _)
        refine ev_aload_n rfl ?_
        refine g_getv (r := 7) (v := v18479) g18478 ad7 (by decide) ft5_1 (ev18479) ?_
        refine ev_iflt f78_117 (fun c18480 => ?_) (fun c18480 => ?_)
        · refine ev_iload rfl ?_
          exact ev_ret rfl (by decide) (by decide) ⟨_, _, rfl, by omega, by omega, g18478, k18478, (ev18479), by omega, by omega⟩
        · refine ev_iconst ?_
          refine ev_goto f78_119 ?_
          exact ev_ret rfl (by decide) (by decide) ⟨_, _, rfl, by omega, by omega, g18478, k18478, (ev18479), by omega, by omega⟩
      · refine ev_aload_n rfl ?_
        refine g_getp (r := 7) (c := 8) g18473 ad7 (by decide) (by decide) rf7_5 ft5_5 ?_
        refine ev_aload_n rfl ?_
        refine g_getv (r := 7) (v := v18474) g18473 ad7 (by decide) ft5_2 (ev18474) ?_
        refine g_bald g18473 ad8 rt8 (by omega) (by omega) (fun v18481 ev18481 lv18481 uv18481 => ?_)
        refine ev_sipush ?_
        refine g_iandB (b := 255) (by omega) (by omega) (by decide) (fun v18482 ev18482 lv18482 uv18482 => ?_)
        refine ev_goto f68_28 ?_
        refine ev_ret rfl (by decide) (by decide) ?_
        show jEv _ _ _ _ _ _ _ (_, [(2, 7), (2, 1), (0, 9), (0, a3), (0, x4), (0, x5), (0, v18467)], [(0, v18482)], _, _, _)
        refine ev_bipush ?_
        refine ev_icmpne f78_100 (fun c18483 => ?_) (fun c18483 => ?_)
        · refine ev_aload_n rfl ?_
          refine ev_bipush ?_
          refine ev_call (jcall_v (A := [(0, 41)]) (S' := []) (r := 7) rfl (g18473.lt ad7) (g18473.tg ad7) (Nat.le_of_ble_eq_true rfl)) (jOk_le (by decide) (s71 g18473 (by omega) (by omega) (((kk18473.v (by decide)).trans ev18471)) (by omega) (by omega))) (by decide) (by decide) (fun w18484 h18484 q18484 => ?_)
          obtain ⟨v18485, rfl, g18484, kk18484, ev18485, p18484_0⟩ := q18484
          have bv18485 := g18484.rg ad7 (i := 1) (by decide) rf7_1
          rw [ev18485] at bv18485
          have k18484 := k18473.tr kk18484 (by decide)
          show jEv _ _ _ _ _ _ _ (_, [(2, 7), (2, 1), (0, 9), (0, a3), (0, x4), (0, x5), (0, v18467)], [], _, _, _)
          refine ev_aload_n rfl ?_
          refine g_getv (r := 7) (v := v18485) g18484 ad7 (by decide) ft5_1 (ev18485) ?_
          refine ev_iflt f78_117 (fun c18486 => ?_) (fun c18486 => ?_)
          · refine ev_iload rfl ?_
            exact ev_ret rfl (by decide) (by decide) ⟨_, _, rfl, by omega, by omega, g18484, k18484, (ev18485), by omega, by omega⟩
          · refine ev_iconst ?_
            refine ev_goto f78_119 ?_
            exact ev_ret rfl (by decide) (by decide) ⟨_, _, rfl, by omega, by omega, g18484, k18484, (ev18485), by omega, by omega⟩
        · refine ev_iload rfl ?_
          refine ev_iconst ?_
          refine ev_icmpne f78_88 (fun c18487 => ?_) (fun c18487 => ?_)
          · refine ev_aload_n rfl ?_
            refine ev_bipush ?_
            refine ev_call (jcall_v (A := [(0, 44)]) (S' := []) (r := 7) rfl (g18473.lt ad7) (g18473.tg ad7) (Nat.le_of_ble_eq_true rfl)) (jOk_le (by decide) (s71 g18473 (by omega) (by omega) (((kk18473.v (by decide)).trans ev18471)) (by omega) (by omega))) (by decide) (by decide) (fun w18488 h18488 q18488 => ?_)
            obtain ⟨v18489, rfl, g18488, kk18488, ev18489, p18488_0⟩ := q18488
            have bv18489 := g18488.rg ad7 (i := 1) (by decide) rf7_1
            rw [ev18489] at bv18489
            have k18488 := k18473.tr kk18488 (by decide)
            show jEv _ _ _ _ _ _ _ (_, [(2, 7), (2, 1), (0, 9), (0, a3), (0, x4), (0, x5), (0, v18467)], [], _, _, _)
            refine ev_iinc (w := (x5 + 1)) (L' := [(2, 7), (2, 1), (0, 9), (0, a3), (0, x4), (0, (x5 + 1)), (0, v18467)]) rfl (by unfold w32; omega) rfl ?_
            refine ev_goto f78_25 ?_
            exact ih _ _ _ _ _ g18488 k18488 (by omega) (by omega) (by omega) (by omega) (by omega) (by omega) (by omega) (by omega) (ev18489) (by omega) (by omega) (by omega)
          · refine ev_goto f78_100 ?_
            refine ev_aload_n rfl ?_
            refine ev_bipush ?_
            refine ev_call (jcall_v (A := [(0, 41)]) (S' := []) (r := 7) rfl (g18473.lt ad7) (g18473.tg ad7) (Nat.le_of_ble_eq_true rfl)) (jOk_le (by decide) (s71 g18473 (by omega) (by omega) (((kk18473.v (by decide)).trans ev18471)) (by omega) (by omega))) (by decide) (by decide) (fun w18490 h18490 q18490 => ?_)
            obtain ⟨v18491, rfl, g18490, kk18490, ev18491, p18490_0⟩ := q18490
            have bv18491 := g18490.rg ad7 (i := 1) (by decide) rf7_1
            rw [ev18491] at bv18491
            have k18490 := k18473.tr kk18490 (by decide)
            show jEv _ _ _ _ _ _ _ (_, [(2, 7), (2, 1), (0, 9), (0, a3), (0, x4), (0, x5), (0, v18467)], [], _, _, _)
            refine ev_aload_n rfl ?_
            refine g_getv (r := 7) (v := v18491) g18490 ad7 (by decide) ft5_1 (ev18491) ?_
            refine ev_iflt f78_117 (fun c18492 => ?_) (fun c18492 => ?_)
            · refine ev_iload rfl ?_
              exact ev_ret rfl (by decide) (by decide) ⟨_, _, rfl, by omega, by omega, g18490, k18490, (ev18491), by omega, by omega⟩
            · refine ev_iconst ?_
              refine ev_goto f78_119 ?_
              exact ev_ret rfl (by decide) (by decide) ⟨_, _, rfl, by omega, by omega, g18490, k18490, (ev18491), by omega, by omega⟩
set_option maxHeartbeats 4000000 in
theorem s78_9 {G : GH} {h : JH} (g : Gd G h) {a3 : Int} (la3 : (-2147483648) ≤ a3) (ua3 : a3 ≤ 2147483647) {w0 : Int} (ew0 : h.2.2 7 1 = w0) (lw0 : (-1) ≤ w0) (uw0 : w0 ≤ 200) {w1 : Int} (ew1 : h.2.2 7 2 = w1) (lw1 : 0 ≤ w1) (uw1 : w1 ≤ 199) : jOk 10 0 0 78 [(2, 7), (2, 1), (0, 9), (0, a3)] h (fun v h' => ∃ r F : Int, v = some (0, r) ∧ (-1) ≤ r ∧ r ≤ 199 ∧ Gd G h' ∧ Kp [(7, 2), (7, 3), (7, 4), (10, 0), (11, 0), (12, 0), (13, 0), (14, 0), (15, 0), (16, 0), (17, 0)] h h' ∧ h'.2.2 7 1 = F ∧ ((-F) + w0) ≤ 0 ∧ ((-F) + (-r)) ≤ 1) := by
  refine ⟨by decide, by rw [ml78]; exact Nat.le_of_ble_eq_true rfl, ?_⟩
  rw [ml78, pp78]
  show jEv _ none _ c78_0 0 0 _ (c78_0, [(2, 7), (2, 1), (0, 9), (0, a3), (9, 0), (9, 0), (9, 0)], [], h, 0, 0)
  have k0 := Kp.rf [(7, 2), (7, 3), (7, 4), (10, 0), (11, 0), (12, 0), (13, 0), (14, 0), (15, 0), (16, 0), (17, 0)] h
  refine ev_aload_n rfl ?_
  refine ev_dup (by decide) ?_
  refine g_getv (r := 7) (v := w1) g ad7 (by decide) ft5_2 (ew1) ?_
  refine ev_iconst ?_
  refine ev_iadd (r := (w1 + 1)) (by unfold w32; omega) ?_
  refine g_putf (r := 7) g ad7 (by decide) ft5_2 (by decide) (fun e => absurd e nz5_2) rf7_2 (by decide) (by omega) (by omega) (fun h18493 e18493 g18493 => ?_)
  have k18493 := k0.wr e18493 rfl
  refine ev_aload_n rfl ?_
  refine ev_iload_n rfl ?_
  refine ev_call (jcall_v (A := [(0, 9)]) (S' := []) (r := 7) rfl (g18493.lt ad7) (g18493.tg ad7) (Nat.le_of_ble_eq_true rfl)) (jOk_le (by decide) (s72 g18493 (by omega) (by omega) (((jw_ne e18493 (Or.inr (by decide))).trans ew0)) (by omega) (by omega))) (by decide) (by decide) (fun w18494 h18494 q18494 => ?_)
  obtain ⟨v18495, rfl, g18494, kk18494, ev18495, p18494_0⟩ := q18494
  have bv18495 := g18494.rg ad7 (i := 1) (by decide) rf7_1
  rw [ev18495] at bv18495
  have k18494 := k18493.tr kk18494 (by decide)
  show jEv _ _ _ _ _ _ _ (_, [(2, 7), (2, 1), (0, 9), (0, a3), (9, 0), (9, 0), (9, 0)], [], _, _, _)
  refine ev_aload_n rfl ?_
  refine ev_iconst ?_
  refine ev_call (jcall_v (A := [(0, 1)]) (S' := []) (r := 7) rfl (g18494.lt ad7) (g18494.tg ad7) (Nat.le_of_ble_eq_true rfl)) (jOk_le (by decide) (s73 g18494 (by omega) (by omega) (ev18495) (by omega) (by omega))) (by decide) (by decide) (fun w18496 h18496 q18496 => ?_)
  obtain ⟨v18498, v18497, rfl, lv18498, uv18498, g18496, kk18496, ev18497, p18496_0, p18496_1⟩ := q18496
  have bv18497 := g18496.rg ad7 (i := 1) (by decide) rf7_1
  rw [ev18497] at bv18497
  have k18496 := k18494.tr kk18496 (by decide)
  show jEv _ _ _ _ _ _ _ (_, [(2, 7), (2, 1), (0, 9), (0, a3), (9, 0), (9, 0), (9, 0)], [(0, v18498)], _, _, _)
  refine ev_istore (L' := [(2, 7), (2, 1), (0, 9), (0, a3), (0, v18498), (9, 0), (9, 0)]) (Nat.le_of_ble_eq_true rfl) rfl ?_
  refine ev_iconst ?_
  refine ev_istore (L' := [(2, 7), (2, 1), (0, 9), (0, a3), (0, v18498), (0, 0), (9, 0)]) (Nat.le_of_ble_eq_true rfl) rfl ?_
  exact (s78_9_l la3 ua3 ew0 lw0 uw0 ew1 lw1 uw1 8) _ _ _ _ _ g18496 k18496 (by omega) (by omega) (by omega) (by omega) (by omega) (by omega) (by omega) (by omega) (ev18497) (by omega) (by omega) (by omega)
/-! s79_9  -/
set_option maxHeartbeats 4000000 in
theorem s79_9_l {G : GH} {h : JH} {a3 : Int} (la3 : (-2147483648) ≤ a3) (ua3 : a3 ≤ 2147483647) {w0 : Int} (ew0 : h.2.2 7 1 = w0) (lw0 : (-1) ≤ w0) (uw0 : w0 ≤ 200) {w1 : Int} (ew1 : h.2.2 7 2 = w1) (lw1 : 0 ≤ w1) (uw1 : w1 ≤ 199) : ∀ N : Nat, (∀ (h1 : JH) (x4 x5 x6 y0 : Int), Gd G h1 → Kp [(7, 2), (7, 3), (7, 4), (10, 0), (11, 0), (12, 0), (13, 0), (14, 0), (15, 0), (16, 0), (17, 0)] h h1 → (-2147483648) ≤ a3 → a3 ≤ 2147483647 → 0 ≤ x4 → x4 ≤ 3 → (-1) ≤ x5 → x5 ≤ 199 → 0 ≤ x6 → x6 ≤ 3 → (w0 + (-y0)) ≤ 0 → ((-x5) + (-y0)) ≤ 1 → h1.2.2 7 1 = y0 → (-1) ≤ y0 → y0 ≤ 200 → ((-x6) + 3) < N → jEv (jOk 9) none (fun _ => 0) c79_0 0 0 (fun v h' => ∃ r F : Int, v = some (0, r) ∧ (-1) ≤ r ∧ r ≤ 199 ∧ Gd G h' ∧ Kp [(7, 2), (7, 3), (7, 4), (10, 0), (11, 0), (12, 0), (13, 0), (14, 0), (15, 0), (16, 0), (17, 0)] h h' ∧ h'.2.2 7 1 = F ∧ ((-F) + w0) ≤ 0 ∧ ((-F) + (-r)) ≤ 1) (c79_68, [(2, 7), (2, 1), (0, 9), (0, a3), (0, x4), (0, x5), (0, x6)], [], h1, 0, 0)) := by
  intro N
  induction N with
  | zero => exact fun h1 x4 x5 x6 y0 g1 k1 b0 b1 b2 b3 b4 b5 b6 b7 b8 b9 b10 b11 b12 hm => absurd hm (by omega)
  | succ N ih =>
    show _
    intro h1 x4 x5 x6 y0 g1 k1 b0 b1 b2 b3 b4 b5 b6 b7 b8 b9 ey0 ly0 uy0 hm
    refine ev_iload rfl ?_
    refine ev_aload_n rfl ?_
    refine ev_iload rfl ?_
    refine ev_in (d := 8) (a := 0) (b := 0) (cd' := c141_0) (m := 2) (L0 := [(2, 1), (0, x4)]) (jcall_v (A := [(0, x4)]) (S' := [(0, x6)]) (r := 1) rfl (g1.lt ad1) (g1.tg ad1) (Nat.le_of_ble_eq_true rfl)) (by decide) ml141 pp141 (Nat.le_of_ble_eq_true rfl) rfl (by decide) (by decide) ?_
    refine ev_aload_n rfl ?_
    refine ev_iload_n rfl ?_
    refine ev_in (d := 7) (a := 0) (b := 0) (cd' := c140_0) (m := 2) (L0 := [(2, 1), (0, x4)]) (jcall_v (A := [(0, x4)]) (S' := []) (r := 1) rfl (g1.lt ad1) (g1.tg ad1) (Nat.le_of_ble_eq_true rfl)) (by decide) ml140 pp140 (Nat.le_of_ble_eq_true rfl) rfl (by decide) (by decide) ?_
    refine ev_iload_n rfl ?_
    refine ev_iflt f140_16 (fun c18758 => absurd c18758 (by omega)) (fun c18758 => ?_)
    refine ev_iload_n rfl ?_
    refine ev_aload_n rfl ?_
    obtain ⟨v18759, ev18759, lv18759, uv18759⟩ := g1.rd ad1 (show 0 < 8 by decide) rf1_0
    refine g_getv (r := 1) (v := v18759) g1 ad1 (by decide) ft10_0 ev18759 ?_
    refine ev_icmpge f140_16 (fun c18760 => ?_) (fun c18760 => ?_)
    · refine ev_iconst ?_
      refine ev_ret rfl (by decide) (by decide) ?_
      show jEv _ _ _ _ _ _ _ (_, [(2, 1), (0, x4)], [(0, 0)], _, _, _)
      refine ev_ifeq f141_17 (fun c18761 => ?_) (fun c18761 => absurd c18761 (by omega))
      refine ev_iconst ?_
      refine ev_ret rfl (by decide) (by decide) ?_
      show jEv _ _ _ _ _ _ _ (_, [(2, 7), (2, 1), (0, 9), (0, a3), (0, x4), (0, x5), (0, x6)], [(0, 0), (0, x6)], _, _, _)
      refine ev_icmpge f79_126 (fun c18762 => ?_) (fun c18762 => absurd c18762 (by omega))
      refine ev_aload_n rfl ?_
      refine ev_bipush ?_
      refine ev_call (jcall_v (A := [(0, 41)]) (S' := []) (r := 7) rfl (g1.lt ad7) (g1.tg ad7) (Nat.le_of_ble_eq_true rfl)) (jOk_le (by decide) (s71 g1 (by omega) (by omega) (ey0) (by omega) (by omega))) (by decide) (by decide) (fun w18763 h18763 q18763 => ?_)
      obtain ⟨v18764, rfl, g18763, kk18763, ev18764, p18763_0⟩ := q18763
      have bv18764 := g18763.rg ad7 (i := 1) (by decide) rf7_1
      rw [ev18764] at bv18764
      have k18763 := k1.tr kk18763 (by decide)
      show jEv _ _ _ _ _ _ _ (_, [(2, 7), (2, 1), (0, 9), (0, a3), (0, x4), (0, x5), (0, x6)], [], _, _, _)
      refine ev_aload_n rfl ?_
      refine g_getv (r := 7) (v := v18764) g18763 ad7 (by decide) ft5_1 (ev18764) ?_
      refine ev_ifge f79_144 (fun c18765 => ?_) (fun c18765 => ?_)
      · refine ev_iconst ?_
        exact ev_ret rfl (by decide) (by decide) ⟨_, _, rfl, by omega, by omega, g18763, k18763, (ev18764), by omega, by omega⟩
      · refine ev_iload rfl ?_
        refine ev_ifge f79_146 (fun c18766 => ?_) (fun c18766 => absurd c18766 (by omega))
        refine ev_aload_n rfl ?_
        refine g_getp (r := 7) (c := 11) g18763 ad7 (by decide) (by decide) rf7_8 ft5_8 ?_
        refine ev_iload rfl ?_
        refine ev_iload rfl ?_
        refine g_iast g18763 ad11 rt11 (fun _ => rfl) (by omega) (by omega) (by omega) (by omega) (fun h18767 e18767 g18767 => ?_)
        have k18767 := k18763.wr e18767 rfl
        refine ev_aload_n rfl ?_
        refine g_getp (r := 7) (c := 15) g18767 ad7 (by decide) (by decide) rf7_12 ft5_12 ?_
        refine ev_iload rfl ?_
        refine ev_dup2 (by decide) (by decide) ?_
        refine g_iald g18767 ad15 rt15 (by omega) (by omega) (fun v18768 ev18768 lv18768 uv18768 => ?_)
        refine ev_iconst ?_
        refine ev_iload rfl ?_
        refine g_ishlB (a' := 1) (a := 1) (b := 3) (hi := 8) (by omega) (by omega) (by omega) (by omega) (by decide) (by decide) (fun v18769 ev18769 lv18769 uv18769 => ?_)
        refine g_iorG (fun v18770 ev18770 lv18770 uv18770 => ?_)
        refine g_iast g18767 ad15 rt15 (fun _ => rfl) (by omega) (by omega) (by omega) (by omega) (fun h18771 e18771 g18771 => ?_)
        have k18771 := k18767.wr e18771 rfl
        refine ev_iload rfl ?_
        exact ev_ret rfl (by decide) (by decide) ⟨_, _, rfl, by omega, by omega, g18771, k18771, (((jw_ne e18771 (Or.inl (by decide))).trans ((jw_ne e18767 (Or.inl (by decide))).trans ev18764))), by omega, by omega⟩
    · refine ev_iconst ?_
      refine ev_goto f140_17 ?_
      refine ev_ret rfl (by decide) (by decide) ?_
      show jEv _ _ _ _ _ _ _ (_, [(2, 1), (0, x4)], [(0, 1)], _, _, _)
      refine ev_ifeq f141_17 (fun c18772 => absurd c18772 (by omega)) (fun c18772 => ?_)
      refine ev_aload_n rfl ?_
      refine g_getp (r := 1) (c := 2) g1 ad1 (by decide) (by decide) rf1_3 ft10_3 ?_
      refine ev_iload_n rfl ?_
      refine g_iald g1 ad2 rt2 (by omega) (by omega) (fun v18773 ev18773 lv18773 uv18773 => ?_)
      have xv18773 := (g1.ex.1.1 (x4 : Int).toNat (by rw [(ev18759)]; omega))
      rw [ev18773] at xv18773
      refine ev_goto f141_18 ?_
      refine ev_ret rfl (by decide) (by decide) ?_
      show jEv _ _ _ _ _ _ _ (_, [(2, 7), (2, 1), (0, 9), (0, a3), (0, x4), (0, x5), (0, x6)], [(0, v18773), (0, x6)], _, _, _)
      refine ev_icmpge f79_126 (fun c18774 => ?_) (fun c18774 => ?_)
      · refine ev_aload_n rfl ?_
        refine ev_bipush ?_
        refine ev_call (jcall_v (A := [(0, 41)]) (S' := []) (r := 7) rfl (g1.lt ad7) (g1.tg ad7) (Nat.le_of_ble_eq_true rfl)) (jOk_le (by decide) (s71 g1 (by omega) (by omega) (ey0) (by omega) (by omega))) (by decide) (by decide) (fun w18775 h18775 q18775 => ?_)
        obtain ⟨v18776, rfl, g18775, kk18775, ev18776, p18775_0⟩ := q18775
        have bv18776 := g18775.rg ad7 (i := 1) (by decide) rf7_1
        rw [ev18776] at bv18776
        have k18775 := k1.tr kk18775 (by decide)
        show jEv _ _ _ _ _ _ _ (_, [(2, 7), (2, 1), (0, 9), (0, a3), (0, x4), (0, x5), (0, x6)], [], _, _, _)
        refine ev_aload_n rfl ?_
        refine g_getv (r := 7) (v := v18776) g18775 ad7 (by decide) ft5_1 (ev18776) ?_
        refine ev_ifge f79_144 (fun c18777 => ?_) (fun c18777 => ?_)
        · refine ev_iconst ?_
          exact ev_ret rfl (by decide) (by decide) ⟨_, _, rfl, by omega, by omega, g18775, k18775, (ev18776), by omega, by omega⟩
        · refine ev_iload rfl ?_
          refine ev_ifge f79_146 (fun c18778 => ?_) (fun c18778 => absurd c18778 (by omega))
          refine ev_aload_n rfl ?_
          refine g_getp (r := 7) (c := 11) g18775 ad7 (by decide) (by decide) rf7_8 ft5_8 ?_
          refine ev_iload rfl ?_
          refine ev_iload rfl ?_
          refine g_iast g18775 ad11 rt11 (fun _ => rfl) (by omega) (by omega) (by omega) (by omega) (fun h18779 e18779 g18779 => ?_)
          have k18779 := k18775.wr e18779 rfl
          refine ev_aload_n rfl ?_
          refine g_getp (r := 7) (c := 15) g18779 ad7 (by decide) (by decide) rf7_12 ft5_12 ?_
          refine ev_iload rfl ?_
          refine ev_dup2 (by decide) (by decide) ?_
          refine g_iald g18779 ad15 rt15 (by omega) (by omega) (fun v18780 ev18780 lv18780 uv18780 => ?_)
          refine ev_iconst ?_
          refine ev_iload rfl ?_
          refine g_ishlB (a' := 1) (a := 1) (b := 3) (hi := 8) (by omega) (by omega) (by omega) (by omega) (by decide) (by decide) (fun v18781 ev18781 lv18781 uv18781 => ?_)
          refine g_iorG (fun v18782 ev18782 lv18782 uv18782 => ?_)
          refine g_iast g18779 ad15 rt15 (fun _ => rfl) (by omega) (by omega) (by omega) (by omega) (fun h18783 e18783 g18783 => ?_)
          have k18783 := k18779.wr e18783 rfl
          refine ev_iload rfl ?_
          exact ev_ret rfl (by decide) (by decide) ⟨_, _, rfl, by omega, by omega, g18783, k18783, (((jw_ne e18783 (Or.inl (by decide))).trans ((jw_ne e18779 (Or.inl (by decide))).trans ev18776))), by omega, by omega⟩
      · refine ev_aload_n rfl ?_
        refine g_getv (r := 7) (v := y0) g1 ad7 (by decide) ft5_1 (ey0) ?_
        refine ev_ifge f79_126 (fun c18784 => ?_) (fun c18784 => ?_)
        · refine ev_aload_n rfl ?_
          refine ev_bipush ?_
          refine ev_call (jcall_v (A := [(0, 41)]) (S' := []) (r := 7) rfl (g1.lt ad7) (g1.tg ad7) (Nat.le_of_ble_eq_true rfl)) (jOk_le (by decide) (s71 g1 (by omega) (by omega) (ey0) (by omega) (by omega))) (by decide) (by decide) (fun w18785 h18785 q18785 => ?_)
          obtain ⟨v18786, rfl, g18785, kk18785, ev18786, p18785_0⟩ := q18785
          have bv18786 := g18785.rg ad7 (i := 1) (by decide) rf7_1
          rw [ev18786] at bv18786
          have k18785 := k1.tr kk18785 (by decide)
          show jEv _ _ _ _ _ _ _ (_, [(2, 7), (2, 1), (0, 9), (0, a3), (0, x4), (0, x5), (0, x6)], [], _, _, _)
          refine ev_aload_n rfl ?_
          refine g_getv (r := 7) (v := v18786) g18785 ad7 (by decide) ft5_1 (ev18786) ?_
          refine ev_ifge f79_144 (fun c18787 => ?_) (fun c18787 => absurd c18787 (by omega))
          refine ev_iconst ?_
          exact ev_ret rfl (by decide) (by decide) ⟨_, _, rfl, by omega, by omega, g18785, k18785, (ev18786), by omega, by omega⟩
        · refine ev_iload rfl ?_
          refine ev_ifle f79_97 (fun c18788 => ?_) (fun c18788 => ?_)
          · refine ev_aload_n rfl ?_
            refine ev_iload rfl ?_
            refine ev_iload rfl ?_
            refine ev_iconst ?_
            refine ev_aload_n rfl ?_
            refine ev_aload_n rfl ?_
            refine ev_iload_n rfl ?_
            refine ev_iconst ?_
            refine ev_iadd (r := 10) (by decide) ?_
            refine ev_iload_n rfl ?_
            refine ev_iconst ?_
            refine ev_iload rfl ?_
            refine g_ishlB (a' := 1) (a := 1) (b := 3) (hi := 8) (by omega) (by omega) (by omega) (by omega) (by decide) (by decide) (fun v18789 ev18789 lv18789 uv18789 => ?_)
            refine g_iorG (fun v18790 ev18790 lv18790 uv18790 => ?_)
            refine ev_call (jcall_v (A := [(0, v18790), (0, 10), (2, 1)]) (S' := [(0, 0), (0, x6), (0, x5), (2, 7)]) (r := 7) rfl (g1.lt ad7) (g1.tg ad7) (Nat.le_of_ble_eq_true rfl)) (jOk_le (by decide) (s74_10 g1 (by omega) (by omega) (ey0) (by omega) (by omega))) (by decide) (by decide) (fun w18791 h18791 q18791 => ?_)
            obtain ⟨v18793, v18792, rfl, lv18793, uv18793, g18791, kk18791, ev18792, p18791_0, p18791_1⟩ := q18791
            have bv18792 := g18791.rg ad7 (i := 1) (by decide) rf7_1
            rw [ev18792] at bv18792
            have k18791 := k1.tr kk18791 (by decide)
            show jEv _ _ _ _ _ _ _ (_, [(2, 7), (2, 1), (0, 9), (0, a3), (0, x4), (0, x5), (0, x6)], [(0, v18793), (0, 0), (0, x6), (0, x5), (2, 7)], _, _, _)
            refine ev_call (jcall_v (A := [(0, v18793), (0, 0), (0, x6), (0, x5)]) (S' := []) (r := 7) rfl (g18791.lt ad7) (g18791.tg ad7) (Nat.le_of_ble_eq_true rfl)) (jOk_le (by decide) (s80 g18791 (by omega) (by omega) (by omega) (by omega) (by omega) (by omega) (by omega) (by omega))) (by decide) (by decide) (fun w18794 h18794 q18794 => ?_)
            obtain ⟨rfl, g18794, kk18794⟩ := q18794
            have k18794 := k18791.tr kk18794 (by decide)
            show jEv _ _ _ _ _ _ _ (_, [(2, 7), (2, 1), (0, 9), (0, a3), (0, x4), (0, x5), (0, x6)], [], _, _, _)
            refine ev_iinc (w := (x6 + 1)) (L' := [(2, 7), (2, 1), (0, 9), (0, a3), (0, x4), (0, x5), (0, (x6 + 1))]) rfl (by unfold w32; omega) rfl ?_
            refine ev_goto f79_68 ?_
            exact ih _ _ _ _ _ g18794 k18794 (by omega) (by omega) (by omega) (by omega) (by omega) (by omega) (by omega) (by omega) (by omega) (by omega) (((kk18794.v (by decide)).trans ev18792)) (by omega) (by omega) (by omega)
          · refine ev_aload_n rfl ?_
            refine ev_bipush ?_
            refine ev_call (jcall_v (A := [(0, 44)]) (S' := []) (r := 7) rfl (g1.lt ad7) (g1.tg ad7) (Nat.le_of_ble_eq_true rfl)) (jOk_le (by decide) (s71 g1 (by omega) (by omega) (ey0) (by omega) (by omega))) (by decide) (by decide) (fun w18795 h18795 q18795 => ?_)
            obtain ⟨v18796, rfl, g18795, kk18795, ev18796, p18795_0⟩ := q18795
            have bv18796 := g18795.rg ad7 (i := 1) (by decide) rf7_1
            rw [ev18796] at bv18796
            have k18795 := k1.tr kk18795 (by decide)
            show jEv _ _ _ _ _ _ _ (_, [(2, 7), (2, 1), (0, 9), (0, a3), (0, x4), (0, x5), (0, x6)], [], _, _, _)
            refine ev_aload_n rfl ?_
            refine ev_iload rfl ?_
            refine ev_iload rfl ?_
            refine ev_iconst ?_
            refine ev_aload_n rfl ?_
            refine ev_aload_n rfl ?_
            refine ev_iload_n rfl ?_
            refine ev_iconst ?_
            refine ev_iadd (r := 10) (by decide) ?_
            refine ev_iload_n rfl ?_
            refine ev_iconst ?_
            refine ev_iload rfl ?_
            refine g_ishlB (a' := 1) (a := 1) (b := 3) (hi := 8) (by omega) (by omega) (by omega) (by omega) (by decide) (by decide) (fun v18797 ev18797 lv18797 uv18797 => ?_)
            refine g_iorG (fun v18798 ev18798 lv18798 uv18798 => ?_)
            refine ev_call (jcall_v (A := [(0, v18798), (0, 10), (2, 1)]) (S' := [(0, 0), (0, x6), (0, x5), (2, 7)]) (r := 7) rfl (g18795.lt ad7) (g18795.tg ad7) (Nat.le_of_ble_eq_true rfl)) (jOk_le (by decide) (s74_10 g18795 (by omega) (by omega) (ev18796) (by omega) (by omega))) (by decide) (by decide) (fun w18799 h18799 q18799 => ?_)
            obtain ⟨v18801, v18800, rfl, lv18801, uv18801, g18799, kk18799, ev18800, p18799_0, p18799_1⟩ := q18799
            have bv18800 := g18799.rg ad7 (i := 1) (by decide) rf7_1
            rw [ev18800] at bv18800
            have k18799 := k18795.tr kk18799 (by decide)
            show jEv _ _ _ _ _ _ _ (_, [(2, 7), (2, 1), (0, 9), (0, a3), (0, x4), (0, x5), (0, x6)], [(0, v18801), (0, 0), (0, x6), (0, x5), (2, 7)], _, _, _)
            refine ev_call (jcall_v (A := [(0, v18801), (0, 0), (0, x6), (0, x5)]) (S' := []) (r := 7) rfl (g18799.lt ad7) (g18799.tg ad7) (Nat.le_of_ble_eq_true rfl)) (jOk_le (by decide) (s80 g18799 (by omega) (by omega) (by omega) (by omega) (by omega) (by omega) (by omega) (by omega))) (by decide) (by decide) (fun w18802 h18802 q18802 => ?_)
            obtain ⟨rfl, g18802, kk18802⟩ := q18802
            have k18802 := k18799.tr kk18802 (by decide)
            show jEv _ _ _ _ _ _ _ (_, [(2, 7), (2, 1), (0, 9), (0, a3), (0, x4), (0, x5), (0, x6)], [], _, _, _)
            refine ev_iinc (w := (x6 + 1)) (L' := [(2, 7), (2, 1), (0, 9), (0, a3), (0, x4), (0, x5), (0, (x6 + 1))]) rfl (by unfold w32; omega) rfl ?_
            refine ev_goto f79_68 ?_
            exact ih _ _ _ _ _ g18802 k18802 (by omega) (by omega) (by omega) (by omega) (by omega) (by omega) (by omega) (by omega) (by omega) (by omega) (((kk18802.v (by decide)).trans ev18800)) (by omega) (by omega) (by omega)
set_option maxHeartbeats 4000000 in
theorem s79_9 {G : GH} {h : JH} (g : Gd G h) {a3 : Int} (la3 : (-2147483648) ≤ a3) (ua3 : a3 ≤ 2147483647) {w0 : Int} (ew0 : h.2.2 7 1 = w0) (lw0 : (-1) ≤ w0) (uw0 : w0 ≤ 200) {w1 : Int} (ew1 : h.2.2 7 2 = w1) (lw1 : 0 ≤ w1) (uw1 : w1 ≤ 199) : jOk 10 0 0 79 [(2, 7), (2, 1), (0, 9), (0, a3)] h (fun v h' => ∃ r F : Int, v = some (0, r) ∧ (-1) ≤ r ∧ r ≤ 199 ∧ Gd G h' ∧ Kp [(7, 2), (7, 3), (7, 4), (10, 0), (11, 0), (12, 0), (13, 0), (14, 0), (15, 0), (16, 0), (17, 0)] h h' ∧ h'.2.2 7 1 = F ∧ ((-F) + w0) ≤ 0 ∧ ((-F) + (-r)) ≤ 1) := by
  refine ⟨by decide, by rw [ml79]; exact Nat.le_of_ble_eq_true rfl, ?_⟩
  rw [ml79, pp79]
  show jEv _ none _ c79_0 0 0 _ (c79_0, [(2, 7), (2, 1), (0, 9), (0, a3), (9, 0), (9, 0), (9, 0)], [], h, 0, 0)
  have k0 := Kp.rf [(7, 2), (7, 3), (7, 4), (10, 0), (11, 0), (12, 0), (13, 0), (14, 0), (15, 0), (16, 0), (17, 0)] h
  refine ev_aload_n rfl ?_
  refine ev_dup (by decide) ?_
  refine g_getv (r := 7) (v := w1) g ad7 (by decide) ft5_2 (ew1) ?_
  refine ev_iconst ?_
  refine ev_iadd (r := (w1 + 1)) (by unfold w32; omega) ?_
  refine g_putf (r := 7) g ad7 (by decide) ft5_2 (by decide) (fun e => absurd e nz5_2) rf7_2 (by decide) (by omega) (by omega) (fun h18803 e18803 g18803 => ?_)
  have k18803 := k0.wr e18803 rfl
  refine ev_aload_n rfl ?_
  refine ev_in (d := 8) (a := 0) (b := 0) (cd' := c68_0) (m := 1) (L0 := [(2, 7)]) (jcall_v (A := []) (S' := []) (r := 7) rfl (g18803.lt ad7) (g18803.tg ad7) (Nat.le_of_ble_eq_true rfl)) (by decide) ml68 pp68 (Nat.le_of_ble_eq_true rfl) rfl (by decide) (by decide) ?_
  refine ev_aload_n rfl ?_
  refine g_getv (r := 7) (v := (w1 + 1)) g18803 ad7 (by decide) ft5_2 ((jw_eq e18803)) ?_
  refine ev_aload_n rfl ?_
  obtain ⟨v18804, ev18804, lv18804, uv18804⟩ := g18803.rd ad7 (show 0 < 15 by decide) rf7_0
  refine g_getv (r := 7) (v := v18804) g18803 ad7 (by decide) ft5_0 ev18804 ?_
  refine ev_icmpge f68_27 (fun c18805 => ?_) (fun c18805 => ?_)
  · refine ev_iconst ?_
    refine ev_ret rfl (by decide) (by decide) ?_
    show jEv _ _ _ _ _ _ _ (_, [(2, 7), (2, 1), (0, 9), (0, a3), (9, 0), (9, 0), (9, 0)], [(0, (-1))], _, _, _)
    refine ev_bipush ?_
    refine ev_isub (r := (-98)) (by decide) ?_
    refine ev_istore (L' := [(2, 7), (2, 1), (0, 9), (0, a3), (0, (-98)), (9, 0), (9, 0)]) (Nat.le_of_ble_eq_true rfl) rfl ?_
    refine ev_aload_n rfl ?_
    refine ev_iload rfl ?_
    refine ev_in (d := 8) (a := 0) (b := 0) (cd' := c140_0) (m := 2) (L0 := [(2, 1), (0, (-98))]) (jcall_v (A := [(0, (-98))]) (S' := []) (r := 1) rfl (g18803.lt ad1) (g18803.tg ad1) (Nat.le_of_ble_eq_true rfl)) (by decide) ml140 pp140 (Nat.le_of_ble_eq_true rfl) rfl (by decide) (by decide) ?_
    refine ev_iload_n rfl ?_
    refine ev_iflt f140_16 (fun c18806 => ?_) (fun c18806 => absurd c18806 (by omega))
    refine ev_iconst ?_
    refine ev_ret rfl (by decide) (by decide) ?_
    show jEv _ _ _ _ _ _ _ (_, [(2, 7), (2, 1), (0, 9), (0, a3), (0, (-98)), (9, 0), (9, 0)], [(0, 0)], _, _, _)
    refine ev_ifeq f79_37 (fun c18807 => ?_) (fun c18807 => absurd c18807 (by omega))
    refine ev_aload_n rfl ?_
    refine ev_in (d := 8) (a := 0) (b := 0) (cd' := c70_0) (m := 1) (L0 := [(2, 7)]) (jcall_v (A := []) (S' := []) (r := 7) rfl (g18803.lt ad7) (g18803.tg ad7) (Nat.le_of_ble_eq_true rfl)) (by decide) ml70 pp70 (Nat.le_of_ble_eq_true rfl) rfl (by decide) (by decide) ?_
    refine ev_aload_n rfl ?_
    refine g_getv (r := 7) (v := w0) g18803 ad7 (by decide) ft5_1 (((jw_ne e18803 (Or.inr (by decide))).trans ew0)) ?_
    refine ev_ifge f70_15 (fun c18808 => ?_) (fun c18808 => ?_)
    · refine ev_ret rfl (by decide) (by decide) ?_
      show jEv _ _ _ _ _ _ _ (_, [(2, 7), (2, 1), (0, 9), (0, a3), (0, (-98)), (9, 0), (9, 0)], [], _, _, _)
      refine ev_iconst ?_
      exact ev_ret rfl (by decide) (by decide) ⟨_, _, rfl, by omega, by omega, g18803, k18803, (((jw_ne e18803 (Or.inr (by decide))).trans ew0)), by omega, by omega⟩
    · refine ev_aload_n rfl ?_
      refine ev_aload_n rfl ?_
      refine g_getv (r := 7) (v := (w1 + 1)) g18803 ad7 (by decide) ft5_2 ((jw_eq e18803)) ?_
      refine g_putf (r := 7) g18803 ad7 (by decide) ft5_1 (by decide) (fun e => absurd e nz5_1) rf7_1 (by decide) (by omega) (by omega) (fun h18809 e18809 g18809 => ?_)
      have k18809 := k18803.wr e18809 rfl
      refine ev_ret rfl (by decide) (by decide) ?_
      show jEv _ _ _ _ _ _ _ (_, [(2, 7), (2, 1), (0, 9), (0, a3), (0, (-98)), (9, 0), (9, 0)], [], _, _, _)
      refine ev_iconst ?_
      exact ev_ret rfl (by decide) (by decide) ⟨_, _, rfl, by omega, by omega, g18809, k18809, ((jw_eq e18809)), by omega, by omega⟩
  · refine ev_aload_n rfl ?_
    refine g_getp (r := 7) (c := 8) g18803 ad7 (by decide) (by decide) rf7_5 ft5_5 ?_
    refine ev_aload_n rfl ?_
    refine g_getv (r := 7) (v := (w1 + 1)) g18803 ad7 (by decide) ft5_2 ((jw_eq e18803)) ?_
    refine g_bald g18803 ad8 rt8 (by omega) (by omega) (fun v18810 ev18810 lv18810 uv18810 => ?_)
    refine ev_sipush ?_
    refine g_iandB (b := 255) (by omega) (by omega) (by decide) (fun v18811 ev18811 lv18811 uv18811 => ?_)
    refine ev_goto f68_28 ?_
    refine ev_ret rfl (by decide) (by decide) ?_
    show jEv _ _ _ _ _ _ _ (_, [(2, 7), (2, 1), (0, 9), (0, a3), (9, 0), (9, 0), (9, 0)], [(0, v18811)], _, _, _)
    refine ev_bipush ?_
    refine ev_isub (r := (v18811 - 97)) (by unfold w32; omega) ?_
    refine ev_istore (L' := [(2, 7), (2, 1), (0, 9), (0, a3), (0, (v18811 - 97)), (9, 0), (9, 0)]) (Nat.le_of_ble_eq_true rfl) rfl ?_
    refine ev_aload_n rfl ?_
    refine ev_iload rfl ?_
    refine ev_in (d := 8) (a := 0) (b := 0) (cd' := c140_0) (m := 2) (L0 := [(2, 1), (0, (v18811 - 97))]) (jcall_v (A := [(0, (v18811 - 97))]) (S' := []) (r := 1) rfl (g18803.lt ad1) (g18803.tg ad1) (Nat.le_of_ble_eq_true rfl)) (by decide) ml140 pp140 (Nat.le_of_ble_eq_true rfl) rfl (by decide) (by decide) ?_
    refine ev_iload_n rfl ?_
    refine ev_iflt f140_16 (fun c18812 => ?_) (fun c18812 => ?_)
    · refine ev_iconst ?_
      refine ev_ret rfl (by decide) (by decide) ?_
      show jEv _ _ _ _ _ _ _ (_, [(2, 7), (2, 1), (0, 9), (0, a3), (0, (v18811 - 97)), (9, 0), (9, 0)], [(0, 0)], _, _, _)
      refine ev_ifeq f79_37 (fun c18813 => ?_) (fun c18813 => absurd c18813 (by omega))
      refine ev_aload_n rfl ?_
      refine ev_in (d := 8) (a := 0) (b := 0) (cd' := c70_0) (m := 1) (L0 := [(2, 7)]) (jcall_v (A := []) (S' := []) (r := 7) rfl (g18803.lt ad7) (g18803.tg ad7) (Nat.le_of_ble_eq_true rfl)) (by decide) ml70 pp70 (Nat.le_of_ble_eq_true rfl) rfl (by decide) (by decide) ?_
      refine ev_aload_n rfl ?_
      refine g_getv (r := 7) (v := w0) g18803 ad7 (by decide) ft5_1 (((jw_ne e18803 (Or.inr (by decide))).trans ew0)) ?_
      refine ev_ifge f70_15 (fun c18814 => ?_) (fun c18814 => ?_)
      · refine ev_ret rfl (by decide) (by decide) ?_
        show jEv _ _ _ _ _ _ _ (_, [(2, 7), (2, 1), (0, 9), (0, a3), (0, (v18811 - 97)), (9, 0), (9, 0)], [], _, _, _)
        refine ev_iconst ?_
        exact ev_ret rfl (by decide) (by decide) ⟨_, _, rfl, by omega, by omega, g18803, k18803, (((jw_ne e18803 (Or.inr (by decide))).trans ew0)), by omega, by omega⟩
      · refine ev_aload_n rfl ?_
        refine ev_aload_n rfl ?_
        refine g_getv (r := 7) (v := (w1 + 1)) g18803 ad7 (by decide) ft5_2 ((jw_eq e18803)) ?_
        refine g_putf (r := 7) g18803 ad7 (by decide) ft5_1 (by decide) (fun e => absurd e nz5_1) rf7_1 (by decide) (by omega) (by omega) (fun h18815 e18815 g18815 => ?_)
        have k18815 := k18803.wr e18815 rfl
        refine ev_ret rfl (by decide) (by decide) ?_
        show jEv _ _ _ _ _ _ _ (_, [(2, 7), (2, 1), (0, 9), (0, a3), (0, (v18811 - 97)), (9, 0), (9, 0)], [], _, _, _)
        refine ev_iconst ?_
        exact ev_ret rfl (by decide) (by decide) ⟨_, _, rfl, by omega, by omega, g18815, k18815, ((jw_eq e18815)), by omega, by omega⟩
    · refine ev_iload_n rfl ?_
      refine ev_aload_n rfl ?_
      obtain ⟨v18816, ev18816, lv18816, uv18816⟩ := g18803.rd ad1 (show 0 < 8 by decide) rf1_0
      refine g_getv (r := 1) (v := v18816) g18803 ad1 (by decide) ft10_0 ev18816 ?_
      refine ev_icmpge f140_16 (fun c18817 => ?_) (fun c18817 => ?_)
      · refine ev_iconst ?_
        refine ev_ret rfl (by decide) (by decide) ?_
        show jEv _ _ _ _ _ _ _ (_, [(2, 7), (2, 1), (0, 9), (0, a3), (0, (v18811 - 97)), (9, 0), (9, 0)], [(0, 0)], _, _, _)
        refine ev_ifeq f79_37 (fun c18818 => ?_) (fun c18818 => absurd c18818 (by omega))
        refine ev_aload_n rfl ?_
        refine ev_in (d := 8) (a := 0) (b := 0) (cd' := c70_0) (m := 1) (L0 := [(2, 7)]) (jcall_v (A := []) (S' := []) (r := 7) rfl (g18803.lt ad7) (g18803.tg ad7) (Nat.le_of_ble_eq_true rfl)) (by decide) ml70 pp70 (Nat.le_of_ble_eq_true rfl) rfl (by decide) (by decide) ?_
        refine ev_aload_n rfl ?_
        refine g_getv (r := 7) (v := w0) g18803 ad7 (by decide) ft5_1 (((jw_ne e18803 (Or.inr (by decide))).trans ew0)) ?_
        refine ev_ifge f70_15 (fun c18819 => ?_) (fun c18819 => ?_)
        · refine ev_ret rfl (by decide) (by decide) ?_
          show jEv _ _ _ _ _ _ _ (_, [(2, 7), (2, 1), (0, 9), (0, a3), (0, (v18811 - 97)), (9, 0), (9, 0)], [], _, _, _)
          refine ev_iconst ?_
          exact ev_ret rfl (by decide) (by decide) ⟨_, _, rfl, by omega, by omega, g18803, k18803, (((jw_ne e18803 (Or.inr (by decide))).trans ew0)), by omega, by omega⟩
        · refine ev_aload_n rfl ?_
          refine ev_aload_n rfl ?_
          refine g_getv (r := 7) (v := (w1 + 1)) g18803 ad7 (by decide) ft5_2 ((jw_eq e18803)) ?_
          refine g_putf (r := 7) g18803 ad7 (by decide) ft5_1 (by decide) (fun e => absurd e nz5_1) rf7_1 (by decide) (by omega) (by omega) (fun h18820 e18820 g18820 => ?_)
          have k18820 := k18803.wr e18820 rfl
          refine ev_ret rfl (by decide) (by decide) ?_
          show jEv _ _ _ _ _ _ _ (_, [(2, 7), (2, 1), (0, 9), (0, a3), (0, (v18811 - 97)), (9, 0), (9, 0)], [], _, _, _)
          refine ev_iconst ?_
          exact ev_ret rfl (by decide) (by decide) ⟨_, _, rfl, by omega, by omega, g18820, k18820, ((jw_eq e18820)), by omega, by omega⟩
      · refine ev_iconst ?_
        refine ev_goto f140_17 ?_
        refine ev_ret rfl (by decide) (by decide) ?_
        show jEv _ _ _ _ _ _ _ (_, [(2, 7), (2, 1), (0, 9), (0, a3), (0, (v18811 - 97)), (9, 0), (9, 0)], [(0, 1)], _, _, _)
        refine ev_ifeq f79_37 (fun c18821 => absurd c18821 (by omega)) (fun c18821 => ?_)
        refine ev_iload_n rfl ?_
        refine ev_iload rfl ?_
        refine g_ishrG (fun v18822 ev18822 lv18822 uv18822 => ?_)
        refine ev_iconst ?_
        refine g_iandB (b := 1) (by omega) (by omega) (by decide) (fun v18823 ev18823 lv18823 uv18823 => ?_)
        refine ev_ifeq f79_43 (fun c18824 => ?_) (fun c18824 => ?_)
        · refine ev_aload_n rfl ?_
          refine ev_dup (by decide) ?_
          refine g_getv (r := 7) (v := (w1 + 1)) g18803 ad7 (by decide) ft5_2 ((jw_eq e18803)) ?_
          refine ev_iconst ?_
          refine ev_iadd (r := (w1 + 2)) (by unfold w32; omega) ?_
          refine g_putf (r := 7) g18803 ad7 (by decide) ft5_2 (by decide) (fun e => absurd e nz5_2) rf7_2 (by decide) (by omega) (by omega) (fun h18825 e18825 g18825 => ?_)
          have k18825 := k18803.wr e18825 rfl
          refine ev_aload_n rfl ?_
          refine ev_iload_n rfl ?_
          refine ev_call (jcall_v (A := [(0, 9)]) (S' := []) (r := 7) rfl (g18825.lt ad7) (g18825.tg ad7) (Nat.le_of_ble_eq_true rfl)) (jOk_le (by decide) (s72 g18825 (by omega) (by omega) (((jw_ne e18825 (Or.inr (by decide))).trans ((jw_ne e18803 (Or.inr (by decide))).trans ew0))) (by omega) (by omega))) (by decide) (by decide) (fun w18826 h18826 q18826 => ?_)
          obtain ⟨v18827, rfl, g18826, kk18826, ev18827, p18826_0⟩ := q18826
          have bv18827 := g18826.rg ad7 (i := 1) (by decide) rf7_1
          rw [ev18827] at bv18827
          have k18826 := k18825.tr kk18826 (by decide)
          show jEv _ _ _ _ _ _ _ (_, [(2, 7), (2, 1), (0, 9), (0, a3), (0, (v18811 - 97)), (9, 0), (9, 0)], [], _, _, _)
          refine ev_aload_n rfl ?_
          refine ev_iconst ?_
          refine ev_call (jcall_v (A := [(0, 2)]) (S' := []) (r := 7) rfl (g18826.lt ad7) (g18826.tg ad7) (Nat.le_of_ble_eq_true rfl)) (jOk_le (by decide) (s73 g18826 (by omega) (by omega) (ev18827) (by omega) (by omega))) (by decide) (by decide) (fun w18828 h18828 q18828 => ?_)
          obtain ⟨v18830, v18829, rfl, lv18830, uv18830, g18828, kk18828, ev18829, p18828_0, p18828_1⟩ := q18828
          have bv18829 := g18828.rg ad7 (i := 1) (by decide) rf7_1
          rw [ev18829] at bv18829
          have k18828 := k18826.tr kk18828 (by decide)
          show jEv _ _ _ _ _ _ _ (_, [(2, 7), (2, 1), (0, 9), (0, a3), (0, (v18811 - 97)), (9, 0), (9, 0)], [(0, v18830)], _, _, _)
          refine ev_istore (L' := [(2, 7), (2, 1), (0, 9), (0, a3), (0, (v18811 - 97)), (0, v18830), (9, 0)]) (Nat.le_of_ble_eq_true rfl) rfl ?_
          refine ev_iconst ?_
          refine ev_istore (L' := [(2, 7), (2, 1), (0, 9), (0, a3), (0, (v18811 - 97)), (0, v18830), (0, 0)]) (Nat.le_of_ble_eq_true rfl) rfl ?_
          exact (s79_9_l la3 ua3 ew0 lw0 uw0 ew1 lw1 uw1 8) _ _ _ _ _ g18828 k18828 (by omega) (by omega) (by omega) (by omega) (by omega) (by omega) (by omega) (by omega) (by omega) (by omega) (ev18829) (by omega) (by omega) (by omega)
        · refine ev_aload_n rfl ?_
          refine ev_in (d := 8) (a := 0) (b := 0) (cd' := c70_0) (m := 1) (L0 := [(2, 7)]) (jcall_v (A := []) (S' := []) (r := 7) rfl (g18803.lt ad7) (g18803.tg ad7) (Nat.le_of_ble_eq_true rfl)) (by decide) ml70 pp70 (Nat.le_of_ble_eq_true rfl) rfl (by decide) (by decide) ?_
          refine ev_aload_n rfl ?_
          refine g_getv (r := 7) (v := w0) g18803 ad7 (by decide) ft5_1 (((jw_ne e18803 (Or.inr (by decide))).trans ew0)) ?_
          refine ev_ifge f70_15 (fun c18831 => ?_) (fun c18831 => ?_)
          · refine ev_ret rfl (by decide) (by decide) ?_
            show jEv _ _ _ _ _ _ _ (_, [(2, 7), (2, 1), (0, 9), (0, a3), (0, (v18811 - 97)), (9, 0), (9, 0)], [], _, _, _)
            refine ev_iconst ?_
            exact ev_ret rfl (by decide) (by decide) ⟨_, _, rfl, by omega, by omega, g18803, k18803, (((jw_ne e18803 (Or.inr (by decide))).trans ew0)), by omega, by omega⟩
          · refine ev_aload_n rfl ?_
            refine ev_aload_n rfl ?_
            refine g_getv (r := 7) (v := (w1 + 1)) g18803 ad7 (by decide) ft5_2 ((jw_eq e18803)) ?_
            refine g_putf (r := 7) g18803 ad7 (by decide) ft5_1 (by decide) (fun e => absurd e nz5_1) rf7_1 (by decide) (by omega) (by omega) (fun h18832 e18832 g18832 => ?_)
            have k18832 := k18803.wr e18832 rfl
            refine ev_ret rfl (by decide) (by decide) ?_
            show jEv _ _ _ _ _ _ _ (_, [(2, 7), (2, 1), (0, 9), (0, a3), (0, (v18811 - 97)), (9, 0), (9, 0)], [], _, _, _)
            refine ev_iconst ?_
            exact ev_ret rfl (by decide) (by decide) ⟨_, _, rfl, by omega, by omega, g18832, k18832, ((jw_eq e18832)), by omega, by omega⟩
/-! s74_9  -/
set_option maxHeartbeats 4000000 in
theorem s74_9 {G : GH} {h : JH} (g : Gd G h) {a3 : Int} (la3 : (-2147483648) ≤ a3) (ua3 : a3 ≤ 2147483647) {w0 : Int} (ew0 : h.2.2 7 1 = w0) (lw0 : (-1) ≤ w0) (uw0 : w0 ≤ 200) : jOk 11 0 0 74 [(2, 7), (2, 1), (0, 9), (0, a3)] h (fun v h' => ∃ r F : Int, v = some (0, r) ∧ (-1) ≤ r ∧ r ≤ 199 ∧ Gd G h' ∧ Kp [(7, 2), (7, 3), (7, 4), (10, 0), (11, 0), (12, 0), (13, 0), (14, 0), (15, 0), (16, 0), (17, 0)] h h' ∧ h'.2.2 7 1 = F ∧ ((-F) + w0) ≤ 0 ∧ ((-F) + (-r)) ≤ 1) := by
  refine ⟨by decide, by rw [ml74]; exact Nat.le_of_ble_eq_true rfl, ?_⟩
  rw [ml74, pp74]
  show jEv _ none _ c74_0 0 0 _ (c74_0, [(2, 7), (2, 1), (0, 9), (0, a3), (9, 0)], [], h, 0, 0)
  have k0 := Kp.rf [(7, 2), (7, 3), (7, 4), (10, 0), (11, 0), (12, 0), (13, 0), (14, 0), (15, 0), (16, 0), (17, 0)] h
  refine ev_aload_n rfl ?_
  refine g_getv (r := 7) (v := w0) g ad7 (by decide) ft5_1 (ew0) ?_
  refine ev_ifge f74_13 (fun c18899 => ?_) (fun c18899 => ?_)
  · refine ev_aload_n rfl ?_
    refine ev_in (d := 9) (a := 0) (b := 0) (cd' := c70_0) (m := 1) (L0 := [(2, 7)]) (jcall_v (A := []) (S' := []) (r := 7) rfl (g.lt ad7) (g.tg ad7) (Nat.le_of_ble_eq_true rfl)) (by decide) ml70 pp70 (Nat.le_of_ble_eq_true rfl) rfl (by decide) (by decide) ?_
    refine ev_aload_n rfl ?_
    refine g_getv (r := 7) (v := w0) g ad7 (by decide) ft5_1 (ew0) ?_
    refine ev_ifge f70_15 (fun c18900 => ?_) (fun c18900 => absurd c18900 (by omega))
    refine ev_ret rfl (by decide) (by decide) ?_
    show jEv _ _ _ _ _ _ _ (_, [(2, 7), (2, 1), (0, 9), (0, a3), (9, 0)], [], _, _, _)
    refine ev_iconst ?_
    exact ev_ret rfl (by decide) (by decide) ⟨_, _, rfl, by omega, by omega, g, k0, (ew0), by omega, by omega⟩
  · refine ev_iload_n rfl ?_
    refine ev_bipush ?_
    refine ev_icmple f74_19 (fun c18901 => ?_) (fun c18901 => absurd c18901 (by omega))
    refine ev_aload_n rfl ?_
    refine ev_in (d := 9) (a := 0) (b := 0) (cd' := c68_0) (m := 1) (L0 := [(2, 7)]) (jcall_v (A := []) (S' := []) (r := 7) rfl (g.lt ad7) (g.tg ad7) (Nat.le_of_ble_eq_true rfl)) (by decide) ml68 pp68 (Nat.le_of_ble_eq_true rfl) rfl (by decide) (by decide) ?_
    refine ev_aload_n rfl ?_
    obtain ⟨v18902, ev18902, lv18902, uv18902⟩ := g.rd ad7 (show 2 < 15 by decide) rf7_2
    refine g_getv (r := 7) (v := v18902) g ad7 (by decide) ft5_2 ev18902 ?_
    refine ev_aload_n rfl ?_
    obtain ⟨v18903, ev18903, lv18903, uv18903⟩ := g.rd ad7 (show 0 < 15 by decide) rf7_0
    refine g_getv (r := 7) (v := v18903) g ad7 (by decide) ft5_0 ev18903 ?_
    refine ev_icmpge f68_27 (fun c18904 => ?_) (fun c18904 => ?_)
    · refine ev_iconst ?_
      refine ev_ret rfl (by decide) (by decide) ?_
      show jEv _ _ _ _ _ _ _ (_, [(2, 7), (2, 1), (0, 9), (0, a3), (9, 0)], [(0, (-1))], _, _, _)
      refine ev_istore (L' := [(2, 7), (2, 1), (0, 9), (0, a3), (0, (-1))]) (Nat.le_of_ble_eq_true rfl) rfl ?_
      refine ev_iload rfl ?_
      refine ev_bipush ?_
      refine ev_icmpne f74_40 (fun c18905 => ?_) (fun c18905 => absurd c18905 (by omega))
      refine ev_iload rfl ?_
      refine ev_bipush ?_
      refine ev_icmpne f74_55 (fun c18906 => ?_) (fun c18906 => absurd c18906 (by omega))
      refine ev_iload rfl ?_
      refine ev_bipush ?_
      refine ev_icmplt f74_78 (fun c18907 => ?_) (fun c18907 => absurd c18907 (by omega))
      refine ev_aload_n rfl ?_
      refine ev_call (jcall_v (A := []) (S' := []) (r := 7) rfl (g.lt ad7) (g.tg ad7) (Nat.le_of_ble_eq_true rfl)) (jOk_le (by decide) (s75 g (ew0) (by omega) (by omega))) (by decide) (by decide) (fun w18908 h18908 q18908 => ?_)
      obtain ⟨v18910, v18909, rfl, lv18910, uv18910, g18908, kk18908, ev18909, p18908_0, p18908_1⟩ := q18908
      have bv18909 := g18908.rg ad7 (i := 1) (by decide) rf7_1
      rw [ev18909] at bv18909
      have k18908 := k0.tr kk18908 (by decide)
      show jEv _ _ _ _ _ _ _ (_, [(2, 7), (2, 1), (0, 9), (0, a3), (0, (-1))], [(0, v18910)], _, _, _)
      exact ev_ret rfl (by decide) (by decide) ⟨_, _, rfl, by omega, by omega, g18908, k18908, (ev18909), by omega, by omega⟩
    · refine ev_aload_n rfl ?_
      refine g_getp (r := 7) (c := 8) g ad7 (by decide) (by decide) rf7_5 ft5_5 ?_
      refine ev_aload_n rfl ?_
      refine g_getv (r := 7) (v := v18902) g ad7 (by decide) ft5_2 (ev18902) ?_
      refine g_bald g ad8 rt8 (by omega) (by omega) (fun v18911 ev18911 lv18911 uv18911 => ?_)
      refine ev_sipush ?_
      refine g_iandB (b := 255) (by omega) (by omega) (by decide) (fun v18912 ev18912 lv18912 uv18912 => ?_)
      refine ev_goto f68_28 ?_
      refine ev_ret rfl (by decide) (by decide) ?_
      show jEv _ _ _ _ _ _ _ (_, [(2, 7), (2, 1), (0, 9), (0, a3), (9, 0)], [(0, v18912)], _, _, _)
      refine ev_istore (L' := [(2, 7), (2, 1), (0, 9), (0, a3), (0, v18912)]) (Nat.le_of_ble_eq_true rfl) rfl ?_
      refine ev_iload rfl ?_
      refine ev_bipush ?_
      refine ev_icmpne f74_40 (fun c18913 => ?_) (fun c18913 => ?_)
      · refine ev_iload rfl ?_
        refine ev_bipush ?_
        refine ev_icmpne f74_55 (fun c18914 => ?_) (fun c18914 => ?_)
        · refine ev_iload rfl ?_
          refine ev_bipush ?_
          refine ev_icmplt f74_78 (fun c18915 => ?_) (fun c18915 => ?_)
          · refine ev_aload_n rfl ?_
            refine ev_call (jcall_v (A := []) (S' := []) (r := 7) rfl (g.lt ad7) (g.tg ad7) (Nat.le_of_ble_eq_true rfl)) (jOk_le (by decide) (s75 g (ew0) (by omega) (by omega))) (by decide) (by decide) (fun w18916 h18916 q18916 => ?_)
            obtain ⟨v18918, v18917, rfl, lv18918, uv18918, g18916, kk18916, ev18917, p18916_0, p18916_1⟩ := q18916
            have bv18917 := g18916.rg ad7 (i := 1) (by decide) rf7_1
            rw [ev18917] at bv18917
            have k18916 := k0.tr kk18916 (by decide)
            show jEv _ _ _ _ _ _ _ (_, [(2, 7), (2, 1), (0, 9), (0, a3), (0, v18912)], [(0, v18918)], _, _, _)
            exact ev_ret rfl (by decide) (by decide) ⟨_, _, rfl, by omega, by omega, g18916, k18916, (ev18917), by omega, by omega⟩
          · refine ev_iload rfl ?_
            refine ev_bipush ?_
            refine ev_icmpge f74_78 (fun c18919 => ?_) (fun c18919 => ?_)
            · refine ev_aload_n rfl ?_
              refine ev_call (jcall_v (A := []) (S' := []) (r := 7) rfl (g.lt ad7) (g.tg ad7) (Nat.le_of_ble_eq_true rfl)) (jOk_le (by decide) (s75 g (ew0) (by omega) (by omega))) (by decide) (by decide) (fun w18920 h18920 q18920 => ?_)
              obtain ⟨v18922, v18921, rfl, lv18922, uv18922, g18920, kk18920, ev18921, p18920_0, p18920_1⟩ := q18920
              have bv18921 := g18920.rg ad7 (i := 1) (by decide) rf7_1
              rw [ev18921] at bv18921
              have k18920 := k0.tr kk18920 (by decide)
              show jEv _ _ _ _ _ _ _ (_, [(2, 7), (2, 1), (0, 9), (0, a3), (0, v18912)], [(0, v18922)], _, _, _)
              exact ev_ret rfl (by decide) (by decide) ⟨_, _, rfl, by omega, by omega, g18920, k18920, (ev18921), by omega, by omega⟩
            · refine ev_aload_n rfl ?_
              refine ev_iload_n rfl ?_
              refine ev_iload_n rfl ?_
              refine ev_call (jcall_v (A := [(0, a3), (0, 9)]) (S' := []) (r := 7) rfl (g.lt ad7) (g.tg ad7) (Nat.le_of_ble_eq_true rfl)) (jOk_le (by decide) (s77 g (by omega) (by omega) (by omega) (by omega) (ew0) (by omega) (by omega))) (by decide) (by decide) (fun w18923 h18923 q18923 => ?_)
              obtain ⟨v18925, v18924, rfl, lv18925, uv18925, g18923, kk18923, ev18924, p18923_0, p18923_1⟩ := q18923
              have bv18924 := g18923.rg ad7 (i := 1) (by decide) rf7_1
              rw [ev18924] at bv18924
              have k18923 := k0.tr kk18923 (by decide)
              show jEv _ _ _ _ _ _ _ (_, [(2, 7), (2, 1), (0, 9), (0, a3), (0, v18912)], [(0, v18925)], _, _, _)
              refine ev_goto f74_82 ?_
              exact ev_ret rfl (by decide) (by decide) ⟨_, _, rfl, by omega, by omega, g18923, k18923, (ev18924), by omega, by omega⟩
        · refine ev_aload_n rfl ?_
          refine ev_aload_n rfl ?_
          refine ev_iload_n rfl ?_
          refine ev_iload_n rfl ?_
          refine ev_call (jcall_v (A := [(0, a3), (0, 9), (2, 1)]) (S' := []) (r := 7) rfl (g.lt ad7) (g.tg ad7) (Nat.le_of_ble_eq_true rfl)) (jOk_le (by decide) (s79_9 g (by omega) (by omega) (ew0) (by omega) (by omega) (ev18902) (by omega) (by omega))) (by decide) (by decide) (fun w18926 h18926 q18926 => ?_)
          obtain ⟨v18928, v18927, rfl, lv18928, uv18928, g18926, kk18926, ev18927, p18926_0, p18926_1⟩ := q18926
          have bv18927 := g18926.rg ad7 (i := 1) (by decide) rf7_1
          rw [ev18927] at bv18927
          have k18926 := k0.tr kk18926 (by decide)
          show jEv _ _ _ _ _ _ _ (_, [(2, 7), (2, 1), (0, 9), (0, a3), (0, v18912)], [(0, v18928)], _, _, _)
          exact ev_ret rfl (by decide) (by decide) ⟨_, _, rfl, by omega, by omega, g18926, k18926, (ev18927), by omega, by omega⟩
      · refine ev_aload_n rfl ?_
        refine ev_aload_n rfl ?_
        refine ev_iload_n rfl ?_
        refine ev_iload_n rfl ?_
        refine ev_call (jcall_v (A := [(0, a3), (0, 9), (2, 1)]) (S' := []) (r := 7) rfl (g.lt ad7) (g.tg ad7) (Nat.le_of_ble_eq_true rfl)) (jOk_le (by decide) (s78_9 g (by omega) (by omega) (ew0) (by omega) (by omega) (ev18902) (by omega) (by omega))) (by decide) (by decide) (fun w18929 h18929 q18929 => ?_)
        obtain ⟨v18931, v18930, rfl, lv18931, uv18931, g18929, kk18929, ev18930, p18929_0, p18929_1⟩ := q18929
        have bv18930 := g18929.rg ad7 (i := 1) (by decide) rf7_1
        rw [ev18930] at bv18930
        have k18929 := k0.tr kk18929 (by decide)
        show jEv _ _ _ _ _ _ _ (_, [(2, 7), (2, 1), (0, 9), (0, a3), (0, v18912)], [(0, v18931)], _, _, _)
        exact ev_ret rfl (by decide) (by decide) ⟨_, _, rfl, by omega, by omega, g18929, k18929, (ev18930), by omega, by omega⟩
/-! s78_8  -/
set_option maxHeartbeats 4000000 in
theorem s78_8_l {G : GH} {h : JH} {a3 : Int} (la3 : (-2147483648) ≤ a3) (ua3 : a3 ≤ 2147483647) {w0 : Int} (ew0 : h.2.2 7 1 = w0) (lw0 : (-1) ≤ w0) (uw0 : w0 ≤ 200) {w1 : Int} (ew1 : h.2.2 7 2 = w1) (lw1 : 0 ≤ w1) (uw1 : w1 ≤ 199) : ∀ N : Nat, (∀ (h1 : JH) (x4 x5 y0 : Int) (j6 : AV), Gd G h1 → Kp [(7, 2), (7, 3), (7, 4), (10, 0), (11, 0), (12, 0), (13, 0), (14, 0), (15, 0), (16, 0), (17, 0)] h h1 → (-2147483648) ≤ a3 → a3 ≤ 2147483647 → (-1) ≤ x4 → x4 ≤ 199 → 0 ≤ x5 → x5 ≤ 3 → (w0 + (-y0)) ≤ 0 → ((-x4) + (-y0)) ≤ 1 → h1.2.2 7 1 = y0 → (-1) ≤ y0 → y0 ≤ 200 → ((-x5) + 3) < N → jEv (jOk 11) none (fun _ => 0) c78_0 0 0 (fun v h' => ∃ r F : Int, v = some (0, r) ∧ (-1) ≤ r ∧ r ≤ 199 ∧ Gd G h' ∧ Kp [(7, 2), (7, 3), (7, 4), (10, 0), (11, 0), (12, 0), (13, 0), (14, 0), (15, 0), (16, 0), (17, 0)] h h' ∧ h'.2.2 7 1 = F ∧ ((-F) + w0) ≤ 0 ∧ ((-F) + (-r)) ≤ 1) (c78_25, [(2, 7), (2, 1), (0, 8), (0, a3), (0, x4), (0, x5), j6], [], h1, 0, 0)) := by
  intro N
  induction N with
  | zero => exact fun h1 x4 x5 y0 j6 g1 k1 b0 b1 b2 b3 b4 b5 b6 b7 b8 b9 b10 hm => absurd hm (by omega)
  | succ N ih =>
    show _
    intro h1 x4 x5 y0 j6 g1 k1 b0 b1 b2 b3 b4 b5 b6 b7 ey0 ly0 uy0 hm
    refine ev_iload rfl ?_
    refine ev_iconst ?_
    refine ev_icmpge f78_100 (fun c19100 => absurd c19100 (by omega)) (fun c19100 => ?_)
    refine ev_aload_n rfl ?_
    refine g_getv (r := 7) (v := y0) g1 ad7 (by decide) ft5_1 (ey0) ?_
    refine ev_ifge f78_100 (fun c19101 => ?_) (fun c19101 => ?_)
    · refine ev_aload_n rfl ?_
      refine ev_bipush ?_
      refine ev_call (jcall_v (A := [(0, 41)]) (S' := []) (r := 7) rfl (g1.lt ad7) (g1.tg ad7) (Nat.le_of_ble_eq_true rfl)) (jOk_le (by decide) (s71 g1 (by omega) (by omega) (ey0) (by omega) (by omega))) (by decide) (by decide) (fun w19102 h19102 q19102 => ?_)
      obtain ⟨v19103, rfl, g19102, kk19102, ev19103, p19102_0⟩ := q19102
      have bv19103 := g19102.rg ad7 (i := 1) (by decide) rf7_1
      rw [ev19103] at bv19103
      have k19102 := k1.tr kk19102 (by decide)
      show jEv _ _ _ _ _ _ _ (_, [(2, 7), (2, 1), (0, 8), (0, a3), (0, x4), (0, x5), j6], [], _, _, _)
      refine ev_aload_n rfl ?_
      refine g_getv (r := 7) (v := v19103) g19102 ad7 (by decide) ft5_1 (ev19103) ?_
      refine ev_iflt f78_117 (fun c19104 => absurd c19104 (by omega)) (fun c19104 => ?_)
      refine ev_iconst ?_
      refine ev_goto f78_119 ?_
      exact ev_ret rfl (by decide) (by decide) ⟨_, _, rfl, by omega, by omega, g19102, k19102, (ev19103), by omega, by omega⟩
    · refine ev_aload_n rfl ?_
      refine ev_iconst ?_
      refine ev_call (jcall_v (A := [(0, 2)]) (S' := []) (r := 7) rfl (g1.lt ad7) (g1.tg ad7) (Nat.le_of_ble_eq_true rfl)) (jOk_le (by decide) (s76 g1 (by omega) (by omega) (ey0) (by omega) (by omega))) (by decide) (by decide) (fun w19105 h19105 q19105 => ?_)
      obtain ⟨v19107, v19106, rfl, lv19107, uv19107, g19105, kk19105, ev19106, p19105_0⟩ := q19105
      have bv19106 := g19105.rg ad7 (i := 1) (by decide) rf7_1
      rw [ev19106] at bv19106
      have k19105 := k1.tr kk19105 (by decide)
      show jEv _ _ _ _ _ _ _ (_, [(2, 7), (2, 1), (0, 8), (0, a3), (0, x4), (0, x5), j6], [(0, v19107)], _, _, _)
      refine ev_istore (L' := [(2, 7), (2, 1), (0, 8), (0, a3), (0, x4), (0, x5), (0, v19107)]) (Nat.le_of_ble_eq_true rfl) rfl ?_
      refine ev_aload_n rfl ?_
      refine ev_bipush ?_
      refine ev_call (jcall_v (A := [(0, 58)]) (S' := []) (r := 7) rfl (g19105.lt ad7) (g19105.tg ad7) (Nat.le_of_ble_eq_true rfl)) (jOk_le (by decide) (s71 g19105 (by omega) (by omega) (ev19106) (by omega) (by omega))) (by decide) (by decide) (fun w19108 h19108 q19108 => ?_)
      obtain ⟨v19109, rfl, g19108, kk19108, ev19109, p19108_0⟩ := q19108
      have bv19109 := g19108.rg ad7 (i := 1) (by decide) rf7_1
      rw [ev19109] at bv19109
      have k19108 := k19105.tr kk19108 (by decide)
      show jEv _ _ _ _ _ _ _ (_, [(2, 7), (2, 1), (0, 8), (0, a3), (0, x4), (0, x5), (0, v19107)], [], _, _, _)
      refine ev_aload_n rfl ?_
      refine ev_iload rfl ?_
      refine ev_iload rfl ?_
      refine ev_iload rfl ?_
      refine ev_aload_n rfl ?_
      refine ev_aload_n rfl ?_
      refine ev_iload_n rfl ?_
      refine ev_iconst ?_
      refine ev_iadd (r := 9) (by decide) ?_
      refine ev_iload_n rfl ?_
      refine ev_call (jcall_v (A := [(0, a3), (0, 9), (2, 1)]) (S' := [(0, v19107), (0, x5), (0, x4), (2, 7)]) (r := 7) rfl (g19108.lt ad7) (g19108.tg ad7) (Nat.le_of_ble_eq_true rfl)) (jOk_le (by decide) (s74_9 g19108 (by omega) (by omega) (ev19109) (by omega) (by omega))) (by decide) (by decide) (fun w19110 h19110 q19110 => ?_)
      obtain ⟨v19112, v19111, rfl, lv19112, uv19112, g19110, kk19110, ev19111, p19110_0, p19110_1⟩ := q19110
      have bv19111 := g19110.rg ad7 (i := 1) (by decide) rf7_1
      rw [ev19111] at bv19111
      have k19110 := k19108.tr kk19110 (by decide)
      show jEv _ _ _ _ _ _ _ (_, [(2, 7), (2, 1), (0, 8), (0, a3), (0, x4), (0, x5), (0, v19107)], [(0, v19112), (0, v19107), (0, x5), (0, x4), (2, 7)], _, _, _)
      refine ev_call (jcall_v (A := [(0, v19112), (0, v19107), (0, x5), (0, x4)]) (S' := []) (r := 7) rfl (g19110.lt ad7) (g19110.tg ad7) (Nat.le_of_ble_eq_true rfl)) (jOk_le (by decide) (s80 g19110 (by omega) (by omega) (by omega) (by omega) (by omega) (by omega) (by omega) (by omega))) (by decide) (by decide) (fun w19113 h19113 q19113 => ?_)
      obtain ⟨rfl, g19113, kk19113⟩ := q19113
      have k19113 := k19110.tr kk19113 (by decide)
      show jEv _ _ _ _ _ _ _ (_, [(2, 7), (2, 1), (0, 8), (0, a3), (0, x4), (0, x5), (0, v19107)], [], _, _, _)
      refine ev_aload_n rfl ?_
      refine ev_in (d := 10) (a := 0) (b := 0) (cd' := c68_0) (m := 1) (L0 := [(2, 7)]) (jcall_v (A := []) (S' := []) (r := 7) rfl (g19113.lt ad7) (g19113.tg ad7) (Nat.le_of_ble_eq_true rfl)) (by decide) ml68 pp68 (Nat.le_of_ble_eq_true rfl) rfl (by decide) (by decide) ?_
      refine ev_aload_n rfl ?_
      obtain ⟨v19114, ev19114, lv19114, uv19114⟩ := g19113.rd ad7 (show 2 < 15 by decide) rf7_2
      refine g_getv (r := 7) (v := v19114) g19113 ad7 (by decide) ft5_2 ev19114 ?_
      refine ev_aload_n rfl ?_
      obtain ⟨v19115, ev19115, lv19115, uv19115⟩ := g19113.rd ad7 (show 0 < 15 by decide) rf7_0
      refine g_getv (r := 7) (v := v19115) g19113 ad7 (by decide) ft5_0 ev19115 ?_
      refine ev_icmpge f68_27 (fun c19116 => ?_) (fun c19116 => ?_)
      · refine ev_iconst ?_
        refine ev_ret rfl (by decide) (by decide) ?_
        show jEv _ _ _ _ _ _ _ (_, [(2, 7), (2, 1), (0, 8), (0, a3), (0, x4), (0, x5), (0, v19107)], [(0, (-1))], _, _, _)
        refine ev_bipush ?_
        refine ev_icmpne f78_100 (fun c19117 => ?_) (fun c19117 => absurd c19117 (by omega))
        refine ev_aload_n rfl ?_
        refine ev_bipush ?_
        refine ev_call (jcall_v (A := [(0, 41)]) (S' := []) (r := 7) rfl (g19113.lt ad7) (g19113.tg ad7) (Nat.le_of_ble_eq_true rfl)) (jOk_le (by decide) (s71 g19113 (by omega) (by omega) (((kk19113.v (by decide)).trans ev19111)) (by omega) (by omega))) (by decide) (by decide) (fun w19118 h19118 q19118 => ?_)
        obtain ⟨v19119, rfl, g19118, kk19118, ev19119, p19118_0⟩ := q19118
        have bv19119 := g19118.rg ad7 (i := 1) (by decide) rf7_1
        rw [ev19119] at bv19119
        have k19118 := k19113.tr kk19118 (by decide)
        show jEv _ _ _ _ _ _ _ (_, [(2, 7), (2, 1), (0, 8), (0, a3), (0, x4), (0, x5), (0, v19107)], [], _, _, _)
        refine ev_aload_n rfl ?_
        refine g_getv (r := 7) (v := v19119) g19118 ad7 (by decide) ft5_1 (ev19119) ?_
        refine ev_iflt f78_117 (fun c19120 => ?_) (fun c19120 => ?_)
        · refine ev_iload rfl ?_
          exact ev_ret rfl (by decide) (by decide) ⟨_, _, rfl, by omega, by omega, g19118, k19118, (ev19119), by omega, by omega⟩
        · refine ev_iconst ?_
          refine ev_goto f78_119 ?_
          exact ev_ret rfl (by decide) (by decide) ⟨_, _, rfl, by omega, by omega, g19118, k19118, (ev19119), by omega, by omega⟩
      · refine ev_aload_n rfl ?_
        refine g_getp (r := 7) (c := 8) g19113 ad7 (by decide) (by decide) rf7_5 ft5_5 ?_
        refine ev_aload_n rfl ?_
        refine g_getv (r := 7) (v := v19114) g19113 ad7 (by decide) ft5_2 (ev19114) ?_
        refine g_bald g19113 ad8 rt8 (by omega) (by omega) (fun v19121 ev19121 lv19121 uv19121 => ?_)
        refine ev_sipush ?_
        refine g_iandB (b := 255) (by omega) (by omega) (by decide) (fun v19122 ev19122 lv19122 uv19122 => ?_)
        refine ev_goto f68_28 ?_
        refine ev_ret rfl (by decide) (by decide) ?_
        show jEv _ _ _ _ _ _ _ (_, [(2, 7), (2, 1), (0, 8), (0, a3), (0, x4), (0, x5), (0, v19107)], [(0, v19122)], _, _, _)
        refine ev_bipush ?_
        refine ev_icmpne f78_100 (fun c19123 => ?_) (fun c19123 => ?_)
        · refine ev_aload_n rfl ?_
          refine ev_bipush ?_
          refine ev_call (jcall_v (A := [(0, 41)]) (S' := []) (r := 7) rfl (g19113.lt ad7) (g19113.tg ad7) (Nat.le_of_ble_eq_true rfl)) (jOk_le (by decide) (s71 g19113 (by omega) (by omega) (((kk19113.v (by decide)).trans ev19111)) (by omega) (by omega))) (by decide) (by decide) (fun w19124 h19124 q19124 => ?_)
          obtain ⟨v19125, rfl, g19124, kk19124, ev19125, p19124_0⟩ := q19124
          have bv19125 := g19124.rg ad7 (i := 1) (by decide) rf7_1
          rw [ev19125] at bv19125
          have k19124 := k19113.tr kk19124 (by decide)
          show jEv _ _ _ _ _ _ _ (_, [(2, 7), (2, 1), (0, 8), (0, a3), (0, x4), (0, x5), (0, v19107)], [], _, _, _)
          refine ev_aload_n rfl ?_
          refine g_getv (r := 7) (v := v19125) g19124 ad7 (by decide) ft5_1 (ev19125) ?_
          refine ev_iflt f78_117 (fun c19126 => ?_) (fun c19126 => ?_)
          · refine ev_iload rfl ?_
            exact ev_ret rfl (by decide) (by decide) ⟨_, _, rfl, by omega, by omega, g19124, k19124, (ev19125), by omega, by omega⟩
          · refine ev_iconst ?_
            refine ev_goto f78_119 ?_
            exact ev_ret rfl (by decide) (by decide) ⟨_, _, rfl, by omega, by omega, g19124, k19124, (ev19125), by omega, by omega⟩
        · refine ev_iload rfl ?_
          refine ev_iconst ?_
          refine ev_icmpne f78_88 (fun c19127 => ?_) (fun c19127 => ?_)
          · refine ev_aload_n rfl ?_
            refine ev_bipush ?_
            refine ev_call (jcall_v (A := [(0, 44)]) (S' := []) (r := 7) rfl (g19113.lt ad7) (g19113.tg ad7) (Nat.le_of_ble_eq_true rfl)) (jOk_le (by decide) (s71 g19113 (by omega) (by omega) (((kk19113.v (by decide)).trans ev19111)) (by omega) (by omega))) (by decide) (by decide) (fun w19128 h19128 q19128 => ?_)
            obtain ⟨v19129, rfl, g19128, kk19128, ev19129, p19128_0⟩ := q19128
            have bv19129 := g19128.rg ad7 (i := 1) (by decide) rf7_1
            rw [ev19129] at bv19129
            have k19128 := k19113.tr kk19128 (by decide)
            show jEv _ _ _ _ _ _ _ (_, [(2, 7), (2, 1), (0, 8), (0, a3), (0, x4), (0, x5), (0, v19107)], [], _, _, _)
            refine ev_iinc (w := (x5 + 1)) (L' := [(2, 7), (2, 1), (0, 8), (0, a3), (0, x4), (0, (x5 + 1)), (0, v19107)]) rfl (by unfold w32; omega) rfl ?_
            refine ev_goto f78_25 ?_
            exact ih _ _ _ _ _ g19128 k19128 (by omega) (by omega) (by omega) (by omega) (by omega) (by omega) (by omega) (by omega) (ev19129) (by omega) (by omega) (by omega)
          · refine ev_goto f78_100 ?_
            refine ev_aload_n rfl ?_
            refine ev_bipush ?_
            refine ev_call (jcall_v (A := [(0, 41)]) (S' := []) (r := 7) rfl (g19113.lt ad7) (g19113.tg ad7) (Nat.le_of_ble_eq_true rfl)) (jOk_le (by decide) (s71 g19113 (by omega) (by omega) (((kk19113.v (by decide)).trans ev19111)) (by omega) (by omega))) (by decide) (by decide) (fun w19130 h19130 q19130 => ?_)
            obtain ⟨v19131, rfl, g19130, kk19130, ev19131, p19130_0⟩ := q19130
            have bv19131 := g19130.rg ad7 (i := 1) (by decide) rf7_1
            rw [ev19131] at bv19131
            have k19130 := k19113.tr kk19130 (by decide)
            show jEv _ _ _ _ _ _ _ (_, [(2, 7), (2, 1), (0, 8), (0, a3), (0, x4), (0, x5), (0, v19107)], [], _, _, _)
            refine ev_aload_n rfl ?_
            refine g_getv (r := 7) (v := v19131) g19130 ad7 (by decide) ft5_1 (ev19131) ?_
            refine ev_iflt f78_117 (fun c19132 => ?_) (fun c19132 => ?_)
            · refine ev_iload rfl ?_
              exact ev_ret rfl (by decide) (by decide) ⟨_, _, rfl, by omega, by omega, g19130, k19130, (ev19131), by omega, by omega⟩
            · refine ev_iconst ?_
              refine ev_goto f78_119 ?_
              exact ev_ret rfl (by decide) (by decide) ⟨_, _, rfl, by omega, by omega, g19130, k19130, (ev19131), by omega, by omega⟩
set_option maxHeartbeats 4000000 in
theorem s78_8 {G : GH} {h : JH} (g : Gd G h) {a3 : Int} (la3 : (-2147483648) ≤ a3) (ua3 : a3 ≤ 2147483647) {w0 : Int} (ew0 : h.2.2 7 1 = w0) (lw0 : (-1) ≤ w0) (uw0 : w0 ≤ 200) {w1 : Int} (ew1 : h.2.2 7 2 = w1) (lw1 : 0 ≤ w1) (uw1 : w1 ≤ 199) : jOk 12 0 0 78 [(2, 7), (2, 1), (0, 8), (0, a3)] h (fun v h' => ∃ r F : Int, v = some (0, r) ∧ (-1) ≤ r ∧ r ≤ 199 ∧ Gd G h' ∧ Kp [(7, 2), (7, 3), (7, 4), (10, 0), (11, 0), (12, 0), (13, 0), (14, 0), (15, 0), (16, 0), (17, 0)] h h' ∧ h'.2.2 7 1 = F ∧ ((-F) + w0) ≤ 0 ∧ ((-F) + (-r)) ≤ 1) := by
  refine ⟨by decide, by rw [ml78]; exact Nat.le_of_ble_eq_true rfl, ?_⟩
  rw [ml78, pp78]
  show jEv _ none _ c78_0 0 0 _ (c78_0, [(2, 7), (2, 1), (0, 8), (0, a3), (9, 0), (9, 0), (9, 0)], [], h, 0, 0)
  have k0 := Kp.rf [(7, 2), (7, 3), (7, 4), (10, 0), (11, 0), (12, 0), (13, 0), (14, 0), (15, 0), (16, 0), (17, 0)] h
  refine ev_aload_n rfl ?_
  refine ev_dup (by decide) ?_
  refine g_getv (r := 7) (v := w1) g ad7 (by decide) ft5_2 (ew1) ?_
  refine ev_iconst ?_
  refine ev_iadd (r := (w1 + 1)) (by unfold w32; omega) ?_
  refine g_putf (r := 7) g ad7 (by decide) ft5_2 (by decide) (fun e => absurd e nz5_2) rf7_2 (by decide) (by omega) (by omega) (fun h19133 e19133 g19133 => ?_)
  have k19133 := k0.wr e19133 rfl
  refine ev_aload_n rfl ?_
  refine ev_iload_n rfl ?_
  refine ev_call (jcall_v (A := [(0, 8)]) (S' := []) (r := 7) rfl (g19133.lt ad7) (g19133.tg ad7) (Nat.le_of_ble_eq_true rfl)) (jOk_le (by decide) (s72 g19133 (by omega) (by omega) (((jw_ne e19133 (Or.inr (by decide))).trans ew0)) (by omega) (by omega))) (by decide) (by decide) (fun w19134 h19134 q19134 => ?_)
  obtain ⟨v19135, rfl, g19134, kk19134, ev19135, p19134_0⟩ := q19134
  have bv19135 := g19134.rg ad7 (i := 1) (by decide) rf7_1
  rw [ev19135] at bv19135
  have k19134 := k19133.tr kk19134 (by decide)
  show jEv _ _ _ _ _ _ _ (_, [(2, 7), (2, 1), (0, 8), (0, a3), (9, 0), (9, 0), (9, 0)], [], _, _, _)
  refine ev_aload_n rfl ?_
  refine ev_iconst ?_
  refine ev_call (jcall_v (A := [(0, 1)]) (S' := []) (r := 7) rfl (g19134.lt ad7) (g19134.tg ad7) (Nat.le_of_ble_eq_true rfl)) (jOk_le (by decide) (s73 g19134 (by omega) (by omega) (ev19135) (by omega) (by omega))) (by decide) (by decide) (fun w19136 h19136 q19136 => ?_)
  obtain ⟨v19138, v19137, rfl, lv19138, uv19138, g19136, kk19136, ev19137, p19136_0, p19136_1⟩ := q19136
  have bv19137 := g19136.rg ad7 (i := 1) (by decide) rf7_1
  rw [ev19137] at bv19137
  have k19136 := k19134.tr kk19136 (by decide)
  show jEv _ _ _ _ _ _ _ (_, [(2, 7), (2, 1), (0, 8), (0, a3), (9, 0), (9, 0), (9, 0)], [(0, v19138)], _, _, _)
  refine ev_istore (L' := [(2, 7), (2, 1), (0, 8), (0, a3), (0, v19138), (9, 0), (9, 0)]) (Nat.le_of_ble_eq_true rfl) rfl ?_
  refine ev_iconst ?_
  refine ev_istore (L' := [(2, 7), (2, 1), (0, 8), (0, a3), (0, v19138), (0, 0), (9, 0)]) (Nat.le_of_ble_eq_true rfl) rfl ?_
  exact (s78_8_l la3 ua3 ew0 lw0 uw0 ew1 lw1 uw1 8) _ _ _ _ _ g19136 k19136 (by omega) (by omega) (by omega) (by omega) (by omega) (by omega) (by omega) (by omega) (ev19137) (by omega) (by omega) (by omega)
/-! s79_8  -/
set_option maxHeartbeats 4000000 in
theorem s79_8_l {G : GH} {h : JH} {a3 : Int} (la3 : (-2147483648) ≤ a3) (ua3 : a3 ≤ 2147483647) {w0 : Int} (ew0 : h.2.2 7 1 = w0) (lw0 : (-1) ≤ w0) (uw0 : w0 ≤ 200) {w1 : Int} (ew1 : h.2.2 7 2 = w1) (lw1 : 0 ≤ w1) (uw1 : w1 ≤ 199) : ∀ N : Nat, (∀ (h1 : JH) (x4 x5 x6 y0 : Int), Gd G h1 → Kp [(7, 2), (7, 3), (7, 4), (10, 0), (11, 0), (12, 0), (13, 0), (14, 0), (15, 0), (16, 0), (17, 0)] h h1 → (-2147483648) ≤ a3 → a3 ≤ 2147483647 → 0 ≤ x4 → x4 ≤ 3 → (-1) ≤ x5 → x5 ≤ 199 → 0 ≤ x6 → x6 ≤ 3 → (w0 + (-y0)) ≤ 0 → ((-x5) + (-y0)) ≤ 1 → h1.2.2 7 1 = y0 → (-1) ≤ y0 → y0 ≤ 200 → ((-x6) + 3) < N → jEv (jOk 11) none (fun _ => 0) c79_0 0 0 (fun v h' => ∃ r F : Int, v = some (0, r) ∧ (-1) ≤ r ∧ r ≤ 199 ∧ Gd G h' ∧ Kp [(7, 2), (7, 3), (7, 4), (10, 0), (11, 0), (12, 0), (13, 0), (14, 0), (15, 0), (16, 0), (17, 0)] h h' ∧ h'.2.2 7 1 = F ∧ ((-F) + w0) ≤ 0 ∧ ((-F) + (-r)) ≤ 1) (c79_68, [(2, 7), (2, 1), (0, 8), (0, a3), (0, x4), (0, x5), (0, x6)], [], h1, 0, 0)) := by
  intro N
  induction N with
  | zero => exact fun h1 x4 x5 x6 y0 g1 k1 b0 b1 b2 b3 b4 b5 b6 b7 b8 b9 b10 b11 b12 hm => absurd hm (by omega)
  | succ N ih =>
    show _
    intro h1 x4 x5 x6 y0 g1 k1 b0 b1 b2 b3 b4 b5 b6 b7 b8 b9 ey0 ly0 uy0 hm
    refine ev_iload rfl ?_
    refine ev_aload_n rfl ?_
    refine ev_iload rfl ?_
    refine ev_in (d := 10) (a := 0) (b := 0) (cd' := c141_0) (m := 2) (L0 := [(2, 1), (0, x4)]) (jcall_v (A := [(0, x4)]) (S' := [(0, x6)]) (r := 1) rfl (g1.lt ad1) (g1.tg ad1) (Nat.le_of_ble_eq_true rfl)) (by decide) ml141 pp141 (Nat.le_of_ble_eq_true rfl) rfl (by decide) (by decide) ?_
    refine ev_aload_n rfl ?_
    refine ev_iload_n rfl ?_
    refine ev_in (d := 9) (a := 0) (b := 0) (cd' := c140_0) (m := 2) (L0 := [(2, 1), (0, x4)]) (jcall_v (A := [(0, x4)]) (S' := []) (r := 1) rfl (g1.lt ad1) (g1.tg ad1) (Nat.le_of_ble_eq_true rfl)) (by decide) ml140 pp140 (Nat.le_of_ble_eq_true rfl) rfl (by decide) (by decide) ?_
    refine ev_iload_n rfl ?_
    refine ev_iflt f140_16 (fun c19398 => absurd c19398 (by omega)) (fun c19398 => ?_)
    refine ev_iload_n rfl ?_
    refine ev_aload_n rfl ?_
    obtain ⟨v19399, ev19399, lv19399, uv19399⟩ := g1.rd ad1 (show 0 < 8 by decide) rf1_0
    refine g_getv (r := 1) (v := v19399) g1 ad1 (by decide) ft10_0 ev19399 ?_
    refine ev_icmpge f140_16 (fun c19400 => ?_) (fun c19400 => ?_)
    · refine ev_iconst ?_
      refine ev_ret rfl (by decide) (by decide) ?_
      show jEv _ _ _ _ _ _ _ (_, [(2, 1), (0, x4)], [(0, 0)], _, _, _)
      refine ev_ifeq f141_17 (fun c19401 => ?_) (fun c19401 => absurd c19401 (by omega))
      refine ev_iconst ?_
      refine ev_ret rfl (by decide) (by decide) ?_
      show jEv _ _ _ _ _ _ _ (_, [(2, 7), (2, 1), (0, 8), (0, a3), (0, x4), (0, x5), (0, x6)], [(0, 0), (0, x6)], _, _, _)
      refine ev_icmpge f79_126 (fun c19402 => ?_) (fun c19402 => absurd c19402 (by omega))
      refine ev_aload_n rfl ?_
      refine ev_bipush ?_
      refine ev_call (jcall_v (A := [(0, 41)]) (S' := []) (r := 7) rfl (g1.lt ad7) (g1.tg ad7) (Nat.le_of_ble_eq_true rfl)) (jOk_le (by decide) (s71 g1 (by omega) (by omega) (ey0) (by omega) (by omega))) (by decide) (by decide) (fun w19403 h19403 q19403 => ?_)
      obtain ⟨v19404, rfl, g19403, kk19403, ev19404, p19403_0⟩ := q19403
      have bv19404 := g19403.rg ad7 (i := 1) (by decide) rf7_1
      rw [ev19404] at bv19404
      have k19403 := k1.tr kk19403 (by decide)
      show jEv _ _ _ _ _ _ _ (_, [(2, 7), (2, 1), (0, 8), (0, a3), (0, x4), (0, x5), (0, x6)], [], _, _, _)
      refine ev_aload_n rfl ?_
      refine g_getv (r := 7) (v := v19404) g19403 ad7 (by decide) ft5_1 (ev19404) ?_
      refine ev_ifge f79_144 (fun c19405 => ?_) (fun c19405 => ?_)
      · refine ev_iconst ?_
        exact ev_ret rfl (by decide) (by decide) ⟨_, _, rfl, by omega, by omega, g19403, k19403, (ev19404), by omega, by omega⟩
      · refine ev_iload rfl ?_
        refine ev_ifge f79_146 (fun c19406 => ?_) (fun c19406 => absurd c19406 (by omega))
        refine ev_aload_n rfl ?_
        refine g_getp (r := 7) (c := 11) g19403 ad7 (by decide) (by decide) rf7_8 ft5_8 ?_
        refine ev_iload rfl ?_
        refine ev_iload rfl ?_
        refine g_iast g19403 ad11 rt11 (fun _ => rfl) (by omega) (by omega) (by omega) (by omega) (fun h19407 e19407 g19407 => ?_)
        have k19407 := k19403.wr e19407 rfl
        refine ev_aload_n rfl ?_
        refine g_getp (r := 7) (c := 15) g19407 ad7 (by decide) (by decide) rf7_12 ft5_12 ?_
        refine ev_iload rfl ?_
        refine ev_dup2 (by decide) (by decide) ?_
        refine g_iald g19407 ad15 rt15 (by omega) (by omega) (fun v19408 ev19408 lv19408 uv19408 => ?_)
        refine ev_iconst ?_
        refine ev_iload rfl ?_
        refine g_ishlB (a' := 1) (a := 1) (b := 3) (hi := 8) (by omega) (by omega) (by omega) (by omega) (by decide) (by decide) (fun v19409 ev19409 lv19409 uv19409 => ?_)
        refine g_iorG (fun v19410 ev19410 lv19410 uv19410 => ?_)
        refine g_iast g19407 ad15 rt15 (fun _ => rfl) (by omega) (by omega) (by omega) (by omega) (fun h19411 e19411 g19411 => ?_)
        have k19411 := k19407.wr e19411 rfl
        refine ev_iload rfl ?_
        exact ev_ret rfl (by decide) (by decide) ⟨_, _, rfl, by omega, by omega, g19411, k19411, (((jw_ne e19411 (Or.inl (by decide))).trans ((jw_ne e19407 (Or.inl (by decide))).trans ev19404))), by omega, by omega⟩
    · refine ev_iconst ?_
      refine ev_goto f140_17 ?_
      refine ev_ret rfl (by decide) (by decide) ?_
      show jEv _ _ _ _ _ _ _ (_, [(2, 1), (0, x4)], [(0, 1)], _, _, _)
      refine ev_ifeq f141_17 (fun c19412 => absurd c19412 (by omega)) (fun c19412 => ?_)
      refine ev_aload_n rfl ?_
      refine g_getp (r := 1) (c := 2) g1 ad1 (by decide) (by decide) rf1_3 ft10_3 ?_
      refine ev_iload_n rfl ?_
      refine g_iald g1 ad2 rt2 (by omega) (by omega) (fun v19413 ev19413 lv19413 uv19413 => ?_)
      have xv19413 := (g1.ex.1.1 (x4 : Int).toNat (by rw [(ev19399)]; omega))
      rw [ev19413] at xv19413
      refine ev_goto f141_18 ?_
      refine ev_ret rfl (by decide) (by decide) ?_
      show jEv _ _ _ _ _ _ _ (_, [(2, 7), (2, 1), (0, 8), (0, a3), (0, x4), (0, x5), (0, x6)], [(0, v19413), (0, x6)], _, _, _)
      refine ev_icmpge f79_126 (fun c19414 => ?_) (fun c19414 => ?_)
      · refine ev_aload_n rfl ?_
        refine ev_bipush ?_
        refine ev_call (jcall_v (A := [(0, 41)]) (S' := []) (r := 7) rfl (g1.lt ad7) (g1.tg ad7) (Nat.le_of_ble_eq_true rfl)) (jOk_le (by decide) (s71 g1 (by omega) (by omega) (ey0) (by omega) (by omega))) (by decide) (by decide) (fun w19415 h19415 q19415 => ?_)
        obtain ⟨v19416, rfl, g19415, kk19415, ev19416, p19415_0⟩ := q19415
        have bv19416 := g19415.rg ad7 (i := 1) (by decide) rf7_1
        rw [ev19416] at bv19416
        have k19415 := k1.tr kk19415 (by decide)
        show jEv _ _ _ _ _ _ _ (_, [(2, 7), (2, 1), (0, 8), (0, a3), (0, x4), (0, x5), (0, x6)], [], _, _, _)
        refine ev_aload_n rfl ?_
        refine g_getv (r := 7) (v := v19416) g19415 ad7 (by decide) ft5_1 (ev19416) ?_
        refine ev_ifge f79_144 (fun c19417 => ?_) (fun c19417 => ?_)
        · refine ev_iconst ?_
          exact ev_ret rfl (by decide) (by decide) ⟨_, _, rfl, by omega, by omega, g19415, k19415, (ev19416), by omega, by omega⟩
        · refine ev_iload rfl ?_
          refine ev_ifge f79_146 (fun c19418 => ?_) (fun c19418 => absurd c19418 (by omega))
          refine ev_aload_n rfl ?_
          refine g_getp (r := 7) (c := 11) g19415 ad7 (by decide) (by decide) rf7_8 ft5_8 ?_
          refine ev_iload rfl ?_
          refine ev_iload rfl ?_
          refine g_iast g19415 ad11 rt11 (fun _ => rfl) (by omega) (by omega) (by omega) (by omega) (fun h19419 e19419 g19419 => ?_)
          have k19419 := k19415.wr e19419 rfl
          refine ev_aload_n rfl ?_
          refine g_getp (r := 7) (c := 15) g19419 ad7 (by decide) (by decide) rf7_12 ft5_12 ?_
          refine ev_iload rfl ?_
          refine ev_dup2 (by decide) (by decide) ?_
          refine g_iald g19419 ad15 rt15 (by omega) (by omega) (fun v19420 ev19420 lv19420 uv19420 => ?_)
          refine ev_iconst ?_
          refine ev_iload rfl ?_
          refine g_ishlB (a' := 1) (a := 1) (b := 3) (hi := 8) (by omega) (by omega) (by omega) (by omega) (by decide) (by decide) (fun v19421 ev19421 lv19421 uv19421 => ?_)
          refine g_iorG (fun v19422 ev19422 lv19422 uv19422 => ?_)
          refine g_iast g19419 ad15 rt15 (fun _ => rfl) (by omega) (by omega) (by omega) (by omega) (fun h19423 e19423 g19423 => ?_)
          have k19423 := k19419.wr e19423 rfl
          refine ev_iload rfl ?_
          exact ev_ret rfl (by decide) (by decide) ⟨_, _, rfl, by omega, by omega, g19423, k19423, (((jw_ne e19423 (Or.inl (by decide))).trans ((jw_ne e19419 (Or.inl (by decide))).trans ev19416))), by omega, by omega⟩
      · refine ev_aload_n rfl ?_
        refine g_getv (r := 7) (v := y0) g1 ad7 (by decide) ft5_1 (ey0) ?_
        refine ev_ifge f79_126 (fun c19424 => ?_) (fun c19424 => ?_)
        · refine ev_aload_n rfl ?_
          refine ev_bipush ?_
          refine ev_call (jcall_v (A := [(0, 41)]) (S' := []) (r := 7) rfl (g1.lt ad7) (g1.tg ad7) (Nat.le_of_ble_eq_true rfl)) (jOk_le (by decide) (s71 g1 (by omega) (by omega) (ey0) (by omega) (by omega))) (by decide) (by decide) (fun w19425 h19425 q19425 => ?_)
          obtain ⟨v19426, rfl, g19425, kk19425, ev19426, p19425_0⟩ := q19425
          have bv19426 := g19425.rg ad7 (i := 1) (by decide) rf7_1
          rw [ev19426] at bv19426
          have k19425 := k1.tr kk19425 (by decide)
          show jEv _ _ _ _ _ _ _ (_, [(2, 7), (2, 1), (0, 8), (0, a3), (0, x4), (0, x5), (0, x6)], [], _, _, _)
          refine ev_aload_n rfl ?_
          refine g_getv (r := 7) (v := v19426) g19425 ad7 (by decide) ft5_1 (ev19426) ?_
          refine ev_ifge f79_144 (fun c19427 => ?_) (fun c19427 => absurd c19427 (by omega))
          refine ev_iconst ?_
          exact ev_ret rfl (by decide) (by decide) ⟨_, _, rfl, by omega, by omega, g19425, k19425, (ev19426), by omega, by omega⟩
        · refine ev_iload rfl ?_
          refine ev_ifle f79_97 (fun c19428 => ?_) (fun c19428 => ?_)
          · refine ev_aload_n rfl ?_
            refine ev_iload rfl ?_
            refine ev_iload rfl ?_
            refine ev_iconst ?_
            refine ev_aload_n rfl ?_
            refine ev_aload_n rfl ?_
            refine ev_iload_n rfl ?_
            refine ev_iconst ?_
            refine ev_iadd (r := 9) (by decide) ?_
            refine ev_iload_n rfl ?_
            refine ev_iconst ?_
            refine ev_iload rfl ?_
            refine g_ishlB (a' := 1) (a := 1) (b := 3) (hi := 8) (by omega) (by omega) (by omega) (by omega) (by decide) (by decide) (fun v19429 ev19429 lv19429 uv19429 => ?_)
            refine g_iorG (fun v19430 ev19430 lv19430 uv19430 => ?_)
            refine ev_call (jcall_v (A := [(0, v19430), (0, 9), (2, 1)]) (S' := [(0, 0), (0, x6), (0, x5), (2, 7)]) (r := 7) rfl (g1.lt ad7) (g1.tg ad7) (Nat.le_of_ble_eq_true rfl)) (jOk_le (by decide) (s74_9 g1 (by omega) (by omega) (ey0) (by omega) (by omega))) (by decide) (by decide) (fun w19431 h19431 q19431 => ?_)
            obtain ⟨v19433, v19432, rfl, lv19433, uv19433, g19431, kk19431, ev19432, p19431_0, p19431_1⟩ := q19431
            have bv19432 := g19431.rg ad7 (i := 1) (by decide) rf7_1
            rw [ev19432] at bv19432
            have k19431 := k1.tr kk19431 (by decide)
            show jEv _ _ _ _ _ _ _ (_, [(2, 7), (2, 1), (0, 8), (0, a3), (0, x4), (0, x5), (0, x6)], [(0, v19433), (0, 0), (0, x6), (0, x5), (2, 7)], _, _, _)
            refine ev_call (jcall_v (A := [(0, v19433), (0, 0), (0, x6), (0, x5)]) (S' := []) (r := 7) rfl (g19431.lt ad7) (g19431.tg ad7) (Nat.le_of_ble_eq_true rfl)) (jOk_le (by decide) (s80 g19431 (by omega) (by omega) (by omega) (by omega) (by omega) (by omega) (by omega) (by omega))) (by decide) (by decide) (fun w19434 h19434 q19434 => ?_)
            obtain ⟨rfl, g19434, kk19434⟩ := q19434
            have k19434 := k19431.tr kk19434 (by decide)
            show jEv _ _ _ _ _ _ _ (_, [(2, 7), (2, 1), (0, 8), (0, a3), (0, x4), (0, x5), (0, x6)], [], _, _, _)
            refine ev_iinc (w := (x6 + 1)) (L' := [(2, 7), (2, 1), (0, 8), (0, a3), (0, x4), (0, x5), (0, (x6 + 1))]) rfl (by unfold w32; omega) rfl ?_
            refine ev_goto f79_68 ?_
            exact ih _ _ _ _ _ g19434 k19434 (by omega) (by omega) (by omega) (by omega) (by omega) (by omega) (by omega) (by omega) (by omega) (by omega) (((kk19434.v (by decide)).trans ev19432)) (by omega) (by omega) (by omega)
          · refine ev_aload_n rfl ?_
            refine ev_bipush ?_
            refine ev_call (jcall_v (A := [(0, 44)]) (S' := []) (r := 7) rfl (g1.lt ad7) (g1.tg ad7) (Nat.le_of_ble_eq_true rfl)) (jOk_le (by decide) (s71 g1 (by omega) (by omega) (ey0) (by omega) (by omega))) (by decide) (by decide) (fun w19435 h19435 q19435 => ?_)
            obtain ⟨v19436, rfl, g19435, kk19435, ev19436, p19435_0⟩ := q19435
            have bv19436 := g19435.rg ad7 (i := 1) (by decide) rf7_1
            rw [ev19436] at bv19436
            have k19435 := k1.tr kk19435 (by decide)
            show jEv _ _ _ _ _ _ _ (_, [(2, 7), (2, 1), (0, 8), (0, a3), (0, x4), (0, x5), (0, x6)], [], _, _, _)
            refine ev_aload_n rfl ?_
            refine ev_iload rfl ?_
            refine ev_iload rfl ?_
            refine ev_iconst ?_
            refine ev_aload_n rfl ?_
            refine ev_aload_n rfl ?_
            refine ev_iload_n rfl ?_
            refine ev_iconst ?_
            refine ev_iadd (r := 9) (by decide) ?_
            refine ev_iload_n rfl ?_
            refine ev_iconst ?_
            refine ev_iload rfl ?_
            refine g_ishlB (a' := 1) (a := 1) (b := 3) (hi := 8) (by omega) (by omega) (by omega) (by omega) (by decide) (by decide) (fun v19437 ev19437 lv19437 uv19437 => ?_)
            refine g_iorG (fun v19438 ev19438 lv19438 uv19438 => ?_)
            refine ev_call (jcall_v (A := [(0, v19438), (0, 9), (2, 1)]) (S' := [(0, 0), (0, x6), (0, x5), (2, 7)]) (r := 7) rfl (g19435.lt ad7) (g19435.tg ad7) (Nat.le_of_ble_eq_true rfl)) (jOk_le (by decide) (s74_9 g19435 (by omega) (by omega) (ev19436) (by omega) (by omega))) (by decide) (by decide) (fun w19439 h19439 q19439 => ?_)
            obtain ⟨v19441, v19440, rfl, lv19441, uv19441, g19439, kk19439, ev19440, p19439_0, p19439_1⟩ := q19439
            have bv19440 := g19439.rg ad7 (i := 1) (by decide) rf7_1
            rw [ev19440] at bv19440
            have k19439 := k19435.tr kk19439 (by decide)
            show jEv _ _ _ _ _ _ _ (_, [(2, 7), (2, 1), (0, 8), (0, a3), (0, x4), (0, x5), (0, x6)], [(0, v19441), (0, 0), (0, x6), (0, x5), (2, 7)], _, _, _)
            refine ev_call (jcall_v (A := [(0, v19441), (0, 0), (0, x6), (0, x5)]) (S' := []) (r := 7) rfl (g19439.lt ad7) (g19439.tg ad7) (Nat.le_of_ble_eq_true rfl)) (jOk_le (by decide) (s80 g19439 (by omega) (by omega) (by omega) (by omega) (by omega) (by omega) (by omega) (by omega))) (by decide) (by decide) (fun w19442 h19442 q19442 => ?_)
            obtain ⟨rfl, g19442, kk19442⟩ := q19442
            have k19442 := k19439.tr kk19442 (by decide)
            show jEv _ _ _ _ _ _ _ (_, [(2, 7), (2, 1), (0, 8), (0, a3), (0, x4), (0, x5), (0, x6)], [], _, _, _)
            refine ev_iinc (w := (x6 + 1)) (L' := [(2, 7), (2, 1), (0, 8), (0, a3), (0, x4), (0, x5), (0, (x6 + 1))]) rfl (by unfold w32; omega) rfl ?_
            refine ev_goto f79_68 ?_
            exact ih _ _ _ _ _ g19442 k19442 (by omega) (by omega) (by omega) (by omega) (by omega) (by omega) (by omega) (by omega) (by omega) (by omega) (((kk19442.v (by decide)).trans ev19440)) (by omega) (by omega) (by omega)
set_option maxHeartbeats 4000000 in
theorem s79_8 {G : GH} {h : JH} (g : Gd G h) {a3 : Int} (la3 : (-2147483648) ≤ a3) (ua3 : a3 ≤ 2147483647) {w0 : Int} (ew0 : h.2.2 7 1 = w0) (lw0 : (-1) ≤ w0) (uw0 : w0 ≤ 200) {w1 : Int} (ew1 : h.2.2 7 2 = w1) (lw1 : 0 ≤ w1) (uw1 : w1 ≤ 199) : jOk 12 0 0 79 [(2, 7), (2, 1), (0, 8), (0, a3)] h (fun v h' => ∃ r F : Int, v = some (0, r) ∧ (-1) ≤ r ∧ r ≤ 199 ∧ Gd G h' ∧ Kp [(7, 2), (7, 3), (7, 4), (10, 0), (11, 0), (12, 0), (13, 0), (14, 0), (15, 0), (16, 0), (17, 0)] h h' ∧ h'.2.2 7 1 = F ∧ ((-F) + w0) ≤ 0 ∧ ((-F) + (-r)) ≤ 1) := by
  refine ⟨by decide, by rw [ml79]; exact Nat.le_of_ble_eq_true rfl, ?_⟩
  rw [ml79, pp79]
  show jEv _ none _ c79_0 0 0 _ (c79_0, [(2, 7), (2, 1), (0, 8), (0, a3), (9, 0), (9, 0), (9, 0)], [], h, 0, 0)
  have k0 := Kp.rf [(7, 2), (7, 3), (7, 4), (10, 0), (11, 0), (12, 0), (13, 0), (14, 0), (15, 0), (16, 0), (17, 0)] h
  refine ev_aload_n rfl ?_
  refine ev_dup (by decide) ?_
  refine g_getv (r := 7) (v := w1) g ad7 (by decide) ft5_2 (ew1) ?_
  refine ev_iconst ?_
  refine ev_iadd (r := (w1 + 1)) (by unfold w32; omega) ?_
  refine g_putf (r := 7) g ad7 (by decide) ft5_2 (by decide) (fun e => absurd e nz5_2) rf7_2 (by decide) (by omega) (by omega) (fun h19443 e19443 g19443 => ?_)
  have k19443 := k0.wr e19443 rfl
  refine ev_aload_n rfl ?_
  refine ev_in (d := 10) (a := 0) (b := 0) (cd' := c68_0) (m := 1) (L0 := [(2, 7)]) (jcall_v (A := []) (S' := []) (r := 7) rfl (g19443.lt ad7) (g19443.tg ad7) (Nat.le_of_ble_eq_true rfl)) (by decide) ml68 pp68 (Nat.le_of_ble_eq_true rfl) rfl (by decide) (by decide) ?_
  refine ev_aload_n rfl ?_
  refine g_getv (r := 7) (v := (w1 + 1)) g19443 ad7 (by decide) ft5_2 ((jw_eq e19443)) ?_
  refine ev_aload_n rfl ?_
  obtain ⟨v19444, ev19444, lv19444, uv19444⟩ := g19443.rd ad7 (show 0 < 15 by decide) rf7_0
  refine g_getv (r := 7) (v := v19444) g19443 ad7 (by decide) ft5_0 ev19444 ?_
  refine ev_icmpge f68_27 (fun c19445 => ?_) (fun c19445 => ?_)
  · refine ev_iconst ?_
    refine ev_ret rfl (by decide) (by decide) ?_
    show jEv _ _ _ _ _ _ _ (_, [(2, 7), (2, 1), (0, 8), (0, a3), (9, 0), (9, 0), (9, 0)], [(0, (-1))], _, _, _)
    refine ev_bipush ?_
    refine ev_isub (r := (-98)) (by decide) ?_
    refine ev_istore (L' := [(2, 7), (2, 1), (0, 8), (0, a3), (0, (-98)), (9, 0), (9, 0)]) (Nat.le_of_ble_eq_true rfl) rfl ?_
    refine ev_aload_n rfl ?_
    refine ev_iload rfl ?_
    refine ev_in (d := 10) (a := 0) (b := 0) (cd' := c140_0) (m := 2) (L0 := [(2, 1), (0, (-98))]) (jcall_v (A := [(0, (-98))]) (S' := []) (r := 1) rfl (g19443.lt ad1) (g19443.tg ad1) (Nat.le_of_ble_eq_true rfl)) (by decide) ml140 pp140 (Nat.le_of_ble_eq_true rfl) rfl (by decide) (by decide) ?_
    refine ev_iload_n rfl ?_
    refine ev_iflt f140_16 (fun c19446 => ?_) (fun c19446 => absurd c19446 (by omega))
    refine ev_iconst ?_
    refine ev_ret rfl (by decide) (by decide) ?_
    show jEv _ _ _ _ _ _ _ (_, [(2, 7), (2, 1), (0, 8), (0, a3), (0, (-98)), (9, 0), (9, 0)], [(0, 0)], _, _, _)
    refine ev_ifeq f79_37 (fun c19447 => ?_) (fun c19447 => absurd c19447 (by omega))
    refine ev_aload_n rfl ?_
    refine ev_in (d := 10) (a := 0) (b := 0) (cd' := c70_0) (m := 1) (L0 := [(2, 7)]) (jcall_v (A := []) (S' := []) (r := 7) rfl (g19443.lt ad7) (g19443.tg ad7) (Nat.le_of_ble_eq_true rfl)) (by decide) ml70 pp70 (Nat.le_of_ble_eq_true rfl) rfl (by decide) (by decide) ?_
    refine ev_aload_n rfl ?_
    refine g_getv (r := 7) (v := w0) g19443 ad7 (by decide) ft5_1 (((jw_ne e19443 (Or.inr (by decide))).trans ew0)) ?_
    refine ev_ifge f70_15 (fun c19448 => ?_) (fun c19448 => ?_)
    · refine ev_ret rfl (by decide) (by decide) ?_
      show jEv _ _ _ _ _ _ _ (_, [(2, 7), (2, 1), (0, 8), (0, a3), (0, (-98)), (9, 0), (9, 0)], [], _, _, _)
      refine ev_iconst ?_
      exact ev_ret rfl (by decide) (by decide) ⟨_, _, rfl, by omega, by omega, g19443, k19443, (((jw_ne e19443 (Or.inr (by decide))).trans ew0)), by omega, by omega⟩
    · refine ev_aload_n rfl ?_
      refine ev_aload_n rfl ?_
      refine g_getv (r := 7) (v := (w1 + 1)) g19443 ad7 (by decide) ft5_2 ((jw_eq e19443)) ?_
      refine g_putf (r := 7) g19443 ad7 (by decide) ft5_1 (by decide) (fun e => absurd e nz5_1) rf7_1 (by decide) (by omega) (by omega) (fun h19449 e19449 g19449 => ?_)
      have k19449 := k19443.wr e19449 rfl
      refine ev_ret rfl (by decide) (by decide) ?_
      show jEv _ _ _ _ _ _ _ (_, [(2, 7), (2, 1), (0, 8), (0, a3), (0, (-98)), (9, 0), (9, 0)], [], _, _, _)
      refine ev_iconst ?_
      exact ev_ret rfl (by decide) (by decide) ⟨_, _, rfl, by omega, by omega, g19449, k19449, ((jw_eq e19449)), by omega, by omega⟩
  · refine ev_aload_n rfl ?_
    refine g_getp (r := 7) (c := 8) g19443 ad7 (by decide) (by decide) rf7_5 ft5_5 ?_
    refine ev_aload_n rfl ?_
    refine g_getv (r := 7) (v := (w1 + 1)) g19443 ad7 (by decide) ft5_2 ((jw_eq e19443)) ?_
    refine g_bald g19443 ad8 rt8 (by omega) (by omega) (fun v19450 ev19450 lv19450 uv19450 => ?_)
    refine ev_sipush ?_
    refine g_iandB (b := 255) (by omega) (by omega) (by decide) (fun v19451 ev19451 lv19451 uv19451 => ?_)
    refine ev_goto f68_28 ?_
    refine ev_ret rfl (by decide) (by decide) ?_
    show jEv _ _ _ _ _ _ _ (_, [(2, 7), (2, 1), (0, 8), (0, a3), (9, 0), (9, 0), (9, 0)], [(0, v19451)], _, _, _)
    refine ev_bipush ?_
    refine ev_isub (r := (v19451 - 97)) (by unfold w32; omega) ?_
    refine ev_istore (L' := [(2, 7), (2, 1), (0, 8), (0, a3), (0, (v19451 - 97)), (9, 0), (9, 0)]) (Nat.le_of_ble_eq_true rfl) rfl ?_
    refine ev_aload_n rfl ?_
    refine ev_iload rfl ?_
    refine ev_in (d := 10) (a := 0) (b := 0) (cd' := c140_0) (m := 2) (L0 := [(2, 1), (0, (v19451 - 97))]) (jcall_v (A := [(0, (v19451 - 97))]) (S' := []) (r := 1) rfl (g19443.lt ad1) (g19443.tg ad1) (Nat.le_of_ble_eq_true rfl)) (by decide) ml140 pp140 (Nat.le_of_ble_eq_true rfl) rfl (by decide) (by decide) ?_
    refine ev_iload_n rfl ?_
    refine ev_iflt f140_16 (fun c19452 => ?_) (fun c19452 => ?_)
    · refine ev_iconst ?_
      refine ev_ret rfl (by decide) (by decide) ?_
      show jEv _ _ _ _ _ _ _ (_, [(2, 7), (2, 1), (0, 8), (0, a3), (0, (v19451 - 97)), (9, 0), (9, 0)], [(0, 0)], _, _, _)
      refine ev_ifeq f79_37 (fun c19453 => ?_) (fun c19453 => absurd c19453 (by omega))
      refine ev_aload_n rfl ?_
      refine ev_in (d := 10) (a := 0) (b := 0) (cd' := c70_0) (m := 1) (L0 := [(2, 7)]) (jcall_v (A := []) (S' := []) (r := 7) rfl (g19443.lt ad7) (g19443.tg ad7) (Nat.le_of_ble_eq_true rfl)) (by decide) ml70 pp70 (Nat.le_of_ble_eq_true rfl) rfl (by decide) (by decide) ?_
      refine ev_aload_n rfl ?_
      refine g_getv (r := 7) (v := w0) g19443 ad7 (by decide) ft5_1 (((jw_ne e19443 (Or.inr (by decide))).trans ew0)) ?_
      refine ev_ifge f70_15 (fun c19454 => ?_) (fun c19454 => ?_)
      · refine ev_ret rfl (by decide) (by decide) ?_
        show jEv _ _ _ _ _ _ _ (_, [(2, 7), (2, 1), (0, 8), (0, a3), (0, (v19451 - 97)), (9, 0), (9, 0)], [], _, _, _)
        refine ev_iconst ?_
        exact ev_ret rfl (by decide) (by decide) ⟨_, _, rfl, by omega, by omega, g19443, k19443, (((jw_ne e19443 (Or.inr (by decide))).trans ew0)), by omega, by omega⟩
      · refine ev_aload_n rfl ?_
        refine ev_aload_n rfl ?_
        refine g_getv (r := 7) (v := (w1 + 1)) g19443 ad7 (by decide) ft5_2 ((jw_eq e19443)) ?_
        refine g_putf (r := 7) g19443 ad7 (by decide) ft5_1 (by decide) (fun e => absurd e nz5_1) rf7_1 (by decide) (by omega) (by omega) (fun h19455 e19455 g19455 => ?_)
        have k19455 := k19443.wr e19455 rfl
        refine ev_ret rfl (by decide) (by decide) ?_
        show jEv _ _ _ _ _ _ _ (_, [(2, 7), (2, 1), (0, 8), (0, a3), (0, (v19451 - 97)), (9, 0), (9, 0)], [], _, _, _)
        refine ev_iconst ?_
        exact ev_ret rfl (by decide) (by decide) ⟨_, _, rfl, by omega, by omega, g19455, k19455, ((jw_eq e19455)), by omega, by omega⟩
    · refine ev_iload_n rfl ?_
      refine ev_aload_n rfl ?_
      obtain ⟨v19456, ev19456, lv19456, uv19456⟩ := g19443.rd ad1 (show 0 < 8 by decide) rf1_0
      refine g_getv (r := 1) (v := v19456) g19443 ad1 (by decide) ft10_0 ev19456 ?_
      refine ev_icmpge f140_16 (fun c19457 => ?_) (fun c19457 => ?_)
      · refine ev_iconst ?_
        refine ev_ret rfl (by decide) (by decide) ?_
        show jEv _ _ _ _ _ _ _ (_, [(2, 7), (2, 1), (0, 8), (0, a3), (0, (v19451 - 97)), (9, 0), (9, 0)], [(0, 0)], _, _, _)
        refine ev_ifeq f79_37 (fun c19458 => ?_) (fun c19458 => absurd c19458 (by omega))
        refine ev_aload_n rfl ?_
        refine ev_in (d := 10) (a := 0) (b := 0) (cd' := c70_0) (m := 1) (L0 := [(2, 7)]) (jcall_v (A := []) (S' := []) (r := 7) rfl (g19443.lt ad7) (g19443.tg ad7) (Nat.le_of_ble_eq_true rfl)) (by decide) ml70 pp70 (Nat.le_of_ble_eq_true rfl) rfl (by decide) (by decide) ?_
        refine ev_aload_n rfl ?_
        refine g_getv (r := 7) (v := w0) g19443 ad7 (by decide) ft5_1 (((jw_ne e19443 (Or.inr (by decide))).trans ew0)) ?_
        refine ev_ifge f70_15 (fun c19459 => ?_) (fun c19459 => ?_)
        · refine ev_ret rfl (by decide) (by decide) ?_
          show jEv _ _ _ _ _ _ _ (_, [(2, 7), (2, 1), (0, 8), (0, a3), (0, (v19451 - 97)), (9, 0), (9, 0)], [], _, _, _)
          refine ev_iconst ?_
          exact ev_ret rfl (by decide) (by decide) ⟨_, _, rfl, by omega, by omega, g19443, k19443, (((jw_ne e19443 (Or.inr (by decide))).trans ew0)), by omega, by omega⟩
        · refine ev_aload_n rfl ?_
          refine ev_aload_n rfl ?_
          refine g_getv (r := 7) (v := (w1 + 1)) g19443 ad7 (by decide) ft5_2 ((jw_eq e19443)) ?_
          refine g_putf (r := 7) g19443 ad7 (by decide) ft5_1 (by decide) (fun e => absurd e nz5_1) rf7_1 (by decide) (by omega) (by omega) (fun h19460 e19460 g19460 => ?_)
          have k19460 := k19443.wr e19460 rfl
          refine ev_ret rfl (by decide) (by decide) ?_
          show jEv _ _ _ _ _ _ _ (_, [(2, 7), (2, 1), (0, 8), (0, a3), (0, (v19451 - 97)), (9, 0), (9, 0)], [], _, _, _)
          refine ev_iconst ?_
          exact ev_ret rfl (by decide) (by decide) ⟨_, _, rfl, by omega, by omega, g19460, k19460, ((jw_eq e19460)), by omega, by omega⟩
      · refine ev_iconst ?_
        refine ev_goto f140_17 ?_
        refine ev_ret rfl (by decide) (by decide) ?_
        show jEv _ _ _ _ _ _ _ (_, [(2, 7), (2, 1), (0, 8), (0, a3), (0, (v19451 - 97)), (9, 0), (9, 0)], [(0, 1)], _, _, _)
        refine ev_ifeq f79_37 (fun c19461 => absurd c19461 (by omega)) (fun c19461 => ?_)
        refine ev_iload_n rfl ?_
        refine ev_iload rfl ?_
        refine g_ishrG (fun v19462 ev19462 lv19462 uv19462 => ?_)
        refine ev_iconst ?_
        refine g_iandB (b := 1) (by omega) (by omega) (by decide) (fun v19463 ev19463 lv19463 uv19463 => ?_)
        refine ev_ifeq f79_43 (fun c19464 => ?_) (fun c19464 => ?_)
        · refine ev_aload_n rfl ?_
          refine ev_dup (by decide) ?_
          refine g_getv (r := 7) (v := (w1 + 1)) g19443 ad7 (by decide) ft5_2 ((jw_eq e19443)) ?_
          refine ev_iconst ?_
          refine ev_iadd (r := (w1 + 2)) (by unfold w32; omega) ?_
          refine g_putf (r := 7) g19443 ad7 (by decide) ft5_2 (by decide) (fun e => absurd e nz5_2) rf7_2 (by decide) (by omega) (by omega) (fun h19465 e19465 g19465 => ?_)
          have k19465 := k19443.wr e19465 rfl
          refine ev_aload_n rfl ?_
          refine ev_iload_n rfl ?_
          refine ev_call (jcall_v (A := [(0, 8)]) (S' := []) (r := 7) rfl (g19465.lt ad7) (g19465.tg ad7) (Nat.le_of_ble_eq_true rfl)) (jOk_le (by decide) (s72 g19465 (by omega) (by omega) (((jw_ne e19465 (Or.inr (by decide))).trans ((jw_ne e19443 (Or.inr (by decide))).trans ew0))) (by omega) (by omega))) (by decide) (by decide) (fun w19466 h19466 q19466 => ?_)
          obtain ⟨v19467, rfl, g19466, kk19466, ev19467, p19466_0⟩ := q19466
          have bv19467 := g19466.rg ad7 (i := 1) (by decide) rf7_1
          rw [ev19467] at bv19467
          have k19466 := k19465.tr kk19466 (by decide)
          show jEv _ _ _ _ _ _ _ (_, [(2, 7), (2, 1), (0, 8), (0, a3), (0, (v19451 - 97)), (9, 0), (9, 0)], [], _, _, _)
          refine ev_aload_n rfl ?_
          refine ev_iconst ?_
          refine ev_call (jcall_v (A := [(0, 2)]) (S' := []) (r := 7) rfl (g19466.lt ad7) (g19466.tg ad7) (Nat.le_of_ble_eq_true rfl)) (jOk_le (by decide) (s73 g19466 (by omega) (by omega) (ev19467) (by omega) (by omega))) (by decide) (by decide) (fun w19468 h19468 q19468 => ?_)
          obtain ⟨v19470, v19469, rfl, lv19470, uv19470, g19468, kk19468, ev19469, p19468_0, p19468_1⟩ := q19468
          have bv19469 := g19468.rg ad7 (i := 1) (by decide) rf7_1
          rw [ev19469] at bv19469
          have k19468 := k19466.tr kk19468 (by decide)
          show jEv _ _ _ _ _ _ _ (_, [(2, 7), (2, 1), (0, 8), (0, a3), (0, (v19451 - 97)), (9, 0), (9, 0)], [(0, v19470)], _, _, _)
          refine ev_istore (L' := [(2, 7), (2, 1), (0, 8), (0, a3), (0, (v19451 - 97)), (0, v19470), (9, 0)]) (Nat.le_of_ble_eq_true rfl) rfl ?_
          refine ev_iconst ?_
          refine ev_istore (L' := [(2, 7), (2, 1), (0, 8), (0, a3), (0, (v19451 - 97)), (0, v19470), (0, 0)]) (Nat.le_of_ble_eq_true rfl) rfl ?_
          exact (s79_8_l la3 ua3 ew0 lw0 uw0 ew1 lw1 uw1 8) _ _ _ _ _ g19468 k19468 (by omega) (by omega) (by omega) (by omega) (by omega) (by omega) (by omega) (by omega) (by omega) (by omega) (ev19469) (by omega) (by omega) (by omega)
        · refine ev_aload_n rfl ?_
          refine ev_in (d := 10) (a := 0) (b := 0) (cd' := c70_0) (m := 1) (L0 := [(2, 7)]) (jcall_v (A := []) (S' := []) (r := 7) rfl (g19443.lt ad7) (g19443.tg ad7) (Nat.le_of_ble_eq_true rfl)) (by decide) ml70 pp70 (Nat.le_of_ble_eq_true rfl) rfl (by decide) (by decide) ?_
          refine ev_aload_n rfl ?_
          refine g_getv (r := 7) (v := w0) g19443 ad7 (by decide) ft5_1 (((jw_ne e19443 (Or.inr (by decide))).trans ew0)) ?_
          refine ev_ifge f70_15 (fun c19471 => ?_) (fun c19471 => ?_)
          · refine ev_ret rfl (by decide) (by decide) ?_
            show jEv _ _ _ _ _ _ _ (_, [(2, 7), (2, 1), (0, 8), (0, a3), (0, (v19451 - 97)), (9, 0), (9, 0)], [], _, _, _)
            refine ev_iconst ?_
            exact ev_ret rfl (by decide) (by decide) ⟨_, _, rfl, by omega, by omega, g19443, k19443, (((jw_ne e19443 (Or.inr (by decide))).trans ew0)), by omega, by omega⟩
          · refine ev_aload_n rfl ?_
            refine ev_aload_n rfl ?_
            refine g_getv (r := 7) (v := (w1 + 1)) g19443 ad7 (by decide) ft5_2 ((jw_eq e19443)) ?_
            refine g_putf (r := 7) g19443 ad7 (by decide) ft5_1 (by decide) (fun e => absurd e nz5_1) rf7_1 (by decide) (by omega) (by omega) (fun h19472 e19472 g19472 => ?_)
            have k19472 := k19443.wr e19472 rfl
            refine ev_ret rfl (by decide) (by decide) ?_
            show jEv _ _ _ _ _ _ _ (_, [(2, 7), (2, 1), (0, 8), (0, a3), (0, (v19451 - 97)), (9, 0), (9, 0)], [], _, _, _)
            refine ev_iconst ?_
            exact ev_ret rfl (by decide) (by decide) ⟨_, _, rfl, by omega, by omega, g19472, k19472, ((jw_eq e19472)), by omega, by omega⟩
/-! s74_8  -/
set_option maxHeartbeats 4000000 in
theorem s74_8 {G : GH} {h : JH} (g : Gd G h) {a3 : Int} (la3 : (-2147483648) ≤ a3) (ua3 : a3 ≤ 2147483647) {w0 : Int} (ew0 : h.2.2 7 1 = w0) (lw0 : (-1) ≤ w0) (uw0 : w0 ≤ 200) : jOk 13 0 0 74 [(2, 7), (2, 1), (0, 8), (0, a3)] h (fun v h' => ∃ r F : Int, v = some (0, r) ∧ (-1) ≤ r ∧ r ≤ 199 ∧ Gd G h' ∧ Kp [(7, 2), (7, 3), (7, 4), (10, 0), (11, 0), (12, 0), (13, 0), (14, 0), (15, 0), (16, 0), (17, 0)] h h' ∧ h'.2.2 7 1 = F ∧ ((-F) + w0) ≤ 0 ∧ ((-F) + (-r)) ≤ 1) := by
  refine ⟨by decide, by rw [ml74]; exact Nat.le_of_ble_eq_true rfl, ?_⟩
  rw [ml74, pp74]
  show jEv _ none _ c74_0 0 0 _ (c74_0, [(2, 7), (2, 1), (0, 8), (0, a3), (9, 0)], [], h, 0, 0)
  have k0 := Kp.rf [(7, 2), (7, 3), (7, 4), (10, 0), (11, 0), (12, 0), (13, 0), (14, 0), (15, 0), (16, 0), (17, 0)] h
  refine ev_aload_n rfl ?_
  refine g_getv (r := 7) (v := w0) g ad7 (by decide) ft5_1 (ew0) ?_
  refine ev_ifge f74_13 (fun c19539 => ?_) (fun c19539 => ?_)
  · refine ev_aload_n rfl ?_
    refine ev_in (d := 11) (a := 0) (b := 0) (cd' := c70_0) (m := 1) (L0 := [(2, 7)]) (jcall_v (A := []) (S' := []) (r := 7) rfl (g.lt ad7) (g.tg ad7) (Nat.le_of_ble_eq_true rfl)) (by decide) ml70 pp70 (Nat.le_of_ble_eq_true rfl) rfl (by decide) (by decide) ?_
    refine ev_aload_n rfl ?_
    refine g_getv (r := 7) (v := w0) g ad7 (by decide) ft5_1 (ew0) ?_
    refine ev_ifge f70_15 (fun c19540 => ?_) (fun c19540 => absurd c19540 (by omega))
    refine ev_ret rfl (by decide) (by decide) ?_
    show jEv _ _ _ _ _ _ _ (_, [(2, 7), (2, 1), (0, 8), (0, a3), (9, 0)], [], _, _, _)
    refine ev_iconst ?_
    exact ev_ret rfl (by decide) (by decide) ⟨_, _, rfl, by omega, by omega, g, k0, (ew0), by omega, by omega⟩
  · refine ev_iload_n rfl ?_
    refine ev_bipush ?_
    refine ev_icmple f74_19 (fun c19541 => ?_) (fun c19541 => absurd c19541 (by omega))
    refine ev_aload_n rfl ?_
    refine ev_in (d := 11) (a := 0) (b := 0) (cd' := c68_0) (m := 1) (L0 := [(2, 7)]) (jcall_v (A := []) (S' := []) (r := 7) rfl (g.lt ad7) (g.tg ad7) (Nat.le_of_ble_eq_true rfl)) (by decide) ml68 pp68 (Nat.le_of_ble_eq_true rfl) rfl (by decide) (by decide) ?_
    refine ev_aload_n rfl ?_
    obtain ⟨v19542, ev19542, lv19542, uv19542⟩ := g.rd ad7 (show 2 < 15 by decide) rf7_2
    refine g_getv (r := 7) (v := v19542) g ad7 (by decide) ft5_2 ev19542 ?_
    refine ev_aload_n rfl ?_
    obtain ⟨v19543, ev19543, lv19543, uv19543⟩ := g.rd ad7 (show 0 < 15 by decide) rf7_0
    refine g_getv (r := 7) (v := v19543) g ad7 (by decide) ft5_0 ev19543 ?_
    refine ev_icmpge f68_27 (fun c19544 => ?_) (fun c19544 => ?_)
    · refine ev_iconst ?_
      refine ev_ret rfl (by decide) (by decide) ?_
      show jEv _ _ _ _ _ _ _ (_, [(2, 7), (2, 1), (0, 8), (0, a3), (9, 0)], [(0, (-1))], _, _, _)
      refine ev_istore (L' := [(2, 7), (2, 1), (0, 8), (0, a3), (0, (-1))]) (Nat.le_of_ble_eq_true rfl) rfl ?_
      refine ev_iload rfl ?_
      refine ev_bipush ?_
      refine ev_icmpne f74_40 (fun c19545 => ?_) (fun c19545 => absurd c19545 (by omega))
      refine ev_iload rfl ?_
      refine ev_bipush ?_
      refine ev_icmpne f74_55 (fun c19546 => ?_) (fun c19546 => absurd c19546 (by omega))
      refine ev_iload rfl ?_
      refine ev_bipush ?_
      refine ev_icmplt f74_78 (fun c19547 => ?_) (fun c19547 => absurd c19547 (by omega))
      refine ev_aload_n rfl ?_
      refine ev_call (jcall_v (A := []) (S' := []) (r := 7) rfl (g.lt ad7) (g.tg ad7) (Nat.le_of_ble_eq_true rfl)) (jOk_le (by decide) (s75 g (ew0) (by omega) (by omega))) (by decide) (by decide) (fun w19548 h19548 q19548 => ?_)
      obtain ⟨v19550, v19549, rfl, lv19550, uv19550, g19548, kk19548, ev19549, p19548_0, p19548_1⟩ := q19548
      have bv19549 := g19548.rg ad7 (i := 1) (by decide) rf7_1
      rw [ev19549] at bv19549
      have k19548 := k0.tr kk19548 (by decide)
      show jEv _ _ _ _ _ _ _ (_, [(2, 7), (2, 1), (0, 8), (0, a3), (0, (-1))], [(0, v19550)], _, _, _)
      exact ev_ret rfl (by decide) (by decide) ⟨_, _, rfl, by omega, by omega, g19548, k19548, (ev19549), by omega, by omega⟩
    · refine ev_aload_n rfl ?_
      refine g_getp (r := 7) (c := 8) g ad7 (by decide) (by decide) rf7_5 ft5_5 ?_
      refine ev_aload_n rfl ?_
      refine g_getv (r := 7) (v := v19542) g ad7 (by decide) ft5_2 (ev19542) ?_
      refine g_bald g ad8 rt8 (by omega) (by omega) (fun v19551 ev19551 lv19551 uv19551 => ?_)
      refine ev_sipush ?_
      refine g_iandB (b := 255) (by omega) (by omega) (by decide) (fun v19552 ev19552 lv19552 uv19552 => ?_)
      refine ev_goto f68_28 ?_
      refine ev_ret rfl (by decide) (by decide) ?_
      show jEv _ _ _ _ _ _ _ (_, [(2, 7), (2, 1), (0, 8), (0, a3), (9, 0)], [(0, v19552)], _, _, _)
      refine ev_istore (L' := [(2, 7), (2, 1), (0, 8), (0, a3), (0, v19552)]) (Nat.le_of_ble_eq_true rfl) rfl ?_
      refine ev_iload rfl ?_
      refine ev_bipush ?_
      refine ev_icmpne f74_40 (fun c19553 => ?_) (fun c19553 => ?_)
      · refine ev_iload rfl ?_
        refine ev_bipush ?_
        refine ev_icmpne f74_55 (fun c19554 => ?_) (fun c19554 => ?_)
        · refine ev_iload rfl ?_
          refine ev_bipush ?_
          refine ev_icmplt f74_78 (fun c19555 => ?_) (fun c19555 => ?_)
          · refine ev_aload_n rfl ?_
            refine ev_call (jcall_v (A := []) (S' := []) (r := 7) rfl (g.lt ad7) (g.tg ad7) (Nat.le_of_ble_eq_true rfl)) (jOk_le (by decide) (s75 g (ew0) (by omega) (by omega))) (by decide) (by decide) (fun w19556 h19556 q19556 => ?_)
            obtain ⟨v19558, v19557, rfl, lv19558, uv19558, g19556, kk19556, ev19557, p19556_0, p19556_1⟩ := q19556
            have bv19557 := g19556.rg ad7 (i := 1) (by decide) rf7_1
            rw [ev19557] at bv19557
            have k19556 := k0.tr kk19556 (by decide)
            show jEv _ _ _ _ _ _ _ (_, [(2, 7), (2, 1), (0, 8), (0, a3), (0, v19552)], [(0, v19558)], _, _, _)
            exact ev_ret rfl (by decide) (by decide) ⟨_, _, rfl, by omega, by omega, g19556, k19556, (ev19557), by omega, by omega⟩
          · refine ev_iload rfl ?_
            refine ev_bipush ?_
            refine ev_icmpge f74_78 (fun c19559 => ?_) (fun c19559 => ?_)
            · refine ev_aload_n rfl ?_
              refine ev_call (jcall_v (A := []) (S' := []) (r := 7) rfl (g.lt ad7) (g.tg ad7) (Nat.le_of_ble_eq_true rfl)) (jOk_le (by decide) (s75 g (ew0) (by omega) (by omega))) (by decide) (by decide) (fun w19560 h19560 q19560 => ?_)
              obtain ⟨v19562, v19561, rfl, lv19562, uv19562, g19560, kk19560, ev19561, p19560_0, p19560_1⟩ := q19560
              have bv19561 := g19560.rg ad7 (i := 1) (by decide) rf7_1
              rw [ev19561] at bv19561
              have k19560 := k0.tr kk19560 (by decide)
              show jEv _ _ _ _ _ _ _ (_, [(2, 7), (2, 1), (0, 8), (0, a3), (0, v19552)], [(0, v19562)], _, _, _)
              exact ev_ret rfl (by decide) (by decide) ⟨_, _, rfl, by omega, by omega, g19560, k19560, (ev19561), by omega, by omega⟩
            · refine ev_aload_n rfl ?_
              refine ev_iload_n rfl ?_
              refine ev_iload_n rfl ?_
              refine ev_call (jcall_v (A := [(0, a3), (0, 8)]) (S' := []) (r := 7) rfl (g.lt ad7) (g.tg ad7) (Nat.le_of_ble_eq_true rfl)) (jOk_le (by decide) (s77 g (by omega) (by omega) (by omega) (by omega) (ew0) (by omega) (by omega))) (by decide) (by decide) (fun w19563 h19563 q19563 => ?_)
              obtain ⟨v19565, v19564, rfl, lv19565, uv19565, g19563, kk19563, ev19564, p19563_0, p19563_1⟩ := q19563
              have bv19564 := g19563.rg ad7 (i := 1) (by decide) rf7_1
              rw [ev19564] at bv19564
              have k19563 := k0.tr kk19563 (by decide)
              show jEv _ _ _ _ _ _ _ (_, [(2, 7), (2, 1), (0, 8), (0, a3), (0, v19552)], [(0, v19565)], _, _, _)
              refine ev_goto f74_82 ?_
              exact ev_ret rfl (by decide) (by decide) ⟨_, _, rfl, by omega, by omega, g19563, k19563, (ev19564), by omega, by omega⟩
        · refine ev_aload_n rfl ?_
          refine ev_aload_n rfl ?_
          refine ev_iload_n rfl ?_
          refine ev_iload_n rfl ?_
          refine ev_call (jcall_v (A := [(0, a3), (0, 8), (2, 1)]) (S' := []) (r := 7) rfl (g.lt ad7) (g.tg ad7) (Nat.le_of_ble_eq_true rfl)) (jOk_le (by decide) (s79_8 g (by omega) (by omega) (ew0) (by omega) (by omega) (ev19542) (by omega) (by omega))) (by decide) (by decide) (fun w19566 h19566 q19566 => ?_)
          obtain ⟨v19568, v19567, rfl, lv19568, uv19568, g19566, kk19566, ev19567, p19566_0, p19566_1⟩ := q19566
          have bv19567 := g19566.rg ad7 (i := 1) (by decide) rf7_1
          rw [ev19567] at bv19567
          have k19566 := k0.tr kk19566 (by decide)
          show jEv _ _ _ _ _ _ _ (_, [(2, 7), (2, 1), (0, 8), (0, a3), (0, v19552)], [(0, v19568)], _, _, _)
          exact ev_ret rfl (by decide) (by decide) ⟨_, _, rfl, by omega, by omega, g19566, k19566, (ev19567), by omega, by omega⟩
      · refine ev_aload_n rfl ?_
        refine ev_aload_n rfl ?_
        refine ev_iload_n rfl ?_
        refine ev_iload_n rfl ?_
        refine ev_call (jcall_v (A := [(0, a3), (0, 8), (2, 1)]) (S' := []) (r := 7) rfl (g.lt ad7) (g.tg ad7) (Nat.le_of_ble_eq_true rfl)) (jOk_le (by decide) (s78_8 g (by omega) (by omega) (ew0) (by omega) (by omega) (ev19542) (by omega) (by omega))) (by decide) (by decide) (fun w19569 h19569 q19569 => ?_)
        obtain ⟨v19571, v19570, rfl, lv19571, uv19571, g19569, kk19569, ev19570, p19569_0, p19569_1⟩ := q19569
        have bv19570 := g19569.rg ad7 (i := 1) (by decide) rf7_1
        rw [ev19570] at bv19570
        have k19569 := k0.tr kk19569 (by decide)
        show jEv _ _ _ _ _ _ _ (_, [(2, 7), (2, 1), (0, 8), (0, a3), (0, v19552)], [(0, v19571)], _, _, _)
        exact ev_ret rfl (by decide) (by decide) ⟨_, _, rfl, by omega, by omega, g19569, k19569, (ev19570), by omega, by omega⟩
/-! s78_7  -/
set_option maxHeartbeats 4000000 in
theorem s78_7_l {G : GH} {h : JH} {a3 : Int} (la3 : (-2147483648) ≤ a3) (ua3 : a3 ≤ 2147483647) {w0 : Int} (ew0 : h.2.2 7 1 = w0) (lw0 : (-1) ≤ w0) (uw0 : w0 ≤ 200) {w1 : Int} (ew1 : h.2.2 7 2 = w1) (lw1 : 0 ≤ w1) (uw1 : w1 ≤ 199) : ∀ N : Nat, (∀ (h1 : JH) (x4 x5 y0 : Int) (j6 : AV), Gd G h1 → Kp [(7, 2), (7, 3), (7, 4), (10, 0), (11, 0), (12, 0), (13, 0), (14, 0), (15, 0), (16, 0), (17, 0)] h h1 → (-2147483648) ≤ a3 → a3 ≤ 2147483647 → (-1) ≤ x4 → x4 ≤ 199 → 0 ≤ x5 → x5 ≤ 3 → (w0 + (-y0)) ≤ 0 → ((-x4) + (-y0)) ≤ 1 → h1.2.2 7 1 = y0 → (-1) ≤ y0 → y0 ≤ 200 → ((-x5) + 3) < N → jEv (jOk 13) none (fun _ => 0) c78_0 0 0 (fun v h' => ∃ r F : Int, v = some (0, r) ∧ (-1) ≤ r ∧ r ≤ 199 ∧ Gd G h' ∧ Kp [(7, 2), (7, 3), (7, 4), (10, 0), (11, 0), (12, 0), (13, 0), (14, 0), (15, 0), (16, 0), (17, 0)] h h' ∧ h'.2.2 7 1 = F ∧ ((-F) + w0) ≤ 0 ∧ ((-F) + (-r)) ≤ 1) (c78_25, [(2, 7), (2, 1), (0, 7), (0, a3), (0, x4), (0, x5), j6], [], h1, 0, 0)) := by
  intro N
  induction N with
  | zero => exact fun h1 x4 x5 y0 j6 g1 k1 b0 b1 b2 b3 b4 b5 b6 b7 b8 b9 b10 hm => absurd hm (by omega)
  | succ N ih =>
    show _
    intro h1 x4 x5 y0 j6 g1 k1 b0 b1 b2 b3 b4 b5 b6 b7 ey0 ly0 uy0 hm
    refine ev_iload rfl ?_
    refine ev_iconst ?_
    refine ev_icmpge f78_100 (fun c19740 => absurd c19740 (by omega)) (fun c19740 => ?_)
    refine ev_aload_n rfl ?_
    refine g_getv (r := 7) (v := y0) g1 ad7 (by decide) ft5_1 (ey0) ?_
    refine ev_ifge f78_100 (fun c19741 => ?_) (fun c19741 => ?_)
    · refine ev_aload_n rfl ?_
      refine ev_bipush ?_
      refine ev_call (jcall_v (A := [(0, 41)]) (S' := []) (r := 7) rfl (g1.lt ad7) (g1.tg ad7) (Nat.le_of_ble_eq_true rfl)) (jOk_le (by decide) (s71 g1 (by omega) (by omega) (ey0) (by omega) (by omega))) (by decide) (by decide) (fun w19742 h19742 q19742 => ?_)
      obtain ⟨v19743, rfl, g19742, kk19742, ev19743, p19742_0⟩ := q19742
      have bv19743 := g19742.rg ad7 (i := 1) (by decide) rf7_1
      rw [ev19743] at bv19743
      have k19742 := k1.tr kk19742 (by decide)
      show jEv _ _ _ _ _ _ _ (_, [(2, 7), (2, 1), (0, 7), (0, a3), (0, x4), (0, x5), j6], [], _, _, _)
      refine ev_aload_n rfl ?_
      refine g_getv (r := 7) (v := v19743) g19742 ad7 (by decide) ft5_1 (ev19743) ?_
      refine ev_iflt f78_117 (fun c19744 => absurd c19744 (by omega)) (fun c19744 => ?_)
      refine ev_iconst ?_
      refine ev_goto f78_119 ?_
      exact ev_ret rfl (by decide) (by decide) ⟨_, _, rfl, by omega, by omega, g19742, k19742, (ev19743), by omega, by omega⟩
    · refine ev_aload_n rfl ?_
      refine ev_iconst ?_
      refine ev_call (jcall_v (A := [(0, 2)]) (S' := []) (r := 7) rfl (g1.lt ad7) (g1.tg ad7) (Nat.le_of_ble_eq_true rfl)) (jOk_le (by decide) (s76 g1 (by omega) (by omega) (ey0) (by omega) (by omega))) (by decide) (by decide) (fun w19745 h19745 q19745 => ?_)
      obtain ⟨v19747, v19746, rfl, lv19747, uv19747, g19745, kk19745, ev19746, p19745_0⟩ := q19745
      have bv19746 := g19745.rg ad7 (i := 1) (by decide) rf7_1
      rw [ev19746] at bv19746
      have k19745 := k1.tr kk19745 (by decide)
      show jEv _ _ _ _ _ _ _ (_, [(2, 7), (2, 1), (0, 7), (0, a3), (0, x4), (0, x5), j6], [(0, v19747)], _, _, _)
      refine ev_istore (L' := [(2, 7), (2, 1), (0, 7), (0, a3), (0, x4), (0, x5), (0, v19747)]) (Nat.le_of_ble_eq_true rfl) rfl ?_
      refine ev_aload_n rfl ?_
      refine ev_bipush ?_
      refine ev_call (jcall_v (A := [(0, 58)]) (S' := []) (r := 7) rfl (g19745.lt ad7) (g19745.tg ad7) (Nat.le_of_ble_eq_true rfl)) (jOk_le (by decide) (s71 g19745 (by omega) (by omega) (ev19746) (by omega) (by omega))) (by decide) (by decide) (fun w19748 h19748 q19748 => ?_)
      obtain ⟨v19749, rfl, g19748, kk19748, ev19749, p19748_0⟩ := q19748
      have bv19749 := g19748.rg ad7 (i := 1) (by decide) rf7_1
      rw [ev19749] at bv19749
      have k19748 := k19745.tr kk19748 (by decide)
      show jEv _ _ _ _ _ _ _ (_, [(2, 7), (2, 1), (0, 7), (0, a3), (0, x4), (0, x5), (0, v19747)], [], _, _, _)
      refine ev_aload_n rfl ?_
      refine ev_iload rfl ?_
      refine ev_iload rfl ?_
      refine ev_iload rfl ?_
      refine ev_aload_n rfl ?_
      refine ev_aload_n rfl ?_
      refine ev_iload_n rfl ?_
      refine ev_iconst ?_
      refine ev_iadd (r := 8) (by decide) ?_
      refine ev_iload_n rfl ?_
      refine ev_call (jcall_v (A := [(0, a3), (0, 8), (2, 1)]) (S' := [(0, v19747), (0, x5), (0, x4), (2, 7)]) (r := 7) rfl (g19748.lt ad7) (g19748.tg ad7) (Nat.le_of_ble_eq_true rfl)) (jOk_le (by decide) (s74_8 g19748 (by omega) (by omega) (ev19749) (by omega) (by omega))) (by decide) (by decide) (fun w19750 h19750 q19750 => ?_)
      obtain ⟨v19752, v19751, rfl, lv19752, uv19752, g19750, kk19750, ev19751, p19750_0, p19750_1⟩ := q19750
      have bv19751 := g19750.rg ad7 (i := 1) (by decide) rf7_1
      rw [ev19751] at bv19751
      have k19750 := k19748.tr kk19750 (by decide)
      show jEv _ _ _ _ _ _ _ (_, [(2, 7), (2, 1), (0, 7), (0, a3), (0, x4), (0, x5), (0, v19747)], [(0, v19752), (0, v19747), (0, x5), (0, x4), (2, 7)], _, _, _)
      refine ev_call (jcall_v (A := [(0, v19752), (0, v19747), (0, x5), (0, x4)]) (S' := []) (r := 7) rfl (g19750.lt ad7) (g19750.tg ad7) (Nat.le_of_ble_eq_true rfl)) (jOk_le (by decide) (s80 g19750 (by omega) (by omega) (by omega) (by omega) (by omega) (by omega) (by omega) (by omega))) (by decide) (by decide) (fun w19753 h19753 q19753 => ?_)
      obtain ⟨rfl, g19753, kk19753⟩ := q19753
      have k19753 := k19750.tr kk19753 (by decide)
      show jEv _ _ _ _ _ _ _ (_, [(2, 7), (2, 1), (0, 7), (0, a3), (0, x4), (0, x5), (0, v19747)], [], _, _, _)
      refine ev_aload_n rfl ?_
      refine ev_in (d := 12) (a := 0) (b := 0) (cd' := c68_0) (m := 1) (L0 := [(2, 7)]) (jcall_v (A := []) (S' := []) (r := 7) rfl (g19753.lt ad7) (g19753.tg ad7) (Nat.le_of_ble_eq_true rfl)) (by decide) ml68 pp68 (Nat.le_of_ble_eq_true rfl) rfl (by decide) (by decide) ?_
      refine ev_aload_n rfl ?_
      obtain ⟨v19754, ev19754, lv19754, uv19754⟩ := g19753.rd ad7 (show 2 < 15 by decide) rf7_2
      refine g_getv (r := 7) (v := v19754) g19753 ad7 (by decide) ft5_2 ev19754 ?_
      refine ev_aload_n rfl ?_
      obtain ⟨v19755, ev19755, lv19755, uv19755⟩ := g19753.rd ad7 (show 0 < 15 by decide) rf7_0
      refine g_getv (r := 7) (v := v19755) g19753 ad7 (by decide) ft5_0 ev19755 ?_
      refine ev_icmpge f68_27 (fun c19756 => ?_) (fun c19756 => ?_)
      · refine ev_iconst ?_
        refine ev_ret rfl (by decide) (by decide) ?_
        show jEv _ _ _ _ _ _ _ (_, [(2, 7), (2, 1), (0, 7), (0, a3), (0, x4), (0, x5), (0, v19747)], [(0, (-1))], _, _, _)
        refine ev_bipush ?_
        refine ev_icmpne f78_100 (fun c19757 => ?_) (fun c19757 => absurd c19757 (by omega))
        refine ev_aload_n rfl ?_
        refine ev_bipush ?_
        refine ev_call (jcall_v (A := [(0, 41)]) (S' := []) (r := 7) rfl (g19753.lt ad7) (g19753.tg ad7) (Nat.le_of_ble_eq_true rfl)) (jOk_le (by decide) (s71 g19753 (by omega) (by omega) (((kk19753.v (by decide)).trans ev19751)) (by omega) (by omega))) (by decide) (by decide) (fun w19758 h19758 q19758 => ?_)
        obtain ⟨v19759, rfl, g19758, kk19758, ev19759, p19758_0⟩ := q19758
        have bv19759 := g19758.rg ad7 (i := 1) (by decide) rf7_1
        rw [ev19759] at bv19759
        have k19758 := k19753.tr kk19758 (by decide)
        show jEv _ _ _ _ _ _ _ (_, [(2, 7), (2, 1), (0, 7), (0, a3), (0, x4), (0, x5), (0, v19747)], [], _, _, _)
        refine ev_aload_n rfl ?_
        refine g_getv (r := 7) (v := v19759) g19758 ad7 (by decide) ft5_1 (ev19759) ?_
        refine ev_iflt f78_117 (fun c19760 => ?_) (fun c19760 => ?_)
        · refine ev_iload rfl ?_
          exact ev_ret rfl (by decide) (by decide) ⟨_, _, rfl, by omega, by omega, g19758, k19758, (ev19759), by omega, by omega⟩
        · refine ev_iconst ?_
          refine ev_goto f78_119 ?_
          exact ev_ret rfl (by decide) (by decide) ⟨_, _, rfl, by omega, by omega, g19758, k19758, (ev19759), by omega, by omega⟩
      · refine ev_aload_n rfl ?_
        refine g_getp (r := 7) (c := 8) g19753 ad7 (by decide) (by decide) rf7_5 ft5_5 ?_
        refine ev_aload_n rfl ?_
        refine g_getv (r := 7) (v := v19754) g19753 ad7 (by decide) ft5_2 (ev19754) ?_
        refine g_bald g19753 ad8 rt8 (by omega) (by omega) (fun v19761 ev19761 lv19761 uv19761 => ?_)
        refine ev_sipush ?_
        refine g_iandB (b := 255) (by omega) (by omega) (by decide) (fun v19762 ev19762 lv19762 uv19762 => ?_)
        refine ev_goto f68_28 ?_
        refine ev_ret rfl (by decide) (by decide) ?_
        show jEv _ _ _ _ _ _ _ (_, [(2, 7), (2, 1), (0, 7), (0, a3), (0, x4), (0, x5), (0, v19747)], [(0, v19762)], _, _, _)
        refine ev_bipush ?_
        refine ev_icmpne f78_100 (fun c19763 => ?_) (fun c19763 => ?_)
        · refine ev_aload_n rfl ?_
          refine ev_bipush ?_
          refine ev_call (jcall_v (A := [(0, 41)]) (S' := []) (r := 7) rfl (g19753.lt ad7) (g19753.tg ad7) (Nat.le_of_ble_eq_true rfl)) (jOk_le (by decide) (s71 g19753 (by omega) (by omega) (((kk19753.v (by decide)).trans ev19751)) (by omega) (by omega))) (by decide) (by decide) (fun w19764 h19764 q19764 => ?_)
          obtain ⟨v19765, rfl, g19764, kk19764, ev19765, p19764_0⟩ := q19764
          have bv19765 := g19764.rg ad7 (i := 1) (by decide) rf7_1
          rw [ev19765] at bv19765
          have k19764 := k19753.tr kk19764 (by decide)
          show jEv _ _ _ _ _ _ _ (_, [(2, 7), (2, 1), (0, 7), (0, a3), (0, x4), (0, x5), (0, v19747)], [], _, _, _)
          refine ev_aload_n rfl ?_
          refine g_getv (r := 7) (v := v19765) g19764 ad7 (by decide) ft5_1 (ev19765) ?_
          refine ev_iflt f78_117 (fun c19766 => ?_) (fun c19766 => ?_)
          · refine ev_iload rfl ?_
            exact ev_ret rfl (by decide) (by decide) ⟨_, _, rfl, by omega, by omega, g19764, k19764, (ev19765), by omega, by omega⟩
          · refine ev_iconst ?_
            refine ev_goto f78_119 ?_
            exact ev_ret rfl (by decide) (by decide) ⟨_, _, rfl, by omega, by omega, g19764, k19764, (ev19765), by omega, by omega⟩
        · refine ev_iload rfl ?_
          refine ev_iconst ?_
          refine ev_icmpne f78_88 (fun c19767 => ?_) (fun c19767 => ?_)
          · refine ev_aload_n rfl ?_
            refine ev_bipush ?_
            refine ev_call (jcall_v (A := [(0, 44)]) (S' := []) (r := 7) rfl (g19753.lt ad7) (g19753.tg ad7) (Nat.le_of_ble_eq_true rfl)) (jOk_le (by decide) (s71 g19753 (by omega) (by omega) (((kk19753.v (by decide)).trans ev19751)) (by omega) (by omega))) (by decide) (by decide) (fun w19768 h19768 q19768 => ?_)
            obtain ⟨v19769, rfl, g19768, kk19768, ev19769, p19768_0⟩ := q19768
            have bv19769 := g19768.rg ad7 (i := 1) (by decide) rf7_1
            rw [ev19769] at bv19769
            have k19768 := k19753.tr kk19768 (by decide)
            show jEv _ _ _ _ _ _ _ (_, [(2, 7), (2, 1), (0, 7), (0, a3), (0, x4), (0, x5), (0, v19747)], [], _, _, _)
            refine ev_iinc (w := (x5 + 1)) (L' := [(2, 7), (2, 1), (0, 7), (0, a3), (0, x4), (0, (x5 + 1)), (0, v19747)]) rfl (by unfold w32; omega) rfl ?_
            refine ev_goto f78_25 ?_
            exact ih _ _ _ _ _ g19768 k19768 (by omega) (by omega) (by omega) (by omega) (by omega) (by omega) (by omega) (by omega) (ev19769) (by omega) (by omega) (by omega)
          · refine ev_goto f78_100 ?_
            refine ev_aload_n rfl ?_
            refine ev_bipush ?_
            refine ev_call (jcall_v (A := [(0, 41)]) (S' := []) (r := 7) rfl (g19753.lt ad7) (g19753.tg ad7) (Nat.le_of_ble_eq_true rfl)) (jOk_le (by decide) (s71 g19753 (by omega) (by omega) (((kk19753.v (by decide)).trans ev19751)) (by omega) (by omega))) (by decide) (by decide) (fun w19770 h19770 q19770 => ?_)
            obtain ⟨v19771, rfl, g19770, kk19770, ev19771, p19770_0⟩ := q19770
            have bv19771 := g19770.rg ad7 (i := 1) (by decide) rf7_1
            rw [ev19771] at bv19771
            have k19770 := k19753.tr kk19770 (by decide)
            show jEv _ _ _ _ _ _ _ (_, [(2, 7), (2, 1), (0, 7), (0, a3), (0, x4), (0, x5), (0, v19747)], [], _, _, _)
            refine ev_aload_n rfl ?_
            refine g_getv (r := 7) (v := v19771) g19770 ad7 (by decide) ft5_1 (ev19771) ?_
            refine ev_iflt f78_117 (fun c19772 => ?_) (fun c19772 => ?_)
            · refine ev_iload rfl ?_
              exact ev_ret rfl (by decide) (by decide) ⟨_, _, rfl, by omega, by omega, g19770, k19770, (ev19771), by omega, by omega⟩
            · refine ev_iconst ?_
              refine ev_goto f78_119 ?_
              exact ev_ret rfl (by decide) (by decide) ⟨_, _, rfl, by omega, by omega, g19770, k19770, (ev19771), by omega, by omega⟩
set_option maxHeartbeats 4000000 in
theorem s78_7 {G : GH} {h : JH} (g : Gd G h) {a3 : Int} (la3 : (-2147483648) ≤ a3) (ua3 : a3 ≤ 2147483647) {w0 : Int} (ew0 : h.2.2 7 1 = w0) (lw0 : (-1) ≤ w0) (uw0 : w0 ≤ 200) {w1 : Int} (ew1 : h.2.2 7 2 = w1) (lw1 : 0 ≤ w1) (uw1 : w1 ≤ 199) : jOk 14 0 0 78 [(2, 7), (2, 1), (0, 7), (0, a3)] h (fun v h' => ∃ r F : Int, v = some (0, r) ∧ (-1) ≤ r ∧ r ≤ 199 ∧ Gd G h' ∧ Kp [(7, 2), (7, 3), (7, 4), (10, 0), (11, 0), (12, 0), (13, 0), (14, 0), (15, 0), (16, 0), (17, 0)] h h' ∧ h'.2.2 7 1 = F ∧ ((-F) + w0) ≤ 0 ∧ ((-F) + (-r)) ≤ 1) := by
  refine ⟨by decide, by rw [ml78]; exact Nat.le_of_ble_eq_true rfl, ?_⟩
  rw [ml78, pp78]
  show jEv _ none _ c78_0 0 0 _ (c78_0, [(2, 7), (2, 1), (0, 7), (0, a3), (9, 0), (9, 0), (9, 0)], [], h, 0, 0)
  have k0 := Kp.rf [(7, 2), (7, 3), (7, 4), (10, 0), (11, 0), (12, 0), (13, 0), (14, 0), (15, 0), (16, 0), (17, 0)] h
  refine ev_aload_n rfl ?_
  refine ev_dup (by decide) ?_
  refine g_getv (r := 7) (v := w1) g ad7 (by decide) ft5_2 (ew1) ?_
  refine ev_iconst ?_
  refine ev_iadd (r := (w1 + 1)) (by unfold w32; omega) ?_
  refine g_putf (r := 7) g ad7 (by decide) ft5_2 (by decide) (fun e => absurd e nz5_2) rf7_2 (by decide) (by omega) (by omega) (fun h19773 e19773 g19773 => ?_)
  have k19773 := k0.wr e19773 rfl
  refine ev_aload_n rfl ?_
  refine ev_iload_n rfl ?_
  refine ev_call (jcall_v (A := [(0, 7)]) (S' := []) (r := 7) rfl (g19773.lt ad7) (g19773.tg ad7) (Nat.le_of_ble_eq_true rfl)) (jOk_le (by decide) (s72 g19773 (by omega) (by omega) (((jw_ne e19773 (Or.inr (by decide))).trans ew0)) (by omega) (by omega))) (by decide) (by decide) (fun w19774 h19774 q19774 => ?_)
  obtain ⟨v19775, rfl, g19774, kk19774, ev19775, p19774_0⟩ := q19774
  have bv19775 := g19774.rg ad7 (i := 1) (by decide) rf7_1
  rw [ev19775] at bv19775
  have k19774 := k19773.tr kk19774 (by decide)
  show jEv _ _ _ _ _ _ _ (_, [(2, 7), (2, 1), (0, 7), (0, a3), (9, 0), (9, 0), (9, 0)], [], _, _, _)
  refine ev_aload_n rfl ?_
  refine ev_iconst ?_
  refine ev_call (jcall_v (A := [(0, 1)]) (S' := []) (r := 7) rfl (g19774.lt ad7) (g19774.tg ad7) (Nat.le_of_ble_eq_true rfl)) (jOk_le (by decide) (s73 g19774 (by omega) (by omega) (ev19775) (by omega) (by omega))) (by decide) (by decide) (fun w19776 h19776 q19776 => ?_)
  obtain ⟨v19778, v19777, rfl, lv19778, uv19778, g19776, kk19776, ev19777, p19776_0, p19776_1⟩ := q19776
  have bv19777 := g19776.rg ad7 (i := 1) (by decide) rf7_1
  rw [ev19777] at bv19777
  have k19776 := k19774.tr kk19776 (by decide)
  show jEv _ _ _ _ _ _ _ (_, [(2, 7), (2, 1), (0, 7), (0, a3), (9, 0), (9, 0), (9, 0)], [(0, v19778)], _, _, _)
  refine ev_istore (L' := [(2, 7), (2, 1), (0, 7), (0, a3), (0, v19778), (9, 0), (9, 0)]) (Nat.le_of_ble_eq_true rfl) rfl ?_
  refine ev_iconst ?_
  refine ev_istore (L' := [(2, 7), (2, 1), (0, 7), (0, a3), (0, v19778), (0, 0), (9, 0)]) (Nat.le_of_ble_eq_true rfl) rfl ?_
  exact (s78_7_l la3 ua3 ew0 lw0 uw0 ew1 lw1 uw1 8) _ _ _ _ _ g19776 k19776 (by omega) (by omega) (by omega) (by omega) (by omega) (by omega) (by omega) (by omega) (ev19777) (by omega) (by omega) (by omega)
/-! s79_7  -/
set_option maxHeartbeats 4000000 in
theorem s79_7_l {G : GH} {h : JH} {a3 : Int} (la3 : (-2147483648) ≤ a3) (ua3 : a3 ≤ 2147483647) {w0 : Int} (ew0 : h.2.2 7 1 = w0) (lw0 : (-1) ≤ w0) (uw0 : w0 ≤ 200) {w1 : Int} (ew1 : h.2.2 7 2 = w1) (lw1 : 0 ≤ w1) (uw1 : w1 ≤ 199) : ∀ N : Nat, (∀ (h1 : JH) (x4 x5 x6 y0 : Int), Gd G h1 → Kp [(7, 2), (7, 3), (7, 4), (10, 0), (11, 0), (12, 0), (13, 0), (14, 0), (15, 0), (16, 0), (17, 0)] h h1 → (-2147483648) ≤ a3 → a3 ≤ 2147483647 → 0 ≤ x4 → x4 ≤ 3 → (-1) ≤ x5 → x5 ≤ 199 → 0 ≤ x6 → x6 ≤ 3 → (w0 + (-y0)) ≤ 0 → ((-x5) + (-y0)) ≤ 1 → h1.2.2 7 1 = y0 → (-1) ≤ y0 → y0 ≤ 200 → ((-x6) + 3) < N → jEv (jOk 13) none (fun _ => 0) c79_0 0 0 (fun v h' => ∃ r F : Int, v = some (0, r) ∧ (-1) ≤ r ∧ r ≤ 199 ∧ Gd G h' ∧ Kp [(7, 2), (7, 3), (7, 4), (10, 0), (11, 0), (12, 0), (13, 0), (14, 0), (15, 0), (16, 0), (17, 0)] h h' ∧ h'.2.2 7 1 = F ∧ ((-F) + w0) ≤ 0 ∧ ((-F) + (-r)) ≤ 1) (c79_68, [(2, 7), (2, 1), (0, 7), (0, a3), (0, x4), (0, x5), (0, x6)], [], h1, 0, 0)) := by
  intro N
  induction N with
  | zero => exact fun h1 x4 x5 x6 y0 g1 k1 b0 b1 b2 b3 b4 b5 b6 b7 b8 b9 b10 b11 b12 hm => absurd hm (by omega)
  | succ N ih =>
    show _
    intro h1 x4 x5 x6 y0 g1 k1 b0 b1 b2 b3 b4 b5 b6 b7 b8 b9 ey0 ly0 uy0 hm
    refine ev_iload rfl ?_
    refine ev_aload_n rfl ?_
    refine ev_iload rfl ?_
    refine ev_in (d := 12) (a := 0) (b := 0) (cd' := c141_0) (m := 2) (L0 := [(2, 1), (0, x4)]) (jcall_v (A := [(0, x4)]) (S' := [(0, x6)]) (r := 1) rfl (g1.lt ad1) (g1.tg ad1) (Nat.le_of_ble_eq_true rfl)) (by decide) ml141 pp141 (Nat.le_of_ble_eq_true rfl) rfl (by decide) (by decide) ?_
    refine ev_aload_n rfl ?_
    refine ev_iload_n rfl ?_
    refine ev_in (d := 11) (a := 0) (b := 0) (cd' := c140_0) (m := 2) (L0 := [(2, 1), (0, x4)]) (jcall_v (A := [(0, x4)]) (S' := []) (r := 1) rfl (g1.lt ad1) (g1.tg ad1) (Nat.le_of_ble_eq_true rfl)) (by decide) ml140 pp140 (Nat.le_of_ble_eq_true rfl) rfl (by decide) (by decide) ?_
    refine ev_iload_n rfl ?_
    refine ev_iflt f140_16 (fun c20038 => absurd c20038 (by omega)) (fun c20038 => ?_)
    refine ev_iload_n rfl ?_
    refine ev_aload_n rfl ?_
    obtain ⟨v20039, ev20039, lv20039, uv20039⟩ := g1.rd ad1 (show 0 < 8 by decide) rf1_0
    refine g_getv (r := 1) (v := v20039) g1 ad1 (by decide) ft10_0 ev20039 ?_
    refine ev_icmpge f140_16 (fun c20040 => ?_) (fun c20040 => ?_)
    · refine ev_iconst ?_
      refine ev_ret rfl (by decide) (by decide) ?_
      show jEv _ _ _ _ _ _ _ (_, [(2, 1), (0, x4)], [(0, 0)], _, _, _)
      refine ev_ifeq f141_17 (fun c20041 => ?_) (fun c20041 => absurd c20041 (by omega))
      refine ev_iconst ?_
      refine ev_ret rfl (by decide) (by decide) ?_
      show jEv _ _ _ _ _ _ _ (_, [(2, 7), (2, 1), (0, 7), (0, a3), (0, x4), (0, x5), (0, x6)], [(0, 0), (0, x6)], _, _, _)
      refine ev_icmpge f79_126 (fun c20042 => ?_) (fun c20042 => absurd c20042 (by omega))
      refine ev_aload_n rfl ?_
      refine ev_bipush ?_
      refine ev_call (jcall_v (A := [(0, 41)]) (S' := []) (r := 7) rfl (g1.lt ad7) (g1.tg ad7) (Nat.le_of_ble_eq_true rfl)) (jOk_le (by decide) (s71 g1 (by omega) (by omega) (ey0) (by omega) (by omega))) (by decide) (by decide) (fun w20043 h20043 q20043 => ?_)
      obtain ⟨v20044, rfl, g20043, kk20043, ev20044, p20043_0⟩ := q20043
      have bv20044 := g20043.rg ad7 (i := 1) (by decide) rf7_1
      rw [ev20044] at bv20044
      have k20043 := k1.tr kk20043 (by decide)
      show jEv _ _ _ _ _ _ _ (_, [(2, 7), (2, 1), (0, 7), (0, a3), (0, x4), (0, x5), (0, x6)], [], _, _, _)
      refine ev_aload_n rfl ?_
      refine g_getv (r := 7) (v := v20044) g20043 ad7 (by decide) ft5_1 (ev20044) ?_
      refine ev_ifge f79_144 (fun c20045 => ?_) (fun c20045 => ?_)
      · refine ev_iconst ?_
        exact ev_ret rfl (by decide) (by decide) ⟨_, _, rfl, by omega, by omega, g20043, k20043, (ev20044), by omega, by omega⟩
      · refine ev_iload rfl ?_
        refine ev_ifge f79_146 (fun c20046 => ?_) (fun c20046 => absurd c20046 (by omega))
        refine ev_aload_n rfl ?_
        refine g_getp (r := 7) (c := 11) g20043 ad7 (by decide) (by decide) rf7_8 ft5_8 ?_
        refine ev_iload rfl ?_
        refine ev_iload rfl ?_
        refine g_iast g20043 ad11 rt11 (fun _ => rfl) (by omega) (by omega) (by omega) (by omega) (fun h20047 e20047 g20047 => ?_)
        have k20047 := k20043.wr e20047 rfl
        refine ev_aload_n rfl ?_
        refine g_getp (r := 7) (c := 15) g20047 ad7 (by decide) (by decide) rf7_12 ft5_12 ?_
        refine ev_iload rfl ?_
        refine ev_dup2 (by decide) (by decide) ?_
        refine g_iald g20047 ad15 rt15 (by omega) (by omega) (fun v20048 ev20048 lv20048 uv20048 => ?_)
        refine ev_iconst ?_
        refine ev_iload rfl ?_
        refine g_ishlB (a' := 1) (a := 1) (b := 3) (hi := 8) (by omega) (by omega) (by omega) (by omega) (by decide) (by decide) (fun v20049 ev20049 lv20049 uv20049 => ?_)
        refine g_iorG (fun v20050 ev20050 lv20050 uv20050 => ?_)
        refine g_iast g20047 ad15 rt15 (fun _ => rfl) (by omega) (by omega) (by omega) (by omega) (fun h20051 e20051 g20051 => ?_)
        have k20051 := k20047.wr e20051 rfl
        refine ev_iload rfl ?_
        exact ev_ret rfl (by decide) (by decide) ⟨_, _, rfl, by omega, by omega, g20051, k20051, (((jw_ne e20051 (Or.inl (by decide))).trans ((jw_ne e20047 (Or.inl (by decide))).trans ev20044))), by omega, by omega⟩
    · refine ev_iconst ?_
      refine ev_goto f140_17 ?_
      refine ev_ret rfl (by decide) (by decide) ?_
      show jEv _ _ _ _ _ _ _ (_, [(2, 1), (0, x4)], [(0, 1)], _, _, _)
      refine ev_ifeq f141_17 (fun c20052 => absurd c20052 (by omega)) (fun c20052 => ?_)
      refine ev_aload_n rfl ?_
      refine g_getp (r := 1) (c := 2) g1 ad1 (by decide) (by decide) rf1_3 ft10_3 ?_
      refine ev_iload_n rfl ?_
      refine g_iald g1 ad2 rt2 (by omega) (by omega) (fun v20053 ev20053 lv20053 uv20053 => ?_)
      have xv20053 := (g1.ex.1.1 (x4 : Int).toNat (by rw [(ev20039)]; omega))
      rw [ev20053] at xv20053
      refine ev_goto f141_18 ?_
      refine ev_ret rfl (by decide) (by decide) ?_
      show jEv _ _ _ _ _ _ _ (_, [(2, 7), (2, 1), (0, 7), (0, a3), (0, x4), (0, x5), (0, x6)], [(0, v20053), (0, x6)], _, _, _)
      refine ev_icmpge f79_126 (fun c20054 => ?_) (fun c20054 => ?_)
      · refine ev_aload_n rfl ?_
        refine ev_bipush ?_
        refine ev_call (jcall_v (A := [(0, 41)]) (S' := []) (r := 7) rfl (g1.lt ad7) (g1.tg ad7) (Nat.le_of_ble_eq_true rfl)) (jOk_le (by decide) (s71 g1 (by omega) (by omega) (ey0) (by omega) (by omega))) (by decide) (by decide) (fun w20055 h20055 q20055 => ?_)
        obtain ⟨v20056, rfl, g20055, kk20055, ev20056, p20055_0⟩ := q20055
        have bv20056 := g20055.rg ad7 (i := 1) (by decide) rf7_1
        rw [ev20056] at bv20056
        have k20055 := k1.tr kk20055 (by decide)
        show jEv _ _ _ _ _ _ _ (_, [(2, 7), (2, 1), (0, 7), (0, a3), (0, x4), (0, x5), (0, x6)], [], _, _, _)
        refine ev_aload_n rfl ?_
        refine g_getv (r := 7) (v := v20056) g20055 ad7 (by decide) ft5_1 (ev20056) ?_
        refine ev_ifge f79_144 (fun c20057 => ?_) (fun c20057 => ?_)
        · refine ev_iconst ?_
          exact ev_ret rfl (by decide) (by decide) ⟨_, _, rfl, by omega, by omega, g20055, k20055, (ev20056), by omega, by omega⟩
        · refine ev_iload rfl ?_
          refine ev_ifge f79_146 (fun c20058 => ?_) (fun c20058 => absurd c20058 (by omega))
          refine ev_aload_n rfl ?_
          refine g_getp (r := 7) (c := 11) g20055 ad7 (by decide) (by decide) rf7_8 ft5_8 ?_
          refine ev_iload rfl ?_
          refine ev_iload rfl ?_
          refine g_iast g20055 ad11 rt11 (fun _ => rfl) (by omega) (by omega) (by omega) (by omega) (fun h20059 e20059 g20059 => ?_)
          have k20059 := k20055.wr e20059 rfl
          refine ev_aload_n rfl ?_
          refine g_getp (r := 7) (c := 15) g20059 ad7 (by decide) (by decide) rf7_12 ft5_12 ?_
          refine ev_iload rfl ?_
          refine ev_dup2 (by decide) (by decide) ?_
          refine g_iald g20059 ad15 rt15 (by omega) (by omega) (fun v20060 ev20060 lv20060 uv20060 => ?_)
          refine ev_iconst ?_
          refine ev_iload rfl ?_
          refine g_ishlB (a' := 1) (a := 1) (b := 3) (hi := 8) (by omega) (by omega) (by omega) (by omega) (by decide) (by decide) (fun v20061 ev20061 lv20061 uv20061 => ?_)
          refine g_iorG (fun v20062 ev20062 lv20062 uv20062 => ?_)
          refine g_iast g20059 ad15 rt15 (fun _ => rfl) (by omega) (by omega) (by omega) (by omega) (fun h20063 e20063 g20063 => ?_)
          have k20063 := k20059.wr e20063 rfl
          refine ev_iload rfl ?_
          exact ev_ret rfl (by decide) (by decide) ⟨_, _, rfl, by omega, by omega, g20063, k20063, (((jw_ne e20063 (Or.inl (by decide))).trans ((jw_ne e20059 (Or.inl (by decide))).trans ev20056))), by omega, by omega⟩
      · refine ev_aload_n rfl ?_
        refine g_getv (r := 7) (v := y0) g1 ad7 (by decide) ft5_1 (ey0) ?_
        refine ev_ifge f79_126 (fun c20064 => ?_) (fun c20064 => ?_)
        · refine ev_aload_n rfl ?_
          refine ev_bipush ?_
          refine ev_call (jcall_v (A := [(0, 41)]) (S' := []) (r := 7) rfl (g1.lt ad7) (g1.tg ad7) (Nat.le_of_ble_eq_true rfl)) (jOk_le (by decide) (s71 g1 (by omega) (by omega) (ey0) (by omega) (by omega))) (by decide) (by decide) (fun w20065 h20065 q20065 => ?_)
          obtain ⟨v20066, rfl, g20065, kk20065, ev20066, p20065_0⟩ := q20065
          have bv20066 := g20065.rg ad7 (i := 1) (by decide) rf7_1
          rw [ev20066] at bv20066
          have k20065 := k1.tr kk20065 (by decide)
          show jEv _ _ _ _ _ _ _ (_, [(2, 7), (2, 1), (0, 7), (0, a3), (0, x4), (0, x5), (0, x6)], [], _, _, _)
          refine ev_aload_n rfl ?_
          refine g_getv (r := 7) (v := v20066) g20065 ad7 (by decide) ft5_1 (ev20066) ?_
          refine ev_ifge f79_144 (fun c20067 => ?_) (fun c20067 => absurd c20067 (by omega))
          refine ev_iconst ?_
          exact ev_ret rfl (by decide) (by decide) ⟨_, _, rfl, by omega, by omega, g20065, k20065, (ev20066), by omega, by omega⟩
        · refine ev_iload rfl ?_
          refine ev_ifle f79_97 (fun c20068 => ?_) (fun c20068 => ?_)
          · refine ev_aload_n rfl ?_
            refine ev_iload rfl ?_
            refine ev_iload rfl ?_
            refine ev_iconst ?_
            refine ev_aload_n rfl ?_
            refine ev_aload_n rfl ?_
            refine ev_iload_n rfl ?_
            refine ev_iconst ?_
            refine ev_iadd (r := 8) (by decide) ?_
            refine ev_iload_n rfl ?_
            refine ev_iconst ?_
            refine ev_iload rfl ?_
            refine g_ishlB (a' := 1) (a := 1) (b := 3) (hi := 8) (by omega) (by omega) (by omega) (by omega) (by decide) (by decide) (fun v20069 ev20069 lv20069 uv20069 => ?_)
            refine g_iorG (fun v20070 ev20070 lv20070 uv20070 => ?_)
            refine ev_call (jcall_v (A := [(0, v20070), (0, 8), (2, 1)]) (S' := [(0, 0), (0, x6), (0, x5), (2, 7)]) (r := 7) rfl (g1.lt ad7) (g1.tg ad7) (Nat.le_of_ble_eq_true rfl)) (jOk_le (by decide) (s74_8 g1 (by omega) (by omega) (ey0) (by omega) (by omega))) (by decide) (by decide) (fun w20071 h20071 q20071 => ?_)
            obtain ⟨v20073, v20072, rfl, lv20073, uv20073, g20071, kk20071, ev20072, p20071_0, p20071_1⟩ := q20071
            have bv20072 := g20071.rg ad7 (i := 1) (by decide) rf7_1
            rw [ev20072] at bv20072
            have k20071 := k1.tr kk20071 (by decide)
            show jEv _ _ _ _ _ _ _ (_, [(2, 7), (2, 1), (0, 7), (0, a3), (0, x4), (0, x5), (0, x6)], [(0, v20073), (0, 0), (0, x6), (0, x5), (2, 7)], _, _, _)
            refine ev_call (jcall_v (A := [(0, v20073), (0, 0), (0, x6), (0, x5)]) (S' := []) (r := 7) rfl (g20071.lt ad7) (g20071.tg ad7) (Nat.le_of_ble_eq_true rfl)) (jOk_le (by decide) (s80 g20071 (by omega) (by omega) (by omega) (by omega) (by omega) (by omega) (by omega) (by omega))) (by decide) (by decide) (fun w20074 h20074 q20074 => ?_)
            obtain ⟨rfl, g20074, kk20074⟩ := q20074
            have k20074 := k20071.tr kk20074 (by decide)
            show jEv _ _ _ _ _ _ _ (_, [(2, 7), (2, 1), (0, 7), (0, a3), (0, x4), (0, x5), (0, x6)], [], _, _, _)
            refine ev_iinc (w := (x6 + 1)) (L' := [(2, 7), (2, 1), (0, 7), (0, a3), (0, x4), (0, x5), (0, (x6 + 1))]) rfl (by unfold w32; omega) rfl ?_
            refine ev_goto f79_68 ?_
            exact ih _ _ _ _ _ g20074 k20074 (by omega) (by omega) (by omega) (by omega) (by omega) (by omega) (by omega) (by omega) (by omega) (by omega) (((kk20074.v (by decide)).trans ev20072)) (by omega) (by omega) (by omega)
          · refine ev_aload_n rfl ?_
            refine ev_bipush ?_
            refine ev_call (jcall_v (A := [(0, 44)]) (S' := []) (r := 7) rfl (g1.lt ad7) (g1.tg ad7) (Nat.le_of_ble_eq_true rfl)) (jOk_le (by decide) (s71 g1 (by omega) (by omega) (ey0) (by omega) (by omega))) (by decide) (by decide) (fun w20075 h20075 q20075 => ?_)
            obtain ⟨v20076, rfl, g20075, kk20075, ev20076, p20075_0⟩ := q20075
            have bv20076 := g20075.rg ad7 (i := 1) (by decide) rf7_1
            rw [ev20076] at bv20076
            have k20075 := k1.tr kk20075 (by decide)
            show jEv _ _ _ _ _ _ _ (_, [(2, 7), (2, 1), (0, 7), (0, a3), (0, x4), (0, x5), (0, x6)], [], _, _, _)
            refine ev_aload_n rfl ?_
            refine ev_iload rfl ?_
            refine ev_iload rfl ?_
            refine ev_iconst ?_
            refine ev_aload_n rfl ?_
            refine ev_aload_n rfl ?_
            refine ev_iload_n rfl ?_
            refine ev_iconst ?_
            refine ev_iadd (r := 8) (by decide) ?_
            refine ev_iload_n rfl ?_
            refine ev_iconst ?_
            refine ev_iload rfl ?_
            refine g_ishlB (a' := 1) (a := 1) (b := 3) (hi := 8) (by omega) (by omega) (by omega) (by omega) (by decide) (by decide) (fun v20077 ev20077 lv20077 uv20077 => ?_)
            refine g_iorG (fun v20078 ev20078 lv20078 uv20078 => ?_)
            refine ev_call (jcall_v (A := [(0, v20078), (0, 8), (2, 1)]) (S' := [(0, 0), (0, x6), (0, x5), (2, 7)]) (r := 7) rfl (g20075.lt ad7) (g20075.tg ad7) (Nat.le_of_ble_eq_true rfl)) (jOk_le (by decide) (s74_8 g20075 (by omega) (by omega) (ev20076) (by omega) (by omega))) (by decide) (by decide) (fun w20079 h20079 q20079 => ?_)
            obtain ⟨v20081, v20080, rfl, lv20081, uv20081, g20079, kk20079, ev20080, p20079_0, p20079_1⟩ := q20079
            have bv20080 := g20079.rg ad7 (i := 1) (by decide) rf7_1
            rw [ev20080] at bv20080
            have k20079 := k20075.tr kk20079 (by decide)
            show jEv _ _ _ _ _ _ _ (_, [(2, 7), (2, 1), (0, 7), (0, a3), (0, x4), (0, x5), (0, x6)], [(0, v20081), (0, 0), (0, x6), (0, x5), (2, 7)], _, _, _)
            refine ev_call (jcall_v (A := [(0, v20081), (0, 0), (0, x6), (0, x5)]) (S' := []) (r := 7) rfl (g20079.lt ad7) (g20079.tg ad7) (Nat.le_of_ble_eq_true rfl)) (jOk_le (by decide) (s80 g20079 (by omega) (by omega) (by omega) (by omega) (by omega) (by omega) (by omega) (by omega))) (by decide) (by decide) (fun w20082 h20082 q20082 => ?_)
            obtain ⟨rfl, g20082, kk20082⟩ := q20082
            have k20082 := k20079.tr kk20082 (by decide)
            show jEv _ _ _ _ _ _ _ (_, [(2, 7), (2, 1), (0, 7), (0, a3), (0, x4), (0, x5), (0, x6)], [], _, _, _)
            refine ev_iinc (w := (x6 + 1)) (L' := [(2, 7), (2, 1), (0, 7), (0, a3), (0, x4), (0, x5), (0, (x6 + 1))]) rfl (by unfold w32; omega) rfl ?_
            refine ev_goto f79_68 ?_
            exact ih _ _ _ _ _ g20082 k20082 (by omega) (by omega) (by omega) (by omega) (by omega) (by omega) (by omega) (by omega) (by omega) (by omega) (((kk20082.v (by decide)).trans ev20080)) (by omega) (by omega) (by omega)
set_option maxHeartbeats 4000000 in
theorem s79_7 {G : GH} {h : JH} (g : Gd G h) {a3 : Int} (la3 : (-2147483648) ≤ a3) (ua3 : a3 ≤ 2147483647) {w0 : Int} (ew0 : h.2.2 7 1 = w0) (lw0 : (-1) ≤ w0) (uw0 : w0 ≤ 200) {w1 : Int} (ew1 : h.2.2 7 2 = w1) (lw1 : 0 ≤ w1) (uw1 : w1 ≤ 199) : jOk 14 0 0 79 [(2, 7), (2, 1), (0, 7), (0, a3)] h (fun v h' => ∃ r F : Int, v = some (0, r) ∧ (-1) ≤ r ∧ r ≤ 199 ∧ Gd G h' ∧ Kp [(7, 2), (7, 3), (7, 4), (10, 0), (11, 0), (12, 0), (13, 0), (14, 0), (15, 0), (16, 0), (17, 0)] h h' ∧ h'.2.2 7 1 = F ∧ ((-F) + w0) ≤ 0 ∧ ((-F) + (-r)) ≤ 1) := by
  refine ⟨by decide, by rw [ml79]; exact Nat.le_of_ble_eq_true rfl, ?_⟩
  rw [ml79, pp79]
  show jEv _ none _ c79_0 0 0 _ (c79_0, [(2, 7), (2, 1), (0, 7), (0, a3), (9, 0), (9, 0), (9, 0)], [], h, 0, 0)
  have k0 := Kp.rf [(7, 2), (7, 3), (7, 4), (10, 0), (11, 0), (12, 0), (13, 0), (14, 0), (15, 0), (16, 0), (17, 0)] h
  refine ev_aload_n rfl ?_
  refine ev_dup (by decide) ?_
  refine g_getv (r := 7) (v := w1) g ad7 (by decide) ft5_2 (ew1) ?_
  refine ev_iconst ?_
  refine ev_iadd (r := (w1 + 1)) (by unfold w32; omega) ?_
  refine g_putf (r := 7) g ad7 (by decide) ft5_2 (by decide) (fun e => absurd e nz5_2) rf7_2 (by decide) (by omega) (by omega) (fun h20083 e20083 g20083 => ?_)
  have k20083 := k0.wr e20083 rfl
  refine ev_aload_n rfl ?_
  refine ev_in (d := 12) (a := 0) (b := 0) (cd' := c68_0) (m := 1) (L0 := [(2, 7)]) (jcall_v (A := []) (S' := []) (r := 7) rfl (g20083.lt ad7) (g20083.tg ad7) (Nat.le_of_ble_eq_true rfl)) (by decide) ml68 pp68 (Nat.le_of_ble_eq_true rfl) rfl (by decide) (by decide) ?_
  refine ev_aload_n rfl ?_
  refine g_getv (r := 7) (v := (w1 + 1)) g20083 ad7 (by decide) ft5_2 ((jw_eq e20083)) ?_
  refine ev_aload_n rfl ?_
  obtain ⟨v20084, ev20084, lv20084, uv20084⟩ := g20083.rd ad7 (show 0 < 15 by decide) rf7_0
  refine g_getv (r := 7) (v := v20084) g20083 ad7 (by decide) ft5_0 ev20084 ?_
  refine ev_icmpge f68_27 (fun c20085 => ?_) (fun c20085 => ?_)
  · refine ev_iconst ?_
    refine ev_ret rfl (by decide) (by decide) ?_
    show jEv _ _ _ _ _ _ _ (_, [(2, 7), (2, 1), (0, 7), (0, a3), (9, 0), (9, 0), (9, 0)], [(0, (-1))], _, _, _)
    refine ev_bipush ?_
    refine ev_isub (r := (-98)) (by decide) ?_
    refine ev_istore (L' := [(2, 7), (2, 1), (0, 7), (0, a3), (0, (-98)), (9, 0), (9, 0)]) (Nat.le_of_ble_eq_true rfl) rfl ?_
    refine ev_aload_n rfl ?_
    refine ev_iload rfl ?_
    refine ev_in (d := 12) (a := 0) (b := 0) (cd' := c140_0) (m := 2) (L0 := [(2, 1), (0, (-98))]) (jcall_v (A := [(0, (-98))]) (S' := []) (r := 1) rfl (g20083.lt ad1) (g20083.tg ad1) (Nat.le_of_ble_eq_true rfl)) (by decide) ml140 pp140 (Nat.le_of_ble_eq_true rfl) rfl (by decide) (by decide) ?_
    refine ev_iload_n rfl ?_
    refine ev_iflt f140_16 (fun c20086 => ?_) (fun c20086 => absurd c20086 (by omega))
    refine ev_iconst ?_
    refine ev_ret rfl (by decide) (by decide) ?_
    show jEv _ _ _ _ _ _ _ (_, [(2, 7), (2, 1), (0, 7), (0, a3), (0, (-98)), (9, 0), (9, 0)], [(0, 0)], _, _, _)
    refine ev_ifeq f79_37 (fun c20087 => ?_) (fun c20087 => absurd c20087 (by omega))
    refine ev_aload_n rfl ?_
    refine ev_in (d := 12) (a := 0) (b := 0) (cd' := c70_0) (m := 1) (L0 := [(2, 7)]) (jcall_v (A := []) (S' := []) (r := 7) rfl (g20083.lt ad7) (g20083.tg ad7) (Nat.le_of_ble_eq_true rfl)) (by decide) ml70 pp70 (Nat.le_of_ble_eq_true rfl) rfl (by decide) (by decide) ?_
    refine ev_aload_n rfl ?_
    refine g_getv (r := 7) (v := w0) g20083 ad7 (by decide) ft5_1 (((jw_ne e20083 (Or.inr (by decide))).trans ew0)) ?_
    refine ev_ifge f70_15 (fun c20088 => ?_) (fun c20088 => ?_)
    · refine ev_ret rfl (by decide) (by decide) ?_
      show jEv _ _ _ _ _ _ _ (_, [(2, 7), (2, 1), (0, 7), (0, a3), (0, (-98)), (9, 0), (9, 0)], [], _, _, _)
      refine ev_iconst ?_
      exact ev_ret rfl (by decide) (by decide) ⟨_, _, rfl, by omega, by omega, g20083, k20083, (((jw_ne e20083 (Or.inr (by decide))).trans ew0)), by omega, by omega⟩
    · refine ev_aload_n rfl ?_
      refine ev_aload_n rfl ?_
      refine g_getv (r := 7) (v := (w1 + 1)) g20083 ad7 (by decide) ft5_2 ((jw_eq e20083)) ?_
      refine g_putf (r := 7) g20083 ad7 (by decide) ft5_1 (by decide) (fun e => absurd e nz5_1) rf7_1 (by decide) (by omega) (by omega) (fun h20089 e20089 g20089 => ?_)
      have k20089 := k20083.wr e20089 rfl
      refine ev_ret rfl (by decide) (by decide) ?_
      show jEv _ _ _ _ _ _ _ (_, [(2, 7), (2, 1), (0, 7), (0, a3), (0, (-98)), (9, 0), (9, 0)], [], _, _, _)
      refine ev_iconst ?_
      exact ev_ret rfl (by decide) (by decide) ⟨_, _, rfl, by omega, by omega, g20089, k20089, ((jw_eq e20089)), by omega, by omega⟩
  · refine ev_aload_n rfl ?_
    refine g_getp (r := 7) (c := 8) g20083 ad7 (by decide) (by decide) rf7_5 ft5_5 ?_
    refine ev_aload_n rfl ?_
    refine g_getv (r := 7) (v := (w1 + 1)) g20083 ad7 (by decide) ft5_2 ((jw_eq e20083)) ?_
    refine g_bald g20083 ad8 rt8 (by omega) (by omega) (fun v20090 ev20090 lv20090 uv20090 => ?_)
    refine ev_sipush ?_
    refine g_iandB (b := 255) (by omega) (by omega) (by decide) (fun v20091 ev20091 lv20091 uv20091 => ?_)
    refine ev_goto f68_28 ?_
    refine ev_ret rfl (by decide) (by decide) ?_
    show jEv _ _ _ _ _ _ _ (_, [(2, 7), (2, 1), (0, 7), (0, a3), (9, 0), (9, 0), (9, 0)], [(0, v20091)], _, _, _)
    refine ev_bipush ?_
    refine ev_isub (r := (v20091 - 97)) (by unfold w32; omega) ?_
    refine ev_istore (L' := [(2, 7), (2, 1), (0, 7), (0, a3), (0, (v20091 - 97)), (9, 0), (9, 0)]) (Nat.le_of_ble_eq_true rfl) rfl ?_
    refine ev_aload_n rfl ?_
    refine ev_iload rfl ?_
    refine ev_in (d := 12) (a := 0) (b := 0) (cd' := c140_0) (m := 2) (L0 := [(2, 1), (0, (v20091 - 97))]) (jcall_v (A := [(0, (v20091 - 97))]) (S' := []) (r := 1) rfl (g20083.lt ad1) (g20083.tg ad1) (Nat.le_of_ble_eq_true rfl)) (by decide) ml140 pp140 (Nat.le_of_ble_eq_true rfl) rfl (by decide) (by decide) ?_
    refine ev_iload_n rfl ?_
    refine ev_iflt f140_16 (fun c20092 => ?_) (fun c20092 => ?_)
    · refine ev_iconst ?_
      refine ev_ret rfl (by decide) (by decide) ?_
      show jEv _ _ _ _ _ _ _ (_, [(2, 7), (2, 1), (0, 7), (0, a3), (0, (v20091 - 97)), (9, 0), (9, 0)], [(0, 0)], _, _, _)
      refine ev_ifeq f79_37 (fun c20093 => ?_) (fun c20093 => absurd c20093 (by omega))
      refine ev_aload_n rfl ?_
      refine ev_in (d := 12) (a := 0) (b := 0) (cd' := c70_0) (m := 1) (L0 := [(2, 7)]) (jcall_v (A := []) (S' := []) (r := 7) rfl (g20083.lt ad7) (g20083.tg ad7) (Nat.le_of_ble_eq_true rfl)) (by decide) ml70 pp70 (Nat.le_of_ble_eq_true rfl) rfl (by decide) (by decide) ?_
      refine ev_aload_n rfl ?_
      refine g_getv (r := 7) (v := w0) g20083 ad7 (by decide) ft5_1 (((jw_ne e20083 (Or.inr (by decide))).trans ew0)) ?_
      refine ev_ifge f70_15 (fun c20094 => ?_) (fun c20094 => ?_)
      · refine ev_ret rfl (by decide) (by decide) ?_
        show jEv _ _ _ _ _ _ _ (_, [(2, 7), (2, 1), (0, 7), (0, a3), (0, (v20091 - 97)), (9, 0), (9, 0)], [], _, _, _)
        refine ev_iconst ?_
        exact ev_ret rfl (by decide) (by decide) ⟨_, _, rfl, by omega, by omega, g20083, k20083, (((jw_ne e20083 (Or.inr (by decide))).trans ew0)), by omega, by omega⟩
      · refine ev_aload_n rfl ?_
        refine ev_aload_n rfl ?_
        refine g_getv (r := 7) (v := (w1 + 1)) g20083 ad7 (by decide) ft5_2 ((jw_eq e20083)) ?_
        refine g_putf (r := 7) g20083 ad7 (by decide) ft5_1 (by decide) (fun e => absurd e nz5_1) rf7_1 (by decide) (by omega) (by omega) (fun h20095 e20095 g20095 => ?_)
        have k20095 := k20083.wr e20095 rfl
        refine ev_ret rfl (by decide) (by decide) ?_
        show jEv _ _ _ _ _ _ _ (_, [(2, 7), (2, 1), (0, 7), (0, a3), (0, (v20091 - 97)), (9, 0), (9, 0)], [], _, _, _)
        refine ev_iconst ?_
        exact ev_ret rfl (by decide) (by decide) ⟨_, _, rfl, by omega, by omega, g20095, k20095, ((jw_eq e20095)), by omega, by omega⟩
    · refine ev_iload_n rfl ?_
      refine ev_aload_n rfl ?_
      obtain ⟨v20096, ev20096, lv20096, uv20096⟩ := g20083.rd ad1 (show 0 < 8 by decide) rf1_0
      refine g_getv (r := 1) (v := v20096) g20083 ad1 (by decide) ft10_0 ev20096 ?_
      refine ev_icmpge f140_16 (fun c20097 => ?_) (fun c20097 => ?_)
      · refine ev_iconst ?_
        refine ev_ret rfl (by decide) (by decide) ?_
        show jEv _ _ _ _ _ _ _ (_, [(2, 7), (2, 1), (0, 7), (0, a3), (0, (v20091 - 97)), (9, 0), (9, 0)], [(0, 0)], _, _, _)
        refine ev_ifeq f79_37 (fun c20098 => ?_) (fun c20098 => absurd c20098 (by omega))
        refine ev_aload_n rfl ?_
        refine ev_in (d := 12) (a := 0) (b := 0) (cd' := c70_0) (m := 1) (L0 := [(2, 7)]) (jcall_v (A := []) (S' := []) (r := 7) rfl (g20083.lt ad7) (g20083.tg ad7) (Nat.le_of_ble_eq_true rfl)) (by decide) ml70 pp70 (Nat.le_of_ble_eq_true rfl) rfl (by decide) (by decide) ?_
        refine ev_aload_n rfl ?_
        refine g_getv (r := 7) (v := w0) g20083 ad7 (by decide) ft5_1 (((jw_ne e20083 (Or.inr (by decide))).trans ew0)) ?_
        refine ev_ifge f70_15 (fun c20099 => ?_) (fun c20099 => ?_)
        · refine ev_ret rfl (by decide) (by decide) ?_
          show jEv _ _ _ _ _ _ _ (_, [(2, 7), (2, 1), (0, 7), (0, a3), (0, (v20091 - 97)), (9, 0), (9, 0)], [], _, _, _)
          refine ev_iconst ?_
          exact ev_ret rfl (by decide) (by decide) ⟨_, _, rfl, by omega, by omega, g20083, k20083, (((jw_ne e20083 (Or.inr (by decide))).trans ew0)), by omega, by omega⟩
        · refine ev_aload_n rfl ?_
          refine ev_aload_n rfl ?_
          refine g_getv (r := 7) (v := (w1 + 1)) g20083 ad7 (by decide) ft5_2 ((jw_eq e20083)) ?_
          refine g_putf (r := 7) g20083 ad7 (by decide) ft5_1 (by decide) (fun e => absurd e nz5_1) rf7_1 (by decide) (by omega) (by omega) (fun h20100 e20100 g20100 => ?_)
          have k20100 := k20083.wr e20100 rfl
          refine ev_ret rfl (by decide) (by decide) ?_
          show jEv _ _ _ _ _ _ _ (_, [(2, 7), (2, 1), (0, 7), (0, a3), (0, (v20091 - 97)), (9, 0), (9, 0)], [], _, _, _)
          refine ev_iconst ?_
          exact ev_ret rfl (by decide) (by decide) ⟨_, _, rfl, by omega, by omega, g20100, k20100, ((jw_eq e20100)), by omega, by omega⟩
      · refine ev_iconst ?_
        refine ev_goto f140_17 ?_
        refine ev_ret rfl (by decide) (by decide) ?_
        show jEv _ _ _ _ _ _ _ (_, [(2, 7), (2, 1), (0, 7), (0, a3), (0, (v20091 - 97)), (9, 0), (9, 0)], [(0, 1)], _, _, _)
        refine ev_ifeq f79_37 (fun c20101 => absurd c20101 (by omega)) (fun c20101 => ?_)
        refine ev_iload_n rfl ?_
        refine ev_iload rfl ?_
        refine g_ishrG (fun v20102 ev20102 lv20102 uv20102 => ?_)
        refine ev_iconst ?_
        refine g_iandB (b := 1) (by omega) (by omega) (by decide) (fun v20103 ev20103 lv20103 uv20103 => ?_)
        refine ev_ifeq f79_43 (fun c20104 => ?_) (fun c20104 => ?_)
        · refine ev_aload_n rfl ?_
          refine ev_dup (by decide) ?_
          refine g_getv (r := 7) (v := (w1 + 1)) g20083 ad7 (by decide) ft5_2 ((jw_eq e20083)) ?_
          refine ev_iconst ?_
          refine ev_iadd (r := (w1 + 2)) (by unfold w32; omega) ?_
          refine g_putf (r := 7) g20083 ad7 (by decide) ft5_2 (by decide) (fun e => absurd e nz5_2) rf7_2 (by decide) (by omega) (by omega) (fun h20105 e20105 g20105 => ?_)
          have k20105 := k20083.wr e20105 rfl
          refine ev_aload_n rfl ?_
          refine ev_iload_n rfl ?_
          refine ev_call (jcall_v (A := [(0, 7)]) (S' := []) (r := 7) rfl (g20105.lt ad7) (g20105.tg ad7) (Nat.le_of_ble_eq_true rfl)) (jOk_le (by decide) (s72 g20105 (by omega) (by omega) (((jw_ne e20105 (Or.inr (by decide))).trans ((jw_ne e20083 (Or.inr (by decide))).trans ew0))) (by omega) (by omega))) (by decide) (by decide) (fun w20106 h20106 q20106 => ?_)
          obtain ⟨v20107, rfl, g20106, kk20106, ev20107, p20106_0⟩ := q20106
          have bv20107 := g20106.rg ad7 (i := 1) (by decide) rf7_1
          rw [ev20107] at bv20107
          have k20106 := k20105.tr kk20106 (by decide)
          show jEv _ _ _ _ _ _ _ (_, [(2, 7), (2, 1), (0, 7), (0, a3), (0, (v20091 - 97)), (9, 0), (9, 0)], [], _, _, _)
          refine ev_aload_n rfl ?_
          refine ev_iconst ?_
          refine ev_call (jcall_v (A := [(0, 2)]) (S' := []) (r := 7) rfl (g20106.lt ad7) (g20106.tg ad7) (Nat.le_of_ble_eq_true rfl)) (jOk_le (by decide) (s73 g20106 (by omega) (by omega) (ev20107) (by omega) (by omega))) (by decide) (by decide) (fun w20108 h20108 q20108 => ?_)
          obtain ⟨v20110, v20109, rfl, lv20110, uv20110, g20108, kk20108, ev20109, p20108_0, p20108_1⟩ := q20108
          have bv20109 := g20108.rg ad7 (i := 1) (by decide) rf7_1
          rw [ev20109] at bv20109
          have k20108 := k20106.tr kk20108 (by decide)
          show jEv _ _ _ _ _ _ _ (_, [(2, 7), (2, 1), (0, 7), (0, a3), (0, (v20091 - 97)), (9, 0), (9, 0)], [(0, v20110)], _, _, _)
          refine ev_istore (L' := [(2, 7), (2, 1), (0, 7), (0, a3), (0, (v20091 - 97)), (0, v20110), (9, 0)]) (Nat.le_of_ble_eq_true rfl) rfl ?_
          refine ev_iconst ?_
          refine ev_istore (L' := [(2, 7), (2, 1), (0, 7), (0, a3), (0, (v20091 - 97)), (0, v20110), (0, 0)]) (Nat.le_of_ble_eq_true rfl) rfl ?_
          exact (s79_7_l la3 ua3 ew0 lw0 uw0 ew1 lw1 uw1 8) _ _ _ _ _ g20108 k20108 (by omega) (by omega) (by omega) (by omega) (by omega) (by omega) (by omega) (by omega) (by omega) (by omega) (ev20109) (by omega) (by omega) (by omega)
        · refine ev_aload_n rfl ?_
          refine ev_in (d := 12) (a := 0) (b := 0) (cd' := c70_0) (m := 1) (L0 := [(2, 7)]) (jcall_v (A := []) (S' := []) (r := 7) rfl (g20083.lt ad7) (g20083.tg ad7) (Nat.le_of_ble_eq_true rfl)) (by decide) ml70 pp70 (Nat.le_of_ble_eq_true rfl) rfl (by decide) (by decide) ?_
          refine ev_aload_n rfl ?_
          refine g_getv (r := 7) (v := w0) g20083 ad7 (by decide) ft5_1 (((jw_ne e20083 (Or.inr (by decide))).trans ew0)) ?_
          refine ev_ifge f70_15 (fun c20111 => ?_) (fun c20111 => ?_)
          · refine ev_ret rfl (by decide) (by decide) ?_
            show jEv _ _ _ _ _ _ _ (_, [(2, 7), (2, 1), (0, 7), (0, a3), (0, (v20091 - 97)), (9, 0), (9, 0)], [], _, _, _)
            refine ev_iconst ?_
            exact ev_ret rfl (by decide) (by decide) ⟨_, _, rfl, by omega, by omega, g20083, k20083, (((jw_ne e20083 (Or.inr (by decide))).trans ew0)), by omega, by omega⟩
          · refine ev_aload_n rfl ?_
            refine ev_aload_n rfl ?_
            refine g_getv (r := 7) (v := (w1 + 1)) g20083 ad7 (by decide) ft5_2 ((jw_eq e20083)) ?_
            refine g_putf (r := 7) g20083 ad7 (by decide) ft5_1 (by decide) (fun e => absurd e nz5_1) rf7_1 (by decide) (by omega) (by omega) (fun h20112 e20112 g20112 => ?_)
            have k20112 := k20083.wr e20112 rfl
            refine ev_ret rfl (by decide) (by decide) ?_
            show jEv _ _ _ _ _ _ _ (_, [(2, 7), (2, 1), (0, 7), (0, a3), (0, (v20091 - 97)), (9, 0), (9, 0)], [], _, _, _)
            refine ev_iconst ?_
            exact ev_ret rfl (by decide) (by decide) ⟨_, _, rfl, by omega, by omega, g20112, k20112, ((jw_eq e20112)), by omega, by omega⟩
/-! s74_7  -/
set_option maxHeartbeats 4000000 in
theorem s74_7 {G : GH} {h : JH} (g : Gd G h) {a3 : Int} (la3 : (-2147483648) ≤ a3) (ua3 : a3 ≤ 2147483647) {w0 : Int} (ew0 : h.2.2 7 1 = w0) (lw0 : (-1) ≤ w0) (uw0 : w0 ≤ 200) : jOk 15 0 0 74 [(2, 7), (2, 1), (0, 7), (0, a3)] h (fun v h' => ∃ r F : Int, v = some (0, r) ∧ (-1) ≤ r ∧ r ≤ 199 ∧ Gd G h' ∧ Kp [(7, 2), (7, 3), (7, 4), (10, 0), (11, 0), (12, 0), (13, 0), (14, 0), (15, 0), (16, 0), (17, 0)] h h' ∧ h'.2.2 7 1 = F ∧ ((-F) + w0) ≤ 0 ∧ ((-F) + (-r)) ≤ 1) := by
  refine ⟨by decide, by rw [ml74]; exact Nat.le_of_ble_eq_true rfl, ?_⟩
  rw [ml74, pp74]
  show jEv _ none _ c74_0 0 0 _ (c74_0, [(2, 7), (2, 1), (0, 7), (0, a3), (9, 0)], [], h, 0, 0)
  have k0 := Kp.rf [(7, 2), (7, 3), (7, 4), (10, 0), (11, 0), (12, 0), (13, 0), (14, 0), (15, 0), (16, 0), (17, 0)] h
  refine ev_aload_n rfl ?_
  refine g_getv (r := 7) (v := w0) g ad7 (by decide) ft5_1 (ew0) ?_
  refine ev_ifge f74_13 (fun c20179 => ?_) (fun c20179 => ?_)
  · refine ev_aload_n rfl ?_
    refine ev_in (d := 13) (a := 0) (b := 0) (cd' := c70_0) (m := 1) (L0 := [(2, 7)]) (jcall_v (A := []) (S' := []) (r := 7) rfl (g.lt ad7) (g.tg ad7) (Nat.le_of_ble_eq_true rfl)) (by decide) ml70 pp70 (Nat.le_of_ble_eq_true rfl) rfl (by decide) (by decide) ?_
    refine ev_aload_n rfl ?_
    refine g_getv (r := 7) (v := w0) g ad7 (by decide) ft5_1 (ew0) ?_
    refine ev_ifge f70_15 (fun c20180 => ?_) (fun c20180 => absurd c20180 (by omega))
    refine ev_ret rfl (by decide) (by decide) ?_
    show jEv _ _ _ _ _ _ _ (_, [(2, 7), (2, 1), (0, 7), (0, a3), (9, 0)], [], _, _, _)
    refine ev_iconst ?_
    exact ev_ret rfl (by decide) (by decide) ⟨_, _, rfl, by omega, by omega, g, k0, (ew0), by omega, by omega⟩
  · refine ev_iload_n rfl ?_
    refine ev_bipush ?_
    refine ev_icmple f74_19 (fun c20181 => ?_) (fun c20181 => absurd c20181 (by omega))
    refine ev_aload_n rfl ?_
    refine ev_in (d := 13) (a := 0) (b := 0) (cd' := c68_0) (m := 1) (L0 := [(2, 7)]) (jcall_v (A := []) (S' := []) (r := 7) rfl (g.lt ad7) (g.tg ad7) (Nat.le_of_ble_eq_true rfl)) (by decide) ml68 pp68 (Nat.le_of_ble_eq_true rfl) rfl (by decide) (by decide) ?_
    refine ev_aload_n rfl ?_
    obtain ⟨v20182, ev20182, lv20182, uv20182⟩ := g.rd ad7 (show 2 < 15 by decide) rf7_2
    refine g_getv (r := 7) (v := v20182) g ad7 (by decide) ft5_2 ev20182 ?_
    refine ev_aload_n rfl ?_
    obtain ⟨v20183, ev20183, lv20183, uv20183⟩ := g.rd ad7 (show 0 < 15 by decide) rf7_0
    refine g_getv (r := 7) (v := v20183) g ad7 (by decide) ft5_0 ev20183 ?_
    refine ev_icmpge f68_27 (fun c20184 => ?_) (fun c20184 => ?_)
    · refine ev_iconst ?_
      refine ev_ret rfl (by decide) (by decide) ?_
      show jEv _ _ _ _ _ _ _ (_, [(2, 7), (2, 1), (0, 7), (0, a3), (9, 0)], [(0, (-1))], _, _, _)
      refine ev_istore (L' := [(2, 7), (2, 1), (0, 7), (0, a3), (0, (-1))]) (Nat.le_of_ble_eq_true rfl) rfl ?_
      refine ev_iload rfl ?_
      refine ev_bipush ?_
      refine ev_icmpne f74_40 (fun c20185 => ?_) (fun c20185 => absurd c20185 (by omega))
      refine ev_iload rfl ?_
      refine ev_bipush ?_
      refine ev_icmpne f74_55 (fun c20186 => ?_) (fun c20186 => absurd c20186 (by omega))
      refine ev_iload rfl ?_
      refine ev_bipush ?_
      refine ev_icmplt f74_78 (fun c20187 => ?_) (fun c20187 => absurd c20187 (by omega))
      refine ev_aload_n rfl ?_
      refine ev_call (jcall_v (A := []) (S' := []) (r := 7) rfl (g.lt ad7) (g.tg ad7) (Nat.le_of_ble_eq_true rfl)) (jOk_le (by decide) (s75 g (ew0) (by omega) (by omega))) (by decide) (by decide) (fun w20188 h20188 q20188 => ?_)
      obtain ⟨v20190, v20189, rfl, lv20190, uv20190, g20188, kk20188, ev20189, p20188_0, p20188_1⟩ := q20188
      have bv20189 := g20188.rg ad7 (i := 1) (by decide) rf7_1
      rw [ev20189] at bv20189
      have k20188 := k0.tr kk20188 (by decide)
      show jEv _ _ _ _ _ _ _ (_, [(2, 7), (2, 1), (0, 7), (0, a3), (0, (-1))], [(0, v20190)], _, _, _)
      exact ev_ret rfl (by decide) (by decide) ⟨_, _, rfl, by omega, by omega, g20188, k20188, (ev20189), by omega, by omega⟩
    · refine ev_aload_n rfl ?_
      refine g_getp (r := 7) (c := 8) g ad7 (by decide) (by decide) rf7_5 ft5_5 ?_
      refine ev_aload_n rfl ?_
      refine g_getv (r := 7) (v := v20182) g ad7 (by decide) ft5_2 (ev20182) ?_
      refine g_bald g ad8 rt8 (by omega) (by omega) (fun v20191 ev20191 lv20191 uv20191 => ?_)
      refine ev_sipush ?_
      refine g_iandB (b := 255) (by omega) (by omega) (by decide) (fun v20192 ev20192 lv20192 uv20192 => ?_)
      refine ev_goto f68_28 ?_
      refine ev_ret rfl (by decide) (by decide) ?_
      show jEv _ _ _ _ _ _ _ (_, [(2, 7), (2, 1), (0, 7), (0, a3), (9, 0)], [(0, v20192)], _, _, _)
      refine ev_istore (L' := [(2, 7), (2, 1), (0, 7), (0, a3), (0, v20192)]) (Nat.le_of_ble_eq_true rfl) rfl ?_
      refine ev_iload rfl ?_
      refine ev_bipush ?_
      refine ev_icmpne f74_40 (fun c20193 => ?_) (fun c20193 => ?_)
      · refine ev_iload rfl ?_
        refine ev_bipush ?_
        refine ev_icmpne f74_55 (fun c20194 => ?_) (fun c20194 => ?_)
        · refine ev_iload rfl ?_
          refine ev_bipush ?_
          refine ev_icmplt f74_78 (fun c20195 => ?_) (fun c20195 => ?_)
          · refine ev_aload_n rfl ?_
            refine ev_call (jcall_v (A := []) (S' := []) (r := 7) rfl (g.lt ad7) (g.tg ad7) (Nat.le_of_ble_eq_true rfl)) (jOk_le (by decide) (s75 g (ew0) (by omega) (by omega))) (by decide) (by decide) (fun w20196 h20196 q20196 => ?_)
            obtain ⟨v20198, v20197, rfl, lv20198, uv20198, g20196, kk20196, ev20197, p20196_0, p20196_1⟩ := q20196
            have bv20197 := g20196.rg ad7 (i := 1) (by decide) rf7_1
            rw [ev20197] at bv20197
            have k20196 := k0.tr kk20196 (by decide)
            show jEv _ _ _ _ _ _ _ (_, [(2, 7), (2, 1), (0, 7), (0, a3), (0, v20192)], [(0, v20198)], _, _, _)
            exact ev_ret rfl (by decide) (by decide) ⟨_, _, rfl, by omega, by omega, g20196, k20196, (ev20197), by omega, by omega⟩
          · refine ev_iload rfl ?_
            refine ev_bipush ?_
            refine ev_icmpge f74_78 (fun c20199 => ?_) (fun c20199 => ?_)
            · refine ev_aload_n rfl ?_
              refine ev_call (jcall_v (A := []) (S' := []) (r := 7) rfl (g.lt ad7) (g.tg ad7) (Nat.le_of_ble_eq_true rfl)) (jOk_le (by decide) (s75 g (ew0) (by omega) (by omega))) (by decide) (by decide) (fun w20200 h20200 q20200 => ?_)
              obtain ⟨v20202, v20201, rfl, lv20202, uv20202, g20200, kk20200, ev20201, p20200_0, p20200_1⟩ := q20200
              have bv20201 := g20200.rg ad7 (i := 1) (by decide) rf7_1
              rw [ev20201] at bv20201
              have k20200 := k0.tr kk20200 (by decide)
              show jEv _ _ _ _ _ _ _ (_, [(2, 7), (2, 1), (0, 7), (0, a3), (0, v20192)], [(0, v20202)], _, _, _)
              exact ev_ret rfl (by decide) (by decide) ⟨_, _, rfl, by omega, by omega, g20200, k20200, (ev20201), by omega, by omega⟩
            · refine ev_aload_n rfl ?_
              refine ev_iload_n rfl ?_
              refine ev_iload_n rfl ?_
              refine ev_call (jcall_v (A := [(0, a3), (0, 7)]) (S' := []) (r := 7) rfl (g.lt ad7) (g.tg ad7) (Nat.le_of_ble_eq_true rfl)) (jOk_le (by decide) (s77 g (by omega) (by omega) (by omega) (by omega) (ew0) (by omega) (by omega))) (by decide) (by decide) (fun w20203 h20203 q20203 => ?_)
              obtain ⟨v20205, v20204, rfl, lv20205, uv20205, g20203, kk20203, ev20204, p20203_0, p20203_1⟩ := q20203
              have bv20204 := g20203.rg ad7 (i := 1) (by decide) rf7_1
              rw [ev20204] at bv20204
              have k20203 := k0.tr kk20203 (by decide)
              show jEv _ _ _ _ _ _ _ (_, [(2, 7), (2, 1), (0, 7), (0, a3), (0, v20192)], [(0, v20205)], _, _, _)
              refine ev_goto f74_82 ?_
              exact ev_ret rfl (by decide) (by decide) ⟨_, _, rfl, by omega, by omega, g20203, k20203, (ev20204), by omega, by omega⟩
        · refine ev_aload_n rfl ?_
          refine ev_aload_n rfl ?_
          refine ev_iload_n rfl ?_
          refine ev_iload_n rfl ?_
          refine ev_call (jcall_v (A := [(0, a3), (0, 7), (2, 1)]) (S' := []) (r := 7) rfl (g.lt ad7) (g.tg ad7) (Nat.le_of_ble_eq_true rfl)) (jOk_le (by decide) (s79_7 g (by omega) (by omega) (ew0) (by omega) (by omega) (ev20182) (by omega) (by omega))) (by decide) (by decide) (fun w20206 h20206 q20206 => ?_)
          obtain ⟨v20208, v20207, rfl, lv20208, uv20208, g20206, kk20206, ev20207, p20206_0, p20206_1⟩ := q20206
          have bv20207 := g20206.rg ad7 (i := 1) (by decide) rf7_1
          rw [ev20207] at bv20207
          have k20206 := k0.tr kk20206 (by decide)
          show jEv _ _ _ _ _ _ _ (_, [(2, 7), (2, 1), (0, 7), (0, a3), (0, v20192)], [(0, v20208)], _, _, _)
          exact ev_ret rfl (by decide) (by decide) ⟨_, _, rfl, by omega, by omega, g20206, k20206, (ev20207), by omega, by omega⟩
      · refine ev_aload_n rfl ?_
        refine ev_aload_n rfl ?_
        refine ev_iload_n rfl ?_
        refine ev_iload_n rfl ?_
        refine ev_call (jcall_v (A := [(0, a3), (0, 7), (2, 1)]) (S' := []) (r := 7) rfl (g.lt ad7) (g.tg ad7) (Nat.le_of_ble_eq_true rfl)) (jOk_le (by decide) (s78_7 g (by omega) (by omega) (ew0) (by omega) (by omega) (ev20182) (by omega) (by omega))) (by decide) (by decide) (fun w20209 h20209 q20209 => ?_)
        obtain ⟨v20211, v20210, rfl, lv20211, uv20211, g20209, kk20209, ev20210, p20209_0, p20209_1⟩ := q20209
        have bv20210 := g20209.rg ad7 (i := 1) (by decide) rf7_1
        rw [ev20210] at bv20210
        have k20209 := k0.tr kk20209 (by decide)
        show jEv _ _ _ _ _ _ _ (_, [(2, 7), (2, 1), (0, 7), (0, a3), (0, v20192)], [(0, v20211)], _, _, _)
        exact ev_ret rfl (by decide) (by decide) ⟨_, _, rfl, by omega, by omega, g20209, k20209, (ev20210), by omega, by omega⟩
