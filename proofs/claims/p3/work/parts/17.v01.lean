set_option maxHeartbeats 4000000 in
theorem s269o {G : GH} {h : JH} (g : Gd G h) {l0 : Int} (ll0 : 0 ≤ l0) (ul0 : l0 ≤ 6) {b0 : Int} (lb0 : 1 ≤ b0) (ub0 : b0 ≤ 30000000) {a1 : Int} (la1 : 0 ≤ a1) (ua1 : a1 ≤ 202) {w0 : Int} (ew0 : h.2.2 42 21 = w0) (lw0 : 100 ≤ w0) (uw0 : w0 ≤ 200000000) (F0 : (b0 + w0) ≤ 200000000) : jOk 3 0 0 269 [(2, 42), (0, a1), (0, 1)] h (fun v h' => PI G [(42, 21), (42, 22)] h 0 (-1) 200 v h' ∧ (∀ r, v = some (0, r) → 0 ≤ r → Ad h l0 a1 r) ∧ (∀ r, v = some (0, r) → RO h' w0 b0 r)) := by
  refine ⟨by decide, by rw [ml269]; exact Nat.le_of_ble_eq_true rfl, ?_⟩
  rw [ml269, pp269]
  show jEv _ none _ c269_0 0 0 _ (c269_0, [(2, 42), (0, a1), (0, 1), (9, 0), (9, 0), (9, 0), (9, 0)], [], h, 0, 0)
  have k0 := Kp.rf [(42, 21), (42, 22)] h
  refine ev_iload_n rfl ?_
  refine ev_istore_n (L' := [(2, 42), (0, a1), (0, 1), (0, a1), (9, 0), (9, 0), (9, 0)]) (Nat.le_of_ble_eq_true rfl) rfl ?_
  refine ev_aload_n rfl ?_
  refine ev_iload_n rfl ?_
  refine ev_in (d := 1) (a := 0) (b := 0) (cd' := c264_0) (m := 2) (L0 := [(2, 42), (0, a1)]) (jcall_v (A := [(0, a1)]) (S' := []) (r := 42) rfl (g.lt ad42) (g.tg ad42) (Nat.le_of_ble_eq_true rfl)) (by decide) ml264 pp264 (Nat.le_of_ble_eq_true rfl) rfl (by decide) (by decide) ?_
  refine ev_iload_n rfl ?_
  refine ev_aload_n rfl ?_
  obtain ⟨v70708, ev70708, lv70708, uv70708⟩ := g.rd ad42 (show 17 < 66 by decide) rf42_17
  refine g_getv (r := 42) (v := v70708) g ad42 (by decide) ft12_17 ev70708 ?_
  refine ev_icmpge f264_17 (fun c70709 => ?_) (fun c70709 => ?_)
  · refine ev_iconst ?_
    refine ev_ret rfl (by decide) (by decide) ?_
    show jEv _ _ _ _ _ _ _ (_, [(2, 42), (0, a1), (0, 1), (0, a1), (9, 0), (9, 0), (9, 0)], [(0, (-1))], _, _, _)
    refine ev_bipush ?_
    refine ev_icmpne f269_16 (fun c70710 => ?_) (fun c70710 => absurd c70710 (by omega))
    refine ev_iconst ?_
    refine ev_istore (L' := [(2, 42), (0, a1), (0, 1), (0, a1), (0, 0), (9, 0), (9, 0)]) (Nat.le_of_ble_eq_true rfl) rfl ?_
    refine ev_iload rfl ?_
    refine ev_ifeq f269_27 (fun c70711 => ?_) (fun c70711 => absurd c70711 (by omega))
    refine ev_aload_n rfl ?_
    refine ev_iload_n rfl ?_
    refine ev_in (d := 1) (a := 0) (b := 0) (cd' := c265_0) (m := 2) (L0 := [(2, 42), (0, a1)]) (jcall_v (A := [(0, a1)]) (S' := []) (r := 42) rfl (g.lt ad42) (g.tg ad42) (Nat.le_of_ble_eq_true rfl)) (by decide) ml265 pp265 (Nat.le_of_ble_eq_true rfl) rfl (by decide) (by decide) ?_
    refine ev_aload_n rfl ?_
    refine ev_iload_n rfl ?_
    refine ev_in (d := 0) (a := 0) (b := 0) (cd' := c264_0) (m := 2) (L0 := [(2, 42), (0, a1)]) (jcall_v (A := [(0, a1)]) (S' := []) (r := 42) rfl (g.lt ad42) (g.tg ad42) (Nat.le_of_ble_eq_true rfl)) (by decide) ml264 pp264 (Nat.le_of_ble_eq_true rfl) rfl (by decide) (by decide) ?_
    refine ev_iload_n rfl ?_
    refine ev_aload_n rfl ?_
    refine g_getv (r := 42) (v := v70708) g ad42 (by decide) ft12_17 (ev70708) ?_
    refine ev_icmpge f264_17 (fun c70712 => ?_) (fun c70712 => absurd c70712 (by omega))
    refine ev_iconst ?_
    refine ev_ret rfl (by decide) (by decide) ?_
    show jEv _ _ _ _ _ _ _ (_, [(2, 42), (0, a1)], [(0, (-1))], _, _, _)
    refine ev_bipush ?_
    refine ev_bipush ?_
    refine ev_in (d := 0) (a := 0) (b := 0) (cd' := c242_0) (m := 3) (L0 := [(0, (-1)), (0, 48), (0, 57)]) (jcall_s (A := [(0, 57), (0, 48), (0, (-1))]) (S' := []) (by decide) rfl (Nat.le_of_ble_eq_true rfl)) (by decide) ml242 pp242 (Nat.le_of_ble_eq_true rfl) rfl (by decide) (by decide) ?_
    refine ev_iload_n rfl ?_
    refine ev_iload_n rfl ?_
    refine ev_icmplt f242_14 (fun c70713 => ?_) (fun c70713 => absurd c70713 (by omega))
    refine ev_iconst ?_
    refine ev_ret rfl (by decide) (by decide) ?_
    show jEv _ _ _ _ _ _ _ (_, [(2, 42), (0, a1)], [(0, 0)], _, _, _)
    refine ev_ret rfl (by decide) (by decide) ?_
    show jEv _ _ _ _ _ _ _ (_, [(2, 42), (0, a1), (0, 1), (0, a1), (0, 0), (9, 0), (9, 0)], [(0, 0)], _, _, _)
    refine ev_ifne f269_41 (fun c70714 => absurd c70714 (by omega)) (fun c70714 => ?_)
    refine ev_aload_n rfl ?_
    refine ev_iload_n rfl ?_
    refine ev_in (d := 1) (a := 0) (b := 0) (cd' := c266_0) (m := 2) (L0 := [(2, 42), (0, a1)]) (jcall_v (A := [(0, a1)]) (S' := []) (r := 42) rfl (g.lt ad42) (g.tg ad42) (Nat.le_of_ble_eq_true rfl)) (by decide) ml266 pp266 (Nat.le_of_ble_eq_true rfl) rfl (by decide) (by decide) ?_
    refine ev_aload_n rfl ?_
    refine ev_iload_n rfl ?_
    refine g_putf (r := 42) g ad42 (by decide) ft12_20 (by decide) (fun e => absurd e nz12_20) rf42_20 (by decide) (by omega) (by omega) (fun h70715 e70715 g70715 => ?_)
    have k70715 := k0.wr e70715 rfl
    refine ev_iconst ?_
    refine ev_ret rfl (by decide) (by decide) ?_
    show jEv _ _ _ _ _ _ _ (_, [(2, 42), (0, a1), (0, 1), (0, a1), (0, 0), (9, 0), (9, 0)], [(0, (-1))], _, _, _)
    exact ev_ret rfl (by decide) (by decide) ⟨⟨_, rfl, by omega, by omega, g70715, k70715⟩, fun r hr h0 => by cases hr; exfalso; omega, fun r hr => by cases hr; exact ⟨_, (((jw_ne e70715 (Or.inr (by decide))).trans ew0)), by omega, by omega, fun h0 => by exfalso; omega⟩⟩
  · refine ev_aload_n rfl ?_
    refine g_getp (r := 42) (c := 54) g ad42 (by decide) (by decide) rf42_16 ft12_16 ?_
    refine ev_iload_n rfl ?_
    refine g_bald g ad54 rt54 (by omega) (by omega) (fun v70716 ev70716 lv70716 uv70716 => ?_)
    refine ev_goto f264_18 ?_
    refine ev_ret rfl (by decide) (by decide) ?_
    show jEv _ _ _ _ _ _ _ (_, [(2, 42), (0, a1), (0, 1), (0, a1), (9, 0), (9, 0), (9, 0)], [(0, v70716)], _, _, _)
    refine ev_bipush ?_
    refine ev_icmpne f269_16 (fun c70717 => ?_) (fun c70717 => ?_)
    · refine ev_iconst ?_
      refine ev_istore (L' := [(2, 42), (0, a1), (0, 1), (0, a1), (0, 0), (9, 0), (9, 0)]) (Nat.le_of_ble_eq_true rfl) rfl ?_
      refine ev_iload rfl ?_
      refine ev_ifeq f269_27 (fun c70718 => ?_) (fun c70718 => absurd c70718 (by omega))
      refine ev_aload_n rfl ?_
      refine ev_iload_n rfl ?_
      refine ev_in (d := 1) (a := 0) (b := 0) (cd' := c265_0) (m := 2) (L0 := [(2, 42), (0, a1)]) (jcall_v (A := [(0, a1)]) (S' := []) (r := 42) rfl (g.lt ad42) (g.tg ad42) (Nat.le_of_ble_eq_true rfl)) (by decide) ml265 pp265 (Nat.le_of_ble_eq_true rfl) rfl (by decide) (by decide) ?_
      refine ev_aload_n rfl ?_
      refine ev_iload_n rfl ?_
      refine ev_in (d := 0) (a := 0) (b := 0) (cd' := c264_0) (m := 2) (L0 := [(2, 42), (0, a1)]) (jcall_v (A := [(0, a1)]) (S' := []) (r := 42) rfl (g.lt ad42) (g.tg ad42) (Nat.le_of_ble_eq_true rfl)) (by decide) ml264 pp264 (Nat.le_of_ble_eq_true rfl) rfl (by decide) (by decide) ?_
      refine ev_iload_n rfl ?_
      refine ev_aload_n rfl ?_
      refine g_getv (r := 42) (v := v70708) g ad42 (by decide) ft12_17 (ev70708) ?_
      refine ev_icmpge f264_17 (fun c70719 => absurd c70719 (by omega)) (fun c70719 => ?_)
      refine ev_aload_n rfl ?_
      refine g_getp (r := 42) (c := 54) g ad42 (by decide) (by decide) rf42_16 ft12_16 ?_
      refine ev_iload_n rfl ?_
      refine g_baldv (v := v70716) g ad54 (by omega) (by omega) (ev70716) ?_
      refine ev_goto f264_18 ?_
      refine ev_ret rfl (by decide) (by decide) ?_
      show jEv _ _ _ _ _ _ _ (_, [(2, 42), (0, a1)], [(0, v70716)], _, _, _)
      refine ev_bipush ?_
      refine ev_bipush ?_
      refine ev_in (d := 0) (a := 0) (b := 0) (cd' := c242_0) (m := 3) (L0 := [(0, v70716), (0, 48), (0, 57)]) (jcall_s (A := [(0, 57), (0, 48), (0, v70716)]) (S' := []) (by decide) rfl (Nat.le_of_ble_eq_true rfl)) (by decide) ml242 pp242 (Nat.le_of_ble_eq_true rfl) rfl (by decide) (by decide) ?_
      refine ev_iload_n rfl ?_
      refine ev_iload_n rfl ?_
      refine ev_icmplt f242_14 (fun c70720 => ?_) (fun c70720 => ?_)
      · refine ev_iconst ?_
        refine ev_ret rfl (by decide) (by decide) ?_
        show jEv _ _ _ _ _ _ _ (_, [(2, 42), (0, a1)], [(0, 0)], _, _, _)
        refine ev_ret rfl (by decide) (by decide) ?_
        show jEv _ _ _ _ _ _ _ (_, [(2, 42), (0, a1), (0, 1), (0, a1), (0, 0), (9, 0), (9, 0)], [(0, 0)], _, _, _)
        refine ev_ifne f269_41 (fun c70721 => absurd c70721 (by omega)) (fun c70721 => ?_)
        refine ev_aload_n rfl ?_
        refine ev_iload_n rfl ?_
        refine ev_in (d := 1) (a := 0) (b := 0) (cd' := c266_0) (m := 2) (L0 := [(2, 42), (0, a1)]) (jcall_v (A := [(0, a1)]) (S' := []) (r := 42) rfl (g.lt ad42) (g.tg ad42) (Nat.le_of_ble_eq_true rfl)) (by decide) ml266 pp266 (Nat.le_of_ble_eq_true rfl) rfl (by decide) (by decide) ?_
        refine ev_aload_n rfl ?_
        refine ev_iload_n rfl ?_
        refine g_putf (r := 42) g ad42 (by decide) ft12_20 (by decide) (fun e => absurd e nz12_20) rf42_20 (by decide) (by omega) (by omega) (fun h70722 e70722 g70722 => ?_)
        have k70722 := k0.wr e70722 rfl
        refine ev_iconst ?_
        refine ev_ret rfl (by decide) (by decide) ?_
        show jEv _ _ _ _ _ _ _ (_, [(2, 42), (0, a1), (0, 1), (0, a1), (0, 0), (9, 0), (9, 0)], [(0, (-1))], _, _, _)
        exact ev_ret rfl (by decide) (by decide) ⟨⟨_, rfl, by omega, by omega, g70722, k70722⟩, fun r hr h0 => by cases hr; exfalso; omega, fun r hr => by cases hr; exact ⟨_, (((jw_ne e70722 (Or.inr (by decide))).trans ew0)), by omega, by omega, fun h0 => by exfalso; omega⟩⟩
      · refine ev_iload_n rfl ?_
        refine ev_iload_n rfl ?_
        refine ev_icmpgt f242_14 (fun c70723 => ?_) (fun c70723 => ?_)
        · refine ev_iconst ?_
          refine ev_ret rfl (by decide) (by decide) ?_
          show jEv _ _ _ _ _ _ _ (_, [(2, 42), (0, a1)], [(0, 0)], _, _, _)
          refine ev_ret rfl (by decide) (by decide) ?_
          show jEv _ _ _ _ _ _ _ (_, [(2, 42), (0, a1), (0, 1), (0, a1), (0, 0), (9, 0), (9, 0)], [(0, 0)], _, _, _)
          refine ev_ifne f269_41 (fun c70724 => absurd c70724 (by omega)) (fun c70724 => ?_)
          refine ev_aload_n rfl ?_
          refine ev_iload_n rfl ?_
          refine ev_in (d := 1) (a := 0) (b := 0) (cd' := c266_0) (m := 2) (L0 := [(2, 42), (0, a1)]) (jcall_v (A := [(0, a1)]) (S' := []) (r := 42) rfl (g.lt ad42) (g.tg ad42) (Nat.le_of_ble_eq_true rfl)) (by decide) ml266 pp266 (Nat.le_of_ble_eq_true rfl) rfl (by decide) (by decide) ?_
          refine ev_aload_n rfl ?_
          refine ev_iload_n rfl ?_
          refine g_putf (r := 42) g ad42 (by decide) ft12_20 (by decide) (fun e => absurd e nz12_20) rf42_20 (by decide) (by omega) (by omega) (fun h70725 e70725 g70725 => ?_)
          have k70725 := k0.wr e70725 rfl
          refine ev_iconst ?_
          refine ev_ret rfl (by decide) (by decide) ?_
          show jEv _ _ _ _ _ _ _ (_, [(2, 42), (0, a1), (0, 1), (0, a1), (0, 0), (9, 0), (9, 0)], [(0, (-1))], _, _, _)
          exact ev_ret rfl (by decide) (by decide) ⟨⟨_, rfl, by omega, by omega, g70725, k70725⟩, fun r hr h0 => by cases hr; exfalso; omega, fun r hr => by cases hr; exact ⟨_, (((jw_ne e70725 (Or.inr (by decide))).trans ew0)), by omega, by omega, fun h0 => by exfalso; omega⟩⟩
        · refine ev_iconst ?_
          refine ev_goto f242_15 ?_
          refine ev_ret rfl (by decide) (by decide) ?_
          show jEv _ _ _ _ _ _ _ (_, [(2, 42), (0, a1)], [(0, 1)], _, _, _)
          refine ev_ret rfl (by decide) (by decide) ?_
          show jEv _ _ _ _ _ _ _ (_, [(2, 42), (0, a1), (0, 1), (0, a1), (0, 0), (9, 0), (9, 0)], [(0, 1)], _, _, _)
          refine ev_ifne f269_41 (fun c70726 => ?_) (fun c70726 => absurd c70726 (by omega))
          refine ev_iconst ?_
          refine ev_istore (L' := [(2, 42), (0, a1), (0, 1), (0, a1), (0, 0), (0, 0), (9, 0)]) (Nat.le_of_ble_eq_true rfl) rfl ?_
          refine ev_iconst ?_
          refine ev_istore (L' := [(2, 42), (0, a1), (0, 1), (0, a1), (0, 0), (0, 0), (0, 0)]) (Nat.le_of_ble_eq_true rfl) rfl ?_
          refine ev_iload rfl ?_
          refine ev_iconst ?_
          refine ev_icmpge f269_86 (fun c70727 => absurd c70727 (by omega)) (fun c70727 => ?_)
          refine ev_aload_n rfl ?_
          refine ev_iload_n rfl ?_
          refine ev_in (d := 1) (a := 0) (b := 0) (cd' := c265_0) (m := 2) (L0 := [(2, 42), (0, a1)]) (jcall_v (A := [(0, a1)]) (S' := []) (r := 42) rfl (g.lt ad42) (g.tg ad42) (Nat.le_of_ble_eq_true rfl)) (by decide) ml265 pp265 (Nat.le_of_ble_eq_true rfl) rfl (by decide) (by decide) ?_
          refine ev_aload_n rfl ?_
          refine ev_iload_n rfl ?_
          refine ev_in (d := 0) (a := 0) (b := 0) (cd' := c264_0) (m := 2) (L0 := [(2, 42), (0, a1)]) (jcall_v (A := [(0, a1)]) (S' := []) (r := 42) rfl (g.lt ad42) (g.tg ad42) (Nat.le_of_ble_eq_true rfl)) (by decide) ml264 pp264 (Nat.le_of_ble_eq_true rfl) rfl (by decide) (by decide) ?_
          refine ev_iload_n rfl ?_
          refine ev_aload_n rfl ?_
          refine g_getv (r := 42) (v := v70708) g ad42 (by decide) ft12_17 (ev70708) ?_
          refine ev_icmpge f264_17 (fun c70728 => absurd c70728 (by omega)) (fun c70728 => ?_)
          refine ev_aload_n rfl ?_
          refine g_getp (r := 42) (c := 54) g ad42 (by decide) (by decide) rf42_16 ft12_16 ?_
          refine ev_iload_n rfl ?_
          refine g_baldv (v := v70716) g ad54 (by omega) (by omega) (ev70716) ?_
          refine ev_goto f264_18 ?_
          refine ev_ret rfl (by decide) (by decide) ?_
          show jEv _ _ _ _ _ _ _ (_, [(2, 42), (0, a1)], [(0, v70716)], _, _, _)
          refine ev_bipush ?_
          refine ev_bipush ?_
          refine ev_in (d := 0) (a := 0) (b := 0) (cd' := c242_0) (m := 3) (L0 := [(0, v70716), (0, 48), (0, 57)]) (jcall_s (A := [(0, 57), (0, 48), (0, v70716)]) (S' := []) (by decide) rfl (Nat.le_of_ble_eq_true rfl)) (by decide) ml242 pp242 (Nat.le_of_ble_eq_true rfl) rfl (by decide) (by decide) ?_
          refine ev_iload_n rfl ?_
          refine ev_iload_n rfl ?_
          refine ev_icmplt f242_14 (fun c70729 => absurd c70729 (by omega)) (fun c70729 => ?_)
          refine ev_iload_n rfl ?_
          refine ev_iload_n rfl ?_
          refine ev_icmpgt f242_14 (fun c70730 => absurd c70730 (by omega)) (fun c70730 => ?_)
          refine ev_iconst ?_
          refine ev_goto f242_15 ?_
          refine ev_ret rfl (by decide) (by decide) ?_
          show jEv _ _ _ _ _ _ _ (_, [(2, 42), (0, a1)], [(0, 1)], _, _, _)
          refine ev_ret rfl (by decide) (by decide) ?_
          show jEv _ _ _ _ _ _ _ (_, [(2, 42), (0, a1), (0, 1), (0, a1), (0, 0), (0, 0), (0, 0)], [(0, 1)], _, _, _)
          refine ev_ifeq f269_86 (fun c70731 => absurd c70731 (by omega)) (fun c70731 => ?_)
          refine ev_bipush ?_
          refine ev_iload rfl ?_
          refine ev_imul (r := 0) (by decide) ?_
          refine ev_aload_n rfl ?_
          refine ev_iload_n rfl ?_
          refine ev_in (d := 1) (a := 0) (b := 0) (cd' := c264_0) (m := 2) (L0 := [(2, 42), (0, a1)]) (jcall_v (A := [(0, a1)]) (S' := [(0, 0)]) (r := 42) rfl (g.lt ad42) (g.tg ad42) (Nat.le_of_ble_eq_true rfl)) (by decide) ml264 pp264 (Nat.le_of_ble_eq_true rfl) rfl (by decide) (by decide) ?_
          refine ev_iload_n rfl ?_
          refine ev_aload_n rfl ?_
          refine g_getv (r := 42) (v := v70708) g ad42 (by decide) ft12_17 (ev70708) ?_
          refine ev_icmpge f264_17 (fun c70732 => absurd c70732 (by omega)) (fun c70732 => ?_)
          refine ev_aload_n rfl ?_
          refine g_getp (r := 42) (c := 54) g ad42 (by decide) (by decide) rf42_16 ft12_16 ?_
          refine ev_iload_n rfl ?_
          refine g_baldv (v := v70716) g ad54 (by omega) (by omega) (ev70716) ?_
          refine ev_goto f264_18 ?_
          refine ev_ret rfl (by decide) (by decide) ?_
          show jEv _ _ _ _ _ _ _ (_, [(2, 42), (0, a1), (0, 1), (0, a1), (0, 0), (0, 0), (0, 0)], [(0, v70716), (0, 0)], _, _, _)
          refine ev_iadd (r := v70716) (by unfold w32; omega) ?_
          refine ev_bipush ?_
          refine ev_isub (r := (v70716 - 48)) (by unfold w32; omega) ?_
          refine ev_istore (L' := [(2, 42), (0, a1), (0, 1), (0, a1), (0, 0), (0, (v70716 - 48)), (0, 0)]) (Nat.le_of_ble_eq_true rfl) rfl ?_
          refine ev_iinc (w := 1) (L' := [(2, 42), (0, a1), (0, 1), (0, a1), (0, 0), (0, (v70716 - 48)), (0, 1)]) rfl (by decide) rfl ?_
          refine ev_iinc (w := (a1 + 1)) (L' := [(2, 42), (0, a1), (0, 1), (0, (a1 + 1)), (0, 0), (0, (v70716 - 48)), (0, 1)]) rfl (by unfold w32; omega) rfl ?_
          refine ev_goto f269_47 ?_
          refine ev_iload rfl ?_
          refine ev_iconst ?_
          refine ev_icmpge f269_86 (fun c70733 => absurd c70733 (by omega)) (fun c70733 => ?_)
          refine ev_aload_n rfl ?_
          refine ev_iload_n rfl ?_
          refine ev_in (d := 1) (a := 0) (b := 0) (cd' := c265_0) (m := 2) (L0 := [(2, 42), (0, (a1 + 1))]) (jcall_v (A := [(0, (a1 + 1))]) (S' := []) (r := 42) rfl (g.lt ad42) (g.tg ad42) (Nat.le_of_ble_eq_true rfl)) (by decide) ml265 pp265 (Nat.le_of_ble_eq_true rfl) rfl (by decide) (by decide) ?_
          refine ev_aload_n rfl ?_
          refine ev_iload_n rfl ?_
          refine ev_in (d := 0) (a := 0) (b := 0) (cd' := c264_0) (m := 2) (L0 := [(2, 42), (0, (a1 + 1))]) (jcall_v (A := [(0, (a1 + 1))]) (S' := []) (r := 42) rfl (g.lt ad42) (g.tg ad42) (Nat.le_of_ble_eq_true rfl)) (by decide) ml264 pp264 (Nat.le_of_ble_eq_true rfl) rfl (by decide) (by decide) ?_
          refine ev_iload_n rfl ?_
          refine ev_aload_n rfl ?_
          refine g_getv (r := 42) (v := v70708) g ad42 (by decide) ft12_17 (ev70708) ?_
          refine ev_icmpge f264_17 (fun c70734 => ?_) (fun c70734 => ?_)
          · refine ev_iconst ?_
            refine ev_ret rfl (by decide) (by decide) ?_
            show jEv _ _ _ _ _ _ _ (_, [(2, 42), (0, (a1 + 1))], [(0, (-1))], _, _, _)
            refine ev_bipush ?_
            refine ev_bipush ?_
            refine ev_in (d := 0) (a := 0) (b := 0) (cd' := c242_0) (m := 3) (L0 := [(0, (-1)), (0, 48), (0, 57)]) (jcall_s (A := [(0, 57), (0, 48), (0, (-1))]) (S' := []) (by decide) rfl (Nat.le_of_ble_eq_true rfl)) (by decide) ml242 pp242 (Nat.le_of_ble_eq_true rfl) rfl (by decide) (by decide) ?_
            refine ev_iload_n rfl ?_
            refine ev_iload_n rfl ?_
            refine ev_icmplt f242_14 (fun c70735 => ?_) (fun c70735 => absurd c70735 (by omega))
            refine ev_iconst ?_
            refine ev_ret rfl (by decide) (by decide) ?_
            show jEv _ _ _ _ _ _ _ (_, [(2, 42), (0, (a1 + 1))], [(0, 0)], _, _, _)
            refine ev_ret rfl (by decide) (by decide) ?_
            show jEv _ _ _ _ _ _ _ (_, [(2, 42), (0, a1), (0, 1), (0, (a1 + 1)), (0, 0), (0, (v70716 - 48)), (0, 1)], [(0, 0)], _, _, _)
            refine ev_ifeq f269_86 (fun c70736 => ?_) (fun c70736 => absurd c70736 (by omega))
            refine ev_aload_n rfl ?_
            refine ev_iload_n rfl ?_
            refine ev_in (d := 1) (a := 0) (b := 0) (cd' := c265_0) (m := 2) (L0 := [(2, 42), (0, (a1 + 1))]) (jcall_v (A := [(0, (a1 + 1))]) (S' := []) (r := 42) rfl (g.lt ad42) (g.tg ad42) (Nat.le_of_ble_eq_true rfl)) (by decide) ml265 pp265 (Nat.le_of_ble_eq_true rfl) rfl (by decide) (by decide) ?_
            refine ev_aload_n rfl ?_
            refine ev_iload_n rfl ?_
            refine ev_in (d := 0) (a := 0) (b := 0) (cd' := c264_0) (m := 2) (L0 := [(2, 42), (0, (a1 + 1))]) (jcall_v (A := [(0, (a1 + 1))]) (S' := []) (r := 42) rfl (g.lt ad42) (g.tg ad42) (Nat.le_of_ble_eq_true rfl)) (by decide) ml264 pp264 (Nat.le_of_ble_eq_true rfl) rfl (by decide) (by decide) ?_
            refine ev_iload_n rfl ?_
            refine ev_aload_n rfl ?_
            refine g_getv (r := 42) (v := v70708) g ad42 (by decide) ft12_17 (ev70708) ?_
            refine ev_icmpge f264_17 (fun c70737 => ?_) (fun c70737 => absurd c70737 (by omega))
            refine ev_iconst ?_
            refine ev_ret rfl (by decide) (by decide) ?_
            show jEv _ _ _ _ _ _ _ (_, [(2, 42), (0, (a1 + 1))], [(0, (-1))], _, _, _)
            refine ev_bipush ?_
            refine ev_bipush ?_
            refine ev_in (d := 0) (a := 0) (b := 0) (cd' := c242_0) (m := 3) (L0 := [(0, (-1)), (0, 48), (0, 57)]) (jcall_s (A := [(0, 57), (0, 48), (0, (-1))]) (S' := []) (by decide) rfl (Nat.le_of_ble_eq_true rfl)) (by decide) ml242 pp242 (Nat.le_of_ble_eq_true rfl) rfl (by decide) (by decide) ?_
            refine ev_iload_n rfl ?_
            refine ev_iload_n rfl ?_
            refine ev_icmplt f242_14 (fun c70738 => ?_) (fun c70738 => absurd c70738 (by omega))
            refine ev_iconst ?_
            refine ev_ret rfl (by decide) (by decide) ?_
            show jEv _ _ _ _ _ _ _ (_, [(2, 42), (0, (a1 + 1))], [(0, 0)], _, _, _)
            refine ev_ret rfl (by decide) (by decide) ?_
            show jEv _ _ _ _ _ _ _ (_, [(2, 42), (0, a1), (0, 1), (0, (a1 + 1)), (0, 0), (0, (v70716 - 48)), (0, 1)], [(0, 0)], _, _, _)
            refine ev_ifeq f269_100 (fun c70739 => ?_) (fun c70739 => absurd c70739 (by omega))
            refine ev_aload_n rfl ?_
            refine ev_iload_n rfl ?_
            refine ev_iconst ?_
            refine ev_iload rfl ?_
            refine ev_ifeq f269_114 (fun c70740 => ?_) (fun c70740 => absurd c70740 (by omega))
            refine ev_iload rfl ?_
            refine ev_in (d := 1) (a := 0) (b := 0) (cd' := c267_0) (m := 6) (L0 := [(2, 42), (0, 1), (0, 0), (0, (v70716 - 48)), (9, 0), (9, 0)]) (jcall_v (A := [(0, (v70716 - 48)), (0, 0), (0, 1)]) (S' := []) (r := 42) rfl (g.lt ad42) (g.tg ad42) (Nat.le_of_ble_eq_true rfl)) (by decide) ml267 pp267 (Nat.le_of_ble_eq_true rfl) rfl (by decide) (by decide) ?_
            refine ev_iload_n rfl ?_
            refine ev_ifne f267_6 (fun c70741 => ?_) (fun c70741 => absurd c70741 (by omega))
            refine ev_aload_n rfl ?_
            refine ev_dup (by decide) ?_
            refine g_getv (r := 42) (v := w0) g ad42 (by decide) ft12_21 (ew0) ?_
            refine ev_iconst ?_
            refine ev_iadd (r := (w0 + 1)) (by unfold w32; omega) ?_
            refine g_putf (r := 42) g ad42 (by decide) ft12_21 (by decide) (fun e => absurd e nz12_21) rf42_21 (by decide) (by omega) (by omega) (fun h70742 e70742 g70742 => ?_)
            have k70742 := k0.wr e70742 rfl
            refine ev_aload_n rfl ?_
            refine g_getv (r := 42) (v := (w0 + 1)) g70742 ad42 (by decide) ft12_21 ((jw_eq e70742)) ?_
            refine ev_bipush ?_
            refine ev_icmple f267_27 (fun c70743 => absurd c70743 (by omega)) (fun c70743 => ?_)
            refine ev_iconst ?_
            refine ev_ret rfl (by decide) (by decide) ?_
            show jEv _ _ _ _ _ _ _ (_, [(2, 42), (0, a1), (0, 1), (0, (a1 + 1)), (0, 0), (0, (v70716 - 48)), (0, 1)], [(0, (-1))], _, _, _)
            refine ev_pop (by decide) ?_
            refine ev_iload_n rfl ?_
            exact ev_ret rfl (by decide) (by decide) ⟨⟨_, rfl, by omega, by omega, g70742, k70742⟩, fun r hr h0 => by cases hr; exact (Ad.step (r' := (a1 + 1)) (Ad.rf _ _ _) (by omega) k70742 (fun _ => rfl) (((jw_ne e70742 (Or.inl (by decide))).trans ev70716)) (by omega) (by omega) (by omega)), fun r hr => by cases hr; exact ⟨_, ((jw_eq e70742)), by omega, by omega, fun h0 => by omega⟩⟩
          · refine ev_aload_n rfl ?_
            refine g_getp (r := 42) (c := 54) g ad42 (by decide) (by decide) rf42_16 ft12_16 ?_
            refine ev_iload_n rfl ?_
            refine g_bald g ad54 rt54 (by omega) (by omega) (fun v70744 ev70744 lv70744 uv70744 => ?_)
            refine ev_goto f264_18 ?_
            refine ev_ret rfl (by decide) (by decide) ?_
            show jEv _ _ _ _ _ _ _ (_, [(2, 42), (0, (a1 + 1))], [(0, v70744)], _, _, _)
            refine ev_bipush ?_
            refine ev_bipush ?_
            refine ev_in (d := 0) (a := 0) (b := 0) (cd' := c242_0) (m := 3) (L0 := [(0, v70744), (0, 48), (0, 57)]) (jcall_s (A := [(0, 57), (0, 48), (0, v70744)]) (S' := []) (by decide) rfl (Nat.le_of_ble_eq_true rfl)) (by decide) ml242 pp242 (Nat.le_of_ble_eq_true rfl) rfl (by decide) (by decide) ?_
            refine ev_iload_n rfl ?_
            refine ev_iload_n rfl ?_
            refine ev_icmplt f242_14 (fun c70745 => ?_) (fun c70745 => ?_)
            · refine ev_iconst ?_
              refine ev_ret rfl (by decide) (by decide) ?_
              show jEv _ _ _ _ _ _ _ (_, [(2, 42), (0, (a1 + 1))], [(0, 0)], _, _, _)
              refine ev_ret rfl (by decide) (by decide) ?_
              show jEv _ _ _ _ _ _ _ (_, [(2, 42), (0, a1), (0, 1), (0, (a1 + 1)), (0, 0), (0, (v70716 - 48)), (0, 1)], [(0, 0)], _, _, _)
              refine ev_ifeq f269_86 (fun c70746 => ?_) (fun c70746 => absurd c70746 (by omega))
              refine ev_aload_n rfl ?_
              refine ev_iload_n rfl ?_
              refine ev_in (d := 1) (a := 0) (b := 0) (cd' := c265_0) (m := 2) (L0 := [(2, 42), (0, (a1 + 1))]) (jcall_v (A := [(0, (a1 + 1))]) (S' := []) (r := 42) rfl (g.lt ad42) (g.tg ad42) (Nat.le_of_ble_eq_true rfl)) (by decide) ml265 pp265 (Nat.le_of_ble_eq_true rfl) rfl (by decide) (by decide) ?_
              refine ev_aload_n rfl ?_
              refine ev_iload_n rfl ?_
              refine ev_in (d := 0) (a := 0) (b := 0) (cd' := c264_0) (m := 2) (L0 := [(2, 42), (0, (a1 + 1))]) (jcall_v (A := [(0, (a1 + 1))]) (S' := []) (r := 42) rfl (g.lt ad42) (g.tg ad42) (Nat.le_of_ble_eq_true rfl)) (by decide) ml264 pp264 (Nat.le_of_ble_eq_true rfl) rfl (by decide) (by decide) ?_
              refine ev_iload_n rfl ?_
              refine ev_aload_n rfl ?_
              refine g_getv (r := 42) (v := v70708) g ad42 (by decide) ft12_17 (ev70708) ?_
              refine ev_icmpge f264_17 (fun c70747 => absurd c70747 (by omega)) (fun c70747 => ?_)
              refine ev_aload_n rfl ?_
              refine g_getp (r := 42) (c := 54) g ad42 (by decide) (by decide) rf42_16 ft12_16 ?_
              refine ev_iload_n rfl ?_
              refine g_baldv (v := v70744) g ad54 (by omega) (by omega) (ev70744) ?_
              refine ev_goto f264_18 ?_
              refine ev_ret rfl (by decide) (by decide) ?_
              show jEv _ _ _ _ _ _ _ (_, [(2, 42), (0, (a1 + 1))], [(0, v70744)], _, _, _)
              refine ev_bipush ?_
              refine ev_bipush ?_
              refine ev_in (d := 0) (a := 0) (b := 0) (cd' := c242_0) (m := 3) (L0 := [(0, v70744), (0, 48), (0, 57)]) (jcall_s (A := [(0, 57), (0, 48), (0, v70744)]) (S' := []) (by decide) rfl (Nat.le_of_ble_eq_true rfl)) (by decide) ml242 pp242 (Nat.le_of_ble_eq_true rfl) rfl (by decide) (by decide) ?_
              refine ev_iload_n rfl ?_
              refine ev_iload_n rfl ?_
              refine ev_icmplt f242_14 (fun c70748 => ?_) (fun c70748 => absurd c70748 (by omega))
              refine ev_iconst ?_
              refine ev_ret rfl (by decide) (by decide) ?_
              show jEv _ _ _ _ _ _ _ (_, [(2, 42), (0, (a1 + 1))], [(0, 0)], _, _, _)
              refine ev_ret rfl (by decide) (by decide) ?_
              show jEv _ _ _ _ _ _ _ (_, [(2, 42), (0, a1), (0, 1), (0, (a1 + 1)), (0, 0), (0, (v70716 - 48)), (0, 1)], [(0, 0)], _, _, _)
              refine ev_ifeq f269_100 (fun c70749 => ?_) (fun c70749 => absurd c70749 (by omega))
              refine ev_aload_n rfl ?_
              refine ev_iload_n rfl ?_
              refine ev_iconst ?_
              refine ev_iload rfl ?_
              refine ev_ifeq f269_114 (fun c70750 => ?_) (fun c70750 => absurd c70750 (by omega))
              refine ev_iload rfl ?_
              refine ev_in (d := 1) (a := 0) (b := 0) (cd' := c267_0) (m := 6) (L0 := [(2, 42), (0, 1), (0, 0), (0, (v70716 - 48)), (9, 0), (9, 0)]) (jcall_v (A := [(0, (v70716 - 48)), (0, 0), (0, 1)]) (S' := []) (r := 42) rfl (g.lt ad42) (g.tg ad42) (Nat.le_of_ble_eq_true rfl)) (by decide) ml267 pp267 (Nat.le_of_ble_eq_true rfl) rfl (by decide) (by decide) ?_
              refine ev_iload_n rfl ?_
              refine ev_ifne f267_6 (fun c70751 => ?_) (fun c70751 => absurd c70751 (by omega))
              refine ev_aload_n rfl ?_
              refine ev_dup (by decide) ?_
              refine g_getv (r := 42) (v := w0) g ad42 (by decide) ft12_21 (ew0) ?_
              refine ev_iconst ?_
              refine ev_iadd (r := (w0 + 1)) (by unfold w32; omega) ?_
              refine g_putf (r := 42) g ad42 (by decide) ft12_21 (by decide) (fun e => absurd e nz12_21) rf42_21 (by decide) (by omega) (by omega) (fun h70752 e70752 g70752 => ?_)
              have k70752 := k0.wr e70752 rfl
              refine ev_aload_n rfl ?_
              refine g_getv (r := 42) (v := (w0 + 1)) g70752 ad42 (by decide) ft12_21 ((jw_eq e70752)) ?_
              refine ev_bipush ?_
              refine ev_icmple f267_27 (fun c70753 => absurd c70753 (by omega)) (fun c70753 => ?_)
              refine ev_iconst ?_
              refine ev_ret rfl (by decide) (by decide) ?_
              show jEv _ _ _ _ _ _ _ (_, [(2, 42), (0, a1), (0, 1), (0, (a1 + 1)), (0, 0), (0, (v70716 - 48)), (0, 1)], [(0, (-1))], _, _, _)
              refine ev_pop (by decide) ?_
              refine ev_iload_n rfl ?_
              exact ev_ret rfl (by decide) (by decide) ⟨⟨_, rfl, by omega, by omega, g70752, k70752⟩, fun r hr h0 => by cases hr; exact (Ad.step (r' := (a1 + 1)) (Ad.rf _ _ _) (by omega) k70752 (fun _ => rfl) (((jw_ne e70752 (Or.inl (by decide))).trans ev70716)) (by omega) (by omega) (by omega)), fun r hr => by cases hr; exact ⟨_, ((jw_eq e70752)), by omega, by omega, fun h0 => by omega⟩⟩
            · refine ev_iload_n rfl ?_
              refine ev_iload_n rfl ?_
              refine ev_icmpgt f242_14 (fun c70754 => ?_) (fun c70754 => ?_)
              · refine ev_iconst ?_
                refine ev_ret rfl (by decide) (by decide) ?_
                show jEv _ _ _ _ _ _ _ (_, [(2, 42), (0, (a1 + 1))], [(0, 0)], _, _, _)
                refine ev_ret rfl (by decide) (by decide) ?_
                show jEv _ _ _ _ _ _ _ (_, [(2, 42), (0, a1), (0, 1), (0, (a1 + 1)), (0, 0), (0, (v70716 - 48)), (0, 1)], [(0, 0)], _, _, _)
                refine ev_ifeq f269_86 (fun c70755 => ?_) (fun c70755 => absurd c70755 (by omega))
                refine ev_aload_n rfl ?_
                refine ev_iload_n rfl ?_
                refine ev_in (d := 1) (a := 0) (b := 0) (cd' := c265_0) (m := 2) (L0 := [(2, 42), (0, (a1 + 1))]) (jcall_v (A := [(0, (a1 + 1))]) (S' := []) (r := 42) rfl (g.lt ad42) (g.tg ad42) (Nat.le_of_ble_eq_true rfl)) (by decide) ml265 pp265 (Nat.le_of_ble_eq_true rfl) rfl (by decide) (by decide) ?_
                refine ev_aload_n rfl ?_
                refine ev_iload_n rfl ?_
                refine ev_in (d := 0) (a := 0) (b := 0) (cd' := c264_0) (m := 2) (L0 := [(2, 42), (0, (a1 + 1))]) (jcall_v (A := [(0, (a1 + 1))]) (S' := []) (r := 42) rfl (g.lt ad42) (g.tg ad42) (Nat.le_of_ble_eq_true rfl)) (by decide) ml264 pp264 (Nat.le_of_ble_eq_true rfl) rfl (by decide) (by decide) ?_
                refine ev_iload_n rfl ?_
                refine ev_aload_n rfl ?_
                refine g_getv (r := 42) (v := v70708) g ad42 (by decide) ft12_17 (ev70708) ?_
                refine ev_icmpge f264_17 (fun c70756 => absurd c70756 (by omega)) (fun c70756 => ?_)
                refine ev_aload_n rfl ?_
                refine g_getp (r := 42) (c := 54) g ad42 (by decide) (by decide) rf42_16 ft12_16 ?_
                refine ev_iload_n rfl ?_
                refine g_baldv (v := v70744) g ad54 (by omega) (by omega) (ev70744) ?_
                refine ev_goto f264_18 ?_
                refine ev_ret rfl (by decide) (by decide) ?_
                show jEv _ _ _ _ _ _ _ (_, [(2, 42), (0, (a1 + 1))], [(0, v70744)], _, _, _)
                refine ev_bipush ?_
                refine ev_bipush ?_
                refine ev_in (d := 0) (a := 0) (b := 0) (cd' := c242_0) (m := 3) (L0 := [(0, v70744), (0, 48), (0, 57)]) (jcall_s (A := [(0, 57), (0, 48), (0, v70744)]) (S' := []) (by decide) rfl (Nat.le_of_ble_eq_true rfl)) (by decide) ml242 pp242 (Nat.le_of_ble_eq_true rfl) rfl (by decide) (by decide) ?_
                refine ev_iload_n rfl ?_
                refine ev_iload_n rfl ?_
                refine ev_icmplt f242_14 (fun c70757 => absurd c70757 (by omega)) (fun c70757 => ?_)
                refine ev_iload_n rfl ?_
                refine ev_iload_n rfl ?_
                refine ev_icmpgt f242_14 (fun c70758 => ?_) (fun c70758 => absurd c70758 (by omega))
                refine ev_iconst ?_
                refine ev_ret rfl (by decide) (by decide) ?_
                show jEv _ _ _ _ _ _ _ (_, [(2, 42), (0, (a1 + 1))], [(0, 0)], _, _, _)
                refine ev_ret rfl (by decide) (by decide) ?_
                show jEv _ _ _ _ _ _ _ (_, [(2, 42), (0, a1), (0, 1), (0, (a1 + 1)), (0, 0), (0, (v70716 - 48)), (0, 1)], [(0, 0)], _, _, _)
                refine ev_ifeq f269_100 (fun c70759 => ?_) (fun c70759 => absurd c70759 (by omega))
                refine ev_aload_n rfl ?_
                refine ev_iload_n rfl ?_
                refine ev_iconst ?_
                refine ev_iload rfl ?_
                refine ev_ifeq f269_114 (fun c70760 => ?_) (fun c70760 => absurd c70760 (by omega))
                refine ev_iload rfl ?_
                refine ev_in (d := 1) (a := 0) (b := 0) (cd' := c267_0) (m := 6) (L0 := [(2, 42), (0, 1), (0, 0), (0, (v70716 - 48)), (9, 0), (9, 0)]) (jcall_v (A := [(0, (v70716 - 48)), (0, 0), (0, 1)]) (S' := []) (r := 42) rfl (g.lt ad42) (g.tg ad42) (Nat.le_of_ble_eq_true rfl)) (by decide) ml267 pp267 (Nat.le_of_ble_eq_true rfl) rfl (by decide) (by decide) ?_
                refine ev_iload_n rfl ?_
                refine ev_ifne f267_6 (fun c70761 => ?_) (fun c70761 => absurd c70761 (by omega))
                refine ev_aload_n rfl ?_
                refine ev_dup (by decide) ?_
                refine g_getv (r := 42) (v := w0) g ad42 (by decide) ft12_21 (ew0) ?_
                refine ev_iconst ?_
                refine ev_iadd (r := (w0 + 1)) (by unfold w32; omega) ?_
                refine g_putf (r := 42) g ad42 (by decide) ft12_21 (by decide) (fun e => absurd e nz12_21) rf42_21 (by decide) (by omega) (by omega) (fun h70762 e70762 g70762 => ?_)
                have k70762 := k0.wr e70762 rfl
                refine ev_aload_n rfl ?_
                refine g_getv (r := 42) (v := (w0 + 1)) g70762 ad42 (by decide) ft12_21 ((jw_eq e70762)) ?_
                refine ev_bipush ?_
                refine ev_icmple f267_27 (fun c70763 => absurd c70763 (by omega)) (fun c70763 => ?_)
                refine ev_iconst ?_
                refine ev_ret rfl (by decide) (by decide) ?_
                show jEv _ _ _ _ _ _ _ (_, [(2, 42), (0, a1), (0, 1), (0, (a1 + 1)), (0, 0), (0, (v70716 - 48)), (0, 1)], [(0, (-1))], _, _, _)
                refine ev_pop (by decide) ?_
                refine ev_iload_n rfl ?_
                exact ev_ret rfl (by decide) (by decide) ⟨⟨_, rfl, by omega, by omega, g70762, k70762⟩, fun r hr h0 => by cases hr; exact (Ad.step (r' := (a1 + 1)) (Ad.rf _ _ _) (by omega) k70762 (fun _ => rfl) (((jw_ne e70762 (Or.inl (by decide))).trans ev70716)) (by omega) (by omega) (by omega)), fun r hr => by cases hr; exact ⟨_, ((jw_eq e70762)), by omega, by omega, fun h0 => by omega⟩⟩
              · refine ev_iconst ?_
                refine ev_goto f242_15 ?_
                refine ev_ret rfl (by decide) (by decide) ?_
                show jEv _ _ _ _ _ _ _ (_, [(2, 42), (0, (a1 + 1))], [(0, 1)], _, _, _)
                refine ev_ret rfl (by decide) (by decide) ?_
                show jEv _ _ _ _ _ _ _ (_, [(2, 42), (0, a1), (0, 1), (0, (a1 + 1)), (0, 0), (0, (v70716 - 48)), (0, 1)], [(0, 1)], _, _, _)
                refine ev_ifeq f269_86 (fun c70764 => absurd c70764 (by omega)) (fun c70764 => ?_)
                refine ev_bipush ?_
                refine ev_iload rfl ?_
                refine ev_imul (r := (10 * v70716 - 480)) (by unfold w32; omega) ?_
                refine ev_aload_n rfl ?_
                refine ev_iload_n rfl ?_
                refine ev_in (d := 1) (a := 0) (b := 0) (cd' := c264_0) (m := 2) (L0 := [(2, 42), (0, (a1 + 1))]) (jcall_v (A := [(0, (a1 + 1))]) (S' := [(0, (10 * v70716 - 480))]) (r := 42) rfl (g.lt ad42) (g.tg ad42) (Nat.le_of_ble_eq_true rfl)) (by decide) ml264 pp264 (Nat.le_of_ble_eq_true rfl) rfl (by decide) (by decide) ?_
                refine ev_iload_n rfl ?_
                refine ev_aload_n rfl ?_
                refine g_getv (r := 42) (v := v70708) g ad42 (by decide) ft12_17 (ev70708) ?_
                refine ev_icmpge f264_17 (fun c70765 => absurd c70765 (by omega)) (fun c70765 => ?_)
                refine ev_aload_n rfl ?_
                refine g_getp (r := 42) (c := 54) g ad42 (by decide) (by decide) rf42_16 ft12_16 ?_
                refine ev_iload_n rfl ?_
                refine g_baldv (v := v70744) g ad54 (by omega) (by omega) (ev70744) ?_
                refine ev_goto f264_18 ?_
                refine ev_ret rfl (by decide) (by decide) ?_
                show jEv _ _ _ _ _ _ _ (_, [(2, 42), (0, a1), (0, 1), (0, (a1 + 1)), (0, 0), (0, (v70716 - 48)), (0, 1)], [(0, v70744), (0, (10 * v70716 - 480))], _, _, _)
                refine ev_iadd (r := (10 * v70716 + v70744 - 480)) (by unfold w32; omega) ?_
                refine ev_bipush ?_
                refine ev_isub (r := (10 * v70716 + v70744 - 528)) (by unfold w32; omega) ?_
                refine ev_istore (L' := [(2, 42), (0, a1), (0, 1), (0, (a1 + 1)), (0, 0), (0, (10 * v70716 + v70744 - 528)), (0, 1)]) (Nat.le_of_ble_eq_true rfl) rfl ?_
                refine ev_iinc (w := 2) (L' := [(2, 42), (0, a1), (0, 1), (0, (a1 + 1)), (0, 0), (0, (10 * v70716 + v70744 - 528)), (0, 2)]) rfl (by decide) rfl ?_
                refine ev_iinc (w := (a1 + 2)) (L' := [(2, 42), (0, a1), (0, 1), (0, (a1 + 2)), (0, 0), (0, (10 * v70716 + v70744 - 528)), (0, 2)]) rfl (by unfold w32; omega) rfl ?_
                refine ev_goto f269_47 ?_
                refine ev_iload rfl ?_
                refine ev_iconst ?_
                refine ev_icmpge f269_86 (fun c70766 => absurd c70766 (by omega)) (fun c70766 => ?_)
                refine ev_aload_n rfl ?_
                refine ev_iload_n rfl ?_
                refine ev_in (d := 1) (a := 0) (b := 0) (cd' := c265_0) (m := 2) (L0 := [(2, 42), (0, (a1 + 2))]) (jcall_v (A := [(0, (a1 + 2))]) (S' := []) (r := 42) rfl (g.lt ad42) (g.tg ad42) (Nat.le_of_ble_eq_true rfl)) (by decide) ml265 pp265 (Nat.le_of_ble_eq_true rfl) rfl (by decide) (by decide) ?_
                refine ev_aload_n rfl ?_
                refine ev_iload_n rfl ?_
                refine ev_in (d := 0) (a := 0) (b := 0) (cd' := c264_0) (m := 2) (L0 := [(2, 42), (0, (a1 + 2))]) (jcall_v (A := [(0, (a1 + 2))]) (S' := []) (r := 42) rfl (g.lt ad42) (g.tg ad42) (Nat.le_of_ble_eq_true rfl)) (by decide) ml264 pp264 (Nat.le_of_ble_eq_true rfl) rfl (by decide) (by decide) ?_
                refine ev_iload_n rfl ?_
                refine ev_aload_n rfl ?_
                refine g_getv (r := 42) (v := v70708) g ad42 (by decide) ft12_17 (ev70708) ?_
                refine ev_icmpge f264_17 (fun c70767 => ?_) (fun c70767 => ?_)
                · refine ev_iconst ?_
                  refine ev_ret rfl (by decide) (by decide) ?_
                  show jEv _ _ _ _ _ _ _ (_, [(2, 42), (0, (a1 + 2))], [(0, (-1))], _, _, _)
                  refine ev_bipush ?_
                  refine ev_bipush ?_
                  refine ev_in (d := 0) (a := 0) (b := 0) (cd' := c242_0) (m := 3) (L0 := [(0, (-1)), (0, 48), (0, 57)]) (jcall_s (A := [(0, 57), (0, 48), (0, (-1))]) (S' := []) (by decide) rfl (Nat.le_of_ble_eq_true rfl)) (by decide) ml242 pp242 (Nat.le_of_ble_eq_true rfl) rfl (by decide) (by decide) ?_
                  refine ev_iload_n rfl ?_
                  refine ev_iload_n rfl ?_
                  refine ev_icmplt f242_14 (fun c70768 => ?_) (fun c70768 => absurd c70768 (by omega))
                  refine ev_iconst ?_
                  refine ev_ret rfl (by decide) (by decide) ?_
                  show jEv _ _ _ _ _ _ _ (_, [(2, 42), (0, (a1 + 2))], [(0, 0)], _, _, _)
                  refine ev_ret rfl (by decide) (by decide) ?_
                  show jEv _ _ _ _ _ _ _ (_, [(2, 42), (0, a1), (0, 1), (0, (a1 + 2)), (0, 0), (0, (10 * v70716 + v70744 - 528)), (0, 2)], [(0, 0)], _, _, _)
                  refine ev_ifeq f269_86 (fun c70769 => ?_) (fun c70769 => absurd c70769 (by omega))
                  refine ev_aload_n rfl ?_
                  refine ev_iload_n rfl ?_
                  refine ev_in (d := 1) (a := 0) (b := 0) (cd' := c265_0) (m := 2) (L0 := [(2, 42), (0, (a1 + 2))]) (jcall_v (A := [(0, (a1 + 2))]) (S' := []) (r := 42) rfl (g.lt ad42) (g.tg ad42) (Nat.le_of_ble_eq_true rfl)) (by decide) ml265 pp265 (Nat.le_of_ble_eq_true rfl) rfl (by decide) (by decide) ?_
                  refine ev_aload_n rfl ?_
                  refine ev_iload_n rfl ?_
                  refine ev_in (d := 0) (a := 0) (b := 0) (cd' := c264_0) (m := 2) (L0 := [(2, 42), (0, (a1 + 2))]) (jcall_v (A := [(0, (a1 + 2))]) (S' := []) (r := 42) rfl (g.lt ad42) (g.tg ad42) (Nat.le_of_ble_eq_true rfl)) (by decide) ml264 pp264 (Nat.le_of_ble_eq_true rfl) rfl (by decide) (by decide) ?_
                  refine ev_iload_n rfl ?_
                  refine ev_aload_n rfl ?_
                  refine g_getv (r := 42) (v := v70708) g ad42 (by decide) ft12_17 (ev70708) ?_
                  refine ev_icmpge f264_17 (fun c70770 => ?_) (fun c70770 => absurd c70770 (by omega))
                  refine ev_iconst ?_
                  refine ev_ret rfl (by decide) (by decide) ?_
                  show jEv _ _ _ _ _ _ _ (_, [(2, 42), (0, (a1 + 2))], [(0, (-1))], _, _, _)
                  refine ev_bipush ?_
                  refine ev_bipush ?_
                  refine ev_in (d := 0) (a := 0) (b := 0) (cd' := c242_0) (m := 3) (L0 := [(0, (-1)), (0, 48), (0, 57)]) (jcall_s (A := [(0, 57), (0, 48), (0, (-1))]) (S' := []) (by decide) rfl (Nat.le_of_ble_eq_true rfl)) (by decide) ml242 pp242 (Nat.le_of_ble_eq_true rfl) rfl (by decide) (by decide) ?_
                  refine ev_iload_n rfl ?_
                  refine ev_iload_n rfl ?_
                  refine ev_icmplt f242_14 (fun c70771 => ?_) (fun c70771 => absurd c70771 (by omega))
                  refine ev_iconst ?_
                  refine ev_ret rfl (by decide) (by decide) ?_
                  show jEv _ _ _ _ _ _ _ (_, [(2, 42), (0, (a1 + 2))], [(0, 0)], _, _, _)
                  refine ev_ret rfl (by decide) (by decide) ?_
                  show jEv _ _ _ _ _ _ _ (_, [(2, 42), (0, a1), (0, 1), (0, (a1 + 2)), (0, 0), (0, (10 * v70716 + v70744 - 528)), (0, 2)], [(0, 0)], _, _, _)
                  refine ev_ifeq f269_100 (fun c70772 => ?_) (fun c70772 => absurd c70772 (by omega))
                  refine ev_aload_n rfl ?_
                  refine ev_iload_n rfl ?_
                  refine ev_iconst ?_
                  refine ev_iload rfl ?_
                  refine ev_ifeq f269_114 (fun c70773 => ?_) (fun c70773 => absurd c70773 (by omega))
                  refine ev_iload rfl ?_
                  refine ev_in (d := 1) (a := 0) (b := 0) (cd' := c267_0) (m := 6) (L0 := [(2, 42), (0, 1), (0, 0), (0, (10 * v70716 + v70744 - 528)), (9, 0), (9, 0)]) (jcall_v (A := [(0, (10 * v70716 + v70744 - 528)), (0, 0), (0, 1)]) (S' := []) (r := 42) rfl (g.lt ad42) (g.tg ad42) (Nat.le_of_ble_eq_true rfl)) (by decide) ml267 pp267 (Nat.le_of_ble_eq_true rfl) rfl (by decide) (by decide) ?_
                  refine ev_iload_n rfl ?_
                  refine ev_ifne f267_6 (fun c70774 => ?_) (fun c70774 => absurd c70774 (by omega))
                  refine ev_aload_n rfl ?_
                  refine ev_dup (by decide) ?_
                  refine g_getv (r := 42) (v := w0) g ad42 (by decide) ft12_21 (ew0) ?_
                  refine ev_iconst ?_
                  refine ev_iadd (r := (w0 + 1)) (by unfold w32; omega) ?_
                  refine g_putf (r := 42) g ad42 (by decide) ft12_21 (by decide) (fun e => absurd e nz12_21) rf42_21 (by decide) (by omega) (by omega) (fun h70775 e70775 g70775 => ?_)
                  have k70775 := k0.wr e70775 rfl
                  refine ev_aload_n rfl ?_
                  refine g_getv (r := 42) (v := (w0 + 1)) g70775 ad42 (by decide) ft12_21 ((jw_eq e70775)) ?_
                  refine ev_bipush ?_
                  refine ev_icmple f267_27 (fun c70776 => absurd c70776 (by omega)) (fun c70776 => ?_)
                  refine ev_iconst ?_
                  refine ev_ret rfl (by decide) (by decide) ?_
                  show jEv _ _ _ _ _ _ _ (_, [(2, 42), (0, a1), (0, 1), (0, (a1 + 2)), (0, 0), (0, (10 * v70716 + v70744 - 528)), (0, 2)], [(0, (-1))], _, _, _)
                  refine ev_pop (by decide) ?_
                  refine ev_iload_n rfl ?_
                  exact ev_ret rfl (by decide) (by decide) ⟨⟨_, rfl, by omega, by omega, g70775, k70775⟩, fun r hr h0 => by cases hr; exact (Ad.step (r' := (a1 + 2)) (Ad.step (r' := (a1 + 1)) (Ad.rf _ _ _) (by omega) k70775 (fun _ => rfl) (((jw_ne e70775 (Or.inl (by decide))).trans ev70716)) (by omega) (by omega) (by omega)) (by omega) k70775 (fun _ => rfl) (((jw_ne e70775 (Or.inl (by decide))).trans ev70744)) (by omega) (by omega) (by omega)), fun r hr => by cases hr; exact ⟨_, ((jw_eq e70775)), by omega, by omega, fun h0 => by omega⟩⟩
                · refine ev_aload_n rfl ?_
                  refine g_getp (r := 42) (c := 54) g ad42 (by decide) (by decide) rf42_16 ft12_16 ?_
                  refine ev_iload_n rfl ?_
                  refine g_bald g ad54 rt54 (by omega) (by omega) (fun v70777 ev70777 lv70777 uv70777 => ?_)
                  refine ev_goto f264_18 ?_
                  refine ev_ret rfl (by decide) (by decide) ?_
                  show jEv _ _ _ _ _ _ _ (_, [(2, 42), (0, (a1 + 2))], [(0, v70777)], _, _, _)
                  refine ev_bipush ?_
                  refine ev_bipush ?_
                  refine ev_in (d := 0) (a := 0) (b := 0) (cd' := c242_0) (m := 3) (L0 := [(0, v70777), (0, 48), (0, 57)]) (jcall_s (A := [(0, 57), (0, 48), (0, v70777)]) (S' := []) (by decide) rfl (Nat.le_of_ble_eq_true rfl)) (by decide) ml242 pp242 (Nat.le_of_ble_eq_true rfl) rfl (by decide) (by decide) ?_
                  refine ev_iload_n rfl ?_
                  refine ev_iload_n rfl ?_
                  refine ev_icmplt f242_14 (fun c70778 => ?_) (fun c70778 => ?_)
                  · refine ev_iconst ?_
                    refine ev_ret rfl (by decide) (by decide) ?_
                    show jEv _ _ _ _ _ _ _ (_, [(2, 42), (0, (a1 + 2))], [(0, 0)], _, _, _)
                    refine ev_ret rfl (by decide) (by decide) ?_
                    show jEv _ _ _ _ _ _ _ (_, [(2, 42), (0, a1), (0, 1), (0, (a1 + 2)), (0, 0), (0, (10 * v70716 + v70744 - 528)), (0, 2)], [(0, 0)], _, _, _)
                    refine ev_ifeq f269_86 (fun c70779 => ?_) (fun c70779 => absurd c70779 (by omega))
                    refine ev_aload_n rfl ?_
                    refine ev_iload_n rfl ?_
                    refine ev_in (d := 1) (a := 0) (b := 0) (cd' := c265_0) (m := 2) (L0 := [(2, 42), (0, (a1 + 2))]) (jcall_v (A := [(0, (a1 + 2))]) (S' := []) (r := 42) rfl (g.lt ad42) (g.tg ad42) (Nat.le_of_ble_eq_true rfl)) (by decide) ml265 pp265 (Nat.le_of_ble_eq_true rfl) rfl (by decide) (by decide) ?_
                    refine ev_aload_n rfl ?_
                    refine ev_iload_n rfl ?_
                    refine ev_in (d := 0) (a := 0) (b := 0) (cd' := c264_0) (m := 2) (L0 := [(2, 42), (0, (a1 + 2))]) (jcall_v (A := [(0, (a1 + 2))]) (S' := []) (r := 42) rfl (g.lt ad42) (g.tg ad42) (Nat.le_of_ble_eq_true rfl)) (by decide) ml264 pp264 (Nat.le_of_ble_eq_true rfl) rfl (by decide) (by decide) ?_
                    refine ev_iload_n rfl ?_
                    refine ev_aload_n rfl ?_
                    refine g_getv (r := 42) (v := v70708) g ad42 (by decide) ft12_17 (ev70708) ?_
                    refine ev_icmpge f264_17 (fun c70780 => absurd c70780 (by omega)) (fun c70780 => ?_)
                    refine ev_aload_n rfl ?_
                    refine g_getp (r := 42) (c := 54) g ad42 (by decide) (by decide) rf42_16 ft12_16 ?_
                    refine ev_iload_n rfl ?_
                    refine g_baldv (v := v70777) g ad54 (by omega) (by omega) (ev70777) ?_
                    refine ev_goto f264_18 ?_
                    refine ev_ret rfl (by decide) (by decide) ?_
                    show jEv _ _ _ _ _ _ _ (_, [(2, 42), (0, (a1 + 2))], [(0, v70777)], _, _, _)
                    refine ev_bipush ?_
                    refine ev_bipush ?_
                    refine ev_in (d := 0) (a := 0) (b := 0) (cd' := c242_0) (m := 3) (L0 := [(0, v70777), (0, 48), (0, 57)]) (jcall_s (A := [(0, 57), (0, 48), (0, v70777)]) (S' := []) (by decide) rfl (Nat.le_of_ble_eq_true rfl)) (by decide) ml242 pp242 (Nat.le_of_ble_eq_true rfl) rfl (by decide) (by decide) ?_
                    refine ev_iload_n rfl ?_
                    refine ev_iload_n rfl ?_
                    refine ev_icmplt f242_14 (fun c70781 => ?_) (fun c70781 => absurd c70781 (by omega))
                    refine ev_iconst ?_
                    refine ev_ret rfl (by decide) (by decide) ?_
                    show jEv _ _ _ _ _ _ _ (_, [(2, 42), (0, (a1 + 2))], [(0, 0)], _, _, _)
                    refine ev_ret rfl (by decide) (by decide) ?_
                    show jEv _ _ _ _ _ _ _ (_, [(2, 42), (0, a1), (0, 1), (0, (a1 + 2)), (0, 0), (0, (10 * v70716 + v70744 - 528)), (0, 2)], [(0, 0)], _, _, _)
                    refine ev_ifeq f269_100 (fun c70782 => ?_) (fun c70782 => absurd c70782 (by omega))
                    refine ev_aload_n rfl ?_
                    refine ev_iload_n rfl ?_
                    refine ev_iconst ?_
                    refine ev_iload rfl ?_
                    refine ev_ifeq f269_114 (fun c70783 => ?_) (fun c70783 => absurd c70783 (by omega))
                    refine ev_iload rfl ?_
                    refine ev_in (d := 1) (a := 0) (b := 0) (cd' := c267_0) (m := 6) (L0 := [(2, 42), (0, 1), (0, 0), (0, (10 * v70716 + v70744 - 528)), (9, 0), (9, 0)]) (jcall_v (A := [(0, (10 * v70716 + v70744 - 528)), (0, 0), (0, 1)]) (S' := []) (r := 42) rfl (g.lt ad42) (g.tg ad42) (Nat.le_of_ble_eq_true rfl)) (by decide) ml267 pp267 (Nat.le_of_ble_eq_true rfl) rfl (by decide) (by decide) ?_
                    refine ev_iload_n rfl ?_
                    refine ev_ifne f267_6 (fun c70784 => ?_) (fun c70784 => absurd c70784 (by omega))
                    refine ev_aload_n rfl ?_
                    refine ev_dup (by decide) ?_
                    refine g_getv (r := 42) (v := w0) g ad42 (by decide) ft12_21 (ew0) ?_
                    refine ev_iconst ?_
                    refine ev_iadd (r := (w0 + 1)) (by unfold w32; omega) ?_
                    refine g_putf (r := 42) g ad42 (by decide) ft12_21 (by decide) (fun e => absurd e nz12_21) rf42_21 (by decide) (by omega) (by omega) (fun h70785 e70785 g70785 => ?_)
                    have k70785 := k0.wr e70785 rfl
                    refine ev_aload_n rfl ?_
                    refine g_getv (r := 42) (v := (w0 + 1)) g70785 ad42 (by decide) ft12_21 ((jw_eq e70785)) ?_
                    refine ev_bipush ?_
                    refine ev_icmple f267_27 (fun c70786 => absurd c70786 (by omega)) (fun c70786 => ?_)
                    refine ev_iconst ?_
                    refine ev_ret rfl (by decide) (by decide) ?_
                    show jEv _ _ _ _ _ _ _ (_, [(2, 42), (0, a1), (0, 1), (0, (a1 + 2)), (0, 0), (0, (10 * v70716 + v70744 - 528)), (0, 2)], [(0, (-1))], _, _, _)
                    refine ev_pop (by decide) ?_
                    refine ev_iload_n rfl ?_
                    exact ev_ret rfl (by decide) (by decide) ⟨⟨_, rfl, by omega, by omega, g70785, k70785⟩, fun r hr h0 => by cases hr; exact (Ad.step (r' := (a1 + 2)) (Ad.step (r' := (a1 + 1)) (Ad.rf _ _ _) (by omega) k70785 (fun _ => rfl) (((jw_ne e70785 (Or.inl (by decide))).trans ev70716)) (by omega) (by omega) (by omega)) (by omega) k70785 (fun _ => rfl) (((jw_ne e70785 (Or.inl (by decide))).trans ev70744)) (by omega) (by omega) (by omega)), fun r hr => by cases hr; exact ⟨_, ((jw_eq e70785)), by omega, by omega, fun h0 => by omega⟩⟩
                  · refine ev_iload_n rfl ?_
                    refine ev_iload_n rfl ?_
                    refine ev_icmpgt f242_14 (fun c70787 => ?_) (fun c70787 => ?_)
                    · refine ev_iconst ?_
                      refine ev_ret rfl (by decide) (by decide) ?_
                      show jEv _ _ _ _ _ _ _ (_, [(2, 42), (0, (a1 + 2))], [(0, 0)], _, _, _)
                      refine ev_ret rfl (by decide) (by decide) ?_
                      show jEv _ _ _ _ _ _ _ (_, [(2, 42), (0, a1), (0, 1), (0, (a1 + 2)), (0, 0), (0, (10 * v70716 + v70744 - 528)), (0, 2)], [(0, 0)], _, _, _)
                      refine ev_ifeq f269_86 (fun c70788 => ?_) (fun c70788 => absurd c70788 (by omega))
                      refine ev_aload_n rfl ?_
                      refine ev_iload_n rfl ?_
                      refine ev_in (d := 1) (a := 0) (b := 0) (cd' := c265_0) (m := 2) (L0 := [(2, 42), (0, (a1 + 2))]) (jcall_v (A := [(0, (a1 + 2))]) (S' := []) (r := 42) rfl (g.lt ad42) (g.tg ad42) (Nat.le_of_ble_eq_true rfl)) (by decide) ml265 pp265 (Nat.le_of_ble_eq_true rfl) rfl (by decide) (by decide) ?_
                      refine ev_aload_n rfl ?_
                      refine ev_iload_n rfl ?_
                      refine ev_in (d := 0) (a := 0) (b := 0) (cd' := c264_0) (m := 2) (L0 := [(2, 42), (0, (a1 + 2))]) (jcall_v (A := [(0, (a1 + 2))]) (S' := []) (r := 42) rfl (g.lt ad42) (g.tg ad42) (Nat.le_of_ble_eq_true rfl)) (by decide) ml264 pp264 (Nat.le_of_ble_eq_true rfl) rfl (by decide) (by decide) ?_
                      refine ev_iload_n rfl ?_
                      refine ev_aload_n rfl ?_
                      refine g_getv (r := 42) (v := v70708) g ad42 (by decide) ft12_17 (ev70708) ?_
                      refine ev_icmpge f264_17 (fun c70789 => absurd c70789 (by omega)) (fun c70789 => ?_)
                      refine ev_aload_n rfl ?_
                      refine g_getp (r := 42) (c := 54) g ad42 (by decide) (by decide) rf42_16 ft12_16 ?_
                      refine ev_iload_n rfl ?_
                      refine g_baldv (v := v70777) g ad54 (by omega) (by omega) (ev70777) ?_
                      refine ev_goto f264_18 ?_
                      refine ev_ret rfl (by decide) (by decide) ?_
                      show jEv _ _ _ _ _ _ _ (_, [(2, 42), (0, (a1 + 2))], [(0, v70777)], _, _, _)
                      refine ev_bipush ?_
                      refine ev_bipush ?_
                      refine ev_in (d := 0) (a := 0) (b := 0) (cd' := c242_0) (m := 3) (L0 := [(0, v70777), (0, 48), (0, 57)]) (jcall_s (A := [(0, 57), (0, 48), (0, v70777)]) (S' := []) (by decide) rfl (Nat.le_of_ble_eq_true rfl)) (by decide) ml242 pp242 (Nat.le_of_ble_eq_true rfl) rfl (by decide) (by decide) ?_
                      refine ev_iload_n rfl ?_
                      refine ev_iload_n rfl ?_
                      refine ev_icmplt f242_14 (fun c70790 => absurd c70790 (by omega)) (fun c70790 => ?_)
                      refine ev_iload_n rfl ?_
                      refine ev_iload_n rfl ?_
                      refine ev_icmpgt f242_14 (fun c70791 => ?_) (fun c70791 => absurd c70791 (by omega))
                      refine ev_iconst ?_
                      refine ev_ret rfl (by decide) (by decide) ?_
                      show jEv _ _ _ _ _ _ _ (_, [(2, 42), (0, (a1 + 2))], [(0, 0)], _, _, _)
                      refine ev_ret rfl (by decide) (by decide) ?_
                      show jEv _ _ _ _ _ _ _ (_, [(2, 42), (0, a1), (0, 1), (0, (a1 + 2)), (0, 0), (0, (10 * v70716 + v70744 - 528)), (0, 2)], [(0, 0)], _, _, _)
                      refine ev_ifeq f269_100 (fun c70792 => ?_) (fun c70792 => absurd c70792 (by omega))
                      refine ev_aload_n rfl ?_
                      refine ev_iload_n rfl ?_
                      refine ev_iconst ?_
                      refine ev_iload rfl ?_
                      refine ev_ifeq f269_114 (fun c70793 => ?_) (fun c70793 => absurd c70793 (by omega))
                      refine ev_iload rfl ?_
                      refine ev_in (d := 1) (a := 0) (b := 0) (cd' := c267_0) (m := 6) (L0 := [(2, 42), (0, 1), (0, 0), (0, (10 * v70716 + v70744 - 528)), (9, 0), (9, 0)]) (jcall_v (A := [(0, (10 * v70716 + v70744 - 528)), (0, 0), (0, 1)]) (S' := []) (r := 42) rfl (g.lt ad42) (g.tg ad42) (Nat.le_of_ble_eq_true rfl)) (by decide) ml267 pp267 (Nat.le_of_ble_eq_true rfl) rfl (by decide) (by decide) ?_
                      refine ev_iload_n rfl ?_
                      refine ev_ifne f267_6 (fun c70794 => ?_) (fun c70794 => absurd c70794 (by omega))
                      refine ev_aload_n rfl ?_
                      refine ev_dup (by decide) ?_
                      refine g_getv (r := 42) (v := w0) g ad42 (by decide) ft12_21 (ew0) ?_
                      refine ev_iconst ?_
                      refine ev_iadd (r := (w0 + 1)) (by unfold w32; omega) ?_
                      refine g_putf (r := 42) g ad42 (by decide) ft12_21 (by decide) (fun e => absurd e nz12_21) rf42_21 (by decide) (by omega) (by omega) (fun h70795 e70795 g70795 => ?_)
                      have k70795 := k0.wr e70795 rfl
                      refine ev_aload_n rfl ?_
                      refine g_getv (r := 42) (v := (w0 + 1)) g70795 ad42 (by decide) ft12_21 ((jw_eq e70795)) ?_
                      refine ev_bipush ?_
                      refine ev_icmple f267_27 (fun c70796 => absurd c70796 (by omega)) (fun c70796 => ?_)
                      refine ev_iconst ?_
                      refine ev_ret rfl (by decide) (by decide) ?_
                      show jEv _ _ _ _ _ _ _ (_, [(2, 42), (0, a1), (0, 1), (0, (a1 + 2)), (0, 0), (0, (10 * v70716 + v70744 - 528)), (0, 2)], [(0, (-1))], _, _, _)
                      refine ev_pop (by decide) ?_
                      refine ev_iload_n rfl ?_
                      exact ev_ret rfl (by decide) (by decide) ⟨⟨_, rfl, by omega, by omega, g70795, k70795⟩, fun r hr h0 => by cases hr; exact (Ad.step (r' := (a1 + 2)) (Ad.step (r' := (a1 + 1)) (Ad.rf _ _ _) (by omega) k70795 (fun _ => rfl) (((jw_ne e70795 (Or.inl (by decide))).trans ev70716)) (by omega) (by omega) (by omega)) (by omega) k70795 (fun _ => rfl) (((jw_ne e70795 (Or.inl (by decide))).trans ev70744)) (by omega) (by omega) (by omega)), fun r hr => by cases hr; exact ⟨_, ((jw_eq e70795)), by omega, by omega, fun h0 => by omega⟩⟩
                    · refine ev_iconst ?_
                      refine ev_goto f242_15 ?_
                      refine ev_ret rfl (by decide) (by decide) ?_
                      show jEv _ _ _ _ _ _ _ (_, [(2, 42), (0, (a1 + 2))], [(0, 1)], _, _, _)
                      refine ev_ret rfl (by decide) (by decide) ?_
                      show jEv _ _ _ _ _ _ _ (_, [(2, 42), (0, a1), (0, 1), (0, (a1 + 2)), (0, 0), (0, (10 * v70716 + v70744 - 528)), (0, 2)], [(0, 1)], _, _, _)
                      refine ev_ifeq f269_86 (fun c70797 => absurd c70797 (by omega)) (fun c70797 => ?_)
                      refine ev_bipush ?_
                      refine ev_iload rfl ?_
                      refine ev_imul (r := (100 * v70716 + 10 * v70744 - 5280)) (by unfold w32; omega) ?_
                      refine ev_aload_n rfl ?_
                      refine ev_iload_n rfl ?_
                      refine ev_in (d := 1) (a := 0) (b := 0) (cd' := c264_0) (m := 2) (L0 := [(2, 42), (0, (a1 + 2))]) (jcall_v (A := [(0, (a1 + 2))]) (S' := [(0, (100 * v70716 + 10 * v70744 - 5280))]) (r := 42) rfl (g.lt ad42) (g.tg ad42) (Nat.le_of_ble_eq_true rfl)) (by decide) ml264 pp264 (Nat.le_of_ble_eq_true rfl) rfl (by decide) (by decide) ?_
                      refine ev_iload_n rfl ?_
                      refine ev_aload_n rfl ?_
                      refine g_getv (r := 42) (v := v70708) g ad42 (by decide) ft12_17 (ev70708) ?_
                      refine ev_icmpge f264_17 (fun c70798 => absurd c70798 (by omega)) (fun c70798 => ?_)
                      refine ev_aload_n rfl ?_
                      refine g_getp (r := 42) (c := 54) g ad42 (by decide) (by decide) rf42_16 ft12_16 ?_
                      refine ev_iload_n rfl ?_
                      refine g_baldv (v := v70777) g ad54 (by omega) (by omega) (ev70777) ?_
                      refine ev_goto f264_18 ?_
                      refine ev_ret rfl (by decide) (by decide) ?_
                      show jEv _ _ _ _ _ _ _ (_, [(2, 42), (0, a1), (0, 1), (0, (a1 + 2)), (0, 0), (0, (10 * v70716 + v70744 - 528)), (0, 2)], [(0, v70777), (0, (100 * v70716 + 10 * v70744 - 5280))], _, _, _)
                      refine ev_iadd (r := (100 * v70716 + 10 * v70744 + v70777 - 5280)) (by unfold w32; omega) ?_
                      refine ev_bipush ?_
                      refine ev_isub (r := (100 * v70716 + 10 * v70744 + v70777 - 5328)) (by unfold w32; omega) ?_
                      refine ev_istore (L' := [(2, 42), (0, a1), (0, 1), (0, (a1 + 2)), (0, 0), (0, (100 * v70716 + 10 * v70744 + v70777 - 5328)), (0, 2)]) (Nat.le_of_ble_eq_true rfl) rfl ?_
                      refine ev_iinc (w := 3) (L' := [(2, 42), (0, a1), (0, 1), (0, (a1 + 2)), (0, 0), (0, (100 * v70716 + 10 * v70744 + v70777 - 5328)), (0, 3)]) rfl (by decide) rfl ?_
                      refine ev_iinc (w := (a1 + 3)) (L' := [(2, 42), (0, a1), (0, 1), (0, (a1 + 3)), (0, 0), (0, (100 * v70716 + 10 * v70744 + v70777 - 5328)), (0, 3)]) rfl (by unfold w32; omega) rfl ?_
                      refine ev_goto f269_47 ?_
                      refine ev_iload rfl ?_
                      refine ev_iconst ?_
                      refine ev_icmpge f269_86 (fun c70799 => ?_) (fun c70799 => absurd c70799 (by omega))
                      refine ev_aload_n rfl ?_
                      refine ev_iload_n rfl ?_
                      refine ev_in (d := 1) (a := 0) (b := 0) (cd' := c265_0) (m := 2) (L0 := [(2, 42), (0, (a1 + 3))]) (jcall_v (A := [(0, (a1 + 3))]) (S' := []) (r := 42) rfl (g.lt ad42) (g.tg ad42) (Nat.le_of_ble_eq_true rfl)) (by decide) ml265 pp265 (Nat.le_of_ble_eq_true rfl) rfl (by decide) (by decide) ?_
                      refine ev_aload_n rfl ?_
                      refine ev_iload_n rfl ?_
                      refine ev_in (d := 0) (a := 0) (b := 0) (cd' := c264_0) (m := 2) (L0 := [(2, 42), (0, (a1 + 3))]) (jcall_v (A := [(0, (a1 + 3))]) (S' := []) (r := 42) rfl (g.lt ad42) (g.tg ad42) (Nat.le_of_ble_eq_true rfl)) (by decide) ml264 pp264 (Nat.le_of_ble_eq_true rfl) rfl (by decide) (by decide) ?_
                      refine ev_iload_n rfl ?_
                      refine ev_aload_n rfl ?_
                      refine g_getv (r := 42) (v := v70708) g ad42 (by decide) ft12_17 (ev70708) ?_
                      refine ev_icmpge f264_17 (fun c70800 => ?_) (fun c70800 => ?_)
                      · refine ev_iconst ?_
                        refine ev_ret rfl (by decide) (by decide) ?_
                        show jEv _ _ _ _ _ _ _ (_, [(2, 42), (0, (a1 + 3))], [(0, (-1))], _, _, _)
                        refine ev_bipush ?_
                        refine ev_bipush ?_
                        refine ev_in (d := 0) (a := 0) (b := 0) (cd' := c242_0) (m := 3) (L0 := [(0, (-1)), (0, 48), (0, 57)]) (jcall_s (A := [(0, 57), (0, 48), (0, (-1))]) (S' := []) (by decide) rfl (Nat.le_of_ble_eq_true rfl)) (by decide) ml242 pp242 (Nat.le_of_ble_eq_true rfl) rfl (by decide) (by decide) ?_
                        refine ev_iload_n rfl ?_
                        refine ev_iload_n rfl ?_
                        refine ev_icmplt f242_14 (fun c70801 => ?_) (fun c70801 => absurd c70801 (by omega))
                        refine ev_iconst ?_
                        refine ev_ret rfl (by decide) (by decide) ?_
                        show jEv _ _ _ _ _ _ _ (_, [(2, 42), (0, (a1 + 3))], [(0, 0)], _, _, _)
                        refine ev_ret rfl (by decide) (by decide) ?_
                        show jEv _ _ _ _ _ _ _ (_, [(2, 42), (0, a1), (0, 1), (0, (a1 + 3)), (0, 0), (0, (100 * v70716 + 10 * v70744 + v70777 - 5328)), (0, 3)], [(0, 0)], _, _, _)
                        refine ev_ifeq f269_100 (fun c70802 => ?_) (fun c70802 => absurd c70802 (by omega))
                        refine ev_aload_n rfl ?_
                        refine ev_iload_n rfl ?_
                        refine ev_iconst ?_
                        refine ev_iload rfl ?_
                        refine ev_ifeq f269_114 (fun c70803 => ?_) (fun c70803 => absurd c70803 (by omega))
                        refine ev_iload rfl ?_
                        refine ev_in (d := 1) (a := 0) (b := 0) (cd' := c267_0) (m := 6) (L0 := [(2, 42), (0, 1), (0, 0), (0, (100 * v70716 + 10 * v70744 + v70777 - 5328)), (9, 0), (9, 0)]) (jcall_v (A := [(0, (100 * v70716 + 10 * v70744 + v70777 - 5328)), (0, 0), (0, 1)]) (S' := []) (r := 42) rfl (g.lt ad42) (g.tg ad42) (Nat.le_of_ble_eq_true rfl)) (by decide) ml267 pp267 (Nat.le_of_ble_eq_true rfl) rfl (by decide) (by decide) ?_
                        refine ev_iload_n rfl ?_
                        refine ev_ifne f267_6 (fun c70804 => ?_) (fun c70804 => absurd c70804 (by omega))
                        refine ev_aload_n rfl ?_
                        refine ev_dup (by decide) ?_
                        refine g_getv (r := 42) (v := w0) g ad42 (by decide) ft12_21 (ew0) ?_
                        refine ev_iconst ?_
                        refine ev_iadd (r := (w0 + 1)) (by unfold w32; omega) ?_
                        refine g_putf (r := 42) g ad42 (by decide) ft12_21 (by decide) (fun e => absurd e nz12_21) rf42_21 (by decide) (by omega) (by omega) (fun h70805 e70805 g70805 => ?_)
                        have k70805 := k0.wr e70805 rfl
                        refine ev_aload_n rfl ?_
                        refine g_getv (r := 42) (v := (w0 + 1)) g70805 ad42 (by decide) ft12_21 ((jw_eq e70805)) ?_
                        refine ev_bipush ?_
                        refine ev_icmple f267_27 (fun c70806 => absurd c70806 (by omega)) (fun c70806 => ?_)
                        refine ev_iconst ?_
                        refine ev_ret rfl (by decide) (by decide) ?_
                        show jEv _ _ _ _ _ _ _ (_, [(2, 42), (0, a1), (0, 1), (0, (a1 + 3)), (0, 0), (0, (100 * v70716 + 10 * v70744 + v70777 - 5328)), (0, 3)], [(0, (-1))], _, _, _)
                        refine ev_pop (by decide) ?_
                        refine ev_iload_n rfl ?_
                        exact ev_ret rfl (by decide) (by decide) ⟨⟨_, rfl, by omega, by omega, g70805, k70805⟩, fun r hr h0 => by cases hr; exact (Ad.step (r' := (a1 + 3)) (Ad.step (r' := (a1 + 2)) (Ad.step (r' := (a1 + 1)) (Ad.rf _ _ _) (by omega) k70805 (fun _ => rfl) (((jw_ne e70805 (Or.inl (by decide))).trans ev70716)) (by omega) (by omega) (by omega)) (by omega) k70805 (fun _ => rfl) (((jw_ne e70805 (Or.inl (by decide))).trans ev70744)) (by omega) (by omega) (by omega)) (by omega) k70805 (fun _ => rfl) (((jw_ne e70805 (Or.inl (by decide))).trans ev70777)) (by omega) (by omega) (by omega)), fun r hr => by cases hr; exact ⟨_, ((jw_eq e70805)), by omega, by omega, fun h0 => by omega⟩⟩
                      · refine ev_aload_n rfl ?_
                        refine g_getp (r := 42) (c := 54) g ad42 (by decide) (by decide) rf42_16 ft12_16 ?_
                        refine ev_iload_n rfl ?_
                        refine g_bald g ad54 rt54 (by omega) (by omega) (fun v70807 ev70807 lv70807 uv70807 => ?_)
                        refine ev_goto f264_18 ?_
                        refine ev_ret rfl (by decide) (by decide) ?_
                        show jEv _ _ _ _ _ _ _ (_, [(2, 42), (0, (a1 + 3))], [(0, v70807)], _, _, _)
                        refine ev_bipush ?_
                        refine ev_bipush ?_
                        refine ev_in (d := 0) (a := 0) (b := 0) (cd' := c242_0) (m := 3) (L0 := [(0, v70807), (0, 48), (0, 57)]) (jcall_s (A := [(0, 57), (0, 48), (0, v70807)]) (S' := []) (by decide) rfl (Nat.le_of_ble_eq_true rfl)) (by decide) ml242 pp242 (Nat.le_of_ble_eq_true rfl) rfl (by decide) (by decide) ?_
                        refine ev_iload_n rfl ?_
                        refine ev_iload_n rfl ?_
                        refine ev_icmplt f242_14 (fun c70808 => ?_) (fun c70808 => ?_)
                        · refine ev_iconst ?_
                          refine ev_ret rfl (by decide) (by decide) ?_
                          show jEv _ _ _ _ _ _ _ (_, [(2, 42), (0, (a1 + 3))], [(0, 0)], _, _, _)
                          refine ev_ret rfl (by decide) (by decide) ?_
                          show jEv _ _ _ _ _ _ _ (_, [(2, 42), (0, a1), (0, 1), (0, (a1 + 3)), (0, 0), (0, (100 * v70716 + 10 * v70744 + v70777 - 5328)), (0, 3)], [(0, 0)], _, _, _)
                          refine ev_ifeq f269_100 (fun c70809 => ?_) (fun c70809 => absurd c70809 (by omega))
                          refine ev_aload_n rfl ?_
                          refine ev_iload_n rfl ?_
                          refine ev_iconst ?_
                          refine ev_iload rfl ?_
                          refine ev_ifeq f269_114 (fun c70810 => ?_) (fun c70810 => absurd c70810 (by omega))
                          refine ev_iload rfl ?_
                          refine ev_in (d := 1) (a := 0) (b := 0) (cd' := c267_0) (m := 6) (L0 := [(2, 42), (0, 1), (0, 0), (0, (100 * v70716 + 10 * v70744 + v70777 - 5328)), (9, 0), (9, 0)]) (jcall_v (A := [(0, (100 * v70716 + 10 * v70744 + v70777 - 5328)), (0, 0), (0, 1)]) (S' := []) (r := 42) rfl (g.lt ad42) (g.tg ad42) (Nat.le_of_ble_eq_true rfl)) (by decide) ml267 pp267 (Nat.le_of_ble_eq_true rfl) rfl (by decide) (by decide) ?_
                          refine ev_iload_n rfl ?_
                          refine ev_ifne f267_6 (fun c70811 => ?_) (fun c70811 => absurd c70811 (by omega))
                          refine ev_aload_n rfl ?_
                          refine ev_dup (by decide) ?_
                          refine g_getv (r := 42) (v := w0) g ad42 (by decide) ft12_21 (ew0) ?_
                          refine ev_iconst ?_
                          refine ev_iadd (r := (w0 + 1)) (by unfold w32; omega) ?_
                          refine g_putf (r := 42) g ad42 (by decide) ft12_21 (by decide) (fun e => absurd e nz12_21) rf42_21 (by decide) (by omega) (by omega) (fun h70812 e70812 g70812 => ?_)
                          have k70812 := k0.wr e70812 rfl
                          refine ev_aload_n rfl ?_
                          refine g_getv (r := 42) (v := (w0 + 1)) g70812 ad42 (by decide) ft12_21 ((jw_eq e70812)) ?_
                          refine ev_bipush ?_
                          refine ev_icmple f267_27 (fun c70813 => absurd c70813 (by omega)) (fun c70813 => ?_)
                          refine ev_iconst ?_
                          refine ev_ret rfl (by decide) (by decide) ?_
                          show jEv _ _ _ _ _ _ _ (_, [(2, 42), (0, a1), (0, 1), (0, (a1 + 3)), (0, 0), (0, (100 * v70716 + 10 * v70744 + v70777 - 5328)), (0, 3)], [(0, (-1))], _, _, _)
                          refine ev_pop (by decide) ?_
                          refine ev_iload_n rfl ?_
                          exact ev_ret rfl (by decide) (by decide) ⟨⟨_, rfl, by omega, by omega, g70812, k70812⟩, fun r hr h0 => by cases hr; exact (Ad.step (r' := (a1 + 3)) (Ad.step (r' := (a1 + 2)) (Ad.step (r' := (a1 + 1)) (Ad.rf _ _ _) (by omega) k70812 (fun _ => rfl) (((jw_ne e70812 (Or.inl (by decide))).trans ev70716)) (by omega) (by omega) (by omega)) (by omega) k70812 (fun _ => rfl) (((jw_ne e70812 (Or.inl (by decide))).trans ev70744)) (by omega) (by omega) (by omega)) (by omega) k70812 (fun _ => rfl) (((jw_ne e70812 (Or.inl (by decide))).trans ev70777)) (by omega) (by omega) (by omega)), fun r hr => by cases hr; exact ⟨_, ((jw_eq e70812)), by omega, by omega, fun h0 => by omega⟩⟩
                        · refine ev_iload_n rfl ?_
                          refine ev_iload_n rfl ?_
                          refine ev_icmpgt f242_14 (fun c70814 => ?_) (fun c70814 => ?_)
                          · refine ev_iconst ?_
                            refine ev_ret rfl (by decide) (by decide) ?_
                            show jEv _ _ _ _ _ _ _ (_, [(2, 42), (0, (a1 + 3))], [(0, 0)], _, _, _)
                            refine ev_ret rfl (by decide) (by decide) ?_
                            show jEv _ _ _ _ _ _ _ (_, [(2, 42), (0, a1), (0, 1), (0, (a1 + 3)), (0, 0), (0, (100 * v70716 + 10 * v70744 + v70777 - 5328)), (0, 3)], [(0, 0)], _, _, _)
                            refine ev_ifeq f269_100 (fun c70815 => ?_) (fun c70815 => absurd c70815 (by omega))
                            refine ev_aload_n rfl ?_
                            refine ev_iload_n rfl ?_
                            refine ev_iconst ?_
                            refine ev_iload rfl ?_
                            refine ev_ifeq f269_114 (fun c70816 => ?_) (fun c70816 => absurd c70816 (by omega))
                            refine ev_iload rfl ?_
                            refine ev_in (d := 1) (a := 0) (b := 0) (cd' := c267_0) (m := 6) (L0 := [(2, 42), (0, 1), (0, 0), (0, (100 * v70716 + 10 * v70744 + v70777 - 5328)), (9, 0), (9, 0)]) (jcall_v (A := [(0, (100 * v70716 + 10 * v70744 + v70777 - 5328)), (0, 0), (0, 1)]) (S' := []) (r := 42) rfl (g.lt ad42) (g.tg ad42) (Nat.le_of_ble_eq_true rfl)) (by decide) ml267 pp267 (Nat.le_of_ble_eq_true rfl) rfl (by decide) (by decide) ?_
                            refine ev_iload_n rfl ?_
                            refine ev_ifne f267_6 (fun c70817 => ?_) (fun c70817 => absurd c70817 (by omega))
                            refine ev_aload_n rfl ?_
                            refine ev_dup (by decide) ?_
                            refine g_getv (r := 42) (v := w0) g ad42 (by decide) ft12_21 (ew0) ?_
                            refine ev_iconst ?_
                            refine ev_iadd (r := (w0 + 1)) (by unfold w32; omega) ?_
                            refine g_putf (r := 42) g ad42 (by decide) ft12_21 (by decide) (fun e => absurd e nz12_21) rf42_21 (by decide) (by omega) (by omega) (fun h70818 e70818 g70818 => ?_)
                            have k70818 := k0.wr e70818 rfl
                            refine ev_aload_n rfl ?_
                            refine g_getv (r := 42) (v := (w0 + 1)) g70818 ad42 (by decide) ft12_21 ((jw_eq e70818)) ?_
                            refine ev_bipush ?_
                            refine ev_icmple f267_27 (fun c70819 => absurd c70819 (by omega)) (fun c70819 => ?_)
                            refine ev_iconst ?_
                            refine ev_ret rfl (by decide) (by decide) ?_
                            show jEv _ _ _ _ _ _ _ (_, [(2, 42), (0, a1), (0, 1), (0, (a1 + 3)), (0, 0), (0, (100 * v70716 + 10 * v70744 + v70777 - 5328)), (0, 3)], [(0, (-1))], _, _, _)
                            refine ev_pop (by decide) ?_
                            refine ev_iload_n rfl ?_
                            exact ev_ret rfl (by decide) (by decide) ⟨⟨_, rfl, by omega, by omega, g70818, k70818⟩, fun r hr h0 => by cases hr; exact (Ad.step (r' := (a1 + 3)) (Ad.step (r' := (a1 + 2)) (Ad.step (r' := (a1 + 1)) (Ad.rf _ _ _) (by omega) k70818 (fun _ => rfl) (((jw_ne e70818 (Or.inl (by decide))).trans ev70716)) (by omega) (by omega) (by omega)) (by omega) k70818 (fun _ => rfl) (((jw_ne e70818 (Or.inl (by decide))).trans ev70744)) (by omega) (by omega) (by omega)) (by omega) k70818 (fun _ => rfl) (((jw_ne e70818 (Or.inl (by decide))).trans ev70777)) (by omega) (by omega) (by omega)), fun r hr => by cases hr; exact ⟨_, ((jw_eq e70818)), by omega, by omega, fun h0 => by omega⟩⟩
                          · refine ev_iconst ?_
                            refine ev_goto f242_15 ?_
                            refine ev_ret rfl (by decide) (by decide) ?_
                            show jEv _ _ _ _ _ _ _ (_, [(2, 42), (0, (a1 + 3))], [(0, 1)], _, _, _)
                            refine ev_ret rfl (by decide) (by decide) ?_
                            show jEv _ _ _ _ _ _ _ (_, [(2, 42), (0, a1), (0, 1), (0, (a1 + 3)), (0, 0), (0, (100 * v70716 + 10 * v70744 + v70777 - 5328)), (0, 3)], [(0, 1)], _, _, _)
                            refine ev_ifeq f269_100 (fun c70820 => absurd c70820 (by omega)) (fun c70820 => ?_)
                            refine ev_aload_n rfl ?_
                            refine ev_iload_n rfl ?_
                            refine ev_in (d := 1) (a := 0) (b := 0) (cd' := c266_0) (m := 2) (L0 := [(2, 42), (0, (a1 + 3))]) (jcall_v (A := [(0, (a1 + 3))]) (S' := []) (r := 42) rfl (g.lt ad42) (g.tg ad42) (Nat.le_of_ble_eq_true rfl)) (by decide) ml266 pp266 (Nat.le_of_ble_eq_true rfl) rfl (by decide) (by decide) ?_
                            refine ev_aload_n rfl ?_
                            refine ev_iload_n rfl ?_
                            refine g_putf (r := 42) g ad42 (by decide) ft12_20 (by decide) (fun e => absurd e nz12_20) rf42_20 (by decide) (by omega) (by omega) (fun h70821 e70821 g70821 => ?_)
                            have k70821 := k0.wr e70821 rfl
                            refine ev_iconst ?_
                            refine ev_ret rfl (by decide) (by decide) ?_
                            show jEv _ _ _ _ _ _ _ (_, [(2, 42), (0, a1), (0, 1), (0, (a1 + 3)), (0, 0), (0, (100 * v70716 + 10 * v70744 + v70777 - 5328)), (0, 3)], [(0, (-1))], _, _, _)
                            exact ev_ret rfl (by decide) (by decide) ⟨⟨_, rfl, by omega, by omega, g70821, k70821⟩, fun r hr h0 => by cases hr; exfalso; omega, fun r hr => by cases hr; exact ⟨_, (((jw_ne e70821 (Or.inr (by decide))).trans ew0)), by omega, by omega, fun h0 => by exfalso; omega⟩⟩
    · refine ev_iconst ?_
      refine ev_goto f269_17 ?_
      refine ev_istore (L' := [(2, 42), (0, a1), (0, 1), (0, a1), (0, 1), (9, 0), (9, 0)]) (Nat.le_of_ble_eq_true rfl) rfl ?_
      refine ev_iload rfl ?_
      refine ev_ifeq f269_27 (fun c70822 => absurd c70822 (by omega)) (fun c70822 => ?_)
      refine ev_iinc (w := (a1 + 1)) (L' := [(2, 42), (0, a1), (0, 1), (0, (a1 + 1)), (0, 1), (9, 0), (9, 0)]) rfl (by unfold w32; omega) rfl ?_
      refine ev_aload_n rfl ?_
      refine ev_iload_n rfl ?_
      refine ev_in (d := 1) (a := 0) (b := 0) (cd' := c265_0) (m := 2) (L0 := [(2, 42), (0, (a1 + 1))]) (jcall_v (A := [(0, (a1 + 1))]) (S' := []) (r := 42) rfl (g.lt ad42) (g.tg ad42) (Nat.le_of_ble_eq_true rfl)) (by decide) ml265 pp265 (Nat.le_of_ble_eq_true rfl) rfl (by decide) (by decide) ?_
      refine ev_aload_n rfl ?_
      refine ev_iload_n rfl ?_
      refine ev_in (d := 0) (a := 0) (b := 0) (cd' := c264_0) (m := 2) (L0 := [(2, 42), (0, (a1 + 1))]) (jcall_v (A := [(0, (a1 + 1))]) (S' := []) (r := 42) rfl (g.lt ad42) (g.tg ad42) (Nat.le_of_ble_eq_true rfl)) (by decide) ml264 pp264 (Nat.le_of_ble_eq_true rfl) rfl (by decide) (by decide) ?_
      refine ev_iload_n rfl ?_
      refine ev_aload_n rfl ?_
      refine g_getv (r := 42) (v := v70708) g ad42 (by decide) ft12_17 (ev70708) ?_
      refine ev_icmpge f264_17 (fun c70823 => ?_) (fun c70823 => ?_)
      · refine ev_iconst ?_
        refine ev_ret rfl (by decide) (by decide) ?_
        show jEv _ _ _ _ _ _ _ (_, [(2, 42), (0, (a1 + 1))], [(0, (-1))], _, _, _)
        refine ev_bipush ?_
        refine ev_bipush ?_
        refine ev_in (d := 0) (a := 0) (b := 0) (cd' := c242_0) (m := 3) (L0 := [(0, (-1)), (0, 48), (0, 57)]) (jcall_s (A := [(0, 57), (0, 48), (0, (-1))]) (S' := []) (by decide) rfl (Nat.le_of_ble_eq_true rfl)) (by decide) ml242 pp242 (Nat.le_of_ble_eq_true rfl) rfl (by decide) (by decide) ?_
        refine ev_iload_n rfl ?_
        refine ev_iload_n rfl ?_
        refine ev_icmplt f242_14 (fun c70824 => ?_) (fun c70824 => absurd c70824 (by omega))
        refine ev_iconst ?_
        refine ev_ret rfl (by decide) (by decide) ?_
        show jEv _ _ _ _ _ _ _ (_, [(2, 42), (0, (a1 + 1))], [(0, 0)], _, _, _)
        refine ev_ret rfl (by decide) (by decide) ?_
        show jEv _ _ _ _ _ _ _ (_, [(2, 42), (0, a1), (0, 1), (0, (a1 + 1)), (0, 1), (9, 0), (9, 0)], [(0, 0)], _, _, _)
        refine ev_ifne f269_41 (fun c70825 => absurd c70825 (by omega)) (fun c70825 => ?_)
        refine ev_aload_n rfl ?_
        refine ev_iload_n rfl ?_
        refine ev_in (d := 1) (a := 0) (b := 0) (cd' := c266_0) (m := 2) (L0 := [(2, 42), (0, (a1 + 1))]) (jcall_v (A := [(0, (a1 + 1))]) (S' := []) (r := 42) rfl (g.lt ad42) (g.tg ad42) (Nat.le_of_ble_eq_true rfl)) (by decide) ml266 pp266 (Nat.le_of_ble_eq_true rfl) rfl (by decide) (by decide) ?_
        refine ev_aload_n rfl ?_
        refine ev_iload_n rfl ?_
        refine g_putf (r := 42) g ad42 (by decide) ft12_20 (by decide) (fun e => absurd e nz12_20) rf42_20 (by decide) (by omega) (by omega) (fun h70826 e70826 g70826 => ?_)
        have k70826 := k0.wr e70826 rfl
        refine ev_iconst ?_
        refine ev_ret rfl (by decide) (by decide) ?_
        show jEv _ _ _ _ _ _ _ (_, [(2, 42), (0, a1), (0, 1), (0, (a1 + 1)), (0, 1), (9, 0), (9, 0)], [(0, (-1))], _, _, _)
        exact ev_ret rfl (by decide) (by decide) ⟨⟨_, rfl, by omega, by omega, g70826, k70826⟩, fun r hr h0 => by cases hr; exfalso; omega, fun r hr => by cases hr; exact ⟨_, (((jw_ne e70826 (Or.inr (by decide))).trans ew0)), by omega, by omega, fun h0 => by exfalso; omega⟩⟩
      · refine ev_aload_n rfl ?_
        refine g_getp (r := 42) (c := 54) g ad42 (by decide) (by decide) rf42_16 ft12_16 ?_
        refine ev_iload_n rfl ?_
        refine g_bald g ad54 rt54 (by omega) (by omega) (fun v70827 ev70827 lv70827 uv70827 => ?_)
        refine ev_goto f264_18 ?_
        refine ev_ret rfl (by decide) (by decide) ?_
        show jEv _ _ _ _ _ _ _ (_, [(2, 42), (0, (a1 + 1))], [(0, v70827)], _, _, _)
        refine ev_bipush ?_
        refine ev_bipush ?_
        refine ev_in (d := 0) (a := 0) (b := 0) (cd' := c242_0) (m := 3) (L0 := [(0, v70827), (0, 48), (0, 57)]) (jcall_s (A := [(0, 57), (0, 48), (0, v70827)]) (S' := []) (by decide) rfl (Nat.le_of_ble_eq_true rfl)) (by decide) ml242 pp242 (Nat.le_of_ble_eq_true rfl) rfl (by decide) (by decide) ?_
        refine ev_iload_n rfl ?_
        refine ev_iload_n rfl ?_
        refine ev_icmplt f242_14 (fun c70828 => ?_) (fun c70828 => ?_)
        · refine ev_iconst ?_
          refine ev_ret rfl (by decide) (by decide) ?_
          show jEv _ _ _ _ _ _ _ (_, [(2, 42), (0, (a1 + 1))], [(0, 0)], _, _, _)
          refine ev_ret rfl (by decide) (by decide) ?_
          show jEv _ _ _ _ _ _ _ (_, [(2, 42), (0, a1), (0, 1), (0, (a1 + 1)), (0, 1), (9, 0), (9, 0)], [(0, 0)], _, _, _)
          refine ev_ifne f269_41 (fun c70829 => absurd c70829 (by omega)) (fun c70829 => ?_)
          refine ev_aload_n rfl ?_
          refine ev_iload_n rfl ?_
          refine ev_in (d := 1) (a := 0) (b := 0) (cd' := c266_0) (m := 2) (L0 := [(2, 42), (0, (a1 + 1))]) (jcall_v (A := [(0, (a1 + 1))]) (S' := []) (r := 42) rfl (g.lt ad42) (g.tg ad42) (Nat.le_of_ble_eq_true rfl)) (by decide) ml266 pp266 (Nat.le_of_ble_eq_true rfl) rfl (by decide) (by decide) ?_
          refine ev_aload_n rfl ?_
          refine ev_iload_n rfl ?_
          refine g_putf (r := 42) g ad42 (by decide) ft12_20 (by decide) (fun e => absurd e nz12_20) rf42_20 (by decide) (by omega) (by omega) (fun h70830 e70830 g70830 => ?_)
          have k70830 := k0.wr e70830 rfl
          refine ev_iconst ?_
          refine ev_ret rfl (by decide) (by decide) ?_
          show jEv _ _ _ _ _ _ _ (_, [(2, 42), (0, a1), (0, 1), (0, (a1 + 1)), (0, 1), (9, 0), (9, 0)], [(0, (-1))], _, _, _)
          exact ev_ret rfl (by decide) (by decide) ⟨⟨_, rfl, by omega, by omega, g70830, k70830⟩, fun r hr h0 => by cases hr; exfalso; omega, fun r hr => by cases hr; exact ⟨_, (((jw_ne e70830 (Or.inr (by decide))).trans ew0)), by omega, by omega, fun h0 => by exfalso; omega⟩⟩
        · refine ev_iload_n rfl ?_
          refine ev_iload_n rfl ?_
          refine ev_icmpgt f242_14 (fun c70831 => ?_) (fun c70831 => ?_)
          · refine ev_iconst ?_
            refine ev_ret rfl (by decide) (by decide) ?_
            show jEv _ _ _ _ _ _ _ (_, [(2, 42), (0, (a1 + 1))], [(0, 0)], _, _, _)
            refine ev_ret rfl (by decide) (by decide) ?_
            show jEv _ _ _ _ _ _ _ (_, [(2, 42), (0, a1), (0, 1), (0, (a1 + 1)), (0, 1), (9, 0), (9, 0)], [(0, 0)], _, _, _)
            refine ev_ifne f269_41 (fun c70832 => absurd c70832 (by omega)) (fun c70832 => ?_)
            refine ev_aload_n rfl ?_
            refine ev_iload_n rfl ?_
            refine ev_in (d := 1) (a := 0) (b := 0) (cd' := c266_0) (m := 2) (L0 := [(2, 42), (0, (a1 + 1))]) (jcall_v (A := [(0, (a1 + 1))]) (S' := []) (r := 42) rfl (g.lt ad42) (g.tg ad42) (Nat.le_of_ble_eq_true rfl)) (by decide) ml266 pp266 (Nat.le_of_ble_eq_true rfl) rfl (by decide) (by decide) ?_
            refine ev_aload_n rfl ?_
            refine ev_iload_n rfl ?_
            refine g_putf (r := 42) g ad42 (by decide) ft12_20 (by decide) (fun e => absurd e nz12_20) rf42_20 (by decide) (by omega) (by omega) (fun h70833 e70833 g70833 => ?_)
            have k70833 := k0.wr e70833 rfl
            refine ev_iconst ?_
            refine ev_ret rfl (by decide) (by decide) ?_
            show jEv _ _ _ _ _ _ _ (_, [(2, 42), (0, a1), (0, 1), (0, (a1 + 1)), (0, 1), (9, 0), (9, 0)], [(0, (-1))], _, _, _)
            exact ev_ret rfl (by decide) (by decide) ⟨⟨_, rfl, by omega, by omega, g70833, k70833⟩, fun r hr h0 => by cases hr; exfalso; omega, fun r hr => by cases hr; exact ⟨_, (((jw_ne e70833 (Or.inr (by decide))).trans ew0)), by omega, by omega, fun h0 => by exfalso; omega⟩⟩
          · refine ev_iconst ?_
            refine ev_goto f242_15 ?_
            refine ev_ret rfl (by decide) (by decide) ?_
            show jEv _ _ _ _ _ _ _ (_, [(2, 42), (0, (a1 + 1))], [(0, 1)], _, _, _)
            refine ev_ret rfl (by decide) (by decide) ?_
            show jEv _ _ _ _ _ _ _ (_, [(2, 42), (0, a1), (0, 1), (0, (a1 + 1)), (0, 1), (9, 0), (9, 0)], [(0, 1)], _, _, _)
            refine ev_ifne f269_41 (fun c70834 => ?_) (fun c70834 => absurd c70834 (by omega))
            refine ev_iconst ?_
            refine ev_istore (L' := [(2, 42), (0, a1), (0, 1), (0, (a1 + 1)), (0, 1), (0, 0), (9, 0)]) (Nat.le_of_ble_eq_true rfl) rfl ?_
            refine ev_iconst ?_
            refine ev_istore (L' := [(2, 42), (0, a1), (0, 1), (0, (a1 + 1)), (0, 1), (0, 0), (0, 0)]) (Nat.le_of_ble_eq_true rfl) rfl ?_
            refine ev_iload rfl ?_
            refine ev_iconst ?_
            refine ev_icmpge f269_86 (fun c70835 => absurd c70835 (by omega)) (fun c70835 => ?_)
            refine ev_aload_n rfl ?_
            refine ev_iload_n rfl ?_
            refine ev_in (d := 1) (a := 0) (b := 0) (cd' := c265_0) (m := 2) (L0 := [(2, 42), (0, (a1 + 1))]) (jcall_v (A := [(0, (a1 + 1))]) (S' := []) (r := 42) rfl (g.lt ad42) (g.tg ad42) (Nat.le_of_ble_eq_true rfl)) (by decide) ml265 pp265 (Nat.le_of_ble_eq_true rfl) rfl (by decide) (by decide) ?_
            refine ev_aload_n rfl ?_
            refine ev_iload_n rfl ?_
            refine ev_in (d := 0) (a := 0) (b := 0) (cd' := c264_0) (m := 2) (L0 := [(2, 42), (0, (a1 + 1))]) (jcall_v (A := [(0, (a1 + 1))]) (S' := []) (r := 42) rfl (g.lt ad42) (g.tg ad42) (Nat.le_of_ble_eq_true rfl)) (by decide) ml264 pp264 (Nat.le_of_ble_eq_true rfl) rfl (by decide) (by decide) ?_
            refine ev_iload_n rfl ?_
            refine ev_aload_n rfl ?_
            refine g_getv (r := 42) (v := v70708) g ad42 (by decide) ft12_17 (ev70708) ?_
            refine ev_icmpge f264_17 (fun c70836 => absurd c70836 (by omega)) (fun c70836 => ?_)
            refine ev_aload_n rfl ?_
            refine g_getp (r := 42) (c := 54) g ad42 (by decide) (by decide) rf42_16 ft12_16 ?_
            refine ev_iload_n rfl ?_
            refine g_baldv (v := v70827) g ad54 (by omega) (by omega) (ev70827) ?_
            refine ev_goto f264_18 ?_
            refine ev_ret rfl (by decide) (by decide) ?_
            show jEv _ _ _ _ _ _ _ (_, [(2, 42), (0, (a1 + 1))], [(0, v70827)], _, _, _)
            refine ev_bipush ?_
            refine ev_bipush ?_
            refine ev_in (d := 0) (a := 0) (b := 0) (cd' := c242_0) (m := 3) (L0 := [(0, v70827), (0, 48), (0, 57)]) (jcall_s (A := [(0, 57), (0, 48), (0, v70827)]) (S' := []) (by decide) rfl (Nat.le_of_ble_eq_true rfl)) (by decide) ml242 pp242 (Nat.le_of_ble_eq_true rfl) rfl (by decide) (by decide) ?_
            refine ev_iload_n rfl ?_
            refine ev_iload_n rfl ?_
            refine ev_icmplt f242_14 (fun c70837 => absurd c70837 (by omega)) (fun c70837 => ?_)
            refine ev_iload_n rfl ?_
            refine ev_iload_n rfl ?_
            refine ev_icmpgt f242_14 (fun c70838 => absurd c70838 (by omega)) (fun c70838 => ?_)
            refine ev_iconst ?_
            refine ev_goto f242_15 ?_
            refine ev_ret rfl (by decide) (by decide) ?_
            show jEv _ _ _ _ _ _ _ (_, [(2, 42), (0, (a1 + 1))], [(0, 1)], _, _, _)
            refine ev_ret rfl (by decide) (by decide) ?_
            show jEv _ _ _ _ _ _ _ (_, [(2, 42), (0, a1), (0, 1), (0, (a1 + 1)), (0, 1), (0, 0), (0, 0)], [(0, 1)], _, _, _)
            refine ev_ifeq f269_86 (fun c70839 => absurd c70839 (by omega)) (fun c70839 => ?_)
            refine ev_bipush ?_
            refine ev_iload rfl ?_
            refine ev_imul (r := 0) (by decide) ?_
            refine ev_aload_n rfl ?_
            refine ev_iload_n rfl ?_
            refine ev_in (d := 1) (a := 0) (b := 0) (cd' := c264_0) (m := 2) (L0 := [(2, 42), (0, (a1 + 1))]) (jcall_v (A := [(0, (a1 + 1))]) (S' := [(0, 0)]) (r := 42) rfl (g.lt ad42) (g.tg ad42) (Nat.le_of_ble_eq_true rfl)) (by decide) ml264 pp264 (Nat.le_of_ble_eq_true rfl) rfl (by decide) (by decide) ?_
            refine ev_iload_n rfl ?_
            refine ev_aload_n rfl ?_
            refine g_getv (r := 42) (v := v70708) g ad42 (by decide) ft12_17 (ev70708) ?_
            refine ev_icmpge f264_17 (fun c70840 => absurd c70840 (by omega)) (fun c70840 => ?_)
            refine ev_aload_n rfl ?_
            refine g_getp (r := 42) (c := 54) g ad42 (by decide) (by decide) rf42_16 ft12_16 ?_
            refine ev_iload_n rfl ?_
            refine g_baldv (v := v70827) g ad54 (by omega) (by omega) (ev70827) ?_
            refine ev_goto f264_18 ?_
            refine ev_ret rfl (by decide) (by decide) ?_
            show jEv _ _ _ _ _ _ _ (_, [(2, 42), (0, a1), (0, 1), (0, (a1 + 1)), (0, 1), (0, 0), (0, 0)], [(0, v70827), (0, 0)], _, _, _)
            refine ev_iadd (r := v70827) (by unfold w32; omega) ?_
            refine ev_bipush ?_
            refine ev_isub (r := (v70827 - 48)) (by unfold w32; omega) ?_
            refine ev_istore (L' := [(2, 42), (0, a1), (0, 1), (0, (a1 + 1)), (0, 1), (0, (v70827 - 48)), (0, 0)]) (Nat.le_of_ble_eq_true rfl) rfl ?_
            refine ev_iinc (w := 1) (L' := [(2, 42), (0, a1), (0, 1), (0, (a1 + 1)), (0, 1), (0, (v70827 - 48)), (0, 1)]) rfl (by decide) rfl ?_
            refine ev_iinc (w := (a1 + 2)) (L' := [(2, 42), (0, a1), (0, 1), (0, (a1 + 2)), (0, 1), (0, (v70827 - 48)), (0, 1)]) rfl (by unfold w32; omega) rfl ?_
            refine ev_goto f269_47 ?_
            refine ev_iload rfl ?_
            refine ev_iconst ?_
            refine ev_icmpge f269_86 (fun c70841 => absurd c70841 (by omega)) (fun c70841 => ?_)
            refine ev_aload_n rfl ?_
            refine ev_iload_n rfl ?_
            refine ev_in (d := 1) (a := 0) (b := 0) (cd' := c265_0) (m := 2) (L0 := [(2, 42), (0, (a1 + 2))]) (jcall_v (A := [(0, (a1 + 2))]) (S' := []) (r := 42) rfl (g.lt ad42) (g.tg ad42) (Nat.le_of_ble_eq_true rfl)) (by decide) ml265 pp265 (Nat.le_of_ble_eq_true rfl) rfl (by decide) (by decide) ?_
            refine ev_aload_n rfl ?_
            refine ev_iload_n rfl ?_
            refine ev_in (d := 0) (a := 0) (b := 0) (cd' := c264_0) (m := 2) (L0 := [(2, 42), (0, (a1 + 2))]) (jcall_v (A := [(0, (a1 + 2))]) (S' := []) (r := 42) rfl (g.lt ad42) (g.tg ad42) (Nat.le_of_ble_eq_true rfl)) (by decide) ml264 pp264 (Nat.le_of_ble_eq_true rfl) rfl (by decide) (by decide) ?_
            refine ev_iload_n rfl ?_
            refine ev_aload_n rfl ?_
            refine g_getv (r := 42) (v := v70708) g ad42 (by decide) ft12_17 (ev70708) ?_
            refine ev_icmpge f264_17 (fun c70842 => ?_) (fun c70842 => ?_)
            · refine ev_iconst ?_
              refine ev_ret rfl (by decide) (by decide) ?_
              show jEv _ _ _ _ _ _ _ (_, [(2, 42), (0, (a1 + 2))], [(0, (-1))], _, _, _)
              refine ev_bipush ?_
              refine ev_bipush ?_
              refine ev_in (d := 0) (a := 0) (b := 0) (cd' := c242_0) (m := 3) (L0 := [(0, (-1)), (0, 48), (0, 57)]) (jcall_s (A := [(0, 57), (0, 48), (0, (-1))]) (S' := []) (by decide) rfl (Nat.le_of_ble_eq_true rfl)) (by decide) ml242 pp242 (Nat.le_of_ble_eq_true rfl) rfl (by decide) (by decide) ?_
              refine ev_iload_n rfl ?_
              refine ev_iload_n rfl ?_
              refine ev_icmplt f242_14 (fun c70843 => ?_) (fun c70843 => absurd c70843 (by omega))
              refine ev_iconst ?_
              refine ev_ret rfl (by decide) (by decide) ?_
              show jEv _ _ _ _ _ _ _ (_, [(2, 42), (0, (a1 + 2))], [(0, 0)], _, _, _)
              refine ev_ret rfl (by decide) (by decide) ?_
              show jEv _ _ _ _ _ _ _ (_, [(2, 42), (0, a1), (0, 1), (0, (a1 + 2)), (0, 1), (0, (v70827 - 48)), (0, 1)], [(0, 0)], _, _, _)
              refine ev_ifeq f269_86 (fun c70844 => ?_) (fun c70844 => absurd c70844 (by omega))
              refine ev_aload_n rfl ?_
              refine ev_iload_n rfl ?_
              refine ev_in (d := 1) (a := 0) (b := 0) (cd' := c265_0) (m := 2) (L0 := [(2, 42), (0, (a1 + 2))]) (jcall_v (A := [(0, (a1 + 2))]) (S' := []) (r := 42) rfl (g.lt ad42) (g.tg ad42) (Nat.le_of_ble_eq_true rfl)) (by decide) ml265 pp265 (Nat.le_of_ble_eq_true rfl) rfl (by decide) (by decide) ?_
              refine ev_aload_n rfl ?_
              refine ev_iload_n rfl ?_
              refine ev_in (d := 0) (a := 0) (b := 0) (cd' := c264_0) (m := 2) (L0 := [(2, 42), (0, (a1 + 2))]) (jcall_v (A := [(0, (a1 + 2))]) (S' := []) (r := 42) rfl (g.lt ad42) (g.tg ad42) (Nat.le_of_ble_eq_true rfl)) (by decide) ml264 pp264 (Nat.le_of_ble_eq_true rfl) rfl (by decide) (by decide) ?_
              refine ev_iload_n rfl ?_
              refine ev_aload_n rfl ?_
              refine g_getv (r := 42) (v := v70708) g ad42 (by decide) ft12_17 (ev70708) ?_
              refine ev_icmpge f264_17 (fun c70845 => ?_) (fun c70845 => absurd c70845 (by omega))
              refine ev_iconst ?_
              refine ev_ret rfl (by decide) (by decide) ?_
              show jEv _ _ _ _ _ _ _ (_, [(2, 42), (0, (a1 + 2))], [(0, (-1))], _, _, _)
              refine ev_bipush ?_
              refine ev_bipush ?_
              refine ev_in (d := 0) (a := 0) (b := 0) (cd' := c242_0) (m := 3) (L0 := [(0, (-1)), (0, 48), (0, 57)]) (jcall_s (A := [(0, 57), (0, 48), (0, (-1))]) (S' := []) (by decide) rfl (Nat.le_of_ble_eq_true rfl)) (by decide) ml242 pp242 (Nat.le_of_ble_eq_true rfl) rfl (by decide) (by decide) ?_
              refine ev_iload_n rfl ?_
              refine ev_iload_n rfl ?_
              refine ev_icmplt f242_14 (fun c70846 => ?_) (fun c70846 => absurd c70846 (by omega))
              refine ev_iconst ?_
              refine ev_ret rfl (by decide) (by decide) ?_
              show jEv _ _ _ _ _ _ _ (_, [(2, 42), (0, (a1 + 2))], [(0, 0)], _, _, _)
              refine ev_ret rfl (by decide) (by decide) ?_
              show jEv _ _ _ _ _ _ _ (_, [(2, 42), (0, a1), (0, 1), (0, (a1 + 2)), (0, 1), (0, (v70827 - 48)), (0, 1)], [(0, 0)], _, _, _)
              refine ev_ifeq f269_100 (fun c70847 => ?_) (fun c70847 => absurd c70847 (by omega))
              refine ev_aload_n rfl ?_
              refine ev_iload_n rfl ?_
              refine ev_iconst ?_
              refine ev_iload rfl ?_
              refine ev_ifeq f269_114 (fun c70848 => absurd c70848 (by omega)) (fun c70848 => ?_)
              refine ev_iload rfl ?_
              refine ev_ineg (r := ((-v70827) + 48)) (by unfold w32; omega) ?_
              refine ev_goto f269_116 ?_
              refine ev_in (d := 1) (a := 0) (b := 0) (cd' := c267_0) (m := 6) (L0 := [(2, 42), (0, 1), (0, 0), (0, ((-v70827) + 48)), (9, 0), (9, 0)]) (jcall_v (A := [(0, ((-v70827) + 48)), (0, 0), (0, 1)]) (S' := []) (r := 42) rfl (g.lt ad42) (g.tg ad42) (Nat.le_of_ble_eq_true rfl)) (by decide) ml267 pp267 (Nat.le_of_ble_eq_true rfl) rfl (by decide) (by decide) ?_
              refine ev_iload_n rfl ?_
              refine ev_ifne f267_6 (fun c70849 => ?_) (fun c70849 => absurd c70849 (by omega))
              refine ev_aload_n rfl ?_
              refine ev_dup (by decide) ?_
              refine g_getv (r := 42) (v := w0) g ad42 (by decide) ft12_21 (ew0) ?_
              refine ev_iconst ?_
              refine ev_iadd (r := (w0 + 1)) (by unfold w32; omega) ?_
              refine g_putf (r := 42) g ad42 (by decide) ft12_21 (by decide) (fun e => absurd e nz12_21) rf42_21 (by decide) (by omega) (by omega) (fun h70850 e70850 g70850 => ?_)
              have k70850 := k0.wr e70850 rfl
              refine ev_aload_n rfl ?_
              refine g_getv (r := 42) (v := (w0 + 1)) g70850 ad42 (by decide) ft12_21 ((jw_eq e70850)) ?_
              refine ev_bipush ?_
              refine ev_icmple f267_27 (fun c70851 => absurd c70851 (by omega)) (fun c70851 => ?_)
              refine ev_iconst ?_
              refine ev_ret rfl (by decide) (by decide) ?_
              show jEv _ _ _ _ _ _ _ (_, [(2, 42), (0, a1), (0, 1), (0, (a1 + 2)), (0, 1), (0, (v70827 - 48)), (0, 1)], [(0, (-1))], _, _, _)
              refine ev_pop (by decide) ?_
              refine ev_iload_n rfl ?_
              exact ev_ret rfl (by decide) (by decide) ⟨⟨_, rfl, by omega, by omega, g70850, k70850⟩, fun r hr h0 => by cases hr; exact (Ad.step (r' := (a1 + 2)) (Ad.step (r' := (a1 + 1)) (Ad.rf _ _ _) (by omega) k70850 (fun _ => rfl) (((jw_ne e70850 (Or.inl (by decide))).trans ev70716)) (by omega) (by omega) (by omega)) (by omega) k70850 (fun _ => rfl) (((jw_ne e70850 (Or.inl (by decide))).trans ev70827)) (by omega) (by omega) (by omega)), fun r hr => by cases hr; exact ⟨_, ((jw_eq e70850)), by omega, by omega, fun h0 => by omega⟩⟩
            · refine ev_aload_n rfl ?_
              refine g_getp (r := 42) (c := 54) g ad42 (by decide) (by decide) rf42_16 ft12_16 ?_
              refine ev_iload_n rfl ?_
              refine g_bald g ad54 rt54 (by omega) (by omega) (fun v70852 ev70852 lv70852 uv70852 => ?_)
              refine ev_goto f264_18 ?_
              refine ev_ret rfl (by decide) (by decide) ?_
              show jEv _ _ _ _ _ _ _ (_, [(2, 42), (0, (a1 + 2))], [(0, v70852)], _, _, _)
              refine ev_bipush ?_
              refine ev_bipush ?_
              refine ev_in (d := 0) (a := 0) (b := 0) (cd' := c242_0) (m := 3) (L0 := [(0, v70852), (0, 48), (0, 57)]) (jcall_s (A := [(0, 57), (0, 48), (0, v70852)]) (S' := []) (by decide) rfl (Nat.le_of_ble_eq_true rfl)) (by decide) ml242 pp242 (Nat.le_of_ble_eq_true rfl) rfl (by decide) (by decide) ?_
              refine ev_iload_n rfl ?_
              refine ev_iload_n rfl ?_
              refine ev_icmplt f242_14 (fun c70853 => ?_) (fun c70853 => ?_)
              · refine ev_iconst ?_
                refine ev_ret rfl (by decide) (by decide) ?_
                show jEv _ _ _ _ _ _ _ (_, [(2, 42), (0, (a1 + 2))], [(0, 0)], _, _, _)
                refine ev_ret rfl (by decide) (by decide) ?_
                show jEv _ _ _ _ _ _ _ (_, [(2, 42), (0, a1), (0, 1), (0, (a1 + 2)), (0, 1), (0, (v70827 - 48)), (0, 1)], [(0, 0)], _, _, _)
                refine ev_ifeq f269_86 (fun c70854 => ?_) (fun c70854 => absurd c70854 (by omega))
                refine ev_aload_n rfl ?_
                refine ev_iload_n rfl ?_
                refine ev_in (d := 1) (a := 0) (b := 0) (cd' := c265_0) (m := 2) (L0 := [(2, 42), (0, (a1 + 2))]) (jcall_v (A := [(0, (a1 + 2))]) (S' := []) (r := 42) rfl (g.lt ad42) (g.tg ad42) (Nat.le_of_ble_eq_true rfl)) (by decide) ml265 pp265 (Nat.le_of_ble_eq_true rfl) rfl (by decide) (by decide) ?_
                refine ev_aload_n rfl ?_
                refine ev_iload_n rfl ?_
                refine ev_in (d := 0) (a := 0) (b := 0) (cd' := c264_0) (m := 2) (L0 := [(2, 42), (0, (a1 + 2))]) (jcall_v (A := [(0, (a1 + 2))]) (S' := []) (r := 42) rfl (g.lt ad42) (g.tg ad42) (Nat.le_of_ble_eq_true rfl)) (by decide) ml264 pp264 (Nat.le_of_ble_eq_true rfl) rfl (by decide) (by decide) ?_
                refine ev_iload_n rfl ?_
                refine ev_aload_n rfl ?_
                refine g_getv (r := 42) (v := v70708) g ad42 (by decide) ft12_17 (ev70708) ?_
                refine ev_icmpge f264_17 (fun c70855 => absurd c70855 (by omega)) (fun c70855 => ?_)
                refine ev_aload_n rfl ?_
                refine g_getp (r := 42) (c := 54) g ad42 (by decide) (by decide) rf42_16 ft12_16 ?_
                refine ev_iload_n rfl ?_
                refine g_baldv (v := v70852) g ad54 (by omega) (by omega) (ev70852) ?_
                refine ev_goto f264_18 ?_
                refine ev_ret rfl (by decide) (by decide) ?_
                show jEv _ _ _ _ _ _ _ (_, [(2, 42), (0, (a1 + 2))], [(0, v70852)], _, _, _)
                refine ev_bipush ?_
                refine ev_bipush ?_
                refine ev_in (d := 0) (a := 0) (b := 0) (cd' := c242_0) (m := 3) (L0 := [(0, v70852), (0, 48), (0, 57)]) (jcall_s (A := [(0, 57), (0, 48), (0, v70852)]) (S' := []) (by decide) rfl (Nat.le_of_ble_eq_true rfl)) (by decide) ml242 pp242 (Nat.le_of_ble_eq_true rfl) rfl (by decide) (by decide) ?_
                refine ev_iload_n rfl ?_
                refine ev_iload_n rfl ?_
                refine ev_icmplt f242_14 (fun c70856 => ?_) (fun c70856 => absurd c70856 (by omega))
                refine ev_iconst ?_
                refine ev_ret rfl (by decide) (by decide) ?_
                show jEv _ _ _ _ _ _ _ (_, [(2, 42), (0, (a1 + 2))], [(0, 0)], _, _, _)
                refine ev_ret rfl (by decide) (by decide) ?_
                show jEv _ _ _ _ _ _ _ (_, [(2, 42), (0, a1), (0, 1), (0, (a1 + 2)), (0, 1), (0, (v70827 - 48)), (0, 1)], [(0, 0)], _, _, _)
                refine ev_ifeq f269_100 (fun c70857 => ?_) (fun c70857 => absurd c70857 (by omega))
                refine ev_aload_n rfl ?_
                refine ev_iload_n rfl ?_
                refine ev_iconst ?_
                refine ev_iload rfl ?_
                refine ev_ifeq f269_114 (fun c70858 => absurd c70858 (by omega)) (fun c70858 => ?_)
                refine ev_iload rfl ?_
                refine ev_ineg (r := ((-v70827) + 48)) (by unfold w32; omega) ?_
                refine ev_goto f269_116 ?_
                refine ev_in (d := 1) (a := 0) (b := 0) (cd' := c267_0) (m := 6) (L0 := [(2, 42), (0, 1), (0, 0), (0, ((-v70827) + 48)), (9, 0), (9, 0)]) (jcall_v (A := [(0, ((-v70827) + 48)), (0, 0), (0, 1)]) (S' := []) (r := 42) rfl (g.lt ad42) (g.tg ad42) (Nat.le_of_ble_eq_true rfl)) (by decide) ml267 pp267 (Nat.le_of_ble_eq_true rfl) rfl (by decide) (by decide) ?_
                refine ev_iload_n rfl ?_
                refine ev_ifne f267_6 (fun c70859 => ?_) (fun c70859 => absurd c70859 (by omega))
                refine ev_aload_n rfl ?_
                refine ev_dup (by decide) ?_
                refine g_getv (r := 42) (v := w0) g ad42 (by decide) ft12_21 (ew0) ?_
                refine ev_iconst ?_
                refine ev_iadd (r := (w0 + 1)) (by unfold w32; omega) ?_
                refine g_putf (r := 42) g ad42 (by decide) ft12_21 (by decide) (fun e => absurd e nz12_21) rf42_21 (by decide) (by omega) (by omega) (fun h70860 e70860 g70860 => ?_)
                have k70860 := k0.wr e70860 rfl
                refine ev_aload_n rfl ?_
                refine g_getv (r := 42) (v := (w0 + 1)) g70860 ad42 (by decide) ft12_21 ((jw_eq e70860)) ?_
                refine ev_bipush ?_
                refine ev_icmple f267_27 (fun c70861 => absurd c70861 (by omega)) (fun c70861 => ?_)
                refine ev_iconst ?_
                refine ev_ret rfl (by decide) (by decide) ?_
                show jEv _ _ _ _ _ _ _ (_, [(2, 42), (0, a1), (0, 1), (0, (a1 + 2)), (0, 1), (0, (v70827 - 48)), (0, 1)], [(0, (-1))], _, _, _)
                refine ev_pop (by decide) ?_
                refine ev_iload_n rfl ?_
                exact ev_ret rfl (by decide) (by decide) ⟨⟨_, rfl, by omega, by omega, g70860, k70860⟩, fun r hr h0 => by cases hr; exact (Ad.step (r' := (a1 + 2)) (Ad.step (r' := (a1 + 1)) (Ad.rf _ _ _) (by omega) k70860 (fun _ => rfl) (((jw_ne e70860 (Or.inl (by decide))).trans ev70716)) (by omega) (by omega) (by omega)) (by omega) k70860 (fun _ => rfl) (((jw_ne e70860 (Or.inl (by decide))).trans ev70827)) (by omega) (by omega) (by omega)), fun r hr => by cases hr; exact ⟨_, ((jw_eq e70860)), by omega, by omega, fun h0 => by omega⟩⟩
              · refine ev_iload_n rfl ?_
                refine ev_iload_n rfl ?_
                refine ev_icmpgt f242_14 (fun c70862 => ?_) (fun c70862 => ?_)
                · refine ev_iconst ?_
                  refine ev_ret rfl (by decide) (by decide) ?_
                  show jEv _ _ _ _ _ _ _ (_, [(2, 42), (0, (a1 + 2))], [(0, 0)], _, _, _)
                  refine ev_ret rfl (by decide) (by decide) ?_
                  show jEv _ _ _ _ _ _ _ (_, [(2, 42), (0, a1), (0, 1), (0, (a1 + 2)), (0, 1), (0, (v70827 - 48)), (0, 1)], [(0, 0)], _, _, _)
                  refine ev_ifeq f269_86 (fun c70863 => ?_) (fun c70863 => absurd c70863 (by omega))
                  refine ev_aload_n rfl ?_
                  refine ev_iload_n rfl ?_
                  refine ev_in (d := 1) (a := 0) (b := 0) (cd' := c265_0) (m := 2) (L0 := [(2, 42), (0, (a1 + 2))]) (jcall_v (A := [(0, (a1 + 2))]) (S' := []) (r := 42) rfl (g.lt ad42) (g.tg ad42) (Nat.le_of_ble_eq_true rfl)) (by decide) ml265 pp265 (Nat.le_of_ble_eq_true rfl) rfl (by decide) (by decide) ?_
                  refine ev_aload_n rfl ?_
                  refine ev_iload_n rfl ?_
                  refine ev_in (d := 0) (a := 0) (b := 0) (cd' := c264_0) (m := 2) (L0 := [(2, 42), (0, (a1 + 2))]) (jcall_v (A := [(0, (a1 + 2))]) (S' := []) (r := 42) rfl (g.lt ad42) (g.tg ad42) (Nat.le_of_ble_eq_true rfl)) (by decide) ml264 pp264 (Nat.le_of_ble_eq_true rfl) rfl (by decide) (by decide) ?_
                  refine ev_iload_n rfl ?_
                  refine ev_aload_n rfl ?_
                  refine g_getv (r := 42) (v := v70708) g ad42 (by decide) ft12_17 (ev70708) ?_
                  refine ev_icmpge f264_17 (fun c70864 => absurd c70864 (by omega)) (fun c70864 => ?_)
                  refine ev_aload_n rfl ?_
                  refine g_getp (r := 42) (c := 54) g ad42 (by decide) (by decide) rf42_16 ft12_16 ?_
                  refine ev_iload_n rfl ?_
                  refine g_baldv (v := v70852) g ad54 (by omega) (by omega) (ev70852) ?_
                  refine ev_goto f264_18 ?_
                  refine ev_ret rfl (by decide) (by decide) ?_
                  show jEv _ _ _ _ _ _ _ (_, [(2, 42), (0, (a1 + 2))], [(0, v70852)], _, _, _)
                  refine ev_bipush ?_
                  refine ev_bipush ?_
                  refine ev_in (d := 0) (a := 0) (b := 0) (cd' := c242_0) (m := 3) (L0 := [(0, v70852), (0, 48), (0, 57)]) (jcall_s (A := [(0, 57), (0, 48), (0, v70852)]) (S' := []) (by decide) rfl (Nat.le_of_ble_eq_true rfl)) (by decide) ml242 pp242 (Nat.le_of_ble_eq_true rfl) rfl (by decide) (by decide) ?_
                  refine ev_iload_n rfl ?_
                  refine ev_iload_n rfl ?_
                  refine ev_icmplt f242_14 (fun c70865 => absurd c70865 (by omega)) (fun c70865 => ?_)
                  refine ev_iload_n rfl ?_
                  refine ev_iload_n rfl ?_
                  refine ev_icmpgt f242_14 (fun c70866 => ?_) (fun c70866 => absurd c70866 (by omega))
                  refine ev_iconst ?_
                  refine ev_ret rfl (by decide) (by decide) ?_
                  show jEv _ _ _ _ _ _ _ (_, [(2, 42), (0, (a1 + 2))], [(0, 0)], _, _, _)
                  refine ev_ret rfl (by decide) (by decide) ?_
                  show jEv _ _ _ _ _ _ _ (_, [(2, 42), (0, a1), (0, 1), (0, (a1 + 2)), (0, 1), (0, (v70827 - 48)), (0, 1)], [(0, 0)], _, _, _)
                  refine ev_ifeq f269_100 (fun c70867 => ?_) (fun c70867 => absurd c70867 (by omega))
                  refine ev_aload_n rfl ?_
                  refine ev_iload_n rfl ?_
                  refine ev_iconst ?_
                  refine ev_iload rfl ?_
                  refine ev_ifeq f269_114 (fun c70868 => absurd c70868 (by omega)) (fun c70868 => ?_)
                  refine ev_iload rfl ?_
                  refine ev_ineg (r := ((-v70827) + 48)) (by unfold w32; omega) ?_
                  refine ev_goto f269_116 ?_
                  refine ev_in (d := 1) (a := 0) (b := 0) (cd' := c267_0) (m := 6) (L0 := [(2, 42), (0, 1), (0, 0), (0, ((-v70827) + 48)), (9, 0), (9, 0)]) (jcall_v (A := [(0, ((-v70827) + 48)), (0, 0), (0, 1)]) (S' := []) (r := 42) rfl (g.lt ad42) (g.tg ad42) (Nat.le_of_ble_eq_true rfl)) (by decide) ml267 pp267 (Nat.le_of_ble_eq_true rfl) rfl (by decide) (by decide) ?_
                  refine ev_iload_n rfl ?_
                  refine ev_ifne f267_6 (fun c70869 => ?_) (fun c70869 => absurd c70869 (by omega))
                  refine ev_aload_n rfl ?_
                  refine ev_dup (by decide) ?_
                  refine g_getv (r := 42) (v := w0) g ad42 (by decide) ft12_21 (ew0) ?_
                  refine ev_iconst ?_
                  refine ev_iadd (r := (w0 + 1)) (by unfold w32; omega) ?_
                  refine g_putf (r := 42) g ad42 (by decide) ft12_21 (by decide) (fun e => absurd e nz12_21) rf42_21 (by decide) (by omega) (by omega) (fun h70870 e70870 g70870 => ?_)
                  have k70870 := k0.wr e70870 rfl
                  refine ev_aload_n rfl ?_
                  refine g_getv (r := 42) (v := (w0 + 1)) g70870 ad42 (by decide) ft12_21 ((jw_eq e70870)) ?_
                  refine ev_bipush ?_
                  refine ev_icmple f267_27 (fun c70871 => absurd c70871 (by omega)) (fun c70871 => ?_)
                  refine ev_iconst ?_
                  refine ev_ret rfl (by decide) (by decide) ?_
                  show jEv _ _ _ _ _ _ _ (_, [(2, 42), (0, a1), (0, 1), (0, (a1 + 2)), (0, 1), (0, (v70827 - 48)), (0, 1)], [(0, (-1))], _, _, _)
                  refine ev_pop (by decide) ?_
                  refine ev_iload_n rfl ?_
                  exact ev_ret rfl (by decide) (by decide) ⟨⟨_, rfl, by omega, by omega, g70870, k70870⟩, fun r hr h0 => by cases hr; exact (Ad.step (r' := (a1 + 2)) (Ad.step (r' := (a1 + 1)) (Ad.rf _ _ _) (by omega) k70870 (fun _ => rfl) (((jw_ne e70870 (Or.inl (by decide))).trans ev70716)) (by omega) (by omega) (by omega)) (by omega) k70870 (fun _ => rfl) (((jw_ne e70870 (Or.inl (by decide))).trans ev70827)) (by omega) (by omega) (by omega)), fun r hr => by cases hr; exact ⟨_, ((jw_eq e70870)), by omega, by omega, fun h0 => by omega⟩⟩
                · refine ev_iconst ?_
                  refine ev_goto f242_15 ?_
                  refine ev_ret rfl (by decide) (by decide) ?_
                  show jEv _ _ _ _ _ _ _ (_, [(2, 42), (0, (a1 + 2))], [(0, 1)], _, _, _)
                  refine ev_ret rfl (by decide) (by decide) ?_
                  show jEv _ _ _ _ _ _ _ (_, [(2, 42), (0, a1), (0, 1), (0, (a1 + 2)), (0, 1), (0, (v70827 - 48)), (0, 1)], [(0, 1)], _, _, _)
                  refine ev_ifeq f269_86 (fun c70872 => absurd c70872 (by omega)) (fun c70872 => ?_)
                  refine ev_bipush ?_
                  refine ev_iload rfl ?_
                  refine ev_imul (r := (10 * v70827 - 480)) (by unfold w32; omega) ?_
                  refine ev_aload_n rfl ?_
                  refine ev_iload_n rfl ?_
                  refine ev_in (d := 1) (a := 0) (b := 0) (cd' := c264_0) (m := 2) (L0 := [(2, 42), (0, (a1 + 2))]) (jcall_v (A := [(0, (a1 + 2))]) (S' := [(0, (10 * v70827 - 480))]) (r := 42) rfl (g.lt ad42) (g.tg ad42) (Nat.le_of_ble_eq_true rfl)) (by decide) ml264 pp264 (Nat.le_of_ble_eq_true rfl) rfl (by decide) (by decide) ?_
                  refine ev_iload_n rfl ?_
                  refine ev_aload_n rfl ?_
                  refine g_getv (r := 42) (v := v70708) g ad42 (by decide) ft12_17 (ev70708) ?_
                  refine ev_icmpge f264_17 (fun c70873 => absurd c70873 (by omega)) (fun c70873 => ?_)
                  refine ev_aload_n rfl ?_
                  refine g_getp (r := 42) (c := 54) g ad42 (by decide) (by decide) rf42_16 ft12_16 ?_
                  refine ev_iload_n rfl ?_
                  refine g_baldv (v := v70852) g ad54 (by omega) (by omega) (ev70852) ?_
                  refine ev_goto f264_18 ?_
                  refine ev_ret rfl (by decide) (by decide) ?_
                  show jEv _ _ _ _ _ _ _ (_, [(2, 42), (0, a1), (0, 1), (0, (a1 + 2)), (0, 1), (0, (v70827 - 48)), (0, 1)], [(0, v70852), (0, (10 * v70827 - 480))], _, _, _)
                  refine ev_iadd (r := (10 * v70827 + v70852 - 480)) (by unfold w32; omega) ?_
                  refine ev_bipush ?_
                  refine ev_isub (r := (10 * v70827 + v70852 - 528)) (by unfold w32; omega) ?_
                  refine ev_istore (L' := [(2, 42), (0, a1), (0, 1), (0, (a1 + 2)), (0, 1), (0, (10 * v70827 + v70852 - 528)), (0, 1)]) (Nat.le_of_ble_eq_true rfl) rfl ?_
                  refine ev_iinc (w := 2) (L' := [(2, 42), (0, a1), (0, 1), (0, (a1 + 2)), (0, 1), (0, (10 * v70827 + v70852 - 528)), (0, 2)]) rfl (by decide) rfl ?_
                  refine ev_iinc (w := (a1 + 3)) (L' := [(2, 42), (0, a1), (0, 1), (0, (a1 + 3)), (0, 1), (0, (10 * v70827 + v70852 - 528)), (0, 2)]) rfl (by unfold w32; omega) rfl ?_
                  refine ev_goto f269_47 ?_
                  refine ev_iload rfl ?_
                  refine ev_iconst ?_
                  refine ev_icmpge f269_86 (fun c70874 => absurd c70874 (by omega)) (fun c70874 => ?_)
                  refine ev_aload_n rfl ?_
                  refine ev_iload_n rfl ?_
                  refine ev_in (d := 1) (a := 0) (b := 0) (cd' := c265_0) (m := 2) (L0 := [(2, 42), (0, (a1 + 3))]) (jcall_v (A := [(0, (a1 + 3))]) (S' := []) (r := 42) rfl (g.lt ad42) (g.tg ad42) (Nat.le_of_ble_eq_true rfl)) (by decide) ml265 pp265 (Nat.le_of_ble_eq_true rfl) rfl (by decide) (by decide) ?_
                  refine ev_aload_n rfl ?_
                  refine ev_iload_n rfl ?_
                  refine ev_in (d := 0) (a := 0) (b := 0) (cd' := c264_0) (m := 2) (L0 := [(2, 42), (0, (a1 + 3))]) (jcall_v (A := [(0, (a1 + 3))]) (S' := []) (r := 42) rfl (g.lt ad42) (g.tg ad42) (Nat.le_of_ble_eq_true rfl)) (by decide) ml264 pp264 (Nat.le_of_ble_eq_true rfl) rfl (by decide) (by decide) ?_
                  refine ev_iload_n rfl ?_
                  refine ev_aload_n rfl ?_
                  refine g_getv (r := 42) (v := v70708) g ad42 (by decide) ft12_17 (ev70708) ?_
                  refine ev_icmpge f264_17 (fun c70875 => ?_) (fun c70875 => ?_)
                  · refine ev_iconst ?_
                    refine ev_ret rfl (by decide) (by decide) ?_
                    show jEv _ _ _ _ _ _ _ (_, [(2, 42), (0, (a1 + 3))], [(0, (-1))], _, _, _)
                    refine ev_bipush ?_
                    refine ev_bipush ?_
                    refine ev_in (d := 0) (a := 0) (b := 0) (cd' := c242_0) (m := 3) (L0 := [(0, (-1)), (0, 48), (0, 57)]) (jcall_s (A := [(0, 57), (0, 48), (0, (-1))]) (S' := []) (by decide) rfl (Nat.le_of_ble_eq_true rfl)) (by decide) ml242 pp242 (Nat.le_of_ble_eq_true rfl) rfl (by decide) (by decide) ?_
                    refine ev_iload_n rfl ?_
                    refine ev_iload_n rfl ?_
                    refine ev_icmplt f242_14 (fun c70876 => ?_) (fun c70876 => absurd c70876 (by omega))
                    refine ev_iconst ?_
                    refine ev_ret rfl (by decide) (by decide) ?_
                    show jEv _ _ _ _ _ _ _ (_, [(2, 42), (0, (a1 + 3))], [(0, 0)], _, _, _)
                    refine ev_ret rfl (by decide) (by decide) ?_
                    show jEv _ _ _ _ _ _ _ (_, [(2, 42), (0, a1), (0, 1), (0, (a1 + 3)), (0, 1), (0, (10 * v70827 + v70852 - 528)), (0, 2)], [(0, 0)], _, _, _)
                    refine ev_ifeq f269_86 (fun c70877 => ?_) (fun c70877 => absurd c70877 (by omega))
                    refine ev_aload_n rfl ?_
                    refine ev_iload_n rfl ?_
                    refine ev_in (d := 1) (a := 0) (b := 0) (cd' := c265_0) (m := 2) (L0 := [(2, 42), (0, (a1 + 3))]) (jcall_v (A := [(0, (a1 + 3))]) (S' := []) (r := 42) rfl (g.lt ad42) (g.tg ad42) (Nat.le_of_ble_eq_true rfl)) (by decide) ml265 pp265 (Nat.le_of_ble_eq_true rfl) rfl (by decide) (by decide) ?_
                    refine ev_aload_n rfl ?_
                    refine ev_iload_n rfl ?_
                    refine ev_in (d := 0) (a := 0) (b := 0) (cd' := c264_0) (m := 2) (L0 := [(2, 42), (0, (a1 + 3))]) (jcall_v (A := [(0, (a1 + 3))]) (S' := []) (r := 42) rfl (g.lt ad42) (g.tg ad42) (Nat.le_of_ble_eq_true rfl)) (by decide) ml264 pp264 (Nat.le_of_ble_eq_true rfl) rfl (by decide) (by decide) ?_
                    refine ev_iload_n rfl ?_
                    refine ev_aload_n rfl ?_
                    refine g_getv (r := 42) (v := v70708) g ad42 (by decide) ft12_17 (ev70708) ?_
                    refine ev_icmpge f264_17 (fun c70878 => ?_) (fun c70878 => absurd c70878 (by omega))
                    refine ev_iconst ?_
                    refine ev_ret rfl (by decide) (by decide) ?_
                    show jEv _ _ _ _ _ _ _ (_, [(2, 42), (0, (a1 + 3))], [(0, (-1))], _, _, _)
                    refine ev_bipush ?_
                    refine ev_bipush ?_
                    refine ev_in (d := 0) (a := 0) (b := 0) (cd' := c242_0) (m := 3) (L0 := [(0, (-1)), (0, 48), (0, 57)]) (jcall_s (A := [(0, 57), (0, 48), (0, (-1))]) (S' := []) (by decide) rfl (Nat.le_of_ble_eq_true rfl)) (by decide) ml242 pp242 (Nat.le_of_ble_eq_true rfl) rfl (by decide) (by decide) ?_
                    refine ev_iload_n rfl ?_
                    refine ev_iload_n rfl ?_
                    refine ev_icmplt f242_14 (fun c70879 => ?_) (fun c70879 => absurd c70879 (by omega))
                    refine ev_iconst ?_
                    refine ev_ret rfl (by decide) (by decide) ?_
                    show jEv _ _ _ _ _ _ _ (_, [(2, 42), (0, (a1 + 3))], [(0, 0)], _, _, _)
                    refine ev_ret rfl (by decide) (by decide) ?_
                    show jEv _ _ _ _ _ _ _ (_, [(2, 42), (0, a1), (0, 1), (0, (a1 + 3)), (0, 1), (0, (10 * v70827 + v70852 - 528)), (0, 2)], [(0, 0)], _, _, _)
                    refine ev_ifeq f269_100 (fun c70880 => ?_) (fun c70880 => absurd c70880 (by omega))
                    refine ev_aload_n rfl ?_
                    refine ev_iload_n rfl ?_
                    refine ev_iconst ?_
                    refine ev_iload rfl ?_
                    refine ev_ifeq f269_114 (fun c70881 => absurd c70881 (by omega)) (fun c70881 => ?_)
                    refine ev_iload rfl ?_
                    refine ev_ineg (r := ((-10) * v70827 + (-v70852) + 528)) (by unfold w32; omega) ?_
                    refine ev_goto f269_116 ?_
                    refine ev_in (d := 1) (a := 0) (b := 0) (cd' := c267_0) (m := 6) (L0 := [(2, 42), (0, 1), (0, 0), (0, ((-10) * v70827 + (-v70852) + 528)), (9, 0), (9, 0)]) (jcall_v (A := [(0, ((-10) * v70827 + (-v70852) + 528)), (0, 0), (0, 1)]) (S' := []) (r := 42) rfl (g.lt ad42) (g.tg ad42) (Nat.le_of_ble_eq_true rfl)) (by decide) ml267 pp267 (Nat.le_of_ble_eq_true rfl) rfl (by decide) (by decide) ?_
                    refine ev_iload_n rfl ?_
                    refine ev_ifne f267_6 (fun c70882 => ?_) (fun c70882 => absurd c70882 (by omega))
                    refine ev_aload_n rfl ?_
                    refine ev_dup (by decide) ?_
                    refine g_getv (r := 42) (v := w0) g ad42 (by decide) ft12_21 (ew0) ?_
                    refine ev_iconst ?_
                    refine ev_iadd (r := (w0 + 1)) (by unfold w32; omega) ?_
                    refine g_putf (r := 42) g ad42 (by decide) ft12_21 (by decide) (fun e => absurd e nz12_21) rf42_21 (by decide) (by omega) (by omega) (fun h70883 e70883 g70883 => ?_)
                    have k70883 := k0.wr e70883 rfl
                    refine ev_aload_n rfl ?_
                    refine g_getv (r := 42) (v := (w0 + 1)) g70883 ad42 (by decide) ft12_21 ((jw_eq e70883)) ?_
                    refine ev_bipush ?_
                    refine ev_icmple f267_27 (fun c70884 => absurd c70884 (by omega)) (fun c70884 => ?_)
                    refine ev_iconst ?_
                    refine ev_ret rfl (by decide) (by decide) ?_
                    show jEv _ _ _ _ _ _ _ (_, [(2, 42), (0, a1), (0, 1), (0, (a1 + 3)), (0, 1), (0, (10 * v70827 + v70852 - 528)), (0, 2)], [(0, (-1))], _, _, _)
                    refine ev_pop (by decide) ?_
                    refine ev_iload_n rfl ?_
                    exact ev_ret rfl (by decide) (by decide) ⟨⟨_, rfl, by omega, by omega, g70883, k70883⟩, fun r hr h0 => by cases hr; exact (Ad.step (r' := (a1 + 3)) (Ad.step (r' := (a1 + 2)) (Ad.step (r' := (a1 + 1)) (Ad.rf _ _ _) (by omega) k70883 (fun _ => rfl) (((jw_ne e70883 (Or.inl (by decide))).trans ev70716)) (by omega) (by omega) (by omega)) (by omega) k70883 (fun _ => rfl) (((jw_ne e70883 (Or.inl (by decide))).trans ev70827)) (by omega) (by omega) (by omega)) (by omega) k70883 (fun _ => rfl) (((jw_ne e70883 (Or.inl (by decide))).trans ev70852)) (by omega) (by omega) (by omega)), fun r hr => by cases hr; exact ⟨_, ((jw_eq e70883)), by omega, by omega, fun h0 => by omega⟩⟩
                  · refine ev_aload_n rfl ?_
                    refine g_getp (r := 42) (c := 54) g ad42 (by decide) (by decide) rf42_16 ft12_16 ?_
                    refine ev_iload_n rfl ?_
                    refine g_bald g ad54 rt54 (by omega) (by omega) (fun v70885 ev70885 lv70885 uv70885 => ?_)
                    refine ev_goto f264_18 ?_
                    refine ev_ret rfl (by decide) (by decide) ?_
                    show jEv _ _ _ _ _ _ _ (_, [(2, 42), (0, (a1 + 3))], [(0, v70885)], _, _, _)
                    refine ev_bipush ?_
                    refine ev_bipush ?_
                    refine ev_in (d := 0) (a := 0) (b := 0) (cd' := c242_0) (m := 3) (L0 := [(0, v70885), (0, 48), (0, 57)]) (jcall_s (A := [(0, 57), (0, 48), (0, v70885)]) (S' := []) (by decide) rfl (Nat.le_of_ble_eq_true rfl)) (by decide) ml242 pp242 (Nat.le_of_ble_eq_true rfl) rfl (by decide) (by decide) ?_
                    refine ev_iload_n rfl ?_
                    refine ev_iload_n rfl ?_
                    refine ev_icmplt f242_14 (fun c70886 => ?_) (fun c70886 => ?_)
                    · refine ev_iconst ?_
                      refine ev_ret rfl (by decide) (by decide) ?_
                      show jEv _ _ _ _ _ _ _ (_, [(2, 42), (0, (a1 + 3))], [(0, 0)], _, _, _)
                      refine ev_ret rfl (by decide) (by decide) ?_
                      show jEv _ _ _ _ _ _ _ (_, [(2, 42), (0, a1), (0, 1), (0, (a1 + 3)), (0, 1), (0, (10 * v70827 + v70852 - 528)), (0, 2)], [(0, 0)], _, _, _)
                      refine ev_ifeq f269_86 (fun c70887 => ?_) (fun c70887 => absurd c70887 (by omega))
                      refine ev_aload_n rfl ?_
                      refine ev_iload_n rfl ?_
                      refine ev_in (d := 1) (a := 0) (b := 0) (cd' := c265_0) (m := 2) (L0 := [(2, 42), (0, (a1 + 3))]) (jcall_v (A := [(0, (a1 + 3))]) (S' := []) (r := 42) rfl (g.lt ad42) (g.tg ad42) (Nat.le_of_ble_eq_true rfl)) (by decide) ml265 pp265 (Nat.le_of_ble_eq_true rfl) rfl (by decide) (by decide) ?_
                      refine ev_aload_n rfl ?_
                      refine ev_iload_n rfl ?_
                      refine ev_in (d := 0) (a := 0) (b := 0) (cd' := c264_0) (m := 2) (L0 := [(2, 42), (0, (a1 + 3))]) (jcall_v (A := [(0, (a1 + 3))]) (S' := []) (r := 42) rfl (g.lt ad42) (g.tg ad42) (Nat.le_of_ble_eq_true rfl)) (by decide) ml264 pp264 (Nat.le_of_ble_eq_true rfl) rfl (by decide) (by decide) ?_
                      refine ev_iload_n rfl ?_
                      refine ev_aload_n rfl ?_
                      refine g_getv (r := 42) (v := v70708) g ad42 (by decide) ft12_17 (ev70708) ?_
                      refine ev_icmpge f264_17 (fun c70888 => absurd c70888 (by omega)) (fun c70888 => ?_)
                      refine ev_aload_n rfl ?_
                      refine g_getp (r := 42) (c := 54) g ad42 (by decide) (by decide) rf42_16 ft12_16 ?_
                      refine ev_iload_n rfl ?_
                      refine g_baldv (v := v70885) g ad54 (by omega) (by omega) (ev70885) ?_
                      refine ev_goto f264_18 ?_
                      refine ev_ret rfl (by decide) (by decide) ?_
                      show jEv _ _ _ _ _ _ _ (_, [(2, 42), (0, (a1 + 3))], [(0, v70885)], _, _, _)
                      refine ev_bipush ?_
                      refine ev_bipush ?_
                      refine ev_in (d := 0) (a := 0) (b := 0) (cd' := c242_0) (m := 3) (L0 := [(0, v70885), (0, 48), (0, 57)]) (jcall_s (A := [(0, 57), (0, 48), (0, v70885)]) (S' := []) (by decide) rfl (Nat.le_of_ble_eq_true rfl)) (by decide) ml242 pp242 (Nat.le_of_ble_eq_true rfl) rfl (by decide) (by decide) ?_
                      refine ev_iload_n rfl ?_
                      refine ev_iload_n rfl ?_
                      refine ev_icmplt f242_14 (fun c70889 => ?_) (fun c70889 => absurd c70889 (by omega))
                      refine ev_iconst ?_
                      refine ev_ret rfl (by decide) (by decide) ?_
                      show jEv _ _ _ _ _ _ _ (_, [(2, 42), (0, (a1 + 3))], [(0, 0)], _, _, _)
                      refine ev_ret rfl (by decide) (by decide) ?_
                      show jEv _ _ _ _ _ _ _ (_, [(2, 42), (0, a1), (0, 1), (0, (a1 + 3)), (0, 1), (0, (10 * v70827 + v70852 - 528)), (0, 2)], [(0, 0)], _, _, _)
                      refine ev_ifeq f269_100 (fun c70890 => ?_) (fun c70890 => absurd c70890 (by omega))
                      refine ev_aload_n rfl ?_
                      refine ev_iload_n rfl ?_
                      refine ev_iconst ?_
                      refine ev_iload rfl ?_
                      refine ev_ifeq f269_114 (fun c70891 => absurd c70891 (by omega)) (fun c70891 => ?_)
                      refine ev_iload rfl ?_
                      refine ev_ineg (r := ((-10) * v70827 + (-v70852) + 528)) (by unfold w32; omega) ?_
                      refine ev_goto f269_116 ?_
                      refine ev_in (d := 1) (a := 0) (b := 0) (cd' := c267_0) (m := 6) (L0 := [(2, 42), (0, 1), (0, 0), (0, ((-10) * v70827 + (-v70852) + 528)), (9, 0), (9, 0)]) (jcall_v (A := [(0, ((-10) * v70827 + (-v70852) + 528)), (0, 0), (0, 1)]) (S' := []) (r := 42) rfl (g.lt ad42) (g.tg ad42) (Nat.le_of_ble_eq_true rfl)) (by decide) ml267 pp267 (Nat.le_of_ble_eq_true rfl) rfl (by decide) (by decide) ?_
                      refine ev_iload_n rfl ?_
                      refine ev_ifne f267_6 (fun c70892 => ?_) (fun c70892 => absurd c70892 (by omega))
                      refine ev_aload_n rfl ?_
                      refine ev_dup (by decide) ?_
                      refine g_getv (r := 42) (v := w0) g ad42 (by decide) ft12_21 (ew0) ?_
                      refine ev_iconst ?_
                      refine ev_iadd (r := (w0 + 1)) (by unfold w32; omega) ?_
                      refine g_putf (r := 42) g ad42 (by decide) ft12_21 (by decide) (fun e => absurd e nz12_21) rf42_21 (by decide) (by omega) (by omega) (fun h70893 e70893 g70893 => ?_)
                      have k70893 := k0.wr e70893 rfl
                      refine ev_aload_n rfl ?_
                      refine g_getv (r := 42) (v := (w0 + 1)) g70893 ad42 (by decide) ft12_21 ((jw_eq e70893)) ?_
                      refine ev_bipush ?_
                      refine ev_icmple f267_27 (fun c70894 => absurd c70894 (by omega)) (fun c70894 => ?_)
                      refine ev_iconst ?_
                      refine ev_ret rfl (by decide) (by decide) ?_
                      show jEv _ _ _ _ _ _ _ (_, [(2, 42), (0, a1), (0, 1), (0, (a1 + 3)), (0, 1), (0, (10 * v70827 + v70852 - 528)), (0, 2)], [(0, (-1))], _, _, _)
                      refine ev_pop (by decide) ?_
                      refine ev_iload_n rfl ?_
                      exact ev_ret rfl (by decide) (by decide) ⟨⟨_, rfl, by omega, by omega, g70893, k70893⟩, fun r hr h0 => by cases hr; exact (Ad.step (r' := (a1 + 3)) (Ad.step (r' := (a1 + 2)) (Ad.step (r' := (a1 + 1)) (Ad.rf _ _ _) (by omega) k70893 (fun _ => rfl) (((jw_ne e70893 (Or.inl (by decide))).trans ev70716)) (by omega) (by omega) (by omega)) (by omega) k70893 (fun _ => rfl) (((jw_ne e70893 (Or.inl (by decide))).trans ev70827)) (by omega) (by omega) (by omega)) (by omega) k70893 (fun _ => rfl) (((jw_ne e70893 (Or.inl (by decide))).trans ev70852)) (by omega) (by omega) (by omega)), fun r hr => by cases hr; exact ⟨_, ((jw_eq e70893)), by omega, by omega, fun h0 => by omega⟩⟩
                    · refine ev_iload_n rfl ?_
                      refine ev_iload_n rfl ?_
                      refine ev_icmpgt f242_14 (fun c70895 => ?_) (fun c70895 => ?_)
                      · refine ev_iconst ?_
                        refine ev_ret rfl (by decide) (by decide) ?_
                        show jEv _ _ _ _ _ _ _ (_, [(2, 42), (0, (a1 + 3))], [(0, 0)], _, _, _)
                        refine ev_ret rfl (by decide) (by decide) ?_
                        show jEv _ _ _ _ _ _ _ (_, [(2, 42), (0, a1), (0, 1), (0, (a1 + 3)), (0, 1), (0, (10 * v70827 + v70852 - 528)), (0, 2)], [(0, 0)], _, _, _)
                        refine ev_ifeq f269_86 (fun c70896 => ?_) (fun c70896 => absurd c70896 (by omega))
                        refine ev_aload_n rfl ?_
                        refine ev_iload_n rfl ?_
                        refine ev_in (d := 1) (a := 0) (b := 0) (cd' := c265_0) (m := 2) (L0 := [(2, 42), (0, (a1 + 3))]) (jcall_v (A := [(0, (a1 + 3))]) (S' := []) (r := 42) rfl (g.lt ad42) (g.tg ad42) (Nat.le_of_ble_eq_true rfl)) (by decide) ml265 pp265 (Nat.le_of_ble_eq_true rfl) rfl (by decide) (by decide) ?_
                        refine ev_aload_n rfl ?_
                        refine ev_iload_n rfl ?_
                        refine ev_in (d := 0) (a := 0) (b := 0) (cd' := c264_0) (m := 2) (L0 := [(2, 42), (0, (a1 + 3))]) (jcall_v (A := [(0, (a1 + 3))]) (S' := []) (r := 42) rfl (g.lt ad42) (g.tg ad42) (Nat.le_of_ble_eq_true rfl)) (by decide) ml264 pp264 (Nat.le_of_ble_eq_true rfl) rfl (by decide) (by decide) ?_
                        refine ev_iload_n rfl ?_
                        refine ev_aload_n rfl ?_
                        refine g_getv (r := 42) (v := v70708) g ad42 (by decide) ft12_17 (ev70708) ?_
                        refine ev_icmpge f264_17 (fun c70897 => absurd c70897 (by omega)) (fun c70897 => ?_)
                        refine ev_aload_n rfl ?_
                        refine g_getp (r := 42) (c := 54) g ad42 (by decide) (by decide) rf42_16 ft12_16 ?_
                        refine ev_iload_n rfl ?_
                        refine g_baldv (v := v70885) g ad54 (by omega) (by omega) (ev70885) ?_
                        refine ev_goto f264_18 ?_
                        refine ev_ret rfl (by decide) (by decide) ?_
                        show jEv _ _ _ _ _ _ _ (_, [(2, 42), (0, (a1 + 3))], [(0, v70885)], _, _, _)
                        refine ev_bipush ?_
                        refine ev_bipush ?_
                        refine ev_in (d := 0) (a := 0) (b := 0) (cd' := c242_0) (m := 3) (L0 := [(0, v70885), (0, 48), (0, 57)]) (jcall_s (A := [(0, 57), (0, 48), (0, v70885)]) (S' := []) (by decide) rfl (Nat.le_of_ble_eq_true rfl)) (by decide) ml242 pp242 (Nat.le_of_ble_eq_true rfl) rfl (by decide) (by decide) ?_
                        refine ev_iload_n rfl ?_
                        refine ev_iload_n rfl ?_
                        refine ev_icmplt f242_14 (fun c70898 => absurd c70898 (by omega)) (fun c70898 => ?_)
                        refine ev_iload_n rfl ?_
                        refine ev_iload_n rfl ?_
                        refine ev_icmpgt f242_14 (fun c70899 => ?_) (fun c70899 => absurd c70899 (by omega))
                        refine ev_iconst ?_
                        refine ev_ret rfl (by decide) (by decide) ?_
                        show jEv _ _ _ _ _ _ _ (_, [(2, 42), (0, (a1 + 3))], [(0, 0)], _, _, _)
                        refine ev_ret rfl (by decide) (by decide) ?_
                        show jEv _ _ _ _ _ _ _ (_, [(2, 42), (0, a1), (0, 1), (0, (a1 + 3)), (0, 1), (0, (10 * v70827 + v70852 - 528)), (0, 2)], [(0, 0)], _, _, _)
                        refine ev_ifeq f269_100 (fun c70900 => ?_) (fun c70900 => absurd c70900 (by omega))
                        refine ev_aload_n rfl ?_
                        refine ev_iload_n rfl ?_
                        refine ev_iconst ?_
                        refine ev_iload rfl ?_
                        refine ev_ifeq f269_114 (fun c70901 => absurd c70901 (by omega)) (fun c70901 => ?_)
                        refine ev_iload rfl ?_
                        refine ev_ineg (r := ((-10) * v70827 + (-v70852) + 528)) (by unfold w32; omega) ?_
                        refine ev_goto f269_116 ?_
                        refine ev_in (d := 1) (a := 0) (b := 0) (cd' := c267_0) (m := 6) (L0 := [(2, 42), (0, 1), (0, 0), (0, ((-10) * v70827 + (-v70852) + 528)), (9, 0), (9, 0)]) (jcall_v (A := [(0, ((-10) * v70827 + (-v70852) + 528)), (0, 0), (0, 1)]) (S' := []) (r := 42) rfl (g.lt ad42) (g.tg ad42) (Nat.le_of_ble_eq_true rfl)) (by decide) ml267 pp267 (Nat.le_of_ble_eq_true rfl) rfl (by decide) (by decide) ?_
                        refine ev_iload_n rfl ?_
                        refine ev_ifne f267_6 (fun c70902 => ?_) (fun c70902 => absurd c70902 (by omega))
                        refine ev_aload_n rfl ?_
                        refine ev_dup (by decide) ?_
                        refine g_getv (r := 42) (v := w0) g ad42 (by decide) ft12_21 (ew0) ?_
                        refine ev_iconst ?_
                        refine ev_iadd (r := (w0 + 1)) (by unfold w32; omega) ?_
                        refine g_putf (r := 42) g ad42 (by decide) ft12_21 (by decide) (fun e => absurd e nz12_21) rf42_21 (by decide) (by omega) (by omega) (fun h70903 e70903 g70903 => ?_)
                        have k70903 := k0.wr e70903 rfl
                        refine ev_aload_n rfl ?_
                        refine g_getv (r := 42) (v := (w0 + 1)) g70903 ad42 (by decide) ft12_21 ((jw_eq e70903)) ?_
                        refine ev_bipush ?_
                        refine ev_icmple f267_27 (fun c70904 => absurd c70904 (by omega)) (fun c70904 => ?_)
                        refine ev_iconst ?_
                        refine ev_ret rfl (by decide) (by decide) ?_
                        show jEv _ _ _ _ _ _ _ (_, [(2, 42), (0, a1), (0, 1), (0, (a1 + 3)), (0, 1), (0, (10 * v70827 + v70852 - 528)), (0, 2)], [(0, (-1))], _, _, _)
                        refine ev_pop (by decide) ?_
                        refine ev_iload_n rfl ?_
                        exact ev_ret rfl (by decide) (by decide) ⟨⟨_, rfl, by omega, by omega, g70903, k70903⟩, fun r hr h0 => by cases hr; exact (Ad.step (r' := (a1 + 3)) (Ad.step (r' := (a1 + 2)) (Ad.step (r' := (a1 + 1)) (Ad.rf _ _ _) (by omega) k70903 (fun _ => rfl) (((jw_ne e70903 (Or.inl (by decide))).trans ev70716)) (by omega) (by omega) (by omega)) (by omega) k70903 (fun _ => rfl) (((jw_ne e70903 (Or.inl (by decide))).trans ev70827)) (by omega) (by omega) (by omega)) (by omega) k70903 (fun _ => rfl) (((jw_ne e70903 (Or.inl (by decide))).trans ev70852)) (by omega) (by omega) (by omega)), fun r hr => by cases hr; exact ⟨_, ((jw_eq e70903)), by omega, by omega, fun h0 => by omega⟩⟩
                      · refine ev_iconst ?_
                        refine ev_goto f242_15 ?_
                        refine ev_ret rfl (by decide) (by decide) ?_
                        show jEv _ _ _ _ _ _ _ (_, [(2, 42), (0, (a1 + 3))], [(0, 1)], _, _, _)
                        refine ev_ret rfl (by decide) (by decide) ?_
                        show jEv _ _ _ _ _ _ _ (_, [(2, 42), (0, a1), (0, 1), (0, (a1 + 3)), (0, 1), (0, (10 * v70827 + v70852 - 528)), (0, 2)], [(0, 1)], _, _, _)
                        refine ev_ifeq f269_86 (fun c70905 => absurd c70905 (by omega)) (fun c70905 => ?_)
                        refine ev_bipush ?_
                        refine ev_iload rfl ?_
                        refine ev_imul (r := (100 * v70827 + 10 * v70852 - 5280)) (by unfold w32; omega) ?_
                        refine ev_aload_n rfl ?_
                        refine ev_iload_n rfl ?_
                        refine ev_in (d := 1) (a := 0) (b := 0) (cd' := c264_0) (m := 2) (L0 := [(2, 42), (0, (a1 + 3))]) (jcall_v (A := [(0, (a1 + 3))]) (S' := [(0, (100 * v70827 + 10 * v70852 - 5280))]) (r := 42) rfl (g.lt ad42) (g.tg ad42) (Nat.le_of_ble_eq_true rfl)) (by decide) ml264 pp264 (Nat.le_of_ble_eq_true rfl) rfl (by decide) (by decide) ?_
                        refine ev_iload_n rfl ?_
                        refine ev_aload_n rfl ?_
                        refine g_getv (r := 42) (v := v70708) g ad42 (by decide) ft12_17 (ev70708) ?_
                        refine ev_icmpge f264_17 (fun c70906 => absurd c70906 (by omega)) (fun c70906 => ?_)
                        refine ev_aload_n rfl ?_
                        refine g_getp (r := 42) (c := 54) g ad42 (by decide) (by decide) rf42_16 ft12_16 ?_
                        refine ev_iload_n rfl ?_
                        refine g_baldv (v := v70885) g ad54 (by omega) (by omega) (ev70885) ?_
                        refine ev_goto f264_18 ?_
                        refine ev_ret rfl (by decide) (by decide) ?_
                        show jEv _ _ _ _ _ _ _ (_, [(2, 42), (0, a1), (0, 1), (0, (a1 + 3)), (0, 1), (0, (10 * v70827 + v70852 - 528)), (0, 2)], [(0, v70885), (0, (100 * v70827 + 10 * v70852 - 5280))], _, _, _)
                        refine ev_iadd (r := (100 * v70827 + 10 * v70852 + v70885 - 5280)) (by unfold w32; omega) ?_
                        refine ev_bipush ?_
                        refine ev_isub (r := (100 * v70827 + 10 * v70852 + v70885 - 5328)) (by unfold w32; omega) ?_
                        refine ev_istore (L' := [(2, 42), (0, a1), (0, 1), (0, (a1 + 3)), (0, 1), (0, (100 * v70827 + 10 * v70852 + v70885 - 5328)), (0, 2)]) (Nat.le_of_ble_eq_true rfl) rfl ?_
                        refine ev_iinc (w := 3) (L' := [(2, 42), (0, a1), (0, 1), (0, (a1 + 3)), (0, 1), (0, (100 * v70827 + 10 * v70852 + v70885 - 5328)), (0, 3)]) rfl (by decide) rfl ?_
                        refine ev_iinc (w := (a1 + 4)) (L' := [(2, 42), (0, a1), (0, 1), (0, (a1 + 4)), (0, 1), (0, (100 * v70827 + 10 * v70852 + v70885 - 5328)), (0, 3)]) rfl (by unfold w32; omega) rfl ?_
                        refine ev_goto f269_47 ?_
                        refine ev_iload rfl ?_
                        refine ev_iconst ?_
                        refine ev_icmpge f269_86 (fun c70907 => ?_) (fun c70907 => absurd c70907 (by omega))
                        refine ev_aload_n rfl ?_
                        refine ev_iload_n rfl ?_
                        refine ev_in (d := 1) (a := 0) (b := 0) (cd' := c265_0) (m := 2) (L0 := [(2, 42), (0, (a1 + 4))]) (jcall_v (A := [(0, (a1 + 4))]) (S' := []) (r := 42) rfl (g.lt ad42) (g.tg ad42) (Nat.le_of_ble_eq_true rfl)) (by decide) ml265 pp265 (Nat.le_of_ble_eq_true rfl) rfl (by decide) (by decide) ?_
                        refine ev_aload_n rfl ?_
                        refine ev_iload_n rfl ?_
                        refine ev_in (d := 0) (a := 0) (b := 0) (cd' := c264_0) (m := 2) (L0 := [(2, 42), (0, (a1 + 4))]) (jcall_v (A := [(0, (a1 + 4))]) (S' := []) (r := 42) rfl (g.lt ad42) (g.tg ad42) (Nat.le_of_ble_eq_true rfl)) (by decide) ml264 pp264 (Nat.le_of_ble_eq_true rfl) rfl (by decide) (by decide) ?_
                        refine ev_iload_n rfl ?_
                        refine ev_aload_n rfl ?_
                        refine g_getv (r := 42) (v := v70708) g ad42 (by decide) ft12_17 (ev70708) ?_
                        refine ev_icmpge f264_17 (fun c70908 => ?_) (fun c70908 => ?_)
                        · refine ev_iconst ?_
                          refine ev_ret rfl (by decide) (by decide) ?_
                          show jEv _ _ _ _ _ _ _ (_, [(2, 42), (0, (a1 + 4))], [(0, (-1))], _, _, _)
                          refine ev_bipush ?_
                          refine ev_bipush ?_
                          refine ev_in (d := 0) (a := 0) (b := 0) (cd' := c242_0) (m := 3) (L0 := [(0, (-1)), (0, 48), (0, 57)]) (jcall_s (A := [(0, 57), (0, 48), (0, (-1))]) (S' := []) (by decide) rfl (Nat.le_of_ble_eq_true rfl)) (by decide) ml242 pp242 (Nat.le_of_ble_eq_true rfl) rfl (by decide) (by decide) ?_
                          refine ev_iload_n rfl ?_
                          refine ev_iload_n rfl ?_
                          refine ev_icmplt f242_14 (fun c70909 => ?_) (fun c70909 => absurd c70909 (by omega))
                          refine ev_iconst ?_
                          refine ev_ret rfl (by decide) (by decide) ?_
                          show jEv _ _ _ _ _ _ _ (_, [(2, 42), (0, (a1 + 4))], [(0, 0)], _, _, _)
                          refine ev_ret rfl (by decide) (by decide) ?_
                          show jEv _ _ _ _ _ _ _ (_, [(2, 42), (0, a1), (0, 1), (0, (a1 + 4)), (0, 1), (0, (100 * v70827 + 10 * v70852 + v70885 - 5328)), (0, 3)], [(0, 0)], _, _, _)
                          refine ev_ifeq f269_100 (fun c70910 => ?_) (fun c70910 => absurd c70910 (by omega))
                          refine ev_aload_n rfl ?_
                          refine ev_iload_n rfl ?_
                          refine ev_iconst ?_
                          refine ev_iload rfl ?_
                          refine ev_ifeq f269_114 (fun c70911 => absurd c70911 (by omega)) (fun c70911 => ?_)
                          refine ev_iload rfl ?_
                          refine ev_ineg (r := ((-100) * v70827 + (-10) * v70852 + (-v70885) + 5328)) (by unfold w32; omega) ?_
                          refine ev_goto f269_116 ?_
                          refine ev_in (d := 1) (a := 0) (b := 0) (cd' := c267_0) (m := 6) (L0 := [(2, 42), (0, 1), (0, 0), (0, ((-100) * v70827 + (-10) * v70852 + (-v70885) + 5328)), (9, 0), (9, 0)]) (jcall_v (A := [(0, ((-100) * v70827 + (-10) * v70852 + (-v70885) + 5328)), (0, 0), (0, 1)]) (S' := []) (r := 42) rfl (g.lt ad42) (g.tg ad42) (Nat.le_of_ble_eq_true rfl)) (by decide) ml267 pp267 (Nat.le_of_ble_eq_true rfl) rfl (by decide) (by decide) ?_
                          refine ev_iload_n rfl ?_
                          refine ev_ifne f267_6 (fun c70912 => ?_) (fun c70912 => absurd c70912 (by omega))
                          refine ev_aload_n rfl ?_
                          refine ev_dup (by decide) ?_
                          refine g_getv (r := 42) (v := w0) g ad42 (by decide) ft12_21 (ew0) ?_
                          refine ev_iconst ?_
                          refine ev_iadd (r := (w0 + 1)) (by unfold w32; omega) ?_
                          refine g_putf (r := 42) g ad42 (by decide) ft12_21 (by decide) (fun e => absurd e nz12_21) rf42_21 (by decide) (by omega) (by omega) (fun h70913 e70913 g70913 => ?_)
                          have k70913 := k0.wr e70913 rfl
                          refine ev_aload_n rfl ?_
                          refine g_getv (r := 42) (v := (w0 + 1)) g70913 ad42 (by decide) ft12_21 ((jw_eq e70913)) ?_
                          refine ev_bipush ?_
                          refine ev_icmple f267_27 (fun c70914 => absurd c70914 (by omega)) (fun c70914 => ?_)
                          refine ev_iconst ?_
                          refine ev_ret rfl (by decide) (by decide) ?_
                          show jEv _ _ _ _ _ _ _ (_, [(2, 42), (0, a1), (0, 1), (0, (a1 + 4)), (0, 1), (0, (100 * v70827 + 10 * v70852 + v70885 - 5328)), (0, 3)], [(0, (-1))], _, _, _)
                          refine ev_pop (by decide) ?_
                          refine ev_iload_n rfl ?_
                          exact ev_ret rfl (by decide) (by decide) ⟨⟨_, rfl, by omega, by omega, g70913, k70913⟩, fun r hr h0 => by cases hr; exact (Ad.step (r' := (a1 + 4)) (Ad.step (r' := (a1 + 3)) (Ad.step (r' := (a1 + 2)) (Ad.step (r' := (a1 + 1)) (Ad.rf _ _ _) (by omega) k70913 (fun _ => rfl) (((jw_ne e70913 (Or.inl (by decide))).trans ev70716)) (by omega) (by omega) (by omega)) (by omega) k70913 (fun _ => rfl) (((jw_ne e70913 (Or.inl (by decide))).trans ev70827)) (by omega) (by omega) (by omega)) (by omega) k70913 (fun _ => rfl) (((jw_ne e70913 (Or.inl (by decide))).trans ev70852)) (by omega) (by omega) (by omega)) (by omega) k70913 (fun _ => rfl) (((jw_ne e70913 (Or.inl (by decide))).trans ev70885)) (by omega) (by omega) (by omega)), fun r hr => by cases hr; exact ⟨_, ((jw_eq e70913)), by omega, by omega, fun h0 => by omega⟩⟩
                        · refine ev_aload_n rfl ?_
                          refine g_getp (r := 42) (c := 54) g ad42 (by decide) (by decide) rf42_16 ft12_16 ?_
                          refine ev_iload_n rfl ?_
                          refine g_bald g ad54 rt54 (by omega) (by omega) (fun v70915 ev70915 lv70915 uv70915 => ?_)
                          refine ev_goto f264_18 ?_
                          refine ev_ret rfl (by decide) (by decide) ?_
                          show jEv _ _ _ _ _ _ _ (_, [(2, 42), (0, (a1 + 4))], [(0, v70915)], _, _, _)
                          refine ev_bipush ?_
                          refine ev_bipush ?_
                          refine ev_in (d := 0) (a := 0) (b := 0) (cd' := c242_0) (m := 3) (L0 := [(0, v70915), (0, 48), (0, 57)]) (jcall_s (A := [(0, 57), (0, 48), (0, v70915)]) (S' := []) (by decide) rfl (Nat.le_of_ble_eq_true rfl)) (by decide) ml242 pp242 (Nat.le_of_ble_eq_true rfl) rfl (by decide) (by decide) ?_
                          refine ev_iload_n rfl ?_
                          refine ev_iload_n rfl ?_
                          refine ev_icmplt f242_14 (fun c70916 => ?_) (fun c70916 => ?_)
                          · refine ev_iconst ?_
                            refine ev_ret rfl (by decide) (by decide) ?_
                            show jEv _ _ _ _ _ _ _ (_, [(2, 42), (0, (a1 + 4))], [(0, 0)], _, _, _)
                            refine ev_ret rfl (by decide) (by decide) ?_
                            show jEv _ _ _ _ _ _ _ (_, [(2, 42), (0, a1), (0, 1), (0, (a1 + 4)), (0, 1), (0, (100 * v70827 + 10 * v70852 + v70885 - 5328)), (0, 3)], [(0, 0)], _, _, _)
                            refine ev_ifeq f269_100 (fun c70917 => ?_) (fun c70917 => absurd c70917 (by omega))
                            refine ev_aload_n rfl ?_
                            refine ev_iload_n rfl ?_
                            refine ev_iconst ?_
                            refine ev_iload rfl ?_
                            refine ev_ifeq f269_114 (fun c70918 => absurd c70918 (by omega)) (fun c70918 => ?_)
                            refine ev_iload rfl ?_
                            refine ev_ineg (r := ((-100) * v70827 + (-10) * v70852 + (-v70885) + 5328)) (by unfold w32; omega) ?_
                            refine ev_goto f269_116 ?_
                            refine ev_in (d := 1) (a := 0) (b := 0) (cd' := c267_0) (m := 6) (L0 := [(2, 42), (0, 1), (0, 0), (0, ((-100) * v70827 + (-10) * v70852 + (-v70885) + 5328)), (9, 0), (9, 0)]) (jcall_v (A := [(0, ((-100) * v70827 + (-10) * v70852 + (-v70885) + 5328)), (0, 0), (0, 1)]) (S' := []) (r := 42) rfl (g.lt ad42) (g.tg ad42) (Nat.le_of_ble_eq_true rfl)) (by decide) ml267 pp267 (Nat.le_of_ble_eq_true rfl) rfl (by decide) (by decide) ?_
                            refine ev_iload_n rfl ?_
                            refine ev_ifne f267_6 (fun c70919 => ?_) (fun c70919 => absurd c70919 (by omega))
                            refine ev_aload_n rfl ?_
                            refine ev_dup (by decide) ?_
                            refine g_getv (r := 42) (v := w0) g ad42 (by decide) ft12_21 (ew0) ?_
                            refine ev_iconst ?_
                            refine ev_iadd (r := (w0 + 1)) (by unfold w32; omega) ?_
                            refine g_putf (r := 42) g ad42 (by decide) ft12_21 (by decide) (fun e => absurd e nz12_21) rf42_21 (by decide) (by omega) (by omega) (fun h70920 e70920 g70920 => ?_)
                            have k70920 := k0.wr e70920 rfl
                            refine ev_aload_n rfl ?_
                            refine g_getv (r := 42) (v := (w0 + 1)) g70920 ad42 (by decide) ft12_21 ((jw_eq e70920)) ?_
                            refine ev_bipush ?_
                            refine ev_icmple f267_27 (fun c70921 => absurd c70921 (by omega)) (fun c70921 => ?_)
                            refine ev_iconst ?_
                            refine ev_ret rfl (by decide) (by decide) ?_
                            show jEv _ _ _ _ _ _ _ (_, [(2, 42), (0, a1), (0, 1), (0, (a1 + 4)), (0, 1), (0, (100 * v70827 + 10 * v70852 + v70885 - 5328)), (0, 3)], [(0, (-1))], _, _, _)
                            refine ev_pop (by decide) ?_
                            refine ev_iload_n rfl ?_
                            exact ev_ret rfl (by decide) (by decide) ⟨⟨_, rfl, by omega, by omega, g70920, k70920⟩, fun r hr h0 => by cases hr; exact (Ad.step (r' := (a1 + 4)) (Ad.step (r' := (a1 + 3)) (Ad.step (r' := (a1 + 2)) (Ad.step (r' := (a1 + 1)) (Ad.rf _ _ _) (by omega) k70920 (fun _ => rfl) (((jw_ne e70920 (Or.inl (by decide))).trans ev70716)) (by omega) (by omega) (by omega)) (by omega) k70920 (fun _ => rfl) (((jw_ne e70920 (Or.inl (by decide))).trans ev70827)) (by omega) (by omega) (by omega)) (by omega) k70920 (fun _ => rfl) (((jw_ne e70920 (Or.inl (by decide))).trans ev70852)) (by omega) (by omega) (by omega)) (by omega) k70920 (fun _ => rfl) (((jw_ne e70920 (Or.inl (by decide))).trans ev70885)) (by omega) (by omega) (by omega)), fun r hr => by cases hr; exact ⟨_, ((jw_eq e70920)), by omega, by omega, fun h0 => by omega⟩⟩
                          · refine ev_iload_n rfl ?_
                            refine ev_iload_n rfl ?_
                            refine ev_icmpgt f242_14 (fun c70922 => ?_) (fun c70922 => ?_)
                            · refine ev_iconst ?_
                              refine ev_ret rfl (by decide) (by decide) ?_
                              show jEv _ _ _ _ _ _ _ (_, [(2, 42), (0, (a1 + 4))], [(0, 0)], _, _, _)
                              refine ev_ret rfl (by decide) (by decide) ?_
                              show jEv _ _ _ _ _ _ _ (_, [(2, 42), (0, a1), (0, 1), (0, (a1 + 4)), (0, 1), (0, (100 * v70827 + 10 * v70852 + v70885 - 5328)), (0, 3)], [(0, 0)], _, _, _)
                              refine ev_ifeq f269_100 (fun c70923 => ?_) (fun c70923 => absurd c70923 (by omega))
                              refine ev_aload_n rfl ?_
                              refine ev_iload_n rfl ?_
                              refine ev_iconst ?_
                              refine ev_iload rfl ?_
                              refine ev_ifeq f269_114 (fun c70924 => absurd c70924 (by omega)) (fun c70924 => ?_)
                              refine ev_iload rfl ?_
                              refine ev_ineg (r := ((-100) * v70827 + (-10) * v70852 + (-v70885) + 5328)) (by unfold w32; omega) ?_
                              refine ev_goto f269_116 ?_
                              refine ev_in (d := 1) (a := 0) (b := 0) (cd' := c267_0) (m := 6) (L0 := [(2, 42), (0, 1), (0, 0), (0, ((-100) * v70827 + (-10) * v70852 + (-v70885) + 5328)), (9, 0), (9, 0)]) (jcall_v (A := [(0, ((-100) * v70827 + (-10) * v70852 + (-v70885) + 5328)), (0, 0), (0, 1)]) (S' := []) (r := 42) rfl (g.lt ad42) (g.tg ad42) (Nat.le_of_ble_eq_true rfl)) (by decide) ml267 pp267 (Nat.le_of_ble_eq_true rfl) rfl (by decide) (by decide) ?_
                              refine ev_iload_n rfl ?_
                              refine ev_ifne f267_6 (fun c70925 => ?_) (fun c70925 => absurd c70925 (by omega))
                              refine ev_aload_n rfl ?_
                              refine ev_dup (by decide) ?_
                              refine g_getv (r := 42) (v := w0) g ad42 (by decide) ft12_21 (ew0) ?_
                              refine ev_iconst ?_
                              refine ev_iadd (r := (w0 + 1)) (by unfold w32; omega) ?_
                              refine g_putf (r := 42) g ad42 (by decide) ft12_21 (by decide) (fun e => absurd e nz12_21) rf42_21 (by decide) (by omega) (by omega) (fun h70926 e70926 g70926 => ?_)
                              have k70926 := k0.wr e70926 rfl
                              refine ev_aload_n rfl ?_
                              refine g_getv (r := 42) (v := (w0 + 1)) g70926 ad42 (by decide) ft12_21 ((jw_eq e70926)) ?_
                              refine ev_bipush ?_
                              refine ev_icmple f267_27 (fun c70927 => absurd c70927 (by omega)) (fun c70927 => ?_)
                              refine ev_iconst ?_
                              refine ev_ret rfl (by decide) (by decide) ?_
                              show jEv _ _ _ _ _ _ _ (_, [(2, 42), (0, a1), (0, 1), (0, (a1 + 4)), (0, 1), (0, (100 * v70827 + 10 * v70852 + v70885 - 5328)), (0, 3)], [(0, (-1))], _, _, _)
                              refine ev_pop (by decide) ?_
                              refine ev_iload_n rfl ?_
                              exact ev_ret rfl (by decide) (by decide) ⟨⟨_, rfl, by omega, by omega, g70926, k70926⟩, fun r hr h0 => by cases hr; exact (Ad.step (r' := (a1 + 4)) (Ad.step (r' := (a1 + 3)) (Ad.step (r' := (a1 + 2)) (Ad.step (r' := (a1 + 1)) (Ad.rf _ _ _) (by omega) k70926 (fun _ => rfl) (((jw_ne e70926 (Or.inl (by decide))).trans ev70716)) (by omega) (by omega) (by omega)) (by omega) k70926 (fun _ => rfl) (((jw_ne e70926 (Or.inl (by decide))).trans ev70827)) (by omega) (by omega) (by omega)) (by omega) k70926 (fun _ => rfl) (((jw_ne e70926 (Or.inl (by decide))).trans ev70852)) (by omega) (by omega) (by omega)) (by omega) k70926 (fun _ => rfl) (((jw_ne e70926 (Or.inl (by decide))).trans ev70885)) (by omega) (by omega) (by omega)), fun r hr => by cases hr; exact ⟨_, ((jw_eq e70926)), by omega, by omega, fun h0 => by omega⟩⟩
                            · refine ev_iconst ?_
                              refine ev_goto f242_15 ?_
                              refine ev_ret rfl (by decide) (by decide) ?_
                              show jEv _ _ _ _ _ _ _ (_, [(2, 42), (0, (a1 + 4))], [(0, 1)], _, _, _)
                              refine ev_ret rfl (by decide) (by decide) ?_
                              show jEv _ _ _ _ _ _ _ (_, [(2, 42), (0, a1), (0, 1), (0, (a1 + 4)), (0, 1), (0, (100 * v70827 + 10 * v70852 + v70885 - 5328)), (0, 3)], [(0, 1)], _, _, _)
                              refine ev_ifeq f269_100 (fun c70928 => absurd c70928 (by omega)) (fun c70928 => ?_)
                              refine ev_aload_n rfl ?_
                              refine ev_iload_n rfl ?_
                              refine ev_in (d := 1) (a := 0) (b := 0) (cd' := c266_0) (m := 2) (L0 := [(2, 42), (0, (a1 + 4))]) (jcall_v (A := [(0, (a1 + 4))]) (S' := []) (r := 42) rfl (g.lt ad42) (g.tg ad42) (Nat.le_of_ble_eq_true rfl)) (by decide) ml266 pp266 (Nat.le_of_ble_eq_true rfl) rfl (by decide) (by decide) ?_
                              refine ev_aload_n rfl ?_
                              refine ev_iload_n rfl ?_
                              refine g_putf (r := 42) g ad42 (by decide) ft12_20 (by decide) (fun e => absurd e nz12_20) rf42_20 (by decide) (by omega) (by omega) (fun h70929 e70929 g70929 => ?_)
                              have k70929 := k0.wr e70929 rfl
                              refine ev_iconst ?_
                              refine ev_ret rfl (by decide) (by decide) ?_
                              show jEv _ _ _ _ _ _ _ (_, [(2, 42), (0, a1), (0, 1), (0, (a1 + 4)), (0, 1), (0, (100 * v70827 + 10 * v70852 + v70885 - 5328)), (0, 3)], [(0, (-1))], _, _, _)
                              exact ev_ret rfl (by decide) (by decide) ⟨⟨_, rfl, by omega, by omega, g70929, k70929⟩, fun r hr h0 => by cases hr; exfalso; omega, fun r hr => by cases hr; exact ⟨_, (((jw_ne e70929 (Or.inr (by decide))).trans ew0)), by omega, by omega, fun h0 => by exfalso; omega⟩⟩
set_option maxHeartbeats 4000000 in
theorem s270o_s_l {G : GH} {h : JH} {l0 : Int} (ll0 : 0 ≤ l0) (ul0 : l0 ≤ 6) {b0 : Int} (lb0 : 1 ≤ b0) (ub0 : b0 ≤ 30000000) {a1 : Int} (la1 : 0 ≤ a1) (ua1 : a1 ≤ 202) {a2 : Int} (la2 : 0 ≤ a2) (ua2 : a2 ≤ 15) {a3 : Int} (la3 : 0 ≤ a3) (ua3 : a3 ≤ 12) {w0 : Int} (ew0 : h.2.2 42 21 = w0) (lw0 : 100 ≤ w0) (uw0 : w0 ≤ 200000000) (F0 : (b0 + w0) ≤ 200000000) (hI : Iv h) (hL : Lv h l0 a1) (hb : NB a3 = b0) (hq : h.2.2 54 (a1).toNat = 63) {M : Int} (hM : M = (7 * a3 - l0)) {d : Nat} (hd : 0 ≤ d) (rih : ∀ {G : GH} {h : JH} (g : Gd G h) {l0 : Int} (ll0 : 0 ≤ l0) (ul0 : l0 ≤ 6) {b0 : Int} (lb0 : 1 ≤ b0) (ub0 : b0 ≤ 30000000) {a1 : Int} (la1 : 0 ≤ a1) (ua1 : a1 ≤ 202) {a2 : Int} (la2 : 0 ≤ a2) (ua2 : a2 ≤ 15) {a3 : Int} (la3 : 0 ≤ a3) (ua3 : a3 ≤ 12) {w0 : Int} (ew0 : h.2.2 42 21 = w0) (lw0 : 100 ≤ w0) (uw0 : w0 ≤ 200000000) (F0 : (b0 + w0) ≤ 200000000) (hI : Iv h) (hL : Lv h l0 a1) (hb : NB a3 = b0) (hm : M + 1 ≤ (7 * a3 - l0)), jOk d 0 0 272 [(2, 42), (0, a1), (0, a2), (0, a3), (0, 1)] h (fun v h' => PI G [(42, 21), (42, 22)] h 0 (-1) 200 v h' ∧ (∀ r, v = some (0, r) → 0 ≤ r → Ad h l0 a1 r) ∧ (∀ r, v = some (0, r) → RO h' w0 b0 r))) : ∀ N : Nat, (∀ (h1 : JH) (x5 x7 y0 : Int) (j8 j9 : AV), Gd G h1 → Kp [(42, 21), (42, 22)] h h1 → 0 ≤ a1 → a1 ≤ 198 → 0 ≤ a2 → a2 ≤ 15 → 0 ≤ a3 → a3 ≤ 11 → 1 ≤ x5 → x5 ≤ 200 → 0 ≤ x7 → x7 ≤ 3 → (w0 + (-y0)) ≤ (-1) → h1.2.2 42 21 = y0 → 101 ≤ y0 → y0 ≤ 200000000 → Ad h l0 a1 x5 → Mb w0 b0 x7 y0 → ((-x7) + 3) < N → jEv (jOk (d + 2)) none (fun _ => 0) c270_0 0 0 (fun v h' => PI G [(42, 21), (42, 22)] h 0 (-1) 200 v h' ∧ (∀ r, v = some (0, r) → 0 ≤ r → Ad h l0 a1 r) ∧ (∀ r, v = some (0, r) → RO h' w0 b0 r)) (c270_45, [(2, 42), (0, a1), (0, a2), (0, a3), (0, 1), (0, x5), (0, (-1)), (0, x7), j8, j9], [], h1, 0, 0)) := by
  intro N
  induction N with
  | zero => exact fun h1 x5 x7 y0 j8 j9 g1 k1 b0 b1 b2 b3 b4 b5 b6 b7 b8 b9 b10 b11 b12 b13 b14 b15 hm => absurd hm (by omega)
  | succ N ih =>
    show _
    intro h1 x5 x7 y0 j8 j9 g1 k1 b0 b1 b2 b3 b4 b5 b6 b7 b8 b9 b10 ey0 ly0 uy0 H0 H1 hm
    obtain ⟨b71384, hb71383, eb71383, lb71383⟩ := NB.split hb (by omega)
    have rm71383 := Mb.room H1 (by omega) eb71383 lb71383
    refine ev_iconst ?_
    refine ev_istore (L' := [(2, 42), (0, a1), (0, a2), (0, a3), (0, 1), (0, x5), (0, (-1)), (0, x7), (0, 0), j9]) (Nat.le_of_ble_eq_true rfl) rfl ?_
    refine ev_iconst ?_
    refine ev_istore (L' := [(2, 42), (0, a1), (0, a2), (0, a3), (0, 1), (0, x5), (0, (-1)), (0, x7), (0, 0), (0, 0)]) (Nat.le_of_ble_eq_true rfl) rfl ?_
    refine ev_iload rfl ?_
    refine ev_iconst ?_
    refine ev_icmpge f270_92 (fun c71385 => absurd c71385 (by omega)) (fun c71385 => ?_)
    refine ev_aload_n rfl ?_
    refine ev_iload rfl ?_
    refine ev_in (d := (d + 1)) (a := 0) (b := 0) (cd' := c265_0) (m := 2) (L0 := [(2, 42), (0, x5)]) (jcall_v (A := [(0, x5)]) (S' := []) (r := 42) rfl (g1.lt ad42) (g1.tg ad42) (Nat.le_of_ble_eq_true rfl)) (by decide) ml265 pp265 (Nat.le_of_ble_eq_true rfl) rfl (by decide) (by decide) ?_
    refine ev_aload_n rfl ?_
    refine ev_iload_n rfl ?_
    refine ev_in (d := (d + 0)) (a := 0) (b := 0) (cd' := c264_0) (m := 2) (L0 := [(2, 42), (0, x5)]) (jcall_v (A := [(0, x5)]) (S' := []) (r := 42) rfl (g1.lt ad42) (g1.tg ad42) (Nat.le_of_ble_eq_true rfl)) (by decide) ml264 pp264 (Nat.le_of_ble_eq_true rfl) rfl (by decide) (by decide) ?_
    refine ev_iload_n rfl ?_
    refine ev_aload_n rfl ?_
    obtain ⟨v71386, ev71386, lv71386, uv71386⟩ := g1.rd ad42 (show 17 < 66 by decide) rf42_17
    refine g_getv (r := 42) (v := v71386) g1 ad42 (by decide) ft12_17 ev71386 ?_
    refine ev_icmpge f264_17 (fun c71387 => ?_) (fun c71387 => ?_)
    · refine ev_iconst ?_
      refine ev_ret rfl (by decide) (by decide) ?_
      show jEv _ _ _ _ _ _ _ (_, [(2, 42), (0, x5)], [(0, (-1))], _, _, _)
      refine ev_bipush ?_
      refine ev_bipush ?_
      refine ev_in (d := (d + 0)) (a := 0) (b := 0) (cd' := c242_0) (m := 3) (L0 := [(0, (-1)), (0, 48), (0, 57)]) (jcall_s (A := [(0, 57), (0, 48), (0, (-1))]) (S' := []) (by decide) rfl (Nat.le_of_ble_eq_true rfl)) (by decide) ml242 pp242 (Nat.le_of_ble_eq_true rfl) rfl (by decide) (by decide) ?_
      refine ev_iload_n rfl ?_
      refine ev_iload_n rfl ?_
      refine ev_icmplt f242_14 (fun c71388 => ?_) (fun c71388 => absurd c71388 (by omega))
      refine ev_iconst ?_
      refine ev_ret rfl (by decide) (by decide) ?_
      show jEv _ _ _ _ _ _ _ (_, [(2, 42), (0, x5)], [(0, 0)], _, _, _)
      refine ev_ret rfl (by decide) (by decide) ?_
      show jEv _ _ _ _ _ _ _ (_, [(2, 42), (0, a1), (0, a2), (0, a3), (0, 1), (0, x5), (0, (-1)), (0, x7), (0, 0), (0, 0)], [(0, 0)], _, _, _)
      refine ev_ifeq f270_92 (fun c71389 => ?_) (fun c71389 => absurd c71389 (by omega))
      refine ev_iload rfl ?_
      refine ev_ifeq f270_108 (fun c71390 => ?_) (fun c71390 => absurd c71390 (by omega))
      refine ev_aload_n rfl ?_
      refine ev_iload rfl ?_
      refine ev_in (d := (d + 1)) (a := 0) (b := 0) (cd' := c266_0) (m := 2) (L0 := [(2, 42), (0, x5)]) (jcall_v (A := [(0, x5)]) (S' := []) (r := 42) rfl (g1.lt ad42) (g1.tg ad42) (Nat.le_of_ble_eq_true rfl)) (by decide) ml266 pp266 (Nat.le_of_ble_eq_true rfl) rfl (by decide) (by decide) ?_
      refine ev_aload_n rfl ?_
      refine ev_iload_n rfl ?_
      refine g_putf (r := 42) g1 ad42 (by decide) ft12_20 (by decide) (fun e => absurd e nz12_20) rf42_20 (by decide) (by omega) (by omega) (fun h71391 e71391 g71391 => ?_)
      have k71391 := k1.wr e71391 rfl
      refine ev_iconst ?_
      refine ev_ret rfl (by decide) (by decide) ?_
      show jEv _ _ _ _ _ _ _ (_, [(2, 42), (0, a1), (0, a2), (0, a3), (0, 1), (0, x5), (0, (-1)), (0, x7), (0, 0), (0, 0)], [(0, (-1))], _, _, _)
      exact ev_ret rfl (by decide) (by decide) ⟨⟨_, rfl, by omega, by omega, g71391, k71391⟩, fun r hr h0 => by cases hr; exfalso; omega, fun r hr => by cases hr; exact ⟨_, (((jw_ne e71391 (Or.inr (by decide))).trans ey0)), by omega, by omega, fun h0 => by exfalso; omega⟩⟩
    · refine ev_aload_n rfl ?_
      refine g_getp (r := 42) (c := 54) g1 ad42 (by decide) (by decide) rf42_16 ft12_16 ?_
      refine ev_iload_n rfl ?_
      refine g_bald g1 ad54 rt54 (by omega) (by omega) (fun v71392 ev71392 lv71392 uv71392 => ?_)
      refine ev_goto f264_18 ?_
      refine ev_ret rfl (by decide) (by decide) ?_
      show jEv _ _ _ _ _ _ _ (_, [(2, 42), (0, x5)], [(0, v71392)], _, _, _)
      refine ev_bipush ?_
      refine ev_bipush ?_
      refine ev_in (d := (d + 0)) (a := 0) (b := 0) (cd' := c242_0) (m := 3) (L0 := [(0, v71392), (0, 48), (0, 57)]) (jcall_s (A := [(0, 57), (0, 48), (0, v71392)]) (S' := []) (by decide) rfl (Nat.le_of_ble_eq_true rfl)) (by decide) ml242 pp242 (Nat.le_of_ble_eq_true rfl) rfl (by decide) (by decide) ?_
      refine ev_iload_n rfl ?_
      refine ev_iload_n rfl ?_
      refine ev_icmplt f242_14 (fun c71393 => ?_) (fun c71393 => ?_)
      · refine ev_iconst ?_
        refine ev_ret rfl (by decide) (by decide) ?_
        show jEv _ _ _ _ _ _ _ (_, [(2, 42), (0, x5)], [(0, 0)], _, _, _)
        refine ev_ret rfl (by decide) (by decide) ?_
        show jEv _ _ _ _ _ _ _ (_, [(2, 42), (0, a1), (0, a2), (0, a3), (0, 1), (0, x5), (0, (-1)), (0, x7), (0, 0), (0, 0)], [(0, 0)], _, _, _)
        refine ev_ifeq f270_92 (fun c71394 => ?_) (fun c71394 => absurd c71394 (by omega))
        refine ev_iload rfl ?_
        refine ev_ifeq f270_108 (fun c71395 => ?_) (fun c71395 => absurd c71395 (by omega))
        refine ev_aload_n rfl ?_
        refine ev_iload rfl ?_
        refine ev_in (d := (d + 1)) (a := 0) (b := 0) (cd' := c266_0) (m := 2) (L0 := [(2, 42), (0, x5)]) (jcall_v (A := [(0, x5)]) (S' := []) (r := 42) rfl (g1.lt ad42) (g1.tg ad42) (Nat.le_of_ble_eq_true rfl)) (by decide) ml266 pp266 (Nat.le_of_ble_eq_true rfl) rfl (by decide) (by decide) ?_
        refine ev_aload_n rfl ?_
        refine ev_iload_n rfl ?_
        refine g_putf (r := 42) g1 ad42 (by decide) ft12_20 (by decide) (fun e => absurd e nz12_20) rf42_20 (by decide) (by omega) (by omega) (fun h71396 e71396 g71396 => ?_)
        have k71396 := k1.wr e71396 rfl
        refine ev_iconst ?_
        refine ev_ret rfl (by decide) (by decide) ?_
        show jEv _ _ _ _ _ _ _ (_, [(2, 42), (0, a1), (0, a2), (0, a3), (0, 1), (0, x5), (0, (-1)), (0, x7), (0, 0), (0, 0)], [(0, (-1))], _, _, _)
        exact ev_ret rfl (by decide) (by decide) ⟨⟨_, rfl, by omega, by omega, g71396, k71396⟩, fun r hr h0 => by cases hr; exfalso; omega, fun r hr => by cases hr; exact ⟨_, (((jw_ne e71396 (Or.inr (by decide))).trans ey0)), by omega, by omega, fun h0 => by exfalso; omega⟩⟩
      · refine ev_iload_n rfl ?_
        refine ev_iload_n rfl ?_
        refine ev_icmpgt f242_14 (fun c71397 => ?_) (fun c71397 => ?_)
        · refine ev_iconst ?_
          refine ev_ret rfl (by decide) (by decide) ?_
          show jEv _ _ _ _ _ _ _ (_, [(2, 42), (0, x5)], [(0, 0)], _, _, _)
          refine ev_ret rfl (by decide) (by decide) ?_
          show jEv _ _ _ _ _ _ _ (_, [(2, 42), (0, a1), (0, a2), (0, a3), (0, 1), (0, x5), (0, (-1)), (0, x7), (0, 0), (0, 0)], [(0, 0)], _, _, _)
          refine ev_ifeq f270_92 (fun c71398 => ?_) (fun c71398 => absurd c71398 (by omega))
          refine ev_iload rfl ?_
          refine ev_ifeq f270_108 (fun c71399 => ?_) (fun c71399 => absurd c71399 (by omega))
          refine ev_aload_n rfl ?_
          refine ev_iload rfl ?_
          refine ev_in (d := (d + 1)) (a := 0) (b := 0) (cd' := c266_0) (m := 2) (L0 := [(2, 42), (0, x5)]) (jcall_v (A := [(0, x5)]) (S' := []) (r := 42) rfl (g1.lt ad42) (g1.tg ad42) (Nat.le_of_ble_eq_true rfl)) (by decide) ml266 pp266 (Nat.le_of_ble_eq_true rfl) rfl (by decide) (by decide) ?_
          refine ev_aload_n rfl ?_
          refine ev_iload_n rfl ?_
          refine g_putf (r := 42) g1 ad42 (by decide) ft12_20 (by decide) (fun e => absurd e nz12_20) rf42_20 (by decide) (by omega) (by omega) (fun h71400 e71400 g71400 => ?_)
          have k71400 := k1.wr e71400 rfl
          refine ev_iconst ?_
          refine ev_ret rfl (by decide) (by decide) ?_
          show jEv _ _ _ _ _ _ _ (_, [(2, 42), (0, a1), (0, a2), (0, a3), (0, 1), (0, x5), (0, (-1)), (0, x7), (0, 0), (0, 0)], [(0, (-1))], _, _, _)
          exact ev_ret rfl (by decide) (by decide) ⟨⟨_, rfl, by omega, by omega, g71400, k71400⟩, fun r hr h0 => by cases hr; exfalso; omega, fun r hr => by cases hr; exact ⟨_, (((jw_ne e71400 (Or.inr (by decide))).trans ey0)), by omega, by omega, fun h0 => by exfalso; omega⟩⟩
        · refine ev_iconst ?_
          refine ev_goto f242_15 ?_
          refine ev_ret rfl (by decide) (by decide) ?_
          show jEv _ _ _ _ _ _ _ (_, [(2, 42), (0, x5)], [(0, 1)], _, _, _)
          refine ev_ret rfl (by decide) (by decide) ?_
          show jEv _ _ _ _ _ _ _ (_, [(2, 42), (0, a1), (0, a2), (0, a3), (0, 1), (0, x5), (0, (-1)), (0, x7), (0, 0), (0, 0)], [(0, 1)], _, _, _)
          refine ev_ifeq f270_92 (fun c71401 => absurd c71401 (by omega)) (fun c71401 => ?_)
          refine ev_bipush ?_
          refine ev_iload rfl ?_
          refine ev_imul (r := 0) (by decide) ?_
          refine ev_aload_n rfl ?_
          refine ev_iload rfl ?_
          refine ev_in (d := (d + 1)) (a := 0) (b := 0) (cd' := c264_0) (m := 2) (L0 := [(2, 42), (0, x5)]) (jcall_v (A := [(0, x5)]) (S' := [(0, 0)]) (r := 42) rfl (g1.lt ad42) (g1.tg ad42) (Nat.le_of_ble_eq_true rfl)) (by decide) ml264 pp264 (Nat.le_of_ble_eq_true rfl) rfl (by decide) (by decide) ?_
          refine ev_iload_n rfl ?_
          refine ev_aload_n rfl ?_
          refine g_getv (r := 42) (v := v71386) g1 ad42 (by decide) ft12_17 (ev71386) ?_
          refine ev_icmpge f264_17 (fun c71402 => absurd c71402 (by omega)) (fun c71402 => ?_)
          refine ev_aload_n rfl ?_
          refine g_getp (r := 42) (c := 54) g1 ad42 (by decide) (by decide) rf42_16 ft12_16 ?_
          refine ev_iload_n rfl ?_
          refine g_baldv (v := v71392) g1 ad54 (by omega) (by omega) (ev71392) ?_
          refine ev_goto f264_18 ?_
          refine ev_ret rfl (by decide) (by decide) ?_
          show jEv _ _ _ _ _ _ _ (_, [(2, 42), (0, a1), (0, a2), (0, a3), (0, 1), (0, x5), (0, (-1)), (0, x7), (0, 0), (0, 0)], [(0, v71392), (0, 0)], _, _, _)
          refine ev_iadd (r := v71392) (by unfold w32; omega) ?_
          refine ev_bipush ?_
          refine ev_isub (r := (v71392 - 48)) (by unfold w32; omega) ?_
          refine ev_istore (L' := [(2, 42), (0, a1), (0, a2), (0, a3), (0, 1), (0, x5), (0, (-1)), (0, x7), (0, (v71392 - 48)), (0, 0)]) (Nat.le_of_ble_eq_true rfl) rfl ?_
          refine ev_iinc (w := 1) (L' := [(2, 42), (0, a1), (0, a2), (0, a3), (0, 1), (0, x5), (0, (-1)), (0, x7), (0, (v71392 - 48)), (0, 1)]) rfl (by decide) rfl ?_
          refine ev_iinc (w := (x5 + 1)) (L' := [(2, 42), (0, a1), (0, a2), (0, a3), (0, 1), (0, (x5 + 1)), (0, (-1)), (0, x7), (0, (v71392 - 48)), (0, 1)]) rfl (by unfold w32; omega) rfl ?_
          refine ev_goto f270_51 ?_
          refine ev_iload rfl ?_
          refine ev_iconst ?_
          refine ev_icmpge f270_92 (fun c71403 => absurd c71403 (by omega)) (fun c71403 => ?_)
          refine ev_aload_n rfl ?_
          refine ev_iload rfl ?_
          refine ev_in (d := (d + 1)) (a := 0) (b := 0) (cd' := c265_0) (m := 2) (L0 := [(2, 42), (0, (x5 + 1))]) (jcall_v (A := [(0, (x5 + 1))]) (S' := []) (r := 42) rfl (g1.lt ad42) (g1.tg ad42) (Nat.le_of_ble_eq_true rfl)) (by decide) ml265 pp265 (Nat.le_of_ble_eq_true rfl) rfl (by decide) (by decide) ?_
          refine ev_aload_n rfl ?_
          refine ev_iload_n rfl ?_
          refine ev_in (d := (d + 0)) (a := 0) (b := 0) (cd' := c264_0) (m := 2) (L0 := [(2, 42), (0, (x5 + 1))]) (jcall_v (A := [(0, (x5 + 1))]) (S' := []) (r := 42) rfl (g1.lt ad42) (g1.tg ad42) (Nat.le_of_ble_eq_true rfl)) (by decide) ml264 pp264 (Nat.le_of_ble_eq_true rfl) rfl (by decide) (by decide) ?_
          refine ev_iload_n rfl ?_
          refine ev_aload_n rfl ?_
          refine g_getv (r := 42) (v := v71386) g1 ad42 (by decide) ft12_17 (ev71386) ?_
          refine ev_icmpge f264_17 (fun c71404 => ?_) (fun c71404 => ?_)
          · refine ev_iconst ?_
            refine ev_ret rfl (by decide) (by decide) ?_
            show jEv _ _ _ _ _ _ _ (_, [(2, 42), (0, (x5 + 1))], [(0, (-1))], _, _, _)
            refine ev_bipush ?_
            refine ev_bipush ?_
            refine ev_in (d := (d + 0)) (a := 0) (b := 0) (cd' := c242_0) (m := 3) (L0 := [(0, (-1)), (0, 48), (0, 57)]) (jcall_s (A := [(0, 57), (0, 48), (0, (-1))]) (S' := []) (by decide) rfl (Nat.le_of_ble_eq_true rfl)) (by decide) ml242 pp242 (Nat.le_of_ble_eq_true rfl) rfl (by decide) (by decide) ?_
            refine ev_iload_n rfl ?_
            refine ev_iload_n rfl ?_
            refine ev_icmplt f242_14 (fun c71405 => ?_) (fun c71405 => absurd c71405 (by omega))
            refine ev_iconst ?_
            refine ev_ret rfl (by decide) (by decide) ?_
            show jEv _ _ _ _ _ _ _ (_, [(2, 42), (0, (x5 + 1))], [(0, 0)], _, _, _)
            refine ev_ret rfl (by decide) (by decide) ?_
            show jEv _ _ _ _ _ _ _ (_, [(2, 42), (0, a1), (0, a2), (0, a3), (0, 1), (0, (x5 + 1)), (0, (-1)), (0, x7), (0, (v71392 - 48)), (0, 1)], [(0, 0)], _, _, _)
            refine ev_ifeq f270_92 (fun c71406 => ?_) (fun c71406 => absurd c71406 (by omega))
            refine ev_iload rfl ?_
            refine ev_ifeq f270_108 (fun c71407 => absurd c71407 (by omega)) (fun c71407 => ?_)
            refine ev_aload_n rfl ?_
            refine ev_iload rfl ?_
            refine ev_in (d := (d + 1)) (a := 0) (b := 0) (cd' := c264_0) (m := 2) (L0 := [(2, 42), (0, (x5 + 1))]) (jcall_v (A := [(0, (x5 + 1))]) (S' := []) (r := 42) rfl (g1.lt ad42) (g1.tg ad42) (Nat.le_of_ble_eq_true rfl)) (by decide) ml264 pp264 (Nat.le_of_ble_eq_true rfl) rfl (by decide) (by decide) ?_
            refine ev_iload_n rfl ?_
            refine ev_aload_n rfl ?_
            refine g_getv (r := 42) (v := v71386) g1 ad42 (by decide) ft12_17 (ev71386) ?_
            refine ev_icmpge f264_17 (fun c71408 => ?_) (fun c71408 => absurd c71408 (by omega))
            refine ev_iconst ?_
            refine ev_ret rfl (by decide) (by decide) ?_
            show jEv _ _ _ _ _ _ _ (_, [(2, 42), (0, a1), (0, a2), (0, a3), (0, 1), (0, (x5 + 1)), (0, (-1)), (0, x7), (0, (v71392 - 48)), (0, 1)], [(0, (-1))], _, _, _)
            refine ev_bipush ?_
            refine ev_icmpeq f270_115 (fun c71409 => absurd c71409 (by omega)) (fun c71409 => ?_)
            refine ev_aload_n rfl ?_
            refine ev_iload rfl ?_
            refine ev_in (d := (d + 1)) (a := 0) (b := 0) (cd' := c266_0) (m := 2) (L0 := [(2, 42), (0, (x5 + 1))]) (jcall_v (A := [(0, (x5 + 1))]) (S' := []) (r := 42) rfl (g1.lt ad42) (g1.tg ad42) (Nat.le_of_ble_eq_true rfl)) (by decide) ml266 pp266 (Nat.le_of_ble_eq_true rfl) rfl (by decide) (by decide) ?_
            refine ev_aload_n rfl ?_
            refine ev_iload_n rfl ?_
            refine g_putf (r := 42) g1 ad42 (by decide) ft12_20 (by decide) (fun e => absurd e nz12_20) rf42_20 (by decide) (by omega) (by omega) (fun h71410 e71410 g71410 => ?_)
            have k71410 := k1.wr e71410 rfl
            refine ev_iconst ?_
            refine ev_ret rfl (by decide) (by decide) ?_
            show jEv _ _ _ _ _ _ _ (_, [(2, 42), (0, a1), (0, a2), (0, a3), (0, 1), (0, (x5 + 1)), (0, (-1)), (0, x7), (0, (v71392 - 48)), (0, 1)], [(0, (-1))], _, _, _)
            exact ev_ret rfl (by decide) (by decide) ⟨⟨_, rfl, by omega, by omega, g71410, k71410⟩, fun r hr h0 => by cases hr; exfalso; omega, fun r hr => by cases hr; exact ⟨_, (((jw_ne e71410 (Or.inr (by decide))).trans ey0)), by omega, by omega, fun h0 => by exfalso; omega⟩⟩
          · refine ev_aload_n rfl ?_
            refine g_getp (r := 42) (c := 54) g1 ad42 (by decide) (by decide) rf42_16 ft12_16 ?_
            refine ev_iload_n rfl ?_
            refine g_bald g1 ad54 rt54 (by omega) (by omega) (fun v71411 ev71411 lv71411 uv71411 => ?_)
            refine ev_goto f264_18 ?_
            refine ev_ret rfl (by decide) (by decide) ?_
            show jEv _ _ _ _ _ _ _ (_, [(2, 42), (0, (x5 + 1))], [(0, v71411)], _, _, _)
            refine ev_bipush ?_
            refine ev_bipush ?_
            refine ev_in (d := (d + 0)) (a := 0) (b := 0) (cd' := c242_0) (m := 3) (L0 := [(0, v71411), (0, 48), (0, 57)]) (jcall_s (A := [(0, 57), (0, 48), (0, v71411)]) (S' := []) (by decide) rfl (Nat.le_of_ble_eq_true rfl)) (by decide) ml242 pp242 (Nat.le_of_ble_eq_true rfl) rfl (by decide) (by decide) ?_
            refine ev_iload_n rfl ?_
            refine ev_iload_n rfl ?_
            refine ev_icmplt f242_14 (fun c71412 => ?_) (fun c71412 => ?_)
            · refine ev_iconst ?_
              refine ev_ret rfl (by decide) (by decide) ?_
              show jEv _ _ _ _ _ _ _ (_, [(2, 42), (0, (x5 + 1))], [(0, 0)], _, _, _)
              refine ev_ret rfl (by decide) (by decide) ?_
              show jEv _ _ _ _ _ _ _ (_, [(2, 42), (0, a1), (0, a2), (0, a3), (0, 1), (0, (x5 + 1)), (0, (-1)), (0, x7), (0, (v71392 - 48)), (0, 1)], [(0, 0)], _, _, _)
              refine ev_ifeq f270_92 (fun c71413 => ?_) (fun c71413 => absurd c71413 (by omega))
              refine ev_iload rfl ?_
              refine ev_ifeq f270_108 (fun c71414 => absurd c71414 (by omega)) (fun c71414 => ?_)
              refine ev_aload_n rfl ?_
              refine ev_iload rfl ?_
              refine ev_in (d := (d + 1)) (a := 0) (b := 0) (cd' := c264_0) (m := 2) (L0 := [(2, 42), (0, (x5 + 1))]) (jcall_v (A := [(0, (x5 + 1))]) (S' := []) (r := 42) rfl (g1.lt ad42) (g1.tg ad42) (Nat.le_of_ble_eq_true rfl)) (by decide) ml264 pp264 (Nat.le_of_ble_eq_true rfl) rfl (by decide) (by decide) ?_
              refine ev_iload_n rfl ?_
              refine ev_aload_n rfl ?_
              refine g_getv (r := 42) (v := v71386) g1 ad42 (by decide) ft12_17 (ev71386) ?_
              refine ev_icmpge f264_17 (fun c71415 => absurd c71415 (by omega)) (fun c71415 => ?_)
              refine ev_aload_n rfl ?_
              refine g_getp (r := 42) (c := 54) g1 ad42 (by decide) (by decide) rf42_16 ft12_16 ?_
              refine ev_iload_n rfl ?_
              refine g_baldv (v := v71411) g1 ad54 (by omega) (by omega) (ev71411) ?_
              refine ev_goto f264_18 ?_
              refine ev_ret rfl (by decide) (by decide) ?_
              show jEv _ _ _ _ _ _ _ (_, [(2, 42), (0, a1), (0, a2), (0, a3), (0, 1), (0, (x5 + 1)), (0, (-1)), (0, x7), (0, (v71392 - 48)), (0, 1)], [(0, v71411)], _, _, _)
              refine ev_bipush ?_
              refine ev_icmpeq f270_115 (fun c71416 => absurd c71416 (by omega)) (fun c71416 => ?_)
              refine ev_aload_n rfl ?_
              refine ev_iload rfl ?_
              refine ev_in (d := (d + 1)) (a := 0) (b := 0) (cd' := c266_0) (m := 2) (L0 := [(2, 42), (0, (x5 + 1))]) (jcall_v (A := [(0, (x5 + 1))]) (S' := []) (r := 42) rfl (g1.lt ad42) (g1.tg ad42) (Nat.le_of_ble_eq_true rfl)) (by decide) ml266 pp266 (Nat.le_of_ble_eq_true rfl) rfl (by decide) (by decide) ?_
              refine ev_aload_n rfl ?_
              refine ev_iload_n rfl ?_
              refine g_putf (r := 42) g1 ad42 (by decide) ft12_20 (by decide) (fun e => absurd e nz12_20) rf42_20 (by decide) (by omega) (by omega) (fun h71417 e71417 g71417 => ?_)
              have k71417 := k1.wr e71417 rfl
              refine ev_iconst ?_
              refine ev_ret rfl (by decide) (by decide) ?_
              show jEv _ _ _ _ _ _ _ (_, [(2, 42), (0, a1), (0, a2), (0, a3), (0, 1), (0, (x5 + 1)), (0, (-1)), (0, x7), (0, (v71392 - 48)), (0, 1)], [(0, (-1))], _, _, _)
              exact ev_ret rfl (by decide) (by decide) ⟨⟨_, rfl, by omega, by omega, g71417, k71417⟩, fun r hr h0 => by cases hr; exfalso; omega, fun r hr => by cases hr; exact ⟨_, (((jw_ne e71417 (Or.inr (by decide))).trans ey0)), by omega, by omega, fun h0 => by exfalso; omega⟩⟩
            · refine ev_iload_n rfl ?_
              refine ev_iload_n rfl ?_
              refine ev_icmpgt f242_14 (fun c71418 => ?_) (fun c71418 => ?_)
              · refine ev_iconst ?_
                refine ev_ret rfl (by decide) (by decide) ?_
                show jEv _ _ _ _ _ _ _ (_, [(2, 42), (0, (x5 + 1))], [(0, 0)], _, _, _)
                refine ev_ret rfl (by decide) (by decide) ?_
                show jEv _ _ _ _ _ _ _ (_, [(2, 42), (0, a1), (0, a2), (0, a3), (0, 1), (0, (x5 + 1)), (0, (-1)), (0, x7), (0, (v71392 - 48)), (0, 1)], [(0, 0)], _, _, _)
                refine ev_ifeq f270_92 (fun c71419 => ?_) (fun c71419 => absurd c71419 (by omega))
                refine ev_iload rfl ?_
                refine ev_ifeq f270_108 (fun c71420 => absurd c71420 (by omega)) (fun c71420 => ?_)
                refine ev_aload_n rfl ?_
                refine ev_iload rfl ?_
                refine ev_in (d := (d + 1)) (a := 0) (b := 0) (cd' := c264_0) (m := 2) (L0 := [(2, 42), (0, (x5 + 1))]) (jcall_v (A := [(0, (x5 + 1))]) (S' := []) (r := 42) rfl (g1.lt ad42) (g1.tg ad42) (Nat.le_of_ble_eq_true rfl)) (by decide) ml264 pp264 (Nat.le_of_ble_eq_true rfl) rfl (by decide) (by decide) ?_
                refine ev_iload_n rfl ?_
                refine ev_aload_n rfl ?_
                refine g_getv (r := 42) (v := v71386) g1 ad42 (by decide) ft12_17 (ev71386) ?_
                refine ev_icmpge f264_17 (fun c71421 => absurd c71421 (by omega)) (fun c71421 => ?_)
                refine ev_aload_n rfl ?_
                refine g_getp (r := 42) (c := 54) g1 ad42 (by decide) (by decide) rf42_16 ft12_16 ?_
                refine ev_iload_n rfl ?_
                refine g_baldv (v := v71411) g1 ad54 (by omega) (by omega) (ev71411) ?_
                refine ev_goto f264_18 ?_
                refine ev_ret rfl (by decide) (by decide) ?_
                show jEv _ _ _ _ _ _ _ (_, [(2, 42), (0, a1), (0, a2), (0, a3), (0, 1), (0, (x5 + 1)), (0, (-1)), (0, x7), (0, (v71392 - 48)), (0, 1)], [(0, v71411)], _, _, _)
                refine ev_bipush ?_
                refine ev_icmpeq f270_115 (fun c71422 => ?_) (fun c71422 => ?_)
                · refine ev_aload_n rfl ?_
                  refine ev_iload rfl ?_
                  refine ev_iload rfl ?_
                  refine ev_iload rfl ?_
                  refine ev_in (d := (d + 1)) (a := 0) (b := 0) (cd' := c268_0) (m := 4) (L0 := [(2, 42), (0, (-1)), (0, x7), (0, (v71392 - 48))]) (jcall_v (A := [(0, (v71392 - 48)), (0, x7), (0, (-1))]) (S' := []) (r := 42) rfl (g1.lt ad42) (g1.tg ad42) (Nat.le_of_ble_eq_true rfl)) (by decide) ml268 pp268 (Nat.le_of_ble_eq_true rfl) rfl (by decide) (by decide) ?_
                  refine ev_iload_n rfl ?_
                  refine ev_ifge f268_5 (fun c71423 => absurd c71423 (by omega)) (fun c71423 => ?_)
                  refine ev_ret rfl (by decide) (by decide) ?_
                  show jEv _ _ _ _ _ _ _ (_, [(2, 42), (0, a1), (0, a2), (0, a3), (0, 1), (0, (x5 + 1)), (0, (-1)), (0, x7), (0, (v71392 - 48)), (0, 1)], [], _, _, _)
                  refine ev_aload_n rfl ?_
                  refine ev_iload rfl ?_
                  refine ev_iconst ?_
                  refine ev_iadd (r := (x5 + 2)) (by unfold w32; omega) ?_
                  refine ev_iload_n rfl ?_
                  refine ev_iload_n rfl ?_
                  refine ev_iconst ?_
                  refine ev_iadd (r := (a3 + 1)) (by unfold w32; omega) ?_
                  refine ev_iload rfl ?_
                  refine ev_call (jcall_v (A := [(0, 1), (0, (a3 + 1)), (0, a2), (0, (x5 + 2))]) (S' := []) (r := 42) rfl (g1.lt ad42) (g1.tg ad42) (Nat.le_of_ble_eq_true rfl)) (jOk_le (by omega) (rih g1 (by omega) (by omega) (by omega) (by omega) (by omega) (by omega) (by omega) (by omega) (by omega) (by omega) (ey0) (by omega) (by omega) (l0 := l0) (b0 := b71384) (by omega) (Iv.kp hI k1 (fun _ => rfl) (fun _ => rfl) rfl) (Lv.at hL (Ad.step (r' := (x5 + 2)) (Ad.step (r' := (x5 + 1)) H0 (by omega) k1 (fun _ => rfl) (ev71392) (by omega) (by omega) (by omega)) (by omega) k1 (fun _ => rfl) (ev71411) (by omega) (by omega) (by omega)) k1 (fun _ => rfl) rfl) hb71383 (by omega))) (by decide) (by decide) (fun w71424 h71424 q71424 => ?_)
                  obtain ⟨q71424, ad71424, ro71424⟩ := q71424
                  obtain ⟨v71425, rfl, lv71425, uv71425, g71424, kk71424⟩ := q71424
                  have ad71424 := ad71424 _ rfl
                  obtain ⟨m71426, em71426, lm71426, um71426, pm71424⟩ := ro71424 _ rfl
                  have k71424 := k1.tr kk71424 (by decide)
                  show jEv _ _ _ _ _ _ _ (_, [(2, 42), (0, a1), (0, a2), (0, a3), (0, 1), (0, (x5 + 1)), (0, (-1)), (0, x7), (0, (v71392 - 48)), (0, 1)], [(0, v71425)], _, _, _)
                  refine ev_istore (L' := [(2, 42), (0, a1), (0, a2), (0, a3), (0, 1), (0, v71425), (0, (-1)), (0, x7), (0, (v71392 - 48)), (0, 1)]) (Nat.le_of_ble_eq_true rfl) rfl ?_
                  refine ev_iload rfl ?_
                  refine ev_ifge f270_148 (fun c71427 => ?_) (fun c71427 => ?_)
                  · refine ev_iinc (w := (x7 + 1)) (L' := [(2, 42), (0, a1), (0, a2), (0, a3), (0, 1), (0, v71425), (0, (-1)), (0, (x7 + 1)), (0, (v71392 - 48)), (0, 1)]) rfl (by unfold w32; omega) rfl ?_
                    refine ev_aload_n rfl ?_
                    refine ev_iload rfl ?_
                    refine ev_in (d := (d + 1)) (a := 0) (b := 0) (cd' := c264_0) (m := 2) (L0 := [(2, 42), (0, v71425)]) (jcall_v (A := [(0, v71425)]) (S' := []) (r := 42) rfl (g71424.lt ad42) (g71424.tg ad42) (Nat.le_of_ble_eq_true rfl)) (by decide) ml264 pp264 (Nat.le_of_ble_eq_true rfl) rfl (by decide) (by decide) ?_
                    refine ev_iload_n rfl ?_
                    refine ev_aload_n rfl ?_
                    refine g_getv (r := 42) (v := v71386) g71424 ad42 (by decide) ft12_17 (((kk71424.v (by decide)).trans ev71386)) ?_
                    refine ev_icmpge f264_17 (fun c71428 => ?_) (fun c71428 => ?_)
                    · refine ev_iconst ?_
                      refine ev_ret rfl (by decide) (by decide) ?_
                      show jEv _ _ _ _ _ _ _ (_, [(2, 42), (0, a1), (0, a2), (0, a3), (0, 1), (0, v71425), (0, (-1)), (0, (x7 + 1)), (0, (v71392 - 48)), (0, 1)], [(0, (-1))], _, _, _)
                      refine ev_bipush ?_
                      refine ev_icmpne f270_165 (fun c71429 => ?_) (fun c71429 => absurd c71429 (by omega))
                      refine ev_aload_n rfl ?_
                      refine ev_iload rfl ?_
                      refine ev_in (d := (d + 1)) (a := 0) (b := 0) (cd' := c264_0) (m := 2) (L0 := [(2, 42), (0, v71425)]) (jcall_v (A := [(0, v71425)]) (S' := []) (r := 42) rfl (g71424.lt ad42) (g71424.tg ad42) (Nat.le_of_ble_eq_true rfl)) (by decide) ml264 pp264 (Nat.le_of_ble_eq_true rfl) rfl (by decide) (by decide) ?_
                      refine ev_iload_n rfl ?_
                      refine ev_aload_n rfl ?_
                      refine g_getv (r := 42) (v := v71386) g71424 ad42 (by decide) ft12_17 (((kk71424.v (by decide)).trans ev71386)) ?_
                      refine ev_icmpge f264_17 (fun c71430 => ?_) (fun c71430 => absurd c71430 (by omega))
                      refine ev_iconst ?_
                      refine ev_ret rfl (by decide) (by decide) ?_
                      show jEv _ _ _ _ _ _ _ (_, [(2, 42), (0, a1), (0, a2), (0, a3), (0, 1), (0, v71425), (0, (-1)), (0, (x7 + 1)), (0, (v71392 - 48)), (0, 1)], [(0, (-1))], _, _, _)
                      refine ev_bipush ?_
                      refine ev_icmpne f270_182 (fun c71431 => ?_) (fun c71431 => absurd c71431 (by omega))
                      refine ev_aload_n rfl ?_
                      refine ev_iload rfl ?_
                      refine ev_in (d := (d + 1)) (a := 0) (b := 0) (cd' := c266_0) (m := 2) (L0 := [(2, 42), (0, v71425)]) (jcall_v (A := [(0, v71425)]) (S' := []) (r := 42) rfl (g71424.lt ad42) (g71424.tg ad42) (Nat.le_of_ble_eq_true rfl)) (by decide) ml266 pp266 (Nat.le_of_ble_eq_true rfl) rfl (by decide) (by decide) ?_
                      refine ev_aload_n rfl ?_
                      refine ev_iload_n rfl ?_
                      refine g_putf (r := 42) g71424 ad42 (by decide) ft12_20 (by decide) (fun e => absurd e nz12_20) rf42_20 (by decide) (by omega) (by omega) (fun h71432 e71432 g71432 => ?_)
                      have k71432 := k71424.wr e71432 rfl
                      refine ev_iconst ?_
                      refine ev_ret rfl (by decide) (by decide) ?_
                      show jEv _ _ _ _ _ _ _ (_, [(2, 42), (0, a1), (0, a2), (0, a3), (0, 1), (0, v71425), (0, (-1)), (0, (x7 + 1)), (0, (v71392 - 48)), (0, 1)], [(0, (-1))], _, _, _)
                      exact ev_ret rfl (by decide) (by decide) ⟨⟨_, rfl, by omega, by omega, g71432, k71432⟩, fun r hr h0 => by cases hr; exfalso; omega, fun r hr => by cases hr; exact ⟨_, (((jw_ne e71432 (Or.inr (by decide))).trans em71426)), by omega, by omega, fun h0 => by exfalso; omega⟩⟩
                    · refine ev_aload_n rfl ?_
                      refine g_getp (r := 42) (c := 54) g71424 ad42 (by decide) (by decide) rf42_16 ft12_16 ?_
                      refine ev_iload_n rfl ?_
                      refine g_bald g71424 ad54 rt54 (by omega) (by omega) (fun v71433 ev71433 lv71433 uv71433 => ?_)
                      refine ev_goto f264_18 ?_
                      refine ev_ret rfl (by decide) (by decide) ?_
                      show jEv _ _ _ _ _ _ _ (_, [(2, 42), (0, a1), (0, a2), (0, a3), (0, 1), (0, v71425), (0, (-1)), (0, (x7 + 1)), (0, (v71392 - 48)), (0, 1)], [(0, v71433)], _, _, _)
                      refine ev_bipush ?_
                      refine ev_icmpne f270_165 (fun c71434 => ?_) (fun c71434 => ?_)
                      · refine ev_aload_n rfl ?_
                        refine ev_iload rfl ?_
                        refine ev_in (d := (d + 1)) (a := 0) (b := 0) (cd' := c264_0) (m := 2) (L0 := [(2, 42), (0, v71425)]) (jcall_v (A := [(0, v71425)]) (S' := []) (r := 42) rfl (g71424.lt ad42) (g71424.tg ad42) (Nat.le_of_ble_eq_true rfl)) (by decide) ml264 pp264 (Nat.le_of_ble_eq_true rfl) rfl (by decide) (by decide) ?_
                        refine ev_iload_n rfl ?_
                        refine ev_aload_n rfl ?_
                        refine g_getv (r := 42) (v := v71386) g71424 ad42 (by decide) ft12_17 (((kk71424.v (by decide)).trans ev71386)) ?_
                        refine ev_icmpge f264_17 (fun c71435 => absurd c71435 (by omega)) (fun c71435 => ?_)
                        refine ev_aload_n rfl ?_
                        refine g_getp (r := 42) (c := 54) g71424 ad42 (by decide) (by decide) rf42_16 ft12_16 ?_
                        refine ev_iload_n rfl ?_
                        refine g_baldv (v := v71433) g71424 ad54 (by omega) (by omega) (ev71433) ?_
                        refine ev_goto f264_18 ?_
                        refine ev_ret rfl (by decide) (by decide) ?_
                        show jEv _ _ _ _ _ _ _ (_, [(2, 42), (0, a1), (0, a2), (0, a3), (0, 1), (0, v71425), (0, (-1)), (0, (x7 + 1)), (0, (v71392 - 48)), (0, 1)], [(0, v71433)], _, _, _)
                        refine ev_bipush ?_
                        refine ev_icmpne f270_182 (fun c71436 => ?_) (fun c71436 => ?_)
                        · refine ev_aload_n rfl ?_
                          refine ev_iload rfl ?_
                          refine ev_in (d := (d + 1)) (a := 0) (b := 0) (cd' := c266_0) (m := 2) (L0 := [(2, 42), (0, v71425)]) (jcall_v (A := [(0, v71425)]) (S' := []) (r := 42) rfl (g71424.lt ad42) (g71424.tg ad42) (Nat.le_of_ble_eq_true rfl)) (by decide) ml266 pp266 (Nat.le_of_ble_eq_true rfl) rfl (by decide) (by decide) ?_
                          refine ev_aload_n rfl ?_
                          refine ev_iload_n rfl ?_
                          refine g_putf (r := 42) g71424 ad42 (by decide) ft12_20 (by decide) (fun e => absurd e nz12_20) rf42_20 (by decide) (by omega) (by omega) (fun h71437 e71437 g71437 => ?_)
                          have k71437 := k71424.wr e71437 rfl
                          refine ev_iconst ?_
                          refine ev_ret rfl (by decide) (by decide) ?_
                          show jEv _ _ _ _ _ _ _ (_, [(2, 42), (0, a1), (0, a2), (0, a3), (0, 1), (0, v71425), (0, (-1)), (0, (x7 + 1)), (0, (v71392 - 48)), (0, 1)], [(0, (-1))], _, _, _)
                          exact ev_ret rfl (by decide) (by decide) ⟨⟨_, rfl, by omega, by omega, g71437, k71437⟩, fun r hr h0 => by cases hr; exfalso; omega, fun r hr => by cases hr; exact ⟨_, (((jw_ne e71437 (Or.inr (by decide))).trans em71426)), by omega, by omega, fun h0 => by exfalso; omega⟩⟩
                        · refine ev_iload rfl ?_
                          refine ev_iconst ?_
                          refine ev_icmpne f270_189 (fun c71438 => ?_) (fun c71438 => ?_)
                          · refine ev_iinc (w := (v71425 + 1)) (L' := [(2, 42), (0, a1), (0, a2), (0, a3), (0, 1), (0, (v71425 + 1)), (0, (-1)), (0, (x7 + 1)), (0, (v71392 - 48)), (0, 1)]) rfl (by unfold w32; omega) rfl ?_
                            refine ev_goto f270_45 ?_
                            exact ih _ _ _ _ _ _ g71424 k71424 (by omega) (by omega) (by omega) (by omega) (by omega) (by omega) (by omega) (by omega) (by omega) (by omega) (by omega) (em71426) (by omega) (by omega) (Ad.step (r' := (v71425 + 1)) (Ad.tr (Ad.step (r' := (x5 + 2)) (Ad.step (r' := (x5 + 1)) H0 (by omega) k1 (fun _ => rfl) (ev71392) (by omega) (by omega) (by omega)) (by omega) k1 (fun _ => rfl) (ev71411) (by omega) (by omega) (by omega)) k1 (fun _ => rfl) (ad71424 (by omega))) (by omega) k71424 (fun _ => rfl) (ev71433) (by omega) (by omega) (by omega)) (Mb.step H1 eb71383 um71426 (by omega)) (by omega)
                          · refine ev_aload_n rfl ?_
                            refine ev_iload rfl ?_
                            refine ev_in (d := (d + 1)) (a := 0) (b := 0) (cd' := c266_0) (m := 2) (L0 := [(2, 42), (0, v71425)]) (jcall_v (A := [(0, v71425)]) (S' := []) (r := 42) rfl (g71424.lt ad42) (g71424.tg ad42) (Nat.le_of_ble_eq_true rfl)) (by decide) ml266 pp266 (Nat.le_of_ble_eq_true rfl) rfl (by decide) (by decide) ?_
                            refine ev_aload_n rfl ?_
                            refine ev_iload_n rfl ?_
                            refine g_putf (r := 42) g71424 ad42 (by decide) ft12_20 (by decide) (fun e => absurd e nz12_20) rf42_20 (by decide) (by omega) (by omega) (fun h71439 e71439 g71439 => ?_)
                            have k71439 := k71424.wr e71439 rfl
                            refine ev_iconst ?_
                            refine ev_ret rfl (by decide) (by decide) ?_
                            show jEv _ _ _ _ _ _ _ (_, [(2, 42), (0, a1), (0, a2), (0, a3), (0, 1), (0, v71425), (0, (-1)), (0, (x7 + 1)), (0, (v71392 - 48)), (0, 1)], [(0, (-1))], _, _, _)
                            exact ev_ret rfl (by decide) (by decide) ⟨⟨_, rfl, by omega, by omega, g71439, k71439⟩, fun r hr h0 => by cases hr; exfalso; omega, fun r hr => by cases hr; exact ⟨_, (((jw_ne e71439 (Or.inr (by decide))).trans em71426)), by omega, by omega, fun h0 => by exfalso; omega⟩⟩
                      · refine ev_goto f270_195 ?_
                        refine ev_iload rfl ?_
                        refine ev_iflt f270_209 (fun c71440 => ?_) (fun c71440 => absurd c71440 (by omega))
                        refine ev_iload rfl ?_
                        refine ev_iconst ?_
                        refine ev_iadd (r := (v71425 + 1)) (by unfold w32; omega) ?_
                        exact ev_ret rfl (by decide) (by decide) ⟨⟨_, rfl, by omega, by omega, g71424, k71424⟩, fun r hr h0 => by cases hr; exact (Ad.step (r' := (v71425 + 1)) (Ad.tr (Ad.step (r' := (x5 + 2)) (Ad.step (r' := (x5 + 1)) H0 (by omega) k1 (fun _ => rfl) (ev71392) (by omega) (by omega) (by omega)) (by omega) k1 (fun _ => rfl) (ev71411) (by omega) (by omega) (by omega)) k1 (fun _ => rfl) (ad71424 (by omega))) (by omega) k71424 (fun _ => rfl) (ev71433) (by omega) (by omega) (by omega)), fun r hr => by cases hr; exact ⟨_, (em71426), by omega, by omega, fun h0 => by have := pm71424 (by omega); omega⟩⟩
                  · refine ev_iconst ?_
                    exact ev_ret rfl (by decide) (by decide) ⟨⟨_, rfl, by omega, by omega, g71424, k71424⟩, fun r hr h0 => by cases hr; exfalso; omega, fun r hr => by cases hr; exact ⟨_, (em71426), by omega, by omega, fun h0 => by exfalso; omega⟩⟩
                · refine ev_aload_n rfl ?_
                  refine ev_iload rfl ?_
                  refine ev_in (d := (d + 1)) (a := 0) (b := 0) (cd' := c266_0) (m := 2) (L0 := [(2, 42), (0, (x5 + 1))]) (jcall_v (A := [(0, (x5 + 1))]) (S' := []) (r := 42) rfl (g1.lt ad42) (g1.tg ad42) (Nat.le_of_ble_eq_true rfl)) (by decide) ml266 pp266 (Nat.le_of_ble_eq_true rfl) rfl (by decide) (by decide) ?_
                  refine ev_aload_n rfl ?_
                  refine ev_iload_n rfl ?_
                  refine g_putf (r := 42) g1 ad42 (by decide) ft12_20 (by decide) (fun e => absurd e nz12_20) rf42_20 (by decide) (by omega) (by omega) (fun h71441 e71441 g71441 => ?_)
                  have k71441 := k1.wr e71441 rfl
                  refine ev_iconst ?_
                  refine ev_ret rfl (by decide) (by decide) ?_
                  show jEv _ _ _ _ _ _ _ (_, [(2, 42), (0, a1), (0, a2), (0, a3), (0, 1), (0, (x5 + 1)), (0, (-1)), (0, x7), (0, (v71392 - 48)), (0, 1)], [(0, (-1))], _, _, _)
                  exact ev_ret rfl (by decide) (by decide) ⟨⟨_, rfl, by omega, by omega, g71441, k71441⟩, fun r hr h0 => by cases hr; exfalso; omega, fun r hr => by cases hr; exact ⟨_, (((jw_ne e71441 (Or.inr (by decide))).trans ey0)), by omega, by omega, fun h0 => by exfalso; omega⟩⟩
              · refine ev_iconst ?_
                refine ev_goto f242_15 ?_
                refine ev_ret rfl (by decide) (by decide) ?_
                show jEv _ _ _ _ _ _ _ (_, [(2, 42), (0, (x5 + 1))], [(0, 1)], _, _, _)
                refine ev_ret rfl (by decide) (by decide) ?_
                show jEv _ _ _ _ _ _ _ (_, [(2, 42), (0, a1), (0, a2), (0, a3), (0, 1), (0, (x5 + 1)), (0, (-1)), (0, x7), (0, (v71392 - 48)), (0, 1)], [(0, 1)], _, _, _)
                refine ev_ifeq f270_92 (fun c71442 => absurd c71442 (by omega)) (fun c71442 => ?_)
                refine ev_bipush ?_
                refine ev_iload rfl ?_
                refine ev_imul (r := (10 * v71392 - 480)) (by unfold w32; omega) ?_
                refine ev_aload_n rfl ?_
                refine ev_iload rfl ?_
                refine ev_in (d := (d + 1)) (a := 0) (b := 0) (cd' := c264_0) (m := 2) (L0 := [(2, 42), (0, (x5 + 1))]) (jcall_v (A := [(0, (x5 + 1))]) (S' := [(0, (10 * v71392 - 480))]) (r := 42) rfl (g1.lt ad42) (g1.tg ad42) (Nat.le_of_ble_eq_true rfl)) (by decide) ml264 pp264 (Nat.le_of_ble_eq_true rfl) rfl (by decide) (by decide) ?_
                refine ev_iload_n rfl ?_
                refine ev_aload_n rfl ?_
                refine g_getv (r := 42) (v := v71386) g1 ad42 (by decide) ft12_17 (ev71386) ?_
                refine ev_icmpge f264_17 (fun c71443 => absurd c71443 (by omega)) (fun c71443 => ?_)
                refine ev_aload_n rfl ?_
                refine g_getp (r := 42) (c := 54) g1 ad42 (by decide) (by decide) rf42_16 ft12_16 ?_
                refine ev_iload_n rfl ?_
                refine g_baldv (v := v71411) g1 ad54 (by omega) (by omega) (ev71411) ?_
                refine ev_goto f264_18 ?_
                refine ev_ret rfl (by decide) (by decide) ?_
                show jEv _ _ _ _ _ _ _ (_, [(2, 42), (0, a1), (0, a2), (0, a3), (0, 1), (0, (x5 + 1)), (0, (-1)), (0, x7), (0, (v71392 - 48)), (0, 1)], [(0, v71411), (0, (10 * v71392 - 480))], _, _, _)
                refine ev_iadd (r := (10 * v71392 + v71411 - 480)) (by unfold w32; omega) ?_
                refine ev_bipush ?_
                refine ev_isub (r := (10 * v71392 + v71411 - 528)) (by unfold w32; omega) ?_
                refine ev_istore (L' := [(2, 42), (0, a1), (0, a2), (0, a3), (0, 1), (0, (x5 + 1)), (0, (-1)), (0, x7), (0, (10 * v71392 + v71411 - 528)), (0, 1)]) (Nat.le_of_ble_eq_true rfl) rfl ?_
                refine ev_iinc (w := 2) (L' := [(2, 42), (0, a1), (0, a2), (0, a3), (0, 1), (0, (x5 + 1)), (0, (-1)), (0, x7), (0, (10 * v71392 + v71411 - 528)), (0, 2)]) rfl (by decide) rfl ?_
                refine ev_iinc (w := (x5 + 2)) (L' := [(2, 42), (0, a1), (0, a2), (0, a3), (0, 1), (0, (x5 + 2)), (0, (-1)), (0, x7), (0, (10 * v71392 + v71411 - 528)), (0, 2)]) rfl (by unfold w32; omega) rfl ?_
                refine ev_goto f270_51 ?_
                refine ev_iload rfl ?_
                refine ev_iconst ?_
                refine ev_icmpge f270_92 (fun c71444 => ?_) (fun c71444 => absurd c71444 (by omega))
                refine ev_iload rfl ?_
                refine ev_ifeq f270_108 (fun c71445 => absurd c71445 (by omega)) (fun c71445 => ?_)
                refine ev_aload_n rfl ?_
                refine ev_iload rfl ?_
                refine ev_in (d := (d + 1)) (a := 0) (b := 0) (cd' := c264_0) (m := 2) (L0 := [(2, 42), (0, (x5 + 2))]) (jcall_v (A := [(0, (x5 + 2))]) (S' := []) (r := 42) rfl (g1.lt ad42) (g1.tg ad42) (Nat.le_of_ble_eq_true rfl)) (by decide) ml264 pp264 (Nat.le_of_ble_eq_true rfl) rfl (by decide) (by decide) ?_
                refine ev_iload_n rfl ?_
                refine ev_aload_n rfl ?_
                refine g_getv (r := 42) (v := v71386) g1 ad42 (by decide) ft12_17 (ev71386) ?_
                refine ev_icmpge f264_17 (fun c71446 => ?_) (fun c71446 => ?_)
                · refine ev_iconst ?_
                  refine ev_ret rfl (by decide) (by decide) ?_
                  show jEv _ _ _ _ _ _ _ (_, [(2, 42), (0, a1), (0, a2), (0, a3), (0, 1), (0, (x5 + 2)), (0, (-1)), (0, x7), (0, (10 * v71392 + v71411 - 528)), (0, 2)], [(0, (-1))], _, _, _)
                  refine ev_bipush ?_
                  refine ev_icmpeq f270_115 (fun c71447 => absurd c71447 (by omega)) (fun c71447 => ?_)
                  refine ev_aload_n rfl ?_
                  refine ev_iload rfl ?_
                  refine ev_in (d := (d + 1)) (a := 0) (b := 0) (cd' := c266_0) (m := 2) (L0 := [(2, 42), (0, (x5 + 2))]) (jcall_v (A := [(0, (x5 + 2))]) (S' := []) (r := 42) rfl (g1.lt ad42) (g1.tg ad42) (Nat.le_of_ble_eq_true rfl)) (by decide) ml266 pp266 (Nat.le_of_ble_eq_true rfl) rfl (by decide) (by decide) ?_
                  refine ev_aload_n rfl ?_
                  refine ev_iload_n rfl ?_
                  refine g_putf (r := 42) g1 ad42 (by decide) ft12_20 (by decide) (fun e => absurd e nz12_20) rf42_20 (by decide) (by omega) (by omega) (fun h71448 e71448 g71448 => ?_)
                  have k71448 := k1.wr e71448 rfl
                  refine ev_iconst ?_
                  refine ev_ret rfl (by decide) (by decide) ?_
                  show jEv _ _ _ _ _ _ _ (_, [(2, 42), (0, a1), (0, a2), (0, a3), (0, 1), (0, (x5 + 2)), (0, (-1)), (0, x7), (0, (10 * v71392 + v71411 - 528)), (0, 2)], [(0, (-1))], _, _, _)
                  exact ev_ret rfl (by decide) (by decide) ⟨⟨_, rfl, by omega, by omega, g71448, k71448⟩, fun r hr h0 => by cases hr; exfalso; omega, fun r hr => by cases hr; exact ⟨_, (((jw_ne e71448 (Or.inr (by decide))).trans ey0)), by omega, by omega, fun h0 => by exfalso; omega⟩⟩
                · refine ev_aload_n rfl ?_
                  refine g_getp (r := 42) (c := 54) g1 ad42 (by decide) (by decide) rf42_16 ft12_16 ?_
                  refine ev_iload_n rfl ?_
                  refine g_bald g1 ad54 rt54 (by omega) (by omega) (fun v71449 ev71449 lv71449 uv71449 => ?_)
                  refine ev_goto f264_18 ?_
                  refine ev_ret rfl (by decide) (by decide) ?_
                  show jEv _ _ _ _ _ _ _ (_, [(2, 42), (0, a1), (0, a2), (0, a3), (0, 1), (0, (x5 + 2)), (0, (-1)), (0, x7), (0, (10 * v71392 + v71411 - 528)), (0, 2)], [(0, v71449)], _, _, _)
                  refine ev_bipush ?_
                  refine ev_icmpeq f270_115 (fun c71450 => ?_) (fun c71450 => ?_)
                  · refine ev_aload_n rfl ?_
                    refine ev_iload rfl ?_
                    refine ev_iload rfl ?_
                    refine ev_iload rfl ?_
                    refine ev_in (d := (d + 1)) (a := 0) (b := 0) (cd' := c268_0) (m := 4) (L0 := [(2, 42), (0, (-1)), (0, x7), (0, (10 * v71392 + v71411 - 528))]) (jcall_v (A := [(0, (10 * v71392 + v71411 - 528)), (0, x7), (0, (-1))]) (S' := []) (r := 42) rfl (g1.lt ad42) (g1.tg ad42) (Nat.le_of_ble_eq_true rfl)) (by decide) ml268 pp268 (Nat.le_of_ble_eq_true rfl) rfl (by decide) (by decide) ?_
                    refine ev_iload_n rfl ?_
                    refine ev_ifge f268_5 (fun c71451 => absurd c71451 (by omega)) (fun c71451 => ?_)
                    refine ev_ret rfl (by decide) (by decide) ?_
                    show jEv _ _ _ _ _ _ _ (_, [(2, 42), (0, a1), (0, a2), (0, a3), (0, 1), (0, (x5 + 2)), (0, (-1)), (0, x7), (0, (10 * v71392 + v71411 - 528)), (0, 2)], [], _, _, _)
                    refine ev_aload_n rfl ?_
                    refine ev_iload rfl ?_
                    refine ev_iconst ?_
                    refine ev_iadd (r := (x5 + 3)) (by unfold w32; omega) ?_
                    refine ev_iload_n rfl ?_
                    refine ev_iload_n rfl ?_
                    refine ev_iconst ?_
                    refine ev_iadd (r := (a3 + 1)) (by unfold w32; omega) ?_
                    refine ev_iload rfl ?_
                    refine ev_call (jcall_v (A := [(0, 1), (0, (a3 + 1)), (0, a2), (0, (x5 + 3))]) (S' := []) (r := 42) rfl (g1.lt ad42) (g1.tg ad42) (Nat.le_of_ble_eq_true rfl)) (jOk_le (by omega) (rih g1 (by omega) (by omega) (by omega) (by omega) (by omega) (by omega) (by omega) (by omega) (by omega) (by omega) (ey0) (by omega) (by omega) (l0 := l0) (b0 := b71384) (by omega) (Iv.kp hI k1 (fun _ => rfl) (fun _ => rfl) rfl) (Lv.at hL (Ad.step (r' := (x5 + 3)) (Ad.step (r' := (x5 + 2)) (Ad.step (r' := (x5 + 1)) H0 (by omega) k1 (fun _ => rfl) (ev71392) (by omega) (by omega) (by omega)) (by omega) k1 (fun _ => rfl) (ev71411) (by omega) (by omega) (by omega)) (by omega) k1 (fun _ => rfl) (ev71449) (by omega) (by omega) (by omega)) k1 (fun _ => rfl) rfl) hb71383 (by omega))) (by decide) (by decide) (fun w71452 h71452 q71452 => ?_)
                    obtain ⟨q71452, ad71452, ro71452⟩ := q71452
                    obtain ⟨v71453, rfl, lv71453, uv71453, g71452, kk71452⟩ := q71452
                    have ad71452 := ad71452 _ rfl
                    obtain ⟨m71454, em71454, lm71454, um71454, pm71452⟩ := ro71452 _ rfl
                    have k71452 := k1.tr kk71452 (by decide)
                    show jEv _ _ _ _ _ _ _ (_, [(2, 42), (0, a1), (0, a2), (0, a3), (0, 1), (0, (x5 + 2)), (0, (-1)), (0, x7), (0, (10 * v71392 + v71411 - 528)), (0, 2)], [(0, v71453)], _, _, _)
                    refine ev_istore (L' := [(2, 42), (0, a1), (0, a2), (0, a3), (0, 1), (0, v71453), (0, (-1)), (0, x7), (0, (10 * v71392 + v71411 - 528)), (0, 2)]) (Nat.le_of_ble_eq_true rfl) rfl ?_
                    refine ev_iload rfl ?_
                    refine ev_ifge f270_148 (fun c71455 => ?_) (fun c71455 => ?_)
                    · refine ev_iinc (w := (x7 + 1)) (L' := [(2, 42), (0, a1), (0, a2), (0, a3), (0, 1), (0, v71453), (0, (-1)), (0, (x7 + 1)), (0, (10 * v71392 + v71411 - 528)), (0, 2)]) rfl (by unfold w32; omega) rfl ?_
                      refine ev_aload_n rfl ?_
                      refine ev_iload rfl ?_
                      refine ev_in (d := (d + 1)) (a := 0) (b := 0) (cd' := c264_0) (m := 2) (L0 := [(2, 42), (0, v71453)]) (jcall_v (A := [(0, v71453)]) (S' := []) (r := 42) rfl (g71452.lt ad42) (g71452.tg ad42) (Nat.le_of_ble_eq_true rfl)) (by decide) ml264 pp264 (Nat.le_of_ble_eq_true rfl) rfl (by decide) (by decide) ?_
                      refine ev_iload_n rfl ?_
                      refine ev_aload_n rfl ?_
                      refine g_getv (r := 42) (v := v71386) g71452 ad42 (by decide) ft12_17 (((kk71452.v (by decide)).trans ev71386)) ?_
                      refine ev_icmpge f264_17 (fun c71456 => ?_) (fun c71456 => ?_)
                      · refine ev_iconst ?_
                        refine ev_ret rfl (by decide) (by decide) ?_
                        show jEv _ _ _ _ _ _ _ (_, [(2, 42), (0, a1), (0, a2), (0, a3), (0, 1), (0, v71453), (0, (-1)), (0, (x7 + 1)), (0, (10 * v71392 + v71411 - 528)), (0, 2)], [(0, (-1))], _, _, _)
                        refine ev_bipush ?_
                        refine ev_icmpne f270_165 (fun c71457 => ?_) (fun c71457 => absurd c71457 (by omega))
                        refine ev_aload_n rfl ?_
                        refine ev_iload rfl ?_
                        refine ev_in (d := (d + 1)) (a := 0) (b := 0) (cd' := c264_0) (m := 2) (L0 := [(2, 42), (0, v71453)]) (jcall_v (A := [(0, v71453)]) (S' := []) (r := 42) rfl (g71452.lt ad42) (g71452.tg ad42) (Nat.le_of_ble_eq_true rfl)) (by decide) ml264 pp264 (Nat.le_of_ble_eq_true rfl) rfl (by decide) (by decide) ?_
                        refine ev_iload_n rfl ?_
                        refine ev_aload_n rfl ?_
                        refine g_getv (r := 42) (v := v71386) g71452 ad42 (by decide) ft12_17 (((kk71452.v (by decide)).trans ev71386)) ?_
                        refine ev_icmpge f264_17 (fun c71458 => ?_) (fun c71458 => absurd c71458 (by omega))
                        refine ev_iconst ?_
                        refine ev_ret rfl (by decide) (by decide) ?_
                        show jEv _ _ _ _ _ _ _ (_, [(2, 42), (0, a1), (0, a2), (0, a3), (0, 1), (0, v71453), (0, (-1)), (0, (x7 + 1)), (0, (10 * v71392 + v71411 - 528)), (0, 2)], [(0, (-1))], _, _, _)
                        refine ev_bipush ?_
                        refine ev_icmpne f270_182 (fun c71459 => ?_) (fun c71459 => absurd c71459 (by omega))
                        refine ev_aload_n rfl ?_
                        refine ev_iload rfl ?_
                        refine ev_in (d := (d + 1)) (a := 0) (b := 0) (cd' := c266_0) (m := 2) (L0 := [(2, 42), (0, v71453)]) (jcall_v (A := [(0, v71453)]) (S' := []) (r := 42) rfl (g71452.lt ad42) (g71452.tg ad42) (Nat.le_of_ble_eq_true rfl)) (by decide) ml266 pp266 (Nat.le_of_ble_eq_true rfl) rfl (by decide) (by decide) ?_
                        refine ev_aload_n rfl ?_
                        refine ev_iload_n rfl ?_
                        refine g_putf (r := 42) g71452 ad42 (by decide) ft12_20 (by decide) (fun e => absurd e nz12_20) rf42_20 (by decide) (by omega) (by omega) (fun h71460 e71460 g71460 => ?_)
                        have k71460 := k71452.wr e71460 rfl
                        refine ev_iconst ?_
                        refine ev_ret rfl (by decide) (by decide) ?_
                        show jEv _ _ _ _ _ _ _ (_, [(2, 42), (0, a1), (0, a2), (0, a3), (0, 1), (0, v71453), (0, (-1)), (0, (x7 + 1)), (0, (10 * v71392 + v71411 - 528)), (0, 2)], [(0, (-1))], _, _, _)
                        exact ev_ret rfl (by decide) (by decide) ⟨⟨_, rfl, by omega, by omega, g71460, k71460⟩, fun r hr h0 => by cases hr; exfalso; omega, fun r hr => by cases hr; exact ⟨_, (((jw_ne e71460 (Or.inr (by decide))).trans em71454)), by omega, by omega, fun h0 => by exfalso; omega⟩⟩
                      · refine ev_aload_n rfl ?_
                        refine g_getp (r := 42) (c := 54) g71452 ad42 (by decide) (by decide) rf42_16 ft12_16 ?_
                        refine ev_iload_n rfl ?_
                        refine g_bald g71452 ad54 rt54 (by omega) (by omega) (fun v71461 ev71461 lv71461 uv71461 => ?_)
                        refine ev_goto f264_18 ?_
                        refine ev_ret rfl (by decide) (by decide) ?_
                        show jEv _ _ _ _ _ _ _ (_, [(2, 42), (0, a1), (0, a2), (0, a3), (0, 1), (0, v71453), (0, (-1)), (0, (x7 + 1)), (0, (10 * v71392 + v71411 - 528)), (0, 2)], [(0, v71461)], _, _, _)
                        refine ev_bipush ?_
                        refine ev_icmpne f270_165 (fun c71462 => ?_) (fun c71462 => ?_)
                        · refine ev_aload_n rfl ?_
                          refine ev_iload rfl ?_
                          refine ev_in (d := (d + 1)) (a := 0) (b := 0) (cd' := c264_0) (m := 2) (L0 := [(2, 42), (0, v71453)]) (jcall_v (A := [(0, v71453)]) (S' := []) (r := 42) rfl (g71452.lt ad42) (g71452.tg ad42) (Nat.le_of_ble_eq_true rfl)) (by decide) ml264 pp264 (Nat.le_of_ble_eq_true rfl) rfl (by decide) (by decide) ?_
                          refine ev_iload_n rfl ?_
                          refine ev_aload_n rfl ?_
                          refine g_getv (r := 42) (v := v71386) g71452 ad42 (by decide) ft12_17 (((kk71452.v (by decide)).trans ev71386)) ?_
                          refine ev_icmpge f264_17 (fun c71463 => absurd c71463 (by omega)) (fun c71463 => ?_)
                          refine ev_aload_n rfl ?_
                          refine g_getp (r := 42) (c := 54) g71452 ad42 (by decide) (by decide) rf42_16 ft12_16 ?_
                          refine ev_iload_n rfl ?_
                          refine g_baldv (v := v71461) g71452 ad54 (by omega) (by omega) (ev71461) ?_
                          refine ev_goto f264_18 ?_
                          refine ev_ret rfl (by decide) (by decide) ?_
                          show jEv _ _ _ _ _ _ _ (_, [(2, 42), (0, a1), (0, a2), (0, a3), (0, 1), (0, v71453), (0, (-1)), (0, (x7 + 1)), (0, (10 * v71392 + v71411 - 528)), (0, 2)], [(0, v71461)], _, _, _)
                          refine ev_bipush ?_
                          refine ev_icmpne f270_182 (fun c71464 => ?_) (fun c71464 => ?_)
                          · refine ev_aload_n rfl ?_
                            refine ev_iload rfl ?_
                            refine ev_in (d := (d + 1)) (a := 0) (b := 0) (cd' := c266_0) (m := 2) (L0 := [(2, 42), (0, v71453)]) (jcall_v (A := [(0, v71453)]) (S' := []) (r := 42) rfl (g71452.lt ad42) (g71452.tg ad42) (Nat.le_of_ble_eq_true rfl)) (by decide) ml266 pp266 (Nat.le_of_ble_eq_true rfl) rfl (by decide) (by decide) ?_
                            refine ev_aload_n rfl ?_
                            refine ev_iload_n rfl ?_
                            refine g_putf (r := 42) g71452 ad42 (by decide) ft12_20 (by decide) (fun e => absurd e nz12_20) rf42_20 (by decide) (by omega) (by omega) (fun h71465 e71465 g71465 => ?_)
                            have k71465 := k71452.wr e71465 rfl
                            refine ev_iconst ?_
                            refine ev_ret rfl (by decide) (by decide) ?_
                            show jEv _ _ _ _ _ _ _ (_, [(2, 42), (0, a1), (0, a2), (0, a3), (0, 1), (0, v71453), (0, (-1)), (0, (x7 + 1)), (0, (10 * v71392 + v71411 - 528)), (0, 2)], [(0, (-1))], _, _, _)
                            exact ev_ret rfl (by decide) (by decide) ⟨⟨_, rfl, by omega, by omega, g71465, k71465⟩, fun r hr h0 => by cases hr; exfalso; omega, fun r hr => by cases hr; exact ⟨_, (((jw_ne e71465 (Or.inr (by decide))).trans em71454)), by omega, by omega, fun h0 => by exfalso; omega⟩⟩
                          · refine ev_iload rfl ?_
                            refine ev_iconst ?_
                            refine ev_icmpne f270_189 (fun c71466 => ?_) (fun c71466 => ?_)
                            · refine ev_iinc (w := (v71453 + 1)) (L' := [(2, 42), (0, a1), (0, a2), (0, a3), (0, 1), (0, (v71453 + 1)), (0, (-1)), (0, (x7 + 1)), (0, (10 * v71392 + v71411 - 528)), (0, 2)]) rfl (by unfold w32; omega) rfl ?_
                              refine ev_goto f270_45 ?_
                              exact ih _ _ _ _ _ _ g71452 k71452 (by omega) (by omega) (by omega) (by omega) (by omega) (by omega) (by omega) (by omega) (by omega) (by omega) (by omega) (em71454) (by omega) (by omega) (Ad.step (r' := (v71453 + 1)) (Ad.tr (Ad.step (r' := (x5 + 3)) (Ad.step (r' := (x5 + 2)) (Ad.step (r' := (x5 + 1)) H0 (by omega) k1 (fun _ => rfl) (ev71392) (by omega) (by omega) (by omega)) (by omega) k1 (fun _ => rfl) (ev71411) (by omega) (by omega) (by omega)) (by omega) k1 (fun _ => rfl) (ev71449) (by omega) (by omega) (by omega)) k1 (fun _ => rfl) (ad71452 (by omega))) (by omega) k71452 (fun _ => rfl) (ev71461) (by omega) (by omega) (by omega)) (Mb.step H1 eb71383 um71454 (by omega)) (by omega)
                            · refine ev_aload_n rfl ?_
                              refine ev_iload rfl ?_
                              refine ev_in (d := (d + 1)) (a := 0) (b := 0) (cd' := c266_0) (m := 2) (L0 := [(2, 42), (0, v71453)]) (jcall_v (A := [(0, v71453)]) (S' := []) (r := 42) rfl (g71452.lt ad42) (g71452.tg ad42) (Nat.le_of_ble_eq_true rfl)) (by decide) ml266 pp266 (Nat.le_of_ble_eq_true rfl) rfl (by decide) (by decide) ?_
                              refine ev_aload_n rfl ?_
                              refine ev_iload_n rfl ?_
                              refine g_putf (r := 42) g71452 ad42 (by decide) ft12_20 (by decide) (fun e => absurd e nz12_20) rf42_20 (by decide) (by omega) (by omega) (fun h71467 e71467 g71467 => ?_)
                              have k71467 := k71452.wr e71467 rfl
                              refine ev_iconst ?_
                              refine ev_ret rfl (by decide) (by decide) ?_
                              show jEv _ _ _ _ _ _ _ (_, [(2, 42), (0, a1), (0, a2), (0, a3), (0, 1), (0, v71453), (0, (-1)), (0, (x7 + 1)), (0, (10 * v71392 + v71411 - 528)), (0, 2)], [(0, (-1))], _, _, _)
                              exact ev_ret rfl (by decide) (by decide) ⟨⟨_, rfl, by omega, by omega, g71467, k71467⟩, fun r hr h0 => by cases hr; exfalso; omega, fun r hr => by cases hr; exact ⟨_, (((jw_ne e71467 (Or.inr (by decide))).trans em71454)), by omega, by omega, fun h0 => by exfalso; omega⟩⟩
                        · refine ev_goto f270_195 ?_
                          refine ev_iload rfl ?_
                          refine ev_iflt f270_209 (fun c71468 => ?_) (fun c71468 => absurd c71468 (by omega))
                          refine ev_iload rfl ?_
                          refine ev_iconst ?_
                          refine ev_iadd (r := (v71453 + 1)) (by unfold w32; omega) ?_
                          exact ev_ret rfl (by decide) (by decide) ⟨⟨_, rfl, by omega, by omega, g71452, k71452⟩, fun r hr h0 => by cases hr; exact (Ad.step (r' := (v71453 + 1)) (Ad.tr (Ad.step (r' := (x5 + 3)) (Ad.step (r' := (x5 + 2)) (Ad.step (r' := (x5 + 1)) H0 (by omega) k1 (fun _ => rfl) (ev71392) (by omega) (by omega) (by omega)) (by omega) k1 (fun _ => rfl) (ev71411) (by omega) (by omega) (by omega)) (by omega) k1 (fun _ => rfl) (ev71449) (by omega) (by omega) (by omega)) k1 (fun _ => rfl) (ad71452 (by omega))) (by omega) k71452 (fun _ => rfl) (ev71461) (by omega) (by omega) (by omega)), fun r hr => by cases hr; exact ⟨_, (em71454), by omega, by omega, fun h0 => by have := pm71452 (by omega); omega⟩⟩
                    · refine ev_iconst ?_
                      exact ev_ret rfl (by decide) (by decide) ⟨⟨_, rfl, by omega, by omega, g71452, k71452⟩, fun r hr h0 => by cases hr; exfalso; omega, fun r hr => by cases hr; exact ⟨_, (em71454), by omega, by omega, fun h0 => by exfalso; omega⟩⟩
                  · refine ev_aload_n rfl ?_
                    refine ev_iload rfl ?_
                    refine ev_in (d := (d + 1)) (a := 0) (b := 0) (cd' := c266_0) (m := 2) (L0 := [(2, 42), (0, (x5 + 2))]) (jcall_v (A := [(0, (x5 + 2))]) (S' := []) (r := 42) rfl (g1.lt ad42) (g1.tg ad42) (Nat.le_of_ble_eq_true rfl)) (by decide) ml266 pp266 (Nat.le_of_ble_eq_true rfl) rfl (by decide) (by decide) ?_
                    refine ev_aload_n rfl ?_
                    refine ev_iload_n rfl ?_
                    refine g_putf (r := 42) g1 ad42 (by decide) ft12_20 (by decide) (fun e => absurd e nz12_20) rf42_20 (by decide) (by omega) (by omega) (fun h71469 e71469 g71469 => ?_)
                    have k71469 := k1.wr e71469 rfl
                    refine ev_iconst ?_
                    refine ev_ret rfl (by decide) (by decide) ?_
                    show jEv _ _ _ _ _ _ _ (_, [(2, 42), (0, a1), (0, a2), (0, a3), (0, 1), (0, (x5 + 2)), (0, (-1)), (0, x7), (0, (10 * v71392 + v71411 - 528)), (0, 2)], [(0, (-1))], _, _, _)
                    exact ev_ret rfl (by decide) (by decide) ⟨⟨_, rfl, by omega, by omega, g71469, k71469⟩, fun r hr h0 => by cases hr; exfalso; omega, fun r hr => by cases hr; exact ⟨_, (((jw_ne e71469 (Or.inr (by decide))).trans ey0)), by omega, by omega, fun h0 => by exfalso; omega⟩⟩
set_option maxHeartbeats 4000000 in
theorem s270o_s {G : GH} {h : JH} (g : Gd G h) {l0 : Int} (ll0 : 0 ≤ l0) (ul0 : l0 ≤ 6) {b0 : Int} (lb0 : 1 ≤ b0) (ub0 : b0 ≤ 30000000) {a1 : Int} (la1 : 0 ≤ a1) (ua1 : a1 ≤ 202) {a2 : Int} (la2 : 0 ≤ a2) (ua2 : a2 ≤ 15) {a3 : Int} (la3 : 0 ≤ a3) (ua3 : a3 ≤ 12) {w0 : Int} (ew0 : h.2.2 42 21 = w0) (lw0 : 100 ≤ w0) (uw0 : w0 ≤ 200000000) (F0 : (b0 + w0) ≤ 200000000) (hI : Iv h) (hL : Lv h l0 a1) (hb : NB a3 = b0) (hq : h.2.2 54 (a1).toNat = 63) {M : Int} (hM : M = (7 * a3 - l0)) {d : Nat} (hd : 0 ≤ d) (rih : ∀ {G : GH} {h : JH} (g : Gd G h) {l0 : Int} (ll0 : 0 ≤ l0) (ul0 : l0 ≤ 6) {b0 : Int} (lb0 : 1 ≤ b0) (ub0 : b0 ≤ 30000000) {a1 : Int} (la1 : 0 ≤ a1) (ua1 : a1 ≤ 202) {a2 : Int} (la2 : 0 ≤ a2) (ua2 : a2 ≤ 15) {a3 : Int} (la3 : 0 ≤ a3) (ua3 : a3 ≤ 12) {w0 : Int} (ew0 : h.2.2 42 21 = w0) (lw0 : 100 ≤ w0) (uw0 : w0 ≤ 200000000) (F0 : (b0 + w0) ≤ 200000000) (hI : Iv h) (hL : Lv h l0 a1) (hb : NB a3 = b0) (hm : M + 1 ≤ (7 * a3 - l0)), jOk d 0 0 272 [(2, 42), (0, a1), (0, a2), (0, a3), (0, 1)] h (fun v h' => PI G [(42, 21), (42, 22)] h 0 (-1) 200 v h' ∧ (∀ r, v = some (0, r) → 0 ≤ r → Ad h l0 a1 r) ∧ (∀ r, v = some (0, r) → RO h' w0 b0 r))) : jOk (d + 3) 0 0 270 [(2, 42), (0, a1), (0, a2), (0, a3), (0, 1)] h (fun v h' => PI G [(42, 21), (42, 22)] h 0 (-1) 200 v h' ∧ (∀ r, v = some (0, r) → 0 ≤ r → Ad h l0 a1 r) ∧ (∀ r, v = some (0, r) → RO h' w0 b0 r)) := by
  refine ⟨by decide, by rw [ml270]; exact Nat.le_of_ble_eq_true rfl, ?_⟩
  rw [ml270, pp270]
  show jEv _ none _ c270_0 0 0 _ (c270_0, [(2, 42), (0, a1), (0, a2), (0, a3), (0, 1), (9, 0), (9, 0), (9, 0), (9, 0), (9, 0)], [], h, 0, 0)
  have k0 := Kp.rf [(42, 21), (42, 22)] h
  refine ev_iload_n rfl ?_
  refine ev_iconst ?_
  refine ev_iadd (r := (a1 + 1)) (by unfold w32; omega) ?_
  refine ev_istore (L' := [(2, 42), (0, a1), (0, a2), (0, a3), (0, 1), (0, (a1 + 1)), (9, 0), (9, 0), (9, 0), (9, 0)]) (Nat.le_of_ble_eq_true rfl) rfl ?_
  refine ev_aload_n rfl ?_
  refine ev_iload rfl ?_
  refine ev_in (d := (d + 1)) (a := 0) (b := 0) (cd' := c264_0) (m := 2) (L0 := [(2, 42), (0, (a1 + 1))]) (jcall_v (A := [(0, (a1 + 1))]) (S' := []) (r := 42) rfl (g.lt ad42) (g.tg ad42) (Nat.le_of_ble_eq_true rfl)) (by decide) ml264 pp264 (Nat.le_of_ble_eq_true rfl) rfl (by decide) (by decide) ?_
  refine ev_iload_n rfl ?_
  refine ev_aload_n rfl ?_
  obtain ⟨v71470, ev71470, lv71470, uv71470⟩ := g.rd ad42 (show 17 < 66 by decide) rf42_17
  refine g_getv (r := 42) (v := v71470) g ad42 (by decide) ft12_17 ev71470 ?_
  refine ev_icmpge f264_17 (fun c71471 => ?_) (fun c71471 => ?_)
  · refine ev_iconst ?_
    refine ev_ret rfl (by decide) (by decide) ?_
    show jEv _ _ _ _ _ _ _ (_, [(2, 42), (0, a1), (0, a2), (0, a3), (0, 1), (0, (a1 + 1)), (9, 0), (9, 0), (9, 0), (9, 0)], [(0, (-1))], _, _, _)
    refine ev_bipush ?_
    refine ev_icmpne f270_22 (fun c71472 => ?_) (fun c71472 => absurd c71472 (by omega))
    refine ev_aload_n rfl ?_
    refine ev_iload rfl ?_
    refine ev_in (d := (d + 1)) (a := 0) (b := 0) (cd' := c266_0) (m := 2) (L0 := [(2, 42), (0, (a1 + 1))]) (jcall_v (A := [(0, (a1 + 1))]) (S' := []) (r := 42) rfl (g.lt ad42) (g.tg ad42) (Nat.le_of_ble_eq_true rfl)) (by decide) ml266 pp266 (Nat.le_of_ble_eq_true rfl) rfl (by decide) (by decide) ?_
    refine ev_aload_n rfl ?_
    refine ev_iload_n rfl ?_
    refine g_putf (r := 42) g ad42 (by decide) ft12_20 (by decide) (fun e => absurd e nz12_20) rf42_20 (by decide) (by omega) (by omega) (fun h71473 e71473 g71473 => ?_)
    have k71473 := k0.wr e71473 rfl
    refine ev_iconst ?_
    refine ev_ret rfl (by decide) (by decide) ?_
    show jEv _ _ _ _ _ _ _ (_, [(2, 42), (0, a1), (0, a2), (0, a3), (0, 1), (0, (a1 + 1)), (9, 0), (9, 0), (9, 0), (9, 0)], [(0, (-1))], _, _, _)
    exact ev_ret rfl (by decide) (by decide) ⟨⟨_, rfl, by omega, by omega, g71473, k71473⟩, fun r hr h0 => by cases hr; exfalso; omega, fun r hr => by cases hr; exact ⟨_, (((jw_ne e71473 (Or.inr (by decide))).trans ew0)), by omega, by omega, fun h0 => by exfalso; omega⟩⟩
  · refine ev_aload_n rfl ?_
    refine g_getp (r := 42) (c := 54) g ad42 (by decide) (by decide) rf42_16 ft12_16 ?_
    refine ev_iload_n rfl ?_
    refine g_bald g ad54 rt54 (by omega) (by omega) (fun v71474 ev71474 lv71474 uv71474 => ?_)
    refine ev_goto f264_18 ?_
    refine ev_ret rfl (by decide) (by decide) ?_
    show jEv _ _ _ _ _ _ _ (_, [(2, 42), (0, a1), (0, a2), (0, a3), (0, 1), (0, (a1 + 1)), (9, 0), (9, 0), (9, 0), (9, 0)], [(0, v71474)], _, _, _)
    refine ev_bipush ?_
    refine ev_icmpne f270_22 (fun c71475 => ?_) (fun c71475 => ?_)
    · refine ev_aload_n rfl ?_
      refine ev_iload rfl ?_
      refine ev_in (d := (d + 1)) (a := 0) (b := 0) (cd' := c266_0) (m := 2) (L0 := [(2, 42), (0, (a1 + 1))]) (jcall_v (A := [(0, (a1 + 1))]) (S' := []) (r := 42) rfl (g.lt ad42) (g.tg ad42) (Nat.le_of_ble_eq_true rfl)) (by decide) ml266 pp266 (Nat.le_of_ble_eq_true rfl) rfl (by decide) (by decide) ?_
      refine ev_aload_n rfl ?_
      refine ev_iload_n rfl ?_
      refine g_putf (r := 42) g ad42 (by decide) ft12_20 (by decide) (fun e => absurd e nz12_20) rf42_20 (by decide) (by omega) (by omega) (fun h71476 e71476 g71476 => ?_)
      have k71476 := k0.wr e71476 rfl
      refine ev_iconst ?_
      refine ev_ret rfl (by decide) (by decide) ?_
      show jEv _ _ _ _ _ _ _ (_, [(2, 42), (0, a1), (0, a2), (0, a3), (0, 1), (0, (a1 + 1)), (9, 0), (9, 0), (9, 0), (9, 0)], [(0, (-1))], _, _, _)
      exact ev_ret rfl (by decide) (by decide) ⟨⟨_, rfl, by omega, by omega, g71476, k71476⟩, fun r hr h0 => by cases hr; exfalso; omega, fun r hr => by cases hr; exact ⟨_, (((jw_ne e71476 (Or.inr (by decide))).trans ew0)), by omega, by omega, fun h0 => by exfalso; omega⟩⟩
    · refine ev_iload_n rfl ?_
      refine ev_bipush ?_
      refine ev_icmpne f270_29 (fun c71477 => ?_) (fun c71477 => ?_)
      · refine ev_aload_n rfl ?_
        refine ev_iload rfl ?_
        refine ev_iconst ?_
        refine ev_iconst ?_
        refine ev_in (d := (d + 1)) (a := 0) (b := 0) (cd' := c267_0) (m := 6) (L0 := [(2, 42), (0, 1), (0, 1), (0, 0), (9, 0), (9, 0)]) (jcall_v (A := [(0, 0), (0, 1), (0, 1)]) (S' := []) (r := 42) rfl (g.lt ad42) (g.tg ad42) (Nat.le_of_ble_eq_true rfl)) (by decide) ml267 pp267 (Nat.le_of_ble_eq_true rfl) rfl (by decide) (by decide) ?_
        refine ev_iload_n rfl ?_
        refine ev_ifne f267_6 (fun c71478 => ?_) (fun c71478 => absurd c71478 (by omega))
        refine ev_aload_n rfl ?_
        refine ev_dup (by decide) ?_
        refine g_getv (r := 42) (v := w0) g ad42 (by decide) ft12_21 (ew0) ?_
        refine ev_iconst ?_
        refine ev_iadd (r := (w0 + 1)) (by unfold w32; omega) ?_
        refine g_putf (r := 42) g ad42 (by decide) ft12_21 (by decide) (fun e => absurd e nz12_21) rf42_21 (by decide) (by omega) (by omega) (fun h71479 e71479 g71479 => ?_)
        have k71479 := k0.wr e71479 rfl
        refine ev_aload_n rfl ?_
        refine g_getv (r := 42) (v := (w0 + 1)) g71479 ad42 (by decide) ft12_21 ((jw_eq e71479)) ?_
        refine ev_bipush ?_
        refine ev_icmple f267_27 (fun c71480 => absurd c71480 (by omega)) (fun c71480 => ?_)
        refine ev_iconst ?_
        refine ev_ret rfl (by decide) (by decide) ?_
        show jEv _ _ _ _ _ _ _ (_, [(2, 42), (0, a1), (0, a2), (0, a3), (0, 1), (0, (a1 + 1)), (9, 0), (9, 0), (9, 0), (9, 0)], [(0, (-1))], _, _, _)
        refine ev_istore (L' := [(2, 42), (0, a1), (0, a2), (0, a3), (0, 1), (0, (a1 + 1)), (0, (-1)), (9, 0), (9, 0), (9, 0)]) (Nat.le_of_ble_eq_true rfl) rfl ?_
        refine ev_iconst ?_
        refine ev_istore (L' := [(2, 42), (0, a1), (0, a2), (0, a3), (0, 1), (0, (a1 + 1)), (0, (-1)), (0, 0), (9, 0), (9, 0)]) (Nat.le_of_ble_eq_true rfl) rfl ?_
        refine ev_iinc (w := (a1 + 2)) (L' := [(2, 42), (0, a1), (0, a2), (0, a3), (0, 1), (0, (a1 + 2)), (0, (-1)), (0, 0), (9, 0), (9, 0)]) rfl (by unfold w32; omega) rfl ?_
        exact (s270o_s_l ll0 ul0 lb0 ub0 la1 ua1 la2 ua2 la3 ua3 ew0 lw0 uw0 F0 hI hL hb hq hM hd rih 8) _ _ _ _ _ _ g71479 k71479 (by omega) (by omega) (by omega) (by omega) (by omega) (by omega) (by omega) (by omega) (by omega) (by omega) (by omega) ((jw_eq e71479)) (by omega) (by omega) (Ad.step (r' := (a1 + 2)) (Ad.step (r' := (a1 + 1)) (Ad.rf _ _ _) (by omega) k71479 (fun _ => rfl) (((jw_ne e71479 (Or.inl (by decide))).trans hq)) (by omega) (by omega) (by omega)) (by omega) k71479 (fun _ => rfl) (((jw_ne e71479 (Or.inl (by decide))).trans ev71474)) (by omega) (by omega) (by omega)) (Mb.start _ _ (by omega)) (by omega)
      · refine ev_aload_n rfl ?_
        refine ev_iload rfl ?_
        refine ev_in (d := (d + 1)) (a := 0) (b := 0) (cd' := c266_0) (m := 2) (L0 := [(2, 42), (0, (a1 + 1))]) (jcall_v (A := [(0, (a1 + 1))]) (S' := []) (r := 42) rfl (g.lt ad42) (g.tg ad42) (Nat.le_of_ble_eq_true rfl)) (by decide) ml266 pp266 (Nat.le_of_ble_eq_true rfl) rfl (by decide) (by decide) ?_
        refine ev_aload_n rfl ?_
        refine ev_iload_n rfl ?_
        refine g_putf (r := 42) g ad42 (by decide) ft12_20 (by decide) (fun e => absurd e nz12_20) rf42_20 (by decide) (by omega) (by omega) (fun h71481 e71481 g71481 => ?_)
        have k71481 := k0.wr e71481 rfl
        refine ev_iconst ?_
        refine ev_ret rfl (by decide) (by decide) ?_
        show jEv _ _ _ _ _ _ _ (_, [(2, 42), (0, a1), (0, a2), (0, a3), (0, 1), (0, (a1 + 1)), (9, 0), (9, 0), (9, 0), (9, 0)], [(0, (-1))], _, _, _)
        exact ev_ret rfl (by decide) (by decide) ⟨⟨_, rfl, by omega, by omega, g71481, k71481⟩, fun r hr h0 => by cases hr; exfalso; omega, fun r hr => by cases hr; exact ⟨_, (((jw_ne e71481 (Or.inr (by decide))).trans ew0)), by omega, by omega, fun h0 => by exfalso; omega⟩⟩
set_option maxHeartbeats 4000000 in
theorem s271o_s_l {G : GH} {h : JH} {l0 : Int} (ll0 : 0 ≤ l0) (ul0 : l0 ≤ 6) {b0 : Int} (lb0 : 1 ≤ b0) (ub0 : b0 ≤ 30000000) {a1 : Int} (la1 : 0 ≤ a1) (ua1 : a1 ≤ 202) {a2 : Int} (la2 : 0 ≤ a2) (ua2 : a2 ≤ 15) {a3 : Int} (la3 : 0 ≤ a3) (ua3 : a3 ≤ 12) {w0 : Int} (ew0 : h.2.2 42 21 = w0) (lw0 : 100 ≤ w0) (uw0 : w0 ≤ 200000000) (F0 : (b0 + w0) ≤ 200000000) (hI : Iv h) (hL : Lv h l0 a1) (hb : NB a3 = b0) (hq : h.2.2 54 (a1).toNat = 33) {M : Int} (hM : M = (7 * a3 - l0)) {d : Nat} (hd : 0 ≤ d) (rih : ∀ {G : GH} {h : JH} (g : Gd G h) {l0 : Int} (ll0 : 0 ≤ l0) (ul0 : l0 ≤ 6) {b0 : Int} (lb0 : 1 ≤ b0) (ub0 : b0 ≤ 30000000) {a1 : Int} (la1 : 0 ≤ a1) (ua1 : a1 ≤ 202) {a2 : Int} (la2 : 0 ≤ a2) (ua2 : a2 ≤ 15) {a3 : Int} (la3 : 0 ≤ a3) (ua3 : a3 ≤ 12) {w0 : Int} (ew0 : h.2.2 42 21 = w0) (lw0 : 100 ≤ w0) (uw0 : w0 ≤ 200000000) (F0 : (b0 + w0) ≤ 200000000) (hI : Iv h) (hL : Lv h l0 a1) (hb : NB a3 = b0) (hm : M + 1 ≤ (7 * a3 - l0)), jOk d 0 0 272 [(2, 42), (0, a1), (0, a2), (0, a3), (0, 1)] h (fun v h' => PI G [(42, 21), (42, 22)] h 0 (-1) 200 v h' ∧ (∀ r, v = some (0, r) → 0 ≤ r → Ad h l0 a1 r) ∧ (∀ r, v = some (0, r) → RO h' w0 b0 r))) : ∀ N : Nat, (∀ (h1 : JH) (x5 x6 x8 y0 y1 y2 : Int), Gd G h1 → Kp [(42, 21), (42, 22)] h h1 → 0 ≤ a1 → a1 ≤ 197 → 0 ≤ a2 → a2 ≤ 15 → 0 ≤ a3 → a3 ≤ 11 → 0 ≤ x5 → x5 ≤ 3 → 1 ≤ x6 → x6 ≤ 200 → 0 ≤ x8 → x8 ≤ 3 → (w0 + (-y0)) ≤ (-1) → (x5 + (-y1)) ≤ (-1) → (x8 + (-y2)) ≤ 0 → h1.2.2 42 21 = y0 → 101 ≤ y0 → y0 ≤ 200000000 → h1.2.2 42 1 = y1 → 0 ≤ y1 → y1 ≤ 4 → h1.2.2 43 (x5).toNat = y2 → 2 ≤ y2 → y2 ≤ 3 → Ad h l0 a1 x6 → Mb w0 b0 x8 y0 → ((-x8) + 3) < N → jEv (jOk (d + 2)) none (fun _ => 0) c271_0 0 0 (fun v h' => PI G [(42, 21), (42, 22)] h 0 (-1) 200 v h' ∧ (∀ r, v = some (0, r) → 0 ≤ r → Ad h l0 a1 r) ∧ (∀ r, v = some (0, r) → RO h' w0 b0 r)) (c271_85, [(2, 42), (0, a1), (0, a2), (0, a3), (0, 1), (0, x5), (0, x6), (0, (-1)), (0, x8)], [], h1, 0, 0)) := by
  intro N
  induction N with
  | zero => exact fun h1 x5 x6 x8 y0 y1 y2 g1 k1 b0 b1 b2 b3 b4 b5 b6 b7 b8 b9 b10 b11 b12 b13 b14 b15 b16 b17 b18 b19 b20 b21 b22 b23 b24 b25 hm => absurd hm (by omega)
  | succ N ih =>
    show _
    intro h1 x5 x6 x8 y0 y1 y2 g1 k1 b0 b1 b2 b3 b4 b5 b6 b7 b8 b9 b10 b11 b12 b13 b14 ey0 ly0 uy0 ey1 ly1 uy1 ey2 ly2 uy2 H0 H1 hm
    obtain ⟨b71656, hb71655, eb71655, lb71655⟩ := NB.split hb (by omega)
    have rm71655 := Mb.room H1 (by omega) eb71655 lb71655
    refine ev_iload rfl ?_
    refine ev_aload_n rfl ?_
    refine g_getp (r := 42) (c := 43) g1 ad42 (by decide) (by decide) rf42_2 ft12_2 ?_
    refine ev_iload rfl ?_
    refine g_ialdv (v := y2) g1 ad43 (by omega) (by omega) (ey2) ?_
    refine ev_icmpge f271_178 (fun c71657 => ?_) (fun c71657 => ?_)
    · refine ev_iload rfl ?_
      exact ev_ret rfl (by decide) (by decide) ⟨⟨_, rfl, by omega, by omega, g1, k1⟩, fun r hr h0 => by cases hr; exact H0, fun r hr => by cases hr; exact ⟨_, (ey0), by omega, by omega, fun h0 => by omega⟩⟩
    · refine ev_aload_n rfl ?_
      refine ev_iload rfl ?_
      refine ev_iload rfl ?_
      refine ev_iconst ?_
      refine ev_in (d := (d + 1)) (a := 0) (b := 0) (cd' := c268_0) (m := 4) (L0 := [(2, 42), (0, (-1)), (0, x8), (0, 0)]) (jcall_v (A := [(0, 0), (0, x8), (0, (-1))]) (S' := []) (r := 42) rfl (g1.lt ad42) (g1.tg ad42) (Nat.le_of_ble_eq_true rfl)) (by decide) ml268 pp268 (Nat.le_of_ble_eq_true rfl) rfl (by decide) (by decide) ?_
      refine ev_iload_n rfl ?_
      refine ev_ifge f268_5 (fun c71658 => absurd c71658 (by omega)) (fun c71658 => ?_)
      refine ev_ret rfl (by decide) (by decide) ?_
      show jEv _ _ _ _ _ _ _ (_, [(2, 42), (0, a1), (0, a2), (0, a3), (0, 1), (0, x5), (0, x6), (0, (-1)), (0, x8)], [], _, _, _)
      refine ev_aload_n rfl ?_
      refine ev_iload rfl ?_
      refine ev_iload_n rfl ?_
      refine ev_iconst ?_
      refine ev_iload rfl ?_
      refine g_ishlB (a' := 1) (a := 1) (b := 3) (hi := 8) (by omega) (by omega) (by omega) (by omega) (by decide) (by decide) (fun v71659 ev71659 lv71659 uv71659 => ?_)
      refine g_iorB (k := 4) (hi := 15) (by decide) (by decide) (by omega) (by omega) (by omega) (by omega) (fun v71660 ev71660 lv71660 uv71660 => ?_)
      refine ev_iload_n rfl ?_
      refine ev_iconst ?_
      refine ev_iadd (r := (a3 + 1)) (by unfold w32; omega) ?_
      refine ev_iload rfl ?_
      refine ev_call (jcall_v (A := [(0, 1), (0, (a3 + 1)), (0, v71660), (0, x6)]) (S' := []) (r := 42) rfl (g1.lt ad42) (g1.tg ad42) (Nat.le_of_ble_eq_true rfl)) (jOk_le (by omega) (rih g1 (by omega) (by omega) (by omega) (by omega) (by omega) (by omega) (by omega) (by omega) (by omega) (by omega) (ey0) (by omega) (by omega) (l0 := l0) (b0 := b71656) (by omega) (Iv.kp hI k1 (fun _ => rfl) (fun _ => rfl) rfl) (Lv.at hL H0 k1 (fun _ => rfl) rfl) hb71655 (by omega))) (by decide) (by decide) (fun w71661 h71661 q71661 => ?_)
      obtain ⟨q71661, ad71661, ro71661⟩ := q71661
      obtain ⟨v71662, rfl, lv71662, uv71662, g71661, kk71661⟩ := q71661
      have ad71661 := ad71661 _ rfl
      obtain ⟨m71663, em71663, lm71663, um71663, pm71661⟩ := ro71661 _ rfl
      have k71661 := k1.tr kk71661 (by decide)
      show jEv _ _ _ _ _ _ _ (_, [(2, 42), (0, a1), (0, a2), (0, a3), (0, 1), (0, x5), (0, x6), (0, (-1)), (0, x8)], [(0, v71662)], _, _, _)
      refine ev_istore (L' := [(2, 42), (0, a1), (0, a2), (0, a3), (0, 1), (0, x5), (0, v71662), (0, (-1)), (0, x8)]) (Nat.le_of_ble_eq_true rfl) rfl ?_
      refine ev_iload rfl ?_
      refine ev_ifge f271_132 (fun c71664 => ?_) (fun c71664 => ?_)
      · refine ev_aload_n rfl ?_
        refine ev_iload rfl ?_
        refine ev_in (d := (d + 1)) (a := 0) (b := 0) (cd' := c264_0) (m := 2) (L0 := [(2, 42), (0, v71662)]) (jcall_v (A := [(0, v71662)]) (S' := []) (r := 42) rfl (g71661.lt ad42) (g71661.tg ad42) (Nat.le_of_ble_eq_true rfl)) (by decide) ml264 pp264 (Nat.le_of_ble_eq_true rfl) rfl (by decide) (by decide) ?_
        refine ev_iload_n rfl ?_
        refine ev_aload_n rfl ?_
        obtain ⟨v71665, ev71665, lv71665, uv71665⟩ := g71661.rd ad42 (show 17 < 66 by decide) rf42_17
        refine g_getv (r := 42) (v := v71665) g71661 ad42 (by decide) ft12_17 ev71665 ?_
        refine ev_icmpge f264_17 (fun c71666 => ?_) (fun c71666 => ?_)
        · refine ev_iconst ?_
          refine ev_ret rfl (by decide) (by decide) ?_
          show jEv _ _ _ _ _ _ _ (_, [(2, 42), (0, a1), (0, a2), (0, a3), (0, 1), (0, x5), (0, v71662), (0, (-1)), (0, x8)], [(0, (-1))], _, _, _)
          refine ev_iload rfl ?_
          refine ev_iconst ?_
          refine ev_iadd (r := (x8 + 1)) (by unfold w32; omega) ?_
          refine ev_aload_n rfl ?_
          refine g_getp (r := 42) (c := 43) g71661 ad42 (by decide) (by decide) rf42_2 ft12_2 ?_
          refine ev_iload rfl ?_
          refine g_ialdv (v := y2) g71661 ad43 (by omega) (by omega) (((kk71661.v rfl).trans ey2)) ?_
          refine ev_icmpge f271_157 (fun c71667 => ?_) (fun c71667 => ?_)
          · refine ev_bipush ?_
            refine ev_icmpeq f271_169 (fun c71668 => absurd c71668 (by omega)) (fun c71668 => ?_)
            refine ev_aload_n rfl ?_
            refine ev_iload rfl ?_
            refine ev_in (d := (d + 1)) (a := 0) (b := 0) (cd' := c266_0) (m := 2) (L0 := [(2, 42), (0, v71662)]) (jcall_v (A := [(0, v71662)]) (S' := []) (r := 42) rfl (g71661.lt ad42) (g71661.tg ad42) (Nat.le_of_ble_eq_true rfl)) (by decide) ml266 pp266 (Nat.le_of_ble_eq_true rfl) rfl (by decide) (by decide) ?_
            refine ev_aload_n rfl ?_
            refine ev_iload_n rfl ?_
            refine g_putf (r := 42) g71661 ad42 (by decide) ft12_20 (by decide) (fun e => absurd e nz12_20) rf42_20 (by decide) (by omega) (by omega) (fun h71669 e71669 g71669 => ?_)
            have k71669 := k71661.wr e71669 rfl
            refine ev_iconst ?_
            refine ev_ret rfl (by decide) (by decide) ?_
            show jEv _ _ _ _ _ _ _ (_, [(2, 42), (0, a1), (0, a2), (0, a3), (0, 1), (0, x5), (0, v71662), (0, (-1)), (0, x8)], [(0, (-1))], _, _, _)
            exact ev_ret rfl (by decide) (by decide) ⟨⟨_, rfl, by omega, by omega, g71669, k71669⟩, fun r hr h0 => by cases hr; exfalso; omega, fun r hr => by cases hr; exact ⟨_, (((jw_ne e71669 (Or.inr (by decide))).trans em71663)), by omega, by omega, fun h0 => by exfalso; omega⟩⟩
          · refine ev_bipush ?_
            refine ev_goto f271_159 ?_
            refine ev_icmpeq f271_169 (fun c71670 => absurd c71670 (by omega)) (fun c71670 => ?_)
            refine ev_aload_n rfl ?_
            refine ev_iload rfl ?_
            refine ev_in (d := (d + 1)) (a := 0) (b := 0) (cd' := c266_0) (m := 2) (L0 := [(2, 42), (0, v71662)]) (jcall_v (A := [(0, v71662)]) (S' := []) (r := 42) rfl (g71661.lt ad42) (g71661.tg ad42) (Nat.le_of_ble_eq_true rfl)) (by decide) ml266 pp266 (Nat.le_of_ble_eq_true rfl) rfl (by decide) (by decide) ?_
            refine ev_aload_n rfl ?_
            refine ev_iload_n rfl ?_
            refine g_putf (r := 42) g71661 ad42 (by decide) ft12_20 (by decide) (fun e => absurd e nz12_20) rf42_20 (by decide) (by omega) (by omega) (fun h71671 e71671 g71671 => ?_)
            have k71671 := k71661.wr e71671 rfl
            refine ev_iconst ?_
            refine ev_ret rfl (by decide) (by decide) ?_
            show jEv _ _ _ _ _ _ _ (_, [(2, 42), (0, a1), (0, a2), (0, a3), (0, 1), (0, x5), (0, v71662), (0, (-1)), (0, x8)], [(0, (-1))], _, _, _)
            exact ev_ret rfl (by decide) (by decide) ⟨⟨_, rfl, by omega, by omega, g71671, k71671⟩, fun r hr h0 => by cases hr; exfalso; omega, fun r hr => by cases hr; exact ⟨_, (((jw_ne e71671 (Or.inr (by decide))).trans em71663)), by omega, by omega, fun h0 => by exfalso; omega⟩⟩
        · refine ev_aload_n rfl ?_
          refine g_getp (r := 42) (c := 54) g71661 ad42 (by decide) (by decide) rf42_16 ft12_16 ?_
          refine ev_iload_n rfl ?_
          refine g_bald g71661 ad54 rt54 (by omega) (by omega) (fun v71672 ev71672 lv71672 uv71672 => ?_)
          refine ev_goto f264_18 ?_
          refine ev_ret rfl (by decide) (by decide) ?_
          show jEv _ _ _ _ _ _ _ (_, [(2, 42), (0, a1), (0, a2), (0, a3), (0, 1), (0, x5), (0, v71662), (0, (-1)), (0, x8)], [(0, v71672)], _, _, _)
          refine ev_iload rfl ?_
          refine ev_iconst ?_
          refine ev_iadd (r := (x8 + 1)) (by unfold w32; omega) ?_
          refine ev_aload_n rfl ?_
          refine g_getp (r := 42) (c := 43) g71661 ad42 (by decide) (by decide) rf42_2 ft12_2 ?_
          refine ev_iload rfl ?_
          refine g_ialdv (v := y2) g71661 ad43 (by omega) (by omega) (((kk71661.v rfl).trans ey2)) ?_
          refine ev_icmpge f271_157 (fun c71673 => ?_) (fun c71673 => ?_)
          · refine ev_bipush ?_
            refine ev_icmpeq f271_169 (fun c71674 => ?_) (fun c71674 => ?_)
            · refine ev_iinc (w := (v71662 + 1)) (L' := [(2, 42), (0, a1), (0, a2), (0, a3), (0, 1), (0, x5), (0, (v71662 + 1)), (0, (-1)), (0, x8)]) rfl (by unfold w32; omega) rfl ?_
              refine ev_iinc (w := (x8 + 1)) (L' := [(2, 42), (0, a1), (0, a2), (0, a3), (0, 1), (0, x5), (0, (v71662 + 1)), (0, (-1)), (0, (x8 + 1))]) rfl (by unfold w32; omega) rfl ?_
              refine ev_goto f271_85 ?_
              exact ih _ _ _ _ _ _ _ g71661 k71661 (by omega) (by omega) (by omega) (by omega) (by omega) (by omega) (by omega) (by omega) (by omega) (by omega) (by omega) (by omega) (by omega) (by omega) (by omega) (em71663) (by omega) (by omega) (((kk71661.v (by decide)).trans ey1)) (by omega) (by omega) (((kk71661.v rfl).trans ey2)) (by omega) (by omega) (Ad.step (r' := (v71662 + 1)) (Ad.tr H0 k1 (fun _ => rfl) (ad71661 (by omega))) (by omega) k71661 (fun _ => rfl) (ev71672) (by omega) (by omega) (by omega)) (Mb.step H1 eb71655 um71663 (by omega)) (by omega)
            · refine ev_aload_n rfl ?_
              refine ev_iload rfl ?_
              refine ev_in (d := (d + 1)) (a := 0) (b := 0) (cd' := c266_0) (m := 2) (L0 := [(2, 42), (0, v71662)]) (jcall_v (A := [(0, v71662)]) (S' := []) (r := 42) rfl (g71661.lt ad42) (g71661.tg ad42) (Nat.le_of_ble_eq_true rfl)) (by decide) ml266 pp266 (Nat.le_of_ble_eq_true rfl) rfl (by decide) (by decide) ?_
              refine ev_aload_n rfl ?_
              refine ev_iload_n rfl ?_
              refine g_putf (r := 42) g71661 ad42 (by decide) ft12_20 (by decide) (fun e => absurd e nz12_20) rf42_20 (by decide) (by omega) (by omega) (fun h71675 e71675 g71675 => ?_)
              have k71675 := k71661.wr e71675 rfl
              refine ev_iconst ?_
              refine ev_ret rfl (by decide) (by decide) ?_
              show jEv _ _ _ _ _ _ _ (_, [(2, 42), (0, a1), (0, a2), (0, a3), (0, 1), (0, x5), (0, v71662), (0, (-1)), (0, x8)], [(0, (-1))], _, _, _)
              exact ev_ret rfl (by decide) (by decide) ⟨⟨_, rfl, by omega, by omega, g71675, k71675⟩, fun r hr h0 => by cases hr; exfalso; omega, fun r hr => by cases hr; exact ⟨_, (((jw_ne e71675 (Or.inr (by decide))).trans em71663)), by omega, by omega, fun h0 => by exfalso; omega⟩⟩
          · refine ev_bipush ?_
            refine ev_goto f271_159 ?_
            refine ev_icmpeq f271_169 (fun c71676 => ?_) (fun c71676 => ?_)
            · refine ev_iinc (w := (v71662 + 1)) (L' := [(2, 42), (0, a1), (0, a2), (0, a3), (0, 1), (0, x5), (0, (v71662 + 1)), (0, (-1)), (0, x8)]) rfl (by unfold w32; omega) rfl ?_
              refine ev_iinc (w := (x8 + 1)) (L' := [(2, 42), (0, a1), (0, a2), (0, a3), (0, 1), (0, x5), (0, (v71662 + 1)), (0, (-1)), (0, (x8 + 1))]) rfl (by unfold w32; omega) rfl ?_
              refine ev_goto f271_85 ?_
              exact ih _ _ _ _ _ _ _ g71661 k71661 (by omega) (by omega) (by omega) (by omega) (by omega) (by omega) (by omega) (by omega) (by omega) (by omega) (by omega) (by omega) (by omega) (by omega) (by omega) (em71663) (by omega) (by omega) (((kk71661.v (by decide)).trans ey1)) (by omega) (by omega) (((kk71661.v rfl).trans ey2)) (by omega) (by omega) (Ad.step (r' := (v71662 + 1)) (Ad.tr H0 k1 (fun _ => rfl) (ad71661 (by omega))) (by omega) k71661 (fun _ => rfl) (ev71672) (by omega) (by omega) (by omega)) (Mb.step H1 eb71655 um71663 (by omega)) (by omega)
            · refine ev_aload_n rfl ?_
              refine ev_iload rfl ?_
              refine ev_in (d := (d + 1)) (a := 0) (b := 0) (cd' := c266_0) (m := 2) (L0 := [(2, 42), (0, v71662)]) (jcall_v (A := [(0, v71662)]) (S' := []) (r := 42) rfl (g71661.lt ad42) (g71661.tg ad42) (Nat.le_of_ble_eq_true rfl)) (by decide) ml266 pp266 (Nat.le_of_ble_eq_true rfl) rfl (by decide) (by decide) ?_
              refine ev_aload_n rfl ?_
              refine ev_iload_n rfl ?_
              refine g_putf (r := 42) g71661 ad42 (by decide) ft12_20 (by decide) (fun e => absurd e nz12_20) rf42_20 (by decide) (by omega) (by omega) (fun h71677 e71677 g71677 => ?_)
              have k71677 := k71661.wr e71677 rfl
              refine ev_iconst ?_
              refine ev_ret rfl (by decide) (by decide) ?_
              show jEv _ _ _ _ _ _ _ (_, [(2, 42), (0, a1), (0, a2), (0, a3), (0, 1), (0, x5), (0, v71662), (0, (-1)), (0, x8)], [(0, (-1))], _, _, _)
              exact ev_ret rfl (by decide) (by decide) ⟨⟨_, rfl, by omega, by omega, g71677, k71677⟩, fun r hr h0 => by cases hr; exfalso; omega, fun r hr => by cases hr; exact ⟨_, (((jw_ne e71677 (Or.inr (by decide))).trans em71663)), by omega, by omega, fun h0 => by exfalso; omega⟩⟩
      · refine ev_iconst ?_
        exact ev_ret rfl (by decide) (by decide) ⟨⟨_, rfl, by omega, by omega, g71661, k71661⟩, fun r hr h0 => by cases hr; exfalso; omega, fun r hr => by cases hr; exact ⟨_, (em71663), by omega, by omega, fun h0 => by exfalso; omega⟩⟩
set_option maxHeartbeats 4000000 in
theorem s271o_s {G : GH} {h : JH} (g : Gd G h) {l0 : Int} (ll0 : 0 ≤ l0) (ul0 : l0 ≤ 6) {b0 : Int} (lb0 : 1 ≤ b0) (ub0 : b0 ≤ 30000000) {a1 : Int} (la1 : 0 ≤ a1) (ua1 : a1 ≤ 202) {a2 : Int} (la2 : 0 ≤ a2) (ua2 : a2 ≤ 15) {a3 : Int} (la3 : 0 ≤ a3) (ua3 : a3 ≤ 12) {w0 : Int} (ew0 : h.2.2 42 21 = w0) (lw0 : 100 ≤ w0) (uw0 : w0 ≤ 200000000) (F0 : (b0 + w0) ≤ 200000000) (hI : Iv h) (hL : Lv h l0 a1) (hb : NB a3 = b0) (hq : h.2.2 54 (a1).toNat = 33) {M : Int} (hM : M = (7 * a3 - l0)) {d : Nat} (hd : 0 ≤ d) (rih : ∀ {G : GH} {h : JH} (g : Gd G h) {l0 : Int} (ll0 : 0 ≤ l0) (ul0 : l0 ≤ 6) {b0 : Int} (lb0 : 1 ≤ b0) (ub0 : b0 ≤ 30000000) {a1 : Int} (la1 : 0 ≤ a1) (ua1 : a1 ≤ 202) {a2 : Int} (la2 : 0 ≤ a2) (ua2 : a2 ≤ 15) {a3 : Int} (la3 : 0 ≤ a3) (ua3 : a3 ≤ 12) {w0 : Int} (ew0 : h.2.2 42 21 = w0) (lw0 : 100 ≤ w0) (uw0 : w0 ≤ 200000000) (F0 : (b0 + w0) ≤ 200000000) (hI : Iv h) (hL : Lv h l0 a1) (hb : NB a3 = b0) (hm : M + 1 ≤ (7 * a3 - l0)), jOk d 0 0 272 [(2, 42), (0, a1), (0, a2), (0, a3), (0, 1)] h (fun v h' => PI G [(42, 21), (42, 22)] h 0 (-1) 200 v h' ∧ (∀ r, v = some (0, r) → 0 ≤ r → Ad h l0 a1 r) ∧ (∀ r, v = some (0, r) → RO h' w0 b0 r))) : jOk (d + 3) 0 0 271 [(2, 42), (0, a1), (0, a2), (0, a3), (0, 1)] h (fun v h' => PI G [(42, 21), (42, 22)] h 0 (-1) 200 v h' ∧ (∀ r, v = some (0, r) → 0 ≤ r → Ad h l0 a1 r) ∧ (∀ r, v = some (0, r) → RO h' w0 b0 r)) := by
  refine ⟨by decide, by rw [ml271]; exact Nat.le_of_ble_eq_true rfl, ?_⟩
  rw [ml271, pp271]
  show jEv _ none _ c271_0 0 0 _ (c271_0, [(2, 42), (0, a1), (0, a2), (0, a3), (0, 1), (9, 0), (9, 0), (9, 0), (9, 0)], [], h, 0, 0)
  have k0 := Kp.rf [(42, 21), (42, 22)] h
  refine ev_aload_n rfl ?_
  refine ev_iload_n rfl ?_
  refine ev_iconst ?_
  refine ev_iadd (r := (a1 + 1)) (by unfold w32; omega) ?_
  refine ev_in (d := (d + 1)) (a := 0) (b := 0) (cd' := c264_0) (m := 2) (L0 := [(2, 42), (0, (a1 + 1))]) (jcall_v (A := [(0, (a1 + 1))]) (S' := []) (r := 42) rfl (g.lt ad42) (g.tg ad42) (Nat.le_of_ble_eq_true rfl)) (by decide) ml264 pp264 (Nat.le_of_ble_eq_true rfl) rfl (by decide) (by decide) ?_
  refine ev_iload_n rfl ?_
  refine ev_aload_n rfl ?_
  obtain ⟨v71678, ev71678, lv71678, uv71678⟩ := g.rd ad42 (show 17 < 66 by decide) rf42_17
  refine g_getv (r := 42) (v := v71678) g ad42 (by decide) ft12_17 ev71678 ?_
  refine ev_icmpge f264_17 (fun c71679 => ?_) (fun c71679 => ?_)
  · refine ev_iconst ?_
    refine ev_ret rfl (by decide) (by decide) ?_
    show jEv _ _ _ _ _ _ _ (_, [(2, 42), (0, a1), (0, a2), (0, a3), (0, 1), (9, 0), (9, 0), (9, 0), (9, 0)], [(0, (-1))], _, _, _)
    refine ev_bipush ?_
    refine ev_isub (r := (-98)) (by decide) ?_
    refine ev_istore (L' := [(2, 42), (0, a1), (0, a2), (0, a3), (0, 1), (0, (-98)), (9, 0), (9, 0), (9, 0)]) (Nat.le_of_ble_eq_true rfl) rfl ?_
    refine ev_aload_n rfl ?_
    refine ev_iload rfl ?_
    refine ev_in (d := (d + 1)) (a := 0) (b := 0) (cd' := c245_0) (m := 2) (L0 := [(2, 42), (0, (-98))]) (jcall_v (A := [(0, (-98))]) (S' := []) (r := 42) rfl (g.lt ad42) (g.tg ad42) (Nat.le_of_ble_eq_true rfl)) (by decide) ml245 pp245 (Nat.le_of_ble_eq_true rfl) rfl (by decide) (by decide) ?_
    refine ev_iload_n rfl ?_
    refine ev_iconst ?_
    refine ev_aload_n rfl ?_
    obtain ⟨v71680, ev71680, lv71680, uv71680⟩ := g.rd ad42 (show 1 < 66 by decide) rf42_1
    refine g_getv (r := 42) (v := v71680) g ad42 (by decide) ft12_1 ev71680 ?_
    refine ev_iconst ?_
    refine ev_isub (r := (v71680 - 1)) (by unfold w32; omega) ?_
    refine ev_in (d := (d + 0)) (a := 0) (b := 0) (cd' := c242_0) (m := 3) (L0 := [(0, (-98)), (0, 0), (0, (v71680 - 1))]) (jcall_s (A := [(0, (v71680 - 1)), (0, 0), (0, (-98))]) (S' := []) (by decide) rfl (Nat.le_of_ble_eq_true rfl)) (by decide) ml242 pp242 (Nat.le_of_ble_eq_true rfl) rfl (by decide) (by decide) ?_
    refine ev_iload_n rfl ?_
    refine ev_iload_n rfl ?_
    refine ev_icmplt f242_14 (fun c71681 => ?_) (fun c71681 => absurd c71681 (by omega))
    refine ev_iconst ?_
    refine ev_ret rfl (by decide) (by decide) ?_
    show jEv _ _ _ _ _ _ _ (_, [(2, 42), (0, (-98))], [(0, 0)], _, _, _)
    refine ev_ret rfl (by decide) (by decide) ?_
    show jEv _ _ _ _ _ _ _ (_, [(2, 42), (0, a1), (0, a2), (0, a3), (0, 1), (0, (-98)), (9, 0), (9, 0), (9, 0)], [(0, 0)], _, _, _)
    refine ev_ifeq f271_31 (fun c71682 => ?_) (fun c71682 => absurd c71682 (by omega))
    refine ev_aload_n rfl ?_
    refine ev_iload_n rfl ?_
    refine ev_iconst ?_
    refine ev_iadd (r := (a1 + 1)) (by unfold w32; omega) ?_
    refine ev_in (d := (d + 1)) (a := 0) (b := 0) (cd' := c266_0) (m := 2) (L0 := [(2, 42), (0, (a1 + 1))]) (jcall_v (A := [(0, (a1 + 1))]) (S' := []) (r := 42) rfl (g.lt ad42) (g.tg ad42) (Nat.le_of_ble_eq_true rfl)) (by decide) ml266 pp266 (Nat.le_of_ble_eq_true rfl) rfl (by decide) (by decide) ?_
    refine ev_aload_n rfl ?_
    refine ev_iload_n rfl ?_
    refine g_putf (r := 42) g ad42 (by decide) ft12_20 (by decide) (fun e => absurd e nz12_20) rf42_20 (by decide) (by omega) (by omega) (fun h71683 e71683 g71683 => ?_)
    have k71683 := k0.wr e71683 rfl
    refine ev_iconst ?_
    refine ev_ret rfl (by decide) (by decide) ?_
    show jEv _ _ _ _ _ _ _ (_, [(2, 42), (0, a1), (0, a2), (0, a3), (0, 1), (0, (-98)), (9, 0), (9, 0), (9, 0)], [(0, (-1))], _, _, _)
    exact ev_ret rfl (by decide) (by decide) ⟨⟨_, rfl, by omega, by omega, g71683, k71683⟩, fun r hr h0 => by cases hr; exfalso; omega, fun r hr => by cases hr; exact ⟨_, (((jw_ne e71683 (Or.inr (by decide))).trans ew0)), by omega, by omega, fun h0 => by exfalso; omega⟩⟩
  · refine ev_aload_n rfl ?_
    refine g_getp (r := 42) (c := 54) g ad42 (by decide) (by decide) rf42_16 ft12_16 ?_
    refine ev_iload_n rfl ?_
    refine g_bald g ad54 rt54 (by omega) (by omega) (fun v71684 ev71684 lv71684 uv71684 => ?_)
    refine ev_goto f264_18 ?_
    refine ev_ret rfl (by decide) (by decide) ?_
    show jEv _ _ _ _ _ _ _ (_, [(2, 42), (0, a1), (0, a2), (0, a3), (0, 1), (9, 0), (9, 0), (9, 0), (9, 0)], [(0, v71684)], _, _, _)
    refine ev_bipush ?_
    refine ev_isub (r := (v71684 - 97)) (by unfold w32; omega) ?_
    refine ev_istore (L' := [(2, 42), (0, a1), (0, a2), (0, a3), (0, 1), (0, (v71684 - 97)), (9, 0), (9, 0), (9, 0)]) (Nat.le_of_ble_eq_true rfl) rfl ?_
    refine ev_aload_n rfl ?_
    refine ev_iload rfl ?_
    refine ev_in (d := (d + 1)) (a := 0) (b := 0) (cd' := c245_0) (m := 2) (L0 := [(2, 42), (0, (v71684 - 97))]) (jcall_v (A := [(0, (v71684 - 97))]) (S' := []) (r := 42) rfl (g.lt ad42) (g.tg ad42) (Nat.le_of_ble_eq_true rfl)) (by decide) ml245 pp245 (Nat.le_of_ble_eq_true rfl) rfl (by decide) (by decide) ?_
    refine ev_iload_n rfl ?_
    refine ev_iconst ?_
    refine ev_aload_n rfl ?_
    obtain ⟨v71685, ev71685, lv71685, uv71685⟩ := g.rd ad42 (show 1 < 66 by decide) rf42_1
    refine g_getv (r := 42) (v := v71685) g ad42 (by decide) ft12_1 ev71685 ?_
    refine ev_iconst ?_
    refine ev_isub (r := (v71685 - 1)) (by unfold w32; omega) ?_
    refine ev_in (d := (d + 0)) (a := 0) (b := 0) (cd' := c242_0) (m := 3) (L0 := [(0, (v71684 - 97)), (0, 0), (0, (v71685 - 1))]) (jcall_s (A := [(0, (v71685 - 1)), (0, 0), (0, (v71684 - 97))]) (S' := []) (by decide) rfl (Nat.le_of_ble_eq_true rfl)) (by decide) ml242 pp242 (Nat.le_of_ble_eq_true rfl) rfl (by decide) (by decide) ?_
    refine ev_iload_n rfl ?_
    refine ev_iload_n rfl ?_
    refine ev_icmplt f242_14 (fun c71686 => ?_) (fun c71686 => ?_)
    · refine ev_iconst ?_
      refine ev_ret rfl (by decide) (by decide) ?_
      show jEv _ _ _ _ _ _ _ (_, [(2, 42), (0, (v71684 - 97))], [(0, 0)], _, _, _)
      refine ev_ret rfl (by decide) (by decide) ?_
      show jEv _ _ _ _ _ _ _ (_, [(2, 42), (0, a1), (0, a2), (0, a3), (0, 1), (0, (v71684 - 97)), (9, 0), (9, 0), (9, 0)], [(0, 0)], _, _, _)
      refine ev_ifeq f271_31 (fun c71687 => ?_) (fun c71687 => absurd c71687 (by omega))
      refine ev_aload_n rfl ?_
      refine ev_iload_n rfl ?_
      refine ev_iconst ?_
      refine ev_iadd (r := (a1 + 1)) (by unfold w32; omega) ?_
      refine ev_in (d := (d + 1)) (a := 0) (b := 0) (cd' := c266_0) (m := 2) (L0 := [(2, 42), (0, (a1 + 1))]) (jcall_v (A := [(0, (a1 + 1))]) (S' := []) (r := 42) rfl (g.lt ad42) (g.tg ad42) (Nat.le_of_ble_eq_true rfl)) (by decide) ml266 pp266 (Nat.le_of_ble_eq_true rfl) rfl (by decide) (by decide) ?_
      refine ev_aload_n rfl ?_
      refine ev_iload_n rfl ?_
      refine g_putf (r := 42) g ad42 (by decide) ft12_20 (by decide) (fun e => absurd e nz12_20) rf42_20 (by decide) (by omega) (by omega) (fun h71688 e71688 g71688 => ?_)
      have k71688 := k0.wr e71688 rfl
      refine ev_iconst ?_
      refine ev_ret rfl (by decide) (by decide) ?_
      show jEv _ _ _ _ _ _ _ (_, [(2, 42), (0, a1), (0, a2), (0, a3), (0, 1), (0, (v71684 - 97)), (9, 0), (9, 0), (9, 0)], [(0, (-1))], _, _, _)
      exact ev_ret rfl (by decide) (by decide) ⟨⟨_, rfl, by omega, by omega, g71688, k71688⟩, fun r hr h0 => by cases hr; exfalso; omega, fun r hr => by cases hr; exact ⟨_, (((jw_ne e71688 (Or.inr (by decide))).trans ew0)), by omega, by omega, fun h0 => by exfalso; omega⟩⟩
    · refine ev_iload_n rfl ?_
      refine ev_iload_n rfl ?_
      refine ev_icmpgt f242_14 (fun c71689 => ?_) (fun c71689 => ?_)
      · refine ev_iconst ?_
        refine ev_ret rfl (by decide) (by decide) ?_
        show jEv _ _ _ _ _ _ _ (_, [(2, 42), (0, (v71684 - 97))], [(0, 0)], _, _, _)
        refine ev_ret rfl (by decide) (by decide) ?_
        show jEv _ _ _ _ _ _ _ (_, [(2, 42), (0, a1), (0, a2), (0, a3), (0, 1), (0, (v71684 - 97)), (9, 0), (9, 0), (9, 0)], [(0, 0)], _, _, _)
        refine ev_ifeq f271_31 (fun c71690 => ?_) (fun c71690 => absurd c71690 (by omega))
        refine ev_aload_n rfl ?_
        refine ev_iload_n rfl ?_
        refine ev_iconst ?_
        refine ev_iadd (r := (a1 + 1)) (by unfold w32; omega) ?_
        refine ev_in (d := (d + 1)) (a := 0) (b := 0) (cd' := c266_0) (m := 2) (L0 := [(2, 42), (0, (a1 + 1))]) (jcall_v (A := [(0, (a1 + 1))]) (S' := []) (r := 42) rfl (g.lt ad42) (g.tg ad42) (Nat.le_of_ble_eq_true rfl)) (by decide) ml266 pp266 (Nat.le_of_ble_eq_true rfl) rfl (by decide) (by decide) ?_
        refine ev_aload_n rfl ?_
        refine ev_iload_n rfl ?_
        refine g_putf (r := 42) g ad42 (by decide) ft12_20 (by decide) (fun e => absurd e nz12_20) rf42_20 (by decide) (by omega) (by omega) (fun h71691 e71691 g71691 => ?_)
        have k71691 := k0.wr e71691 rfl
        refine ev_iconst ?_
        refine ev_ret rfl (by decide) (by decide) ?_
        show jEv _ _ _ _ _ _ _ (_, [(2, 42), (0, a1), (0, a2), (0, a3), (0, 1), (0, (v71684 - 97)), (9, 0), (9, 0), (9, 0)], [(0, (-1))], _, _, _)
        exact ev_ret rfl (by decide) (by decide) ⟨⟨_, rfl, by omega, by omega, g71691, k71691⟩, fun r hr h0 => by cases hr; exfalso; omega, fun r hr => by cases hr; exact ⟨_, (((jw_ne e71691 (Or.inr (by decide))).trans ew0)), by omega, by omega, fun h0 => by exfalso; omega⟩⟩
      · refine ev_iconst ?_
        refine ev_goto f242_15 ?_
        refine ev_ret rfl (by decide) (by decide) ?_
        show jEv _ _ _ _ _ _ _ (_, [(2, 42), (0, (v71684 - 97))], [(0, 1)], _, _, _)
        refine ev_ret rfl (by decide) (by decide) ?_
        show jEv _ _ _ _ _ _ _ (_, [(2, 42), (0, a1), (0, a2), (0, a3), (0, 1), (0, (v71684 - 97)), (9, 0), (9, 0), (9, 0)], [(0, 1)], _, _, _)
        refine ev_ifeq f271_31 (fun c71692 => absurd c71692 (by omega)) (fun c71692 => ?_)
        refine ev_iload_n rfl ?_
        refine ev_iload rfl ?_
        refine g_ishrB (a := 15) (by omega) (by omega) (by decide) (fun v71693 ev71693 lv71693 uv71693 => ?_)
        refine ev_iconst ?_
        refine g_iandB (b := 1) (by omega) (by omega) (by decide) (fun v71694 ev71694 lv71694 uv71694 => ?_)
        refine ev_iconst ?_
        refine ev_icmpne f271_39 (fun c71695 => ?_) (fun c71695 => ?_)
        · refine ev_iload_n rfl ?_
          refine ev_iconst ?_
          refine ev_iadd (r := (a1 + 2)) (by unfold w32; omega) ?_
          refine ev_istore (L' := [(2, 42), (0, a1), (0, a2), (0, a3), (0, 1), (0, (v71684 - 97)), (0, (a1 + 2)), (9, 0), (9, 0)]) (Nat.le_of_ble_eq_true rfl) rfl ?_
          refine ev_aload_n rfl ?_
          refine ev_iload rfl ?_
          refine ev_in (d := (d + 1)) (a := 0) (b := 0) (cd' := c264_0) (m := 2) (L0 := [(2, 42), (0, (a1 + 2))]) (jcall_v (A := [(0, (a1 + 2))]) (S' := []) (r := 42) rfl (g.lt ad42) (g.tg ad42) (Nat.le_of_ble_eq_true rfl)) (by decide) ml264 pp264 (Nat.le_of_ble_eq_true rfl) rfl (by decide) (by decide) ?_
          refine ev_iload_n rfl ?_
          refine ev_aload_n rfl ?_
          refine g_getv (r := 42) (v := v71678) g ad42 (by decide) ft12_17 (ev71678) ?_
          refine ev_icmpge f264_17 (fun c71696 => ?_) (fun c71696 => ?_)
          · refine ev_iconst ?_
            refine ev_ret rfl (by decide) (by decide) ?_
            show jEv _ _ _ _ _ _ _ (_, [(2, 42), (0, a1), (0, a2), (0, a3), (0, 1), (0, (v71684 - 97)), (0, (a1 + 2)), (9, 0), (9, 0)], [(0, (-1))], _, _, _)
            refine ev_bipush ?_
            refine ev_icmpne f271_61 (fun c71697 => ?_) (fun c71697 => absurd c71697 (by omega))
            refine ev_aload_n rfl ?_
            refine ev_iload rfl ?_
            refine ev_in (d := (d + 1)) (a := 0) (b := 0) (cd' := c266_0) (m := 2) (L0 := [(2, 42), (0, (a1 + 2))]) (jcall_v (A := [(0, (a1 + 2))]) (S' := []) (r := 42) rfl (g.lt ad42) (g.tg ad42) (Nat.le_of_ble_eq_true rfl)) (by decide) ml266 pp266 (Nat.le_of_ble_eq_true rfl) rfl (by decide) (by decide) ?_
            refine ev_aload_n rfl ?_
            refine ev_iload_n rfl ?_
            refine g_putf (r := 42) g ad42 (by decide) ft12_20 (by decide) (fun e => absurd e nz12_20) rf42_20 (by decide) (by omega) (by omega) (fun h71698 e71698 g71698 => ?_)
            have k71698 := k0.wr e71698 rfl
            refine ev_iconst ?_
            refine ev_ret rfl (by decide) (by decide) ?_
            show jEv _ _ _ _ _ _ _ (_, [(2, 42), (0, a1), (0, a2), (0, a3), (0, 1), (0, (v71684 - 97)), (0, (a1 + 2)), (9, 0), (9, 0)], [(0, (-1))], _, _, _)
            exact ev_ret rfl (by decide) (by decide) ⟨⟨_, rfl, by omega, by omega, g71698, k71698⟩, fun r hr h0 => by cases hr; exfalso; omega, fun r hr => by cases hr; exact ⟨_, (((jw_ne e71698 (Or.inr (by decide))).trans ew0)), by omega, by omega, fun h0 => by exfalso; omega⟩⟩
          · refine ev_aload_n rfl ?_
            refine g_getp (r := 42) (c := 54) g ad42 (by decide) (by decide) rf42_16 ft12_16 ?_
            refine ev_iload_n rfl ?_
            refine g_bald g ad54 rt54 (by omega) (by omega) (fun v71699 ev71699 lv71699 uv71699 => ?_)
            refine ev_goto f264_18 ?_
            refine ev_ret rfl (by decide) (by decide) ?_
            show jEv _ _ _ _ _ _ _ (_, [(2, 42), (0, a1), (0, a2), (0, a3), (0, 1), (0, (v71684 - 97)), (0, (a1 + 2)), (9, 0), (9, 0)], [(0, v71699)], _, _, _)
            refine ev_bipush ?_
            refine ev_icmpne f271_61 (fun c71700 => ?_) (fun c71700 => ?_)
            · refine ev_aload_n rfl ?_
              refine ev_iload rfl ?_
              refine ev_in (d := (d + 1)) (a := 0) (b := 0) (cd' := c266_0) (m := 2) (L0 := [(2, 42), (0, (a1 + 2))]) (jcall_v (A := [(0, (a1 + 2))]) (S' := []) (r := 42) rfl (g.lt ad42) (g.tg ad42) (Nat.le_of_ble_eq_true rfl)) (by decide) ml266 pp266 (Nat.le_of_ble_eq_true rfl) rfl (by decide) (by decide) ?_
              refine ev_aload_n rfl ?_
              refine ev_iload_n rfl ?_
              refine g_putf (r := 42) g ad42 (by decide) ft12_20 (by decide) (fun e => absurd e nz12_20) rf42_20 (by decide) (by omega) (by omega) (fun h71701 e71701 g71701 => ?_)
              have k71701 := k0.wr e71701 rfl
              refine ev_iconst ?_
              refine ev_ret rfl (by decide) (by decide) ?_
              show jEv _ _ _ _ _ _ _ (_, [(2, 42), (0, a1), (0, a2), (0, a3), (0, 1), (0, (v71684 - 97)), (0, (a1 + 2)), (9, 0), (9, 0)], [(0, (-1))], _, _, _)
              exact ev_ret rfl (by decide) (by decide) ⟨⟨_, rfl, by omega, by omega, g71701, k71701⟩, fun r hr h0 => by cases hr; exfalso; omega, fun r hr => by cases hr; exact ⟨_, (((jw_ne e71701 (Or.inr (by decide))).trans ew0)), by omega, by omega, fun h0 => by exfalso; omega⟩⟩
            · refine ev_iload_n rfl ?_
              refine ev_bipush ?_
              refine ev_icmpne f271_68 (fun c71702 => ?_) (fun c71702 => ?_)
              · refine ev_aload_n rfl ?_
                refine ev_iload rfl ?_
                refine ev_iconst ?_
                refine ev_iload rfl ?_
                refine ev_in (d := (d + 1)) (a := 0) (b := 0) (cd' := c267_0) (m := 6) (L0 := [(2, 42), (0, 1), (0, 2), (0, (v71684 - 97)), (9, 0), (9, 0)]) (jcall_v (A := [(0, (v71684 - 97)), (0, 2), (0, 1)]) (S' := []) (r := 42) rfl (g.lt ad42) (g.tg ad42) (Nat.le_of_ble_eq_true rfl)) (by decide) ml267 pp267 (Nat.le_of_ble_eq_true rfl) rfl (by decide) (by decide) ?_
                refine ev_iload_n rfl ?_
                refine ev_ifne f267_6 (fun c71703 => ?_) (fun c71703 => absurd c71703 (by omega))
                refine ev_aload_n rfl ?_
                refine ev_dup (by decide) ?_
                refine g_getv (r := 42) (v := w0) g ad42 (by decide) ft12_21 (ew0) ?_
                refine ev_iconst ?_
                refine ev_iadd (r := (w0 + 1)) (by unfold w32; omega) ?_
                refine g_putf (r := 42) g ad42 (by decide) ft12_21 (by decide) (fun e => absurd e nz12_21) rf42_21 (by decide) (by omega) (by omega) (fun h71704 e71704 g71704 => ?_)
                have k71704 := k0.wr e71704 rfl
                refine ev_aload_n rfl ?_
                refine g_getv (r := 42) (v := (w0 + 1)) g71704 ad42 (by decide) ft12_21 ((jw_eq e71704)) ?_
                refine ev_bipush ?_
                refine ev_icmple f267_27 (fun c71705 => absurd c71705 (by omega)) (fun c71705 => ?_)
                refine ev_iconst ?_
                refine ev_ret rfl (by decide) (by decide) ?_
                show jEv _ _ _ _ _ _ _ (_, [(2, 42), (0, a1), (0, a2), (0, a3), (0, 1), (0, (v71684 - 97)), (0, (a1 + 2)), (9, 0), (9, 0)], [(0, (-1))], _, _, _)
                refine ev_istore (L' := [(2, 42), (0, a1), (0, a2), (0, a3), (0, 1), (0, (v71684 - 97)), (0, (a1 + 2)), (0, (-1)), (9, 0)]) (Nat.le_of_ble_eq_true rfl) rfl ?_
                refine ev_iinc (w := (a1 + 3)) (L' := [(2, 42), (0, a1), (0, a2), (0, a3), (0, 1), (0, (v71684 - 97)), (0, (a1 + 3)), (0, (-1)), (9, 0)]) rfl (by unfold w32; omega) rfl ?_
                refine ev_iconst ?_
                refine ev_istore (L' := [(2, 42), (0, a1), (0, a2), (0, a3), (0, 1), (0, (v71684 - 97)), (0, (a1 + 3)), (0, (-1)), (0, 0)]) (Nat.le_of_ble_eq_true rfl) rfl ?_
                obtain ⟨v71706, ev71706, lv71706, uv71706⟩ := g71704.rd ad43 (show ((v71684 - 97)).toNat < 4 by omega) (rt43 _)
                have xv71706 := (g71704.ex.2.1 ((v71684 - 97) : Int).toNat (by rw [(((jw_ne e71704 (Or.inr (by decide))).trans ev71685))]; omega))
                rw [ev71706] at xv71706
                exact (s271o_s_l ll0 ul0 lb0 ub0 la1 ua1 la2 ua2 la3 ua3 ew0 lw0 uw0 F0 hI hL hb hq hM hd rih 8) _ _ _ _ _ _ _ g71704 k71704 (by omega) (by omega) (by omega) (by omega) (by omega) (by omega) (by omega) (by omega) (by omega) (by omega) (by omega) (by omega) (by omega) (by omega) (by omega) ((jw_eq e71704)) (by omega) (by omega) (((jw_ne e71704 (Or.inr (by decide))).trans ev71685)) (by omega) (by omega) ev71706 (by omega) (by omega) (Ad.step (r' := (a1 + 3)) (Ad.step (r' := (a1 + 2)) (Ad.step (r' := (a1 + 1)) (Ad.rf _ _ _) (by omega) k71704 (fun _ => rfl) (((jw_ne e71704 (Or.inl (by decide))).trans hq)) (by omega) (by omega) (by omega)) (by omega) k71704 (fun _ => rfl) (((jw_ne e71704 (Or.inl (by decide))).trans ev71684)) (by omega) (by omega) (by omega)) (by omega) k71704 (fun _ => rfl) (((jw_ne e71704 (Or.inl (by decide))).trans ev71699)) (by omega) (by omega) (by omega)) (Mb.start _ _ (by omega)) (by omega)
              · refine ev_aload_n rfl ?_
                refine ev_iload rfl ?_
                refine ev_in (d := (d + 1)) (a := 0) (b := 0) (cd' := c266_0) (m := 2) (L0 := [(2, 42), (0, (a1 + 2))]) (jcall_v (A := [(0, (a1 + 2))]) (S' := []) (r := 42) rfl (g.lt ad42) (g.tg ad42) (Nat.le_of_ble_eq_true rfl)) (by decide) ml266 pp266 (Nat.le_of_ble_eq_true rfl) rfl (by decide) (by decide) ?_
                refine ev_aload_n rfl ?_
                refine ev_iload_n rfl ?_
                refine g_putf (r := 42) g ad42 (by decide) ft12_20 (by decide) (fun e => absurd e nz12_20) rf42_20 (by decide) (by omega) (by omega) (fun h71707 e71707 g71707 => ?_)
                have k71707 := k0.wr e71707 rfl
                refine ev_iconst ?_
                refine ev_ret rfl (by decide) (by decide) ?_
                show jEv _ _ _ _ _ _ _ (_, [(2, 42), (0, a1), (0, a2), (0, a3), (0, 1), (0, (v71684 - 97)), (0, (a1 + 2)), (9, 0), (9, 0)], [(0, (-1))], _, _, _)
                exact ev_ret rfl (by decide) (by decide) ⟨⟨_, rfl, by omega, by omega, g71707, k71707⟩, fun r hr h0 => by cases hr; exfalso; omega, fun r hr => by cases hr; exact ⟨_, (((jw_ne e71707 (Or.inr (by decide))).trans ew0)), by omega, by omega, fun h0 => by exfalso; omega⟩⟩
        · refine ev_aload_n rfl ?_
          refine ev_iload_n rfl ?_
          refine ev_iconst ?_
          refine ev_iadd (r := (a1 + 1)) (by unfold w32; omega) ?_
          refine ev_in (d := (d + 1)) (a := 0) (b := 0) (cd' := c266_0) (m := 2) (L0 := [(2, 42), (0, (a1 + 1))]) (jcall_v (A := [(0, (a1 + 1))]) (S' := []) (r := 42) rfl (g.lt ad42) (g.tg ad42) (Nat.le_of_ble_eq_true rfl)) (by decide) ml266 pp266 (Nat.le_of_ble_eq_true rfl) rfl (by decide) (by decide) ?_
          refine ev_aload_n rfl ?_
          refine ev_iload_n rfl ?_
          refine g_putf (r := 42) g ad42 (by decide) ft12_20 (by decide) (fun e => absurd e nz12_20) rf42_20 (by decide) (by omega) (by omega) (fun h71708 e71708 g71708 => ?_)
          have k71708 := k0.wr e71708 rfl
          refine ev_iconst ?_
          refine ev_ret rfl (by decide) (by decide) ?_
          show jEv _ _ _ _ _ _ _ (_, [(2, 42), (0, a1), (0, a2), (0, a3), (0, 1), (0, (v71684 - 97)), (9, 0), (9, 0), (9, 0)], [(0, (-1))], _, _, _)
          exact ev_ret rfl (by decide) (by decide) ⟨⟨_, rfl, by omega, by omega, g71708, k71708⟩, fun r hr h0 => by cases hr; exfalso; omega, fun r hr => by cases hr; exact ⟨_, (((jw_ne e71708 (Or.inr (by decide))).trans ew0)), by omega, by omega, fun h0 => by exfalso; omega⟩⟩
set_option maxHeartbeats 4000000 in
theorem s272o_s {G : GH} {h : JH} (g : Gd G h) {l0 : Int} (ll0 : 0 ≤ l0) (ul0 : l0 ≤ 6) {b0 : Int} (lb0 : 1 ≤ b0) (ub0 : b0 ≤ 30000000) {a1 : Int} (la1 : 0 ≤ a1) (ua1 : a1 ≤ 202) {a2 : Int} (la2 : 0 ≤ a2) (ua2 : a2 ≤ 15) {a3 : Int} (la3 : 0 ≤ a3) (ua3 : a3 ≤ 12) {w0 : Int} (ew0 : h.2.2 42 21 = w0) (lw0 : 100 ≤ w0) (uw0 : w0 ≤ 200000000) (F0 : (b0 + w0) ≤ 200000000) (hI : Iv h) (hL : Lv h l0 a1) (hb : NB a3 = b0) {M : Int} (hM : M = (7 * a3 - l0)) {d : Nat} (hd : 3 ≤ d) (rih : ∀ {G : GH} {h : JH} (g : Gd G h) {l0 : Int} (ll0 : 0 ≤ l0) (ul0 : l0 ≤ 6) {b0 : Int} (lb0 : 1 ≤ b0) (ub0 : b0 ≤ 30000000) {a1 : Int} (la1 : 0 ≤ a1) (ua1 : a1 ≤ 202) {a2 : Int} (la2 : 0 ≤ a2) (ua2 : a2 ≤ 15) {a3 : Int} (la3 : 0 ≤ a3) (ua3 : a3 ≤ 12) {w0 : Int} (ew0 : h.2.2 42 21 = w0) (lw0 : 100 ≤ w0) (uw0 : w0 ≤ 200000000) (F0 : (b0 + w0) ≤ 200000000) (hI : Iv h) (hL : Lv h l0 a1) (hb : NB a3 = b0) (hm : M + 1 ≤ (7 * a3 - l0)), jOk d 0 0 272 [(2, 42), (0, a1), (0, a2), (0, a3), (0, 1)] h (fun v h' => PI G [(42, 21), (42, 22)] h 0 (-1) 200 v h' ∧ (∀ r, v = some (0, r) → 0 ≤ r → Ad h l0 a1 r) ∧ (∀ r, v = some (0, r) → RO h' w0 b0 r))) : jOk (d + 4) 0 0 272 [(2, 42), (0, a1), (0, a2), (0, a3), (0, 1)] h (fun v h' => PI G [(42, 21), (42, 22)] h 0 (-1) 200 v h' ∧ (∀ r, v = some (0, r) → 0 ≤ r → Ad h l0 a1 r) ∧ (∀ r, v = some (0, r) → RO h' w0 b0 r)) := by
  refine ⟨by decide, by rw [ml272]; exact Nat.le_of_ble_eq_true rfl, ?_⟩
  rw [ml272, pp272]
  show jEv _ none _ c272_0 0 0 _ (c272_0, [(2, 42), (0, a1), (0, a2), (0, a3), (0, 1), (9, 0), (9, 0)], [], h, 0, 0)
  have k0 := Kp.rf [(42, 21), (42, 22)] h
  refine ev_aload_n rfl ?_
  refine ev_iload_n rfl ?_
  refine ev_in (d := (d + 2)) (a := 0) (b := 0) (cd' := c264_0) (m := 2) (L0 := [(2, 42), (0, a1)]) (jcall_v (A := [(0, a1)]) (S' := []) (r := 42) rfl (g.lt ad42) (g.tg ad42) (Nat.le_of_ble_eq_true rfl)) (by decide) ml264 pp264 (Nat.le_of_ble_eq_true rfl) rfl (by decide) (by decide) ?_
  refine ev_iload_n rfl ?_
  refine ev_aload_n rfl ?_
  obtain ⟨v71815, ev71815, lv71815, uv71815⟩ := g.rd ad42 (show 17 < 66 by decide) rf42_17
  refine g_getv (r := 42) (v := v71815) g ad42 (by decide) ft12_17 ev71815 ?_
  refine ev_icmpge f264_17 (fun c71816 => ?_) (fun c71816 => ?_)
  · refine ev_iconst ?_
    refine ev_ret rfl (by decide) (by decide) ?_
    show jEv _ _ _ _ _ _ _ (_, [(2, 42), (0, a1), (0, a2), (0, a3), (0, 1), (9, 0), (9, 0)], [(0, (-1))], _, _, _)
    refine ev_istore (L' := [(2, 42), (0, a1), (0, a2), (0, a3), (0, 1), (0, (-1)), (9, 0)]) (Nat.le_of_ble_eq_true rfl) rfl ?_
    refine ev_iload rfl ?_
    refine ev_bipush ?_
    refine ev_icmpne f272_24 (fun c71817 => ?_) (fun c71817 => absurd c71817 (by omega))
    refine ev_iload rfl ?_
    refine ev_bipush ?_
    refine ev_icmpne f272_41 (fun c71818 => ?_) (fun c71818 => absurd c71818 (by omega))
    refine ev_iload rfl ?_
    refine ev_bipush ?_
    refine ev_icmpeq f272_56 (fun c71819 => absurd c71819 (by omega)) (fun c71819 => ?_)
    refine ev_aload_n rfl ?_
    refine ev_iload_n rfl ?_
    refine ev_in (d := (d + 2)) (a := 0) (b := 0) (cd' := c265_0) (m := 2) (L0 := [(2, 42), (0, a1)]) (jcall_v (A := [(0, a1)]) (S' := []) (r := 42) rfl (g.lt ad42) (g.tg ad42) (Nat.le_of_ble_eq_true rfl)) (by decide) ml265 pp265 (Nat.le_of_ble_eq_true rfl) rfl (by decide) (by decide) ?_
    refine ev_aload_n rfl ?_
    refine ev_iload_n rfl ?_
    refine ev_in (d := (d + 1)) (a := 0) (b := 0) (cd' := c264_0) (m := 2) (L0 := [(2, 42), (0, a1)]) (jcall_v (A := [(0, a1)]) (S' := []) (r := 42) rfl (g.lt ad42) (g.tg ad42) (Nat.le_of_ble_eq_true rfl)) (by decide) ml264 pp264 (Nat.le_of_ble_eq_true rfl) rfl (by decide) (by decide) ?_
    refine ev_iload_n rfl ?_
    refine ev_aload_n rfl ?_
    refine g_getv (r := 42) (v := v71815) g ad42 (by decide) ft12_17 (ev71815) ?_
    refine ev_icmpge f264_17 (fun c71820 => ?_) (fun c71820 => absurd c71820 (by omega))
    refine ev_iconst ?_
    refine ev_ret rfl (by decide) (by decide) ?_
    show jEv _ _ _ _ _ _ _ (_, [(2, 42), (0, a1)], [(0, (-1))], _, _, _)
    refine ev_bipush ?_
    refine ev_bipush ?_
    refine ev_in (d := (d + 1)) (a := 0) (b := 0) (cd' := c242_0) (m := 3) (L0 := [(0, (-1)), (0, 48), (0, 57)]) (jcall_s (A := [(0, 57), (0, 48), (0, (-1))]) (S' := []) (by decide) rfl (Nat.le_of_ble_eq_true rfl)) (by decide) ml242 pp242 (Nat.le_of_ble_eq_true rfl) rfl (by decide) (by decide) ?_
    refine ev_iload_n rfl ?_
    refine ev_iload_n rfl ?_
    refine ev_icmplt f242_14 (fun c71821 => ?_) (fun c71821 => absurd c71821 (by omega))
    refine ev_iconst ?_
    refine ev_ret rfl (by decide) (by decide) ?_
    show jEv _ _ _ _ _ _ _ (_, [(2, 42), (0, a1)], [(0, 0)], _, _, _)
    refine ev_ret rfl (by decide) (by decide) ?_
    show jEv _ _ _ _ _ _ _ (_, [(2, 42), (0, a1), (0, a2), (0, a3), (0, 1), (0, (-1)), (9, 0)], [(0, 0)], _, _, _)
    refine ev_ifeq f272_64 (fun c71822 => ?_) (fun c71822 => absurd c71822 (by omega))
    refine ev_iload rfl ?_
    refine ev_bipush ?_
    refine ev_isub (r := (-66)) (by decide) ?_
    refine ev_istore (L' := [(2, 42), (0, a1), (0, a2), (0, a3), (0, 1), (0, (-1)), (0, (-66))]) (Nat.le_of_ble_eq_true rfl) rfl ?_
    refine ev_iload rfl ?_
    refine ev_iconst ?_
    refine ev_aload_n rfl ?_
    obtain ⟨v71823, ev71823, lv71823, uv71823⟩ := g.rd ad42 (show 19 < 66 by decide) rf42_19
    refine g_getv (r := 42) (v := v71823) g ad42 (by decide) ft12_19 ev71823 ?_
    refine ev_iconst ?_
    refine ev_isub (r := (v71823 - 1)) (by unfold w32; omega) ?_
    refine ev_in (d := (d + 2)) (a := 0) (b := 0) (cd' := c242_0) (m := 3) (L0 := [(0, (-66)), (0, 0), (0, (v71823 - 1))]) (jcall_s (A := [(0, (v71823 - 1)), (0, 0), (0, (-66))]) (S' := []) (by decide) rfl (Nat.le_of_ble_eq_true rfl)) (by decide) ml242 pp242 (Nat.le_of_ble_eq_true rfl) rfl (by decide) (by decide) ?_
    refine ev_iload_n rfl ?_
    refine ev_iload_n rfl ?_
    refine ev_icmplt f242_14 (fun c71824 => ?_) (fun c71824 => absurd c71824 (by omega))
    refine ev_iconst ?_
    refine ev_ret rfl (by decide) (by decide) ?_
    show jEv _ _ _ _ _ _ _ (_, [(2, 42), (0, a1), (0, a2), (0, a3), (0, 1), (0, (-1)), (0, (-66))], [(0, 0)], _, _, _)
    refine ev_ifne f272_92 (fun c71825 => absurd c71825 (by omega)) (fun c71825 => ?_)
    refine ev_aload_n rfl ?_
    refine ev_iload_n rfl ?_
    refine ev_in (d := (d + 2)) (a := 0) (b := 0) (cd' := c266_0) (m := 2) (L0 := [(2, 42), (0, a1)]) (jcall_v (A := [(0, a1)]) (S' := []) (r := 42) rfl (g.lt ad42) (g.tg ad42) (Nat.le_of_ble_eq_true rfl)) (by decide) ml266 pp266 (Nat.le_of_ble_eq_true rfl) rfl (by decide) (by decide) ?_
    refine ev_aload_n rfl ?_
    refine ev_iload_n rfl ?_
    refine g_putf (r := 42) g ad42 (by decide) ft12_20 (by decide) (fun e => absurd e nz12_20) rf42_20 (by decide) (by omega) (by omega) (fun h71826 e71826 g71826 => ?_)
    have k71826 := k0.wr e71826 rfl
    refine ev_iconst ?_
    refine ev_ret rfl (by decide) (by decide) ?_
    show jEv _ _ _ _ _ _ _ (_, [(2, 42), (0, a1), (0, a2), (0, a3), (0, 1), (0, (-1)), (0, (-66))], [(0, (-1))], _, _, _)
    exact ev_ret rfl (by decide) (by decide) ⟨⟨_, rfl, by omega, by omega, g71826, k71826⟩, fun r hr h0 => by cases hr; exfalso; omega, fun r hr => by cases hr; exact ⟨_, (((jw_ne e71826 (Or.inr (by decide))).trans ew0)), by omega, by omega, fun h0 => by exfalso; omega⟩⟩
  · refine ev_aload_n rfl ?_
    refine g_getp (r := 42) (c := 54) g ad42 (by decide) (by decide) rf42_16 ft12_16 ?_
    refine ev_iload_n rfl ?_
    refine g_bald g ad54 rt54 (by omega) (by omega) (fun v71827 ev71827 lv71827 uv71827 => ?_)
    refine ev_goto f264_18 ?_
    refine ev_ret rfl (by decide) (by decide) ?_
    show jEv _ _ _ _ _ _ _ (_, [(2, 42), (0, a1), (0, a2), (0, a3), (0, 1), (9, 0), (9, 0)], [(0, v71827)], _, _, _)
    refine ev_istore (L' := [(2, 42), (0, a1), (0, a2), (0, a3), (0, 1), (0, v71827), (9, 0)]) (Nat.le_of_ble_eq_true rfl) rfl ?_
    refine ev_iload rfl ?_
    refine ev_bipush ?_
    refine ev_icmpne f272_24 (fun c71828 => ?_) (fun c71828 => ?_)
    · refine ev_iload rfl ?_
      refine ev_bipush ?_
      refine ev_icmpne f272_41 (fun c71829 => ?_) (fun c71829 => ?_)
      · refine ev_iload rfl ?_
        refine ev_bipush ?_
        refine ev_icmpeq f272_56 (fun c71830 => ?_) (fun c71830 => ?_)
        · refine ev_aload_n rfl ?_
          refine ev_iload_n rfl ?_
          refine ev_iload rfl ?_
          refine ev_call (jcall_v (A := [(0, 1), (0, a1)]) (S' := []) (r := 42) rfl (g.lt ad42) (g.tg ad42) (Nat.le_of_ble_eq_true rfl)) (jOk_le (by omega) (s269o g (by omega) (by omega) (by omega) (by omega) (by omega) (by omega) (ew0) (by omega) (by omega) (l0 := l0) (b0 := b0) (by omega) )) (by decide) (by decide) (fun w71831 h71831 q71831 => ?_)
          obtain ⟨q71831, ad71831, ro71831⟩ := q71831
          obtain ⟨v71832, rfl, lv71832, uv71832, g71831, kk71831⟩ := q71831
          have ad71831 := ad71831 _ rfl
          obtain ⟨m71833, em71833, lm71833, um71833, pm71831⟩ := ro71831 _ rfl
          have k71831 := k0.tr kk71831 (by decide)
          show jEv _ _ _ _ _ _ _ (_, [(2, 42), (0, a1), (0, a2), (0, a3), (0, 1), (0, v71827), (9, 0)], [(0, v71832)], _, _, _)
          exact ev_ret rfl (by decide) (by decide) ⟨⟨_, rfl, by omega, by omega, g71831, k71831⟩, fun r hr h0 => by cases hr; exact ad71831 h0, fun r hr => by cases hr; exact ⟨_, (em71833), by omega, by omega, fun h0 => by have := pm71831 (by omega); omega⟩⟩
        · refine ev_aload_n rfl ?_
          refine ev_iload_n rfl ?_
          refine ev_in (d := (d + 2)) (a := 0) (b := 0) (cd' := c265_0) (m := 2) (L0 := [(2, 42), (0, a1)]) (jcall_v (A := [(0, a1)]) (S' := []) (r := 42) rfl (g.lt ad42) (g.tg ad42) (Nat.le_of_ble_eq_true rfl)) (by decide) ml265 pp265 (Nat.le_of_ble_eq_true rfl) rfl (by decide) (by decide) ?_
          refine ev_aload_n rfl ?_
          refine ev_iload_n rfl ?_
          refine ev_in (d := (d + 1)) (a := 0) (b := 0) (cd' := c264_0) (m := 2) (L0 := [(2, 42), (0, a1)]) (jcall_v (A := [(0, a1)]) (S' := []) (r := 42) rfl (g.lt ad42) (g.tg ad42) (Nat.le_of_ble_eq_true rfl)) (by decide) ml264 pp264 (Nat.le_of_ble_eq_true rfl) rfl (by decide) (by decide) ?_
          refine ev_iload_n rfl ?_
          refine ev_aload_n rfl ?_
          refine g_getv (r := 42) (v := v71815) g ad42 (by decide) ft12_17 (ev71815) ?_
          refine ev_icmpge f264_17 (fun c71834 => absurd c71834 (by omega)) (fun c71834 => ?_)
          refine ev_aload_n rfl ?_
          refine g_getp (r := 42) (c := 54) g ad42 (by decide) (by decide) rf42_16 ft12_16 ?_
          refine ev_iload_n rfl ?_
          refine g_baldv (v := v71827) g ad54 (by omega) (by omega) (ev71827) ?_
          refine ev_goto f264_18 ?_
          refine ev_ret rfl (by decide) (by decide) ?_
          show jEv _ _ _ _ _ _ _ (_, [(2, 42), (0, a1)], [(0, v71827)], _, _, _)
          refine ev_bipush ?_
          refine ev_bipush ?_
          refine ev_in (d := (d + 1)) (a := 0) (b := 0) (cd' := c242_0) (m := 3) (L0 := [(0, v71827), (0, 48), (0, 57)]) (jcall_s (A := [(0, 57), (0, 48), (0, v71827)]) (S' := []) (by decide) rfl (Nat.le_of_ble_eq_true rfl)) (by decide) ml242 pp242 (Nat.le_of_ble_eq_true rfl) rfl (by decide) (by decide) ?_
          refine ev_iload_n rfl ?_
          refine ev_iload_n rfl ?_
          refine ev_icmplt f242_14 (fun c71835 => ?_) (fun c71835 => ?_)
          · refine ev_iconst ?_
            refine ev_ret rfl (by decide) (by decide) ?_
            show jEv _ _ _ _ _ _ _ (_, [(2, 42), (0, a1)], [(0, 0)], _, _, _)
            refine ev_ret rfl (by decide) (by decide) ?_
            show jEv _ _ _ _ _ _ _ (_, [(2, 42), (0, a1), (0, a2), (0, a3), (0, 1), (0, v71827), (9, 0)], [(0, 0)], _, _, _)
            refine ev_ifeq f272_64 (fun c71836 => ?_) (fun c71836 => absurd c71836 (by omega))
            refine ev_iload rfl ?_
            refine ev_bipush ?_
            refine ev_isub (r := (v71827 - 65)) (by unfold w32; omega) ?_
            refine ev_istore (L' := [(2, 42), (0, a1), (0, a2), (0, a3), (0, 1), (0, v71827), (0, (v71827 - 65))]) (Nat.le_of_ble_eq_true rfl) rfl ?_
            refine ev_iload rfl ?_
            refine ev_iconst ?_
            refine ev_aload_n rfl ?_
            obtain ⟨v71837, ev71837, lv71837, uv71837⟩ := g.rd ad42 (show 19 < 66 by decide) rf42_19
            refine g_getv (r := 42) (v := v71837) g ad42 (by decide) ft12_19 ev71837 ?_
            refine ev_iconst ?_
            refine ev_isub (r := (v71837 - 1)) (by unfold w32; omega) ?_
            refine ev_in (d := (d + 2)) (a := 0) (b := 0) (cd' := c242_0) (m := 3) (L0 := [(0, (v71827 - 65)), (0, 0), (0, (v71837 - 1))]) (jcall_s (A := [(0, (v71837 - 1)), (0, 0), (0, (v71827 - 65))]) (S' := []) (by decide) rfl (Nat.le_of_ble_eq_true rfl)) (by decide) ml242 pp242 (Nat.le_of_ble_eq_true rfl) rfl (by decide) (by decide) ?_
            refine ev_iload_n rfl ?_
            refine ev_iload_n rfl ?_
            refine ev_icmplt f242_14 (fun c71838 => ?_) (fun c71838 => absurd c71838 (by omega))
            refine ev_iconst ?_
            refine ev_ret rfl (by decide) (by decide) ?_
            show jEv _ _ _ _ _ _ _ (_, [(2, 42), (0, a1), (0, a2), (0, a3), (0, 1), (0, v71827), (0, (v71827 - 65))], [(0, 0)], _, _, _)
            refine ev_ifne f272_92 (fun c71839 => absurd c71839 (by omega)) (fun c71839 => ?_)
            refine ev_aload_n rfl ?_
            refine ev_iload_n rfl ?_
            refine ev_in (d := (d + 2)) (a := 0) (b := 0) (cd' := c266_0) (m := 2) (L0 := [(2, 42), (0, a1)]) (jcall_v (A := [(0, a1)]) (S' := []) (r := 42) rfl (g.lt ad42) (g.tg ad42) (Nat.le_of_ble_eq_true rfl)) (by decide) ml266 pp266 (Nat.le_of_ble_eq_true rfl) rfl (by decide) (by decide) ?_
            refine ev_aload_n rfl ?_
            refine ev_iload_n rfl ?_
            refine g_putf (r := 42) g ad42 (by decide) ft12_20 (by decide) (fun e => absurd e nz12_20) rf42_20 (by decide) (by omega) (by omega) (fun h71840 e71840 g71840 => ?_)
            have k71840 := k0.wr e71840 rfl
            refine ev_iconst ?_
            refine ev_ret rfl (by decide) (by decide) ?_
            show jEv _ _ _ _ _ _ _ (_, [(2, 42), (0, a1), (0, a2), (0, a3), (0, 1), (0, v71827), (0, (v71827 - 65))], [(0, (-1))], _, _, _)
            exact ev_ret rfl (by decide) (by decide) ⟨⟨_, rfl, by omega, by omega, g71840, k71840⟩, fun r hr h0 => by cases hr; exfalso; omega, fun r hr => by cases hr; exact ⟨_, (((jw_ne e71840 (Or.inr (by decide))).trans ew0)), by omega, by omega, fun h0 => by exfalso; omega⟩⟩
          · refine ev_iload_n rfl ?_
            refine ev_iload_n rfl ?_
            refine ev_icmpgt f242_14 (fun c71841 => ?_) (fun c71841 => ?_)
            · refine ev_iconst ?_
              refine ev_ret rfl (by decide) (by decide) ?_
              show jEv _ _ _ _ _ _ _ (_, [(2, 42), (0, a1)], [(0, 0)], _, _, _)
              refine ev_ret rfl (by decide) (by decide) ?_
              show jEv _ _ _ _ _ _ _ (_, [(2, 42), (0, a1), (0, a2), (0, a3), (0, 1), (0, v71827), (9, 0)], [(0, 0)], _, _, _)
              refine ev_ifeq f272_64 (fun c71842 => ?_) (fun c71842 => absurd c71842 (by omega))
              refine ev_iload rfl ?_
              refine ev_bipush ?_
              refine ev_isub (r := (v71827 - 65)) (by unfold w32; omega) ?_
              refine ev_istore (L' := [(2, 42), (0, a1), (0, a2), (0, a3), (0, 1), (0, v71827), (0, (v71827 - 65))]) (Nat.le_of_ble_eq_true rfl) rfl ?_
              refine ev_iload rfl ?_
              refine ev_iconst ?_
              refine ev_aload_n rfl ?_
              obtain ⟨v71843, ev71843, lv71843, uv71843⟩ := g.rd ad42 (show 19 < 66 by decide) rf42_19
              refine g_getv (r := 42) (v := v71843) g ad42 (by decide) ft12_19 ev71843 ?_
              refine ev_iconst ?_
              refine ev_isub (r := (v71843 - 1)) (by unfold w32; omega) ?_
              refine ev_in (d := (d + 2)) (a := 0) (b := 0) (cd' := c242_0) (m := 3) (L0 := [(0, (v71827 - 65)), (0, 0), (0, (v71843 - 1))]) (jcall_s (A := [(0, (v71843 - 1)), (0, 0), (0, (v71827 - 65))]) (S' := []) (by decide) rfl (Nat.le_of_ble_eq_true rfl)) (by decide) ml242 pp242 (Nat.le_of_ble_eq_true rfl) rfl (by decide) (by decide) ?_
              refine ev_iload_n rfl ?_
              refine ev_iload_n rfl ?_
              refine ev_icmplt f242_14 (fun c71844 => ?_) (fun c71844 => ?_)
              · refine ev_iconst ?_
                refine ev_ret rfl (by decide) (by decide) ?_
                show jEv _ _ _ _ _ _ _ (_, [(2, 42), (0, a1), (0, a2), (0, a3), (0, 1), (0, v71827), (0, (v71827 - 65))], [(0, 0)], _, _, _)
                refine ev_ifne f272_92 (fun c71845 => absurd c71845 (by omega)) (fun c71845 => ?_)
                refine ev_aload_n rfl ?_
                refine ev_iload_n rfl ?_
                refine ev_in (d := (d + 2)) (a := 0) (b := 0) (cd' := c266_0) (m := 2) (L0 := [(2, 42), (0, a1)]) (jcall_v (A := [(0, a1)]) (S' := []) (r := 42) rfl (g.lt ad42) (g.tg ad42) (Nat.le_of_ble_eq_true rfl)) (by decide) ml266 pp266 (Nat.le_of_ble_eq_true rfl) rfl (by decide) (by decide) ?_
                refine ev_aload_n rfl ?_
                refine ev_iload_n rfl ?_
                refine g_putf (r := 42) g ad42 (by decide) ft12_20 (by decide) (fun e => absurd e nz12_20) rf42_20 (by decide) (by omega) (by omega) (fun h71846 e71846 g71846 => ?_)
                have k71846 := k0.wr e71846 rfl
                refine ev_iconst ?_
                refine ev_ret rfl (by decide) (by decide) ?_
                show jEv _ _ _ _ _ _ _ (_, [(2, 42), (0, a1), (0, a2), (0, a3), (0, 1), (0, v71827), (0, (v71827 - 65))], [(0, (-1))], _, _, _)
                exact ev_ret rfl (by decide) (by decide) ⟨⟨_, rfl, by omega, by omega, g71846, k71846⟩, fun r hr h0 => by cases hr; exfalso; omega, fun r hr => by cases hr; exact ⟨_, (((jw_ne e71846 (Or.inr (by decide))).trans ew0)), by omega, by omega, fun h0 => by exfalso; omega⟩⟩
              · refine ev_iload_n rfl ?_
                refine ev_iload_n rfl ?_
                refine ev_icmpgt f242_14 (fun c71847 => ?_) (fun c71847 => ?_)
                · refine ev_iconst ?_
                  refine ev_ret rfl (by decide) (by decide) ?_
                  show jEv _ _ _ _ _ _ _ (_, [(2, 42), (0, a1), (0, a2), (0, a3), (0, 1), (0, v71827), (0, (v71827 - 65))], [(0, 0)], _, _, _)
                  refine ev_ifne f272_92 (fun c71848 => absurd c71848 (by omega)) (fun c71848 => ?_)
                  refine ev_aload_n rfl ?_
                  refine ev_iload_n rfl ?_
                  refine ev_in (d := (d + 2)) (a := 0) (b := 0) (cd' := c266_0) (m := 2) (L0 := [(2, 42), (0, a1)]) (jcall_v (A := [(0, a1)]) (S' := []) (r := 42) rfl (g.lt ad42) (g.tg ad42) (Nat.le_of_ble_eq_true rfl)) (by decide) ml266 pp266 (Nat.le_of_ble_eq_true rfl) rfl (by decide) (by decide) ?_
                  refine ev_aload_n rfl ?_
                  refine ev_iload_n rfl ?_
                  refine g_putf (r := 42) g ad42 (by decide) ft12_20 (by decide) (fun e => absurd e nz12_20) rf42_20 (by decide) (by omega) (by omega) (fun h71849 e71849 g71849 => ?_)
                  have k71849 := k0.wr e71849 rfl
                  refine ev_iconst ?_
                  refine ev_ret rfl (by decide) (by decide) ?_
                  show jEv _ _ _ _ _ _ _ (_, [(2, 42), (0, a1), (0, a2), (0, a3), (0, 1), (0, v71827), (0, (v71827 - 65))], [(0, (-1))], _, _, _)
                  exact ev_ret rfl (by decide) (by decide) ⟨⟨_, rfl, by omega, by omega, g71849, k71849⟩, fun r hr h0 => by cases hr; exfalso; omega, fun r hr => by cases hr; exact ⟨_, (((jw_ne e71849 (Or.inr (by decide))).trans ew0)), by omega, by omega, fun h0 => by exfalso; omega⟩⟩
                · refine ev_iconst ?_
                  refine ev_goto f242_15 ?_
                  refine ev_ret rfl (by decide) (by decide) ?_
                  show jEv _ _ _ _ _ _ _ (_, [(2, 42), (0, a1), (0, a2), (0, a3), (0, 1), (0, v71827), (0, (v71827 - 65))], [(0, 1)], _, _, _)
                  refine ev_ifne f272_92 (fun c71850 => ?_) (fun c71850 => absurd c71850 (by omega))
                  have zc71851 := Lv.cap hL (by omega) (ev71827) (ev71843) (by omega) (by omega)
                  refine ev_aload_n rfl ?_
                  refine ev_aload_n rfl ?_
                  refine g_getp (r := 42) (c := 55) g ad42 (by decide) (by decide) rf42_18 ft12_18 ?_
                  refine ev_iload rfl ?_
                  refine g_iald g ad55 rt55 (by omega) (by omega) (fun v71852 ev71852 lv71852 uv71852 => ?_)
                  refine ev_iload_n rfl ?_
                  refine ev_iload_n rfl ?_
                  refine ev_iload rfl ?_
                  refine ev_call (jcall_v (A := [(0, 1), (0, a3), (0, a2), (0, v71852)]) (S' := []) (r := 42) rfl (g.lt ad42) (g.tg ad42) (Nat.le_of_ble_eq_true rfl)) (jOk_le (by omega) (rih g (by omega) (by omega) (by omega) (by omega) (by omega) (by omega) (by omega) (by omega) (by omega) (by omega) (ew0) (by omega) (by omega) (l0 := (v71827 - 65)) (b0 := b0) (by omega) hI (Iv.lv hI (by omega) (ev71843) (by omega) (by omega) (ev71852)) hb (by omega))) (by decide) (by decide) (fun w71853 h71853 q71853 => ?_)
                  obtain ⟨q71853, ad71853, ro71853⟩ := q71853
                  obtain ⟨v71854, rfl, lv71854, uv71854, g71853, kk71853⟩ := q71853
                  have ad71853 := ad71853 _ rfl
                  obtain ⟨m71855, em71855, lm71855, um71855, pm71853⟩ := ro71853 _ rfl
                  have k71853 := k0.tr kk71853 (by decide)
                  show jEv _ _ _ _ _ _ _ (_, [(2, 42), (0, a1), (0, a2), (0, a3), (0, 1), (0, v71827), (0, (v71827 - 65))], [(0, v71854)], _, _, _)
                  refine ev_ifge f272_116 (fun c71856 => ?_) (fun c71856 => ?_)
                  · refine ev_iload_n rfl ?_
                    refine ev_iconst ?_
                    refine ev_iadd (r := (a1 + 1)) (by unfold w32; omega) ?_
                    exact ev_ret rfl (by decide) (by decide) ⟨⟨_, rfl, by omega, by omega, g71853, k71853⟩, fun r hr h0 => by cases hr; exact (Ad.step (r' := (a1 + 1)) (Ad.rf _ _ _) (by omega) k71853 (fun _ => rfl) (((kk71853.v rfl).trans ev71827)) (by omega) (by omega) (by omega)), fun r hr => by cases hr; exact ⟨_, (em71855), by omega, by omega, fun h0 => by have := pm71853 (by omega); omega⟩⟩
                  · refine ev_aload_n rfl ?_
                    refine ev_iload_n rfl ?_
                    refine ev_in (d := (d + 2)) (a := 0) (b := 0) (cd' := c266_0) (m := 2) (L0 := [(2, 42), (0, a1)]) (jcall_v (A := [(0, a1)]) (S' := []) (r := 42) rfl (g71853.lt ad42) (g71853.tg ad42) (Nat.le_of_ble_eq_true rfl)) (by decide) ml266 pp266 (Nat.le_of_ble_eq_true rfl) rfl (by decide) (by decide) ?_
                    refine ev_aload_n rfl ?_
                    refine ev_iload_n rfl ?_
                    refine g_putf (r := 42) g71853 ad42 (by decide) ft12_20 (by decide) (fun e => absurd e nz12_20) rf42_20 (by decide) (by omega) (by omega) (fun h71857 e71857 g71857 => ?_)
                    have k71857 := k71853.wr e71857 rfl
                    refine ev_iconst ?_
                    refine ev_ret rfl (by decide) (by decide) ?_
                    show jEv _ _ _ _ _ _ _ (_, [(2, 42), (0, a1), (0, a2), (0, a3), (0, 1), (0, v71827), (0, (v71827 - 65))], [(0, (-1))], _, _, _)
                    exact ev_ret rfl (by decide) (by decide) ⟨⟨_, rfl, by omega, by omega, g71857, k71857⟩, fun r hr h0 => by cases hr; exfalso; omega, fun r hr => by cases hr; exact ⟨_, (((jw_ne e71857 (Or.inr (by decide))).trans em71855)), by omega, by omega, fun h0 => by exfalso; omega⟩⟩
            · refine ev_iconst ?_
              refine ev_goto f242_15 ?_
              refine ev_ret rfl (by decide) (by decide) ?_
              show jEv _ _ _ _ _ _ _ (_, [(2, 42), (0, a1)], [(0, 1)], _, _, _)
              refine ev_ret rfl (by decide) (by decide) ?_
              show jEv _ _ _ _ _ _ _ (_, [(2, 42), (0, a1), (0, a2), (0, a3), (0, 1), (0, v71827), (9, 0)], [(0, 1)], _, _, _)
              refine ev_ifeq f272_64 (fun c71858 => absurd c71858 (by omega)) (fun c71858 => ?_)
              refine ev_aload_n rfl ?_
              refine ev_iload_n rfl ?_
              refine ev_iload rfl ?_
              refine ev_call (jcall_v (A := [(0, 1), (0, a1)]) (S' := []) (r := 42) rfl (g.lt ad42) (g.tg ad42) (Nat.le_of_ble_eq_true rfl)) (jOk_le (by omega) (s269o g (by omega) (by omega) (by omega) (by omega) (by omega) (by omega) (ew0) (by omega) (by omega) (l0 := l0) (b0 := b0) (by omega) )) (by decide) (by decide) (fun w71859 h71859 q71859 => ?_)
              obtain ⟨q71859, ad71859, ro71859⟩ := q71859
              obtain ⟨v71860, rfl, lv71860, uv71860, g71859, kk71859⟩ := q71859
              have ad71859 := ad71859 _ rfl
              obtain ⟨m71861, em71861, lm71861, um71861, pm71859⟩ := ro71859 _ rfl
              have k71859 := k0.tr kk71859 (by decide)
              show jEv _ _ _ _ _ _ _ (_, [(2, 42), (0, a1), (0, a2), (0, a3), (0, 1), (0, v71827), (9, 0)], [(0, v71860)], _, _, _)
              exact ev_ret rfl (by decide) (by decide) ⟨⟨_, rfl, by omega, by omega, g71859, k71859⟩, fun r hr h0 => by cases hr; exact ad71859 h0, fun r hr => by cases hr; exact ⟨_, (em71861), by omega, by omega, fun h0 => by have := pm71859 (by omega); omega⟩⟩
      · refine ev_aload_n rfl ?_
        refine ev_iload_n rfl ?_
        refine ev_iload_n rfl ?_
        refine ev_iload_n rfl ?_
        refine ev_iload rfl ?_
        refine ev_call (jcall_v (A := [(0, 1), (0, a3), (0, a2), (0, a1)]) (S' := []) (r := 42) rfl (g.lt ad42) (g.tg ad42) (Nat.le_of_ble_eq_true rfl)) (jOk_le (by omega) (s271o_s g (by omega) (by omega) (by omega) (by omega) (by omega) (by omega) (by omega) (by omega) (by omega) (by omega) (ew0) (by omega) (by omega) (l0 := l0) (b0 := b0) (by omega) hI hL hb (by rw [(ev71827)]; omega)  hM (by omega) rih)) (by decide) (by decide) (fun w71862 h71862 q71862 => ?_)
        obtain ⟨q71862, ad71862, ro71862⟩ := q71862
        obtain ⟨v71863, rfl, lv71863, uv71863, g71862, kk71862⟩ := q71862
        have ad71862 := ad71862 _ rfl
        obtain ⟨m71864, em71864, lm71864, um71864, pm71862⟩ := ro71862 _ rfl
        have k71862 := k0.tr kk71862 (by decide)
        show jEv _ _ _ _ _ _ _ (_, [(2, 42), (0, a1), (0, a2), (0, a3), (0, 1), (0, v71827), (9, 0)], [(0, v71863)], _, _, _)
        exact ev_ret rfl (by decide) (by decide) ⟨⟨_, rfl, by omega, by omega, g71862, k71862⟩, fun r hr h0 => by cases hr; exact ad71862 h0, fun r hr => by cases hr; exact ⟨_, (em71864), by omega, by omega, fun h0 => by have := pm71862 (by omega); omega⟩⟩
    · refine ev_aload_n rfl ?_
      refine ev_iload_n rfl ?_
      refine ev_iload_n rfl ?_
      refine ev_iload_n rfl ?_
      refine ev_iload rfl ?_
      refine ev_call (jcall_v (A := [(0, 1), (0, a3), (0, a2), (0, a1)]) (S' := []) (r := 42) rfl (g.lt ad42) (g.tg ad42) (Nat.le_of_ble_eq_true rfl)) (jOk_le (by omega) (s270o_s g (by omega) (by omega) (by omega) (by omega) (by omega) (by omega) (by omega) (by omega) (by omega) (by omega) (ew0) (by omega) (by omega) (l0 := l0) (b0 := b0) (by omega) hI hL hb (by rw [(ev71827)]; omega)  hM (by omega) rih)) (by decide) (by decide) (fun w71865 h71865 q71865 => ?_)
      obtain ⟨q71865, ad71865, ro71865⟩ := q71865
      obtain ⟨v71866, rfl, lv71866, uv71866, g71865, kk71865⟩ := q71865
      have ad71865 := ad71865 _ rfl
      obtain ⟨m71867, em71867, lm71867, um71867, pm71865⟩ := ro71865 _ rfl
      have k71865 := k0.tr kk71865 (by decide)
      show jEv _ _ _ _ _ _ _ (_, [(2, 42), (0, a1), (0, a2), (0, a3), (0, 1), (0, v71827), (9, 0)], [(0, v71866)], _, _, _)
      exact ev_ret rfl (by decide) (by decide) ⟨⟨_, rfl, by omega, by omega, g71865, k71865⟩, fun r hr h0 => by cases hr; exact ad71865 h0, fun r hr => by cases hr; exact ⟨_, (em71867), by omega, by omega, fun h0 => by have := pm71865 (by omega); omega⟩⟩
theorem s272o_n (N : Nat) : ∀ {G : GH} {h : JH} (g : Gd G h) {l0 : Int} (ll0 : 0 ≤ l0) (ul0 : l0 ≤ 6) {b0 : Int} (lb0 : 1 ≤ b0) (ub0 : b0 ≤ 30000000) {a1 : Int} (la1 : 0 ≤ a1) (ua1 : a1 ≤ 202) {a2 : Int} (la2 : 0 ≤ a2) (ua2 : a2 ≤ 15) {a3 : Int} (la3 : 0 ≤ a3) (ua3 : a3 ≤ 12) {w0 : Int} (ew0 : h.2.2 42 21 = w0) (lw0 : 100 ≤ w0) (uw0 : w0 ≤ 200000000) (F0 : (b0 + w0) ≤ 200000000) (hI : Iv h) (hL : Lv h l0 a1) (hb : NB a3 = b0) (hN : 85 - (7 * a3 - l0) ≤ (N : Int)), jOk (3 + 4 * N) 0 0 272 [(2, 42), (0, a1), (0, a2), (0, a3), (0, 1)] h (fun v h' => PI G [(42, 21), (42, 22)] h 0 (-1) 200 v h' ∧ (∀ r, v = some (0, r) → 0 ≤ r → Ad h l0 a1 r) ∧ (∀ r, v = some (0, r) → RO h' w0 b0 r)) := by
  induction N with
  | zero => intro G h g l0 ll0 ul0 b0 lb0 ub0 a1 la1 ua1 a2 la2 ua2 a3 la3 ua3 w0 ew0 lw0 uw0 F0 hI hL hb hN; exfalso; omega
  | succ N ih =>
    intro G h g l0 ll0 ul0 b0 lb0 ub0 a1 la1 ua1 a2 la2 ua2 a3 la3 ua3 w0 ew0 lw0 uw0 F0 hI hL hb hN
    exact jOk_le (by omega) (s272o_s g ll0 ul0 lb0 ub0 la1 ua1 la2 ua2 la3 ua3 ew0 lw0 uw0 F0 hI hL hb (M := (7 * a3 - l0)) rfl (d := 3 + 4 * N) (by omega) (fun {G} {h} g {l0} ll0 ul0 {b0} lb0 ub0 {a1} la1 ua1 {a2} la2 ua2 {a3} la3 ua3 {w0} ew0 lw0 uw0 F0 hI hL hb hm => ih g ll0 ul0 lb0 ub0 la1 ua1 la2 ua2 la3 ua3 ew0 lw0 uw0 F0 hI hL hb (by omega)))
theorem s272o {G : GH} {h : JH} (g : Gd G h) {l0 : Int} (ll0 : 0 ≤ l0) (ul0 : l0 ≤ 6) {b0 : Int} (lb0 : 1 ≤ b0) (ub0 : b0 ≤ 30000000) {a1 : Int} (la1 : 0 ≤ a1) (ua1 : a1 ≤ 202) {a2 : Int} (la2 : 0 ≤ a2) (ua2 : a2 ≤ 15) {a3 : Int} (la3 : 0 ≤ a3) (ua3 : a3 ≤ 12) {w0 : Int} (ew0 : h.2.2 42 21 = w0) (lw0 : 100 ≤ w0) (uw0 : w0 ≤ 200000000) (F0 : (b0 + w0) ≤ 200000000) (hI : Iv h) (hL : Lv h l0 a1) (hb : NB a3 = b0) : jOk 371 0 0 272 [(2, 42), (0, a1), (0, a2), (0, a3), (0, 1)] h (fun v h' => PI G [(42, 21), (42, 22)] h 0 (-1) 200 v h' ∧ (∀ r, v = some (0, r) → 0 ≤ r → Ad h l0 a1 r) ∧ (∀ r, v = some (0, r) → RO h' w0 b0 r)) := jOk_le (by decide) (s272o_n 92 g ll0 ul0 lb0 ub0 la1 ua1 la2 ua2 la3 ua3 ew0 lw0 uw0 F0 hI hL hb (by omega))
