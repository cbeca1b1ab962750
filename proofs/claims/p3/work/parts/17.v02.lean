set_option maxHeartbeats 4000000 in
theorem s269i {G : GH} {h : JH} (g : Gd G h) {l0 : Int} (ll0 : 0 ≤ l0) (ul0 : l0 ≤ 6) {b0 : Int} (lb0 : 1 ≤ b0) (ub0 : b0 ≤ 30000000) {k0 : Int} (lk0 : 0 ≤ k0) (uk0 : k0 ≤ 12) {a1 : Int} (la1 : 0 ≤ a1) (ua1 : a1 ≤ 202) {w0 : Int} (ew0 : h.2.2 42 9 = w0) (lw0 : 0 ≤ w0) (uw0 : w0 ≤ 5) {w1 : Int} (ew1 : h.2.2 42 21 = w1) (lw1 : 0 ≤ w1) (uw1 : w1 ≤ 99) (F0 : (b0 + w1) ≤ 200000000) {S : List Nat} : jOk 3 0 0 269 [(2, 42), (0, a1), (0, 1)] h (fun v h' => PI G [(42, 21), (42, 22), (49, 0), (50, 0), (51, 0), (52, 0), (53, 0)] h 0 (-1) 200 v h' ∧ (∀ r, v = some (0, r) → 0 ≤ r → Ad h l0 a1 r) ∧ (∀ r, v = some (0, r) → RI h h' w0 w1 k0 b0 S r)) := by
  refine ⟨by decide, by rw [ml269]; exact Nat.le_of_ble_eq_true rfl, ?_⟩
  rw [ml269, pp269]
  show jEv _ none _ c269_0 0 0 _ (c269_0, [(2, 42), (0, a1), (0, 1), (9, 0), (9, 0), (9, 0), (9, 0)], [], h, 0, 0)
  have k0 := Kp.rf [(42, 21), (42, 22), (49, 0), (50, 0), (51, 0), (52, 0), (53, 0)] h
  refine ev_iload_n rfl ?_
  refine ev_istore_n (L' := [(2, 42), (0, a1), (0, 1), (0, a1), (9, 0), (9, 0), (9, 0)]) (Nat.le_of_ble_eq_true rfl) rfl ?_
  refine ev_aload_n rfl ?_
  refine ev_iload_n rfl ?_
  refine ev_in (d := 1) (a := 0) (b := 0) (cd' := c264_0) (m := 2) (L0 := [(2, 42), (0, a1)]) (jcall_v (A := [(0, a1)]) (S' := []) (r := 42) rfl (g.lt ad42) (g.tg ad42) (Nat.le_of_ble_eq_true rfl)) (by decide) ml264 pp264 (Nat.le_of_ble_eq_true rfl) rfl (by decide) (by decide) ?_
  refine ev_iload_n rfl ?_
  refine ev_aload_n rfl ?_
  obtain ⟨v72888, ev72888, lv72888, uv72888⟩ := g.rd ad42 (show 17 < 66 by decide) rf42_17
  refine g_getv (r := 42) (v := v72888) g ad42 (by decide) ft12_17 ev72888 ?_
  refine ev_icmpge f264_17 (fun c72889 => ?_) (fun c72889 => ?_)
  · refine ev_iconst ?_
    refine ev_ret rfl (by decide) (by decide) ?_
    show jEv _ _ _ _ _ _ _ (_, [(2, 42), (0, a1), (0, 1), (0, a1), (9, 0), (9, 0), (9, 0)], [(0, (-1))], _, _, _)
    refine ev_bipush ?_
    refine ev_icmpne f269_16 (fun c72890 => ?_) (fun c72890 => absurd c72890 (by omega))
    refine ev_iconst ?_
    refine ev_istore (L' := [(2, 42), (0, a1), (0, 1), (0, a1), (0, 0), (9, 0), (9, 0)]) (Nat.le_of_ble_eq_true rfl) rfl ?_
    refine ev_iload rfl ?_
    refine ev_ifeq f269_27 (fun c72891 => ?_) (fun c72891 => absurd c72891 (by omega))
    refine ev_aload_n rfl ?_
    refine ev_iload_n rfl ?_
    refine ev_in (d := 1) (a := 0) (b := 0) (cd' := c265_0) (m := 2) (L0 := [(2, 42), (0, a1)]) (jcall_v (A := [(0, a1)]) (S' := []) (r := 42) rfl (g.lt ad42) (g.tg ad42) (Nat.le_of_ble_eq_true rfl)) (by decide) ml265 pp265 (Nat.le_of_ble_eq_true rfl) rfl (by decide) (by decide) ?_
    refine ev_aload_n rfl ?_
    refine ev_iload_n rfl ?_
    refine ev_in (d := 0) (a := 0) (b := 0) (cd' := c264_0) (m := 2) (L0 := [(2, 42), (0, a1)]) (jcall_v (A := [(0, a1)]) (S' := []) (r := 42) rfl (g.lt ad42) (g.tg ad42) (Nat.le_of_ble_eq_true rfl)) (by decide) ml264 pp264 (Nat.le_of_ble_eq_true rfl) rfl (by decide) (by decide) ?_
    refine ev_iload_n rfl ?_
    refine ev_aload_n rfl ?_
    refine g_getv (r := 42) (v := v72888) g ad42 (by decide) ft12_17 (ev72888) ?_
    refine ev_icmpge f264_17 (fun c72892 => ?_) (fun c72892 => absurd c72892 (by omega))
    refine ev_iconst ?_
    refine ev_ret rfl (by decide) (by decide) ?_
    show jEv _ _ _ _ _ _ _ (_, [(2, 42), (0, a1)], [(0, (-1))], _, _, _)
    refine ev_bipush ?_
    refine ev_bipush ?_
    refine ev_in (d := 0) (a := 0) (b := 0) (cd' := c242_0) (m := 3) (L0 := [(0, (-1)), (0, 48), (0, 57)]) (jcall_s (A := [(0, 57), (0, 48), (0, (-1))]) (S' := []) (by decide) rfl (Nat.le_of_ble_eq_true rfl)) (by decide) ml242 pp242 (Nat.le_of_ble_eq_true rfl) rfl (by decide) (by decide) ?_
    refine ev_iload_n rfl ?_
    refine ev_iload_n rfl ?_
    refine ev_icmplt f242_14 (fun c72893 => ?_) (fun c72893 => absurd c72893 (by omega))
    refine ev_iconst ?_
    refine ev_ret rfl (by decide) (by decide) ?_
    show jEv _ _ _ _ _ _ _ (_, [(2, 42), (0, a1)], [(0, 0)], _, _, _)
    refine ev_ret rfl (by decide) (by decide) ?_
    show jEv _ _ _ _ _ _ _ (_, [(2, 42), (0, a1), (0, 1), (0, a1), (0, 0), (9, 0), (9, 0)], [(0, 0)], _, _, _)
    refine ev_ifne f269_41 (fun c72894 => absurd c72894 (by omega)) (fun c72894 => ?_)
    refine ev_aload_n rfl ?_
    refine ev_iload_n rfl ?_
    refine ev_in (d := 1) (a := 0) (b := 0) (cd' := c266_0) (m := 2) (L0 := [(2, 42), (0, a1)]) (jcall_v (A := [(0, a1)]) (S' := []) (r := 42) rfl (g.lt ad42) (g.tg ad42) (Nat.le_of_ble_eq_true rfl)) (by decide) ml266 pp266 (Nat.le_of_ble_eq_true rfl) rfl (by decide) (by decide) ?_
    refine ev_aload_n rfl ?_
    refine ev_iload_n rfl ?_
    refine g_putf (r := 42) g ad42 (by decide) ft12_20 (by decide) (fun e => absurd e nz12_20) rf42_20 (by decide) (by omega) (by omega) (fun h72895 e72895 g72895 => ?_)
    have k72895 := k0.wr e72895 rfl
    refine ev_iconst ?_
    refine ev_ret rfl (by decide) (by decide) ?_
    show jEv _ _ _ _ _ _ _ (_, [(2, 42), (0, a1), (0, 1), (0, a1), (0, 0), (9, 0), (9, 0)], [(0, (-1))], _, _, _)
    exact ev_ret rfl (by decide) (by decide) ⟨⟨_, rfl, by omega, by omega, g72895, k72895⟩, fun r hr h0 => by cases hr; exfalso; omega, fun r hr => by cases hr; exact ⟨_, (((jw_ne e72895 (Or.inr (by decide))).trans ew1)), by omega, by omega, (Fr.kp (Fr.rf _ _) ((Kp.rf [(42, 0)] _).wr e72895 rfl) (fun _ => rfl) (fun _ => rfl) (fun _ => rfl) (fun _ => rfl)), fun h0 => by exfalso; omega, fun h0 => by exfalso; omega⟩⟩
  · refine ev_aload_n rfl ?_
    refine g_getp (r := 42) (c := 54) g ad42 (by decide) (by decide) rf42_16 ft12_16 ?_
    refine ev_iload_n rfl ?_
    refine g_bald g ad54 rt54 (by omega) (by omega) (fun v72896 ev72896 lv72896 uv72896 => ?_)
    refine ev_goto f264_18 ?_
    refine ev_ret rfl (by decide) (by decide) ?_
    show jEv _ _ _ _ _ _ _ (_, [(2, 42), (0, a1), (0, 1), (0, a1), (9, 0), (9, 0), (9, 0)], [(0, v72896)], _, _, _)
    refine ev_bipush ?_
    refine ev_icmpne f269_16 (fun c72897 => ?_) (fun c72897 => ?_)
    · refine ev_iconst ?_
      refine ev_istore (L' := [(2, 42), (0, a1), (0, 1), (0, a1), (0, 0), (9, 0), (9, 0)]) (Nat.le_of_ble_eq_true rfl) rfl ?_
      refine ev_iload rfl ?_
      refine ev_ifeq f269_27 (fun c72898 => ?_) (fun c72898 => absurd c72898 (by omega))
      refine ev_aload_n rfl ?_
      refine ev_iload_n rfl ?_
      refine ev_in (d := 1) (a := 0) (b := 0) (cd' := c265_0) (m := 2) (L0 := [(2, 42), (0, a1)]) (jcall_v (A := [(0, a1)]) (S' := []) (r := 42) rfl (g.lt ad42) (g.tg ad42) (Nat.le_of_ble_eq_true rfl)) (by decide) ml265 pp265 (Nat.le_of_ble_eq_true rfl) rfl (by decide) (by decide) ?_
      refine ev_aload_n rfl ?_
      refine ev_iload_n rfl ?_
      refine ev_in (d := 0) (a := 0) (b := 0) (cd' := c264_0) (m := 2) (L0 := [(2, 42), (0, a1)]) (jcall_v (A := [(0, a1)]) (S' := []) (r := 42) rfl (g.lt ad42) (g.tg ad42) (Nat.le_of_ble_eq_true rfl)) (by decide) ml264 pp264 (Nat.le_of_ble_eq_true rfl) rfl (by decide) (by decide) ?_
      refine ev_iload_n rfl ?_
      refine ev_aload_n rfl ?_
      refine g_getv (r := 42) (v := v72888) g ad42 (by decide) ft12_17 (ev72888) ?_
      refine ev_icmpge f264_17 (fun c72899 => absurd c72899 (by omega)) (fun c72899 => ?_)
      refine ev_aload_n rfl ?_
      refine g_getp (r := 42) (c := 54) g ad42 (by decide) (by decide) rf42_16 ft12_16 ?_
      refine ev_iload_n rfl ?_
      refine g_baldv (v := v72896) g ad54 (by omega) (by omega) (ev72896) ?_
      refine ev_goto f264_18 ?_
      refine ev_ret rfl (by decide) (by decide) ?_
      show jEv _ _ _ _ _ _ _ (_, [(2, 42), (0, a1)], [(0, v72896)], _, _, _)
      refine ev_bipush ?_
      refine ev_bipush ?_
      refine ev_in (d := 0) (a := 0) (b := 0) (cd' := c242_0) (m := 3) (L0 := [(0, v72896), (0, 48), (0, 57)]) (jcall_s (A := [(0, 57), (0, 48), (0, v72896)]) (S' := []) (by decide) rfl (Nat.le_of_ble_eq_true rfl)) (by decide) ml242 pp242 (Nat.le_of_ble_eq_true rfl) rfl (by decide) (by decide) ?_
      refine ev_iload_n rfl ?_
      refine ev_iload_n rfl ?_
      refine ev_icmplt f242_14 (fun c72900 => ?_) (fun c72900 => ?_)
      · refine ev_iconst ?_
        refine ev_ret rfl (by decide) (by decide) ?_
        show jEv _ _ _ _ _ _ _ (_, [(2, 42), (0, a1)], [(0, 0)], _, _, _)
        refine ev_ret rfl (by decide) (by decide) ?_
        show jEv _ _ _ _ _ _ _ (_, [(2, 42), (0, a1), (0, 1), (0, a1), (0, 0), (9, 0), (9, 0)], [(0, 0)], _, _, _)
        refine ev_ifne f269_41 (fun c72901 => absurd c72901 (by omega)) (fun c72901 => ?_)
        refine ev_aload_n rfl ?_
        refine ev_iload_n rfl ?_
        refine ev_in (d := 1) (a := 0) (b := 0) (cd' := c266_0) (m := 2) (L0 := [(2, 42), (0, a1)]) (jcall_v (A := [(0, a1)]) (S' := []) (r := 42) rfl (g.lt ad42) (g.tg ad42) (Nat.le_of_ble_eq_true rfl)) (by decide) ml266 pp266 (Nat.le_of_ble_eq_true rfl) rfl (by decide) (by decide) ?_
        refine ev_aload_n rfl ?_
        refine ev_iload_n rfl ?_
        refine g_putf (r := 42) g ad42 (by decide) ft12_20 (by decide) (fun e => absurd e nz12_20) rf42_20 (by decide) (by omega) (by omega) (fun h72902 e72902 g72902 => ?_)
        have k72902 := k0.wr e72902 rfl
        refine ev_iconst ?_
        refine ev_ret rfl (by decide) (by decide) ?_
        show jEv _ _ _ _ _ _ _ (_, [(2, 42), (0, a1), (0, 1), (0, a1), (0, 0), (9, 0), (9, 0)], [(0, (-1))], _, _, _)
        exact ev_ret rfl (by decide) (by decide) ⟨⟨_, rfl, by omega, by omega, g72902, k72902⟩, fun r hr h0 => by cases hr; exfalso; omega, fun r hr => by cases hr; exact ⟨_, (((jw_ne e72902 (Or.inr (by decide))).trans ew1)), by omega, by omega, (Fr.kp (Fr.rf _ _) ((Kp.rf [(42, 0)] _).wr e72902 rfl) (fun _ => rfl) (fun _ => rfl) (fun _ => rfl) (fun _ => rfl)), fun h0 => by exfalso; omega, fun h0 => by exfalso; omega⟩⟩
      · refine ev_iload_n rfl ?_
        refine ev_iload_n rfl ?_
        refine ev_icmpgt f242_14 (fun c72903 => ?_) (fun c72903 => ?_)
        · refine ev_iconst ?_
          refine ev_ret rfl (by decide) (by decide) ?_
          show jEv _ _ _ _ _ _ _ (_, [(2, 42), (0, a1)], [(0, 0)], _, _, _)
          refine ev_ret rfl (by decide) (by decide) ?_
          show jEv _ _ _ _ _ _ _ (_, [(2, 42), (0, a1), (0, 1), (0, a1), (0, 0), (9, 0), (9, 0)], [(0, 0)], _, _, _)
          refine ev_ifne f269_41 (fun c72904 => absurd c72904 (by omega)) (fun c72904 => ?_)
          refine ev_aload_n rfl ?_
          refine ev_iload_n rfl ?_
          refine ev_in (d := 1) (a := 0) (b := 0) (cd' := c266_0) (m := 2) (L0 := [(2, 42), (0, a1)]) (jcall_v (A := [(0, a1)]) (S' := []) (r := 42) rfl (g.lt ad42) (g.tg ad42) (Nat.le_of_ble_eq_true rfl)) (by decide) ml266 pp266 (Nat.le_of_ble_eq_true rfl) rfl (by decide) (by decide) ?_
          refine ev_aload_n rfl ?_
          refine ev_iload_n rfl ?_
          refine g_putf (r := 42) g ad42 (by decide) ft12_20 (by decide) (fun e => absurd e nz12_20) rf42_20 (by decide) (by omega) (by omega) (fun h72905 e72905 g72905 => ?_)
          have k72905 := k0.wr e72905 rfl
          refine ev_iconst ?_
          refine ev_ret rfl (by decide) (by decide) ?_
          show jEv _ _ _ _ _ _ _ (_, [(2, 42), (0, a1), (0, 1), (0, a1), (0, 0), (9, 0), (9, 0)], [(0, (-1))], _, _, _)
          exact ev_ret rfl (by decide) (by decide) ⟨⟨_, rfl, by omega, by omega, g72905, k72905⟩, fun r hr h0 => by cases hr; exfalso; omega, fun r hr => by cases hr; exact ⟨_, (((jw_ne e72905 (Or.inr (by decide))).trans ew1)), by omega, by omega, (Fr.kp (Fr.rf _ _) ((Kp.rf [(42, 0)] _).wr e72905 rfl) (fun _ => rfl) (fun _ => rfl) (fun _ => rfl) (fun _ => rfl)), fun h0 => by exfalso; omega, fun h0 => by exfalso; omega⟩⟩
        · refine ev_iconst ?_
          refine ev_goto f242_15 ?_
          refine ev_ret rfl (by decide) (by decide) ?_
          show jEv _ _ _ _ _ _ _ (_, [(2, 42), (0, a1)], [(0, 1)], _, _, _)
          refine ev_ret rfl (by decide) (by decide) ?_
          show jEv _ _ _ _ _ _ _ (_, [(2, 42), (0, a1), (0, 1), (0, a1), (0, 0), (9, 0), (9, 0)], [(0, 1)], _, _, _)
          refine ev_ifne f269_41 (fun c72906 => ?_) (fun c72906 => absurd c72906 (by omega))
          refine ev_iconst ?_
          refine ev_istore (L' := [(2, 42), (0, a1), (0, 1), (0, a1), (0, 0), (0, 0), (9, 0)]) (Nat.le_of_ble_eq_true rfl) rfl ?_
          refine ev_iconst ?_
          refine ev_istore (L' := [(2, 42), (0, a1), (0, 1), (0, a1), (0, 0), (0, 0), (0, 0)]) (Nat.le_of_ble_eq_true rfl) rfl ?_
          refine ev_iload rfl ?_
          refine ev_iconst ?_
          refine ev_icmpge f269_86 (fun c72907 => absurd c72907 (by omega)) (fun c72907 => ?_)
          refine ev_aload_n rfl ?_
          refine ev_iload_n rfl ?_
          refine ev_in (d := 1) (a := 0) (b := 0) (cd' := c265_0) (m := 2) (L0 := [(2, 42), (0, a1)]) (jcall_v (A := [(0, a1)]) (S' := []) (r := 42) rfl (g.lt ad42) (g.tg ad42) (Nat.le_of_ble_eq_true rfl)) (by decide) ml265 pp265 (Nat.le_of_ble_eq_true rfl) rfl (by decide) (by decide) ?_
          refine ev_aload_n rfl ?_
          refine ev_iload_n rfl ?_
          refine ev_in (d := 0) (a := 0) (b := 0) (cd' := c264_0) (m := 2) (L0 := [(2, 42), (0, a1)]) (jcall_v (A := [(0, a1)]) (S' := []) (r := 42) rfl (g.lt ad42) (g.tg ad42) (Nat.le_of_ble_eq_true rfl)) (by decide) ml264 pp264 (Nat.le_of_ble_eq_true rfl) rfl (by decide) (by decide) ?_
          refine ev_iload_n rfl ?_
          refine ev_aload_n rfl ?_
          refine g_getv (r := 42) (v := v72888) g ad42 (by decide) ft12_17 (ev72888) ?_
          refine ev_icmpge f264_17 (fun c72908 => absurd c72908 (by omega)) (fun c72908 => ?_)
          refine ev_aload_n rfl ?_
          refine g_getp (r := 42) (c := 54) g ad42 (by decide) (by decide) rf42_16 ft12_16 ?_
          refine ev_iload_n rfl ?_
          refine g_baldv (v := v72896) g ad54 (by omega) (by omega) (ev72896) ?_
          refine ev_goto f264_18 ?_
          refine ev_ret rfl (by decide) (by decide) ?_
          show jEv _ _ _ _ _ _ _ (_, [(2, 42), (0, a1)], [(0, v72896)], _, _, _)
          refine ev_bipush ?_
          refine ev_bipush ?_
          refine ev_in (d := 0) (a := 0) (b := 0) (cd' := c242_0) (m := 3) (L0 := [(0, v72896), (0, 48), (0, 57)]) (jcall_s (A := [(0, 57), (0, 48), (0, v72896)]) (S' := []) (by decide) rfl (Nat.le_of_ble_eq_true rfl)) (by decide) ml242 pp242 (Nat.le_of_ble_eq_true rfl) rfl (by decide) (by decide) ?_
          refine ev_iload_n rfl ?_
          refine ev_iload_n rfl ?_
          refine ev_icmplt f242_14 (fun c72909 => absurd c72909 (by omega)) (fun c72909 => ?_)
          refine ev_iload_n rfl ?_
          refine ev_iload_n rfl ?_
          refine ev_icmpgt f242_14 (fun c72910 => absurd c72910 (by omega)) (fun c72910 => ?_)
          refine ev_iconst ?_
          refine ev_goto f242_15 ?_
          refine ev_ret rfl (by decide) (by decide) ?_
          show jEv _ _ _ _ _ _ _ (_, [(2, 42), (0, a1)], [(0, 1)], _, _, _)
          refine ev_ret rfl (by decide) (by decide) ?_
          show jEv _ _ _ _ _ _ _ (_, [(2, 42), (0, a1), (0, 1), (0, a1), (0, 0), (0, 0), (0, 0)], [(0, 1)], _, _, _)
          refine ev_ifeq f269_86 (fun c72911 => absurd c72911 (by omega)) (fun c72911 => ?_)
          refine ev_bipush ?_
          refine ev_iload rfl ?_
          refine ev_imul (r := 0) (by decide) ?_
          refine ev_aload_n rfl ?_
          refine ev_iload_n rfl ?_
          refine ev_in (d := 1) (a := 0) (b := 0) (cd' := c264_0) (m := 2) (L0 := [(2, 42), (0, a1)]) (jcall_v (A := [(0, a1)]) (S' := [(0, 0)]) (r := 42) rfl (g.lt ad42) (g.tg ad42) (Nat.le_of_ble_eq_true rfl)) (by decide) ml264 pp264 (Nat.le_of_ble_eq_true rfl) rfl (by decide) (by decide) ?_
          refine ev_iload_n rfl ?_
          refine ev_aload_n rfl ?_
          refine g_getv (r := 42) (v := v72888) g ad42 (by decide) ft12_17 (ev72888) ?_
          refine ev_icmpge f264_17 (fun c72912 => absurd c72912 (by omega)) (fun c72912 => ?_)
          refine ev_aload_n rfl ?_
          refine g_getp (r := 42) (c := 54) g ad42 (by decide) (by decide) rf42_16 ft12_16 ?_
          refine ev_iload_n rfl ?_
          refine g_baldv (v := v72896) g ad54 (by omega) (by omega) (ev72896) ?_
          refine ev_goto f264_18 ?_
          refine ev_ret rfl (by decide) (by decide) ?_
          show jEv _ _ _ _ _ _ _ (_, [(2, 42), (0, a1), (0, 1), (0, a1), (0, 0), (0, 0), (0, 0)], [(0, v72896), (0, 0)], _, _, _)
          refine ev_iadd (r := v72896) (by unfold w32; omega) ?_
          refine ev_bipush ?_
          refine ev_isub (r := (v72896 - 48)) (by unfold w32; omega) ?_
          refine ev_istore (L' := [(2, 42), (0, a1), (0, 1), (0, a1), (0, 0), (0, (v72896 - 48)), (0, 0)]) (Nat.le_of_ble_eq_true rfl) rfl ?_
          refine ev_iinc (w := 1) (L' := [(2, 42), (0, a1), (0, 1), (0, a1), (0, 0), (0, (v72896 - 48)), (0, 1)]) rfl (by decide) rfl ?_
          refine ev_iinc (w := (a1 + 1)) (L' := [(2, 42), (0, a1), (0, 1), (0, (a1 + 1)), (0, 0), (0, (v72896 - 48)), (0, 1)]) rfl (by unfold w32; omega) rfl ?_
          refine ev_goto f269_47 ?_
          refine ev_iload rfl ?_
          refine ev_iconst ?_
          refine ev_icmpge f269_86 (fun c72913 => absurd c72913 (by omega)) (fun c72913 => ?_)
          refine ev_aload_n rfl ?_
          refine ev_iload_n rfl ?_
          refine ev_in (d := 1) (a := 0) (b := 0) (cd' := c265_0) (m := 2) (L0 := [(2, 42), (0, (a1 + 1))]) (jcall_v (A := [(0, (a1 + 1))]) (S' := []) (r := 42) rfl (g.lt ad42) (g.tg ad42) (Nat.le_of_ble_eq_true rfl)) (by decide) ml265 pp265 (Nat.le_of_ble_eq_true rfl) rfl (by decide) (by decide) ?_
          refine ev_aload_n rfl ?_
          refine ev_iload_n rfl ?_
          refine ev_in (d := 0) (a := 0) (b := 0) (cd' := c264_0) (m := 2) (L0 := [(2, 42), (0, (a1 + 1))]) (jcall_v (A := [(0, (a1 + 1))]) (S' := []) (r := 42) rfl (g.lt ad42) (g.tg ad42) (Nat.le_of_ble_eq_true rfl)) (by decide) ml264 pp264 (Nat.le_of_ble_eq_true rfl) rfl (by decide) (by decide) ?_
          refine ev_iload_n rfl ?_
          refine ev_aload_n rfl ?_
          refine g_getv (r := 42) (v := v72888) g ad42 (by decide) ft12_17 (ev72888) ?_
          refine ev_icmpge f264_17 (fun c72914 => ?_) (fun c72914 => ?_)
          · refine ev_iconst ?_
            refine ev_ret rfl (by decide) (by decide) ?_
            show jEv _ _ _ _ _ _ _ (_, [(2, 42), (0, (a1 + 1))], [(0, (-1))], _, _, _)
            refine ev_bipush ?_
            refine ev_bipush ?_
            refine ev_in (d := 0) (a := 0) (b := 0) (cd' := c242_0) (m := 3) (L0 := [(0, (-1)), (0, 48), (0, 57)]) (jcall_s (A := [(0, 57), (0, 48), (0, (-1))]) (S' := []) (by decide) rfl (Nat.le_of_ble_eq_true rfl)) (by decide) ml242 pp242 (Nat.le_of_ble_eq_true rfl) rfl (by decide) (by decide) ?_
            refine ev_iload_n rfl ?_
            refine ev_iload_n rfl ?_
            refine ev_icmplt f242_14 (fun c72915 => ?_) (fun c72915 => absurd c72915 (by omega))
            refine ev_iconst ?_
            refine ev_ret rfl (by decide) (by decide) ?_
            show jEv _ _ _ _ _ _ _ (_, [(2, 42), (0, (a1 + 1))], [(0, 0)], _, _, _)
            refine ev_ret rfl (by decide) (by decide) ?_
            show jEv _ _ _ _ _ _ _ (_, [(2, 42), (0, a1), (0, 1), (0, (a1 + 1)), (0, 0), (0, (v72896 - 48)), (0, 1)], [(0, 0)], _, _, _)
            refine ev_ifeq f269_86 (fun c72916 => ?_) (fun c72916 => absurd c72916 (by omega))
            refine ev_aload_n rfl ?_
            refine ev_iload_n rfl ?_
            refine ev_in (d := 1) (a := 0) (b := 0) (cd' := c265_0) (m := 2) (L0 := [(2, 42), (0, (a1 + 1))]) (jcall_v (A := [(0, (a1 + 1))]) (S' := []) (r := 42) rfl (g.lt ad42) (g.tg ad42) (Nat.le_of_ble_eq_true rfl)) (by decide) ml265 pp265 (Nat.le_of_ble_eq_true rfl) rfl (by decide) (by decide) ?_
            refine ev_aload_n rfl ?_
            refine ev_iload_n rfl ?_
            refine ev_in (d := 0) (a := 0) (b := 0) (cd' := c264_0) (m := 2) (L0 := [(2, 42), (0, (a1 + 1))]) (jcall_v (A := [(0, (a1 + 1))]) (S' := []) (r := 42) rfl (g.lt ad42) (g.tg ad42) (Nat.le_of_ble_eq_true rfl)) (by decide) ml264 pp264 (Nat.le_of_ble_eq_true rfl) rfl (by decide) (by decide) ?_
            refine ev_iload_n rfl ?_
            refine ev_aload_n rfl ?_
            refine g_getv (r := 42) (v := v72888) g ad42 (by decide) ft12_17 (ev72888) ?_
            refine ev_icmpge f264_17 (fun c72917 => ?_) (fun c72917 => absurd c72917 (by omega))
            refine ev_iconst ?_
            refine ev_ret rfl (by decide) (by decide) ?_
            show jEv _ _ _ _ _ _ _ (_, [(2, 42), (0, (a1 + 1))], [(0, (-1))], _, _, _)
            refine ev_bipush ?_
            refine ev_bipush ?_
            refine ev_in (d := 0) (a := 0) (b := 0) (cd' := c242_0) (m := 3) (L0 := [(0, (-1)), (0, 48), (0, 57)]) (jcall_s (A := [(0, 57), (0, 48), (0, (-1))]) (S' := []) (by decide) rfl (Nat.le_of_ble_eq_true rfl)) (by decide) ml242 pp242 (Nat.le_of_ble_eq_true rfl) rfl (by decide) (by decide) ?_
            refine ev_iload_n rfl ?_
            refine ev_iload_n rfl ?_
            refine ev_icmplt f242_14 (fun c72918 => ?_) (fun c72918 => absurd c72918 (by omega))
            refine ev_iconst ?_
            refine ev_ret rfl (by decide) (by decide) ?_
            show jEv _ _ _ _ _ _ _ (_, [(2, 42), (0, (a1 + 1))], [(0, 0)], _, _, _)
            refine ev_ret rfl (by decide) (by decide) ?_
            show jEv _ _ _ _ _ _ _ (_, [(2, 42), (0, a1), (0, 1), (0, (a1 + 1)), (0, 0), (0, (v72896 - 48)), (0, 1)], [(0, 0)], _, _, _)
            refine ev_ifeq f269_100 (fun c72919 => ?_) (fun c72919 => absurd c72919 (by omega))
            refine ev_aload_n rfl ?_
            refine ev_iload_n rfl ?_
            refine ev_iconst ?_
            refine ev_iload rfl ?_
            refine ev_ifeq f269_114 (fun c72920 => ?_) (fun c72920 => absurd c72920 (by omega))
            refine ev_iload rfl ?_
            refine ev_in (d := 1) (a := 0) (b := 0) (cd' := c267_0) (m := 6) (L0 := [(2, 42), (0, 1), (0, 0), (0, (v72896 - 48)), (9, 0), (9, 0)]) (jcall_v (A := [(0, (v72896 - 48)), (0, 0), (0, 1)]) (S' := []) (r := 42) rfl (g.lt ad42) (g.tg ad42) (Nat.le_of_ble_eq_true rfl)) (by decide) ml267 pp267 (Nat.le_of_ble_eq_true rfl) rfl (by decide) (by decide) ?_
            refine ev_iload_n rfl ?_
            refine ev_ifne f267_6 (fun c72921 => ?_) (fun c72921 => absurd c72921 (by omega))
            refine ev_aload_n rfl ?_
            refine ev_dup (by decide) ?_
            refine g_getv (r := 42) (v := w1) g ad42 (by decide) ft12_21 (ew1) ?_
            refine ev_iconst ?_
            refine ev_iadd (r := (w1 + 1)) (by unfold w32; omega) ?_
            refine g_putf (r := 42) g ad42 (by decide) ft12_21 (by decide) (fun e => absurd e nz12_21) rf42_21 (by decide) (by omega) (by omega) (fun h72922 e72922 g72922 => ?_)
            have k72922 := k0.wr e72922 rfl
            refine ev_aload_n rfl ?_
            refine g_getv (r := 42) (v := (w1 + 1)) g72922 ad42 (by decide) ft12_21 ((jw_eq e72922)) ?_
            refine ev_bipush ?_
            refine ev_icmple f267_27 (fun c72923 => ?_) (fun c72923 => absurd c72923 (by omega))
            refine ev_bipush ?_
            refine ev_aload_n rfl ?_
            refine g_getv (r := 42) (v := w0) g72922 ad42 (by decide) ft12_9 (((jw_ne e72922 (Or.inr (by decide))).trans ew0)) ?_
            refine ev_imul (r := (100 * w0)) (by unfold w32; omega) ?_
            refine ev_aload_n rfl ?_
            refine g_getv (r := 42) (v := (w1 + 1)) g72922 ad42 (by decide) ft12_21 ((jw_eq e72922)) ?_
            refine ev_iadd (r := (100 * w0 + w1 + 1)) (by unfold w32; omega) ?_
            refine ev_iconst ?_
            refine ev_isub (r := (100 * w0 + w1)) (by unfold w32; omega) ?_
            refine ev_istore (L' := [(2, 42), (0, 1), (0, 0), (0, (v72896 - 48)), (0, (100 * w0 + w1)), (9, 0)]) (Nat.le_of_ble_eq_true rfl) rfl ?_
            refine ev_aload_n rfl ?_
            refine g_getp (r := 42) (c := 49) g72922 ad42 (by decide) (by decide) rf42_11 ft12_11 ?_
            refine ev_iload rfl ?_
            refine ev_iload_n rfl ?_
            refine ev_i2b (r := 0) (by unfold w8; omega) ?_
            refine ev_bastG (r := 49) (j := ((100 * w0 + w1)).toNat) (w := 0) (g72922.lt ad49) (g72922.tg ad49) (by omega) (by rw [g72922.ln ad49]; omega) (by unfold w8; omega) (fun h72924 e72924 => ?_)
            have g72924 := g72922.s49 e72924 (by rw [(((jw_ne e72922 (Or.inr (by decide))).trans ew0))]; omega) (by omega) (by omega)
            have k72924 := k72922.wr e72924 rfl
            refine ev_aload_n rfl ?_
            refine g_getp (r := 42) (c := 50) g72924 ad42 (by decide) (by decide) rf42_12 ft12_12 ?_
            refine ev_iload rfl ?_
            refine ev_iload_n rfl ?_
            refine ev_iastG (r := 50) (j := ((100 * w0 + w1)).toNat) (g72924.lt ad50) (g72924.tg ad50) (by omega) (by rw [g72924.ln ad50]; omega) (fun h72925 e72925 => ?_)
            have g72925 := g72924.s50 e72925 (Or.inl (by rw [(((jw_ne e72924 (Or.inl (by decide))).trans ((jw_ne e72922 (Or.inr (by decide))).trans ew0)))]; omega)) (by omega) (by omega)
            have k72925 := k72924.wr e72925 rfl
            refine ev_aload_n rfl ?_
            refine g_getp (r := 42) (c := 53) g72925 ad42 (by decide) (by decide) rf42_15 ft12_15 ?_
            refine ev_iload rfl ?_
            refine ev_iconst ?_
            refine ev_bastG (r := 53) (j := ((100 * w0 + w1)).toNat) (w := 0) (g72925.lt ad53) (g72925.tg ad53) (by omega) (by rw [g72925.ln ad53]; omega) (by unfold w8; omega) (fun h72926 e72926 => ?_)
            have g72926 := g72925.s53 e72926 (Or.inl (by rw [(((jw_ne e72925 (Or.inl (by decide))).trans ((jw_ne e72924 (Or.inl (by decide))).trans ((jw_ne e72922 (Or.inr (by decide))).trans ew0))))]; omega)) (by omega) (by omega)
            have k72926 := k72925.wr e72926 rfl
            refine ev_iconst ?_
            refine ev_istore (L' := [(2, 42), (0, 1), (0, 0), (0, (v72896 - 48)), (0, (100 * w0 + w1)), (0, 0)]) (Nat.le_of_ble_eq_true rfl) rfl ?_
            refine ev_iload rfl ?_
            refine ev_iconst ?_
            refine ev_icmpge f267_109 (fun c72927 => absurd c72927 (by omega)) (fun c72927 => ?_)
            refine ev_aload_n rfl ?_
            refine g_getp (r := 42) (c := 51) g72926 ad42 (by decide) (by decide) rf42_13 ft12_13 ?_
            refine ev_iconst ?_
            refine ev_iload rfl ?_
            refine ev_imul (r := (400 * w0 + 4 * w1)) (by unfold w32; omega) ?_
            refine ev_iload rfl ?_
            refine ev_iadd (r := (400 * w0 + 4 * w1)) (by unfold w32; omega) ?_
            refine ev_iconst ?_
            refine ev_bastG (r := 51) (j := ((400 * w0 + 4 * w1)).toNat) (w := (-1)) (g72926.lt ad51) (g72926.tg ad51) (by omega) (by rw [g72926.ln ad51]; omega) (by unfold w8; omega) (fun h72928 e72928 => ?_)
            have g72928 := g72926.s51 e72928 (by rw [(((jw_ne e72926 (Or.inl (by decide))).trans ((jw_ne e72925 (Or.inl (by decide))).trans ((jw_ne e72924 (Or.inl (by decide))).trans ((jw_ne e72922 (Or.inr (by decide))).trans ew0)))))]; omega) (by omega) (by omega)
            have k72928 := k72926.wr e72928 rfl
            refine ev_aload_n rfl ?_
            refine g_getp (r := 42) (c := 52) g72928 ad42 (by decide) (by decide) rf42_14 ft12_14 ?_
            refine ev_iconst ?_
            refine ev_iload rfl ?_
            refine ev_imul (r := (400 * w0 + 4 * w1)) (by unfold w32; omega) ?_
            refine ev_iload rfl ?_
            refine ev_iadd (r := (400 * w0 + 4 * w1)) (by unfold w32; omega) ?_
            refine ev_iconst ?_
            refine g_iast g72928 ad52 rt52 (fun _ => rfl) (by omega) (by omega) (by omega) (by omega) (fun h72929 e72929 g72929 => ?_)
            have k72929 := k72928.wr e72929 rfl
            refine ev_iinc (w := 1) (L' := [(2, 42), (0, 1), (0, 0), (0, (v72896 - 48)), (0, (100 * w0 + w1)), (0, 1)]) rfl (by decide) rfl ?_
            refine ev_goto f267_71 ?_
            refine ev_iload rfl ?_
            refine ev_iconst ?_
            refine ev_icmpge f267_109 (fun c72930 => absurd c72930 (by omega)) (fun c72930 => ?_)
            refine ev_aload_n rfl ?_
            refine g_getp (r := 42) (c := 51) g72929 ad42 (by decide) (by decide) rf42_13 ft12_13 ?_
            refine ev_iconst ?_
            refine ev_iload rfl ?_
            refine ev_imul (r := (400 * w0 + 4 * w1)) (by unfold w32; omega) ?_
            refine ev_iload rfl ?_
            refine ev_iadd (r := (400 * w0 + 4 * w1 + 1)) (by unfold w32; omega) ?_
            refine ev_iconst ?_
            refine ev_bastG (r := 51) (j := ((400 * w0 + 4 * w1 + 1)).toNat) (w := (-1)) (g72929.lt ad51) (g72929.tg ad51) (by omega) (by rw [g72929.ln ad51]; omega) (by unfold w8; omega) (fun h72931 e72931 => ?_)
            have g72931 := g72929.s51 e72931 (by rw [(((jw_ne e72929 (Or.inl (by decide))).trans ((jw_ne e72928 (Or.inl (by decide))).trans ((jw_ne e72926 (Or.inl (by decide))).trans ((jw_ne e72925 (Or.inl (by decide))).trans ((jw_ne e72924 (Or.inl (by decide))).trans ((jw_ne e72922 (Or.inr (by decide))).trans ew0)))))))]; omega) (by omega) (by omega)
            have k72931 := k72929.wr e72931 rfl
            refine ev_aload_n rfl ?_
            refine g_getp (r := 42) (c := 52) g72931 ad42 (by decide) (by decide) rf42_14 ft12_14 ?_
            refine ev_iconst ?_
            refine ev_iload rfl ?_
            refine ev_imul (r := (400 * w0 + 4 * w1)) (by unfold w32; omega) ?_
            refine ev_iload rfl ?_
            refine ev_iadd (r := (400 * w0 + 4 * w1 + 1)) (by unfold w32; omega) ?_
            refine ev_iconst ?_
            refine g_iast g72931 ad52 rt52 (fun _ => rfl) (by omega) (by omega) (by omega) (by omega) (fun h72932 e72932 g72932 => ?_)
            have k72932 := k72931.wr e72932 rfl
            refine ev_iinc (w := 2) (L' := [(2, 42), (0, 1), (0, 0), (0, (v72896 - 48)), (0, (100 * w0 + w1)), (0, 2)]) rfl (by decide) rfl ?_
            refine ev_goto f267_71 ?_
            refine ev_iload rfl ?_
            refine ev_iconst ?_
            refine ev_icmpge f267_109 (fun c72933 => absurd c72933 (by omega)) (fun c72933 => ?_)
            refine ev_aload_n rfl ?_
            refine g_getp (r := 42) (c := 51) g72932 ad42 (by decide) (by decide) rf42_13 ft12_13 ?_
            refine ev_iconst ?_
            refine ev_iload rfl ?_
            refine ev_imul (r := (400 * w0 + 4 * w1)) (by unfold w32; omega) ?_
            refine ev_iload rfl ?_
            refine ev_iadd (r := (400 * w0 + 4 * w1 + 2)) (by unfold w32; omega) ?_
            refine ev_iconst ?_
            refine ev_bastG (r := 51) (j := ((400 * w0 + 4 * w1 + 2)).toNat) (w := (-1)) (g72932.lt ad51) (g72932.tg ad51) (by omega) (by rw [g72932.ln ad51]; omega) (by unfold w8; omega) (fun h72934 e72934 => ?_)
            have g72934 := g72932.s51 e72934 (by rw [(((jw_ne e72932 (Or.inl (by decide))).trans ((jw_ne e72931 (Or.inl (by decide))).trans ((jw_ne e72929 (Or.inl (by decide))).trans ((jw_ne e72928 (Or.inl (by decide))).trans ((jw_ne e72926 (Or.inl (by decide))).trans ((jw_ne e72925 (Or.inl (by decide))).trans ((jw_ne e72924 (Or.inl (by decide))).trans ((jw_ne e72922 (Or.inr (by decide))).trans ew0)))))))))]; omega) (by omega) (by omega)
            have k72934 := k72932.wr e72934 rfl
            refine ev_aload_n rfl ?_
            refine g_getp (r := 42) (c := 52) g72934 ad42 (by decide) (by decide) rf42_14 ft12_14 ?_
            refine ev_iconst ?_
            refine ev_iload rfl ?_
            refine ev_imul (r := (400 * w0 + 4 * w1)) (by unfold w32; omega) ?_
            refine ev_iload rfl ?_
            refine ev_iadd (r := (400 * w0 + 4 * w1 + 2)) (by unfold w32; omega) ?_
            refine ev_iconst ?_
            refine g_iast g72934 ad52 rt52 (fun _ => rfl) (by omega) (by omega) (by omega) (by omega) (fun h72935 e72935 g72935 => ?_)
            have k72935 := k72934.wr e72935 rfl
            refine ev_iinc (w := 3) (L' := [(2, 42), (0, 1), (0, 0), (0, (v72896 - 48)), (0, (100 * w0 + w1)), (0, 3)]) rfl (by decide) rfl ?_
            refine ev_goto f267_71 ?_
            refine ev_iload rfl ?_
            refine ev_iconst ?_
            refine ev_icmpge f267_109 (fun c72936 => absurd c72936 (by omega)) (fun c72936 => ?_)
            refine ev_aload_n rfl ?_
            refine g_getp (r := 42) (c := 51) g72935 ad42 (by decide) (by decide) rf42_13 ft12_13 ?_
            refine ev_iconst ?_
            refine ev_iload rfl ?_
            refine ev_imul (r := (400 * w0 + 4 * w1)) (by unfold w32; omega) ?_
            refine ev_iload rfl ?_
            refine ev_iadd (r := (400 * w0 + 4 * w1 + 3)) (by unfold w32; omega) ?_
            refine ev_iconst ?_
            refine ev_bastG (r := 51) (j := ((400 * w0 + 4 * w1 + 3)).toNat) (w := (-1)) (g72935.lt ad51) (g72935.tg ad51) (by omega) (by rw [g72935.ln ad51]; omega) (by unfold w8; omega) (fun h72937 e72937 => ?_)
            have g72937 := g72935.s51 e72937 (by rw [(((jw_ne e72935 (Or.inl (by decide))).trans ((jw_ne e72934 (Or.inl (by decide))).trans ((jw_ne e72932 (Or.inl (by decide))).trans ((jw_ne e72931 (Or.inl (by decide))).trans ((jw_ne e72929 (Or.inl (by decide))).trans ((jw_ne e72928 (Or.inl (by decide))).trans ((jw_ne e72926 (Or.inl (by decide))).trans ((jw_ne e72925 (Or.inl (by decide))).trans ((jw_ne e72924 (Or.inl (by decide))).trans ((jw_ne e72922 (Or.inr (by decide))).trans ew0)))))))))))]; omega) (by omega) (by omega)
            have k72937 := k72935.wr e72937 rfl
            refine ev_aload_n rfl ?_
            refine g_getp (r := 42) (c := 52) g72937 ad42 (by decide) (by decide) rf42_14 ft12_14 ?_
            refine ev_iconst ?_
            refine ev_iload rfl ?_
            refine ev_imul (r := (400 * w0 + 4 * w1)) (by unfold w32; omega) ?_
            refine ev_iload rfl ?_
            refine ev_iadd (r := (400 * w0 + 4 * w1 + 3)) (by unfold w32; omega) ?_
            refine ev_iconst ?_
            refine g_iast g72937 ad52 rt52 (fun _ => rfl) (by omega) (by omega) (by omega) (by omega) (fun h72938 e72938 g72938 => ?_)
            have k72938 := k72937.wr e72938 rfl
            refine ev_iinc (w := 4) (L' := [(2, 42), (0, 1), (0, 0), (0, (v72896 - 48)), (0, (100 * w0 + w1)), (0, 4)]) rfl (by decide) rfl ?_
            refine ev_goto f267_71 ?_
            refine ev_iload rfl ?_
            refine ev_iconst ?_
            refine ev_icmpge f267_109 (fun c72939 => ?_) (fun c72939 => absurd c72939 (by omega))
            refine ev_iload rfl ?_
            refine ev_ret rfl (by decide) (by decide) ?_
            show jEv _ _ _ _ _ _ _ (_, [(2, 42), (0, a1), (0, 1), (0, (a1 + 1)), (0, 0), (0, (v72896 - 48)), (0, 1)], [(0, (100 * w0 + w1))], _, _, _)
            refine ev_pop (by decide) ?_
            refine ev_iload_n rfl ?_
            exact ev_ret rfl (by decide) (by decide) ⟨⟨_, rfl, by omega, by omega, g72938, k72938⟩, fun r hr h0 => by cases hr; exact (Ad.step (r' := (a1 + 1)) (Ad.rf _ _ _) (by omega) k72938 (fun _ => rfl) (((jw_ne e72938 (Or.inl (by decide))).trans ((jw_ne e72937 (Or.inl (by decide))).trans ((jw_ne e72935 (Or.inl (by decide))).trans ((jw_ne e72934 (Or.inl (by decide))).trans ((jw_ne e72932 (Or.inl (by decide))).trans ((jw_ne e72931 (Or.inl (by decide))).trans ((jw_ne e72929 (Or.inl (by decide))).trans ((jw_ne e72928 (Or.inl (by decide))).trans ((jw_ne e72926 (Or.inl (by decide))).trans ((jw_ne e72925 (Or.inl (by decide))).trans ((jw_ne e72924 (Or.inl (by decide))).trans ((jw_ne e72922 (Or.inl (by decide))).trans ev72896))))))))))))) (by omega) (by omega) (by omega)), fun r hr => by cases hr; exact ⟨_, (((jw_ne e72938 (Or.inl (by decide))).trans ((jw_ne e72937 (Or.inl (by decide))).trans ((jw_ne e72935 (Or.inl (by decide))).trans ((jw_ne e72934 (Or.inl (by decide))).trans ((jw_ne e72932 (Or.inl (by decide))).trans ((jw_ne e72931 (Or.inl (by decide))).trans ((jw_ne e72929 (Or.inl (by decide))).trans ((jw_ne e72928 (Or.inl (by decide))).trans ((jw_ne e72926 (Or.inl (by decide))).trans ((jw_ne e72925 (Or.inl (by decide))).trans ((jw_ne e72924 (Or.inl (by decide))).trans (jw_eq e72922))))))))))))), by omega, by omega, (Fr.kp (Fr.w (i := (400 * w0 + 4 * w1 + 3)) (Fr.kp (Fr.w (i := (400 * w0 + 4 * w1 + 2)) (Fr.kp (Fr.w (i := (400 * w0 + 4 * w1 + 1)) (Fr.kp (Fr.w (i := (400 * w0 + 4 * w1)) (Fr.w (i := (100 * w0 + w1)) (Fr.w (i := (100 * w0 + w1)) (Fr.w (i := (100 * w0 + w1)) (Fr.kp (Fr.rf _ _) ((Kp.rf [(42, 0)] _).wr e72922 rfl) (fun _ => rfl) (fun _ => rfl) (fun _ => rfl) (fun _ => rfl)) e72924 (by omega) (by omega)) e72925 (by omega) (by omega)) e72926 (by omega) (by omega)) e72928 (by omega) (by omega)) ((Kp.rf [(52, 0)] _).wr e72929 rfl) (fun _ => rfl) (fun _ => rfl) (fun _ => rfl) (fun _ => rfl)) e72931 (by omega) (by omega)) ((Kp.rf [(52, 0)] _).wr e72932 rfl) (fun _ => rfl) (fun _ => rfl) (fun _ => rfl) (fun _ => rfl)) e72934 (by omega) (by omega)) ((Kp.rf [(52, 0)] _).wr e72935 rfl) (fun _ => rfl) (fun _ => rfl) (fun _ => rfl) (fun _ => rfl)) e72937 (by omega) (by omega)) ((Kp.rf [(52, 0)] _).wr e72938 rfl) (fun _ => rfl) (fun _ => rfl) (fun _ => rfl) (fun _ => rfl)), fun h0 => by omega, fun h0 hm => Tr.end (i := (100 * w0 + w1)) (by omega) (by omega) (by omega) (((jw_ne e72938 (Or.inl (by decide))).trans ((jw_ne e72937 (Or.inl (by decide))).trans ((jw_ne e72935 (Or.inl (by decide))).trans ((jw_ne e72934 (Or.inl (by decide))).trans ((jw_ne e72932 (Or.inl (by decide))).trans ((jw_ne e72931 (Or.inl (by decide))).trans ((jw_ne e72929 (Or.inl (by decide))).trans ((jw_ne e72928 (Or.inl (by decide))).trans ((jw_ne e72926 (Or.inl (by decide))).trans ((jw_ne e72925 (Or.inl (by decide))).trans (jw_eq e72924)))))))))))) (by omega) (by omega)⟩⟩
          · refine ev_aload_n rfl ?_
            refine g_getp (r := 42) (c := 54) g ad42 (by decide) (by decide) rf42_16 ft12_16 ?_
            refine ev_iload_n rfl ?_
            refine g_bald g ad54 rt54 (by omega) (by omega) (fun v72940 ev72940 lv72940 uv72940 => ?_)
            refine ev_goto f264_18 ?_
            refine ev_ret rfl (by decide) (by decide) ?_
            show jEv _ _ _ _ _ _ _ (_, [(2, 42), (0, (a1 + 1))], [(0, v72940)], _, _, _)
            refine ev_bipush ?_
            refine ev_bipush ?_
            refine ev_in (d := 0) (a := 0) (b := 0) (cd' := c242_0) (m := 3) (L0 := [(0, v72940), (0, 48), (0, 57)]) (jcall_s (A := [(0, 57), (0, 48), (0, v72940)]) (S' := []) (by decide) rfl (Nat.le_of_ble_eq_true rfl)) (by decide) ml242 pp242 (Nat.le_of_ble_eq_true rfl) rfl (by decide) (by decide) ?_
            refine ev_iload_n rfl ?_
            refine ev_iload_n rfl ?_
            refine ev_icmplt f242_14 (fun c72941 => ?_) (fun c72941 => ?_)
            · refine ev_iconst ?_
              refine ev_ret rfl (by decide) (by decide) ?_
              show jEv _ _ _ _ _ _ _ (_, [(2, 42), (0, (a1 + 1))], [(0, 0)], _, _, _)
              refine ev_ret rfl (by decide) (by decide) ?_
              show jEv _ _ _ _ _ _ _ (_, [(2, 42), (0, a1), (0, 1), (0, (a1 + 1)), (0, 0), (0, (v72896 - 48)), (0, 1)], [(0, 0)], _, _, _)
              refine ev_ifeq f269_86 (fun c72942 => ?_) (fun c72942 => absurd c72942 (by omega))
              refine ev_aload_n rfl ?_
              refine ev_iload_n rfl ?_
              refine ev_in (d := 1) (a := 0) (b := 0) (cd' := c265_0) (m := 2) (L0 := [(2, 42), (0, (a1 + 1))]) (jcall_v (A := [(0, (a1 + 1))]) (S' := []) (r := 42) rfl (g.lt ad42) (g.tg ad42) (Nat.le_of_ble_eq_true rfl)) (by decide) ml265 pp265 (Nat.le_of_ble_eq_true rfl) rfl (by decide) (by decide) ?_
              refine ev_aload_n rfl ?_
              refine ev_iload_n rfl ?_
              refine ev_in (d := 0) (a := 0) (b := 0) (cd' := c264_0) (m := 2) (L0 := [(2, 42), (0, (a1 + 1))]) (jcall_v (A := [(0, (a1 + 1))]) (S' := []) (r := 42) rfl (g.lt ad42) (g.tg ad42) (Nat.le_of_ble_eq_true rfl)) (by decide) ml264 pp264 (Nat.le_of_ble_eq_true rfl) rfl (by decide) (by decide) ?_
              refine ev_iload_n rfl ?_
              refine ev_aload_n rfl ?_
              refine g_getv (r := 42) (v := v72888) g ad42 (by decide) ft12_17 (ev72888) ?_
              refine ev_icmpge f264_17 (fun c72943 => absurd c72943 (by omega)) (fun c72943 => ?_)
              refine ev_aload_n rfl ?_
              refine g_getp (r := 42) (c := 54) g ad42 (by decide) (by decide) rf42_16 ft12_16 ?_
              refine ev_iload_n rfl ?_
              refine g_baldv (v := v72940) g ad54 (by omega) (by omega) (ev72940) ?_
              refine ev_goto f264_18 ?_
              refine ev_ret rfl (by decide) (by decide) ?_
              show jEv _ _ _ _ _ _ _ (_, [(2, 42), (0, (a1 + 1))], [(0, v72940)], _, _, _)
              refine ev_bipush ?_
              refine ev_bipush ?_
              refine ev_in (d := 0) (a := 0) (b := 0) (cd' := c242_0) (m := 3) (L0 := [(0, v72940), (0, 48), (0, 57)]) (jcall_s (A := [(0, 57), (0, 48), (0, v72940)]) (S' := []) (by decide) rfl (Nat.le_of_ble_eq_true rfl)) (by decide) ml242 pp242 (Nat.le_of_ble_eq_true rfl) rfl (by decide) (by decide) ?_
              refine ev_iload_n rfl ?_
              refine ev_iload_n rfl ?_
              refine ev_icmplt f242_14 (fun c72944 => ?_) (fun c72944 => absurd c72944 (by omega))
              refine ev_iconst ?_
              refine ev_ret rfl (by decide) (by decide) ?_
              show jEv _ _ _ _ _ _ _ (_, [(2, 42), (0, (a1 + 1))], [(0, 0)], _, _, _)
              refine ev_ret rfl (by decide) (by decide) ?_
              show jEv _ _ _ _ _ _ _ (_, [(2, 42), (0, a1), (0, 1), (0, (a1 + 1)), (0, 0), (0, (v72896 - 48)), (0, 1)], [(0, 0)], _, _, _)
              refine ev_ifeq f269_100 (fun c72945 => ?_) (fun c72945 => absurd c72945 (by omega))
              refine ev_aload_n rfl ?_
              refine ev_iload_n rfl ?_
              refine ev_iconst ?_
              refine ev_iload rfl ?_
              refine ev_ifeq f269_114 (fun c72946 => ?_) (fun c72946 => absurd c72946 (by omega))
              refine ev_iload rfl ?_
              refine ev_in (d := 1) (a := 0) (b := 0) (cd' := c267_0) (m := 6) (L0 := [(2, 42), (0, 1), (0, 0), (0, (v72896 - 48)), (9, 0), (9, 0)]) (jcall_v (A := [(0, (v72896 - 48)), (0, 0), (0, 1)]) (S' := []) (r := 42) rfl (g.lt ad42) (g.tg ad42) (Nat.le_of_ble_eq_true rfl)) (by decide) ml267 pp267 (Nat.le_of_ble_eq_true rfl) rfl (by decide) (by decide) ?_
              refine ev_iload_n rfl ?_
              refine ev_ifne f267_6 (fun c72947 => ?_) (fun c72947 => absurd c72947 (by omega))
              refine ev_aload_n rfl ?_
              refine ev_dup (by decide) ?_
              refine g_getv (r := 42) (v := w1) g ad42 (by decide) ft12_21 (ew1) ?_
              refine ev_iconst ?_
              refine ev_iadd (r := (w1 + 1)) (by unfold w32; omega) ?_
              refine g_putf (r := 42) g ad42 (by decide) ft12_21 (by decide) (fun e => absurd e nz12_21) rf42_21 (by decide) (by omega) (by omega) (fun h72948 e72948 g72948 => ?_)
              have k72948 := k0.wr e72948 rfl
              refine ev_aload_n rfl ?_
              refine g_getv (r := 42) (v := (w1 + 1)) g72948 ad42 (by decide) ft12_21 ((jw_eq e72948)) ?_
              refine ev_bipush ?_
              refine ev_icmple f267_27 (fun c72949 => ?_) (fun c72949 => absurd c72949 (by omega))
              refine ev_bipush ?_
              refine ev_aload_n rfl ?_
              refine g_getv (r := 42) (v := w0) g72948 ad42 (by decide) ft12_9 (((jw_ne e72948 (Or.inr (by decide))).trans ew0)) ?_
              refine ev_imul (r := (100 * w0)) (by unfold w32; omega) ?_
              refine ev_aload_n rfl ?_
              refine g_getv (r := 42) (v := (w1 + 1)) g72948 ad42 (by decide) ft12_21 ((jw_eq e72948)) ?_
              refine ev_iadd (r := (100 * w0 + w1 + 1)) (by unfold w32; omega) ?_
              refine ev_iconst ?_
              refine ev_isub (r := (100 * w0 + w1)) (by unfold w32; omega) ?_
              refine ev_istore (L' := [(2, 42), (0, 1), (0, 0), (0, (v72896 - 48)), (0, (100 * w0 + w1)), (9, 0)]) (Nat.le_of_ble_eq_true rfl) rfl ?_
              refine ev_aload_n rfl ?_
              refine g_getp (r := 42) (c := 49) g72948 ad42 (by decide) (by decide) rf42_11 ft12_11 ?_
              refine ev_iload rfl ?_
              refine ev_iload_n rfl ?_
              refine ev_i2b (r := 0) (by unfold w8; omega) ?_
              refine ev_bastG (r := 49) (j := ((100 * w0 + w1)).toNat) (w := 0) (g72948.lt ad49) (g72948.tg ad49) (by omega) (by rw [g72948.ln ad49]; omega) (by unfold w8; omega) (fun h72950 e72950 => ?_)
              have g72950 := g72948.s49 e72950 (by rw [(((jw_ne e72948 (Or.inr (by decide))).trans ew0))]; omega) (by omega) (by omega)
              have k72950 := k72948.wr e72950 rfl
              refine ev_aload_n rfl ?_
              refine g_getp (r := 42) (c := 50) g72950 ad42 (by decide) (by decide) rf42_12 ft12_12 ?_
              refine ev_iload rfl ?_
              refine ev_iload_n rfl ?_
              refine ev_iastG (r := 50) (j := ((100 * w0 + w1)).toNat) (g72950.lt ad50) (g72950.tg ad50) (by omega) (by rw [g72950.ln ad50]; omega) (fun h72951 e72951 => ?_)
              have g72951 := g72950.s50 e72951 (Or.inl (by rw [(((jw_ne e72950 (Or.inl (by decide))).trans ((jw_ne e72948 (Or.inr (by decide))).trans ew0)))]; omega)) (by omega) (by omega)
              have k72951 := k72950.wr e72951 rfl
              refine ev_aload_n rfl ?_
              refine g_getp (r := 42) (c := 53) g72951 ad42 (by decide) (by decide) rf42_15 ft12_15 ?_
              refine ev_iload rfl ?_
              refine ev_iconst ?_
              refine ev_bastG (r := 53) (j := ((100 * w0 + w1)).toNat) (w := 0) (g72951.lt ad53) (g72951.tg ad53) (by omega) (by rw [g72951.ln ad53]; omega) (by unfold w8; omega) (fun h72952 e72952 => ?_)
              have g72952 := g72951.s53 e72952 (Or.inl (by rw [(((jw_ne e72951 (Or.inl (by decide))).trans ((jw_ne e72950 (Or.inl (by decide))).trans ((jw_ne e72948 (Or.inr (by decide))).trans ew0))))]; omega)) (by omega) (by omega)
              have k72952 := k72951.wr e72952 rfl
              refine ev_iconst ?_
              refine ev_istore (L' := [(2, 42), (0, 1), (0, 0), (0, (v72896 - 48)), (0, (100 * w0 + w1)), (0, 0)]) (Nat.le_of_ble_eq_true rfl) rfl ?_
              refine ev_iload rfl ?_
              refine ev_iconst ?_
              refine ev_icmpge f267_109 (fun c72953 => absurd c72953 (by omega)) (fun c72953 => ?_)
              refine ev_aload_n rfl ?_
              refine g_getp (r := 42) (c := 51) g72952 ad42 (by decide) (by decide) rf42_13 ft12_13 ?_
              refine ev_iconst ?_
              refine ev_iload rfl ?_
              refine ev_imul (r := (400 * w0 + 4 * w1)) (by unfold w32; omega) ?_
              refine ev_iload rfl ?_
              refine ev_iadd (r := (400 * w0 + 4 * w1)) (by unfold w32; omega) ?_
              refine ev_iconst ?_
              refine ev_bastG (r := 51) (j := ((400 * w0 + 4 * w1)).toNat) (w := (-1)) (g72952.lt ad51) (g72952.tg ad51) (by omega) (by rw [g72952.ln ad51]; omega) (by unfold w8; omega) (fun h72954 e72954 => ?_)
              have g72954 := g72952.s51 e72954 (by rw [(((jw_ne e72952 (Or.inl (by decide))).trans ((jw_ne e72951 (Or.inl (by decide))).trans ((jw_ne e72950 (Or.inl (by decide))).trans ((jw_ne e72948 (Or.inr (by decide))).trans ew0)))))]; omega) (by omega) (by omega)
              have k72954 := k72952.wr e72954 rfl
              refine ev_aload_n rfl ?_
              refine g_getp (r := 42) (c := 52) g72954 ad42 (by decide) (by decide) rf42_14 ft12_14 ?_
              refine ev_iconst ?_
              refine ev_iload rfl ?_
              refine ev_imul (r := (400 * w0 + 4 * w1)) (by unfold w32; omega) ?_
              refine ev_iload rfl ?_
              refine ev_iadd (r := (400 * w0 + 4 * w1)) (by unfold w32; omega) ?_
              refine ev_iconst ?_
              refine g_iast g72954 ad52 rt52 (fun _ => rfl) (by omega) (by omega) (by omega) (by omega) (fun h72955 e72955 g72955 => ?_)
              have k72955 := k72954.wr e72955 rfl
              refine ev_iinc (w := 1) (L' := [(2, 42), (0, 1), (0, 0), (0, (v72896 - 48)), (0, (100 * w0 + w1)), (0, 1)]) rfl (by decide) rfl ?_
              refine ev_goto f267_71 ?_
              refine ev_iload rfl ?_
              refine ev_iconst ?_
              refine ev_icmpge f267_109 (fun c72956 => absurd c72956 (by omega)) (fun c72956 => ?_)
              refine ev_aload_n rfl ?_
              refine g_getp (r := 42) (c := 51) g72955 ad42 (by decide) (by decide) rf42_13 ft12_13 ?_
              refine ev_iconst ?_
              refine ev_iload rfl ?_
              refine ev_imul (r := (400 * w0 + 4 * w1)) (by unfold w32; omega) ?_
              refine ev_iload rfl ?_
              refine ev_iadd (r := (400 * w0 + 4 * w1 + 1)) (by unfold w32; omega) ?_
              refine ev_iconst ?_
              refine ev_bastG (r := 51) (j := ((400 * w0 + 4 * w1 + 1)).toNat) (w := (-1)) (g72955.lt ad51) (g72955.tg ad51) (by omega) (by rw [g72955.ln ad51]; omega) (by unfold w8; omega) (fun h72957 e72957 => ?_)
              have g72957 := g72955.s51 e72957 (by rw [(((jw_ne e72955 (Or.inl (by decide))).trans ((jw_ne e72954 (Or.inl (by decide))).trans ((jw_ne e72952 (Or.inl (by decide))).trans ((jw_ne e72951 (Or.inl (by decide))).trans ((jw_ne e72950 (Or.inl (by decide))).trans ((jw_ne e72948 (Or.inr (by decide))).trans ew0)))))))]; omega) (by omega) (by omega)
              have k72957 := k72955.wr e72957 rfl
              refine ev_aload_n rfl ?_
              refine g_getp (r := 42) (c := 52) g72957 ad42 (by decide) (by decide) rf42_14 ft12_14 ?_
              refine ev_iconst ?_
              refine ev_iload rfl ?_
              refine ev_imul (r := (400 * w0 + 4 * w1)) (by unfold w32; omega) ?_
              refine ev_iload rfl ?_
              refine ev_iadd (r := (400 * w0 + 4 * w1 + 1)) (by unfold w32; omega) ?_
              refine ev_iconst ?_
              refine g_iast g72957 ad52 rt52 (fun _ => rfl) (by omega) (by omega) (by omega) (by omega) (fun h72958 e72958 g72958 => ?_)
              have k72958 := k72957.wr e72958 rfl
              refine ev_iinc (w := 2) (L' := [(2, 42), (0, 1), (0, 0), (0, (v72896 - 48)), (0, (100 * w0 + w1)), (0, 2)]) rfl (by decide) rfl ?_
              refine ev_goto f267_71 ?_
              refine ev_iload rfl ?_
              refine ev_iconst ?_
              refine ev_icmpge f267_109 (fun c72959 => absurd c72959 (by omega)) (fun c72959 => ?_)
              refine ev_aload_n rfl ?_
              refine g_getp (r := 42) (c := 51) g72958 ad42 (by decide) (by decide) rf42_13 ft12_13 ?_
              refine ev_iconst ?_
              refine ev_iload rfl ?_
              refine ev_imul (r := (400 * w0 + 4 * w1)) (by unfold w32; omega) ?_
              refine ev_iload rfl ?_
              refine ev_iadd (r := (400 * w0 + 4 * w1 + 2)) (by unfold w32; omega) ?_
              refine ev_iconst ?_
              refine ev_bastG (r := 51) (j := ((400 * w0 + 4 * w1 + 2)).toNat) (w := (-1)) (g72958.lt ad51) (g72958.tg ad51) (by omega) (by rw [g72958.ln ad51]; omega) (by unfold w8; omega) (fun h72960 e72960 => ?_)
              have g72960 := g72958.s51 e72960 (by rw [(((jw_ne e72958 (Or.inl (by decide))).trans ((jw_ne e72957 (Or.inl (by decide))).trans ((jw_ne e72955 (Or.inl (by decide))).trans ((jw_ne e72954 (Or.inl (by decide))).trans ((jw_ne e72952 (Or.inl (by decide))).trans ((jw_ne e72951 (Or.inl (by decide))).trans ((jw_ne e72950 (Or.inl (by decide))).trans ((jw_ne e72948 (Or.inr (by decide))).trans ew0)))))))))]; omega) (by omega) (by omega)
              have k72960 := k72958.wr e72960 rfl
              refine ev_aload_n rfl ?_
              refine g_getp (r := 42) (c := 52) g72960 ad42 (by decide) (by decide) rf42_14 ft12_14 ?_
              refine ev_iconst ?_
              refine ev_iload rfl ?_
              refine ev_imul (r := (400 * w0 + 4 * w1)) (by unfold w32; omega) ?_
              refine ev_iload rfl ?_
              refine ev_iadd (r := (400 * w0 + 4 * w1 + 2)) (by unfold w32; omega) ?_
              refine ev_iconst ?_
              refine g_iast g72960 ad52 rt52 (fun _ => rfl) (by omega) (by omega) (by omega) (by omega) (fun h72961 e72961 g72961 => ?_)
              have k72961 := k72960.wr e72961 rfl
              refine ev_iinc (w := 3) (L' := [(2, 42), (0, 1), (0, 0), (0, (v72896 - 48)), (0, (100 * w0 + w1)), (0, 3)]) rfl (by decide) rfl ?_
              refine ev_goto f267_71 ?_
              refine ev_iload rfl ?_
              refine ev_iconst ?_
              refine ev_icmpge f267_109 (fun c72962 => absurd c72962 (by omega)) (fun c72962 => ?_)
              refine ev_aload_n rfl ?_
              refine g_getp (r := 42) (c := 51) g72961 ad42 (by decide) (by decide) rf42_13 ft12_13 ?_
              refine ev_iconst ?_
              refine ev_iload rfl ?_
              refine ev_imul (r := (400 * w0 + 4 * w1)) (by unfold w32; omega) ?_
              refine ev_iload rfl ?_
              refine ev_iadd (r := (400 * w0 + 4 * w1 + 3)) (by unfold w32; omega) ?_
              refine ev_iconst ?_
              refine ev_bastG (r := 51) (j := ((400 * w0 + 4 * w1 + 3)).toNat) (w := (-1)) (g72961.lt ad51) (g72961.tg ad51) (by omega) (by rw [g72961.ln ad51]; omega) (by unfold w8; omega) (fun h72963 e72963 => ?_)
              have g72963 := g72961.s51 e72963 (by rw [(((jw_ne e72961 (Or.inl (by decide))).trans ((jw_ne e72960 (Or.inl (by decide))).trans ((jw_ne e72958 (Or.inl (by decide))).trans ((jw_ne e72957 (Or.inl (by decide))).trans ((jw_ne e72955 (Or.inl (by decide))).trans ((jw_ne e72954 (Or.inl (by decide))).trans ((jw_ne e72952 (Or.inl (by decide))).trans ((jw_ne e72951 (Or.inl (by decide))).trans ((jw_ne e72950 (Or.inl (by decide))).trans ((jw_ne e72948 (Or.inr (by decide))).trans ew0)))))))))))]; omega) (by omega) (by omega)
              have k72963 := k72961.wr e72963 rfl
              refine ev_aload_n rfl ?_
              refine g_getp (r := 42) (c := 52) g72963 ad42 (by decide) (by decide) rf42_14 ft12_14 ?_
              refine ev_iconst ?_
              refine ev_iload rfl ?_
              refine ev_imul (r := (400 * w0 + 4 * w1)) (by unfold w32; omega) ?_
              refine ev_iload rfl ?_
              refine ev_iadd (r := (400 * w0 + 4 * w1 + 3)) (by unfold w32; omega) ?_
              refine ev_iconst ?_
              refine g_iast g72963 ad52 rt52 (fun _ => rfl) (by omega) (by omega) (by omega) (by omega) (fun h72964 e72964 g72964 => ?_)
              have k72964 := k72963.wr e72964 rfl
              refine ev_iinc (w := 4) (L' := [(2, 42), (0, 1), (0, 0), (0, (v72896 - 48)), (0, (100 * w0 + w1)), (0, 4)]) rfl (by decide) rfl ?_
              refine ev_goto f267_71 ?_
              refine ev_iload rfl ?_
              refine ev_iconst ?_
              refine ev_icmpge f267_109 (fun c72965 => ?_) (fun c72965 => absurd c72965 (by omega))
              refine ev_iload rfl ?_
              refine ev_ret rfl (by decide) (by decide) ?_
              show jEv _ _ _ _ _ _ _ (_, [(2, 42), (0, a1), (0, 1), (0, (a1 + 1)), (0, 0), (0, (v72896 - 48)), (0, 1)], [(0, (100 * w0 + w1))], _, _, _)
              refine ev_pop (by decide) ?_
              refine ev_iload_n rfl ?_
              exact ev_ret rfl (by decide) (by decide) ⟨⟨_, rfl, by omega, by omega, g72964, k72964⟩, fun r hr h0 => by cases hr; exact (Ad.step (r' := (a1 + 1)) (Ad.rf _ _ _) (by omega) k72964 (fun _ => rfl) (((jw_ne e72964 (Or.inl (by decide))).trans ((jw_ne e72963 (Or.inl (by decide))).trans ((jw_ne e72961 (Or.inl (by decide))).trans ((jw_ne e72960 (Or.inl (by decide))).trans ((jw_ne e72958 (Or.inl (by decide))).trans ((jw_ne e72957 (Or.inl (by decide))).trans ((jw_ne e72955 (Or.inl (by decide))).trans ((jw_ne e72954 (Or.inl (by decide))).trans ((jw_ne e72952 (Or.inl (by decide))).trans ((jw_ne e72951 (Or.inl (by decide))).trans ((jw_ne e72950 (Or.inl (by decide))).trans ((jw_ne e72948 (Or.inl (by decide))).trans ev72896))))))))))))) (by omega) (by omega) (by omega)), fun r hr => by cases hr; exact ⟨_, (((jw_ne e72964 (Or.inl (by decide))).trans ((jw_ne e72963 (Or.inl (by decide))).trans ((jw_ne e72961 (Or.inl (by decide))).trans ((jw_ne e72960 (Or.inl (by decide))).trans ((jw_ne e72958 (Or.inl (by decide))).trans ((jw_ne e72957 (Or.inl (by decide))).trans ((jw_ne e72955 (Or.inl (by decide))).trans ((jw_ne e72954 (Or.inl (by decide))).trans ((jw_ne e72952 (Or.inl (by decide))).trans ((jw_ne e72951 (Or.inl (by decide))).trans ((jw_ne e72950 (Or.inl (by decide))).trans (jw_eq e72948))))))))))))), by omega, by omega, (Fr.kp (Fr.w (i := (400 * w0 + 4 * w1 + 3)) (Fr.kp (Fr.w (i := (400 * w0 + 4 * w1 + 2)) (Fr.kp (Fr.w (i := (400 * w0 + 4 * w1 + 1)) (Fr.kp (Fr.w (i := (400 * w0 + 4 * w1)) (Fr.w (i := (100 * w0 + w1)) (Fr.w (i := (100 * w0 + w1)) (Fr.w (i := (100 * w0 + w1)) (Fr.kp (Fr.rf _ _) ((Kp.rf [(42, 0)] _).wr e72948 rfl) (fun _ => rfl) (fun _ => rfl) (fun _ => rfl) (fun _ => rfl)) e72950 (by omega) (by omega)) e72951 (by omega) (by omega)) e72952 (by omega) (by omega)) e72954 (by omega) (by omega)) ((Kp.rf [(52, 0)] _).wr e72955 rfl) (fun _ => rfl) (fun _ => rfl) (fun _ => rfl) (fun _ => rfl)) e72957 (by omega) (by omega)) ((Kp.rf [(52, 0)] _).wr e72958 rfl) (fun _ => rfl) (fun _ => rfl) (fun _ => rfl) (fun _ => rfl)) e72960 (by omega) (by omega)) ((Kp.rf [(52, 0)] _).wr e72961 rfl) (fun _ => rfl) (fun _ => rfl) (fun _ => rfl) (fun _ => rfl)) e72963 (by omega) (by omega)) ((Kp.rf [(52, 0)] _).wr e72964 rfl) (fun _ => rfl) (fun _ => rfl) (fun _ => rfl) (fun _ => rfl)), fun h0 => by omega, fun h0 hm => Tr.end (i := (100 * w0 + w1)) (by omega) (by omega) (by omega) (((jw_ne e72964 (Or.inl (by decide))).trans ((jw_ne e72963 (Or.inl (by decide))).trans ((jw_ne e72961 (Or.inl (by decide))).trans ((jw_ne e72960 (Or.inl (by decide))).trans ((jw_ne e72958 (Or.inl (by decide))).trans ((jw_ne e72957 (Or.inl (by decide))).trans ((jw_ne e72955 (Or.inl (by decide))).trans ((jw_ne e72954 (Or.inl (by decide))).trans ((jw_ne e72952 (Or.inl (by decide))).trans ((jw_ne e72951 (Or.inl (by decide))).trans (jw_eq e72950)))))))))))) (by omega) (by omega)⟩⟩
            · refine ev_iload_n rfl ?_
              refine ev_iload_n rfl ?_
              refine ev_icmpgt f242_14 (fun c72966 => ?_) (fun c72966 => ?_)
              · refine ev_iconst ?_
                refine ev_ret rfl (by decide) (by decide) ?_
                show jEv _ _ _ _ _ _ _ (_, [(2, 42), (0, (a1 + 1))], [(0, 0)], _, _, _)
                refine ev_ret rfl (by decide) (by decide) ?_
                show jEv _ _ _ _ _ _ _ (_, [(2, 42), (0, a1), (0, 1), (0, (a1 + 1)), (0, 0), (0, (v72896 - 48)), (0, 1)], [(0, 0)], _, _, _)
                refine ev_ifeq f269_86 (fun c72967 => ?_) (fun c72967 => absurd c72967 (by omega))
                refine ev_aload_n rfl ?_
                refine ev_iload_n rfl ?_
                refine ev_in (d := 1) (a := 0) (b := 0) (cd' := c265_0) (m := 2) (L0 := [(2, 42), (0, (a1 + 1))]) (jcall_v (A := [(0, (a1 + 1))]) (S' := []) (r := 42) rfl (g.lt ad42) (g.tg ad42) (Nat.le_of_ble_eq_true rfl)) (by decide) ml265 pp265 (Nat.le_of_ble_eq_true rfl) rfl (by decide) (by decide) ?_
                refine ev_aload_n rfl ?_
                refine ev_iload_n rfl ?_
                refine ev_in (d := 0) (a := 0) (b := 0) (cd' := c264_0) (m := 2) (L0 := [(2, 42), (0, (a1 + 1))]) (jcall_v (A := [(0, (a1 + 1))]) (S' := []) (r := 42) rfl (g.lt ad42) (g.tg ad42) (Nat.le_of_ble_eq_true rfl)) (by decide) ml264 pp264 (Nat.le_of_ble_eq_true rfl) rfl (by decide) (by decide) ?_
                refine ev_iload_n rfl ?_
                refine ev_aload_n rfl ?_
                refine g_getv (r := 42) (v := v72888) g ad42 (by decide) ft12_17 (ev72888) ?_
                refine ev_icmpge f264_17 (fun c72968 => absurd c72968 (by omega)) (fun c72968 => ?_)
                refine ev_aload_n rfl ?_
                refine g_getp (r := 42) (c := 54) g ad42 (by decide) (by decide) rf42_16 ft12_16 ?_
                refine ev_iload_n rfl ?_
                refine g_baldv (v := v72940) g ad54 (by omega) (by omega) (ev72940) ?_
                refine ev_goto f264_18 ?_
                refine ev_ret rfl (by decide) (by decide) ?_
                show jEv _ _ _ _ _ _ _ (_, [(2, 42), (0, (a1 + 1))], [(0, v72940)], _, _, _)
                refine ev_bipush ?_
                refine ev_bipush ?_
                refine ev_in (d := 0) (a := 0) (b := 0) (cd' := c242_0) (m := 3) (L0 := [(0, v72940), (0, 48), (0, 57)]) (jcall_s (A := [(0, 57), (0, 48), (0, v72940)]) (S' := []) (by decide) rfl (Nat.le_of_ble_eq_true rfl)) (by decide) ml242 pp242 (Nat.le_of_ble_eq_true rfl) rfl (by decide) (by decide) ?_
                refine ev_iload_n rfl ?_
                refine ev_iload_n rfl ?_
                refine ev_icmplt f242_14 (fun c72969 => absurd c72969 (by omega)) (fun c72969 => ?_)
                refine ev_iload_n rfl ?_
                refine ev_iload_n rfl ?_
                refine ev_icmpgt f242_14 (fun c72970 => ?_) (fun c72970 => absurd c72970 (by omega))
                refine ev_iconst ?_
                refine ev_ret rfl (by decide) (by decide) ?_
                show jEv _ _ _ _ _ _ _ (_, [(2, 42), (0, (a1 + 1))], [(0, 0)], _, _, _)
                refine ev_ret rfl (by decide) (by decide) ?_
                show jEv _ _ _ _ _ _ _ (_, [(2, 42), (0, a1), (0, 1), (0, (a1 + 1)), (0, 0), (0, (v72896 - 48)), (0, 1)], [(0, 0)], _, _, _)
                refine ev_ifeq f269_100 (fun c72971 => ?_) (fun c72971 => absurd c72971 (by omega))
                refine ev_aload_n rfl ?_
                refine ev_iload_n rfl ?_
                refine ev_iconst ?_
                refine ev_iload rfl ?_
                refine ev_ifeq f269_114 (fun c72972 => ?_) (fun c72972 => absurd c72972 (by omega))
                refine ev_iload rfl ?_
                refine ev_in (d := 1) (a := 0) (b := 0) (cd' := c267_0) (m := 6) (L0 := [(2, 42), (0, 1), (0, 0), (0, (v72896 - 48)), (9, 0), (9, 0)]) (jcall_v (A := [(0, (v72896 - 48)), (0, 0), (0, 1)]) (S' := []) (r := 42) rfl (g.lt ad42) (g.tg ad42) (Nat.le_of_ble_eq_true rfl)) (by decide) ml267 pp267 (Nat.le_of_ble_eq_true rfl) rfl (by decide) (by decide) ?_
                refine ev_iload_n rfl ?_
                refine ev_ifne f267_6 (fun c72973 => ?_) (fun c72973 => absurd c72973 (by omega))
                refine ev_aload_n rfl ?_
                refine ev_dup (by decide) ?_
                refine g_getv (r := 42) (v := w1) g ad42 (by decide) ft12_21 (ew1) ?_
                refine ev_iconst ?_
                refine ev_iadd (r := (w1 + 1)) (by unfold w32; omega) ?_
                refine g_putf (r := 42) g ad42 (by decide) ft12_21 (by decide) (fun e => absurd e nz12_21) rf42_21 (by decide) (by omega) (by omega) (fun h72974 e72974 g72974 => ?_)
                have k72974 := k0.wr e72974 rfl
                refine ev_aload_n rfl ?_
                refine g_getv (r := 42) (v := (w1 + 1)) g72974 ad42 (by decide) ft12_21 ((jw_eq e72974)) ?_
                refine ev_bipush ?_
                refine ev_icmple f267_27 (fun c72975 => ?_) (fun c72975 => absurd c72975 (by omega))
                refine ev_bipush ?_
                refine ev_aload_n rfl ?_
                refine g_getv (r := 42) (v := w0) g72974 ad42 (by decide) ft12_9 (((jw_ne e72974 (Or.inr (by decide))).trans ew0)) ?_
                refine ev_imul (r := (100 * w0)) (by unfold w32; omega) ?_
                refine ev_aload_n rfl ?_
                refine g_getv (r := 42) (v := (w1 + 1)) g72974 ad42 (by decide) ft12_21 ((jw_eq e72974)) ?_
                refine ev_iadd (r := (100 * w0 + w1 + 1)) (by unfold w32; omega) ?_
                refine ev_iconst ?_
                refine ev_isub (r := (100 * w0 + w1)) (by unfold w32; omega) ?_
                refine ev_istore (L' := [(2, 42), (0, 1), (0, 0), (0, (v72896 - 48)), (0, (100 * w0 + w1)), (9, 0)]) (Nat.le_of_ble_eq_true rfl) rfl ?_
                refine ev_aload_n rfl ?_
                refine g_getp (r := 42) (c := 49) g72974 ad42 (by decide) (by decide) rf42_11 ft12_11 ?_
                refine ev_iload rfl ?_
                refine ev_iload_n rfl ?_
                refine ev_i2b (r := 0) (by unfold w8; omega) ?_
                refine ev_bastG (r := 49) (j := ((100 * w0 + w1)).toNat) (w := 0) (g72974.lt ad49) (g72974.tg ad49) (by omega) (by rw [g72974.ln ad49]; omega) (by unfold w8; omega) (fun h72976 e72976 => ?_)
                have g72976 := g72974.s49 e72976 (by rw [(((jw_ne e72974 (Or.inr (by decide))).trans ew0))]; omega) (by omega) (by omega)
                have k72976 := k72974.wr e72976 rfl
                refine ev_aload_n rfl ?_
                refine g_getp (r := 42) (c := 50) g72976 ad42 (by decide) (by decide) rf42_12 ft12_12 ?_
                refine ev_iload rfl ?_
                refine ev_iload_n rfl ?_
                refine ev_iastG (r := 50) (j := ((100 * w0 + w1)).toNat) (g72976.lt ad50) (g72976.tg ad50) (by omega) (by rw [g72976.ln ad50]; omega) (fun h72977 e72977 => ?_)
                have g72977 := g72976.s50 e72977 (Or.inl (by rw [(((jw_ne e72976 (Or.inl (by decide))).trans ((jw_ne e72974 (Or.inr (by decide))).trans ew0)))]; omega)) (by omega) (by omega)
                have k72977 := k72976.wr e72977 rfl
                refine ev_aload_n rfl ?_
                refine g_getp (r := 42) (c := 53) g72977 ad42 (by decide) (by decide) rf42_15 ft12_15 ?_
                refine ev_iload rfl ?_
                refine ev_iconst ?_
                refine ev_bastG (r := 53) (j := ((100 * w0 + w1)).toNat) (w := 0) (g72977.lt ad53) (g72977.tg ad53) (by omega) (by rw [g72977.ln ad53]; omega) (by unfold w8; omega) (fun h72978 e72978 => ?_)
                have g72978 := g72977.s53 e72978 (Or.inl (by rw [(((jw_ne e72977 (Or.inl (by decide))).trans ((jw_ne e72976 (Or.inl (by decide))).trans ((jw_ne e72974 (Or.inr (by decide))).trans ew0))))]; omega)) (by omega) (by omega)
                have k72978 := k72977.wr e72978 rfl
                refine ev_iconst ?_
                refine ev_istore (L' := [(2, 42), (0, 1), (0, 0), (0, (v72896 - 48)), (0, (100 * w0 + w1)), (0, 0)]) (Nat.le_of_ble_eq_true rfl) rfl ?_
                refine ev_iload rfl ?_
                refine ev_iconst ?_
                refine ev_icmpge f267_109 (fun c72979 => absurd c72979 (by omega)) (fun c72979 => ?_)
                refine ev_aload_n rfl ?_
                refine g_getp (r := 42) (c := 51) g72978 ad42 (by decide) (by decide) rf42_13 ft12_13 ?_
                refine ev_iconst ?_
                refine ev_iload rfl ?_
                refine ev_imul (r := (400 * w0 + 4 * w1)) (by unfold w32; omega) ?_
                refine ev_iload rfl ?_
                refine ev_iadd (r := (400 * w0 + 4 * w1)) (by unfold w32; omega) ?_
                refine ev_iconst ?_
                refine ev_bastG (r := 51) (j := ((400 * w0 + 4 * w1)).toNat) (w := (-1)) (g72978.lt ad51) (g72978.tg ad51) (by omega) (by rw [g72978.ln ad51]; omega) (by unfold w8; omega) (fun h72980 e72980 => ?_)
                have g72980 := g72978.s51 e72980 (by rw [(((jw_ne e72978 (Or.inl (by decide))).trans ((jw_ne e72977 (Or.inl (by decide))).trans ((jw_ne e72976 (Or.inl (by decide))).trans ((jw_ne e72974 (Or.inr (by decide))).trans ew0)))))]; omega) (by omega) (by omega)
                have k72980 := k72978.wr e72980 rfl
                refine ev_aload_n rfl ?_
                refine g_getp (r := 42) (c := 52) g72980 ad42 (by decide) (by decide) rf42_14 ft12_14 ?_
                refine ev_iconst ?_
                refine ev_iload rfl ?_
                refine ev_imul (r := (400 * w0 + 4 * w1)) (by unfold w32; omega) ?_
                refine ev_iload rfl ?_
                refine ev_iadd (r := (400 * w0 + 4 * w1)) (by unfold w32; omega) ?_
                refine ev_iconst ?_
                refine g_iast g72980 ad52 rt52 (fun _ => rfl) (by omega) (by omega) (by omega) (by omega) (fun h72981 e72981 g72981 => ?_)
                have k72981 := k72980.wr e72981 rfl
                refine ev_iinc (w := 1) (L' := [(2, 42), (0, 1), (0, 0), (0, (v72896 - 48)), (0, (100 * w0 + w1)), (0, 1)]) rfl (by decide) rfl ?_
                refine ev_goto f267_71 ?_
                refine ev_iload rfl ?_
                refine ev_iconst ?_
                refine ev_icmpge f267_109 (fun c72982 => absurd c72982 (by omega)) (fun c72982 => ?_)
                refine ev_aload_n rfl ?_
                refine g_getp (r := 42) (c := 51) g72981 ad42 (by decide) (by decide) rf42_13 ft12_13 ?_
                refine ev_iconst ?_
                refine ev_iload rfl ?_
                refine ev_imul (r := (400 * w0 + 4 * w1)) (by unfold w32; omega) ?_
                refine ev_iload rfl ?_
                refine ev_iadd (r := (400 * w0 + 4 * w1 + 1)) (by unfold w32; omega) ?_
                refine ev_iconst ?_
                refine ev_bastG (r := 51) (j := ((400 * w0 + 4 * w1 + 1)).toNat) (w := (-1)) (g72981.lt ad51) (g72981.tg ad51) (by omega) (by rw [g72981.ln ad51]; omega) (by unfold w8; omega) (fun h72983 e72983 => ?_)
                have g72983 := g72981.s51 e72983 (by rw [(((jw_ne e72981 (Or.inl (by decide))).trans ((jw_ne e72980 (Or.inl (by decide))).trans ((jw_ne e72978 (Or.inl (by decide))).trans ((jw_ne e72977 (Or.inl (by decide))).trans ((jw_ne e72976 (Or.inl (by decide))).trans ((jw_ne e72974 (Or.inr (by decide))).trans ew0)))))))]; omega) (by omega) (by omega)
                have k72983 := k72981.wr e72983 rfl
                refine ev_aload_n rfl ?_
                refine g_getp (r := 42) (c := 52) g72983 ad42 (by decide) (by decide) rf42_14 ft12_14 ?_
                refine ev_iconst ?_
                refine ev_iload rfl ?_
                refine ev_imul (r := (400 * w0 + 4 * w1)) (by unfold w32; omega) ?_
                refine ev_iload rfl ?_
                refine ev_iadd (r := (400 * w0 + 4 * w1 + 1)) (by unfold w32; omega) ?_
                refine ev_iconst ?_
                refine g_iast g72983 ad52 rt52 (fun _ => rfl) (by omega) (by omega) (by omega) (by omega) (fun h72984 e72984 g72984 => ?_)
                have k72984 := k72983.wr e72984 rfl
                refine ev_iinc (w := 2) (L' := [(2, 42), (0, 1), (0, 0), (0, (v72896 - 48)), (0, (100 * w0 + w1)), (0, 2)]) rfl (by decide) rfl ?_
                refine ev_goto f267_71 ?_
                refine ev_iload rfl ?_
                refine ev_iconst ?_
                refine ev_icmpge f267_109 (fun c72985 => absurd c72985 (by omega)) (fun c72985 => ?_)
                refine ev_aload_n rfl ?_
                refine g_getp (r := 42) (c := 51) g72984 ad42 (by decide) (by decide) rf42_13 ft12_13 ?_
                refine ev_iconst ?_
                refine ev_iload rfl ?_
                refine ev_imul (r := (400 * w0 + 4 * w1)) (by unfold w32; omega) ?_
                refine ev_iload rfl ?_
                refine ev_iadd (r := (400 * w0 + 4 * w1 + 2)) (by unfold w32; omega) ?_
                refine ev_iconst ?_
                refine ev_bastG (r := 51) (j := ((400 * w0 + 4 * w1 + 2)).toNat) (w := (-1)) (g72984.lt ad51) (g72984.tg ad51) (by omega) (by rw [g72984.ln ad51]; omega) (by unfold w8; omega) (fun h72986 e72986 => ?_)
                have g72986 := g72984.s51 e72986 (by rw [(((jw_ne e72984 (Or.inl (by decide))).trans ((jw_ne e72983 (Or.inl (by decide))).trans ((jw_ne e72981 (Or.inl (by decide))).trans ((jw_ne e72980 (Or.inl (by decide))).trans ((jw_ne e72978 (Or.inl (by decide))).trans ((jw_ne e72977 (Or.inl (by decide))).trans ((jw_ne e72976 (Or.inl (by decide))).trans ((jw_ne e72974 (Or.inr (by decide))).trans ew0)))))))))]; omega) (by omega) (by omega)
                have k72986 := k72984.wr e72986 rfl
                refine ev_aload_n rfl ?_
                refine g_getp (r := 42) (c := 52) g72986 ad42 (by decide) (by decide) rf42_14 ft12_14 ?_
                refine ev_iconst ?_
                refine ev_iload rfl ?_
                refine ev_imul (r := (400 * w0 + 4 * w1)) (by unfold w32; omega) ?_
                refine ev_iload rfl ?_
                refine ev_iadd (r := (400 * w0 + 4 * w1 + 2)) (by unfold w32; omega) ?_
                refine ev_iconst ?_
                refine g_iast g72986 ad52 rt52 (fun _ => rfl) (by omega) (by omega) (by omega) (by omega) (fun h72987 e72987 g72987 => ?_)
                have k72987 := k72986.wr e72987 rfl
                refine ev_iinc (w := 3) (L' := [(2, 42), (0, 1), (0, 0), (0, (v72896 - 48)), (0, (100 * w0 + w1)), (0, 3)]) rfl (by decide) rfl ?_
                refine ev_goto f267_71 ?_
                refine ev_iload rfl ?_
                refine ev_iconst ?_
                refine ev_icmpge f267_109 (fun c72988 => absurd c72988 (by omega)) (fun c72988 => ?_)
                refine ev_aload_n rfl ?_
                refine g_getp (r := 42) (c := 51) g72987 ad42 (by decide) (by decide) rf42_13 ft12_13 ?_
                refine ev_iconst ?_
                refine ev_iload rfl ?_
                refine ev_imul (r := (400 * w0 + 4 * w1)) (by unfold w32; omega) ?_
                refine ev_iload rfl ?_
                refine ev_iadd (r := (400 * w0 + 4 * w1 + 3)) (by unfold w32; omega) ?_
                refine ev_iconst ?_
                refine ev_bastG (r := 51) (j := ((400 * w0 + 4 * w1 + 3)).toNat) (w := (-1)) (g72987.lt ad51) (g72987.tg ad51) (by omega) (by rw [g72987.ln ad51]; omega) (by unfold w8; omega) (fun h72989 e72989 => ?_)
                have g72989 := g72987.s51 e72989 (by rw [(((jw_ne e72987 (Or.inl (by decide))).trans ((jw_ne e72986 (Or.inl (by decide))).trans ((jw_ne e72984 (Or.inl (by decide))).trans ((jw_ne e72983 (Or.inl (by decide))).trans ((jw_ne e72981 (Or.inl (by decide))).trans ((jw_ne e72980 (Or.inl (by decide))).trans ((jw_ne e72978 (Or.inl (by decide))).trans ((jw_ne e72977 (Or.inl (by decide))).trans ((jw_ne e72976 (Or.inl (by decide))).trans ((jw_ne e72974 (Or.inr (by decide))).trans ew0)))))))))))]; omega) (by omega) (by omega)
                have k72989 := k72987.wr e72989 rfl
                refine ev_aload_n rfl ?_
                refine g_getp (r := 42) (c := 52) g72989 ad42 (by decide) (by decide) rf42_14 ft12_14 ?_
                refine ev_iconst ?_
                refine ev_iload rfl ?_
                refine ev_imul (r := (400 * w0 + 4 * w1)) (by unfold w32; omega) ?_
                refine ev_iload rfl ?_
                refine ev_iadd (r := (400 * w0 + 4 * w1 + 3)) (by unfold w32; omega) ?_
                refine ev_iconst ?_
                refine g_iast g72989 ad52 rt52 (fun _ => rfl) (by omega) (by omega) (by omega) (by omega) (fun h72990 e72990 g72990 => ?_)
                have k72990 := k72989.wr e72990 rfl
                refine ev_iinc (w := 4) (L' := [(2, 42), (0, 1), (0, 0), (0, (v72896 - 48)), (0, (100 * w0 + w1)), (0, 4)]) rfl (by decide) rfl ?_
                refine ev_goto f267_71 ?_
                refine ev_iload rfl ?_
                refine ev_iconst ?_
                refine ev_icmpge f267_109 (fun c72991 => ?_) (fun c72991 => absurd c72991 (by omega))
                refine ev_iload rfl ?_
                refine ev_ret rfl (by decide) (by decide) ?_
                show jEv _ _ _ _ _ _ _ (_, [(2, 42), (0, a1), (0, 1), (0, (a1 + 1)), (0, 0), (0, (v72896 - 48)), (0, 1)], [(0, (100 * w0 + w1))], _, _, _)
                refine ev_pop (by decide) ?_
                refine ev_iload_n rfl ?_
                exact ev_ret rfl (by decide) (by decide) ⟨⟨_, rfl, by omega, by omega, g72990, k72990⟩, fun r hr h0 => by cases hr; exact (Ad.step (r' := (a1 + 1)) (Ad.rf _ _ _) (by omega) k72990 (fun _ => rfl) (((jw_ne e72990 (Or.inl (by decide))).trans ((jw_ne e72989 (Or.inl (by decide))).trans ((jw_ne e72987 (Or.inl (by decide))).trans ((jw_ne e72986 (Or.inl (by decide))).trans ((jw_ne e72984 (Or.inl (by decide))).trans ((jw_ne e72983 (Or.inl (by decide))).trans ((jw_ne e72981 (Or.inl (by decide))).trans ((jw_ne e72980 (Or.inl (by decide))).trans ((jw_ne e72978 (Or.inl (by decide))).trans ((jw_ne e72977 (Or.inl (by decide))).trans ((jw_ne e72976 (Or.inl (by decide))).trans ((jw_ne e72974 (Or.inl (by decide))).trans ev72896))))))))))))) (by omega) (by omega) (by omega)), fun r hr => by cases hr; exact ⟨_, (((jw_ne e72990 (Or.inl (by decide))).trans ((jw_ne e72989 (Or.inl (by decide))).trans ((jw_ne e72987 (Or.inl (by decide))).trans ((jw_ne e72986 (Or.inl (by decide))).trans ((jw_ne e72984 (Or.inl (by decide))).trans ((jw_ne e72983 (Or.inl (by decide))).trans ((jw_ne e72981 (Or.inl (by decide))).trans ((jw_ne e72980 (Or.inl (by decide))).trans ((jw_ne e72978 (Or.inl (by decide))).trans ((jw_ne e72977 (Or.inl (by decide))).trans ((jw_ne e72976 (Or.inl (by decide))).trans (jw_eq e72974))))))))))))), by omega, by omega, (Fr.kp (Fr.w (i := (400 * w0 + 4 * w1 + 3)) (Fr.kp (Fr.w (i := (400 * w0 + 4 * w1 + 2)) (Fr.kp (Fr.w (i := (400 * w0 + 4 * w1 + 1)) (Fr.kp (Fr.w (i := (400 * w0 + 4 * w1)) (Fr.w (i := (100 * w0 + w1)) (Fr.w (i := (100 * w0 + w1)) (Fr.w (i := (100 * w0 + w1)) (Fr.kp (Fr.rf _ _) ((Kp.rf [(42, 0)] _).wr e72974 rfl) (fun _ => rfl) (fun _ => rfl) (fun _ => rfl) (fun _ => rfl)) e72976 (by omega) (by omega)) e72977 (by omega) (by omega)) e72978 (by omega) (by omega)) e72980 (by omega) (by omega)) ((Kp.rf [(52, 0)] _).wr e72981 rfl) (fun _ => rfl) (fun _ => rfl) (fun _ => rfl) (fun _ => rfl)) e72983 (by omega) (by omega)) ((Kp.rf [(52, 0)] _).wr e72984 rfl) (fun _ => rfl) (fun _ => rfl) (fun _ => rfl) (fun _ => rfl)) e72986 (by omega) (by omega)) ((Kp.rf [(52, 0)] _).wr e72987 rfl) (fun _ => rfl) (fun _ => rfl) (fun _ => rfl) (fun _ => rfl)) e72989 (by omega) (by omega)) ((Kp.rf [(52, 0)] _).wr e72990 rfl) (fun _ => rfl) (fun _ => rfl) (fun _ => rfl) (fun _ => rfl)), fun h0 => by omega, fun h0 hm => Tr.end (i := (100 * w0 + w1)) (by omega) (by omega) (by omega) (((jw_ne e72990 (Or.inl (by decide))).trans ((jw_ne e72989 (Or.inl (by decide))).trans ((jw_ne e72987 (Or.inl (by decide))).trans ((jw_ne e72986 (Or.inl (by decide))).trans ((jw_ne e72984 (Or.inl (by decide))).trans ((jw_ne e72983 (Or.inl (by decide))).trans ((jw_ne e72981 (Or.inl (by decide))).trans ((jw_ne e72980 (Or.inl (by decide))).trans ((jw_ne e72978 (Or.inl (by decide))).trans ((jw_ne e72977 (Or.inl (by decide))).trans (jw_eq e72976)))))))))))) (by omega) (by omega)⟩⟩
              · refine ev_iconst ?_
                refine ev_goto f242_15 ?_
                refine ev_ret rfl (by decide) (by decide) ?_
                show jEv _ _ _ _ _ _ _ (_, [(2, 42), (0, (a1 + 1))], [(0, 1)], _, _, _)
                refine ev_ret rfl (by decide) (by decide) ?_
                show jEv _ _ _ _ _ _ _ (_, [(2, 42), (0, a1), (0, 1), (0, (a1 + 1)), (0, 0), (0, (v72896 - 48)), (0, 1)], [(0, 1)], _, _, _)
                refine ev_ifeq f269_86 (fun c72992 => absurd c72992 (by omega)) (fun c72992 => ?_)
                refine ev_bipush ?_
                refine ev_iload rfl ?_
                refine ev_imul (r := (10 * v72896 - 480)) (by unfold w32; omega) ?_
                refine ev_aload_n rfl ?_
                refine ev_iload_n rfl ?_
                refine ev_in (d := 1) (a := 0) (b := 0) (cd' := c264_0) (m := 2) (L0 := [(2, 42), (0, (a1 + 1))]) (jcall_v (A := [(0, (a1 + 1))]) (S' := [(0, (10 * v72896 - 480))]) (r := 42) rfl (g.lt ad42) (g.tg ad42) (Nat.le_of_ble_eq_true rfl)) (by decide) ml264 pp264 (Nat.le_of_ble_eq_true rfl) rfl (by decide) (by decide) ?_
                refine ev_iload_n rfl ?_
                refine ev_aload_n rfl ?_
                refine g_getv (r := 42) (v := v72888) g ad42 (by decide) ft12_17 (ev72888) ?_
                refine ev_icmpge f264_17 (fun c72993 => absurd c72993 (by omega)) (fun c72993 => ?_)
                refine ev_aload_n rfl ?_
                refine g_getp (r := 42) (c := 54) g ad42 (by decide) (by decide) rf42_16 ft12_16 ?_
                refine ev_iload_n rfl ?_
                refine g_baldv (v := v72940) g ad54 (by omega) (by omega) (ev72940) ?_
                refine ev_goto f264_18 ?_
                refine ev_ret rfl (by decide) (by decide) ?_
                show jEv _ _ _ _ _ _ _ (_, [(2, 42), (0, a1), (0, 1), (0, (a1 + 1)), (0, 0), (0, (v72896 - 48)), (0, 1)], [(0, v72940), (0, (10 * v72896 - 480))], _, _, _)
                refine ev_iadd (r := (10 * v72896 + v72940 - 480)) (by unfold w32; omega) ?_
                refine ev_bipush ?_
                refine ev_isub (r := (10 * v72896 + v72940 - 528)) (by unfold w32; omega) ?_
                refine ev_istore (L' := [(2, 42), (0, a1), (0, 1), (0, (a1 + 1)), (0, 0), (0, (10 * v72896 + v72940 - 528)), (0, 1)]) (Nat.le_of_ble_eq_true rfl) rfl ?_
                refine ev_iinc (w := 2) (L' := [(2, 42), (0, a1), (0, 1), (0, (a1 + 1)), (0, 0), (0, (10 * v72896 + v72940 - 528)), (0, 2)]) rfl (by decide) rfl ?_
                refine ev_iinc (w := (a1 + 2)) (L' := [(2, 42), (0, a1), (0, 1), (0, (a1 + 2)), (0, 0), (0, (10 * v72896 + v72940 - 528)), (0, 2)]) rfl (by unfold w32; omega) rfl ?_
                refine ev_goto f269_47 ?_
                refine ev_iload rfl ?_
                refine ev_iconst ?_
                refine ev_icmpge f269_86 (fun c72994 => absurd c72994 (by omega)) (fun c72994 => ?_)
                refine ev_aload_n rfl ?_
                refine ev_iload_n rfl ?_
                refine ev_in (d := 1) (a := 0) (b := 0) (cd' := c265_0) (m := 2) (L0 := [(2, 42), (0, (a1 + 2))]) (jcall_v (A := [(0, (a1 + 2))]) (S' := []) (r := 42) rfl (g.lt ad42) (g.tg ad42) (Nat.le_of_ble_eq_true rfl)) (by decide) ml265 pp265 (Nat.le_of_ble_eq_true rfl) rfl (by decide) (by decide) ?_
                refine ev_aload_n rfl ?_
                refine ev_iload_n rfl ?_
                refine ev_in (d := 0) (a := 0) (b := 0) (cd' := c264_0) (m := 2) (L0 := [(2, 42), (0, (a1 + 2))]) (jcall_v (A := [(0, (a1 + 2))]) (S' := []) (r := 42) rfl (g.lt ad42) (g.tg ad42) (Nat.le_of_ble_eq_true rfl)) (by decide) ml264 pp264 (Nat.le_of_ble_eq_true rfl) rfl (by decide) (by decide) ?_
                refine ev_iload_n rfl ?_
                refine ev_aload_n rfl ?_
                refine g_getv (r := 42) (v := v72888) g ad42 (by decide) ft12_17 (ev72888) ?_
                refine ev_icmpge f264_17 (fun c72995 => ?_) (fun c72995 => ?_)
                · refine ev_iconst ?_
                  refine ev_ret rfl (by decide) (by decide) ?_
                  show jEv _ _ _ _ _ _ _ (_, [(2, 42), (0, (a1 + 2))], [(0, (-1))], _, _, _)
                  refine ev_bipush ?_
                  refine ev_bipush ?_
                  refine ev_in (d := 0) (a := 0) (b := 0) (cd' := c242_0) (m := 3) (L0 := [(0, (-1)), (0, 48), (0, 57)]) (jcall_s (A := [(0, 57), (0, 48), (0, (-1))]) (S' := []) (by decide) rfl (Nat.le_of_ble_eq_true rfl)) (by decide) ml242 pp242 (Nat.le_of_ble_eq_true rfl) rfl (by decide) (by decide) ?_
                  refine ev_iload_n rfl ?_
                  refine ev_iload_n rfl ?_
                  refine ev_icmplt f242_14 (fun c72996 => ?_) (fun c72996 => absurd c72996 (by omega))
                  refine ev_iconst ?_
                  refine ev_ret rfl (by decide) (by decide) ?_
                  show jEv _ _ _ _ _ _ _ (_, [(2, 42), (0, (a1 + 2))], [(0, 0)], _, _, _)
                  refine ev_ret rfl (by decide) (by decide) ?_
                  show jEv _ _ _ _ _ _ _ (_, [(2, 42), (0, a1), (0, 1), (0, (a1 + 2)), (0, 0), (0, (10 * v72896 + v72940 - 528)), (0, 2)], [(0, 0)], _, _, _)
                  refine ev_ifeq f269_86 (fun c72997 => ?_) (fun c72997 => absurd c72997 (by omega))
                  refine ev_aload_n rfl ?_
                  refine ev_iload_n rfl ?_
                  refine ev_in (d := 1) (a := 0) (b := 0) (cd' := c265_0) (m := 2) (L0 := [(2, 42), (0, (a1 + 2))]) (jcall_v (A := [(0, (a1 + 2))]) (S' := []) (r := 42) rfl (g.lt ad42) (g.tg ad42) (Nat.le_of_ble_eq_true rfl)) (by decide) ml265 pp265 (Nat.le_of_ble_eq_true rfl) rfl (by decide) (by decide) ?_
                  refine ev_aload_n rfl ?_
                  refine ev_iload_n rfl ?_
                  refine ev_in (d := 0) (a := 0) (b := 0) (cd' := c264_0) (m := 2) (L0 := [(2, 42), (0, (a1 + 2))]) (jcall_v (A := [(0, (a1 + 2))]) (S' := []) (r := 42) rfl (g.lt ad42) (g.tg ad42) (Nat.le_of_ble_eq_true rfl)) (by decide) ml264 pp264 (Nat.le_of_ble_eq_true rfl) rfl (by decide) (by decide) ?_
                  refine ev_iload_n rfl ?_
                  refine ev_aload_n rfl ?_
                  refine g_getv (r := 42) (v := v72888) g ad42 (by decide) ft12_17 (ev72888) ?_
                  refine ev_icmpge f264_17 (fun c72998 => ?_) (fun c72998 => absurd c72998 (by omega))
                  refine ev_iconst ?_
                  refine ev_ret rfl (by decide) (by decide) ?_
                  show jEv _ _ _ _ _ _ _ (_, [(2, 42), (0, (a1 + 2))], [(0, (-1))], _, _, _)
                  refine ev_bipush ?_
                  refine ev_bipush ?_
                  refine ev_in (d := 0) (a := 0) (b := 0) (cd' := c242_0) (m := 3) (L0 := [(0, (-1)), (0, 48), (0, 57)]) (jcall_s (A := [(0, 57), (0, 48), (0, (-1))]) (S' := []) (by decide) rfl (Nat.le_of_ble_eq_true rfl)) (by decide) ml242 pp242 (Nat.le_of_ble_eq_true rfl) rfl (by decide) (by decide) ?_
                  refine ev_iload_n rfl ?_
                  refine ev_iload_n rfl ?_
                  refine ev_icmplt f242_14 (fun c72999 => ?_) (fun c72999 => absurd c72999 (by omega))
                  refine ev_iconst ?_
                  refine ev_ret rfl (by decide) (by decide) ?_
                  show jEv _ _ _ _ _ _ _ (_, [(2, 42), (0, (a1 + 2))], [(0, 0)], _, _, _)
                  refine ev_ret rfl (by decide) (by decide) ?_
                  show jEv _ _ _ _ _ _ _ (_, [(2, 42), (0, a1), (0, 1), (0, (a1 + 2)), (0, 0), (0, (10 * v72896 + v72940 - 528)), (0, 2)], [(0, 0)], _, _, _)
                  refine ev_ifeq f269_100 (fun c73000 => ?_) (fun c73000 => absurd c73000 (by omega))
                  refine ev_aload_n rfl ?_
                  refine ev_iload_n rfl ?_
                  refine ev_iconst ?_
                  refine ev_iload rfl ?_
                  refine ev_ifeq f269_114 (fun c73001 => ?_) (fun c73001 => absurd c73001 (by omega))
                  refine ev_iload rfl ?_
                  refine ev_in (d := 1) (a := 0) (b := 0) (cd' := c267_0) (m := 6) (L0 := [(2, 42), (0, 1), (0, 0), (0, (10 * v72896 + v72940 - 528)), (9, 0), (9, 0)]) (jcall_v (A := [(0, (10 * v72896 + v72940 - 528)), (0, 0), (0, 1)]) (S' := []) (r := 42) rfl (g.lt ad42) (g.tg ad42) (Nat.le_of_ble_eq_true rfl)) (by decide) ml267 pp267 (Nat.le_of_ble_eq_true rfl) rfl (by decide) (by decide) ?_
                  refine ev_iload_n rfl ?_
                  refine ev_ifne f267_6 (fun c73002 => ?_) (fun c73002 => absurd c73002 (by omega))
                  refine ev_aload_n rfl ?_
                  refine ev_dup (by decide) ?_
                  refine g_getv (r := 42) (v := w1) g ad42 (by decide) ft12_21 (ew1) ?_
                  refine ev_iconst ?_
                  refine ev_iadd (r := (w1 + 1)) (by unfold w32; omega) ?_
                  refine g_putf (r := 42) g ad42 (by decide) ft12_21 (by decide) (fun e => absurd e nz12_21) rf42_21 (by decide) (by omega) (by omega) (fun h73003 e73003 g73003 => ?_)
                  have k73003 := k0.wr e73003 rfl
                  refine ev_aload_n rfl ?_
                  refine g_getv (r := 42) (v := (w1 + 1)) g73003 ad42 (by decide) ft12_21 ((jw_eq e73003)) ?_
                  refine ev_bipush ?_
                  refine ev_icmple f267_27 (fun c73004 => ?_) (fun c73004 => absurd c73004 (by omega))
                  refine ev_bipush ?_
                  refine ev_aload_n rfl ?_
                  refine g_getv (r := 42) (v := w0) g73003 ad42 (by decide) ft12_9 (((jw_ne e73003 (Or.inr (by decide))).trans ew0)) ?_
                  refine ev_imul (r := (100 * w0)) (by unfold w32; omega) ?_
                  refine ev_aload_n rfl ?_
                  refine g_getv (r := 42) (v := (w1 + 1)) g73003 ad42 (by decide) ft12_21 ((jw_eq e73003)) ?_
                  refine ev_iadd (r := (100 * w0 + w1 + 1)) (by unfold w32; omega) ?_
                  refine ev_iconst ?_
                  refine ev_isub (r := (100 * w0 + w1)) (by unfold w32; omega) ?_
                  refine ev_istore (L' := [(2, 42), (0, 1), (0, 0), (0, (10 * v72896 + v72940 - 528)), (0, (100 * w0 + w1)), (9, 0)]) (Nat.le_of_ble_eq_true rfl) rfl ?_
                  refine ev_aload_n rfl ?_
                  refine g_getp (r := 42) (c := 49) g73003 ad42 (by decide) (by decide) rf42_11 ft12_11 ?_
                  refine ev_iload rfl ?_
                  refine ev_iload_n rfl ?_
                  refine ev_i2b (r := 0) (by unfold w8; omega) ?_
                  refine ev_bastG (r := 49) (j := ((100 * w0 + w1)).toNat) (w := 0) (g73003.lt ad49) (g73003.tg ad49) (by omega) (by rw [g73003.ln ad49]; omega) (by unfold w8; omega) (fun h73005 e73005 => ?_)
                  have g73005 := g73003.s49 e73005 (by rw [(((jw_ne e73003 (Or.inr (by decide))).trans ew0))]; omega) (by omega) (by omega)
                  have k73005 := k73003.wr e73005 rfl
                  refine ev_aload_n rfl ?_
                  refine g_getp (r := 42) (c := 50) g73005 ad42 (by decide) (by decide) rf42_12 ft12_12 ?_
                  refine ev_iload rfl ?_
                  refine ev_iload_n rfl ?_
                  refine ev_iastG (r := 50) (j := ((100 * w0 + w1)).toNat) (g73005.lt ad50) (g73005.tg ad50) (by omega) (by rw [g73005.ln ad50]; omega) (fun h73006 e73006 => ?_)
                  have g73006 := g73005.s50 e73006 (Or.inl (by rw [(((jw_ne e73005 (Or.inl (by decide))).trans ((jw_ne e73003 (Or.inr (by decide))).trans ew0)))]; omega)) (by omega) (by omega)
                  have k73006 := k73005.wr e73006 rfl
                  refine ev_aload_n rfl ?_
                  refine g_getp (r := 42) (c := 53) g73006 ad42 (by decide) (by decide) rf42_15 ft12_15 ?_
                  refine ev_iload rfl ?_
                  refine ev_iconst ?_
                  refine ev_bastG (r := 53) (j := ((100 * w0 + w1)).toNat) (w := 0) (g73006.lt ad53) (g73006.tg ad53) (by omega) (by rw [g73006.ln ad53]; omega) (by unfold w8; omega) (fun h73007 e73007 => ?_)
                  have g73007 := g73006.s53 e73007 (Or.inl (by rw [(((jw_ne e73006 (Or.inl (by decide))).trans ((jw_ne e73005 (Or.inl (by decide))).trans ((jw_ne e73003 (Or.inr (by decide))).trans ew0))))]; omega)) (by omega) (by omega)
                  have k73007 := k73006.wr e73007 rfl
                  refine ev_iconst ?_
                  refine ev_istore (L' := [(2, 42), (0, 1), (0, 0), (0, (10 * v72896 + v72940 - 528)), (0, (100 * w0 + w1)), (0, 0)]) (Nat.le_of_ble_eq_true rfl) rfl ?_
                  refine ev_iload rfl ?_
                  refine ev_iconst ?_
                  refine ev_icmpge f267_109 (fun c73008 => absurd c73008 (by omega)) (fun c73008 => ?_)
                  refine ev_aload_n rfl ?_
                  refine g_getp (r := 42) (c := 51) g73007 ad42 (by decide) (by decide) rf42_13 ft12_13 ?_
                  refine ev_iconst ?_
                  refine ev_iload rfl ?_
                  refine ev_imul (r := (400 * w0 + 4 * w1)) (by unfold w32; omega) ?_
                  refine ev_iload rfl ?_
                  refine ev_iadd (r := (400 * w0 + 4 * w1)) (by unfold w32; omega) ?_
                  refine ev_iconst ?_
                  refine ev_bastG (r := 51) (j := ((400 * w0 + 4 * w1)).toNat) (w := (-1)) (g73007.lt ad51) (g73007.tg ad51) (by omega) (by rw [g73007.ln ad51]; omega) (by unfold w8; omega) (fun h73009 e73009 => ?_)
                  have g73009 := g73007.s51 e73009 (by rw [(((jw_ne e73007 (Or.inl (by decide))).trans ((jw_ne e73006 (Or.inl (by decide))).trans ((jw_ne e73005 (Or.inl (by decide))).trans ((jw_ne e73003 (Or.inr (by decide))).trans ew0)))))]; omega) (by omega) (by omega)
                  have k73009 := k73007.wr e73009 rfl
                  refine ev_aload_n rfl ?_
                  refine g_getp (r := 42) (c := 52) g73009 ad42 (by decide) (by decide) rf42_14 ft12_14 ?_
                  refine ev_iconst ?_
                  refine ev_iload rfl ?_
                  refine ev_imul (r := (400 * w0 + 4 * w1)) (by unfold w32; omega) ?_
                  refine ev_iload rfl ?_
                  refine ev_iadd (r := (400 * w0 + 4 * w1)) (by unfold w32; omega) ?_
                  refine ev_iconst ?_
                  refine g_iast g73009 ad52 rt52 (fun _ => rfl) (by omega) (by omega) (by omega) (by omega) (fun h73010 e73010 g73010 => ?_)
                  have k73010 := k73009.wr e73010 rfl
                  refine ev_iinc (w := 1) (L' := [(2, 42), (0, 1), (0, 0), (0, (10 * v72896 + v72940 - 528)), (0, (100 * w0 + w1)), (0, 1)]) rfl (by decide) rfl ?_
                  refine ev_goto f267_71 ?_
                  refine ev_iload rfl ?_
                  refine ev_iconst ?_
                  refine ev_icmpge f267_109 (fun c73011 => absurd c73011 (by omega)) (fun c73011 => ?_)
                  refine ev_aload_n rfl ?_
                  refine g_getp (r := 42) (c := 51) g73010 ad42 (by decide) (by decide) rf42_13 ft12_13 ?_
                  refine ev_iconst ?_
                  refine ev_iload rfl ?_
                  refine ev_imul (r := (400 * w0 + 4 * w1)) (by unfold w32; omega) ?_
                  refine ev_iload rfl ?_
                  refine ev_iadd (r := (400 * w0 + 4 * w1 + 1)) (by unfold w32; omega) ?_
                  refine ev_iconst ?_
                  refine ev_bastG (r := 51) (j := ((400 * w0 + 4 * w1 + 1)).toNat) (w := (-1)) (g73010.lt ad51) (g73010.tg ad51) (by omega) (by rw [g73010.ln ad51]; omega) (by unfold w8; omega) (fun h73012 e73012 => ?_)
                  have g73012 := g73010.s51 e73012 (by rw [(((jw_ne e73010 (Or.inl (by decide))).trans ((jw_ne e73009 (Or.inl (by decide))).trans ((jw_ne e73007 (Or.inl (by decide))).trans ((jw_ne e73006 (Or.inl (by decide))).trans ((jw_ne e73005 (Or.inl (by decide))).trans ((jw_ne e73003 (Or.inr (by decide))).trans ew0)))))))]; omega) (by omega) (by omega)
                  have k73012 := k73010.wr e73012 rfl
                  refine ev_aload_n rfl ?_
                  refine g_getp (r := 42) (c := 52) g73012 ad42 (by decide) (by decide) rf42_14 ft12_14 ?_
                  refine ev_iconst ?_
                  refine ev_iload rfl ?_
                  refine ev_imul (r := (400 * w0 + 4 * w1)) (by unfold w32; omega) ?_
                  refine ev_iload rfl ?_
                  refine ev_iadd (r := (400 * w0 + 4 * w1 + 1)) (by unfold w32; omega) ?_
                  refine ev_iconst ?_
                  refine g_iast g73012 ad52 rt52 (fun _ => rfl) (by omega) (by omega) (by omega) (by omega) (fun h73013 e73013 g73013 => ?_)
                  have k73013 := k73012.wr e73013 rfl
                  refine ev_iinc (w := 2) (L' := [(2, 42), (0, 1), (0, 0), (0, (10 * v72896 + v72940 - 528)), (0, (100 * w0 + w1)), (0, 2)]) rfl (by decide) rfl ?_
                  refine ev_goto f267_71 ?_
                  refine ev_iload rfl ?_
                  refine ev_iconst ?_
                  refine ev_icmpge f267_109 (fun c73014 => absurd c73014 (by omega)) (fun c73014 => ?_)
                  refine ev_aload_n rfl ?_
                  refine g_getp (r := 42) (c := 51) g73013 ad42 (by decide) (by decide) rf42_13 ft12_13 ?_
                  refine ev_iconst ?_
                  refine ev_iload rfl ?_
                  refine ev_imul (r := (400 * w0 + 4 * w1)) (by unfold w32; omega) ?_
                  refine ev_iload rfl ?_
                  refine ev_iadd (r := (400 * w0 + 4 * w1 + 2)) (by unfold w32; omega) ?_
                  refine ev_iconst ?_
                  refine ev_bastG (r := 51) (j := ((400 * w0 + 4 * w1 + 2)).toNat) (w := (-1)) (g73013.lt ad51) (g73013.tg ad51) (by omega) (by rw [g73013.ln ad51]; omega) (by unfold w8; omega) (fun h73015 e73015 => ?_)
                  have g73015 := g73013.s51 e73015 (by rw [(((jw_ne e73013 (Or.inl (by decide))).trans ((jw_ne e73012 (Or.inl (by decide))).trans ((jw_ne e73010 (Or.inl (by decide))).trans ((jw_ne e73009 (Or.inl (by decide))).trans ((jw_ne e73007 (Or.inl (by decide))).trans ((jw_ne e73006 (Or.inl (by decide))).trans ((jw_ne e73005 (Or.inl (by decide))).trans ((jw_ne e73003 (Or.inr (by decide))).trans ew0)))))))))]; omega) (by omega) (by omega)
                  have k73015 := k73013.wr e73015 rfl
                  refine ev_aload_n rfl ?_
                  refine g_getp (r := 42) (c := 52) g73015 ad42 (by decide) (by decide) rf42_14 ft12_14 ?_
                  refine ev_iconst ?_
                  refine ev_iload rfl ?_
                  refine ev_imul (r := (400 * w0 + 4 * w1)) (by unfold w32; omega) ?_
                  refine ev_iload rfl ?_
                  refine ev_iadd (r := (400 * w0 + 4 * w1 + 2)) (by unfold w32; omega) ?_
                  refine ev_iconst ?_
                  refine g_iast g73015 ad52 rt52 (fun _ => rfl) (by omega) (by omega) (by omega) (by omega) (fun h73016 e73016 g73016 => ?_)
                  have k73016 := k73015.wr e73016 rfl
                  refine ev_iinc (w := 3) (L' := [(2, 42), (0, 1), (0, 0), (0, (10 * v72896 + v72940 - 528)), (0, (100 * w0 + w1)), (0, 3)]) rfl (by decide) rfl ?_
                  refine ev_goto f267_71 ?_
                  refine ev_iload rfl ?_
                  refine ev_iconst ?_
                  refine ev_icmpge f267_109 (fun c73017 => absurd c73017 (by omega)) (fun c73017 => ?_)
                  refine ev_aload_n rfl ?_
                  refine g_getp (r := 42) (c := 51) g73016 ad42 (by decide) (by decide) rf42_13 ft12_13 ?_
                  refine ev_iconst ?_
                  refine ev_iload rfl ?_
                  refine ev_imul (r := (400 * w0 + 4 * w1)) (by unfold w32; omega) ?_
                  refine ev_iload rfl ?_
                  refine ev_iadd (r := (400 * w0 + 4 * w1 + 3)) (by unfold w32; omega) ?_
                  refine ev_iconst ?_
                  refine ev_bastG (r := 51) (j := ((400 * w0 + 4 * w1 + 3)).toNat) (w := (-1)) (g73016.lt ad51) (g73016.tg ad51) (by omega) (by rw [g73016.ln ad51]; omega) (by unfold w8; omega) (fun h73018 e73018 => ?_)
                  have g73018 := g73016.s51 e73018 (by rw [(((jw_ne e73016 (Or.inl (by decide))).trans ((jw_ne e73015 (Or.inl (by decide))).trans ((jw_ne e73013 (Or.inl (by decide))).trans ((jw_ne e73012 (Or.inl (by decide))).trans ((jw_ne e73010 (Or.inl (by decide))).trans ((jw_ne e73009 (Or.inl (by decide))).trans ((jw_ne e73007 (Or.inl (by decide))).trans ((jw_ne e73006 (Or.inl (by decide))).trans ((jw_ne e73005 (Or.inl (by decide))).trans ((jw_ne e73003 (Or.inr (by decide))).trans ew0)))))))))))]; omega) (by omega) (by omega)
                  have k73018 := k73016.wr e73018 rfl
                  refine ev_aload_n rfl ?_
                  refine g_getp (r := 42) (c := 52) g73018 ad42 (by decide) (by decide) rf42_14 ft12_14 ?_
                  refine ev_iconst ?_
                  refine ev_iload rfl ?_
                  refine ev_imul (r := (400 * w0 + 4 * w1)) (by unfold w32; omega) ?_
                  refine ev_iload rfl ?_
                  refine ev_iadd (r := (400 * w0 + 4 * w1 + 3)) (by unfold w32; omega) ?_
                  refine ev_iconst ?_
                  refine g_iast g73018 ad52 rt52 (fun _ => rfl) (by omega) (by omega) (by omega) (by omega) (fun h73019 e73019 g73019 => ?_)
                  have k73019 := k73018.wr e73019 rfl
                  refine ev_iinc (w := 4) (L' := [(2, 42), (0, 1), (0, 0), (0, (10 * v72896 + v72940 - 528)), (0, (100 * w0 + w1)), (0, 4)]) rfl (by decide) rfl ?_
                  refine ev_goto f267_71 ?_
                  refine ev_iload rfl ?_
                  refine ev_iconst ?_
                  refine ev_icmpge f267_109 (fun c73020 => ?_) (fun c73020 => absurd c73020 (by omega))
                  refine ev_iload rfl ?_
                  refine ev_ret rfl (by decide) (by decide) ?_
                  show jEv _ _ _ _ _ _ _ (_, [(2, 42), (0, a1), (0, 1), (0, (a1 + 2)), (0, 0), (0, (10 * v72896 + v72940 - 528)), (0, 2)], [(0, (100 * w0 + w1))], _, _, _)
                  refine ev_pop (by decide) ?_
                  refine ev_iload_n rfl ?_
                  exact ev_ret rfl (by decide) (by decide) ⟨⟨_, rfl, by omega, by omega, g73019, k73019⟩, fun r hr h0 => by cases hr; exact (Ad.step (r' := (a1 + 2)) (Ad.step (r' := (a1 + 1)) (Ad.rf _ _ _) (by omega) k73019 (fun _ => rfl) (((jw_ne e73019 (Or.inl (by decide))).trans ((jw_ne e73018 (Or.inl (by decide))).trans ((jw_ne e73016 (Or.inl (by decide))).trans ((jw_ne e73015 (Or.inl (by decide))).trans ((jw_ne e73013 (Or.inl (by decide))).trans ((jw_ne e73012 (Or.inl (by decide))).trans ((jw_ne e73010 (Or.inl (by decide))).trans ((jw_ne e73009 (Or.inl (by decide))).trans ((jw_ne e73007 (Or.inl (by decide))).trans ((jw_ne e73006 (Or.inl (by decide))).trans ((jw_ne e73005 (Or.inl (by decide))).trans ((jw_ne e73003 (Or.inl (by decide))).trans ev72896))))))))))))) (by omega) (by omega) (by omega)) (by omega) k73019 (fun _ => rfl) (((jw_ne e73019 (Or.inl (by decide))).trans ((jw_ne e73018 (Or.inl (by decide))).trans ((jw_ne e73016 (Or.inl (by decide))).trans ((jw_ne e73015 (Or.inl (by decide))).trans ((jw_ne e73013 (Or.inl (by decide))).trans ((jw_ne e73012 (Or.inl (by decide))).trans ((jw_ne e73010 (Or.inl (by decide))).trans ((jw_ne e73009 (Or.inl (by decide))).trans ((jw_ne e73007 (Or.inl (by decide))).trans ((jw_ne e73006 (Or.inl (by decide))).trans ((jw_ne e73005 (Or.inl (by decide))).trans ((jw_ne e73003 (Or.inl (by decide))).trans ev72940))))))))))))) (by omega) (by omega) (by omega)), fun r hr => by cases hr; exact ⟨_, (((jw_ne e73019 (Or.inl (by decide))).trans ((jw_ne e73018 (Or.inl (by decide))).trans ((jw_ne e73016 (Or.inl (by decide))).trans ((jw_ne e73015 (Or.inl (by decide))).trans ((jw_ne e73013 (Or.inl (by decide))).trans ((jw_ne e73012 (Or.inl (by decide))).trans ((jw_ne e73010 (Or.inl (by decide))).trans ((jw_ne e73009 (Or.inl (by decide))).trans ((jw_ne e73007 (Or.inl (by decide))).trans ((jw_ne e73006 (Or.inl (by decide))).trans ((jw_ne e73005 (Or.inl (by decide))).trans (jw_eq e73003))))))))))))), by omega, by omega, (Fr.kp (Fr.w (i := (400 * w0 + 4 * w1 + 3)) (Fr.kp (Fr.w (i := (400 * w0 + 4 * w1 + 2)) (Fr.kp (Fr.w (i := (400 * w0 + 4 * w1 + 1)) (Fr.kp (Fr.w (i := (400 * w0 + 4 * w1)) (Fr.w (i := (100 * w0 + w1)) (Fr.w (i := (100 * w0 + w1)) (Fr.w (i := (100 * w0 + w1)) (Fr.kp (Fr.rf _ _) ((Kp.rf [(42, 0)] _).wr e73003 rfl) (fun _ => rfl) (fun _ => rfl) (fun _ => rfl) (fun _ => rfl)) e73005 (by omega) (by omega)) e73006 (by omega) (by omega)) e73007 (by omega) (by omega)) e73009 (by omega) (by omega)) ((Kp.rf [(52, 0)] _).wr e73010 rfl) (fun _ => rfl) (fun _ => rfl) (fun _ => rfl) (fun _ => rfl)) e73012 (by omega) (by omega)) ((Kp.rf [(52, 0)] _).wr e73013 rfl) (fun _ => rfl) (fun _ => rfl) (fun _ => rfl) (fun _ => rfl)) e73015 (by omega) (by omega)) ((Kp.rf [(52, 0)] _).wr e73016 rfl) (fun _ => rfl) (fun _ => rfl) (fun _ => rfl) (fun _ => rfl)) e73018 (by omega) (by omega)) ((Kp.rf [(52, 0)] _).wr e73019 rfl) (fun _ => rfl) (fun _ => rfl) (fun _ => rfl) (fun _ => rfl)), fun h0 => by omega, fun h0 hm => Tr.end (i := (100 * w0 + w1)) (by omega) (by omega) (by omega) (((jw_ne e73019 (Or.inl (by decide))).trans ((jw_ne e73018 (Or.inl (by decide))).trans ((jw_ne e73016 (Or.inl (by decide))).trans ((jw_ne e73015 (Or.inl (by decide))).trans ((jw_ne e73013 (Or.inl (by decide))).trans ((jw_ne e73012 (Or.inl (by decide))).trans ((jw_ne e73010 (Or.inl (by decide))).trans ((jw_ne e73009 (Or.inl (by decide))).trans ((jw_ne e73007 (Or.inl (by decide))).trans ((jw_ne e73006 (Or.inl (by decide))).trans (jw_eq e73005)))))))))))) (by omega) (by omega)⟩⟩
                · refine ev_aload_n rfl ?_
                  refine g_getp (r := 42) (c := 54) g ad42 (by decide) (by decide) rf42_16 ft12_16 ?_
                  refine ev_iload_n rfl ?_
                  refine g_bald g ad54 rt54 (by omega) (by omega) (fun v73021 ev73021 lv73021 uv73021 => ?_)
                  refine ev_goto f264_18 ?_
                  refine ev_ret rfl (by decide) (by decide) ?_
                  show jEv _ _ _ _ _ _ _ (_, [(2, 42), (0, (a1 + 2))], [(0, v73021)], _, _, _)
                  refine ev_bipush ?_
                  refine ev_bipush ?_
                  refine ev_in (d := 0) (a := 0) (b := 0) (cd' := c242_0) (m := 3) (L0 := [(0, v73021), (0, 48), (0, 57)]) (jcall_s (A := [(0, 57), (0, 48), (0, v73021)]) (S' := []) (by decide) rfl (Nat.le_of_ble_eq_true rfl)) (by decide) ml242 pp242 (Nat.le_of_ble_eq_true rfl) rfl (by decide) (by decide) ?_
                  refine ev_iload_n rfl ?_
                  refine ev_iload_n rfl ?_
                  refine ev_icmplt f242_14 (fun c73022 => ?_) (fun c73022 => ?_)
                  · refine ev_iconst ?_
                    refine ev_ret rfl (by decide) (by decide) ?_
                    show jEv _ _ _ _ _ _ _ (_, [(2, 42), (0, (a1 + 2))], [(0, 0)], _, _, _)
                    refine ev_ret rfl (by decide) (by decide) ?_
                    show jEv _ _ _ _ _ _ _ (_, [(2, 42), (0, a1), (0, 1), (0, (a1 + 2)), (0, 0), (0, (10 * v72896 + v72940 - 528)), (0, 2)], [(0, 0)], _, _, _)
                    refine ev_ifeq f269_86 (fun c73023 => ?_) (fun c73023 => absurd c73023 (by omega))
                    refine ev_aload_n rfl ?_
                    refine ev_iload_n rfl ?_
                    refine ev_in (d := 1) (a := 0) (b := 0) (cd' := c265_0) (m := 2) (L0 := [(2, 42), (0, (a1 + 2))]) (jcall_v (A := [(0, (a1 + 2))]) (S' := []) (r := 42) rfl (g.lt ad42) (g.tg ad42) (Nat.le_of_ble_eq_true rfl)) (by decide) ml265 pp265 (Nat.le_of_ble_eq_true rfl) rfl (by decide) (by decide) ?_
                    refine ev_aload_n rfl ?_
                    refine ev_iload_n rfl ?_
                    refine ev_in (d := 0) (a := 0) (b := 0) (cd' := c264_0) (m := 2) (L0 := [(2, 42), (0, (a1 + 2))]) (jcall_v (A := [(0, (a1 + 2))]) (S' := []) (r := 42) rfl (g.lt ad42) (g.tg ad42) (Nat.le_of_ble_eq_true rfl)) (by decide) ml264 pp264 (Nat.le_of_ble_eq_true rfl) rfl (by decide) (by decide) ?_
                    refine ev_iload_n rfl ?_
                    refine ev_aload_n rfl ?_
                    refine g_getv (r := 42) (v := v72888) g ad42 (by decide) ft12_17 (ev72888) ?_
                    refine ev_icmpge f264_17 (fun c73024 => absurd c73024 (by omega)) (fun c73024 => ?_)
                    refine ev_aload_n rfl ?_
                    refine g_getp (r := 42) (c := 54) g ad42 (by decide) (by decide) rf42_16 ft12_16 ?_
                    refine ev_iload_n rfl ?_
                    refine g_baldv (v := v73021) g ad54 (by omega) (by omega) (ev73021) ?_
                    refine ev_goto f264_18 ?_
                    refine ev_ret rfl (by decide) (by decide) ?_
                    show jEv _ _ _ _ _ _ _ (_, [(2, 42), (0, (a1 + 2))], [(0, v73021)], _, _, _)
                    refine ev_bipush ?_
                    refine ev_bipush ?_
                    refine ev_in (d := 0) (a := 0) (b := 0) (cd' := c242_0) (m := 3) (L0 := [(0, v73021), (0, 48), (0, 57)]) (jcall_s (A := [(0, 57), (0, 48), (0, v73021)]) (S' := []) (by decide) rfl (Nat.le_of_ble_eq_true rfl)) (by decide) ml242 pp242 (Nat.le_of_ble_eq_true rfl) rfl (by decide) (by decide) ?_
                    refine ev_iload_n rfl ?_
                    refine ev_iload_n rfl ?_
                    refine ev_icmplt f242_14 (fun c73025 => ?_) (fun c73025 => absurd c73025 (by omega))
                    refine ev_iconst ?_
                    refine ev_ret rfl (by decide) (by decide) ?_
                    show jEv _ _ _ _ _ _ _ (_, [(2, 42), (0, (a1 + 2))], [(0, 0)], _, _, _)
                    refine ev_ret rfl (by decide) (by decide) ?_
                    show jEv _ _ _ _ _ _ _ (_, [(2, 42), (0, a1), (0, 1), (0, (a1 + 2)), (0, 0), (0, (10 * v72896 + v72940 - 528)), (0, 2)], [(0, 0)], _, _, _)
                    refine ev_ifeq f269_100 (fun c73026 => ?_) (fun c73026 => absurd c73026 (by omega))
                    refine ev_aload_n rfl ?_
                    refine ev_iload_n rfl ?_
                    refine ev_iconst ?_
                    refine ev_iload rfl ?_
                    refine ev_ifeq f269_114 (fun c73027 => ?_) (fun c73027 => absurd c73027 (by omega))
                    refine ev_iload rfl ?_
                    refine ev_in (d := 1) (a := 0) (b := 0) (cd' := c267_0) (m := 6) (L0 := [(2, 42), (0, 1), (0, 0), (0, (10 * v72896 + v72940 - 528)), (9, 0), (9, 0)]) (jcall_v (A := [(0, (10 * v72896 + v72940 - 528)), (0, 0), (0, 1)]) (S' := []) (r := 42) rfl (g.lt ad42) (g.tg ad42) (Nat.le_of_ble_eq_true rfl)) (by decide) ml267 pp267 (Nat.le_of_ble_eq_true rfl) rfl (by decide) (by decide) ?_
                    refine ev_iload_n rfl ?_
                    refine ev_ifne f267_6 (fun c73028 => ?_) (fun c73028 => absurd c73028 (by omega))
                    refine ev_aload_n rfl ?_
                    refine ev_dup (by decide) ?_
                    refine g_getv (r := 42) (v := w1) g ad42 (by decide) ft12_21 (ew1) ?_
                    refine ev_iconst ?_
                    refine ev_iadd (r := (w1 + 1)) (by unfold w32; omega) ?_
                    refine g_putf (r := 42) g ad42 (by decide) ft12_21 (by decide) (fun e => absurd e nz12_21) rf42_21 (by decide) (by omega) (by omega) (fun h73029 e73029 g73029 => ?_)
                    have k73029 := k0.wr e73029 rfl
                    refine ev_aload_n rfl ?_
                    refine g_getv (r := 42) (v := (w1 + 1)) g73029 ad42 (by decide) ft12_21 ((jw_eq e73029)) ?_
                    refine ev_bipush ?_
                    refine ev_icmple f267_27 (fun c73030 => ?_) (fun c73030 => absurd c73030 (by omega))
                    refine ev_bipush ?_
                    refine ev_aload_n rfl ?_
                    refine g_getv (r := 42) (v := w0) g73029 ad42 (by decide) ft12_9 (((jw_ne e73029 (Or.inr (by decide))).trans ew0)) ?_
                    refine ev_imul (r := (100 * w0)) (by unfold w32; omega) ?_
                    refine ev_aload_n rfl ?_
                    refine g_getv (r := 42) (v := (w1 + 1)) g73029 ad42 (by decide) ft12_21 ((jw_eq e73029)) ?_
                    refine ev_iadd (r := (100 * w0 + w1 + 1)) (by unfold w32; omega) ?_
                    refine ev_iconst ?_
                    refine ev_isub (r := (100 * w0 + w1)) (by unfold w32; omega) ?_
                    refine ev_istore (L' := [(2, 42), (0, 1), (0, 0), (0, (10 * v72896 + v72940 - 528)), (0, (100 * w0 + w1)), (9, 0)]) (Nat.le_of_ble_eq_true rfl) rfl ?_
                    refine ev_aload_n rfl ?_
                    refine g_getp (r := 42) (c := 49) g73029 ad42 (by decide) (by decide) rf42_11 ft12_11 ?_
                    refine ev_iload rfl ?_
                    refine ev_iload_n rfl ?_
                    refine ev_i2b (r := 0) (by unfold w8; omega) ?_
                    refine ev_bastG (r := 49) (j := ((100 * w0 + w1)).toNat) (w := 0) (g73029.lt ad49) (g73029.tg ad49) (by omega) (by rw [g73029.ln ad49]; omega) (by unfold w8; omega) (fun h73031 e73031 => ?_)
                    have g73031 := g73029.s49 e73031 (by rw [(((jw_ne e73029 (Or.inr (by decide))).trans ew0))]; omega) (by omega) (by omega)
                    have k73031 := k73029.wr e73031 rfl
                    refine ev_aload_n rfl ?_
                    refine g_getp (r := 42) (c := 50) g73031 ad42 (by decide) (by decide) rf42_12 ft12_12 ?_
                    refine ev_iload rfl ?_
                    refine ev_iload_n rfl ?_
                    refine ev_iastG (r := 50) (j := ((100 * w0 + w1)).toNat) (g73031.lt ad50) (g73031.tg ad50) (by omega) (by rw [g73031.ln ad50]; omega) (fun h73032 e73032 => ?_)
                    have g73032 := g73031.s50 e73032 (Or.inl (by rw [(((jw_ne e73031 (Or.inl (by decide))).trans ((jw_ne e73029 (Or.inr (by decide))).trans ew0)))]; omega)) (by omega) (by omega)
                    have k73032 := k73031.wr e73032 rfl
                    refine ev_aload_n rfl ?_
                    refine g_getp (r := 42) (c := 53) g73032 ad42 (by decide) (by decide) rf42_15 ft12_15 ?_
                    refine ev_iload rfl ?_
                    refine ev_iconst ?_
                    refine ev_bastG (r := 53) (j := ((100 * w0 + w1)).toNat) (w := 0) (g73032.lt ad53) (g73032.tg ad53) (by omega) (by rw [g73032.ln ad53]; omega) (by unfold w8; omega) (fun h73033 e73033 => ?_)
                    have g73033 := g73032.s53 e73033 (Or.inl (by rw [(((jw_ne e73032 (Or.inl (by decide))).trans ((jw_ne e73031 (Or.inl (by decide))).trans ((jw_ne e73029 (Or.inr (by decide))).trans ew0))))]; omega)) (by omega) (by omega)
                    have k73033 := k73032.wr e73033 rfl
                    refine ev_iconst ?_
                    refine ev_istore (L' := [(2, 42), (0, 1), (0, 0), (0, (10 * v72896 + v72940 - 528)), (0, (100 * w0 + w1)), (0, 0)]) (Nat.le_of_ble_eq_true rfl) rfl ?_
                    refine ev_iload rfl ?_
                    refine ev_iconst ?_
                    refine ev_icmpge f267_109 (fun c73034 => absurd c73034 (by omega)) (fun c73034 => ?_)
                    refine ev_aload_n rfl ?_
                    refine g_getp (r := 42) (c := 51) g73033 ad42 (by decide) (by decide) rf42_13 ft12_13 ?_
                    refine ev_iconst ?_
                    refine ev_iload rfl ?_
                    refine ev_imul (r := (400 * w0 + 4 * w1)) (by unfold w32; omega) ?_
                    refine ev_iload rfl ?_
                    refine ev_iadd (r := (400 * w0 + 4 * w1)) (by unfold w32; omega) ?_
                    refine ev_iconst ?_
                    refine ev_bastG (r := 51) (j := ((400 * w0 + 4 * w1)).toNat) (w := (-1)) (g73033.lt ad51) (g73033.tg ad51) (by omega) (by rw [g73033.ln ad51]; omega) (by unfold w8; omega) (fun h73035 e73035 => ?_)
                    have g73035 := g73033.s51 e73035 (by rw [(((jw_ne e73033 (Or.inl (by decide))).trans ((jw_ne e73032 (Or.inl (by decide))).trans ((jw_ne e73031 (Or.inl (by decide))).trans ((jw_ne e73029 (Or.inr (by decide))).trans ew0)))))]; omega) (by omega) (by omega)
                    have k73035 := k73033.wr e73035 rfl
                    refine ev_aload_n rfl ?_
                    refine g_getp (r := 42) (c := 52) g73035 ad42 (by decide) (by decide) rf42_14 ft12_14 ?_
                    refine ev_iconst ?_
                    refine ev_iload rfl ?_
                    refine ev_imul (r := (400 * w0 + 4 * w1)) (by unfold w32; omega) ?_
                    refine ev_iload rfl ?_
                    refine ev_iadd (r := (400 * w0 + 4 * w1)) (by unfold w32; omega) ?_
                    refine ev_iconst ?_
                    refine g_iast g73035 ad52 rt52 (fun _ => rfl) (by omega) (by omega) (by omega) (by omega) (fun h73036 e73036 g73036 => ?_)
                    have k73036 := k73035.wr e73036 rfl
                    refine ev_iinc (w := 1) (L' := [(2, 42), (0, 1), (0, 0), (0, (10 * v72896 + v72940 - 528)), (0, (100 * w0 + w1)), (0, 1)]) rfl (by decide) rfl ?_
                    refine ev_goto f267_71 ?_
                    refine ev_iload rfl ?_
                    refine ev_iconst ?_
                    refine ev_icmpge f267_109 (fun c73037 => absurd c73037 (by omega)) (fun c73037 => ?_)
                    refine ev_aload_n rfl ?_
                    refine g_getp (r := 42) (c := 51) g73036 ad42 (by decide) (by decide) rf42_13 ft12_13 ?_
                    refine ev_iconst ?_
                    refine ev_iload rfl ?_
                    refine ev_imul (r := (400 * w0 + 4 * w1)) (by unfold w32; omega) ?_
                    refine ev_iload rfl ?_
                    refine ev_iadd (r := (400 * w0 + 4 * w1 + 1)) (by unfold w32; omega) ?_
                    refine ev_iconst ?_
                    refine ev_bastG (r := 51) (j := ((400 * w0 + 4 * w1 + 1)).toNat) (w := (-1)) (g73036.lt ad51) (g73036.tg ad51) (by omega) (by rw [g73036.ln ad51]; omega) (by unfold w8; omega) (fun h73038 e73038 => ?_)
                    have g73038 := g73036.s51 e73038 (by rw [(((jw_ne e73036 (Or.inl (by decide))).trans ((jw_ne e73035 (Or.inl (by decide))).trans ((jw_ne e73033 (Or.inl (by decide))).trans ((jw_ne e73032 (Or.inl (by decide))).trans ((jw_ne e73031 (Or.inl (by decide))).trans ((jw_ne e73029 (Or.inr (by decide))).trans ew0)))))))]; omega) (by omega) (by omega)
                    have k73038 := k73036.wr e73038 rfl
                    refine ev_aload_n rfl ?_
                    refine g_getp (r := 42) (c := 52) g73038 ad42 (by decide) (by decide) rf42_14 ft12_14 ?_
                    refine ev_iconst ?_
                    refine ev_iload rfl ?_
                    refine ev_imul (r := (400 * w0 + 4 * w1)) (by unfold w32; omega) ?_
                    refine ev_iload rfl ?_
                    refine ev_iadd (r := (400 * w0 + 4 * w1 + 1)) (by unfold w32; omega) ?_
                    refine ev_iconst ?_
                    refine g_iast g73038 ad52 rt52 (fun _ => rfl) (by omega) (by omega) (by omega) (by omega) (fun h73039 e73039 g73039 => ?_)
                    have k73039 := k73038.wr e73039 rfl
                    refine ev_iinc (w := 2) (L' := [(2, 42), (0, 1), (0, 0), (0, (10 * v72896 + v72940 - 528)), (0, (100 * w0 + w1)), (0, 2)]) rfl (by decide) rfl ?_
                    refine ev_goto f267_71 ?_
                    refine ev_iload rfl ?_
                    refine ev_iconst ?_
                    refine ev_icmpge f267_109 (fun c73040 => absurd c73040 (by omega)) (fun c73040 => ?_)
                    refine ev_aload_n rfl ?_
                    refine g_getp (r := 42) (c := 51) g73039 ad42 (by decide) (by decide) rf42_13 ft12_13 ?_
                    refine ev_iconst ?_
                    refine ev_iload rfl ?_
                    refine ev_imul (r := (400 * w0 + 4 * w1)) (by unfold w32; omega) ?_
                    refine ev_iload rfl ?_
                    refine ev_iadd (r := (400 * w0 + 4 * w1 + 2)) (by unfold w32; omega) ?_
                    refine ev_iconst ?_
                    refine ev_bastG (r := 51) (j := ((400 * w0 + 4 * w1 + 2)).toNat) (w := (-1)) (g73039.lt ad51) (g73039.tg ad51) (by omega) (by rw [g73039.ln ad51]; omega) (by unfold w8; omega) (fun h73041 e73041 => ?_)
                    have g73041 := g73039.s51 e73041 (by rw [(((jw_ne e73039 (Or.inl (by decide))).trans ((jw_ne e73038 (Or.inl (by decide))).trans ((jw_ne e73036 (Or.inl (by decide))).trans ((jw_ne e73035 (Or.inl (by decide))).trans ((jw_ne e73033 (Or.inl (by decide))).trans ((jw_ne e73032 (Or.inl (by decide))).trans ((jw_ne e73031 (Or.inl (by decide))).trans ((jw_ne e73029 (Or.inr (by decide))).trans ew0)))))))))]; omega) (by omega) (by omega)
                    have k73041 := k73039.wr e73041 rfl
                    refine ev_aload_n rfl ?_
                    refine g_getp (r := 42) (c := 52) g73041 ad42 (by decide) (by decide) rf42_14 ft12_14 ?_
                    refine ev_iconst ?_
                    refine ev_iload rfl ?_
                    refine ev_imul (r := (400 * w0 + 4 * w1)) (by unfold w32; omega) ?_
                    refine ev_iload rfl ?_
                    refine ev_iadd (r := (400 * w0 + 4 * w1 + 2)) (by unfold w32; omega) ?_
                    refine ev_iconst ?_
                    refine g_iast g73041 ad52 rt52 (fun _ => rfl) (by omega) (by omega) (by omega) (by omega) (fun h73042 e73042 g73042 => ?_)
                    have k73042 := k73041.wr e73042 rfl
                    refine ev_iinc (w := 3) (L' := [(2, 42), (0, 1), (0, 0), (0, (10 * v72896 + v72940 - 528)), (0, (100 * w0 + w1)), (0, 3)]) rfl (by decide) rfl ?_
                    refine ev_goto f267_71 ?_
                    refine ev_iload rfl ?_
                    refine ev_iconst ?_
                    refine ev_icmpge f267_109 (fun c73043 => absurd c73043 (by omega)) (fun c73043 => ?_)
                    refine ev_aload_n rfl ?_
                    refine g_getp (r := 42) (c := 51) g73042 ad42 (by decide) (by decide) rf42_13 ft12_13 ?_
                    refine ev_iconst ?_
                    refine ev_iload rfl ?_
                    refine ev_imul (r := (400 * w0 + 4 * w1)) (by unfold w32; omega) ?_
                    refine ev_iload rfl ?_
                    refine ev_iadd (r := (400 * w0 + 4 * w1 + 3)) (by unfold w32; omega) ?_
                    refine ev_iconst ?_
                    refine ev_bastG (r := 51) (j := ((400 * w0 + 4 * w1 + 3)).toNat) (w := (-1)) (g73042.lt ad51) (g73042.tg ad51) (by omega) (by rw [g73042.ln ad51]; omega) (by unfold w8; omega) (fun h73044 e73044 => ?_)
                    have g73044 := g73042.s51 e73044 (by rw [(((jw_ne e73042 (Or.inl (by decide))).trans ((jw_ne e73041 (Or.inl (by decide))).trans ((jw_ne e73039 (Or.inl (by decide))).trans ((jw_ne e73038 (Or.inl (by decide))).trans ((jw_ne e73036 (Or.inl (by decide))).trans ((jw_ne e73035 (Or.inl (by decide))).trans ((jw_ne e73033 (Or.inl (by decide))).trans ((jw_ne e73032 (Or.inl (by decide))).trans ((jw_ne e73031 (Or.inl (by decide))).trans ((jw_ne e73029 (Or.inr (by decide))).trans ew0)))))))))))]; omega) (by omega) (by omega)
                    have k73044 := k73042.wr e73044 rfl
                    refine ev_aload_n rfl ?_
                    refine g_getp (r := 42) (c := 52) g73044 ad42 (by decide) (by decide) rf42_14 ft12_14 ?_
                    refine ev_iconst ?_
                    refine ev_iload rfl ?_
                    refine ev_imul (r := (400 * w0 + 4 * w1)) (by unfold w32; omega) ?_
                    refine ev_iload rfl ?_
                    refine ev_iadd (r := (400 * w0 + 4 * w1 + 3)) (by unfold w32; omega) ?_
                    refine ev_iconst ?_
                    refine g_iast g73044 ad52 rt52 (fun _ => rfl) (by omega) (by omega) (by omega) (by omega) (fun h73045 e73045 g73045 => ?_)
                    have k73045 := k73044.wr e73045 rfl
                    refine ev_iinc (w := 4) (L' := [(2, 42), (0, 1), (0, 0), (0, (10 * v72896 + v72940 - 528)), (0, (100 * w0 + w1)), (0, 4)]) rfl (by decide) rfl ?_
                    refine ev_goto f267_71 ?_
                    refine ev_iload rfl ?_
                    refine ev_iconst ?_
                    refine ev_icmpge f267_109 (fun c73046 => ?_) (fun c73046 => absurd c73046 (by omega))
                    refine ev_iload rfl ?_
                    refine ev_ret rfl (by decide) (by decide) ?_
                    show jEv _ _ _ _ _ _ _ (_, [(2, 42), (0, a1), (0, 1), (0, (a1 + 2)), (0, 0), (0, (10 * v72896 + v72940 - 528)), (0, 2)], [(0, (100 * w0 + w1))], _, _, _)
                    refine ev_pop (by decide) ?_
                    refine ev_iload_n rfl ?_
                    exact ev_ret rfl (by decide) (by decide) ⟨⟨_, rfl, by omega, by omega, g73045, k73045⟩, fun r hr h0 => by cases hr; exact (Ad.step (r' := (a1 + 2)) (Ad.step (r' := (a1 + 1)) (Ad.rf _ _ _) (by omega) k73045 (fun _ => rfl) (((jw_ne e73045 (Or.inl (by decide))).trans ((jw_ne e73044 (Or.inl (by decide))).trans ((jw_ne e73042 (Or.inl (by decide))).trans ((jw_ne e73041 (Or.inl (by decide))).trans ((jw_ne e73039 (Or.inl (by decide))).trans ((jw_ne e73038 (Or.inl (by decide))).trans ((jw_ne e73036 (Or.inl (by decide))).trans ((jw_ne e73035 (Or.inl (by decide))).trans ((jw_ne e73033 (Or.inl (by decide))).trans ((jw_ne e73032 (Or.inl (by decide))).trans ((jw_ne e73031 (Or.inl (by decide))).trans ((jw_ne e73029 (Or.inl (by decide))).trans ev72896))))))))))))) (by omega) (by omega) (by omega)) (by omega) k73045 (fun _ => rfl) (((jw_ne e73045 (Or.inl (by decide))).trans ((jw_ne e73044 (Or.inl (by decide))).trans ((jw_ne e73042 (Or.inl (by decide))).trans ((jw_ne e73041 (Or.inl (by decide))).trans ((jw_ne e73039 (Or.inl (by decide))).trans ((jw_ne e73038 (Or.inl (by decide))).trans ((jw_ne e73036 (Or.inl (by decide))).trans ((jw_ne e73035 (Or.inl (by decide))).trans ((jw_ne e73033 (Or.inl (by decide))).trans ((jw_ne e73032 (Or.inl (by decide))).trans ((jw_ne e73031 (Or.inl (by decide))).trans ((jw_ne e73029 (Or.inl (by decide))).trans ev72940))))))))))))) (by omega) (by omega) (by omega)), fun r hr => by cases hr; exact ⟨_, (((jw_ne e73045 (Or.inl (by decide))).trans ((jw_ne e73044 (Or.inl (by decide))).trans ((jw_ne e73042 (Or.inl (by decide))).trans ((jw_ne e73041 (Or.inl (by decide))).trans ((jw_ne e73039 (Or.inl (by decide))).trans ((jw_ne e73038 (Or.inl (by decide))).trans ((jw_ne e73036 (Or.inl (by decide))).trans ((jw_ne e73035 (Or.inl (by decide))).trans ((jw_ne e73033 (Or.inl (by decide))).trans ((jw_ne e73032 (Or.inl (by decide))).trans ((jw_ne e73031 (Or.inl (by decide))).trans (jw_eq e73029))))))))))))), by omega, by omega, (Fr.kp (Fr.w (i := (400 * w0 + 4 * w1 + 3)) (Fr.kp (Fr.w (i := (400 * w0 + 4 * w1 + 2)) (Fr.kp (Fr.w (i := (400 * w0 + 4 * w1 + 1)) (Fr.kp (Fr.w (i := (400 * w0 + 4 * w1)) (Fr.w (i := (100 * w0 + w1)) (Fr.w (i := (100 * w0 + w1)) (Fr.w (i := (100 * w0 + w1)) (Fr.kp (Fr.rf _ _) ((Kp.rf [(42, 0)] _).wr e73029 rfl) (fun _ => rfl) (fun _ => rfl) (fun _ => rfl) (fun _ => rfl)) e73031 (by omega) (by omega)) e73032 (by omega) (by omega)) e73033 (by omega) (by omega)) e73035 (by omega) (by omega)) ((Kp.rf [(52, 0)] _).wr e73036 rfl) (fun _ => rfl) (fun _ => rfl) (fun _ => rfl) (fun _ => rfl)) e73038 (by omega) (by omega)) ((Kp.rf [(52, 0)] _).wr e73039 rfl) (fun _ => rfl) (fun _ => rfl) (fun _ => rfl) (fun _ => rfl)) e73041 (by omega) (by omega)) ((Kp.rf [(52, 0)] _).wr e73042 rfl) (fun _ => rfl) (fun _ => rfl) (fun _ => rfl) (fun _ => rfl)) e73044 (by omega) (by omega)) ((Kp.rf [(52, 0)] _).wr e73045 rfl) (fun _ => rfl) (fun _ => rfl) (fun _ => rfl) (fun _ => rfl)), fun h0 => by omega, fun h0 hm => Tr.end (i := (100 * w0 + w1)) (by omega) (by omega) (by omega) (((jw_ne e73045 (Or.inl (by decide))).trans ((jw_ne e73044 (Or.inl (by decide))).trans ((jw_ne e73042 (Or.inl (by decide))).trans ((jw_ne e73041 (Or.inl (by decide))).trans ((jw_ne e73039 (Or.inl (by decide))).trans ((jw_ne e73038 (Or.inl (by decide))).trans ((jw_ne e73036 (Or.inl (by decide))).trans ((jw_ne e73035 (Or.inl (by decide))).trans ((jw_ne e73033 (Or.inl (by decide))).trans ((jw_ne e73032 (Or.inl (by decide))).trans (jw_eq e73031)))))))))))) (by omega) (by omega)⟩⟩
                  · refine ev_iload_n rfl ?_
                    refine ev_iload_n rfl ?_
                    refine ev_icmpgt f242_14 (fun c73047 => ?_) (fun c73047 => ?_)
                    · refine ev_iconst ?_
                      refine ev_ret rfl (by decide) (by decide) ?_
                      show jEv _ _ _ _ _ _ _ (_, [(2, 42), (0, (a1 + 2))], [(0, 0)], _, _, _)
                      refine ev_ret rfl (by decide) (by decide) ?_
                      show jEv _ _ _ _ _ _ _ (_, [(2, 42), (0, a1), (0, 1), (0, (a1 + 2)), (0, 0), (0, (10 * v72896 + v72940 - 528)), (0, 2)], [(0, 0)], _, _, _)
                      refine ev_ifeq f269_86 (fun c73048 => ?_) (fun c73048 => absurd c73048 (by omega))
                      refine ev_aload_n rfl ?_
                      refine ev_iload_n rfl ?_
                      refine ev_in (d := 1) (a := 0) (b := 0) (cd' := c265_0) (m := 2) (L0 := [(2, 42), (0, (a1 + 2))]) (jcall_v (A := [(0, (a1 + 2))]) (S' := []) (r := 42) rfl (g.lt ad42) (g.tg ad42) (Nat.le_of_ble_eq_true rfl)) (by decide) ml265 pp265 (Nat.le_of_ble_eq_true rfl) rfl (by decide) (by decide) ?_
                      refine ev_aload_n rfl ?_
                      refine ev_iload_n rfl ?_
                      refine ev_in (d := 0) (a := 0) (b := 0) (cd' := c264_0) (m := 2) (L0 := [(2, 42), (0, (a1 + 2))]) (jcall_v (A := [(0, (a1 + 2))]) (S' := []) (r := 42) rfl (g.lt ad42) (g.tg ad42) (Nat.le_of_ble_eq_true rfl)) (by decide) ml264 pp264 (Nat.le_of_ble_eq_true rfl) rfl (by decide) (by decide) ?_
                      refine ev_iload_n rfl ?_
                      refine ev_aload_n rfl ?_
                      refine g_getv (r := 42) (v := v72888) g ad42 (by decide) ft12_17 (ev72888) ?_
                      refine ev_icmpge f264_17 (fun c73049 => absurd c73049 (by omega)) (fun c73049 => ?_)
                      refine ev_aload_n rfl ?_
                      refine g_getp (r := 42) (c := 54) g ad42 (by decide) (by decide) rf42_16 ft12_16 ?_
                      refine ev_iload_n rfl ?_
                      refine g_baldv (v := v73021) g ad54 (by omega) (by omega) (ev73021) ?_
                      refine ev_goto f264_18 ?_
                      refine ev_ret rfl (by decide) (by decide) ?_
                      show jEv _ _ _ _ _ _ _ (_, [(2, 42), (0, (a1 + 2))], [(0, v73021)], _, _, _)
                      refine ev_bipush ?_
                      refine ev_bipush ?_
                      refine ev_in (d := 0) (a := 0) (b := 0) (cd' := c242_0) (m := 3) (L0 := [(0, v73021), (0, 48), (0, 57)]) (jcall_s (A := [(0, 57), (0, 48), (0, v73021)]) (S' := []) (by decide) rfl (Nat.le_of_ble_eq_true rfl)) (by decide) ml242 pp242 (Nat.le_of_ble_eq_true rfl) rfl (by decide) (by decide) ?_
                      refine ev_iload_n rfl ?_
                      refine ev_iload_n rfl ?_
                      refine ev_icmplt f242_14 (fun c73050 => absurd c73050 (by omega)) (fun c73050 => ?_)
                      refine ev_iload_n rfl ?_
                      refine ev_iload_n rfl ?_
                      refine ev_icmpgt f242_14 (fun c73051 => ?_) (fun c73051 => absurd c73051 (by omega))
                      refine ev_iconst ?_
                      refine ev_ret rfl (by decide) (by decide) ?_
                      show jEv _ _ _ _ _ _ _ (_, [(2, 42), (0, (a1 + 2))], [(0, 0)], _, _, _)
                      refine ev_ret rfl (by decide) (by decide) ?_
                      show jEv _ _ _ _ _ _ _ (_, [(2, 42), (0, a1), (0, 1), (0, (a1 + 2)), (0, 0), (0, (10 * v72896 + v72940 - 528)), (0, 2)], [(0, 0)], _, _, _)
                      refine ev_ifeq f269_100 (fun c73052 => ?_) (fun c73052 => absurd c73052 (by omega))
                      refine ev_aload_n rfl ?_
                      refine ev_iload_n rfl ?_
                      refine ev_iconst ?_
                      refine ev_iload rfl ?_
                      refine ev_ifeq f269_114 (fun c73053 => ?_) (fun c73053 => absurd c73053 (by omega))
                      refine ev_iload rfl ?_
                      refine ev_in (d := 1) (a := 0) (b := 0) (cd' := c267_0) (m := 6) (L0 := [(2, 42), (0, 1), (0, 0), (0, (10 * v72896 + v72940 - 528)), (9, 0), (9, 0)]) (jcall_v (A := [(0, (10 * v72896 + v72940 - 528)), (0, 0), (0, 1)]) (S' := []) (r := 42) rfl (g.lt ad42) (g.tg ad42) (Nat.le_of_ble_eq_true rfl)) (by decide) ml267 pp267 (Nat.le_of_ble_eq_true rfl) rfl (by decide) (by decide) ?_
                      refine ev_iload_n rfl ?_
                      refine ev_ifne f267_6 (fun c73054 => ?_) (fun c73054 => absurd c73054 (by omega))
                      refine ev_aload_n rfl ?_
                      refine ev_dup (by decide) ?_
                      refine g_getv (r := 42) (v := w1) g ad42 (by decide) ft12_21 (ew1) ?_
                      refine ev_iconst ?_
                      refine ev_iadd (r := (w1 + 1)) (by unfold w32; omega) ?_
                      refine g_putf (r := 42) g ad42 (by decide) ft12_21 (by decide) (fun e => absurd e nz12_21) rf42_21 (by decide) (by omega) (by omega) (fun h73055 e73055 g73055 => ?_)
                      have k73055 := k0.wr e73055 rfl
                      refine ev_aload_n rfl ?_
                      refine g_getv (r := 42) (v := (w1 + 1)) g73055 ad42 (by decide) ft12_21 ((jw_eq e73055)) ?_
                      refine ev_bipush ?_
                      refine ev_icmple f267_27 (fun c73056 => ?_) (fun c73056 => absurd c73056 (by omega))
                      refine ev_bipush ?_
                      refine ev_aload_n rfl ?_
                      refine g_getv (r := 42) (v := w0) g73055 ad42 (by decide) ft12_9 (((jw_ne e73055 (Or.inr (by decide))).trans ew0)) ?_
                      refine ev_imul (r := (100 * w0)) (by unfold w32; omega) ?_
                      refine ev_aload_n rfl ?_
                      refine g_getv (r := 42) (v := (w1 + 1)) g73055 ad42 (by decide) ft12_21 ((jw_eq e73055)) ?_
                      refine ev_iadd (r := (100 * w0 + w1 + 1)) (by unfold w32; omega) ?_
                      refine ev_iconst ?_
                      refine ev_isub (r := (100 * w0 + w1)) (by unfold w32; omega) ?_
                      refine ev_istore (L' := [(2, 42), (0, 1), (0, 0), (0, (10 * v72896 + v72940 - 528)), (0, (100 * w0 + w1)), (9, 0)]) (Nat.le_of_ble_eq_true rfl) rfl ?_
                      refine ev_aload_n rfl ?_
                      refine g_getp (r := 42) (c := 49) g73055 ad42 (by decide) (by decide) rf42_11 ft12_11 ?_
                      refine ev_iload rfl ?_
                      refine ev_iload_n rfl ?_
                      refine ev_i2b (r := 0) (by unfold w8; omega) ?_
                      refine ev_bastG (r := 49) (j := ((100 * w0 + w1)).toNat) (w := 0) (g73055.lt ad49) (g73055.tg ad49) (by omega) (by rw [g73055.ln ad49]; omega) (by unfold w8; omega) (fun h73057 e73057 => ?_)
                      have g73057 := g73055.s49 e73057 (by rw [(((jw_ne e73055 (Or.inr (by decide))).trans ew0))]; omega) (by omega) (by omega)
                      have k73057 := k73055.wr e73057 rfl
                      refine ev_aload_n rfl ?_
                      refine g_getp (r := 42) (c := 50) g73057 ad42 (by decide) (by decide) rf42_12 ft12_12 ?_
                      refine ev_iload rfl ?_
                      refine ev_iload_n rfl ?_
                      refine ev_iastG (r := 50) (j := ((100 * w0 + w1)).toNat) (g73057.lt ad50) (g73057.tg ad50) (by omega) (by rw [g73057.ln ad50]; omega) (fun h73058 e73058 => ?_)
                      have g73058 := g73057.s50 e73058 (Or.inl (by rw [(((jw_ne e73057 (Or.inl (by decide))).trans ((jw_ne e73055 (Or.inr (by decide))).trans ew0)))]; omega)) (by omega) (by omega)
                      have k73058 := k73057.wr e73058 rfl
                      refine ev_aload_n rfl ?_
                      refine g_getp (r := 42) (c := 53) g73058 ad42 (by decide) (by decide) rf42_15 ft12_15 ?_
                      refine ev_iload rfl ?_
                      refine ev_iconst ?_
                      refine ev_bastG (r := 53) (j := ((100 * w0 + w1)).toNat) (w := 0) (g73058.lt ad53) (g73058.tg ad53) (by omega) (by rw [g73058.ln ad53]; omega) (by unfold w8; omega) (fun h73059 e73059 => ?_)
                      have g73059 := g73058.s53 e73059 (Or.inl (by rw [(((jw_ne e73058 (Or.inl (by decide))).trans ((jw_ne e73057 (Or.inl (by decide))).trans ((jw_ne e73055 (Or.inr (by decide))).trans ew0))))]; omega)) (by omega) (by omega)
                      have k73059 := k73058.wr e73059 rfl
                      refine ev_iconst ?_
                      refine ev_istore (L' := [(2, 42), (0, 1), (0, 0), (0, (10 * v72896 + v72940 - 528)), (0, (100 * w0 + w1)), (0, 0)]) (Nat.le_of_ble_eq_true rfl) rfl ?_
                      refine ev_iload rfl ?_
                      refine ev_iconst ?_
                      refine ev_icmpge f267_109 (fun c73060 => absurd c73060 (by omega)) (fun c73060 => ?_)
                      refine ev_aload_n rfl ?_
                      refine g_getp (r := 42) (c := 51) g73059 ad42 (by decide) (by decide) rf42_13 ft12_13 ?_
                      refine ev_iconst ?_
                      refine ev_iload rfl ?_
                      refine ev_imul (r := (400 * w0 + 4 * w1)) (by unfold w32; omega) ?_
                      refine ev_iload rfl ?_
                      refine ev_iadd (r := (400 * w0 + 4 * w1)) (by unfold w32; omega) ?_
                      refine ev_iconst ?_
                      refine ev_bastG (r := 51) (j := ((400 * w0 + 4 * w1)).toNat) (w := (-1)) (g73059.lt ad51) (g73059.tg ad51) (by omega) (by rw [g73059.ln ad51]; omega) (by unfold w8; omega) (fun h73061 e73061 => ?_)
                      have g73061 := g73059.s51 e73061 (by rw [(((jw_ne e73059 (Or.inl (by decide))).trans ((jw_ne e73058 (Or.inl (by decide))).trans ((jw_ne e73057 (Or.inl (by decide))).trans ((jw_ne e73055 (Or.inr (by decide))).trans ew0)))))]; omega) (by omega) (by omega)
                      have k73061 := k73059.wr e73061 rfl
                      refine ev_aload_n rfl ?_
                      refine g_getp (r := 42) (c := 52) g73061 ad42 (by decide) (by decide) rf42_14 ft12_14 ?_
                      refine ev_iconst ?_
                      refine ev_iload rfl ?_
                      refine ev_imul (r := (400 * w0 + 4 * w1)) (by unfold w32; omega) ?_
                      refine ev_iload rfl ?_
                      refine ev_iadd (r := (400 * w0 + 4 * w1)) (by unfold w32; omega) ?_
                      refine ev_iconst ?_
                      refine g_iast g73061 ad52 rt52 (fun _ => rfl) (by omega) (by omega) (by omega) (by omega) (fun h73062 e73062 g73062 => ?_)
                      have k73062 := k73061.wr e73062 rfl
                      refine ev_iinc (w := 1) (L' := [(2, 42), (0, 1), (0, 0), (0, (10 * v72896 + v72940 - 528)), (0, (100 * w0 + w1)), (0, 1)]) rfl (by decide) rfl ?_
                      refine ev_goto f267_71 ?_
                      refine ev_iload rfl ?_
                      refine ev_iconst ?_
                      refine ev_icmpge f267_109 (fun c73063 => absurd c73063 (by omega)) (fun c73063 => ?_)
                      refine ev_aload_n rfl ?_
                      refine g_getp (r := 42) (c := 51) g73062 ad42 (by decide) (by decide) rf42_13 ft12_13 ?_
                      refine ev_iconst ?_
                      refine ev_iload rfl ?_
                      refine ev_imul (r := (400 * w0 + 4 * w1)) (by unfold w32; omega) ?_
                      refine ev_iload rfl ?_
                      refine ev_iadd (r := (400 * w0 + 4 * w1 + 1)) (by unfold w32; omega) ?_
                      refine ev_iconst ?_
                      refine ev_bastG (r := 51) (j := ((400 * w0 + 4 * w1 + 1)).toNat) (w := (-1)) (g73062.lt ad51) (g73062.tg ad51) (by omega) (by rw [g73062.ln ad51]; omega) (by unfold w8; omega) (fun h73064 e73064 => ?_)
                      have g73064 := g73062.s51 e73064 (by rw [(((jw_ne e73062 (Or.inl (by decide))).trans ((jw_ne e73061 (Or.inl (by decide))).trans ((jw_ne e73059 (Or.inl (by decide))).trans ((jw_ne e73058 (Or.inl (by decide))).trans ((jw_ne e73057 (Or.inl (by decide))).trans ((jw_ne e73055 (Or.inr (by decide))).trans ew0)))))))]; omega) (by omega) (by omega)
                      have k73064 := k73062.wr e73064 rfl
                      refine ev_aload_n rfl ?_
                      refine g_getp (r := 42) (c := 52) g73064 ad42 (by decide) (by decide) rf42_14 ft12_14 ?_
                      refine ev_iconst ?_
                      refine ev_iload rfl ?_
                      refine ev_imul (r := (400 * w0 + 4 * w1)) (by unfold w32; omega) ?_
                      refine ev_iload rfl ?_
                      refine ev_iadd (r := (400 * w0 + 4 * w1 + 1)) (by unfold w32; omega) ?_
                      refine ev_iconst ?_
                      refine g_iast g73064 ad52 rt52 (fun _ => rfl) (by omega) (by omega) (by omega) (by omega) (fun h73065 e73065 g73065 => ?_)
                      have k73065 := k73064.wr e73065 rfl
                      refine ev_iinc (w := 2) (L' := [(2, 42), (0, 1), (0, 0), (0, (10 * v72896 + v72940 - 528)), (0, (100 * w0 + w1)), (0, 2)]) rfl (by decide) rfl ?_
                      refine ev_goto f267_71 ?_
                      refine ev_iload rfl ?_
                      refine ev_iconst ?_
                      refine ev_icmpge f267_109 (fun c73066 => absurd c73066 (by omega)) (fun c73066 => ?_)
                      refine ev_aload_n rfl ?_
                      refine g_getp (r := 42) (c := 51) g73065 ad42 (by decide) (by decide) rf42_13 ft12_13 ?_
                      refine ev_iconst ?_
                      refine ev_iload rfl ?_
                      refine ev_imul (r := (400 * w0 + 4 * w1)) (by unfold w32; omega) ?_
                      refine ev_iload rfl ?_
                      refine ev_iadd (r := (400 * w0 + 4 * w1 + 2)) (by unfold w32; omega) ?_
                      refine ev_iconst ?_
                      refine ev_bastG (r := 51) (j := ((400 * w0 + 4 * w1 + 2)).toNat) (w := (-1)) (g73065.lt ad51) (g73065.tg ad51) (by omega) (by rw [g73065.ln ad51]; omega) (by unfold w8; omega) (fun h73067 e73067 => ?_)
                      have g73067 := g73065.s51 e73067 (by rw [(((jw_ne e73065 (Or.inl (by decide))).trans ((jw_ne e73064 (Or.inl (by decide))).trans ((jw_ne e73062 (Or.inl (by decide))).trans ((jw_ne e73061 (Or.inl (by decide))).trans ((jw_ne e73059 (Or.inl (by decide))).trans ((jw_ne e73058 (Or.inl (by decide))).trans ((jw_ne e73057 (Or.inl (by decide))).trans ((jw_ne e73055 (Or.inr (by decide))).trans ew0)))))))))]; omega) (by omega) (by omega)
                      have k73067 := k73065.wr e73067 rfl
                      refine ev_aload_n rfl ?_
                      refine g_getp (r := 42) (c := 52) g73067 ad42 (by decide) (by decide) rf42_14 ft12_14 ?_
                      refine ev_iconst ?_
                      refine ev_iload rfl ?_
                      refine ev_imul (r := (400 * w0 + 4 * w1)) (by unfold w32; omega) ?_
                      refine ev_iload rfl ?_
                      refine ev_iadd (r := (400 * w0 + 4 * w1 + 2)) (by unfold w32; omega) ?_
                      refine ev_iconst ?_
                      refine g_iast g73067 ad52 rt52 (fun _ => rfl) (by omega) (by omega) (by omega) (by omega) (fun h73068 e73068 g73068 => ?_)
                      have k73068 := k73067.wr e73068 rfl
                      refine ev_iinc (w := 3) (L' := [(2, 42), (0, 1), (0, 0), (0, (10 * v72896 + v72940 - 528)), (0, (100 * w0 + w1)), (0, 3)]) rfl (by decide) rfl ?_
                      refine ev_goto f267_71 ?_
                      refine ev_iload rfl ?_
                      refine ev_iconst ?_
                      refine ev_icmpge f267_109 (fun c73069 => absurd c73069 (by omega)) (fun c73069 => ?_)
                      refine ev_aload_n rfl ?_
                      refine g_getp (r := 42) (c := 51) g73068 ad42 (by decide) (by decide) rf42_13 ft12_13 ?_
                      refine ev_iconst ?_
                      refine ev_iload rfl ?_
                      refine ev_imul (r := (400 * w0 + 4 * w1)) (by unfold w32; omega) ?_
                      refine ev_iload rfl ?_
                      refine ev_iadd (r := (400 * w0 + 4 * w1 + 3)) (by unfold w32; omega) ?_
                      refine ev_iconst ?_
                      refine ev_bastG (r := 51) (j := ((400 * w0 + 4 * w1 + 3)).toNat) (w := (-1)) (g73068.lt ad51) (g73068.tg ad51) (by omega) (by rw [g73068.ln ad51]; omega) (by unfold w8; omega) (fun h73070 e73070 => ?_)
                      have g73070 := g73068.s51 e73070 (by rw [(((jw_ne e73068 (Or.inl (by decide))).trans ((jw_ne e73067 (Or.inl (by decide))).trans ((jw_ne e73065 (Or.inl (by decide))).trans ((jw_ne e73064 (Or.inl (by decide))).trans ((jw_ne e73062 (Or.inl (by decide))).trans ((jw_ne e73061 (Or.inl (by decide))).trans ((jw_ne e73059 (Or.inl (by decide))).trans ((jw_ne e73058 (Or.inl (by decide))).trans ((jw_ne e73057 (Or.inl (by decide))).trans ((jw_ne e73055 (Or.inr (by decide))).trans ew0)))))))))))]; omega) (by omega) (by omega)
                      have k73070 := k73068.wr e73070 rfl
                      refine ev_aload_n rfl ?_
                      refine g_getp (r := 42) (c := 52) g73070 ad42 (by decide) (by decide) rf42_14 ft12_14 ?_
                      refine ev_iconst ?_
                      refine ev_iload rfl ?_
                      refine ev_imul (r := (400 * w0 + 4 * w1)) (by unfold w32; omega) ?_
                      refine ev_iload rfl ?_
                      refine ev_iadd (r := (400 * w0 + 4 * w1 + 3)) (by unfold w32; omega) ?_
                      refine ev_iconst ?_
                      refine g_iast g73070 ad52 rt52 (fun _ => rfl) (by omega) (by omega) (by omega) (by omega) (fun h73071 e73071 g73071 => ?_)
                      have k73071 := k73070.wr e73071 rfl
                      refine ev_iinc (w := 4) (L' := [(2, 42), (0, 1), (0, 0), (0, (10 * v72896 + v72940 - 528)), (0, (100 * w0 + w1)), (0, 4)]) rfl (by decide) rfl ?_
                      refine ev_goto f267_71 ?_
                      refine ev_iload rfl ?_
                      refine ev_iconst ?_
                      refine ev_icmpge f267_109 (fun c73072 => ?_) (fun c73072 => absurd c73072 (by omega))
                      refine ev_iload rfl ?_
                      refine ev_ret rfl (by decide) (by decide) ?_
                      show jEv _ _ _ _ _ _ _ (_, [(2, 42), (0, a1), (0, 1), (0, (a1 + 2)), (0, 0), (0, (10 * v72896 + v72940 - 528)), (0, 2)], [(0, (100 * w0 + w1))], _, _, _)
                      refine ev_pop (by decide) ?_
                      refine ev_iload_n rfl ?_
                      exact ev_ret rfl (by decide) (by decide) ⟨⟨_, rfl, by omega, by omega, g73071, k73071⟩, fun r hr h0 => by cases hr; exact (Ad.step (r' := (a1 + 2)) (Ad.step (r' := (a1 + 1)) (Ad.rf _ _ _) (by omega) k73071 (fun _ => rfl) (((jw_ne e73071 (Or.inl (by decide))).trans ((jw_ne e73070 (Or.inl (by decide))).trans ((jw_ne e73068 (Or.inl (by decide))).trans ((jw_ne e73067 (Or.inl (by decide))).trans ((jw_ne e73065 (Or.inl (by decide))).trans ((jw_ne e73064 (Or.inl (by decide))).trans ((jw_ne e73062 (Or.inl (by decide))).trans ((jw_ne e73061 (Or.inl (by decide))).trans ((jw_ne e73059 (Or.inl (by decide))).trans ((jw_ne e73058 (Or.inl (by decide))).trans ((jw_ne e73057 (Or.inl (by decide))).trans ((jw_ne e73055 (Or.inl (by decide))).trans ev72896))))))))))))) (by omega) (by omega) (by omega)) (by omega) k73071 (fun _ => rfl) (((jw_ne e73071 (Or.inl (by decide))).trans ((jw_ne e73070 (Or.inl (by decide))).trans ((jw_ne e73068 (Or.inl (by decide))).trans ((jw_ne e73067 (Or.inl (by decide))).trans ((jw_ne e73065 (Or.inl (by decide))).trans ((jw_ne e73064 (Or.inl (by decide))).trans ((jw_ne e73062 (Or.inl (by decide))).trans ((jw_ne e73061 (Or.inl (by decide))).trans ((jw_ne e73059 (Or.inl (by decide))).trans ((jw_ne e73058 (Or.inl (by decide))).trans ((jw_ne e73057 (Or.inl (by decide))).trans ((jw_ne e73055 (Or.inl (by decide))).trans ev72940))))))))))))) (by omega) (by omega) (by omega)), fun r hr => by cases hr; exact ⟨_, (((jw_ne e73071 (Or.inl (by decide))).trans ((jw_ne e73070 (Or.inl (by decide))).trans ((jw_ne e73068 (Or.inl (by decide))).trans ((jw_ne e73067 (Or.inl (by decide))).trans ((jw_ne e73065 (Or.inl (by decide))).trans ((jw_ne e73064 (Or.inl (by decide))).trans ((jw_ne e73062 (Or.inl (by decide))).trans ((jw_ne e73061 (Or.inl (by decide))).trans ((jw_ne e73059 (Or.inl (by decide))).trans ((jw_ne e73058 (Or.inl (by decide))).trans ((jw_ne e73057 (Or.inl (by decide))).trans (jw_eq e73055))))))))))))), by omega, by omega, (Fr.kp (Fr.w (i := (400 * w0 + 4 * w1 + 3)) (Fr.kp (Fr.w (i := (400 * w0 + 4 * w1 + 2)) (Fr.kp (Fr.w (i := (400 * w0 + 4 * w1 + 1)) (Fr.kp (Fr.w (i := (400 * w0 + 4 * w1)) (Fr.w (i := (100 * w0 + w1)) (Fr.w (i := (100 * w0 + w1)) (Fr.w (i := (100 * w0 + w1)) (Fr.kp (Fr.rf _ _) ((Kp.rf [(42, 0)] _).wr e73055 rfl) (fun _ => rfl) (fun _ => rfl) (fun _ => rfl) (fun _ => rfl)) e73057 (by omega) (by omega)) e73058 (by omega) (by omega)) e73059 (by omega) (by omega)) e73061 (by omega) (by omega)) ((Kp.rf [(52, 0)] _).wr e73062 rfl) (fun _ => rfl) (fun _ => rfl) (fun _ => rfl) (fun _ => rfl)) e73064 (by omega) (by omega)) ((Kp.rf [(52, 0)] _).wr e73065 rfl) (fun _ => rfl) (fun _ => rfl) (fun _ => rfl) (fun _ => rfl)) e73067 (by omega) (by omega)) ((Kp.rf [(52, 0)] _).wr e73068 rfl) (fun _ => rfl) (fun _ => rfl) (fun _ => rfl) (fun _ => rfl)) e73070 (by omega) (by omega)) ((Kp.rf [(52, 0)] _).wr e73071 rfl) (fun _ => rfl) (fun _ => rfl) (fun _ => rfl) (fun _ => rfl)), fun h0 => by omega, fun h0 hm => Tr.end (i := (100 * w0 + w1)) (by omega) (by omega) (by omega) (((jw_ne e73071 (Or.inl (by decide))).trans ((jw_ne e73070 (Or.inl (by decide))).trans ((jw_ne e73068 (Or.inl (by decide))).trans ((jw_ne e73067 (Or.inl (by decide))).trans ((jw_ne e73065 (Or.inl (by decide))).trans ((jw_ne e73064 (Or.inl (by decide))).trans ((jw_ne e73062 (Or.inl (by decide))).trans ((jw_ne e73061 (Or.inl (by decide))).trans ((jw_ne e73059 (Or.inl (by decide))).trans ((jw_ne e73058 (Or.inl (by decide))).trans (jw_eq e73057)))))))))))) (by omega) (by omega)⟩⟩
                    · refine ev_iconst ?_
                      refine ev_goto f242_15 ?_
                      refine ev_ret rfl (by decide) (by decide) ?_
                      show jEv _ _ _ _ _ _ _ (_, [(2, 42), (0, (a1 + 2))], [(0, 1)], _, _, _)
                      refine ev_ret rfl (by decide) (by decide) ?_
                      show jEv _ _ _ _ _ _ _ (_, [(2, 42), (0, a1), (0, 1), (0, (a1 + 2)), (0, 0), (0, (10 * v72896 + v72940 - 528)), (0, 2)], [(0, 1)], _, _, _)
                      refine ev_ifeq f269_86 (fun c73073 => absurd c73073 (by omega)) (fun c73073 => ?_)
                      refine ev_bipush ?_
                      refine ev_iload rfl ?_
                      refine ev_imul (r := (100 * v72896 + 10 * v72940 - 5280)) (by unfold w32; omega) ?_
                      refine ev_aload_n rfl ?_
                      refine ev_iload_n rfl ?_
                      refine ev_in (d := 1) (a := 0) (b := 0) (cd' := c264_0) (m := 2) (L0 := [(2, 42), (0, (a1 + 2))]) (jcall_v (A := [(0, (a1 + 2))]) (S' := [(0, (100 * v72896 + 10 * v72940 - 5280))]) (r := 42) rfl (g.lt ad42) (g.tg ad42) (Nat.le_of_ble_eq_true rfl)) (by decide) ml264 pp264 (Nat.le_of_ble_eq_true rfl) rfl (by decide) (by decide) ?_
                      refine ev_iload_n rfl ?_
                      refine ev_aload_n rfl ?_
                      refine g_getv (r := 42) (v := v72888) g ad42 (by decide) ft12_17 (ev72888) ?_
                      refine ev_icmpge f264_17 (fun c73074 => absurd c73074 (by omega)) (fun c73074 => ?_)
                      refine ev_aload_n rfl ?_
                      refine g_getp (r := 42) (c := 54) g ad42 (by decide) (by decide) rf42_16 ft12_16 ?_
                      refine ev_iload_n rfl ?_
                      refine g_baldv (v := v73021) g ad54 (by omega) (by omega) (ev73021) ?_
                      refine ev_goto f264_18 ?_
                      refine ev_ret rfl (by decide) (by decide) ?_
                      show jEv _ _ _ _ _ _ _ (_, [(2, 42), (0, a1), (0, 1), (0, (a1 + 2)), (0, 0), (0, (10 * v72896 + v72940 - 528)), (0, 2)], [(0, v73021), (0, (100 * v72896 + 10 * v72940 - 5280))], _, _, _)
                      refine ev_iadd (r := (100 * v72896 + 10 * v72940 + v73021 - 5280)) (by unfold w32; omega) ?_
                      refine ev_bipush ?_
                      refine ev_isub (r := (100 * v72896 + 10 * v72940 + v73021 - 5328)) (by unfold w32; omega) ?_
                      refine ev_istore (L' := [(2, 42), (0, a1), (0, 1), (0, (a1 + 2)), (0, 0), (0, (100 * v72896 + 10 * v72940 + v73021 - 5328)), (0, 2)]) (Nat.le_of_ble_eq_true rfl) rfl ?_
                      refine ev_iinc (w := 3) (L' := [(2, 42), (0, a1), (0, 1), (0, (a1 + 2)), (0, 0), (0, (100 * v72896 + 10 * v72940 + v73021 - 5328)), (0, 3)]) rfl (by decide) rfl ?_
                      refine ev_iinc (w := (a1 + 3)) (L' := [(2, 42), (0, a1), (0, 1), (0, (a1 + 3)), (0, 0), (0, (100 * v72896 + 10 * v72940 + v73021 - 5328)), (0, 3)]) rfl (by unfold w32; omega) rfl ?_
                      refine ev_goto f269_47 ?_
                      refine ev_iload rfl ?_
                      refine ev_iconst ?_
                      refine ev_icmpge f269_86 (fun c73075 => ?_) (fun c73075 => absurd c73075 (by omega))
                      refine ev_aload_n rfl ?_
                      refine ev_iload_n rfl ?_
                      refine ev_in (d := 1) (a := 0) (b := 0) (cd' := c265_0) (m := 2) (L0 := [(2, 42), (0, (a1 + 3))]) (jcall_v (A := [(0, (a1 + 3))]) (S' := []) (r := 42) rfl (g.lt ad42) (g.tg ad42) (Nat.le_of_ble_eq_true rfl)) (by decide) ml265 pp265 (Nat.le_of_ble_eq_true rfl) rfl (by decide) (by decide) ?_
                      refine ev_aload_n rfl ?_
                      refine ev_iload_n rfl ?_
                      refine ev_in (d := 0) (a := 0) (b := 0) (cd' := c264_0) (m := 2) (L0 := [(2, 42), (0, (a1 + 3))]) (jcall_v (A := [(0, (a1 + 3))]) (S' := []) (r := 42) rfl (g.lt ad42) (g.tg ad42) (Nat.le_of_ble_eq_true rfl)) (by decide) ml264 pp264 (Nat.le_of_ble_eq_true rfl) rfl (by decide) (by decide) ?_
                      refine ev_iload_n rfl ?_
                      refine ev_aload_n rfl ?_
                      refine g_getv (r := 42) (v := v72888) g ad42 (by decide) ft12_17 (ev72888) ?_
                      refine ev_icmpge f264_17 (fun c73076 => ?_) (fun c73076 => ?_)
                      · refine ev_iconst ?_
                        refine ev_ret rfl (by decide) (by decide) ?_
                        show jEv _ _ _ _ _ _ _ (_, [(2, 42), (0, (a1 + 3))], [(0, (-1))], _, _, _)
                        refine ev_bipush ?_
                        refine ev_bipush ?_
                        refine ev_in (d := 0) (a := 0) (b := 0) (cd' := c242_0) (m := 3) (L0 := [(0, (-1)), (0, 48), (0, 57)]) (jcall_s (A := [(0, 57), (0, 48), (0, (-1))]) (S' := []) (by decide) rfl (Nat.le_of_ble_eq_true rfl)) (by decide) ml242 pp242 (Nat.le_of_ble_eq_true rfl) rfl (by decide) (by decide) ?_
                        refine ev_iload_n rfl ?_
                        refine ev_iload_n rfl ?_
                        refine ev_icmplt f242_14 (fun c73077 => ?_) (fun c73077 => absurd c73077 (by omega))
                        refine ev_iconst ?_
                        refine ev_ret rfl (by decide) (by decide) ?_
                        show jEv _ _ _ _ _ _ _ (_, [(2, 42), (0, (a1 + 3))], [(0, 0)], _, _, _)
                        refine ev_ret rfl (by decide) (by decide) ?_
                        show jEv _ _ _ _ _ _ _ (_, [(2, 42), (0, a1), (0, 1), (0, (a1 + 3)), (0, 0), (0, (100 * v72896 + 10 * v72940 + v73021 - 5328)), (0, 3)], [(0, 0)], _, _, _)
                        refine ev_ifeq f269_100 (fun c73078 => ?_) (fun c73078 => absurd c73078 (by omega))
                        refine ev_aload_n rfl ?_
                        refine ev_iload_n rfl ?_
                        refine ev_iconst ?_
                        refine ev_iload rfl ?_
                        refine ev_ifeq f269_114 (fun c73079 => ?_) (fun c73079 => absurd c73079 (by omega))
                        refine ev_iload rfl ?_
                        refine ev_in (d := 1) (a := 0) (b := 0) (cd' := c267_0) (m := 6) (L0 := [(2, 42), (0, 1), (0, 0), (0, (100 * v72896 + 10 * v72940 + v73021 - 5328)), (9, 0), (9, 0)]) (jcall_v (A := [(0, (100 * v72896 + 10 * v72940 + v73021 - 5328)), (0, 0), (0, 1)]) (S' := []) (r := 42) rfl (g.lt ad42) (g.tg ad42) (Nat.le_of_ble_eq_true rfl)) (by decide) ml267 pp267 (Nat.le_of_ble_eq_true rfl) rfl (by decide) (by decide) ?_
                        refine ev_iload_n rfl ?_
                        refine ev_ifne f267_6 (fun c73080 => ?_) (fun c73080 => absurd c73080 (by omega))
                        refine ev_aload_n rfl ?_
                        refine ev_dup (by decide) ?_
                        refine g_getv (r := 42) (v := w1) g ad42 (by decide) ft12_21 (ew1) ?_
                        refine ev_iconst ?_
                        refine ev_iadd (r := (w1 + 1)) (by unfold w32; omega) ?_
                        refine g_putf (r := 42) g ad42 (by decide) ft12_21 (by decide) (fun e => absurd e nz12_21) rf42_21 (by decide) (by omega) (by omega) (fun h73081 e73081 g73081 => ?_)
                        have k73081 := k0.wr e73081 rfl
                        refine ev_aload_n rfl ?_
                        refine g_getv (r := 42) (v := (w1 + 1)) g73081 ad42 (by decide) ft12_21 ((jw_eq e73081)) ?_
                        refine ev_bipush ?_
                        refine ev_icmple f267_27 (fun c73082 => ?_) (fun c73082 => absurd c73082 (by omega))
                        refine ev_bipush ?_
                        refine ev_aload_n rfl ?_
                        refine g_getv (r := 42) (v := w0) g73081 ad42 (by decide) ft12_9 (((jw_ne e73081 (Or.inr (by decide))).trans ew0)) ?_
                        refine ev_imul (r := (100 * w0)) (by unfold w32; omega) ?_
                        refine ev_aload_n rfl ?_
                        refine g_getv (r := 42) (v := (w1 + 1)) g73081 ad42 (by decide) ft12_21 ((jw_eq e73081)) ?_
                        refine ev_iadd (r := (100 * w0 + w1 + 1)) (by unfold w32; omega) ?_
                        refine ev_iconst ?_
                        refine ev_isub (r := (100 * w0 + w1)) (by unfold w32; omega) ?_
                        refine ev_istore (L' := [(2, 42), (0, 1), (0, 0), (0, (100 * v72896 + 10 * v72940 + v73021 - 5328)), (0, (100 * w0 + w1)), (9, 0)]) (Nat.le_of_ble_eq_true rfl) rfl ?_
                        refine ev_aload_n rfl ?_
                        refine g_getp (r := 42) (c := 49) g73081 ad42 (by decide) (by decide) rf42_11 ft12_11 ?_
                        refine ev_iload rfl ?_
                        refine ev_iload_n rfl ?_
                        refine ev_i2b (r := 0) (by unfold w8; omega) ?_
                        refine ev_bastG (r := 49) (j := ((100 * w0 + w1)).toNat) (w := 0) (g73081.lt ad49) (g73081.tg ad49) (by omega) (by rw [g73081.ln ad49]; omega) (by unfold w8; omega) (fun h73083 e73083 => ?_)
                        have g73083 := g73081.s49 e73083 (by rw [(((jw_ne e73081 (Or.inr (by decide))).trans ew0))]; omega) (by omega) (by omega)
                        have k73083 := k73081.wr e73083 rfl
                        refine ev_aload_n rfl ?_
                        refine g_getp (r := 42) (c := 50) g73083 ad42 (by decide) (by decide) rf42_12 ft12_12 ?_
                        refine ev_iload rfl ?_
                        refine ev_iload_n rfl ?_
                        refine ev_iastG (r := 50) (j := ((100 * w0 + w1)).toNat) (g73083.lt ad50) (g73083.tg ad50) (by omega) (by rw [g73083.ln ad50]; omega) (fun h73084 e73084 => ?_)
                        have g73084 := g73083.s50 e73084 (Or.inl (by rw [(((jw_ne e73083 (Or.inl (by decide))).trans ((jw_ne e73081 (Or.inr (by decide))).trans ew0)))]; omega)) (by omega) (by omega)
                        have k73084 := k73083.wr e73084 rfl
                        refine ev_aload_n rfl ?_
                        refine g_getp (r := 42) (c := 53) g73084 ad42 (by decide) (by decide) rf42_15 ft12_15 ?_
                        refine ev_iload rfl ?_
                        refine ev_iconst ?_
                        refine ev_bastG (r := 53) (j := ((100 * w0 + w1)).toNat) (w := 0) (g73084.lt ad53) (g73084.tg ad53) (by omega) (by rw [g73084.ln ad53]; omega) (by unfold w8; omega) (fun h73085 e73085 => ?_)
                        have g73085 := g73084.s53 e73085 (Or.inl (by rw [(((jw_ne e73084 (Or.inl (by decide))).trans ((jw_ne e73083 (Or.inl (by decide))).trans ((jw_ne e73081 (Or.inr (by decide))).trans ew0))))]; omega)) (by omega) (by omega)
                        have k73085 := k73084.wr e73085 rfl
                        refine ev_iconst ?_
                        refine ev_istore (L' := [(2, 42), (0, 1), (0, 0), (0, (100 * v72896 + 10 * v72940 + v73021 - 5328)), (0, (100 * w0 + w1)), (0, 0)]) (Nat.le_of_ble_eq_true rfl) rfl ?_
                        refine ev_iload rfl ?_
                        refine ev_iconst ?_
                        refine ev_icmpge f267_109 (fun c73086 => absurd c73086 (by omega)) (fun c73086 => ?_)
                        refine ev_aload_n rfl ?_
                        refine g_getp (r := 42) (c := 51) g73085 ad42 (by decide) (by decide) rf42_13 ft12_13 ?_
                        refine ev_iconst ?_
                        refine ev_iload rfl ?_
                        refine ev_imul (r := (400 * w0 + 4 * w1)) (by unfold w32; omega) ?_
                        refine ev_iload rfl ?_
                        refine ev_iadd (r := (400 * w0 + 4 * w1)) (by unfold w32; omega) ?_
                        refine ev_iconst ?_
                        refine ev_bastG (r := 51) (j := ((400 * w0 + 4 * w1)).toNat) (w := (-1)) (g73085.lt ad51) (g73085.tg ad51) (by omega) (by rw [g73085.ln ad51]; omega) (by unfold w8; omega) (fun h73087 e73087 => ?_)
                        have g73087 := g73085.s51 e73087 (by rw [(((jw_ne e73085 (Or.inl (by decide))).trans ((jw_ne e73084 (Or.inl (by decide))).trans ((jw_ne e73083 (Or.inl (by decide))).trans ((jw_ne e73081 (Or.inr (by decide))).trans ew0)))))]; omega) (by omega) (by omega)
                        have k73087 := k73085.wr e73087 rfl
                        refine ev_aload_n rfl ?_
                        refine g_getp (r := 42) (c := 52) g73087 ad42 (by decide) (by decide) rf42_14 ft12_14 ?_
                        refine ev_iconst ?_
                        refine ev_iload rfl ?_
                        refine ev_imul (r := (400 * w0 + 4 * w1)) (by unfold w32; omega) ?_
                        refine ev_iload rfl ?_
                        refine ev_iadd (r := (400 * w0 + 4 * w1)) (by unfold w32; omega) ?_
                        refine ev_iconst ?_
                        refine g_iast g73087 ad52 rt52 (fun _ => rfl) (by omega) (by omega) (by omega) (by omega) (fun h73088 e73088 g73088 => ?_)
                        have k73088 := k73087.wr e73088 rfl
                        refine ev_iinc (w := 1) (L' := [(2, 42), (0, 1), (0, 0), (0, (100 * v72896 + 10 * v72940 + v73021 - 5328)), (0, (100 * w0 + w1)), (0, 1)]) rfl (by decide) rfl ?_
                        refine ev_goto f267_71 ?_
                        refine ev_iload rfl ?_
                        refine ev_iconst ?_
                        refine ev_icmpge f267_109 (fun c73089 => absurd c73089 (by omega)) (fun c73089 => ?_)
                        refine ev_aload_n rfl ?_
                        refine g_getp (r := 42) (c := 51) g73088 ad42 (by decide) (by decide) rf42_13 ft12_13 ?_
                        refine ev_iconst ?_
                        refine ev_iload rfl ?_
                        refine ev_imul (r := (400 * w0 + 4 * w1)) (by unfold w32; omega) ?_
                        refine ev_iload rfl ?_
                        refine ev_iadd (r := (400 * w0 + 4 * w1 + 1)) (by unfold w32; omega) ?_
                        refine ev_iconst ?_
                        refine ev_bastG (r := 51) (j := ((400 * w0 + 4 * w1 + 1)).toNat) (w := (-1)) (g73088.lt ad51) (g73088.tg ad51) (by omega) (by rw [g73088.ln ad51]; omega) (by unfold w8; omega) (fun h73090 e73090 => ?_)
                        have g73090 := g73088.s51 e73090 (by rw [(((jw_ne e73088 (Or.inl (by decide))).trans ((jw_ne e73087 (Or.inl (by decide))).trans ((jw_ne e73085 (Or.inl (by decide))).trans ((jw_ne e73084 (Or.inl (by decide))).trans ((jw_ne e73083 (Or.inl (by decide))).trans ((jw_ne e73081 (Or.inr (by decide))).trans ew0)))))))]; omega) (by omega) (by omega)
                        have k73090 := k73088.wr e73090 rfl
                        refine ev_aload_n rfl ?_
                        refine g_getp (r := 42) (c := 52) g73090 ad42 (by decide) (by decide) rf42_14 ft12_14 ?_
                        refine ev_iconst ?_
                        refine ev_iload rfl ?_
                        refine ev_imul (r := (400 * w0 + 4 * w1)) (by unfold w32; omega) ?_
                        refine ev_iload rfl ?_
                        refine ev_iadd (r := (400 * w0 + 4 * w1 + 1)) (by unfold w32; omega) ?_
                        refine ev_iconst ?_
                        refine g_iast g73090 ad52 rt52 (fun _ => rfl) (by omega) (by omega) (by omega) (by omega) (fun h73091 e73091 g73091 => ?_)
                        have k73091 := k73090.wr e73091 rfl
                        refine ev_iinc (w := 2) (L' := [(2, 42), (0, 1), (0, 0), (0, (100 * v72896 + 10 * v72940 + v73021 - 5328)), (0, (100 * w0 + w1)), (0, 2)]) rfl (by decide) rfl ?_
                        refine ev_goto f267_71 ?_
                        refine ev_iload rfl ?_
                        refine ev_iconst ?_
                        refine ev_icmpge f267_109 (fun c73092 => absurd c73092 (by omega)) (fun c73092 => ?_)
                        refine ev_aload_n rfl ?_
                        refine g_getp (r := 42) (c := 51) g73091 ad42 (by decide) (by decide) rf42_13 ft12_13 ?_
                        refine ev_iconst ?_
                        refine ev_iload rfl ?_
                        refine ev_imul (r := (400 * w0 + 4 * w1)) (by unfold w32; omega) ?_
                        refine ev_iload rfl ?_
                        refine ev_iadd (r := (400 * w0 + 4 * w1 + 2)) (by unfold w32; omega) ?_
                        refine ev_iconst ?_
                        refine ev_bastG (r := 51) (j := ((400 * w0 + 4 * w1 + 2)).toNat) (w := (-1)) (g73091.lt ad51) (g73091.tg ad51) (by omega) (by rw [g73091.ln ad51]; omega) (by unfold w8; omega) (fun h73093 e73093 => ?_)
                        have g73093 := g73091.s51 e73093 (by rw [(((jw_ne e73091 (Or.inl (by decide))).trans ((jw_ne e73090 (Or.inl (by decide))).trans ((jw_ne e73088 (Or.inl (by decide))).trans ((jw_ne e73087 (Or.inl (by decide))).trans ((jw_ne e73085 (Or.inl (by decide))).trans ((jw_ne e73084 (Or.inl (by decide))).trans ((jw_ne e73083 (Or.inl (by decide))).trans ((jw_ne e73081 (Or.inr (by decide))).trans ew0)))))))))]; omega) (by omega) (by omega)
                        have k73093 := k73091.wr e73093 rfl
                        refine ev_aload_n rfl ?_
                        refine g_getp (r := 42) (c := 52) g73093 ad42 (by decide) (by decide) rf42_14 ft12_14 ?_
                        refine ev_iconst ?_
                        refine ev_iload rfl ?_
                        refine ev_imul (r := (400 * w0 + 4 * w1)) (by unfold w32; omega) ?_
                        refine ev_iload rfl ?_
                        refine ev_iadd (r := (400 * w0 + 4 * w1 + 2)) (by unfold w32; omega) ?_
                        refine ev_iconst ?_
                        refine g_iast g73093 ad52 rt52 (fun _ => rfl) (by omega) (by omega) (by omega) (by omega) (fun h73094 e73094 g73094 => ?_)
                        have k73094 := k73093.wr e73094 rfl
                        refine ev_iinc (w := 3) (L' := [(2, 42), (0, 1), (0, 0), (0, (100 * v72896 + 10 * v72940 + v73021 - 5328)), (0, (100 * w0 + w1)), (0, 3)]) rfl (by decide) rfl ?_
                        refine ev_goto f267_71 ?_
                        refine ev_iload rfl ?_
                        refine ev_iconst ?_
                        refine ev_icmpge f267_109 (fun c73095 => absurd c73095 (by omega)) (fun c73095 => ?_)
                        refine ev_aload_n rfl ?_
                        refine g_getp (r := 42) (c := 51) g73094 ad42 (by decide) (by decide) rf42_13 ft12_13 ?_
                        refine ev_iconst ?_
                        refine ev_iload rfl ?_
                        refine ev_imul (r := (400 * w0 + 4 * w1)) (by unfold w32; omega) ?_
                        refine ev_iload rfl ?_
                        refine ev_iadd (r := (400 * w0 + 4 * w1 + 3)) (by unfold w32; omega) ?_
                        refine ev_iconst ?_
                        refine ev_bastG (r := 51) (j := ((400 * w0 + 4 * w1 + 3)).toNat) (w := (-1)) (g73094.lt ad51) (g73094.tg ad51) (by omega) (by rw [g73094.ln ad51]; omega) (by unfold w8; omega) (fun h73096 e73096 => ?_)
                        have g73096 := g73094.s51 e73096 (by rw [(((jw_ne e73094 (Or.inl (by decide))).trans ((jw_ne e73093 (Or.inl (by decide))).trans ((jw_ne e73091 (Or.inl (by decide))).trans ((jw_ne e73090 (Or.inl (by decide))).trans ((jw_ne e73088 (Or.inl (by decide))).trans ((jw_ne e73087 (Or.inl (by decide))).trans ((jw_ne e73085 (Or.inl (by decide))).trans ((jw_ne e73084 (Or.inl (by decide))).trans ((jw_ne e73083 (Or.inl (by decide))).trans ((jw_ne e73081 (Or.inr (by decide))).trans ew0)))))))))))]; omega) (by omega) (by omega)
                        have k73096 := k73094.wr e73096 rfl
                        refine ev_aload_n rfl ?_
                        refine g_getp (r := 42) (c := 52) g73096 ad42 (by decide) (by decide) rf42_14 ft12_14 ?_
                        refine ev_iconst ?_
                        refine ev_iload rfl ?_
                        refine ev_imul (r := (400 * w0 + 4 * w1)) (by unfold w32; omega) ?_
                        refine ev_iload rfl ?_
                        refine ev_iadd (r := (400 * w0 + 4 * w1 + 3)) (by unfold w32; omega) ?_
                        refine ev_iconst ?_
                        refine g_iast g73096 ad52 rt52 (fun _ => rfl) (by omega) (by omega) (by omega) (by omega) (fun h73097 e73097 g73097 => ?_)
                        have k73097 := k73096.wr e73097 rfl
                        refine ev_iinc (w := 4) (L' := [(2, 42), (0, 1), (0, 0), (0, (100 * v72896 + 10 * v72940 + v73021 - 5328)), (0, (100 * w0 + w1)), (0, 4)]) rfl (by decide) rfl ?_
                        refine ev_goto f267_71 ?_
                        refine ev_iload rfl ?_
                        refine ev_iconst ?_
                        refine ev_icmpge f267_109 (fun c73098 => ?_) (fun c73098 => absurd c73098 (by omega))
                        refine ev_iload rfl ?_
                        refine ev_ret rfl (by decide) (by decide) ?_
                        show jEv _ _ _ _ _ _ _ (_, [(2, 42), (0, a1), (0, 1), (0, (a1 + 3)), (0, 0), (0, (100 * v72896 + 10 * v72940 + v73021 - 5328)), (0, 3)], [(0, (100 * w0 + w1))], _, _, _)
                        refine ev_pop (by decide) ?_
                        refine ev_iload_n rfl ?_
                        exact ev_ret rfl (by decide) (by decide) ⟨⟨_, rfl, by omega, by omega, g73097, k73097⟩, fun r hr h0 => by cases hr; exact (Ad.step (r' := (a1 + 3)) (Ad.step (r' := (a1 + 2)) (Ad.step (r' := (a1 + 1)) (Ad.rf _ _ _) (by omega) k73097 (fun _ => rfl) (((jw_ne e73097 (Or.inl (by decide))).trans ((jw_ne e73096 (Or.inl (by decide))).trans ((jw_ne e73094 (Or.inl (by decide))).trans ((jw_ne e73093 (Or.inl (by decide))).trans ((jw_ne e73091 (Or.inl (by decide))).trans ((jw_ne e73090 (Or.inl (by decide))).trans ((jw_ne e73088 (Or.inl (by decide))).trans ((jw_ne e73087 (Or.inl (by decide))).trans ((jw_ne e73085 (Or.inl (by decide))).trans ((jw_ne e73084 (Or.inl (by decide))).trans ((jw_ne e73083 (Or.inl (by decide))).trans ((jw_ne e73081 (Or.inl (by decide))).trans ev72896))))))))))))) (by omega) (by omega) (by omega)) (by omega) k73097 (fun _ => rfl) (((jw_ne e73097 (Or.inl (by decide))).trans ((jw_ne e73096 (Or.inl (by decide))).trans ((jw_ne e73094 (Or.inl (by decide))).trans ((jw_ne e73093 (Or.inl (by decide))).trans ((jw_ne e73091 (Or.inl (by decide))).trans ((jw_ne e73090 (Or.inl (by decide))).trans ((jw_ne e73088 (Or.inl (by decide))).trans ((jw_ne e73087 (Or.inl (by decide))).trans ((jw_ne e73085 (Or.inl (by decide))).trans ((jw_ne e73084 (Or.inl (by decide))).trans ((jw_ne e73083 (Or.inl (by decide))).trans ((jw_ne e73081 (Or.inl (by decide))).trans ev72940))))))))))))) (by omega) (by omega) (by omega)) (by omega) k73097 (fun _ => rfl) (((jw_ne e73097 (Or.inl (by decide))).trans ((jw_ne e73096 (Or.inl (by decide))).trans ((jw_ne e73094 (Or.inl (by decide))).trans ((jw_ne e73093 (Or.inl (by decide))).trans ((jw_ne e73091 (Or.inl (by decide))).trans ((jw_ne e73090 (Or.inl (by decide))).trans ((jw_ne e73088 (Or.inl (by decide))).trans ((jw_ne e73087 (Or.inl (by decide))).trans ((jw_ne e73085 (Or.inl (by decide))).trans ((jw_ne e73084 (Or.inl (by decide))).trans ((jw_ne e73083 (Or.inl (by decide))).trans ((jw_ne e73081 (Or.inl (by decide))).trans ev73021))))))))))))) (by omega) (by omega) (by omega)), fun r hr => by cases hr; exact ⟨_, (((jw_ne e73097 (Or.inl (by decide))).trans ((jw_ne e73096 (Or.inl (by decide))).trans ((jw_ne e73094 (Or.inl (by decide))).trans ((jw_ne e73093 (Or.inl (by decide))).trans ((jw_ne e73091 (Or.inl (by decide))).trans ((jw_ne e73090 (Or.inl (by decide))).trans ((jw_ne e73088 (Or.inl (by decide))).trans ((jw_ne e73087 (Or.inl (by decide))).trans ((jw_ne e73085 (Or.inl (by decide))).trans ((jw_ne e73084 (Or.inl (by decide))).trans ((jw_ne e73083 (Or.inl (by decide))).trans (jw_eq e73081))))))))))))), by omega, by omega, (Fr.kp (Fr.w (i := (400 * w0 + 4 * w1 + 3)) (Fr.kp (Fr.w (i := (400 * w0 + 4 * w1 + 2)) (Fr.kp (Fr.w (i := (400 * w0 + 4 * w1 + 1)) (Fr.kp (Fr.w (i := (400 * w0 + 4 * w1)) (Fr.w (i := (100 * w0 + w1)) (Fr.w (i := (100 * w0 + w1)) (Fr.w (i := (100 * w0 + w1)) (Fr.kp (Fr.rf _ _) ((Kp.rf [(42, 0)] _).wr e73081 rfl) (fun _ => rfl) (fun _ => rfl) (fun _ => rfl) (fun _ => rfl)) e73083 (by omega) (by omega)) e73084 (by omega) (by omega)) e73085 (by omega) (by omega)) e73087 (by omega) (by omega)) ((Kp.rf [(52, 0)] _).wr e73088 rfl) (fun _ => rfl) (fun _ => rfl) (fun _ => rfl) (fun _ => rfl)) e73090 (by omega) (by omega)) ((Kp.rf [(52, 0)] _).wr e73091 rfl) (fun _ => rfl) (fun _ => rfl) (fun _ => rfl) (fun _ => rfl)) e73093 (by omega) (by omega)) ((Kp.rf [(52, 0)] _).wr e73094 rfl) (fun _ => rfl) (fun _ => rfl) (fun _ => rfl) (fun _ => rfl)) e73096 (by omega) (by omega)) ((Kp.rf [(52, 0)] _).wr e73097 rfl) (fun _ => rfl) (fun _ => rfl) (fun _ => rfl) (fun _ => rfl)), fun h0 => by omega, fun h0 hm => Tr.end (i := (100 * w0 + w1)) (by omega) (by omega) (by omega) (((jw_ne e73097 (Or.inl (by decide))).trans ((jw_ne e73096 (Or.inl (by decide))).trans ((jw_ne e73094 (Or.inl (by decide))).trans ((jw_ne e73093 (Or.inl (by decide))).trans ((jw_ne e73091 (Or.inl (by decide))).trans ((jw_ne e73090 (Or.inl (by decide))).trans ((jw_ne e73088 (Or.inl (by decide))).trans ((jw_ne e73087 (Or.inl (by decide))).trans ((jw_ne e73085 (Or.inl (by decide))).trans ((jw_ne e73084 (Or.inl (by decide))).trans (jw_eq e73083)))))))))))) (by omega) (by omega)⟩⟩
                      · refine ev_aload_n rfl ?_
                        refine g_getp (r := 42) (c := 54) g ad42 (by decide) (by decide) rf42_16 ft12_16 ?_
                        refine ev_iload_n rfl ?_
                        refine g_bald g ad54 rt54 (by omega) (by omega) (fun v73099 ev73099 lv73099 uv73099 => ?_)
                        refine ev_goto f264_18 ?_
                        refine ev_ret rfl (by decide) (by decide) ?_
                        show jEv _ _ _ _ _ _ _ (_, [(2, 42), (0, (a1 + 3))], [(0, v73099)], _, _, _)
                        refine ev_bipush ?_
                        refine ev_bipush ?_
                        refine ev_in (d := 0) (a := 0) (b := 0) (cd' := c242_0) (m := 3) (L0 := [(0, v73099), (0, 48), (0, 57)]) (jcall_s (A := [(0, 57), (0, 48), (0, v73099)]) (S' := []) (by decide) rfl (Nat.le_of_ble_eq_true rfl)) (by decide) ml242 pp242 (Nat.le_of_ble_eq_true rfl) rfl (by decide) (by decide) ?_
                        refine ev_iload_n rfl ?_
                        refine ev_iload_n rfl ?_
                        refine ev_icmplt f242_14 (fun c73100 => ?_) (fun c73100 => ?_)
                        · refine ev_iconst ?_
                          refine ev_ret rfl (by decide) (by decide) ?_
                          show jEv _ _ _ _ _ _ _ (_, [(2, 42), (0, (a1 + 3))], [(0, 0)], _, _, _)
                          refine ev_ret rfl (by decide) (by decide) ?_
                          show jEv _ _ _ _ _ _ _ (_, [(2, 42), (0, a1), (0, 1), (0, (a1 + 3)), (0, 0), (0, (100 * v72896 + 10 * v72940 + v73021 - 5328)), (0, 3)], [(0, 0)], _, _, _)
                          refine ev_ifeq f269_100 (fun c73101 => ?_) (fun c73101 => absurd c73101 (by omega))
                          refine ev_aload_n rfl ?_
                          refine ev_iload_n rfl ?_
                          refine ev_iconst ?_
                          refine ev_iload rfl ?_
                          refine ev_ifeq f269_114 (fun c73102 => ?_) (fun c73102 => absurd c73102 (by omega))
                          refine ev_iload rfl ?_
                          refine ev_in (d := 1) (a := 0) (b := 0) (cd' := c267_0) (m := 6) (L0 := [(2, 42), (0, 1), (0, 0), (0, (100 * v72896 + 10 * v72940 + v73021 - 5328)), (9, 0), (9, 0)]) (jcall_v (A := [(0, (100 * v72896 + 10 * v72940 + v73021 - 5328)), (0, 0), (0, 1)]) (S' := []) (r := 42) rfl (g.lt ad42) (g.tg ad42) (Nat.le_of_ble_eq_true rfl)) (by decide) ml267 pp267 (Nat.le_of_ble_eq_true rfl) rfl (by decide) (by decide) ?_
                          refine ev_iload_n rfl ?_
                          refine ev_ifne f267_6 (fun c73103 => ?_) (fun c73103 => absurd c73103 (by omega))
                          refine ev_aload_n rfl ?_
                          refine ev_dup (by decide) ?_
                          refine g_getv (r := 42) (v := w1) g ad42 (by decide) ft12_21 (ew1) ?_
                          refine ev_iconst ?_
                          refine ev_iadd (r := (w1 + 1)) (by unfold w32; omega) ?_
                          refine g_putf (r := 42) g ad42 (by decide) ft12_21 (by decide) (fun e => absurd e nz12_21) rf42_21 (by decide) (by omega) (by omega) (fun h73104 e73104 g73104 => ?_)
                          have k73104 := k0.wr e73104 rfl
                          refine ev_aload_n rfl ?_
                          refine g_getv (r := 42) (v := (w1 + 1)) g73104 ad42 (by decide) ft12_21 ((jw_eq e73104)) ?_
                          refine ev_bipush ?_
                          refine ev_icmple f267_27 (fun c73105 => ?_) (fun c73105 => absurd c73105 (by omega))
                          refine ev_bipush ?_
                          refine ev_aload_n rfl ?_
                          refine g_getv (r := 42) (v := w0) g73104 ad42 (by decide) ft12_9 (((jw_ne e73104 (Or.inr (by decide))).trans ew0)) ?_
                          refine ev_imul (r := (100 * w0)) (by unfold w32; omega) ?_
                          refine ev_aload_n rfl ?_
                          refine g_getv (r := 42) (v := (w1 + 1)) g73104 ad42 (by decide) ft12_21 ((jw_eq e73104)) ?_
                          refine ev_iadd (r := (100 * w0 + w1 + 1)) (by unfold w32; omega) ?_
                          refine ev_iconst ?_
                          refine ev_isub (r := (100 * w0 + w1)) (by unfold w32; omega) ?_
                          refine ev_istore (L' := [(2, 42), (0, 1), (0, 0), (0, (100 * v72896 + 10 * v72940 + v73021 - 5328)), (0, (100 * w0 + w1)), (9, 0)]) (Nat.le_of_ble_eq_true rfl) rfl ?_
                          refine ev_aload_n rfl ?_
                          refine g_getp (r := 42) (c := 49) g73104 ad42 (by decide) (by decide) rf42_11 ft12_11 ?_
                          refine ev_iload rfl ?_
                          refine ev_iload_n rfl ?_
                          refine ev_i2b (r := 0) (by unfold w8; omega) ?_
                          refine ev_bastG (r := 49) (j := ((100 * w0 + w1)).toNat) (w := 0) (g73104.lt ad49) (g73104.tg ad49) (by omega) (by rw [g73104.ln ad49]; omega) (by unfold w8; omega) (fun h73106 e73106 => ?_)
                          have g73106 := g73104.s49 e73106 (by rw [(((jw_ne e73104 (Or.inr (by decide))).trans ew0))]; omega) (by omega) (by omega)
                          have k73106 := k73104.wr e73106 rfl
                          refine ev_aload_n rfl ?_
                          refine g_getp (r := 42) (c := 50) g73106 ad42 (by decide) (by decide) rf42_12 ft12_12 ?_
                          refine ev_iload rfl ?_
                          refine ev_iload_n rfl ?_
                          refine ev_iastG (r := 50) (j := ((100 * w0 + w1)).toNat) (g73106.lt ad50) (g73106.tg ad50) (by omega) (by rw [g73106.ln ad50]; omega) (fun h73107 e73107 => ?_)
                          have g73107 := g73106.s50 e73107 (Or.inl (by rw [(((jw_ne e73106 (Or.inl (by decide))).trans ((jw_ne e73104 (Or.inr (by decide))).trans ew0)))]; omega)) (by omega) (by omega)
                          have k73107 := k73106.wr e73107 rfl
                          refine ev_aload_n rfl ?_
                          refine g_getp (r := 42) (c := 53) g73107 ad42 (by decide) (by decide) rf42_15 ft12_15 ?_
                          refine ev_iload rfl ?_
                          refine ev_iconst ?_
                          refine ev_bastG (r := 53) (j := ((100 * w0 + w1)).toNat) (w := 0) (g73107.lt ad53) (g73107.tg ad53) (by omega) (by rw [g73107.ln ad53]; omega) (by unfold w8; omega) (fun h73108 e73108 => ?_)
                          have g73108 := g73107.s53 e73108 (Or.inl (by rw [(((jw_ne e73107 (Or.inl (by decide))).trans ((jw_ne e73106 (Or.inl (by decide))).trans ((jw_ne e73104 (Or.inr (by decide))).trans ew0))))]; omega)) (by omega) (by omega)
                          have k73108 := k73107.wr e73108 rfl
                          refine ev_iconst ?_
                          refine ev_istore (L' := [(2, 42), (0, 1), (0, 0), (0, (100 * v72896 + 10 * v72940 + v73021 - 5328)), (0, (100 * w0 + w1)), (0, 0)]) (Nat.le_of_ble_eq_true rfl) rfl ?_
                          refine ev_iload rfl ?_
                          refine ev_iconst ?_
                          refine ev_icmpge f267_109 (fun c73109 => absurd c73109 (by omega)) (fun c73109 => ?_)
                          refine ev_aload_n rfl ?_
                          refine g_getp (r := 42) (c := 51) g73108 ad42 (by decide) (by decide) rf42_13 ft12_13 ?_
                          refine ev_iconst ?_
                          refine ev_iload rfl ?_
                          refine ev_imul (r := (400 * w0 + 4 * w1)) (by unfold w32; omega) ?_
                          refine ev_iload rfl ?_
                          refine ev_iadd (r := (400 * w0 + 4 * w1)) (by unfold w32; omega) ?_
                          refine ev_iconst ?_
                          refine ev_bastG (r := 51) (j := ((400 * w0 + 4 * w1)).toNat) (w := (-1)) (g73108.lt ad51) (g73108.tg ad51) (by omega) (by rw [g73108.ln ad51]; omega) (by unfold w8; omega) (fun h73110 e73110 => ?_)
                          have g73110 := g73108.s51 e73110 (by rw [(((jw_ne e73108 (Or.inl (by decide))).trans ((jw_ne e73107 (Or.inl (by decide))).trans ((jw_ne e73106 (Or.inl (by decide))).trans ((jw_ne e73104 (Or.inr (by decide))).trans ew0)))))]; omega) (by omega) (by omega)
                          have k73110 := k73108.wr e73110 rfl
                          refine ev_aload_n rfl ?_
                          refine g_getp (r := 42) (c := 52) g73110 ad42 (by decide) (by decide) rf42_14 ft12_14 ?_
                          refine ev_iconst ?_
                          refine ev_iload rfl ?_
                          refine ev_imul (r := (400 * w0 + 4 * w1)) (by unfold w32; omega) ?_
                          refine ev_iload rfl ?_
                          refine ev_iadd (r := (400 * w0 + 4 * w1)) (by unfold w32; omega) ?_
                          refine ev_iconst ?_
                          refine g_iast g73110 ad52 rt52 (fun _ => rfl) (by omega) (by omega) (by omega) (by omega) (fun h73111 e73111 g73111 => ?_)
                          have k73111 := k73110.wr e73111 rfl
                          refine ev_iinc (w := 1) (L' := [(2, 42), (0, 1), (0, 0), (0, (100 * v72896 + 10 * v72940 + v73021 - 5328)), (0, (100 * w0 + w1)), (0, 1)]) rfl (by decide) rfl ?_
                          refine ev_goto f267_71 ?_
                          refine ev_iload rfl ?_
                          refine ev_iconst ?_
                          refine ev_icmpge f267_109 (fun c73112 => absurd c73112 (by omega)) (fun c73112 => ?_)
                          refine ev_aload_n rfl ?_
                          refine g_getp (r := 42) (c := 51) g73111 ad42 (by decide) (by decide) rf42_13 ft12_13 ?_
                          refine ev_iconst ?_
                          refine ev_iload rfl ?_
                          refine ev_imul (r := (400 * w0 + 4 * w1)) (by unfold w32; omega) ?_
                          refine ev_iload rfl ?_
                          refine ev_iadd (r := (400 * w0 + 4 * w1 + 1)) (by unfold w32; omega) ?_
                          refine ev_iconst ?_
                          refine ev_bastG (r := 51) (j := ((400 * w0 + 4 * w1 + 1)).toNat) (w := (-1)) (g73111.lt ad51) (g73111.tg ad51) (by omega) (by rw [g73111.ln ad51]; omega) (by unfold w8; omega) (fun h73113 e73113 => ?_)
                          have g73113 := g73111.s51 e73113 (by rw [(((jw_ne e73111 (Or.inl (by decide))).trans ((jw_ne e73110 (Or.inl (by decide))).trans ((jw_ne e73108 (Or.inl (by decide))).trans ((jw_ne e73107 (Or.inl (by decide))).trans ((jw_ne e73106 (Or.inl (by decide))).trans ((jw_ne e73104 (Or.inr (by decide))).trans ew0)))))))]; omega) (by omega) (by omega)
                          have k73113 := k73111.wr e73113 rfl
                          refine ev_aload_n rfl ?_
                          refine g_getp (r := 42) (c := 52) g73113 ad42 (by decide) (by decide) rf42_14 ft12_14 ?_
                          refine ev_iconst ?_
                          refine ev_iload rfl ?_
                          refine ev_imul (r := (400 * w0 + 4 * w1)) (by unfold w32; omega) ?_
                          refine ev_iload rfl ?_
                          refine ev_iadd (r := (400 * w0 + 4 * w1 + 1)) (by unfold w32; omega) ?_
                          refine ev_iconst ?_
                          refine g_iast g73113 ad52 rt52 (fun _ => rfl) (by omega) (by omega) (by omega) (by omega) (fun h73114 e73114 g73114 => ?_)
                          have k73114 := k73113.wr e73114 rfl
                          refine ev_iinc (w := 2) (L' := [(2, 42), (0, 1), (0, 0), (0, (100 * v72896 + 10 * v72940 + v73021 - 5328)), (0, (100 * w0 + w1)), (0, 2)]) rfl (by decide) rfl ?_
                          refine ev_goto f267_71 ?_
                          refine ev_iload rfl ?_
                          refine ev_iconst ?_
                          refine ev_icmpge f267_109 (fun c73115 => absurd c73115 (by omega)) (fun c73115 => ?_)
                          refine ev_aload_n rfl ?_
                          refine g_getp (r := 42) (c := 51) g73114 ad42 (by decide) (by decide) rf42_13 ft12_13 ?_
                          refine ev_iconst ?_
                          refine ev_iload rfl ?_
                          refine ev_imul (r := (400 * w0 + 4 * w1)) (by unfold w32; omega) ?_
                          refine ev_iload rfl ?_
                          refine ev_iadd (r := (400 * w0 + 4 * w1 + 2)) (by unfold w32; omega) ?_
                          refine ev_iconst ?_
                          refine ev_bastG (r := 51) (j := ((400 * w0 + 4 * w1 + 2)).toNat) (w := (-1)) (g73114.lt ad51) (g73114.tg ad51) (by omega) (by rw [g73114.ln ad51]; omega) (by unfold w8; omega) (fun h73116 e73116 => ?_)
                          have g73116 := g73114.s51 e73116 (by rw [(((jw_ne e73114 (Or.inl (by decide))).trans ((jw_ne e73113 (Or.inl (by decide))).trans ((jw_ne e73111 (Or.inl (by decide))).trans ((jw_ne e73110 (Or.inl (by decide))).trans ((jw_ne e73108 (Or.inl (by decide))).trans ((jw_ne e73107 (Or.inl (by decide))).trans ((jw_ne e73106 (Or.inl (by decide))).trans ((jw_ne e73104 (Or.inr (by decide))).trans ew0)))))))))]; omega) (by omega) (by omega)
                          have k73116 := k73114.wr e73116 rfl
                          refine ev_aload_n rfl ?_
                          refine g_getp (r := 42) (c := 52) g73116 ad42 (by decide) (by decide) rf42_14 ft12_14 ?_
                          refine ev_iconst ?_
                          refine ev_iload rfl ?_
                          refine ev_imul (r := (400 * w0 + 4 * w1)) (by unfold w32; omega) ?_
                          refine ev_iload rfl ?_
                          refine ev_iadd (r := (400 * w0 + 4 * w1 + 2)) (by unfold w32; omega) ?_
                          refine ev_iconst ?_
                          refine g_iast g73116 ad52 rt52 (fun _ => rfl) (by omega) (by omega) (by omega) (by omega) (fun h73117 e73117 g73117 => ?_)
                          have k73117 := k73116.wr e73117 rfl
                          refine ev_iinc (w := 3) (L' := [(2, 42), (0, 1), (0, 0), (0, (100 * v72896 + 10 * v72940 + v73021 - 5328)), (0, (100 * w0 + w1)), (0, 3)]) rfl (by decide) rfl ?_
                          refine ev_goto f267_71 ?_
                          refine ev_iload rfl ?_
                          refine ev_iconst ?_
                          refine ev_icmpge f267_109 (fun c73118 => absurd c73118 (by omega)) (fun c73118 => ?_)
                          refine ev_aload_n rfl ?_
                          refine g_getp (r := 42) (c := 51) g73117 ad42 (by decide) (by decide) rf42_13 ft12_13 ?_
                          refine ev_iconst ?_
                          refine ev_iload rfl ?_
                          refine ev_imul (r := (400 * w0 + 4 * w1)) (by unfold w32; omega) ?_
                          refine ev_iload rfl ?_
                          refine ev_iadd (r := (400 * w0 + 4 * w1 + 3)) (by unfold w32; omega) ?_
                          refine ev_iconst ?_
                          refine ev_bastG (r := 51) (j := ((400 * w0 + 4 * w1 + 3)).toNat) (w := (-1)) (g73117.lt ad51) (g73117.tg ad51) (by omega) (by rw [g73117.ln ad51]; omega) (by unfold w8; omega) (fun h73119 e73119 => ?_)
                          have g73119 := g73117.s51 e73119 (by rw [(((jw_ne e73117 (Or.inl (by decide))).trans ((jw_ne e73116 (Or.inl (by decide))).trans ((jw_ne e73114 (Or.inl (by decide))).trans ((jw_ne e73113 (Or.inl (by decide))).trans ((jw_ne e73111 (Or.inl (by decide))).trans ((jw_ne e73110 (Or.inl (by decide))).trans ((jw_ne e73108 (Or.inl (by decide))).trans ((jw_ne e73107 (Or.inl (by decide))).trans ((jw_ne e73106 (Or.inl (by decide))).trans ((jw_ne e73104 (Or.inr (by decide))).trans ew0)))))))))))]; omega) (by omega) (by omega)
                          have k73119 := k73117.wr e73119 rfl
                          refine ev_aload_n rfl ?_
                          refine g_getp (r := 42) (c := 52) g73119 ad42 (by decide) (by decide) rf42_14 ft12_14 ?_
                          refine ev_iconst ?_
                          refine ev_iload rfl ?_
                          refine ev_imul (r := (400 * w0 + 4 * w1)) (by unfold w32; omega) ?_
                          refine ev_iload rfl ?_
                          refine ev_iadd (r := (400 * w0 + 4 * w1 + 3)) (by unfold w32; omega) ?_
                          refine ev_iconst ?_
                          refine g_iast g73119 ad52 rt52 (fun _ => rfl) (by omega) (by omega) (by omega) (by omega) (fun h73120 e73120 g73120 => ?_)
                          have k73120 := k73119.wr e73120 rfl
                          refine ev_iinc (w := 4) (L' := [(2, 42), (0, 1), (0, 0), (0, (100 * v72896 + 10 * v72940 + v73021 - 5328)), (0, (100 * w0 + w1)), (0, 4)]) rfl (by decide) rfl ?_
                          refine ev_goto f267_71 ?_
                          refine ev_iload rfl ?_
                          refine ev_iconst ?_
                          refine ev_icmpge f267_109 (fun c73121 => ?_) (fun c73121 => absurd c73121 (by omega))
                          refine ev_iload rfl ?_
                          refine ev_ret rfl (by decide) (by decide) ?_
                          show jEv _ _ _ _ _ _ _ (_, [(2, 42), (0, a1), (0, 1), (0, (a1 + 3)), (0, 0), (0, (100 * v72896 + 10 * v72940 + v73021 - 5328)), (0, 3)], [(0, (100 * w0 + w1))], _, _, _)
                          refine ev_pop (by decide) ?_
                          refine ev_iload_n rfl ?_
                          exact ev_ret rfl (by decide) (by decide) ⟨⟨_, rfl, by omega, by omega, g73120, k73120⟩, fun r hr h0 => by cases hr; exact (Ad.step (r' := (a1 + 3)) (Ad.step (r' := (a1 + 2)) (Ad.step (r' := (a1 + 1)) (Ad.rf _ _ _) (by omega) k73120 (fun _ => rfl) (((jw_ne e73120 (Or.inl (by decide))).trans ((jw_ne e73119 (Or.inl (by decide))).trans ((jw_ne e73117 (Or.inl (by decide))).trans ((jw_ne e73116 (Or.inl (by decide))).trans ((jw_ne e73114 (Or.inl (by decide))).trans ((jw_ne e73113 (Or.inl (by decide))).trans ((jw_ne e73111 (Or.inl (by decide))).trans ((jw_ne e73110 (Or.inl (by decide))).trans ((jw_ne e73108 (Or.inl (by decide))).trans ((jw_ne e73107 (Or.inl (by decide))).trans ((jw_ne e73106 (Or.inl (by decide))).trans ((jw_ne e73104 (Or.inl (by decide))).trans ev72896))))))))))))) (by omega) (by omega) (by omega)) (by omega) k73120 (fun _ => rfl) (((jw_ne e73120 (Or.inl (by decide))).trans ((jw_ne e73119 (Or.inl (by decide))).trans ((jw_ne e73117 (Or.inl (by decide))).trans ((jw_ne e73116 (Or.inl (by decide))).trans ((jw_ne e73114 (Or.inl (by decide))).trans ((jw_ne e73113 (Or.inl (by decide))).trans ((jw_ne e73111 (Or.inl (by decide))).trans ((jw_ne e73110 (Or.inl (by decide))).trans ((jw_ne e73108 (Or.inl (by decide))).trans ((jw_ne e73107 (Or.inl (by decide))).trans ((jw_ne e73106 (Or.inl (by decide))).trans ((jw_ne e73104 (Or.inl (by decide))).trans ev72940))))))))))))) (by omega) (by omega) (by omega)) (by omega) k73120 (fun _ => rfl) (((jw_ne e73120 (Or.inl (by decide))).trans ((jw_ne e73119 (Or.inl (by decide))).trans ((jw_ne e73117 (Or.inl (by decide))).trans ((jw_ne e73116 (Or.inl (by decide))).trans ((jw_ne e73114 (Or.inl (by decide))).trans ((jw_ne e73113 (Or.inl (by decide))).trans ((jw_ne e73111 (Or.inl (by decide))).trans ((jw_ne e73110 (Or.inl (by decide))).trans ((jw_ne e73108 (Or.inl (by decide))).trans ((jw_ne e73107 (Or.inl (by decide))).trans ((jw_ne e73106 (Or.inl (by decide))).trans ((jw_ne e73104 (Or.inl (by decide))).trans ev73021))))))))))))) (by omega) (by omega) (by omega)), fun r hr => by cases hr; exact ⟨_, (((jw_ne e73120 (Or.inl (by decide))).trans ((jw_ne e73119 (Or.inl (by decide))).trans ((jw_ne e73117 (Or.inl (by decide))).trans ((jw_ne e73116 (Or.inl (by decide))).trans ((jw_ne e73114 (Or.inl (by decide))).trans ((jw_ne e73113 (Or.inl (by decide))).trans ((jw_ne e73111 (Or.inl (by decide))).trans ((jw_ne e73110 (Or.inl (by decide))).trans ((jw_ne e73108 (Or.inl (by decide))).trans ((jw_ne e73107 (Or.inl (by decide))).trans ((jw_ne e73106 (Or.inl (by decide))).trans (jw_eq e73104))))))))))))), by omega, by omega, (Fr.kp (Fr.w (i := (400 * w0 + 4 * w1 + 3)) (Fr.kp (Fr.w (i := (400 * w0 + 4 * w1 + 2)) (Fr.kp (Fr.w (i := (400 * w0 + 4 * w1 + 1)) (Fr.kp (Fr.w (i := (400 * w0 + 4 * w1)) (Fr.w (i := (100 * w0 + w1)) (Fr.w (i := (100 * w0 + w1)) (Fr.w (i := (100 * w0 + w1)) (Fr.kp (Fr.rf _ _) ((Kp.rf [(42, 0)] _).wr e73104 rfl) (fun _ => rfl) (fun _ => rfl) (fun _ => rfl) (fun _ => rfl)) e73106 (by omega) (by omega)) e73107 (by omega) (by omega)) e73108 (by omega) (by omega)) e73110 (by omega) (by omega)) ((Kp.rf [(52, 0)] _).wr e73111 rfl) (fun _ => rfl) (fun _ => rfl) (fun _ => rfl) (fun _ => rfl)) e73113 (by omega) (by omega)) ((Kp.rf [(52, 0)] _).wr e73114 rfl) (fun _ => rfl) (fun _ => rfl) (fun _ => rfl) (fun _ => rfl)) e73116 (by omega) (by omega)) ((Kp.rf [(52, 0)] _).wr e73117 rfl) (fun _ => rfl) (fun _ => rfl) (fun _ => rfl) (fun _ => rfl)) e73119 (by omega) (by omega)) ((Kp.rf [(52, 0)] _).wr e73120 rfl) (fun _ => rfl) (fun _ => rfl) (fun _ => rfl) (fun _ => rfl)), fun h0 => by omega, fun h0 hm => Tr.end (i := (100 * w0 + w1)) (by omega) (by omega) (by omega) (((jw_ne e73120 (Or.inl (by decide))).trans ((jw_ne e73119 (Or.inl (by decide))).trans ((jw_ne e73117 (Or.inl (by decide))).trans ((jw_ne e73116 (Or.inl (by decide))).trans ((jw_ne e73114 (Or.inl (by decide))).trans ((jw_ne e73113 (Or.inl (by decide))).trans ((jw_ne e73111 (Or.inl (by decide))).trans ((jw_ne e73110 (Or.inl (by decide))).trans ((jw_ne e73108 (Or.inl (by decide))).trans ((jw_ne e73107 (Or.inl (by decide))).trans (jw_eq e73106)))))))))))) (by omega) (by omega)⟩⟩
                        · refine ev_iload_n rfl ?_
                          refine ev_iload_n rfl ?_
                          refine ev_icmpgt f242_14 (fun c73122 => ?_) (fun c73122 => ?_)
                          · refine ev_iconst ?_
                            refine ev_ret rfl (by decide) (by decide) ?_
                            show jEv _ _ _ _ _ _ _ (_, [(2, 42), (0, (a1 + 3))], [(0, 0)], _, _, _)
                            refine ev_ret rfl (by decide) (by decide) ?_
                            show jEv _ _ _ _ _ _ _ (_, [(2, 42), (0, a1), (0, 1), (0, (a1 + 3)), (0, 0), (0, (100 * v72896 + 10 * v72940 + v73021 - 5328)), (0, 3)], [(0, 0)], _, _, _)
                            refine ev_ifeq f269_100 (fun c73123 => ?_) (fun c73123 => absurd c73123 (by omega))
                            refine ev_aload_n rfl ?_
                            refine ev_iload_n rfl ?_
                            refine ev_iconst ?_
                            refine ev_iload rfl ?_
                            refine ev_ifeq f269_114 (fun c73124 => ?_) (fun c73124 => absurd c73124 (by omega))
                            refine ev_iload rfl ?_
                            refine ev_in (d := 1) (a := 0) (b := 0) (cd' := c267_0) (m := 6) (L0 := [(2, 42), (0, 1), (0, 0), (0, (100 * v72896 + 10 * v72940 + v73021 - 5328)), (9, 0), (9, 0)]) (jcall_v (A := [(0, (100 * v72896 + 10 * v72940 + v73021 - 5328)), (0, 0), (0, 1)]) (S' := []) (r := 42) rfl (g.lt ad42) (g.tg ad42) (Nat.le_of_ble_eq_true rfl)) (by decide) ml267 pp267 (Nat.le_of_ble_eq_true rfl) rfl (by decide) (by decide) ?_
                            refine ev_iload_n rfl ?_
                            refine ev_ifne f267_6 (fun c73125 => ?_) (fun c73125 => absurd c73125 (by omega))
                            refine ev_aload_n rfl ?_
                            refine ev_dup (by decide) ?_
                            refine g_getv (r := 42) (v := w1) g ad42 (by decide) ft12_21 (ew1) ?_
                            refine ev_iconst ?_
                            refine ev_iadd (r := (w1 + 1)) (by unfold w32; omega) ?_
                            refine g_putf (r := 42) g ad42 (by decide) ft12_21 (by decide) (fun e => absurd e nz12_21) rf42_21 (by decide) (by omega) (by omega) (fun h73126 e73126 g73126 => ?_)
                            have k73126 := k0.wr e73126 rfl
                            refine ev_aload_n rfl ?_
                            refine g_getv (r := 42) (v := (w1 + 1)) g73126 ad42 (by decide) ft12_21 ((jw_eq e73126)) ?_
                            refine ev_bipush ?_
                            refine ev_icmple f267_27 (fun c73127 => ?_) (fun c73127 => absurd c73127 (by omega))
                            refine ev_bipush ?_
                            refine ev_aload_n rfl ?_
                            refine g_getv (r := 42) (v := w0) g73126 ad42 (by decide) ft12_9 (((jw_ne e73126 (Or.inr (by decide))).trans ew0)) ?_
                            refine ev_imul (r := (100 * w0)) (by unfold w32; omega) ?_
                            refine ev_aload_n rfl ?_
                            refine g_getv (r := 42) (v := (w1 + 1)) g73126 ad42 (by decide) ft12_21 ((jw_eq e73126)) ?_
                            refine ev_iadd (r := (100 * w0 + w1 + 1)) (by unfold w32; omega) ?_
                            refine ev_iconst ?_
                            refine ev_isub (r := (100 * w0 + w1)) (by unfold w32; omega) ?_
                            refine ev_istore (L' := [(2, 42), (0, 1), (0, 0), (0, (100 * v72896 + 10 * v72940 + v73021 - 5328)), (0, (100 * w0 + w1)), (9, 0)]) (Nat.le_of_ble_eq_true rfl) rfl ?_
                            refine ev_aload_n rfl ?_
                            refine g_getp (r := 42) (c := 49) g73126 ad42 (by decide) (by decide) rf42_11 ft12_11 ?_
                            refine ev_iload rfl ?_
                            refine ev_iload_n rfl ?_
                            refine ev_i2b (r := 0) (by unfold w8; omega) ?_
                            refine ev_bastG (r := 49) (j := ((100 * w0 + w1)).toNat) (w := 0) (g73126.lt ad49) (g73126.tg ad49) (by omega) (by rw [g73126.ln ad49]; omega) (by unfold w8; omega) (fun h73128 e73128 => ?_)
                            have g73128 := g73126.s49 e73128 (by rw [(((jw_ne e73126 (Or.inr (by decide))).trans ew0))]; omega) (by omega) (by omega)
                            have k73128 := k73126.wr e73128 rfl
                            refine ev_aload_n rfl ?_
                            refine g_getp (r := 42) (c := 50) g73128 ad42 (by decide) (by decide) rf42_12 ft12_12 ?_
                            refine ev_iload rfl ?_
                            refine ev_iload_n rfl ?_
                            refine ev_iastG (r := 50) (j := ((100 * w0 + w1)).toNat) (g73128.lt ad50) (g73128.tg ad50) (by omega) (by rw [g73128.ln ad50]; omega) (fun h73129 e73129 => ?_)
                            have g73129 := g73128.s50 e73129 (Or.inl (by rw [(((jw_ne e73128 (Or.inl (by decide))).trans ((jw_ne e73126 (Or.inr (by decide))).trans ew0)))]; omega)) (by omega) (by omega)
                            have k73129 := k73128.wr e73129 rfl
                            refine ev_aload_n rfl ?_
                            refine g_getp (r := 42) (c := 53) g73129 ad42 (by decide) (by decide) rf42_15 ft12_15 ?_
                            refine ev_iload rfl ?_
                            refine ev_iconst ?_
                            refine ev_bastG (r := 53) (j := ((100 * w0 + w1)).toNat) (w := 0) (g73129.lt ad53) (g73129.tg ad53) (by omega) (by rw [g73129.ln ad53]; omega) (by unfold w8; omega) (fun h73130 e73130 => ?_)
                            have g73130 := g73129.s53 e73130 (Or.inl (by rw [(((jw_ne e73129 (Or.inl (by decide))).trans ((jw_ne e73128 (Or.inl (by decide))).trans ((jw_ne e73126 (Or.inr (by decide))).trans ew0))))]; omega)) (by omega) (by omega)
                            have k73130 := k73129.wr e73130 rfl
                            refine ev_iconst ?_
                            refine ev_istore (L' := [(2, 42), (0, 1), (0, 0), (0, (100 * v72896 + 10 * v72940 + v73021 - 5328)), (0, (100 * w0 + w1)), (0, 0)]) (Nat.le_of_ble_eq_true rfl) rfl ?_
                            refine ev_iload rfl ?_
                            refine ev_iconst ?_
                            refine ev_icmpge f267_109 (fun c73131 => absurd c73131 (by omega)) (fun c73131 => ?_)
                            refine ev_aload_n rfl ?_
                            refine g_getp (r := 42) (c := 51) g73130 ad42 (by decide) (by decide) rf42_13 ft12_13 ?_
                            refine ev_iconst ?_
                            refine ev_iload rfl ?_
                            refine ev_imul (r := (400 * w0 + 4 * w1)) (by unfold w32; omega) ?_
                            refine ev_iload rfl ?_
                            refine ev_iadd (r := (400 * w0 + 4 * w1)) (by unfold w32; omega) ?_
                            refine ev_iconst ?_
                            refine ev_bastG (r := 51) (j := ((400 * w0 + 4 * w1)).toNat) (w := (-1)) (g73130.lt ad51) (g73130.tg ad51) (by omega) (by rw [g73130.ln ad51]; omega) (by unfold w8; omega) (fun h73132 e73132 => ?_)
                            have g73132 := g73130.s51 e73132 (by rw [(((jw_ne e73130 (Or.inl (by decide))).trans ((jw_ne e73129 (Or.inl (by decide))).trans ((jw_ne e73128 (Or.inl (by decide))).trans ((jw_ne e73126 (Or.inr (by decide))).trans ew0)))))]; omega) (by omega) (by omega)
                            have k73132 := k73130.wr e73132 rfl
                            refine ev_aload_n rfl ?_
                            refine g_getp (r := 42) (c := 52) g73132 ad42 (by decide) (by decide) rf42_14 ft12_14 ?_
                            refine ev_iconst ?_
                            refine ev_iload rfl ?_
                            refine ev_imul (r := (400 * w0 + 4 * w1)) (by unfold w32; omega) ?_
                            refine ev_iload rfl ?_
                            refine ev_iadd (r := (400 * w0 + 4 * w1)) (by unfold w32; omega) ?_
                            refine ev_iconst ?_
                            refine g_iast g73132 ad52 rt52 (fun _ => rfl) (by omega) (by omega) (by omega) (by omega) (fun h73133 e73133 g73133 => ?_)
                            have k73133 := k73132.wr e73133 rfl
                            refine ev_iinc (w := 1) (L' := [(2, 42), (0, 1), (0, 0), (0, (100 * v72896 + 10 * v72940 + v73021 - 5328)), (0, (100 * w0 + w1)), (0, 1)]) rfl (by decide) rfl ?_
                            refine ev_goto f267_71 ?_
                            refine ev_iload rfl ?_
                            refine ev_iconst ?_
                            refine ev_icmpge f267_109 (fun c73134 => absurd c73134 (by omega)) (fun c73134 => ?_)
                            refine ev_aload_n rfl ?_
                            refine g_getp (r := 42) (c := 51) g73133 ad42 (by decide) (by decide) rf42_13 ft12_13 ?_
                            refine ev_iconst ?_
                            refine ev_iload rfl ?_
                            refine ev_imul (r := (400 * w0 + 4 * w1)) (by unfold w32; omega) ?_
                            refine ev_iload rfl ?_
                            refine ev_iadd (r := (400 * w0 + 4 * w1 + 1)) (by unfold w32; omega) ?_
                            refine ev_iconst ?_
                            refine ev_bastG (r := 51) (j := ((400 * w0 + 4 * w1 + 1)).toNat) (w := (-1)) (g73133.lt ad51) (g73133.tg ad51) (by omega) (by rw [g73133.ln ad51]; omega) (by unfold w8; omega) (fun h73135 e73135 => ?_)
                            have g73135 := g73133.s51 e73135 (by rw [(((jw_ne e73133 (Or.inl (by decide))).trans ((jw_ne e73132 (Or.inl (by decide))).trans ((jw_ne e73130 (Or.inl (by decide))).trans ((jw_ne e73129 (Or.inl (by decide))).trans ((jw_ne e73128 (Or.inl (by decide))).trans ((jw_ne e73126 (Or.inr (by decide))).trans ew0)))))))]; omega) (by omega) (by omega)
                            have k73135 := k73133.wr e73135 rfl
                            refine ev_aload_n rfl ?_
                            refine g_getp (r := 42) (c := 52) g73135 ad42 (by decide) (by decide) rf42_14 ft12_14 ?_
                            refine ev_iconst ?_
                            refine ev_iload rfl ?_
                            refine ev_imul (r := (400 * w0 + 4 * w1)) (by unfold w32; omega) ?_
                            refine ev_iload rfl ?_
                            refine ev_iadd (r := (400 * w0 + 4 * w1 + 1)) (by unfold w32; omega) ?_
                            refine ev_iconst ?_
                            refine g_iast g73135 ad52 rt52 (fun _ => rfl) (by omega) (by omega) (by omega) (by omega) (fun h73136 e73136 g73136 => ?_)
                            have k73136 := k73135.wr e73136 rfl
                            refine ev_iinc (w := 2) (L' := [(2, 42), (0, 1), (0, 0), (0, (100 * v72896 + 10 * v72940 + v73021 - 5328)), (0, (100 * w0 + w1)), (0, 2)]) rfl (by decide) rfl ?_
                            refine ev_goto f267_71 ?_
                            refine ev_iload rfl ?_
                            refine ev_iconst ?_
                            refine ev_icmpge f267_109 (fun c73137 => absurd c73137 (by omega)) (fun c73137 => ?_)
                            refine ev_aload_n rfl ?_
                            refine g_getp (r := 42) (c := 51) g73136 ad42 (by decide) (by decide) rf42_13 ft12_13 ?_
                            refine ev_iconst ?_
                            refine ev_iload rfl ?_
                            refine ev_imul (r := (400 * w0 + 4 * w1)) (by unfold w32; omega) ?_
                            refine ev_iload rfl ?_
                            refine ev_iadd (r := (400 * w0 + 4 * w1 + 2)) (by unfold w32; omega) ?_
                            refine ev_iconst ?_
                            refine ev_bastG (r := 51) (j := ((400 * w0 + 4 * w1 + 2)).toNat) (w := (-1)) (g73136.lt ad51) (g73136.tg ad51) (by omega) (by rw [g73136.ln ad51]; omega) (by unfold w8; omega) (fun h73138 e73138 => ?_)
                            have g73138 := g73136.s51 e73138 (by rw [(((jw_ne e73136 (Or.inl (by decide))).trans ((jw_ne e73135 (Or.inl (by decide))).trans ((jw_ne e73133 (Or.inl (by decide))).trans ((jw_ne e73132 (Or.inl (by decide))).trans ((jw_ne e73130 (Or.inl (by decide))).trans ((jw_ne e73129 (Or.inl (by decide))).trans ((jw_ne e73128 (Or.inl (by decide))).trans ((jw_ne e73126 (Or.inr (by decide))).trans ew0)))))))))]; omega) (by omega) (by omega)
                            have k73138 := k73136.wr e73138 rfl
                            refine ev_aload_n rfl ?_
                            refine g_getp (r := 42) (c := 52) g73138 ad42 (by decide) (by decide) rf42_14 ft12_14 ?_
                            refine ev_iconst ?_
                            refine ev_iload rfl ?_
                            refine ev_imul (r := (400 * w0 + 4 * w1)) (by unfold w32; omega) ?_
                            refine ev_iload rfl ?_
                            refine ev_iadd (r := (400 * w0 + 4 * w1 + 2)) (by unfold w32; omega) ?_
                            refine ev_iconst ?_
                            refine g_iast g73138 ad52 rt52 (fun _ => rfl) (by omega) (by omega) (by omega) (by omega) (fun h73139 e73139 g73139 => ?_)
                            have k73139 := k73138.wr e73139 rfl
                            refine ev_iinc (w := 3) (L' := [(2, 42), (0, 1), (0, 0), (0, (100 * v72896 + 10 * v72940 + v73021 - 5328)), (0, (100 * w0 + w1)), (0, 3)]) rfl (by decide) rfl ?_
                            refine ev_goto f267_71 ?_
                            refine ev_iload rfl ?_
                            refine ev_iconst ?_
                            refine ev_icmpge f267_109 (fun c73140 => absurd c73140 (by omega)) (fun c73140 => ?_)
                            refine ev_aload_n rfl ?_
                            refine g_getp (r := 42) (c := 51) g73139 ad42 (by decide) (by decide) rf42_13 ft12_13 ?_
                            refine ev_iconst ?_
                            refine ev_iload rfl ?_
                            refine ev_imul (r := (400 * w0 + 4 * w1)) (by unfold w32; omega) ?_
                            refine ev_iload rfl ?_
                            refine ev_iadd (r := (400 * w0 + 4 * w1 + 3)) (by unfold w32; omega) ?_
                            refine ev_iconst ?_
                            refine ev_bastG (r := 51) (j := ((400 * w0 + 4 * w1 + 3)).toNat) (w := (-1)) (g73139.lt ad51) (g73139.tg ad51) (by omega) (by rw [g73139.ln ad51]; omega) (by unfold w8; omega) (fun h73141 e73141 => ?_)
                            have g73141 := g73139.s51 e73141 (by rw [(((jw_ne e73139 (Or.inl (by decide))).trans ((jw_ne e73138 (Or.inl (by decide))).trans ((jw_ne e73136 (Or.inl (by decide))).trans ((jw_ne e73135 (Or.inl (by decide))).trans ((jw_ne e73133 (Or.inl (by decide))).trans ((jw_ne e73132 (Or.inl (by decide))).trans ((jw_ne e73130 (Or.inl (by decide))).trans ((jw_ne e73129 (Or.inl (by decide))).trans ((jw_ne e73128 (Or.inl (by decide))).trans ((jw_ne e73126 (Or.inr (by decide))).trans ew0)))))))))))]; omega) (by omega) (by omega)
                            have k73141 := k73139.wr e73141 rfl
                            refine ev_aload_n rfl ?_
                            refine g_getp (r := 42) (c := 52) g73141 ad42 (by decide) (by decide) rf42_14 ft12_14 ?_
                            refine ev_iconst ?_
                            refine ev_iload rfl ?_
                            refine ev_imul (r := (400 * w0 + 4 * w1)) (by unfold w32; omega) ?_
                            refine ev_iload rfl ?_
                            refine ev_iadd (r := (400 * w0 + 4 * w1 + 3)) (by unfold w32; omega) ?_
                            refine ev_iconst ?_
                            refine g_iast g73141 ad52 rt52 (fun _ => rfl) (by omega) (by omega) (by omega) (by omega) (fun h73142 e73142 g73142 => ?_)
                            have k73142 := k73141.wr e73142 rfl
                            refine ev_iinc (w := 4) (L' := [(2, 42), (0, 1), (0, 0), (0, (100 * v72896 + 10 * v72940 + v73021 - 5328)), (0, (100 * w0 + w1)), (0, 4)]) rfl (by decide) rfl ?_
                            refine ev_goto f267_71 ?_
                            refine ev_iload rfl ?_
                            refine ev_iconst ?_
                            refine ev_icmpge f267_109 (fun c73143 => ?_) (fun c73143 => absurd c73143 (by omega))
                            refine ev_iload rfl ?_
                            refine ev_ret rfl (by decide) (by decide) ?_
                            show jEv _ _ _ _ _ _ _ (_, [(2, 42), (0, a1), (0, 1), (0, (a1 + 3)), (0, 0), (0, (100 * v72896 + 10 * v72940 + v73021 - 5328)), (0, 3)], [(0, (100 * w0 + w1))], _, _, _)
                            refine ev_pop (by decide) ?_
                            refine ev_iload_n rfl ?_
                            exact ev_ret rfl (by decide) (by decide) ⟨⟨_, rfl, by omega, by omega, g73142, k73142⟩, fun r hr h0 => by cases hr; exact (Ad.step (r' := (a1 + 3)) (Ad.step (r' := (a1 + 2)) (Ad.step (r' := (a1 + 1)) (Ad.rf _ _ _) (by omega) k73142 (fun _ => rfl) (((jw_ne e73142 (Or.inl (by decide))).trans ((jw_ne e73141 (Or.inl (by decide))).trans ((jw_ne e73139 (Or.inl (by decide))).trans ((jw_ne e73138 (Or.inl (by decide))).trans ((jw_ne e73136 (Or.inl (by decide))).trans ((jw_ne e73135 (Or.inl (by decide))).trans ((jw_ne e73133 (Or.inl (by decide))).trans ((jw_ne e73132 (Or.inl (by decide))).trans ((jw_ne e73130 (Or.inl (by decide))).trans ((jw_ne e73129 (Or.inl (by decide))).trans ((jw_ne e73128 (Or.inl (by decide))).trans ((jw_ne e73126 (Or.inl (by decide))).trans ev72896))))))))))))) (by omega) (by omega) (by omega)) (by omega) k73142 (fun _ => rfl) (((jw_ne e73142 (Or.inl (by decide))).trans ((jw_ne e73141 (Or.inl (by decide))).trans ((jw_ne e73139 (Or.inl (by decide))).trans ((jw_ne e73138 (Or.inl (by decide))).trans ((jw_ne e73136 (Or.inl (by decide))).trans ((jw_ne e73135 (Or.inl (by decide))).trans ((jw_ne e73133 (Or.inl (by decide))).trans ((jw_ne e73132 (Or.inl (by decide))).trans ((jw_ne e73130 (Or.inl (by decide))).trans ((jw_ne e73129 (Or.inl (by decide))).trans ((jw_ne e73128 (Or.inl (by decide))).trans ((jw_ne e73126 (Or.inl (by decide))).trans ev72940))))))))))))) (by omega) (by omega) (by omega)) (by omega) k73142 (fun _ => rfl) (((jw_ne e73142 (Or.inl (by decide))).trans ((jw_ne e73141 (Or.inl (by decide))).trans ((jw_ne e73139 (Or.inl (by decide))).trans ((jw_ne e73138 (Or.inl (by decide))).trans ((jw_ne e73136 (Or.inl (by decide))).trans ((jw_ne e73135 (Or.inl (by decide))).trans ((jw_ne e73133 (Or.inl (by decide))).trans ((jw_ne e73132 (Or.inl (by decide))).trans ((jw_ne e73130 (Or.inl (by decide))).trans ((jw_ne e73129 (Or.inl (by decide))).trans ((jw_ne e73128 (Or.inl (by decide))).trans ((jw_ne e73126 (Or.inl (by decide))).trans ev73021))))))))))))) (by omega) (by omega) (by omega)), fun r hr => by cases hr; exact ⟨_, (((jw_ne e73142 (Or.inl (by decide))).trans ((jw_ne e73141 (Or.inl (by decide))).trans ((jw_ne e73139 (Or.inl (by decide))).trans ((jw_ne e73138 (Or.inl (by decide))).trans ((jw_ne e73136 (Or.inl (by decide))).trans ((jw_ne e73135 (Or.inl (by decide))).trans ((jw_ne e73133 (Or.inl (by decide))).trans ((jw_ne e73132 (Or.inl (by decide))).trans ((jw_ne e73130 (Or.inl (by decide))).trans ((jw_ne e73129 (Or.inl (by decide))).trans ((jw_ne e73128 (Or.inl (by decide))).trans (jw_eq e73126))))))))))))), by omega, by omega, (Fr.kp (Fr.w (i := (400 * w0 + 4 * w1 + 3)) (Fr.kp (Fr.w (i := (400 * w0 + 4 * w1 + 2)) (Fr.kp (Fr.w (i := (400 * w0 + 4 * w1 + 1)) (Fr.kp (Fr.w (i := (400 * w0 + 4 * w1)) (Fr.w (i := (100 * w0 + w1)) (Fr.w (i := (100 * w0 + w1)) (Fr.w (i := (100 * w0 + w1)) (Fr.kp (Fr.rf _ _) ((Kp.rf [(42, 0)] _).wr e73126 rfl) (fun _ => rfl) (fun _ => rfl) (fun _ => rfl) (fun _ => rfl)) e73128 (by omega) (by omega)) e73129 (by omega) (by omega)) e73130 (by omega) (by omega)) e73132 (by omega) (by omega)) ((Kp.rf [(52, 0)] _).wr e73133 rfl) (fun _ => rfl) (fun _ => rfl) (fun _ => rfl) (fun _ => rfl)) e73135 (by omega) (by omega)) ((Kp.rf [(52, 0)] _).wr e73136 rfl) (fun _ => rfl) (fun _ => rfl) (fun _ => rfl) (fun _ => rfl)) e73138 (by omega) (by omega)) ((Kp.rf [(52, 0)] _).wr e73139 rfl) (fun _ => rfl) (fun _ => rfl) (fun _ => rfl) (fun _ => rfl)) e73141 (by omega) (by omega)) ((Kp.rf [(52, 0)] _).wr e73142 rfl) (fun _ => rfl) (fun _ => rfl) (fun _ => rfl) (fun _ => rfl)), fun h0 => by omega, fun h0 hm => Tr.end (i := (100 * w0 + w1)) (by omega) (by omega) (by omega) (((jw_ne e73142 (Or.inl (by decide))).trans ((jw_ne e73141 (Or.inl (by decide))).trans ((jw_ne e73139 (Or.inl (by decide))).trans ((jw_ne e73138 (Or.inl (by decide))).trans ((jw_ne e73136 (Or.inl (by decide))).trans ((jw_ne e73135 (Or.inl (by decide))).trans ((jw_ne e73133 (Or.inl (by decide))).trans ((jw_ne e73132 (Or.inl (by decide))).trans ((jw_ne e73130 (Or.inl (by decide))).trans ((jw_ne e73129 (Or.inl (by decide))).trans (jw_eq e73128)))))))))))) (by omega) (by omega)⟩⟩
                          · refine ev_iconst ?_
                            refine ev_goto f242_15 ?_
                            refine ev_ret rfl (by decide) (by decide) ?_
                            show jEv _ _ _ _ _ _ _ (_, [(2, 42), (0, (a1 + 3))], [(0, 1)], _, _, _)
                            refine ev_ret rfl (by decide) (by decide) ?_
                            show jEv _ _ _ _ _ _ _ (_, [(2, 42), (0, a1), (0, 1), (0, (a1 + 3)), (0, 0), (0, (100 * v72896 + 10 * v72940 + v73021 - 5328)), (0, 3)], [(0, 1)], _, _, _)
                            refine ev_ifeq f269_100 (fun c73144 => absurd c73144 (by omega)) (fun c73144 => ?_)
                            refine ev_aload_n rfl ?_
                            refine ev_iload_n rfl ?_
                            refine ev_in (d := 1) (a := 0) (b := 0) (cd' := c266_0) (m := 2) (L0 := [(2, 42), (0, (a1 + 3))]) (jcall_v (A := [(0, (a1 + 3))]) (S' := []) (r := 42) rfl (g.lt ad42) (g.tg ad42) (Nat.le_of_ble_eq_true rfl)) (by decide) ml266 pp266 (Nat.le_of_ble_eq_true rfl) rfl (by decide) (by decide) ?_
                            refine ev_aload_n rfl ?_
                            refine ev_iload_n rfl ?_
                            refine g_putf (r := 42) g ad42 (by decide) ft12_20 (by decide) (fun e => absurd e nz12_20) rf42_20 (by decide) (by omega) (by omega) (fun h73145 e73145 g73145 => ?_)
                            have k73145 := k0.wr e73145 rfl
                            refine ev_iconst ?_
                            refine ev_ret rfl (by decide) (by decide) ?_
                            show jEv _ _ _ _ _ _ _ (_, [(2, 42), (0, a1), (0, 1), (0, (a1 + 3)), (0, 0), (0, (100 * v72896 + 10 * v72940 + v73021 - 5328)), (0, 3)], [(0, (-1))], _, _, _)
                            exact ev_ret rfl (by decide) (by decide) ⟨⟨_, rfl, by omega, by omega, g73145, k73145⟩, fun r hr h0 => by cases hr; exfalso; omega, fun r hr => by cases hr; exact ⟨_, (((jw_ne e73145 (Or.inr (by decide))).trans ew1)), by omega, by omega, (Fr.kp (Fr.rf _ _) ((Kp.rf [(42, 0)] _).wr e73145 rfl) (fun _ => rfl) (fun _ => rfl) (fun _ => rfl) (fun _ => rfl)), fun h0 => by exfalso; omega, fun h0 => by exfalso; omega⟩⟩
    · refine ev_iconst ?_
      refine ev_goto f269_17 ?_
      refine ev_istore (L' := [(2, 42), (0, a1), (0, 1), (0, a1), (0, 1), (9, 0), (9, 0)]) (Nat.le_of_ble_eq_true rfl) rfl ?_
      refine ev_iload rfl ?_
      refine ev_ifeq f269_27 (fun c73146 => absurd c73146 (by omega)) (fun c73146 => ?_)
      refine ev_iinc (w := (a1 + 1)) (L' := [(2, 42), (0, a1), (0, 1), (0, (a1 + 1)), (0, 1), (9, 0), (9, 0)]) rfl (by unfold w32; omega) rfl ?_
      refine ev_aload_n rfl ?_
      refine ev_iload_n rfl ?_
      refine ev_in (d := 1) (a := 0) (b := 0) (cd' := c265_0) (m := 2) (L0 := [(2, 42), (0, (a1 + 1))]) (jcall_v (A := [(0, (a1 + 1))]) (S' := []) (r := 42) rfl (g.lt ad42) (g.tg ad42) (Nat.le_of_ble_eq_true rfl)) (by decide) ml265 pp265 (Nat.le_of_ble_eq_true rfl) rfl (by decide) (by decide) ?_
      refine ev_aload_n rfl ?_
      refine ev_iload_n rfl ?_
      refine ev_in (d := 0) (a := 0) (b := 0) (cd' := c264_0) (m := 2) (L0 := [(2, 42), (0, (a1 + 1))]) (jcall_v (A := [(0, (a1 + 1))]) (S' := []) (r := 42) rfl (g.lt ad42) (g.tg ad42) (Nat.le_of_ble_eq_true rfl)) (by decide) ml264 pp264 (Nat.le_of_ble_eq_true rfl) rfl (by decide) (by decide) ?_
      refine ev_iload_n rfl ?_
      refine ev_aload_n rfl ?_
      refine g_getv (r := 42) (v := v72888) g ad42 (by decide) ft12_17 (ev72888) ?_
      refine ev_icmpge f264_17 (fun c73147 => ?_) (fun c73147 => ?_)
      · refine ev_iconst ?_
        refine ev_ret rfl (by decide) (by decide) ?_
        show jEv _ _ _ _ _ _ _ (_, [(2, 42), (0, (a1 + 1))], [(0, (-1))], _, _, _)
        refine ev_bipush ?_
        refine ev_bipush ?_
        refine ev_in (d := 0) (a := 0) (b := 0) (cd' := c242_0) (m := 3) (L0 := [(0, (-1)), (0, 48), (0, 57)]) (jcall_s (A := [(0, 57), (0, 48), (0, (-1))]) (S' := []) (by decide) rfl (Nat.le_of_ble_eq_true rfl)) (by decide) ml242 pp242 (Nat.le_of_ble_eq_true rfl) rfl (by decide) (by decide) ?_
        refine ev_iload_n rfl ?_
        refine ev_iload_n rfl ?_
        refine ev_icmplt f242_14 (fun c73148 => ?_) (fun c73148 => absurd c73148 (by omega))
        refine ev_iconst ?_
        refine ev_ret rfl (by decide) (by decide) ?_
        show jEv _ _ _ _ _ _ _ (_, [(2, 42), (0, (a1 + 1))], [(0, 0)], _, _, _)
        refine ev_ret rfl (by decide) (by decide) ?_
        show jEv _ _ _ _ _ _ _ (_, [(2, 42), (0, a1), (0, 1), (0, (a1 + 1)), (0, 1), (9, 0), (9, 0)], [(0, 0)], _, _, _)
        refine ev_ifne f269_41 (fun c73149 => absurd c73149 (by omega)) (fun c73149 => ?_)
        refine ev_aload_n rfl ?_
        refine ev_iload_n rfl ?_
        refine ev_in (d := 1) (a := 0) (b := 0) (cd' := c266_0) (m := 2) (L0 := [(2, 42), (0, (a1 + 1))]) (jcall_v (A := [(0, (a1 + 1))]) (S' := []) (r := 42) rfl (g.lt ad42) (g.tg ad42) (Nat.le_of_ble_eq_true rfl)) (by decide) ml266 pp266 (Nat.le_of_ble_eq_true rfl) rfl (by decide) (by decide) ?_
        refine ev_aload_n rfl ?_
        refine ev_iload_n rfl ?_
        refine g_putf (r := 42) g ad42 (by decide) ft12_20 (by decide) (fun e => absurd e nz12_20) rf42_20 (by decide) (by omega) (by omega) (fun h73150 e73150 g73150 => ?_)
        have k73150 := k0.wr e73150 rfl
        refine ev_iconst ?_
        refine ev_ret rfl (by decide) (by decide) ?_
        show jEv _ _ _ _ _ _ _ (_, [(2, 42), (0, a1), (0, 1), (0, (a1 + 1)), (0, 1), (9, 0), (9, 0)], [(0, (-1))], _, _, _)
        exact ev_ret rfl (by decide) (by decide) ⟨⟨_, rfl, by omega, by omega, g73150, k73150⟩, fun r hr h0 => by cases hr; exfalso; omega, fun r hr => by cases hr; exact ⟨_, (((jw_ne e73150 (Or.inr (by decide))).trans ew1)), by omega, by omega, (Fr.kp (Fr.rf _ _) ((Kp.rf [(42, 0)] _).wr e73150 rfl) (fun _ => rfl) (fun _ => rfl) (fun _ => rfl) (fun _ => rfl)), fun h0 => by exfalso; omega, fun h0 => by exfalso; omega⟩⟩
      · refine ev_aload_n rfl ?_
        refine g_getp (r := 42) (c := 54) g ad42 (by decide) (by decide) rf42_16 ft12_16 ?_
        refine ev_iload_n rfl ?_
        refine g_bald g ad54 rt54 (by omega) (by omega) (fun v73151 ev73151 lv73151 uv73151 => ?_)
        refine ev_goto f264_18 ?_
        refine ev_ret rfl (by decide) (by decide) ?_
        show jEv _ _ _ _ _ _ _ (_, [(2, 42), (0, (a1 + 1))], [(0, v73151)], _, _, _)
        refine ev_bipush ?_
        refine ev_bipush ?_
        refine ev_in (d := 0) (a := 0) (b := 0) (cd' := c242_0) (m := 3) (L0 := [(0, v73151), (0, 48), (0, 57)]) (jcall_s (A := [(0, 57), (0, 48), (0, v73151)]) (S' := []) (by decide) rfl (Nat.le_of_ble_eq_true rfl)) (by decide) ml242 pp242 (Nat.le_of_ble_eq_true rfl) rfl (by decide) (by decide) ?_
        refine ev_iload_n rfl ?_
        refine ev_iload_n rfl ?_
        refine ev_icmplt f242_14 (fun c73152 => ?_) (fun c73152 => ?_)
        · refine ev_iconst ?_
          refine ev_ret rfl (by decide) (by decide) ?_
          show jEv _ _ _ _ _ _ _ (_, [(2, 42), (0, (a1 + 1))], [(0, 0)], _, _, _)
          refine ev_ret rfl (by decide) (by decide) ?_
          show jEv _ _ _ _ _ _ _ (_, [(2, 42), (0, a1), (0, 1), (0, (a1 + 1)), (0, 1), (9, 0), (9, 0)], [(0, 0)], _, _, _)
          refine ev_ifne f269_41 (fun c73153 => absurd c73153 (by omega)) (fun c73153 => ?_)
          refine ev_aload_n rfl ?_
          refine ev_iload_n rfl ?_
          refine ev_in (d := 1) (a := 0) (b := 0) (cd' := c266_0) (m := 2) (L0 := [(2, 42), (0, (a1 + 1))]) (jcall_v (A := [(0, (a1 + 1))]) (S' := []) (r := 42) rfl (g.lt ad42) (g.tg ad42) (Nat.le_of_ble_eq_true rfl)) (by decide) ml266 pp266 (Nat.le_of_ble_eq_true rfl) rfl (by decide) (by decide) ?_
          refine ev_aload_n rfl ?_
          refine ev_iload_n rfl ?_
          refine g_putf (r := 42) g ad42 (by decide) ft12_20 (by decide) (fun e => absurd e nz12_20) rf42_20 (by decide) (by omega) (by omega) (fun h73154 e73154 g73154 => ?_)
          have k73154 := k0.wr e73154 rfl
          refine ev_iconst ?_
          refine ev_ret rfl (by decide) (by decide) ?_
          show jEv _ _ _ _ _ _ _ (_, [(2, 42), (0, a1), (0, 1), (0, (a1 + 1)), (0, 1), (9, 0), (9, 0)], [(0, (-1))], _, _, _)
          exact ev_ret rfl (by decide) (by decide) ⟨⟨_, rfl, by omega, by omega, g73154, k73154⟩, fun r hr h0 => by cases hr; exfalso; omega, fun r hr => by cases hr; exact ⟨_, (((jw_ne e73154 (Or.inr (by decide))).trans ew1)), by omega, by omega, (Fr.kp (Fr.rf _ _) ((Kp.rf [(42, 0)] _).wr e73154 rfl) (fun _ => rfl) (fun _ => rfl) (fun _ => rfl) (fun _ => rfl)), fun h0 => by exfalso; omega, fun h0 => by exfalso; omega⟩⟩
        · refine ev_iload_n rfl ?_
          refine ev_iload_n rfl ?_
          refine ev_icmpgt f242_14 (fun c73155 => ?_) (fun c73155 => ?_)
          · refine ev_iconst ?_
            refine ev_ret rfl (by decide) (by decide) ?_
            show jEv _ _ _ _ _ _ _ (_, [(2, 42), (0, (a1 + 1))], [(0, 0)], _, _, _)
            refine ev_ret rfl (by decide) (by decide) ?_
            show jEv _ _ _ _ _ _ _ (_, [(2, 42), (0, a1), (0, 1), (0, (a1 + 1)), (0, 1), (9, 0), (9, 0)], [(0, 0)], _, _, _)
            refine ev_ifne f269_41 (fun c73156 => absurd c73156 (by omega)) (fun c73156 => ?_)
            refine ev_aload_n rfl ?_
            refine ev_iload_n rfl ?_
            refine ev_in (d := 1) (a := 0) (b := 0) (cd' := c266_0) (m := 2) (L0 := [(2, 42), (0, (a1 + 1))]) (jcall_v (A := [(0, (a1 + 1))]) (S' := []) (r := 42) rfl (g.lt ad42) (g.tg ad42) (Nat.le_of_ble_eq_true rfl)) (by decide) ml266 pp266 (Nat.le_of_ble_eq_true rfl) rfl (by decide) (by decide) ?_
            refine ev_aload_n rfl ?_
            refine ev_iload_n rfl ?_
            refine g_putf (r := 42) g ad42 (by decide) ft12_20 (by decide) (fun e => absurd e nz12_20) rf42_20 (by decide) (by omega) (by omega) (fun h73157 e73157 g73157 => ?_)
            have k73157 := k0.wr e73157 rfl
            refine ev_iconst ?_
            refine ev_ret rfl (by decide) (by decide) ?_
            show jEv _ _ _ _ _ _ _ (_, [(2, 42), (0, a1), (0, 1), (0, (a1 + 1)), (0, 1), (9, 0), (9, 0)], [(0, (-1))], _, _, _)
            exact ev_ret rfl (by decide) (by decide) ⟨⟨_, rfl, by omega, by omega, g73157, k73157⟩, fun r hr h0 => by cases hr; exfalso; omega, fun r hr => by cases hr; exact ⟨_, (((jw_ne e73157 (Or.inr (by decide))).trans ew1)), by omega, by omega, (Fr.kp (Fr.rf _ _) ((Kp.rf [(42, 0)] _).wr e73157 rfl) (fun _ => rfl) (fun _ => rfl) (fun _ => rfl) (fun _ => rfl)), fun h0 => by exfalso; omega, fun h0 => by exfalso; omega⟩⟩
          · refine ev_iconst ?_
            refine ev_goto f242_15 ?_
            refine ev_ret rfl (by decide) (by decide) ?_
            show jEv _ _ _ _ _ _ _ (_, [(2, 42), (0, (a1 + 1))], [(0, 1)], _, _, _)
            refine ev_ret rfl (by decide) (by decide) ?_
            show jEv _ _ _ _ _ _ _ (_, [(2, 42), (0, a1), (0, 1), (0, (a1 + 1)), (0, 1), (9, 0), (9, 0)], [(0, 1)], _, _, _)
            refine ev_ifne f269_41 (fun c73158 => ?_) (fun c73158 => absurd c73158 (by omega))
            refine ev_iconst ?_
            refine ev_istore (L' := [(2, 42), (0, a1), (0, 1), (0, (a1 + 1)), (0, 1), (0, 0), (9, 0)]) (Nat.le_of_ble_eq_true rfl) rfl ?_
            refine ev_iconst ?_
            refine ev_istore (L' := [(2, 42), (0, a1), (0, 1), (0, (a1 + 1)), (0, 1), (0, 0), (0, 0)]) (Nat.le_of_ble_eq_true rfl) rfl ?_
            refine ev_iload rfl ?_
            refine ev_iconst ?_
            refine ev_icmpge f269_86 (fun c73159 => absurd c73159 (by omega)) (fun c73159 => ?_)
            refine ev_aload_n rfl ?_
            refine ev_iload_n rfl ?_
            refine ev_in (d := 1) (a := 0) (b := 0) (cd' := c265_0) (m := 2) (L0 := [(2, 42), (0, (a1 + 1))]) (jcall_v (A := [(0, (a1 + 1))]) (S' := []) (r := 42) rfl (g.lt ad42) (g.tg ad42) (Nat.le_of_ble_eq_true rfl)) (by decide) ml265 pp265 (Nat.le_of_ble_eq_true rfl) rfl (by decide) (by decide) ?_
            refine ev_aload_n rfl ?_
            refine ev_iload_n rfl ?_
            refine ev_in (d := 0) (a := 0) (b := 0) (cd' := c264_0) (m := 2) (L0 := [(2, 42), (0, (a1 + 1))]) (jcall_v (A := [(0, (a1 + 1))]) (S' := []) (r := 42) rfl (g.lt ad42) (g.tg ad42) (Nat.le_of_ble_eq_true rfl)) (by decide) ml264 pp264 (Nat.le_of_ble_eq_true rfl) rfl (by decide) (by decide) ?_
            refine ev_iload_n rfl ?_
            refine ev_aload_n rfl ?_
            refine g_getv (r := 42) (v := v72888) g ad42 (by decide) ft12_17 (ev72888) ?_
            refine ev_icmpge f264_17 (fun c73160 => absurd c73160 (by omega)) (fun c73160 => ?_)
            refine ev_aload_n rfl ?_
            refine g_getp (r := 42) (c := 54) g ad42 (by decide) (by decide) rf42_16 ft12_16 ?_
            refine ev_iload_n rfl ?_
            refine g_baldv (v := v73151) g ad54 (by omega) (by omega) (ev73151) ?_
            refine ev_goto f264_18 ?_
            refine ev_ret rfl (by decide) (by decide) ?_
            show jEv _ _ _ _ _ _ _ (_, [(2, 42), (0, (a1 + 1))], [(0, v73151)], _, _, _)
            refine ev_bipush ?_
            refine ev_bipush ?_
            refine ev_in (d := 0) (a := 0) (b := 0) (cd' := c242_0) (m := 3) (L0 := [(0, v73151), (0, 48), (0, 57)]) (jcall_s (A := [(0, 57), (0, 48), (0, v73151)]) (S' := []) (by decide) rfl (Nat.le_of_ble_eq_true rfl)) (by decide) ml242 pp242 (Nat.le_of_ble_eq_true rfl) rfl (by decide) (by decide) ?_
            refine ev_iload_n rfl ?_
            refine ev_iload_n rfl ?_
            refine ev_icmplt f242_14 (fun c73161 => absurd c73161 (by omega)) (fun c73161 => ?_)
            refine ev_iload_n rfl ?_
            refine ev_iload_n rfl ?_
            refine ev_icmpgt f242_14 (fun c73162 => absurd c73162 (by omega)) (fun c73162 => ?_)
            refine ev_iconst ?_
            refine ev_goto f242_15 ?_
            refine ev_ret rfl (by decide) (by decide) ?_
            show jEv _ _ _ _ _ _ _ (_, [(2, 42), (0, (a1 + 1))], [(0, 1)], _, _, _)
            refine ev_ret rfl (by decide) (by decide) ?_
            show jEv _ _ _ _ _ _ _ (_, [(2, 42), (0, a1), (0, 1), (0, (a1 + 1)), (0, 1), (0, 0), (0, 0)], [(0, 1)], _, _, _)
            refine ev_ifeq f269_86 (fun c73163 => absurd c73163 (by omega)) (fun c73163 => ?_)
            refine ev_bipush ?_
            refine ev_iload rfl ?_
            refine ev_imul (r := 0) (by decide) ?_
            refine ev_aload_n rfl ?_
            refine ev_iload_n rfl ?_
            refine ev_in (d := 1) (a := 0) (b := 0) (cd' := c264_0) (m := 2) (L0 := [(2, 42), (0, (a1 + 1))]) (jcall_v (A := [(0, (a1 + 1))]) (S' := [(0, 0)]) (r := 42) rfl (g.lt ad42) (g.tg ad42) (Nat.le_of_ble_eq_true rfl)) (by decide) ml264 pp264 (Nat.le_of_ble_eq_true rfl) rfl (by decide) (by decide) ?_
            refine ev_iload_n rfl ?_
            refine ev_aload_n rfl ?_
            refine g_getv (r := 42) (v := v72888) g ad42 (by decide) ft12_17 (ev72888) ?_
            refine ev_icmpge f264_17 (fun c73164 => absurd c73164 (by omega)) (fun c73164 => ?_)
            refine ev_aload_n rfl ?_
            refine g_getp (r := 42) (c := 54) g ad42 (by decide) (by decide) rf42_16 ft12_16 ?_
            refine ev_iload_n rfl ?_
            refine g_baldv (v := v73151) g ad54 (by omega) (by omega) (ev73151) ?_
            refine ev_goto f264_18 ?_
            refine ev_ret rfl (by decide) (by decide) ?_
            show jEv _ _ _ _ _ _ _ (_, [(2, 42), (0, a1), (0, 1), (0, (a1 + 1)), (0, 1), (0, 0), (0, 0)], [(0, v73151), (0, 0)], _, _, _)
            refine ev_iadd (r := v73151) (by unfold w32; omega) ?_
            refine ev_bipush ?_
            refine ev_isub (r := (v73151 - 48)) (by unfold w32; omega) ?_
            refine ev_istore (L' := [(2, 42), (0, a1), (0, 1), (0, (a1 + 1)), (0, 1), (0, (v73151 - 48)), (0, 0)]) (Nat.le_of_ble_eq_true rfl) rfl ?_
            refine ev_iinc (w := 1) (L' := [(2, 42), (0, a1), (0, 1), (0, (a1 + 1)), (0, 1), (0, (v73151 - 48)), (0, 1)]) rfl (by decide) rfl ?_
            refine ev_iinc (w := (a1 + 2)) (L' := [(2, 42), (0, a1), (0, 1), (0, (a1 + 2)), (0, 1), (0, (v73151 - 48)), (0, 1)]) rfl (by unfold w32; omega) rfl ?_
            refine ev_goto f269_47 ?_
            refine ev_iload rfl ?_
            refine ev_iconst ?_
            refine ev_icmpge f269_86 (fun c73165 => absurd c73165 (by omega)) (fun c73165 => ?_)
            refine ev_aload_n rfl ?_
            refine ev_iload_n rfl ?_
            refine ev_in (d := 1) (a := 0) (b := 0) (cd' := c265_0) (m := 2) (L0 := [(2, 42), (0, (a1 + 2))]) (jcall_v (A := [(0, (a1 + 2))]) (S' := []) (r := 42) rfl (g.lt ad42) (g.tg ad42) (Nat.le_of_ble_eq_true rfl)) (by decide) ml265 pp265 (Nat.le_of_ble_eq_true rfl) rfl (by decide) (by decide) ?_
            refine ev_aload_n rfl ?_
            refine ev_iload_n rfl ?_
            refine ev_in (d := 0) (a := 0) (b := 0) (cd' := c264_0) (m := 2) (L0 := [(2, 42), (0, (a1 + 2))]) (jcall_v (A := [(0, (a1 + 2))]) (S' := []) (r := 42) rfl (g.lt ad42) (g.tg ad42) (Nat.le_of_ble_eq_true rfl)) (by decide) ml264 pp264 (Nat.le_of_ble_eq_true rfl) rfl (by decide) (by decide) ?_
            refine ev_iload_n rfl ?_
            refine ev_aload_n rfl ?_
            refine g_getv (r := 42) (v := v72888) g ad42 (by decide) ft12_17 (ev72888) ?_
            refine ev_icmpge f264_17 (fun c73166 => ?_) (fun c73166 => ?_)
            · refine ev_iconst ?_
              refine ev_ret rfl (by decide) (by decide) ?_
              show jEv _ _ _ _ _ _ _ (_, [(2, 42), (0, (a1 + 2))], [(0, (-1))], _, _, _)
              refine ev_bipush ?_
              refine ev_bipush ?_
              refine ev_in (d := 0) (a := 0) (b := 0) (cd' := c242_0) (m := 3) (L0 := [(0, (-1)), (0, 48), (0, 57)]) (jcall_s (A := [(0, 57), (0, 48), (0, (-1))]) (S' := []) (by decide) rfl (Nat.le_of_ble_eq_true rfl)) (by decide) ml242 pp242 (Nat.le_of_ble_eq_true rfl) rfl (by decide) (by decide) ?_
              refine ev_iload_n rfl ?_
              refine ev_iload_n rfl ?_
              refine ev_icmplt f242_14 (fun c73167 => ?_) (fun c73167 => absurd c73167 (by omega))
              refine ev_iconst ?_
              refine ev_ret rfl (by decide) (by decide) ?_
              show jEv _ _ _ _ _ _ _ (_, [(2, 42), (0, (a1 + 2))], [(0, 0)], _, _, _)
              refine ev_ret rfl (by decide) (by decide) ?_
              show jEv _ _ _ _ _ _ _ (_, [(2, 42), (0, a1), (0, 1), (0, (a1 + 2)), (0, 1), (0, (v73151 - 48)), (0, 1)], [(0, 0)], _, _, _)
              refine ev_ifeq f269_86 (fun c73168 => ?_) (fun c73168 => absurd c73168 (by omega))
              refine ev_aload_n rfl ?_
              refine ev_iload_n rfl ?_
              refine ev_in (d := 1) (a := 0) (b := 0) (cd' := c265_0) (m := 2) (L0 := [(2, 42), (0, (a1 + 2))]) (jcall_v (A := [(0, (a1 + 2))]) (S' := []) (r := 42) rfl (g.lt ad42) (g.tg ad42) (Nat.le_of_ble_eq_true rfl)) (by decide) ml265 pp265 (Nat.le_of_ble_eq_true rfl) rfl (by decide) (by decide) ?_
              refine ev_aload_n rfl ?_
              refine ev_iload_n rfl ?_
              refine ev_in (d := 0) (a := 0) (b := 0) (cd' := c264_0) (m := 2) (L0 := [(2, 42), (0, (a1 + 2))]) (jcall_v (A := [(0, (a1 + 2))]) (S' := []) (r := 42) rfl (g.lt ad42) (g.tg ad42) (Nat.le_of_ble_eq_true rfl)) (by decide) ml264 pp264 (Nat.le_of_ble_eq_true rfl) rfl (by decide) (by decide) ?_
              refine ev_iload_n rfl ?_
              refine ev_aload_n rfl ?_
              refine g_getv (r := 42) (v := v72888) g ad42 (by decide) ft12_17 (ev72888) ?_
              refine ev_icmpge f264_17 (fun c73169 => ?_) (fun c73169 => absurd c73169 (by omega))
              refine ev_iconst ?_
              refine ev_ret rfl (by decide) (by decide) ?_
              show jEv _ _ _ _ _ _ _ (_, [(2, 42), (0, (a1 + 2))], [(0, (-1))], _, _, _)
              refine ev_bipush ?_
              refine ev_bipush ?_
              refine ev_in (d := 0) (a := 0) (b := 0) (cd' := c242_0) (m := 3) (L0 := [(0, (-1)), (0, 48), (0, 57)]) (jcall_s (A := [(0, 57), (0, 48), (0, (-1))]) (S' := []) (by decide) rfl (Nat.le_of_ble_eq_true rfl)) (by decide) ml242 pp242 (Nat.le_of_ble_eq_true rfl) rfl (by decide) (by decide) ?_
              refine ev_iload_n rfl ?_
              refine ev_iload_n rfl ?_
              refine ev_icmplt f242_14 (fun c73170 => ?_) (fun c73170 => absurd c73170 (by omega))
              refine ev_iconst ?_
              refine ev_ret rfl (by decide) (by decide) ?_
              show jEv _ _ _ _ _ _ _ (_, [(2, 42), (0, (a1 + 2))], [(0, 0)], _, _, _)
              refine ev_ret rfl (by decide) (by decide) ?_
              show jEv _ _ _ _ _ _ _ (_, [(2, 42), (0, a1), (0, 1), (0, (a1 + 2)), (0, 1), (0, (v73151 - 48)), (0, 1)], [(0, 0)], _, _, _)
              refine ev_ifeq f269_100 (fun c73171 => ?_) (fun c73171 => absurd c73171 (by omega))
              refine ev_aload_n rfl ?_
              refine ev_iload_n rfl ?_
              refine ev_iconst ?_
              refine ev_iload rfl ?_
              refine ev_ifeq f269_114 (fun c73172 => absurd c73172 (by omega)) (fun c73172 => ?_)
              refine ev_iload rfl ?_
              refine ev_ineg (r := ((-v73151) + 48)) (by unfold w32; omega) ?_
              refine ev_goto f269_116 ?_
              refine ev_in (d := 1) (a := 0) (b := 0) (cd' := c267_0) (m := 6) (L0 := [(2, 42), (0, 1), (0, 0), (0, ((-v73151) + 48)), (9, 0), (9, 0)]) (jcall_v (A := [(0, ((-v73151) + 48)), (0, 0), (0, 1)]) (S' := []) (r := 42) rfl (g.lt ad42) (g.tg ad42) (Nat.le_of_ble_eq_true rfl)) (by decide) ml267 pp267 (Nat.le_of_ble_eq_true rfl) rfl (by decide) (by decide) ?_
              refine ev_iload_n rfl ?_
              refine ev_ifne f267_6 (fun c73173 => ?_) (fun c73173 => absurd c73173 (by omega))
              refine ev_aload_n rfl ?_
              refine ev_dup (by decide) ?_
              refine g_getv (r := 42) (v := w1) g ad42 (by decide) ft12_21 (ew1) ?_
              refine ev_iconst ?_
              refine ev_iadd (r := (w1 + 1)) (by unfold w32; omega) ?_
              refine g_putf (r := 42) g ad42 (by decide) ft12_21 (by decide) (fun e => absurd e nz12_21) rf42_21 (by decide) (by omega) (by omega) (fun h73174 e73174 g73174 => ?_)
              have k73174 := k0.wr e73174 rfl
              refine ev_aload_n rfl ?_
              refine g_getv (r := 42) (v := (w1 + 1)) g73174 ad42 (by decide) ft12_21 ((jw_eq e73174)) ?_
              refine ev_bipush ?_
              refine ev_icmple f267_27 (fun c73175 => ?_) (fun c73175 => absurd c73175 (by omega))
              refine ev_bipush ?_
              refine ev_aload_n rfl ?_
              refine g_getv (r := 42) (v := w0) g73174 ad42 (by decide) ft12_9 (((jw_ne e73174 (Or.inr (by decide))).trans ew0)) ?_
              refine ev_imul (r := (100 * w0)) (by unfold w32; omega) ?_
              refine ev_aload_n rfl ?_
              refine g_getv (r := 42) (v := (w1 + 1)) g73174 ad42 (by decide) ft12_21 ((jw_eq e73174)) ?_
              refine ev_iadd (r := (100 * w0 + w1 + 1)) (by unfold w32; omega) ?_
              refine ev_iconst ?_
              refine ev_isub (r := (100 * w0 + w1)) (by unfold w32; omega) ?_
              refine ev_istore (L' := [(2, 42), (0, 1), (0, 0), (0, ((-v73151) + 48)), (0, (100 * w0 + w1)), (9, 0)]) (Nat.le_of_ble_eq_true rfl) rfl ?_
              refine ev_aload_n rfl ?_
              refine g_getp (r := 42) (c := 49) g73174 ad42 (by decide) (by decide) rf42_11 ft12_11 ?_
              refine ev_iload rfl ?_
              refine ev_iload_n rfl ?_
              refine ev_i2b (r := 0) (by unfold w8; omega) ?_
              refine ev_bastG (r := 49) (j := ((100 * w0 + w1)).toNat) (w := 0) (g73174.lt ad49) (g73174.tg ad49) (by omega) (by rw [g73174.ln ad49]; omega) (by unfold w8; omega) (fun h73176 e73176 => ?_)
              have g73176 := g73174.s49 e73176 (by rw [(((jw_ne e73174 (Or.inr (by decide))).trans ew0))]; omega) (by omega) (by omega)
              have k73176 := k73174.wr e73176 rfl
              refine ev_aload_n rfl ?_
              refine g_getp (r := 42) (c := 50) g73176 ad42 (by decide) (by decide) rf42_12 ft12_12 ?_
              refine ev_iload rfl ?_
              refine ev_iload_n rfl ?_
              refine ev_iastG (r := 50) (j := ((100 * w0 + w1)).toNat) (g73176.lt ad50) (g73176.tg ad50) (by omega) (by rw [g73176.ln ad50]; omega) (fun h73177 e73177 => ?_)
              have g73177 := g73176.s50 e73177 (Or.inl (by rw [(((jw_ne e73176 (Or.inl (by decide))).trans ((jw_ne e73174 (Or.inr (by decide))).trans ew0)))]; omega)) (by omega) (by omega)
              have k73177 := k73176.wr e73177 rfl
              refine ev_aload_n rfl ?_
              refine g_getp (r := 42) (c := 53) g73177 ad42 (by decide) (by decide) rf42_15 ft12_15 ?_
              refine ev_iload rfl ?_
              refine ev_iconst ?_
              refine ev_bastG (r := 53) (j := ((100 * w0 + w1)).toNat) (w := 0) (g73177.lt ad53) (g73177.tg ad53) (by omega) (by rw [g73177.ln ad53]; omega) (by unfold w8; omega) (fun h73178 e73178 => ?_)
              have g73178 := g73177.s53 e73178 (Or.inl (by rw [(((jw_ne e73177 (Or.inl (by decide))).trans ((jw_ne e73176 (Or.inl (by decide))).trans ((jw_ne e73174 (Or.inr (by decide))).trans ew0))))]; omega)) (by omega) (by omega)
              have k73178 := k73177.wr e73178 rfl
              refine ev_iconst ?_
              refine ev_istore (L' := [(2, 42), (0, 1), (0, 0), (0, ((-v73151) + 48)), (0, (100 * w0 + w1)), (0, 0)]) (Nat.le_of_ble_eq_true rfl) rfl ?_
              refine ev_iload rfl ?_
              refine ev_iconst ?_
              refine ev_icmpge f267_109 (fun c73179 => absurd c73179 (by omega)) (fun c73179 => ?_)
              refine ev_aload_n rfl ?_
              refine g_getp (r := 42) (c := 51) g73178 ad42 (by decide) (by decide) rf42_13 ft12_13 ?_
              refine ev_iconst ?_
              refine ev_iload rfl ?_
              refine ev_imul (r := (400 * w0 + 4 * w1)) (by unfold w32; omega) ?_
              refine ev_iload rfl ?_
              refine ev_iadd (r := (400 * w0 + 4 * w1)) (by unfold w32; omega) ?_
              refine ev_iconst ?_
              refine ev_bastG (r := 51) (j := ((400 * w0 + 4 * w1)).toNat) (w := (-1)) (g73178.lt ad51) (g73178.tg ad51) (by omega) (by rw [g73178.ln ad51]; omega) (by unfold w8; omega) (fun h73180 e73180 => ?_)
              have g73180 := g73178.s51 e73180 (by rw [(((jw_ne e73178 (Or.inl (by decide))).trans ((jw_ne e73177 (Or.inl (by decide))).trans ((jw_ne e73176 (Or.inl (by decide))).trans ((jw_ne e73174 (Or.inr (by decide))).trans ew0)))))]; omega) (by omega) (by omega)
              have k73180 := k73178.wr e73180 rfl
              refine ev_aload_n rfl ?_
              refine g_getp (r := 42) (c := 52) g73180 ad42 (by decide) (by decide) rf42_14 ft12_14 ?_
              refine ev_iconst ?_
              refine ev_iload rfl ?_
              refine ev_imul (r := (400 * w0 + 4 * w1)) (by unfold w32; omega) ?_
              refine ev_iload rfl ?_
              refine ev_iadd (r := (400 * w0 + 4 * w1)) (by unfold w32; omega) ?_
              refine ev_iconst ?_
              refine g_iast g73180 ad52 rt52 (fun _ => rfl) (by omega) (by omega) (by omega) (by omega) (fun h73181 e73181 g73181 => ?_)
              have k73181 := k73180.wr e73181 rfl
              refine ev_iinc (w := 1) (L' := [(2, 42), (0, 1), (0, 0), (0, ((-v73151) + 48)), (0, (100 * w0 + w1)), (0, 1)]) rfl (by decide) rfl ?_
              refine ev_goto f267_71 ?_
              refine ev_iload rfl ?_
              refine ev_iconst ?_
              refine ev_icmpge f267_109 (fun c73182 => absurd c73182 (by omega)) (fun c73182 => ?_)
              refine ev_aload_n rfl ?_
              refine g_getp (r := 42) (c := 51) g73181 ad42 (by decide) (by decide) rf42_13 ft12_13 ?_
              refine ev_iconst ?_
              refine ev_iload rfl ?_
              refine ev_imul (r := (400 * w0 + 4 * w1)) (by unfold w32; omega) ?_
              refine ev_iload rfl ?_
              refine ev_iadd (r := (400 * w0 + 4 * w1 + 1)) (by unfold w32; omega) ?_
              refine ev_iconst ?_
              refine ev_bastG (r := 51) (j := ((400 * w0 + 4 * w1 + 1)).toNat) (w := (-1)) (g73181.lt ad51) (g73181.tg ad51) (by omega) (by rw [g73181.ln ad51]; omega) (by unfold w8; omega) (fun h73183 e73183 => ?_)
              have g73183 := g73181.s51 e73183 (by rw [(((jw_ne e73181 (Or.inl (by decide))).trans ((jw_ne e73180 (Or.inl (by decide))).trans ((jw_ne e73178 (Or.inl (by decide))).trans ((jw_ne e73177 (Or.inl (by decide))).trans ((jw_ne e73176 (Or.inl (by decide))).trans ((jw_ne e73174 (Or.inr (by decide))).trans ew0)))))))]; omega) (by omega) (by omega)
              have k73183 := k73181.wr e73183 rfl
              refine ev_aload_n rfl ?_
              refine g_getp (r := 42) (c := 52) g73183 ad42 (by decide) (by decide) rf42_14 ft12_14 ?_
              refine ev_iconst ?_
              refine ev_iload rfl ?_
              refine ev_imul (r := (400 * w0 + 4 * w1)) (by unfold w32; omega) ?_
              refine ev_iload rfl ?_
              refine ev_iadd (r := (400 * w0 + 4 * w1 + 1)) (by unfold w32; omega) ?_
              refine ev_iconst ?_
              refine g_iast g73183 ad52 rt52 (fun _ => rfl) (by omega) (by omega) (by omega) (by omega) (fun h73184 e73184 g73184 => ?_)
              have k73184 := k73183.wr e73184 rfl
              refine ev_iinc (w := 2) (L' := [(2, 42), (0, 1), (0, 0), (0, ((-v73151) + 48)), (0, (100 * w0 + w1)), (0, 2)]) rfl (by decide) rfl ?_
              refine ev_goto f267_71 ?_
              refine ev_iload rfl ?_
              refine ev_iconst ?_
              refine ev_icmpge f267_109 (fun c73185 => absurd c73185 (by omega)) (fun c73185 => ?_)
              refine ev_aload_n rfl ?_
              refine g_getp (r := 42) (c := 51) g73184 ad42 (by decide) (by decide) rf42_13 ft12_13 ?_
              refine ev_iconst ?_
              refine ev_iload rfl ?_
              refine ev_imul (r := (400 * w0 + 4 * w1)) (by unfold w32; omega) ?_
              refine ev_iload rfl ?_
              refine ev_iadd (r := (400 * w0 + 4 * w1 + 2)) (by unfold w32; omega) ?_
              refine ev_iconst ?_
              refine ev_bastG (r := 51) (j := ((400 * w0 + 4 * w1 + 2)).toNat) (w := (-1)) (g73184.lt ad51) (g73184.tg ad51) (by omega) (by rw [g73184.ln ad51]; omega) (by unfold w8; omega) (fun h73186 e73186 => ?_)
              have g73186 := g73184.s51 e73186 (by rw [(((jw_ne e73184 (Or.inl (by decide))).trans ((jw_ne e73183 (Or.inl (by decide))).trans ((jw_ne e73181 (Or.inl (by decide))).trans ((jw_ne e73180 (Or.inl (by decide))).trans ((jw_ne e73178 (Or.inl (by decide))).trans ((jw_ne e73177 (Or.inl (by decide))).trans ((jw_ne e73176 (Or.inl (by decide))).trans ((jw_ne e73174 (Or.inr (by decide))).trans ew0)))))))))]; omega) (by omega) (by omega)
              have k73186 := k73184.wr e73186 rfl
              refine ev_aload_n rfl ?_
              refine g_getp (r := 42) (c := 52) g73186 ad42 (by decide) (by decide) rf42_14 ft12_14 ?_
              refine ev_iconst ?_
              refine ev_iload rfl ?_
              refine ev_imul (r := (400 * w0 + 4 * w1)) (by unfold w32; omega) ?_
              refine ev_iload rfl ?_
              refine ev_iadd (r := (400 * w0 + 4 * w1 + 2)) (by unfold w32; omega) ?_
              refine ev_iconst ?_
              refine g_iast g73186 ad52 rt52 (fun _ => rfl) (by omega) (by omega) (by omega) (by omega) (fun h73187 e73187 g73187 => ?_)
              have k73187 := k73186.wr e73187 rfl
              refine ev_iinc (w := 3) (L' := [(2, 42), (0, 1), (0, 0), (0, ((-v73151) + 48)), (0, (100 * w0 + w1)), (0, 3)]) rfl (by decide) rfl ?_
              refine ev_goto f267_71 ?_
              refine ev_iload rfl ?_
              refine ev_iconst ?_
              refine ev_icmpge f267_109 (fun c73188 => absurd c73188 (by omega)) (fun c73188 => ?_)
              refine ev_aload_n rfl ?_
              refine g_getp (r := 42) (c := 51) g73187 ad42 (by decide) (by decide) rf42_13 ft12_13 ?_
              refine ev_iconst ?_
              refine ev_iload rfl ?_
              refine ev_imul (r := (400 * w0 + 4 * w1)) (by unfold w32; omega) ?_
              refine ev_iload rfl ?_
              refine ev_iadd (r := (400 * w0 + 4 * w1 + 3)) (by unfold w32; omega) ?_
              refine ev_iconst ?_
              refine ev_bastG (r := 51) (j := ((400 * w0 + 4 * w1 + 3)).toNat) (w := (-1)) (g73187.lt ad51) (g73187.tg ad51) (by omega) (by rw [g73187.ln ad51]; omega) (by unfold w8; omega) (fun h73189 e73189 => ?_)
              have g73189 := g73187.s51 e73189 (by rw [(((jw_ne e73187 (Or.inl (by decide))).trans ((jw_ne e73186 (Or.inl (by decide))).trans ((jw_ne e73184 (Or.inl (by decide))).trans ((jw_ne e73183 (Or.inl (by decide))).trans ((jw_ne e73181 (Or.inl (by decide))).trans ((jw_ne e73180 (Or.inl (by decide))).trans ((jw_ne e73178 (Or.inl (by decide))).trans ((jw_ne e73177 (Or.inl (by decide))).trans ((jw_ne e73176 (Or.inl (by decide))).trans ((jw_ne e73174 (Or.inr (by decide))).trans ew0)))))))))))]; omega) (by omega) (by omega)
              have k73189 := k73187.wr e73189 rfl
              refine ev_aload_n rfl ?_
              refine g_getp (r := 42) (c := 52) g73189 ad42 (by decide) (by decide) rf42_14 ft12_14 ?_
              refine ev_iconst ?_
              refine ev_iload rfl ?_
              refine ev_imul (r := (400 * w0 + 4 * w1)) (by unfold w32; omega) ?_
              refine ev_iload rfl ?_
              refine ev_iadd (r := (400 * w0 + 4 * w1 + 3)) (by unfold w32; omega) ?_
              refine ev_iconst ?_
              refine g_iast g73189 ad52 rt52 (fun _ => rfl) (by omega) (by omega) (by omega) (by omega) (fun h73190 e73190 g73190 => ?_)
              have k73190 := k73189.wr e73190 rfl
              refine ev_iinc (w := 4) (L' := [(2, 42), (0, 1), (0, 0), (0, ((-v73151) + 48)), (0, (100 * w0 + w1)), (0, 4)]) rfl (by decide) rfl ?_
              refine ev_goto f267_71 ?_
              refine ev_iload rfl ?_
              refine ev_iconst ?_
              refine ev_icmpge f267_109 (fun c73191 => ?_) (fun c73191 => absurd c73191 (by omega))
              refine ev_iload rfl ?_
              refine ev_ret rfl (by decide) (by decide) ?_
              show jEv _ _ _ _ _ _ _ (_, [(2, 42), (0, a1), (0, 1), (0, (a1 + 2)), (0, 1), (0, (v73151 - 48)), (0, 1)], [(0, (100 * w0 + w1))], _, _, _)
              refine ev_pop (by decide) ?_
              refine ev_iload_n rfl ?_
              exact ev_ret rfl (by decide) (by decide) ⟨⟨_, rfl, by omega, by omega, g73190, k73190⟩, fun r hr h0 => by cases hr; exact (Ad.step (r' := (a1 + 2)) (Ad.step (r' := (a1 + 1)) (Ad.rf _ _ _) (by omega) k73190 (fun _ => rfl) (((jw_ne e73190 (Or.inl (by decide))).trans ((jw_ne e73189 (Or.inl (by decide))).trans ((jw_ne e73187 (Or.inl (by decide))).trans ((jw_ne e73186 (Or.inl (by decide))).trans ((jw_ne e73184 (Or.inl (by decide))).trans ((jw_ne e73183 (Or.inl (by decide))).trans ((jw_ne e73181 (Or.inl (by decide))).trans ((jw_ne e73180 (Or.inl (by decide))).trans ((jw_ne e73178 (Or.inl (by decide))).trans ((jw_ne e73177 (Or.inl (by decide))).trans ((jw_ne e73176 (Or.inl (by decide))).trans ((jw_ne e73174 (Or.inl (by decide))).trans ev72896))))))))))))) (by omega) (by omega) (by omega)) (by omega) k73190 (fun _ => rfl) (((jw_ne e73190 (Or.inl (by decide))).trans ((jw_ne e73189 (Or.inl (by decide))).trans ((jw_ne e73187 (Or.inl (by decide))).trans ((jw_ne e73186 (Or.inl (by decide))).trans ((jw_ne e73184 (Or.inl (by decide))).trans ((jw_ne e73183 (Or.inl (by decide))).trans ((jw_ne e73181 (Or.inl (by decide))).trans ((jw_ne e73180 (Or.inl (by decide))).trans ((jw_ne e73178 (Or.inl (by decide))).trans ((jw_ne e73177 (Or.inl (by decide))).trans ((jw_ne e73176 (Or.inl (by decide))).trans ((jw_ne e73174 (Or.inl (by decide))).trans ev73151))))))))))))) (by omega) (by omega) (by omega)), fun r hr => by cases hr; exact ⟨_, (((jw_ne e73190 (Or.inl (by decide))).trans ((jw_ne e73189 (Or.inl (by decide))).trans ((jw_ne e73187 (Or.inl (by decide))).trans ((jw_ne e73186 (Or.inl (by decide))).trans ((jw_ne e73184 (Or.inl (by decide))).trans ((jw_ne e73183 (Or.inl (by decide))).trans ((jw_ne e73181 (Or.inl (by decide))).trans ((jw_ne e73180 (Or.inl (by decide))).trans ((jw_ne e73178 (Or.inl (by decide))).trans ((jw_ne e73177 (Or.inl (by decide))).trans ((jw_ne e73176 (Or.inl (by decide))).trans (jw_eq e73174))))))))))))), by omega, by omega, (Fr.kp (Fr.w (i := (400 * w0 + 4 * w1 + 3)) (Fr.kp (Fr.w (i := (400 * w0 + 4 * w1 + 2)) (Fr.kp (Fr.w (i := (400 * w0 + 4 * w1 + 1)) (Fr.kp (Fr.w (i := (400 * w0 + 4 * w1)) (Fr.w (i := (100 * w0 + w1)) (Fr.w (i := (100 * w0 + w1)) (Fr.w (i := (100 * w0 + w1)) (Fr.kp (Fr.rf _ _) ((Kp.rf [(42, 0)] _).wr e73174 rfl) (fun _ => rfl) (fun _ => rfl) (fun _ => rfl) (fun _ => rfl)) e73176 (by omega) (by omega)) e73177 (by omega) (by omega)) e73178 (by omega) (by omega)) e73180 (by omega) (by omega)) ((Kp.rf [(52, 0)] _).wr e73181 rfl) (fun _ => rfl) (fun _ => rfl) (fun _ => rfl) (fun _ => rfl)) e73183 (by omega) (by omega)) ((Kp.rf [(52, 0)] _).wr e73184 rfl) (fun _ => rfl) (fun _ => rfl) (fun _ => rfl) (fun _ => rfl)) e73186 (by omega) (by omega)) ((Kp.rf [(52, 0)] _).wr e73187 rfl) (fun _ => rfl) (fun _ => rfl) (fun _ => rfl) (fun _ => rfl)) e73189 (by omega) (by omega)) ((Kp.rf [(52, 0)] _).wr e73190 rfl) (fun _ => rfl) (fun _ => rfl) (fun _ => rfl) (fun _ => rfl)), fun h0 => by omega, fun h0 hm => Tr.end (i := (100 * w0 + w1)) (by omega) (by omega) (by omega) (((jw_ne e73190 (Or.inl (by decide))).trans ((jw_ne e73189 (Or.inl (by decide))).trans ((jw_ne e73187 (Or.inl (by decide))).trans ((jw_ne e73186 (Or.inl (by decide))).trans ((jw_ne e73184 (Or.inl (by decide))).trans ((jw_ne e73183 (Or.inl (by decide))).trans ((jw_ne e73181 (Or.inl (by decide))).trans ((jw_ne e73180 (Or.inl (by decide))).trans ((jw_ne e73178 (Or.inl (by decide))).trans ((jw_ne e73177 (Or.inl (by decide))).trans (jw_eq e73176)))))))))))) (by omega) (by omega)⟩⟩
            · refine ev_aload_n rfl ?_
              refine g_getp (r := 42) (c := 54) g ad42 (by decide) (by decide) rf42_16 ft12_16 ?_
              refine ev_iload_n rfl ?_
              refine g_bald g ad54 rt54 (by omega) (by omega) (fun v73192 ev73192 lv73192 uv73192 => ?_)
              refine ev_goto f264_18 ?_
              refine ev_ret rfl (by decide) (by decide) ?_
              show jEv _ _ _ _ _ _ _ (_, [(2, 42), (0, (a1 + 2))], [(0, v73192)], _, _, _)
              refine ev_bipush ?_
              refine ev_bipush ?_
              refine ev_in (d := 0) (a := 0) (b := 0) (cd' := c242_0) (m := 3) (L0 := [(0, v73192), (0, 48), (0, 57)]) (jcall_s (A := [(0, 57), (0, 48), (0, v73192)]) (S' := []) (by decide) rfl (Nat.le_of_ble_eq_true rfl)) (by decide) ml242 pp242 (Nat.le_of_ble_eq_true rfl) rfl (by decide) (by decide) ?_
              refine ev_iload_n rfl ?_
              refine ev_iload_n rfl ?_
              refine ev_icmplt f242_14 (fun c73193 => ?_) (fun c73193 => ?_)
              · refine ev_iconst ?_
                refine ev_ret rfl (by decide) (by decide) ?_
                show jEv _ _ _ _ _ _ _ (_, [(2, 42), (0, (a1 + 2))], [(0, 0)], _, _, _)
                refine ev_ret rfl (by decide) (by decide) ?_
                show jEv _ _ _ _ _ _ _ (_, [(2, 42), (0, a1), (0, 1), (0, (a1 + 2)), (0, 1), (0, (v73151 - 48)), (0, 1)], [(0, 0)], _, _, _)
                refine ev_ifeq f269_86 (fun c73194 => ?_) (fun c73194 => absurd c73194 (by omega))
                refine ev_aload_n rfl ?_
                refine ev_iload_n rfl ?_
                refine ev_in (d := 1) (a := 0) (b := 0) (cd' := c265_0) (m := 2) (L0 := [(2, 42), (0, (a1 + 2))]) (jcall_v (A := [(0, (a1 + 2))]) (S' := []) (r := 42) rfl (g.lt ad42) (g.tg ad42) (Nat.le_of_ble_eq_true rfl)) (by decide) ml265 pp265 (Nat.le_of_ble_eq_true rfl) rfl (by decide) (by decide) ?_
                refine ev_aload_n rfl ?_
                refine ev_iload_n rfl ?_
                refine ev_in (d := 0) (a := 0) (b := 0) (cd' := c264_0) (m := 2) (L0 := [(2, 42), (0, (a1 + 2))]) (jcall_v (A := [(0, (a1 + 2))]) (S' := []) (r := 42) rfl (g.lt ad42) (g.tg ad42) (Nat.le_of_ble_eq_true rfl)) (by decide) ml264 pp264 (Nat.le_of_ble_eq_true rfl) rfl (by decide) (by decide) ?_
                refine ev_iload_n rfl ?_
                refine ev_aload_n rfl ?_
                refine g_getv (r := 42) (v := v72888) g ad42 (by decide) ft12_17 (ev72888) ?_
                refine ev_icmpge f264_17 (fun c73195 => absurd c73195 (by omega)) (fun c73195 => ?_)
                refine ev_aload_n rfl ?_
                refine g_getp (r := 42) (c := 54) g ad42 (by decide) (by decide) rf42_16 ft12_16 ?_
                refine ev_iload_n rfl ?_
                refine g_baldv (v := v73192) g ad54 (by omega) (by omega) (ev73192) ?_
                refine ev_goto f264_18 ?_
                refine ev_ret rfl (by decide) (by decide) ?_
                show jEv _ _ _ _ _ _ _ (_, [(2, 42), (0, (a1 + 2))], [(0, v73192)], _, _, _)
                refine ev_bipush ?_
                refine ev_bipush ?_
                refine ev_in (d := 0) (a := 0) (b := 0) (cd' := c242_0) (m := 3) (L0 := [(0, v73192), (0, 48), (0, 57)]) (jcall_s (A := [(0, 57), (0, 48), (0, v73192)]) (S' := []) (by decide) rfl (Nat.le_of_ble_eq_true rfl)) (by decide) ml242 pp242 (Nat.le_of_ble_eq_true rfl) rfl (by decide) (by decide) ?_
                refine ev_iload_n rfl ?_
                refine ev_iload_n rfl ?_
                refine ev_icmplt f242_14 (fun c73196 => ?_) (fun c73196 => absurd c73196 (by omega))
                refine ev_iconst ?_
                refine ev_ret rfl (by decide) (by decide) ?_
                show jEv _ _ _ _ _ _ _ (_, [(2, 42), (0, (a1 + 2))], [(0, 0)], _, _, _)
                refine ev_ret rfl (by decide) (by decide) ?_
                show jEv _ _ _ _ _ _ _ (_, [(2, 42), (0, a1), (0, 1), (0, (a1 + 2)), (0, 1), (0, (v73151 - 48)), (0, 1)], [(0, 0)], _, _, _)
                refine ev_ifeq f269_100 (fun c73197 => ?_) (fun c73197 => absurd c73197 (by omega))
                refine ev_aload_n rfl ?_
                refine ev_iload_n rfl ?_
                refine ev_iconst ?_
                refine ev_iload rfl ?_
                refine ev_ifeq f269_114 (fun c73198 => absurd c73198 (by omega)) (fun c73198 => ?_)
                refine ev_iload rfl ?_
                refine ev_ineg (r := ((-v73151) + 48)) (by unfold w32; omega) ?_
                refine ev_goto f269_116 ?_
                refine ev_in (d := 1) (a := 0) (b := 0) (cd' := c267_0) (m := 6) (L0 := [(2, 42), (0, 1), (0, 0), (0, ((-v73151) + 48)), (9, 0), (9, 0)]) (jcall_v (A := [(0, ((-v73151) + 48)), (0, 0), (0, 1)]) (S' := []) (r := 42) rfl (g.lt ad42) (g.tg ad42) (Nat.le_of_ble_eq_true rfl)) (by decide) ml267 pp267 (Nat.le_of_ble_eq_true rfl) rfl (by decide) (by decide) ?_
                refine ev_iload_n rfl ?_
                refine ev_ifne f267_6 (fun c73199 => ?_) (fun c73199 => absurd c73199 (by omega))
                refine ev_aload_n rfl ?_
                refine ev_dup (by decide) ?_
                refine g_getv (r := 42) (v := w1) g ad42 (by decide) ft12_21 (ew1) ?_
                refine ev_iconst ?_
                refine ev_iadd (r := (w1 + 1)) (by unfold w32; omega) ?_
                refine g_putf (r := 42) g ad42 (by decide) ft12_21 (by decide) (fun e => absurd e nz12_21) rf42_21 (by decide) (by omega) (by omega) (fun h73200 e73200 g73200 => ?_)
                have k73200 := k0.wr e73200 rfl
                refine ev_aload_n rfl ?_
                refine g_getv (r := 42) (v := (w1 + 1)) g73200 ad42 (by decide) ft12_21 ((jw_eq e73200)) ?_
                refine ev_bipush ?_
                refine ev_icmple f267_27 (fun c73201 => ?_) (fun c73201 => absurd c73201 (by omega))
                refine ev_bipush ?_
                refine ev_aload_n rfl ?_
                refine g_getv (r := 42) (v := w0) g73200 ad42 (by decide) ft12_9 (((jw_ne e73200 (Or.inr (by decide))).trans ew0)) ?_
                refine ev_imul (r := (100 * w0)) (by unfold w32; omega) ?_
                refine ev_aload_n rfl ?_
                refine g_getv (r := 42) (v := (w1 + 1)) g73200 ad42 (by decide) ft12_21 ((jw_eq e73200)) ?_
                refine ev_iadd (r := (100 * w0 + w1 + 1)) (by unfold w32; omega) ?_
                refine ev_iconst ?_
                refine ev_isub (r := (100 * w0 + w1)) (by unfold w32; omega) ?_
                refine ev_istore (L' := [(2, 42), (0, 1), (0, 0), (0, ((-v73151) + 48)), (0, (100 * w0 + w1)), (9, 0)]) (Nat.le_of_ble_eq_true rfl) rfl ?_
                refine ev_aload_n rfl ?_
                refine g_getp (r := 42) (c := 49) g73200 ad42 (by decide) (by decide) rf42_11 ft12_11 ?_
                refine ev_iload rfl ?_
                refine ev_iload_n rfl ?_
                refine ev_i2b (r := 0) (by unfold w8; omega) ?_
                refine ev_bastG (r := 49) (j := ((100 * w0 + w1)).toNat) (w := 0) (g73200.lt ad49) (g73200.tg ad49) (by omega) (by rw [g73200.ln ad49]; omega) (by unfold w8; omega) (fun h73202 e73202 => ?_)
                have g73202 := g73200.s49 e73202 (by rw [(((jw_ne e73200 (Or.inr (by decide))).trans ew0))]; omega) (by omega) (by omega)
                have k73202 := k73200.wr e73202 rfl
                refine ev_aload_n rfl ?_
                refine g_getp (r := 42) (c := 50) g73202 ad42 (by decide) (by decide) rf42_12 ft12_12 ?_
                refine ev_iload rfl ?_
                refine ev_iload_n rfl ?_
                refine ev_iastG (r := 50) (j := ((100 * w0 + w1)).toNat) (g73202.lt ad50) (g73202.tg ad50) (by omega) (by rw [g73202.ln ad50]; omega) (fun h73203 e73203 => ?_)
                have g73203 := g73202.s50 e73203 (Or.inl (by rw [(((jw_ne e73202 (Or.inl (by decide))).trans ((jw_ne e73200 (Or.inr (by decide))).trans ew0)))]; omega)) (by omega) (by omega)
                have k73203 := k73202.wr e73203 rfl
                refine ev_aload_n rfl ?_
                refine g_getp (r := 42) (c := 53) g73203 ad42 (by decide) (by decide) rf42_15 ft12_15 ?_
                refine ev_iload rfl ?_
                refine ev_iconst ?_
                refine ev_bastG (r := 53) (j := ((100 * w0 + w1)).toNat) (w := 0) (g73203.lt ad53) (g73203.tg ad53) (by omega) (by rw [g73203.ln ad53]; omega) (by unfold w8; omega) (fun h73204 e73204 => ?_)
                have g73204 := g73203.s53 e73204 (Or.inl (by rw [(((jw_ne e73203 (Or.inl (by decide))).trans ((jw_ne e73202 (Or.inl (by decide))).trans ((jw_ne e73200 (Or.inr (by decide))).trans ew0))))]; omega)) (by omega) (by omega)
                have k73204 := k73203.wr e73204 rfl
                refine ev_iconst ?_
                refine ev_istore (L' := [(2, 42), (0, 1), (0, 0), (0, ((-v73151) + 48)), (0, (100 * w0 + w1)), (0, 0)]) (Nat.le_of_ble_eq_true rfl) rfl ?_
                refine ev_iload rfl ?_
                refine ev_iconst ?_
                refine ev_icmpge f267_109 (fun c73205 => absurd c73205 (by omega)) (fun c73205 => ?_)
                refine ev_aload_n rfl ?_
                refine g_getp (r := 42) (c := 51) g73204 ad42 (by decide) (by decide) rf42_13 ft12_13 ?_
                refine ev_iconst ?_
                refine ev_iload rfl ?_
                refine ev_imul (r := (400 * w0 + 4 * w1)) (by unfold w32; omega) ?_
                refine ev_iload rfl ?_
                refine ev_iadd (r := (400 * w0 + 4 * w1)) (by unfold w32; omega) ?_
                refine ev_iconst ?_
                refine ev_bastG (r := 51) (j := ((400 * w0 + 4 * w1)).toNat) (w := (-1)) (g73204.lt ad51) (g73204.tg ad51) (by omega) (by rw [g73204.ln ad51]; omega) (by unfold w8; omega) (fun h73206 e73206 => ?_)
                have g73206 := g73204.s51 e73206 (by rw [(((jw_ne e73204 (Or.inl (by decide))).trans ((jw_ne e73203 (Or.inl (by decide))).trans ((jw_ne e73202 (Or.inl (by decide))).trans ((jw_ne e73200 (Or.inr (by decide))).trans ew0)))))]; omega) (by omega) (by omega)
                have k73206 := k73204.wr e73206 rfl
                refine ev_aload_n rfl ?_
                refine g_getp (r := 42) (c := 52) g73206 ad42 (by decide) (by decide) rf42_14 ft12_14 ?_
                refine ev_iconst ?_
                refine ev_iload rfl ?_
                refine ev_imul (r := (400 * w0 + 4 * w1)) (by unfold w32; omega) ?_
                refine ev_iload rfl ?_
                refine ev_iadd (r := (400 * w0 + 4 * w1)) (by unfold w32; omega) ?_
                refine ev_iconst ?_
                refine g_iast g73206 ad52 rt52 (fun _ => rfl) (by omega) (by omega) (by omega) (by omega) (fun h73207 e73207 g73207 => ?_)
                have k73207 := k73206.wr e73207 rfl
                refine ev_iinc (w := 1) (L' := [(2, 42), (0, 1), (0, 0), (0, ((-v73151) + 48)), (0, (100 * w0 + w1)), (0, 1)]) rfl (by decide) rfl ?_
                refine ev_goto f267_71 ?_
                refine ev_iload rfl ?_
                refine ev_iconst ?_
                refine ev_icmpge f267_109 (fun c73208 => absurd c73208 (by omega)) (fun c73208 => ?_)
                refine ev_aload_n rfl ?_
                refine g_getp (r := 42) (c := 51) g73207 ad42 (by decide) (by decide) rf42_13 ft12_13 ?_
                refine ev_iconst ?_
                refine ev_iload rfl ?_
                refine ev_imul (r := (400 * w0 + 4 * w1)) (by unfold w32; omega) ?_
                refine ev_iload rfl ?_
                refine ev_iadd (r := (400 * w0 + 4 * w1 + 1)) (by unfold w32; omega) ?_
                refine ev_iconst ?_
                refine ev_bastG (r := 51) (j := ((400 * w0 + 4 * w1 + 1)).toNat) (w := (-1)) (g73207.lt ad51) (g73207.tg ad51) (by omega) (by rw [g73207.ln ad51]; omega) (by unfold w8; omega) (fun h73209 e73209 => ?_)
                have g73209 := g73207.s51 e73209 (by rw [(((jw_ne e73207 (Or.inl (by decide))).trans ((jw_ne e73206 (Or.inl (by decide))).trans ((jw_ne e73204 (Or.inl (by decide))).trans ((jw_ne e73203 (Or.inl (by decide))).trans ((jw_ne e73202 (Or.inl (by decide))).trans ((jw_ne e73200 (Or.inr (by decide))).trans ew0)))))))]; omega) (by omega) (by omega)
                have k73209 := k73207.wr e73209 rfl
                refine ev_aload_n rfl ?_
                refine g_getp (r := 42) (c := 52) g73209 ad42 (by decide) (by decide) rf42_14 ft12_14 ?_
                refine ev_iconst ?_
                refine ev_iload rfl ?_
                refine ev_imul (r := (400 * w0 + 4 * w1)) (by unfold w32; omega) ?_
                refine ev_iload rfl ?_
                refine ev_iadd (r := (400 * w0 + 4 * w1 + 1)) (by unfold w32; omega) ?_
                refine ev_iconst ?_
                refine g_iast g73209 ad52 rt52 (fun _ => rfl) (by omega) (by omega) (by omega) (by omega) (fun h73210 e73210 g73210 => ?_)
                have k73210 := k73209.wr e73210 rfl
                refine ev_iinc (w := 2) (L' := [(2, 42), (0, 1), (0, 0), (0, ((-v73151) + 48)), (0, (100 * w0 + w1)), (0, 2)]) rfl (by decide) rfl ?_
                refine ev_goto f267_71 ?_
                refine ev_iload rfl ?_
                refine ev_iconst ?_
                refine ev_icmpge f267_109 (fun c73211 => absurd c73211 (by omega)) (fun c73211 => ?_)
                refine ev_aload_n rfl ?_
                refine g_getp (r := 42) (c := 51) g73210 ad42 (by decide) (by decide) rf42_13 ft12_13 ?_
                refine ev_iconst ?_
                refine ev_iload rfl ?_
                refine ev_imul (r := (400 * w0 + 4 * w1)) (by unfold w32; omega) ?_
                refine ev_iload rfl ?_
                refine ev_iadd (r := (400 * w0 + 4 * w1 + 2)) (by unfold w32; omega) ?_
                refine ev_iconst ?_
                refine ev_bastG (r := 51) (j := ((400 * w0 + 4 * w1 + 2)).toNat) (w := (-1)) (g73210.lt ad51) (g73210.tg ad51) (by omega) (by rw [g73210.ln ad51]; omega) (by unfold w8; omega) (fun h73212 e73212 => ?_)
                have g73212 := g73210.s51 e73212 (by rw [(((jw_ne e73210 (Or.inl (by decide))).trans ((jw_ne e73209 (Or.inl (by decide))).trans ((jw_ne e73207 (Or.inl (by decide))).trans ((jw_ne e73206 (Or.inl (by decide))).trans ((jw_ne e73204 (Or.inl (by decide))).trans ((jw_ne e73203 (Or.inl (by decide))).trans ((jw_ne e73202 (Or.inl (by decide))).trans ((jw_ne e73200 (Or.inr (by decide))).trans ew0)))))))))]; omega) (by omega) (by omega)
                have k73212 := k73210.wr e73212 rfl
                refine ev_aload_n rfl ?_
                refine g_getp (r := 42) (c := 52) g73212 ad42 (by decide) (by decide) rf42_14 ft12_14 ?_
                refine ev_iconst ?_
                refine ev_iload rfl ?_
                refine ev_imul (r := (400 * w0 + 4 * w1)) (by unfold w32; omega) ?_
                refine ev_iload rfl ?_
                refine ev_iadd (r := (400 * w0 + 4 * w1 + 2)) (by unfold w32; omega) ?_
                refine ev_iconst ?_
                refine g_iast g73212 ad52 rt52 (fun _ => rfl) (by omega) (by omega) (by omega) (by omega) (fun h73213 e73213 g73213 => ?_)
                have k73213 := k73212.wr e73213 rfl
                refine ev_iinc (w := 3) (L' := [(2, 42), (0, 1), (0, 0), (0, ((-v73151) + 48)), (0, (100 * w0 + w1)), (0, 3)]) rfl (by decide) rfl ?_
                refine ev_goto f267_71 ?_
                refine ev_iload rfl ?_
                refine ev_iconst ?_
                refine ev_icmpge f267_109 (fun c73214 => absurd c73214 (by omega)) (fun c73214 => ?_)
                refine ev_aload_n rfl ?_
                refine g_getp (r := 42) (c := 51) g73213 ad42 (by decide) (by decide) rf42_13 ft12_13 ?_
                refine ev_iconst ?_
                refine ev_iload rfl ?_
                refine ev_imul (r := (400 * w0 + 4 * w1)) (by unfold w32; omega) ?_
                refine ev_iload rfl ?_
                refine ev_iadd (r := (400 * w0 + 4 * w1 + 3)) (by unfold w32; omega) ?_
                refine ev_iconst ?_
                refine ev_bastG (r := 51) (j := ((400 * w0 + 4 * w1 + 3)).toNat) (w := (-1)) (g73213.lt ad51) (g73213.tg ad51) (by omega) (by rw [g73213.ln ad51]; omega) (by unfold w8; omega) (fun h73215 e73215 => ?_)
                have g73215 := g73213.s51 e73215 (by rw [(((jw_ne e73213 (Or.inl (by decide))).trans ((jw_ne e73212 (Or.inl (by decide))).trans ((jw_ne e73210 (Or.inl (by decide))).trans ((jw_ne e73209 (Or.inl (by decide))).trans ((jw_ne e73207 (Or.inl (by decide))).trans ((jw_ne e73206 (Or.inl (by decide))).trans ((jw_ne e73204 (Or.inl (by decide))).trans ((jw_ne e73203 (Or.inl (by decide))).trans ((jw_ne e73202 (Or.inl (by decide))).trans ((jw_ne e73200 (Or.inr (by decide))).trans ew0)))))))))))]; omega) (by omega) (by omega)
                have k73215 := k73213.wr e73215 rfl
                refine ev_aload_n rfl ?_
                refine g_getp (r := 42) (c := 52) g73215 ad42 (by decide) (by decide) rf42_14 ft12_14 ?_
                refine ev_iconst ?_
                refine ev_iload rfl ?_
                refine ev_imul (r := (400 * w0 + 4 * w1)) (by unfold w32; omega) ?_
                refine ev_iload rfl ?_
                refine ev_iadd (r := (400 * w0 + 4 * w1 + 3)) (by unfold w32; omega) ?_
                refine ev_iconst ?_
                refine g_iast g73215 ad52 rt52 (fun _ => rfl) (by omega) (by omega) (by omega) (by omega) (fun h73216 e73216 g73216 => ?_)
                have k73216 := k73215.wr e73216 rfl
                refine ev_iinc (w := 4) (L' := [(2, 42), (0, 1), (0, 0), (0, ((-v73151) + 48)), (0, (100 * w0 + w1)), (0, 4)]) rfl (by decide) rfl ?_
                refine ev_goto f267_71 ?_
                refine ev_iload rfl ?_
                refine ev_iconst ?_
                refine ev_icmpge f267_109 (fun c73217 => ?_) (fun c73217 => absurd c73217 (by omega))
                refine ev_iload rfl ?_
                refine ev_ret rfl (by decide) (by decide) ?_
                show jEv _ _ _ _ _ _ _ (_, [(2, 42), (0, a1), (0, 1), (0, (a1 + 2)), (0, 1), (0, (v73151 - 48)), (0, 1)], [(0, (100 * w0 + w1))], _, _, _)
                refine ev_pop (by decide) ?_
                refine ev_iload_n rfl ?_
                exact ev_ret rfl (by decide) (by decide) ⟨⟨_, rfl, by omega, by omega, g73216, k73216⟩, fun r hr h0 => by cases hr; exact (Ad.step (r' := (a1 + 2)) (Ad.step (r' := (a1 + 1)) (Ad.rf _ _ _) (by omega) k73216 (fun _ => rfl) (((jw_ne e73216 (Or.inl (by decide))).trans ((jw_ne e73215 (Or.inl (by decide))).trans ((jw_ne e73213 (Or.inl (by decide))).trans ((jw_ne e73212 (Or.inl (by decide))).trans ((jw_ne e73210 (Or.inl (by decide))).trans ((jw_ne e73209 (Or.inl (by decide))).trans ((jw_ne e73207 (Or.inl (by decide))).trans ((jw_ne e73206 (Or.inl (by decide))).trans ((jw_ne e73204 (Or.inl (by decide))).trans ((jw_ne e73203 (Or.inl (by decide))).trans ((jw_ne e73202 (Or.inl (by decide))).trans ((jw_ne e73200 (Or.inl (by decide))).trans ev72896))))))))))))) (by omega) (by omega) (by omega)) (by omega) k73216 (fun _ => rfl) (((jw_ne e73216 (Or.inl (by decide))).trans ((jw_ne e73215 (Or.inl (by decide))).trans ((jw_ne e73213 (Or.inl (by decide))).trans ((jw_ne e73212 (Or.inl (by decide))).trans ((jw_ne e73210 (Or.inl (by decide))).trans ((jw_ne e73209 (Or.inl (by decide))).trans ((jw_ne e73207 (Or.inl (by decide))).trans ((jw_ne e73206 (Or.inl (by decide))).trans ((jw_ne e73204 (Or.inl (by decide))).trans ((jw_ne e73203 (Or.inl (by decide))).trans ((jw_ne e73202 (Or.inl (by decide))).trans ((jw_ne e73200 (Or.inl (by decide))).trans ev73151))))))))))))) (by omega) (by omega) (by omega)), fun r hr => by cases hr; exact ⟨_, (((jw_ne e73216 (Or.inl (by decide))).trans ((jw_ne e73215 (Or.inl (by decide))).trans ((jw_ne e73213 (Or.inl (by decide))).trans ((jw_ne e73212 (Or.inl (by decide))).trans ((jw_ne e73210 (Or.inl (by decide))).trans ((jw_ne e73209 (Or.inl (by decide))).trans ((jw_ne e73207 (Or.inl (by decide))).trans ((jw_ne e73206 (Or.inl (by decide))).trans ((jw_ne e73204 (Or.inl (by decide))).trans ((jw_ne e73203 (Or.inl (by decide))).trans ((jw_ne e73202 (Or.inl (by decide))).trans (jw_eq e73200))))))))))))), by omega, by omega, (Fr.kp (Fr.w (i := (400 * w0 + 4 * w1 + 3)) (Fr.kp (Fr.w (i := (400 * w0 + 4 * w1 + 2)) (Fr.kp (Fr.w (i := (400 * w0 + 4 * w1 + 1)) (Fr.kp (Fr.w (i := (400 * w0 + 4 * w1)) (Fr.w (i := (100 * w0 + w1)) (Fr.w (i := (100 * w0 + w1)) (Fr.w (i := (100 * w0 + w1)) (Fr.kp (Fr.rf _ _) ((Kp.rf [(42, 0)] _).wr e73200 rfl) (fun _ => rfl) (fun _ => rfl) (fun _ => rfl) (fun _ => rfl)) e73202 (by omega) (by omega)) e73203 (by omega) (by omega)) e73204 (by omega) (by omega)) e73206 (by omega) (by omega)) ((Kp.rf [(52, 0)] _).wr e73207 rfl) (fun _ => rfl) (fun _ => rfl) (fun _ => rfl) (fun _ => rfl)) e73209 (by omega) (by omega)) ((Kp.rf [(52, 0)] _).wr e73210 rfl) (fun _ => rfl) (fun _ => rfl) (fun _ => rfl) (fun _ => rfl)) e73212 (by omega) (by omega)) ((Kp.rf [(52, 0)] _).wr e73213 rfl) (fun _ => rfl) (fun _ => rfl) (fun _ => rfl) (fun _ => rfl)) e73215 (by omega) (by omega)) ((Kp.rf [(52, 0)] _).wr e73216 rfl) (fun _ => rfl) (fun _ => rfl) (fun _ => rfl) (fun _ => rfl)), fun h0 => by omega, fun h0 hm => Tr.end (i := (100 * w0 + w1)) (by omega) (by omega) (by omega) (((jw_ne e73216 (Or.inl (by decide))).trans ((jw_ne e73215 (Or.inl (by decide))).trans ((jw_ne e73213 (Or.inl (by decide))).trans ((jw_ne e73212 (Or.inl (by decide))).trans ((jw_ne e73210 (Or.inl (by decide))).trans ((jw_ne e73209 (Or.inl (by decide))).trans ((jw_ne e73207 (Or.inl (by decide))).trans ((jw_ne e73206 (Or.inl (by decide))).trans ((jw_ne e73204 (Or.inl (by decide))).trans ((jw_ne e73203 (Or.inl (by decide))).trans (jw_eq e73202)))))))))))) (by omega) (by omega)⟩⟩
              · refine ev_iload_n rfl ?_
                refine ev_iload_n rfl ?_
                refine ev_icmpgt f242_14 (fun c73218 => ?_) (fun c73218 => ?_)
                · refine ev_iconst ?_
                  refine ev_ret rfl (by decide) (by decide) ?_
                  show jEv _ _ _ _ _ _ _ (_, [(2, 42), (0, (a1 + 2))], [(0, 0)], _, _, _)
                  refine ev_ret rfl (by decide) (by decide) ?_
                  show jEv _ _ _ _ _ _ _ (_, [(2, 42), (0, a1), (0, 1), (0, (a1 + 2)), (0, 1), (0, (v73151 - 48)), (0, 1)], [(0, 0)], _, _, _)
                  refine ev_ifeq f269_86 (fun c73219 => ?_) (fun c73219 => absurd c73219 (by omega))
                  refine ev_aload_n rfl ?_
                  refine ev_iload_n rfl ?_
                  refine ev_in (d := 1) (a := 0) (b := 0) (cd' := c265_0) (m := 2) (L0 := [(2, 42), (0, (a1 + 2))]) (jcall_v (A := [(0, (a1 + 2))]) (S' := []) (r := 42) rfl (g.lt ad42) (g.tg ad42) (Nat.le_of_ble_eq_true rfl)) (by decide) ml265 pp265 (Nat.le_of_ble_eq_true rfl) rfl (by decide) (by decide) ?_
                  refine ev_aload_n rfl ?_
                  refine ev_iload_n rfl ?_
                  refine ev_in (d := 0) (a := 0) (b := 0) (cd' := c264_0) (m := 2) (L0 := [(2, 42), (0, (a1 + 2))]) (jcall_v (A := [(0, (a1 + 2))]) (S' := []) (r := 42) rfl (g.lt ad42) (g.tg ad42) (Nat.le_of_ble_eq_true rfl)) (by decide) ml264 pp264 (Nat.le_of_ble_eq_true rfl) rfl (by decide) (by decide) ?_
                  refine ev_iload_n rfl ?_
                  refine ev_aload_n rfl ?_
                  refine g_getv (r := 42) (v := v72888) g ad42 (by decide) ft12_17 (ev72888) ?_
                  refine ev_icmpge f264_17 (fun c73220 => absurd c73220 (by omega)) (fun c73220 => ?_)
                  refine ev_aload_n rfl ?_
                  refine g_getp (r := 42) (c := 54) g ad42 (by decide) (by decide) rf42_16 ft12_16 ?_
                  refine ev_iload_n rfl ?_
                  refine g_baldv (v := v73192) g ad54 (by omega) (by omega) (ev73192) ?_
                  refine ev_goto f264_18 ?_
                  refine ev_ret rfl (by decide) (by decide) ?_
                  show jEv _ _ _ _ _ _ _ (_, [(2, 42), (0, (a1 + 2))], [(0, v73192)], _, _, _)
                  refine ev_bipush ?_
                  refine ev_bipush ?_
                  refine ev_in (d := 0) (a := 0) (b := 0) (cd' := c242_0) (m := 3) (L0 := [(0, v73192), (0, 48), (0, 57)]) (jcall_s (A := [(0, 57), (0, 48), (0, v73192)]) (S' := []) (by decide) rfl (Nat.le_of_ble_eq_true rfl)) (by decide) ml242 pp242 (Nat.le_of_ble_eq_true rfl) rfl (by decide) (by decide) ?_
                  refine ev_iload_n rfl ?_
                  refine ev_iload_n rfl ?_
                  refine ev_icmplt f242_14 (fun c73221 => absurd c73221 (by omega)) (fun c73221 => ?_)
                  refine ev_iload_n rfl ?_
                  refine ev_iload_n rfl ?_
                  refine ev_icmpgt f242_14 (fun c73222 => ?_) (fun c73222 => absurd c73222 (by omega))
                  refine ev_iconst ?_
                  refine ev_ret rfl (by decide) (by decide) ?_
                  show jEv _ _ _ _ _ _ _ (_, [(2, 42), (0, (a1 + 2))], [(0, 0)], _, _, _)
                  refine ev_ret rfl (by decide) (by decide) ?_
                  show jEv _ _ _ _ _ _ _ (_, [(2, 42), (0, a1), (0, 1), (0, (a1 + 2)), (0, 1), (0, (v73151 - 48)), (0, 1)], [(0, 0)], _, _, _)
                  refine ev_ifeq f269_100 (fun c73223 => ?_) (fun c73223 => absurd c73223 (by omega))
                  refine ev_aload_n rfl ?_
                  refine ev_iload_n rfl ?_
                  refine ev_iconst ?_
                  refine ev_iload rfl ?_
                  refine ev_ifeq f269_114 (fun c73224 => absurd c73224 (by omega)) (fun c73224 => ?_)
                  refine ev_iload rfl ?_
                  refine ev_ineg (r := ((-v73151) + 48)) (by unfold w32; omega) ?_
                  refine ev_goto f269_116 ?_
                  refine ev_in (d := 1) (a := 0) (b := 0) (cd' := c267_0) (m := 6) (L0 := [(2, 42), (0, 1), (0, 0), (0, ((-v73151) + 48)), (9, 0), (9, 0)]) (jcall_v (A := [(0, ((-v73151) + 48)), (0, 0), (0, 1)]) (S' := []) (r := 42) rfl (g.lt ad42) (g.tg ad42) (Nat.le_of_ble_eq_true rfl)) (by decide) ml267 pp267 (Nat.le_of_ble_eq_true rfl) rfl (by decide) (by decide) ?_
                  refine ev_iload_n rfl ?_
                  refine ev_ifne f267_6 (fun c73225 => ?_) (fun c73225 => absurd c73225 (by omega))
                  refine ev_aload_n rfl ?_
                  refine ev_dup (by decide) ?_
                  refine g_getv (r := 42) (v := w1) g ad42 (by decide) ft12_21 (ew1) ?_
                  refine ev_iconst ?_
                  refine ev_iadd (r := (w1 + 1)) (by unfold w32; omega) ?_
                  refine g_putf (r := 42) g ad42 (by decide) ft12_21 (by decide) (fun e => absurd e nz12_21) rf42_21 (by decide) (by omega) (by omega) (fun h73226 e73226 g73226 => ?_)
                  have k73226 := k0.wr e73226 rfl
                  refine ev_aload_n rfl ?_
                  refine g_getv (r := 42) (v := (w1 + 1)) g73226 ad42 (by decide) ft12_21 ((jw_eq e73226)) ?_
                  refine ev_bipush ?_
                  refine ev_icmple f267_27 (fun c73227 => ?_) (fun c73227 => absurd c73227 (by omega))
                  refine ev_bipush ?_
                  refine ev_aload_n rfl ?_
                  refine g_getv (r := 42) (v := w0) g73226 ad42 (by decide) ft12_9 (((jw_ne e73226 (Or.inr (by decide))).trans ew0)) ?_
                  refine ev_imul (r := (100 * w0)) (by unfold w32; omega) ?_
                  refine ev_aload_n rfl ?_
                  refine g_getv (r := 42) (v := (w1 + 1)) g73226 ad42 (by decide) ft12_21 ((jw_eq e73226)) ?_
                  refine ev_iadd (r := (100 * w0 + w1 + 1)) (by unfold w32; omega) ?_
                  refine ev_iconst ?_
                  refine ev_isub (r := (100 * w0 + w1)) (by unfold w32; omega) ?_
                  refine ev_istore (L' := [(2, 42), (0, 1), (0, 0), (0, ((-v73151) + 48)), (0, (100 * w0 + w1)), (9, 0)]) (Nat.le_of_ble_eq_true rfl) rfl ?_
                  refine ev_aload_n rfl ?_
                  refine g_getp (r := 42) (c := 49) g73226 ad42 (by decide) (by decide) rf42_11 ft12_11 ?_
                  refine ev_iload rfl ?_
                  refine ev_iload_n rfl ?_
                  refine ev_i2b (r := 0) (by unfold w8; omega) ?_
                  refine ev_bastG (r := 49) (j := ((100 * w0 + w1)).toNat) (w := 0) (g73226.lt ad49) (g73226.tg ad49) (by omega) (by rw [g73226.ln ad49]; omega) (by unfold w8; omega) (fun h73228 e73228 => ?_)
                  have g73228 := g73226.s49 e73228 (by rw [(((jw_ne e73226 (Or.inr (by decide))).trans ew0))]; omega) (by omega) (by omega)
                  have k73228 := k73226.wr e73228 rfl
                  refine ev_aload_n rfl ?_
                  refine g_getp (r := 42) (c := 50) g73228 ad42 (by decide) (by decide) rf42_12 ft12_12 ?_
                  refine ev_iload rfl ?_
                  refine ev_iload_n rfl ?_
                  refine ev_iastG (r := 50) (j := ((100 * w0 + w1)).toNat) (g73228.lt ad50) (g73228.tg ad50) (by omega) (by rw [g73228.ln ad50]; omega) (fun h73229 e73229 => ?_)
                  have g73229 := g73228.s50 e73229 (Or.inl (by rw [(((jw_ne e73228 (Or.inl (by decide))).trans ((jw_ne e73226 (Or.inr (by decide))).trans ew0)))]; omega)) (by omega) (by omega)
                  have k73229 := k73228.wr e73229 rfl
                  refine ev_aload_n rfl ?_
                  refine g_getp (r := 42) (c := 53) g73229 ad42 (by decide) (by decide) rf42_15 ft12_15 ?_
                  refine ev_iload rfl ?_
                  refine ev_iconst ?_
                  refine ev_bastG (r := 53) (j := ((100 * w0 + w1)).toNat) (w := 0) (g73229.lt ad53) (g73229.tg ad53) (by omega) (by rw [g73229.ln ad53]; omega) (by unfold w8; omega) (fun h73230 e73230 => ?_)
                  have g73230 := g73229.s53 e73230 (Or.inl (by rw [(((jw_ne e73229 (Or.inl (by decide))).trans ((jw_ne e73228 (Or.inl (by decide))).trans ((jw_ne e73226 (Or.inr (by decide))).trans ew0))))]; omega)) (by omega) (by omega)
                  have k73230 := k73229.wr e73230 rfl
                  refine ev_iconst ?_
                  refine ev_istore (L' := [(2, 42), (0, 1), (0, 0), (0, ((-v73151) + 48)), (0, (100 * w0 + w1)), (0, 0)]) (Nat.le_of_ble_eq_true rfl) rfl ?_
                  refine ev_iload rfl ?_
                  refine ev_iconst ?_
                  refine ev_icmpge f267_109 (fun c73231 => absurd c73231 (by omega)) (fun c73231 => ?_)
                  refine ev_aload_n rfl ?_
                  refine g_getp (r := 42) (c := 51) g73230 ad42 (by decide) (by decide) rf42_13 ft12_13 ?_
                  refine ev_iconst ?_
                  refine ev_iload rfl ?_
                  refine ev_imul (r := (400 * w0 + 4 * w1)) (by unfold w32; omega) ?_
                  refine ev_iload rfl ?_
                  refine ev_iadd (r := (400 * w0 + 4 * w1)) (by unfold w32; omega) ?_
                  refine ev_iconst ?_
                  refine ev_bastG (r := 51) (j := ((400 * w0 + 4 * w1)).toNat) (w := (-1)) (g73230.lt ad51) (g73230.tg ad51) (by omega) (by rw [g73230.ln ad51]; omega) (by unfold w8; omega) (fun h73232 e73232 => ?_)
                  have g73232 := g73230.s51 e73232 (by rw [(((jw_ne e73230 (Or.inl (by decide))).trans ((jw_ne e73229 (Or.inl (by decide))).trans ((jw_ne e73228 (Or.inl (by decide))).trans ((jw_ne e73226 (Or.inr (by decide))).trans ew0)))))]; omega) (by omega) (by omega)
                  have k73232 := k73230.wr e73232 rfl
                  refine ev_aload_n rfl ?_
                  refine g_getp (r := 42) (c := 52) g73232 ad42 (by decide) (by decide) rf42_14 ft12_14 ?_
                  refine ev_iconst ?_
                  refine ev_iload rfl ?_
                  refine ev_imul (r := (400 * w0 + 4 * w1)) (by unfold w32; omega) ?_
                  refine ev_iload rfl ?_
                  refine ev_iadd (r := (400 * w0 + 4 * w1)) (by unfold w32; omega) ?_
                  refine ev_iconst ?_
                  refine g_iast g73232 ad52 rt52 (fun _ => rfl) (by omega) (by omega) (by omega) (by omega) (fun h73233 e73233 g73233 => ?_)
                  have k73233 := k73232.wr e73233 rfl
                  refine ev_iinc (w := 1) (L' := [(2, 42), (0, 1), (0, 0), (0, ((-v73151) + 48)), (0, (100 * w0 + w1)), (0, 1)]) rfl (by decide) rfl ?_
                  refine ev_goto f267_71 ?_
                  refine ev_iload rfl ?_
                  refine ev_iconst ?_
                  refine ev_icmpge f267_109 (fun c73234 => absurd c73234 (by omega)) (fun c73234 => ?_)
                  refine ev_aload_n rfl ?_
                  refine g_getp (r := 42) (c := 51) g73233 ad42 (by decide) (by decide) rf42_13 ft12_13 ?_
                  refine ev_iconst ?_
                  refine ev_iload rfl ?_
                  refine ev_imul (r := (400 * w0 + 4 * w1)) (by unfold w32; omega) ?_
                  refine ev_iload rfl ?_
                  refine ev_iadd (r := (400 * w0 + 4 * w1 + 1)) (by unfold w32; omega) ?_
                  refine ev_iconst ?_
                  refine ev_bastG (r := 51) (j := ((400 * w0 + 4 * w1 + 1)).toNat) (w := (-1)) (g73233.lt ad51) (g73233.tg ad51) (by omega) (by rw [g73233.ln ad51]; omega) (by unfold w8; omega) (fun h73235 e73235 => ?_)
                  have g73235 := g73233.s51 e73235 (by rw [(((jw_ne e73233 (Or.inl (by decide))).trans ((jw_ne e73232 (Or.inl (by decide))).trans ((jw_ne e73230 (Or.inl (by decide))).trans ((jw_ne e73229 (Or.inl (by decide))).trans ((jw_ne e73228 (Or.inl (by decide))).trans ((jw_ne e73226 (Or.inr (by decide))).trans ew0)))))))]; omega) (by omega) (by omega)
                  have k73235 := k73233.wr e73235 rfl
                  refine ev_aload_n rfl ?_
                  refine g_getp (r := 42) (c := 52) g73235 ad42 (by decide) (by decide) rf42_14 ft12_14 ?_
                  refine ev_iconst ?_
                  refine ev_iload rfl ?_
                  refine ev_imul (r := (400 * w0 + 4 * w1)) (by unfold w32; omega) ?_
                  refine ev_iload rfl ?_
                  refine ev_iadd (r := (400 * w0 + 4 * w1 + 1)) (by unfold w32; omega) ?_
                  refine ev_iconst ?_
                  refine g_iast g73235 ad52 rt52 (fun _ => rfl) (by omega) (by omega) (by omega) (by omega) (fun h73236 e73236 g73236 => ?_)
                  have k73236 := k73235.wr e73236 rfl
                  refine ev_iinc (w := 2) (L' := [(2, 42), (0, 1), (0, 0), (0, ((-v73151) + 48)), (0, (100 * w0 + w1)), (0, 2)]) rfl (by decide) rfl ?_
                  refine ev_goto f267_71 ?_
                  refine ev_iload rfl ?_
                  refine ev_iconst ?_
                  refine ev_icmpge f267_109 (fun c73237 => absurd c73237 (by omega)) (fun c73237 => ?_)
                  refine ev_aload_n rfl ?_
                  refine g_getp (r := 42) (c := 51) g73236 ad42 (by decide) (by decide) rf42_13 ft12_13 ?_
                  refine ev_iconst ?_
                  refine ev_iload rfl ?_
                  refine ev_imul (r := (400 * w0 + 4 * w1)) (by unfold w32; omega) ?_
                  refine ev_iload rfl ?_
                  refine ev_iadd (r := (400 * w0 + 4 * w1 + 2)) (by unfold w32; omega) ?_
                  refine ev_iconst ?_
                  refine ev_bastG (r := 51) (j := ((400 * w0 + 4 * w1 + 2)).toNat) (w := (-1)) (g73236.lt ad51) (g73236.tg ad51) (by omega) (by rw [g73236.ln ad51]; omega) (by unfold w8; omega) (fun h73238 e73238 => ?_)
                  have g73238 := g73236.s51 e73238 (by rw [(((jw_ne e73236 (Or.inl (by decide))).trans ((jw_ne e73235 (Or.inl (by decide))).trans ((jw_ne e73233 (Or.inl (by decide))).trans ((jw_ne e73232 (Or.inl (by decide))).trans ((jw_ne e73230 (Or.inl (by decide))).trans ((jw_ne e73229 (Or.inl (by decide))).trans ((jw_ne e73228 (Or.inl (by decide))).trans ((jw_ne e73226 (Or.inr (by decide))).trans ew0)))))))))]; omega) (by omega) (by omega)
                  have k73238 := k73236.wr e73238 rfl
                  refine ev_aload_n rfl ?_
                  refine g_getp (r := 42) (c := 52) g73238 ad42 (by decide) (by decide) rf42_14 ft12_14 ?_
                  refine ev_iconst ?_
                  refine ev_iload rfl ?_
                  refine ev_imul (r := (400 * w0 + 4 * w1)) (by unfold w32; omega) ?_
                  refine ev_iload rfl ?_
                  refine ev_iadd (r := (400 * w0 + 4 * w1 + 2)) (by unfold w32; omega) ?_
                  refine ev_iconst ?_
                  refine g_iast g73238 ad52 rt52 (fun _ => rfl) (by omega) (by omega) (by omega) (by omega) (fun h73239 e73239 g73239 => ?_)
                  have k73239 := k73238.wr e73239 rfl
                  refine ev_iinc (w := 3) (L' := [(2, 42), (0, 1), (0, 0), (0, ((-v73151) + 48)), (0, (100 * w0 + w1)), (0, 3)]) rfl (by decide) rfl ?_
                  refine ev_goto f267_71 ?_
                  refine ev_iload rfl ?_
                  refine ev_iconst ?_
                  refine ev_icmpge f267_109 (fun c73240 => absurd c73240 (by omega)) (fun c73240 => ?_)
                  refine ev_aload_n rfl ?_
                  refine g_getp (r := 42) (c := 51) g73239 ad42 (by decide) (by decide) rf42_13 ft12_13 ?_
                  refine ev_iconst ?_
                  refine ev_iload rfl ?_
                  refine ev_imul (r := (400 * w0 + 4 * w1)) (by unfold w32; omega) ?_
                  refine ev_iload rfl ?_
                  refine ev_iadd (r := (400 * w0 + 4 * w1 + 3)) (by unfold w32; omega) ?_
                  refine ev_iconst ?_
                  refine ev_bastG (r := 51) (j := ((400 * w0 + 4 * w1 + 3)).toNat) (w := (-1)) (g73239.lt ad51) (g73239.tg ad51) (by omega) (by rw [g73239.ln ad51]; omega) (by unfold w8; omega) (fun h73241 e73241 => ?_)
                  have g73241 := g73239.s51 e73241 (by rw [(((jw_ne e73239 (Or.inl (by decide))).trans ((jw_ne e73238 (Or.inl (by decide))).trans ((jw_ne e73236 (Or.inl (by decide))).trans ((jw_ne e73235 (Or.inl (by decide))).trans ((jw_ne e73233 (Or.inl (by decide))).trans ((jw_ne e73232 (Or.inl (by decide))).trans ((jw_ne e73230 (Or.inl (by decide))).trans ((jw_ne e73229 (Or.inl (by decide))).trans ((jw_ne e73228 (Or.inl (by decide))).trans ((jw_ne e73226 (Or.inr (by decide))).trans ew0)))))))))))]; omega) (by omega) (by omega)
                  have k73241 := k73239.wr e73241 rfl
                  refine ev_aload_n rfl ?_
                  refine g_getp (r := 42) (c := 52) g73241 ad42 (by decide) (by decide) rf42_14 ft12_14 ?_
                  refine ev_iconst ?_
                  refine ev_iload rfl ?_
                  refine ev_imul (r := (400 * w0 + 4 * w1)) (by unfold w32; omega) ?_
                  refine ev_iload rfl ?_
                  refine ev_iadd (r := (400 * w0 + 4 * w1 + 3)) (by unfold w32; omega) ?_
                  refine ev_iconst ?_
                  refine g_iast g73241 ad52 rt52 (fun _ => rfl) (by omega) (by omega) (by omega) (by omega) (fun h73242 e73242 g73242 => ?_)
                  have k73242 := k73241.wr e73242 rfl
                  refine ev_iinc (w := 4) (L' := [(2, 42), (0, 1), (0, 0), (0, ((-v73151) + 48)), (0, (100 * w0 + w1)), (0, 4)]) rfl (by decide) rfl ?_
                  refine ev_goto f267_71 ?_
                  refine ev_iload rfl ?_
                  refine ev_iconst ?_
                  refine ev_icmpge f267_109 (fun c73243 => ?_) (fun c73243 => absurd c73243 (by omega))
                  refine ev_iload rfl ?_
                  refine ev_ret rfl (by decide) (by decide) ?_
                  show jEv _ _ _ _ _ _ _ (_, [(2, 42), (0, a1), (0, 1), (0, (a1 + 2)), (0, 1), (0, (v73151 - 48)), (0, 1)], [(0, (100 * w0 + w1))], _, _, _)
                  refine ev_pop (by decide) ?_
                  refine ev_iload_n rfl ?_
                  exact ev_ret rfl (by decide) (by decide) ⟨⟨_, rfl, by omega, by omega, g73242, k73242⟩, fun r hr h0 => by cases hr; exact (Ad.step (r' := (a1 + 2)) (Ad.step (r' := (a1 + 1)) (Ad.rf _ _ _) (by omega) k73242 (fun _ => rfl) (((jw_ne e73242 (Or.inl (by decide))).trans ((jw_ne e73241 (Or.inl (by decide))).trans ((jw_ne e73239 (Or.inl (by decide))).trans ((jw_ne e73238 (Or.inl (by decide))).trans ((jw_ne e73236 (Or.inl (by decide))).trans ((jw_ne e73235 (Or.inl (by decide))).trans ((jw_ne e73233 (Or.inl (by decide))).trans ((jw_ne e73232 (Or.inl (by decide))).trans ((jw_ne e73230 (Or.inl (by decide))).trans ((jw_ne e73229 (Or.inl (by decide))).trans ((jw_ne e73228 (Or.inl (by decide))).trans ((jw_ne e73226 (Or.inl (by decide))).trans ev72896))))))))))))) (by omega) (by omega) (by omega)) (by omega) k73242 (fun _ => rfl) (((jw_ne e73242 (Or.inl (by decide))).trans ((jw_ne e73241 (Or.inl (by decide))).trans ((jw_ne e73239 (Or.inl (by decide))).trans ((jw_ne e73238 (Or.inl (by decide))).trans ((jw_ne e73236 (Or.inl (by decide))).trans ((jw_ne e73235 (Or.inl (by decide))).trans ((jw_ne e73233 (Or.inl (by decide))).trans ((jw_ne e73232 (Or.inl (by decide))).trans ((jw_ne e73230 (Or.inl (by decide))).trans ((jw_ne e73229 (Or.inl (by decide))).trans ((jw_ne e73228 (Or.inl (by decide))).trans ((jw_ne e73226 (Or.inl (by decide))).trans ev73151))))))))))))) (by omega) (by omega) (by omega)), fun r hr => by cases hr; exact ⟨_, (((jw_ne e73242 (Or.inl (by decide))).trans ((jw_ne e73241 (Or.inl (by decide))).trans ((jw_ne e73239 (Or.inl (by decide))).trans ((jw_ne e73238 (Or.inl (by decide))).trans ((jw_ne e73236 (Or.inl (by decide))).trans ((jw_ne e73235 (Or.inl (by decide))).trans ((jw_ne e73233 (Or.inl (by decide))).trans ((jw_ne e73232 (Or.inl (by decide))).trans ((jw_ne e73230 (Or.inl (by decide))).trans ((jw_ne e73229 (Or.inl (by decide))).trans ((jw_ne e73228 (Or.inl (by decide))).trans (jw_eq e73226))))))))))))), by omega, by omega, (Fr.kp (Fr.w (i := (400 * w0 + 4 * w1 + 3)) (Fr.kp (Fr.w (i := (400 * w0 + 4 * w1 + 2)) (Fr.kp (Fr.w (i := (400 * w0 + 4 * w1 + 1)) (Fr.kp (Fr.w (i := (400 * w0 + 4 * w1)) (Fr.w (i := (100 * w0 + w1)) (Fr.w (i := (100 * w0 + w1)) (Fr.w (i := (100 * w0 + w1)) (Fr.kp (Fr.rf _ _) ((Kp.rf [(42, 0)] _).wr e73226 rfl) (fun _ => rfl) (fun _ => rfl) (fun _ => rfl) (fun _ => rfl)) e73228 (by omega) (by omega)) e73229 (by omega) (by omega)) e73230 (by omega) (by omega)) e73232 (by omega) (by omega)) ((Kp.rf [(52, 0)] _).wr e73233 rfl) (fun _ => rfl) (fun _ => rfl) (fun _ => rfl) (fun _ => rfl)) e73235 (by omega) (by omega)) ((Kp.rf [(52, 0)] _).wr e73236 rfl) (fun _ => rfl) (fun _ => rfl) (fun _ => rfl) (fun _ => rfl)) e73238 (by omega) (by omega)) ((Kp.rf [(52, 0)] _).wr e73239 rfl) (fun _ => rfl) (fun _ => rfl) (fun _ => rfl) (fun _ => rfl)) e73241 (by omega) (by omega)) ((Kp.rf [(52, 0)] _).wr e73242 rfl) (fun _ => rfl) (fun _ => rfl) (fun _ => rfl) (fun _ => rfl)), fun h0 => by omega, fun h0 hm => Tr.end (i := (100 * w0 + w1)) (by omega) (by omega) (by omega) (((jw_ne e73242 (Or.inl (by decide))).trans ((jw_ne e73241 (Or.inl (by decide))).trans ((jw_ne e73239 (Or.inl (by decide))).trans ((jw_ne e73238 (Or.inl (by decide))).trans ((jw_ne e73236 (Or.inl (by decide))).trans ((jw_ne e73235 (Or.inl (by decide))).trans ((jw_ne e73233 (Or.inl (by decide))).trans ((jw_ne e73232 (Or.inl (by decide))).trans ((jw_ne e73230 (Or.inl (by decide))).trans ((jw_ne e73229 (Or.inl (by decide))).trans (jw_eq e73228)))))))))))) (by omega) (by omega)⟩⟩
                · refine ev_iconst ?_
                  refine ev_goto f242_15 ?_
                  refine ev_ret rfl (by decide) (by decide) ?_
                  show jEv _ _ _ _ _ _ _ (_, [(2, 42), (0, (a1 + 2))], [(0, 1)], _, _, _)
                  refine ev_ret rfl (by decide) (by decide) ?_
                  show jEv _ _ _ _ _ _ _ (_, [(2, 42), (0, a1), (0, 1), (0, (a1 + 2)), (0, 1), (0, (v73151 - 48)), (0, 1)], [(0, 1)], _, _, _)
                  refine ev_ifeq f269_86 (fun c73244 => absurd c73244 (by omega)) (fun c73244 => ?_)
                  refine ev_bipush ?_
                  refine ev_iload rfl ?_
                  refine ev_imul (r := (10 * v73151 - 480)) (by unfold w32; omega) ?_
                  refine ev_aload_n rfl ?_
                  refine ev_iload_n rfl ?_
                  refine ev_in (d := 1) (a := 0) (b := 0) (cd' := c264_0) (m := 2) (L0 := [(2, 42), (0, (a1 + 2))]) (jcall_v (A := [(0, (a1 + 2))]) (S' := [(0, (10 * v73151 - 480))]) (r := 42) rfl (g.lt ad42) (g.tg ad42) (Nat.le_of_ble_eq_true rfl)) (by decide) ml264 pp264 (Nat.le_of_ble_eq_true rfl) rfl (by decide) (by decide) ?_
                  refine ev_iload_n rfl ?_
                  refine ev_aload_n rfl ?_
                  refine g_getv (r := 42) (v := v72888) g ad42 (by decide) ft12_17 (ev72888) ?_
                  refine ev_icmpge f264_17 (fun c73245 => absurd c73245 (by omega)) (fun c73245 => ?_)
                  refine ev_aload_n rfl ?_
                  refine g_getp (r := 42) (c := 54) g ad42 (by decide) (by decide) rf42_16 ft12_16 ?_
                  refine ev_iload_n rfl ?_
                  refine g_baldv (v := v73192) g ad54 (by omega) (by omega) (ev73192) ?_
                  refine ev_goto f264_18 ?_
                  refine ev_ret rfl (by decide) (by decide) ?_
                  show jEv _ _ _ _ _ _ _ (_, [(2, 42), (0, a1), (0, 1), (0, (a1 + 2)), (0, 1), (0, (v73151 - 48)), (0, 1)], [(0, v73192), (0, (10 * v73151 - 480))], _, _, _)
                  refine ev_iadd (r := (10 * v73151 + v73192 - 480)) (by unfold w32; omega) ?_
                  refine ev_bipush ?_
                  refine ev_isub (r := (10 * v73151 + v73192 - 528)) (by unfold w32; omega) ?_
                  refine ev_istore (L' := [(2, 42), (0, a1), (0, 1), (0, (a1 + 2)), (0, 1), (0, (10 * v73151 + v73192 - 528)), (0, 1)]) (Nat.le_of_ble_eq_true rfl) rfl ?_
                  refine ev_iinc (w := 2) (L' := [(2, 42), (0, a1), (0, 1), (0, (a1 + 2)), (0, 1), (0, (10 * v73151 + v73192 - 528)), (0, 2)]) rfl (by decide) rfl ?_
                  refine ev_iinc (w := (a1 + 3)) (L' := [(2, 42), (0, a1), (0, 1), (0, (a1 + 3)), (0, 1), (0, (10 * v73151 + v73192 - 528)), (0, 2)]) rfl (by unfold w32; omega) rfl ?_
                  refine ev_goto f269_47 ?_
                  refine ev_iload rfl ?_
                  refine ev_iconst ?_
                  refine ev_icmpge f269_86 (fun c73246 => absurd c73246 (by omega)) (fun c73246 => ?_)
                  refine ev_aload_n rfl ?_
                  refine ev_iload_n rfl ?_
                  refine ev_in (d := 1) (a := 0) (b := 0) (cd' := c265_0) (m := 2) (L0 := [(2, 42), (0, (a1 + 3))]) (jcall_v (A := [(0, (a1 + 3))]) (S' := []) (r := 42) rfl (g.lt ad42) (g.tg ad42) (Nat.le_of_ble_eq_true rfl)) (by decide) ml265 pp265 (Nat.le_of_ble_eq_true rfl) rfl (by decide) (by decide) ?_
                  refine ev_aload_n rfl ?_
                  refine ev_iload_n rfl ?_
                  refine ev_in (d := 0) (a := 0) (b := 0) (cd' := c264_0) (m := 2) (L0 := [(2, 42), (0, (a1 + 3))]) (jcall_v (A := [(0, (a1 + 3))]) (S' := []) (r := 42) rfl (g.lt ad42) (g.tg ad42) (Nat.le_of_ble_eq_true rfl)) (by decide) ml264 pp264 (Nat.le_of_ble_eq_true rfl) rfl (by decide) (by decide) ?_
                  refine ev_iload_n rfl ?_
                  refine ev_aload_n rfl ?_
                  refine g_getv (r := 42) (v := v72888) g ad42 (by decide) ft12_17 (ev72888) ?_
                  refine ev_icmpge f264_17 (fun c73247 => ?_) (fun c73247 => ?_)
                  · refine ev_iconst ?_
                    refine ev_ret rfl (by decide) (by decide) ?_
                    show jEv _ _ _ _ _ _ _ (_, [(2, 42), (0, (a1 + 3))], [(0, (-1))], _, _, _)
                    refine ev_bipush ?_
                    refine ev_bipush ?_
                    refine ev_in (d := 0) (a := 0) (b := 0) (cd' := c242_0) (m := 3) (L0 := [(0, (-1)), (0, 48), (0, 57)]) (jcall_s (A := [(0, 57), (0, 48), (0, (-1))]) (S' := []) (by decide) rfl (Nat.le_of_ble_eq_true rfl)) (by decide) ml242 pp242 (Nat.le_of_ble_eq_true rfl) rfl (by decide) (by decide) ?_
                    refine ev_iload_n rfl ?_
                    refine ev_iload_n rfl ?_
                    refine ev_icmplt f242_14 (fun c73248 => ?_) (fun c73248 => absurd c73248 (by omega))
                    refine ev_iconst ?_
                    refine ev_ret rfl (by decide) (by decide) ?_
                    show jEv _ _ _ _ _ _ _ (_, [(2, 42), (0, (a1 + 3))], [(0, 0)], _, _, _)
                    refine ev_ret rfl (by decide) (by decide) ?_
                    show jEv _ _ _ _ _ _ _ (_, [(2, 42), (0, a1), (0, 1), (0, (a1 + 3)), (0, 1), (0, (10 * v73151 + v73192 - 528)), (0, 2)], [(0, 0)], _, _, _)
                    refine ev_ifeq f269_86 (fun c73249 => ?_) (fun c73249 => absurd c73249 (by omega))
                    refine ev_aload_n rfl ?_
                    refine ev_iload_n rfl ?_
                    refine ev_in (d := 1) (a := 0) (b := 0) (cd' := c265_0) (m := 2) (L0 := [(2, 42), (0, (a1 + 3))]) (jcall_v (A := [(0, (a1 + 3))]) (S' := []) (r := 42) rfl (g.lt ad42) (g.tg ad42) (Nat.le_of_ble_eq_true rfl)) (by decide) ml265 pp265 (Nat.le_of_ble_eq_true rfl) rfl (by decide) (by decide) ?_
                    refine ev_aload_n rfl ?_
                    refine ev_iload_n rfl ?_
                    refine ev_in (d := 0) (a := 0) (b := 0) (cd' := c264_0) (m := 2) (L0 := [(2, 42), (0, (a1 + 3))]) (jcall_v (A := [(0, (a1 + 3))]) (S' := []) (r := 42) rfl (g.lt ad42) (g.tg ad42) (Nat.le_of_ble_eq_true rfl)) (by decide) ml264 pp264 (Nat.le_of_ble_eq_true rfl) rfl (by decide) (by decide) ?_
                    refine ev_iload_n rfl ?_
                    refine ev_aload_n rfl ?_
                    refine g_getv (r := 42) (v := v72888) g ad42 (by decide) ft12_17 (ev72888) ?_
                    refine ev_icmpge f264_17 (fun c73250 => ?_) (fun c73250 => absurd c73250 (by omega))
                    refine ev_iconst ?_
                    refine ev_ret rfl (by decide) (by decide) ?_
                    show jEv _ _ _ _ _ _ _ (_, [(2, 42), (0, (a1 + 3))], [(0, (-1))], _, _, _)
                    refine ev_bipush ?_
                    refine ev_bipush ?_
                    refine ev_in (d := 0) (a := 0) (b := 0) (cd' := c242_0) (m := 3) (L0 := [(0, (-1)), (0, 48), (0, 57)]) (jcall_s (A := [(0, 57), (0, 48), (0, (-1))]) (S' := []) (by decide) rfl (Nat.le_of_ble_eq_true rfl)) (by decide) ml242 pp242 (Nat.le_of_ble_eq_true rfl) rfl (by decide) (by decide) ?_
                    refine ev_iload_n rfl ?_
                    refine ev_iload_n rfl ?_
                    refine ev_icmplt f242_14 (fun c73251 => ?_) (fun c73251 => absurd c73251 (by omega))
                    refine ev_iconst ?_
                    refine ev_ret rfl (by decide) (by decide) ?_
                    show jEv _ _ _ _ _ _ _ (_, [(2, 42), (0, (a1 + 3))], [(0, 0)], _, _, _)
                    refine ev_ret rfl (by decide) (by decide) ?_
                    show jEv _ _ _ _ _ _ _ (_, [(2, 42), (0, a1), (0, 1), (0, (a1 + 3)), (0, 1), (0, (10 * v73151 + v73192 - 528)), (0, 2)], [(0, 0)], _, _, _)
                    refine ev_ifeq f269_100 (fun c73252 => ?_) (fun c73252 => absurd c73252 (by omega))
                    refine ev_aload_n rfl ?_
                    refine ev_iload_n rfl ?_
                    refine ev_iconst ?_
                    refine ev_iload rfl ?_
                    refine ev_ifeq f269_114 (fun c73253 => absurd c73253 (by omega)) (fun c73253 => ?_)
                    refine ev_iload rfl ?_
                    refine ev_ineg (r := ((-10) * v73151 + (-v73192) + 528)) (by unfold w32; omega) ?_
                    refine ev_goto f269_116 ?_
                    refine ev_in (d := 1) (a := 0) (b := 0) (cd' := c267_0) (m := 6) (L0 := [(2, 42), (0, 1), (0, 0), (0, ((-10) * v73151 + (-v73192) + 528)), (9, 0), (9, 0)]) (jcall_v (A := [(0, ((-10) * v73151 + (-v73192) + 528)), (0, 0), (0, 1)]) (S' := []) (r := 42) rfl (g.lt ad42) (g.tg ad42) (Nat.le_of_ble_eq_true rfl)) (by decide) ml267 pp267 (Nat.le_of_ble_eq_true rfl) rfl (by decide) (by decide) ?_
                    refine ev_iload_n rfl ?_
                    refine ev_ifne f267_6 (fun c73254 => ?_) (fun c73254 => absurd c73254 (by omega))
                    refine ev_aload_n rfl ?_
                    refine ev_dup (by decide) ?_
                    refine g_getv (r := 42) (v := w1) g ad42 (by decide) ft12_21 (ew1) ?_
                    refine ev_iconst ?_
                    refine ev_iadd (r := (w1 + 1)) (by unfold w32; omega) ?_
                    refine g_putf (r := 42) g ad42 (by decide) ft12_21 (by decide) (fun e => absurd e nz12_21) rf42_21 (by decide) (by omega) (by omega) (fun h73255 e73255 g73255 => ?_)
                    have k73255 := k0.wr e73255 rfl
                    refine ev_aload_n rfl ?_
                    refine g_getv (r := 42) (v := (w1 + 1)) g73255 ad42 (by decide) ft12_21 ((jw_eq e73255)) ?_
                    refine ev_bipush ?_
                    refine ev_icmple f267_27 (fun c73256 => ?_) (fun c73256 => absurd c73256 (by omega))
                    refine ev_bipush ?_
                    refine ev_aload_n rfl ?_
                    refine g_getv (r := 42) (v := w0) g73255 ad42 (by decide) ft12_9 (((jw_ne e73255 (Or.inr (by decide))).trans ew0)) ?_
                    refine ev_imul (r := (100 * w0)) (by unfold w32; omega) ?_
                    refine ev_aload_n rfl ?_
                    refine g_getv (r := 42) (v := (w1 + 1)) g73255 ad42 (by decide) ft12_21 ((jw_eq e73255)) ?_
                    refine ev_iadd (r := (100 * w0 + w1 + 1)) (by unfold w32; omega) ?_
                    refine ev_iconst ?_
                    refine ev_isub (r := (100 * w0 + w1)) (by unfold w32; omega) ?_
                    refine ev_istore (L' := [(2, 42), (0, 1), (0, 0), (0, ((-10) * v73151 + (-v73192) + 528)), (0, (100 * w0 + w1)), (9, 0)]) (Nat.le_of_ble_eq_true rfl) rfl ?_
                    refine ev_aload_n rfl ?_
                    refine g_getp (r := 42) (c := 49) g73255 ad42 (by decide) (by decide) rf42_11 ft12_11 ?_
                    refine ev_iload rfl ?_
                    refine ev_iload_n rfl ?_
                    refine ev_i2b (r := 0) (by unfold w8; omega) ?_
                    refine ev_bastG (r := 49) (j := ((100 * w0 + w1)).toNat) (w := 0) (g73255.lt ad49) (g73255.tg ad49) (by omega) (by rw [g73255.ln ad49]; omega) (by unfold w8; omega) (fun h73257 e73257 => ?_)
                    have g73257 := g73255.s49 e73257 (by rw [(((jw_ne e73255 (Or.inr (by decide))).trans ew0))]; omega) (by omega) (by omega)
                    have k73257 := k73255.wr e73257 rfl
                    refine ev_aload_n rfl ?_
                    refine g_getp (r := 42) (c := 50) g73257 ad42 (by decide) (by decide) rf42_12 ft12_12 ?_
                    refine ev_iload rfl ?_
                    refine ev_iload_n rfl ?_
                    refine ev_iastG (r := 50) (j := ((100 * w0 + w1)).toNat) (g73257.lt ad50) (g73257.tg ad50) (by omega) (by rw [g73257.ln ad50]; omega) (fun h73258 e73258 => ?_)
                    have g73258 := g73257.s50 e73258 (Or.inl (by rw [(((jw_ne e73257 (Or.inl (by decide))).trans ((jw_ne e73255 (Or.inr (by decide))).trans ew0)))]; omega)) (by omega) (by omega)
                    have k73258 := k73257.wr e73258 rfl
                    refine ev_aload_n rfl ?_
                    refine g_getp (r := 42) (c := 53) g73258 ad42 (by decide) (by decide) rf42_15 ft12_15 ?_
                    refine ev_iload rfl ?_
                    refine ev_iconst ?_
                    refine ev_bastG (r := 53) (j := ((100 * w0 + w1)).toNat) (w := 0) (g73258.lt ad53) (g73258.tg ad53) (by omega) (by rw [g73258.ln ad53]; omega) (by unfold w8; omega) (fun h73259 e73259 => ?_)
                    have g73259 := g73258.s53 e73259 (Or.inl (by rw [(((jw_ne e73258 (Or.inl (by decide))).trans ((jw_ne e73257 (Or.inl (by decide))).trans ((jw_ne e73255 (Or.inr (by decide))).trans ew0))))]; omega)) (by omega) (by omega)
                    have k73259 := k73258.wr e73259 rfl
                    refine ev_iconst ?_
                    refine ev_istore (L' := [(2, 42), (0, 1), (0, 0), (0, ((-10) * v73151 + (-v73192) + 528)), (0, (100 * w0 + w1)), (0, 0)]) (Nat.le_of_ble_eq_true rfl) rfl ?_
                    refine ev_iload rfl ?_
                    refine ev_iconst ?_
                    refine ev_icmpge f267_109 (fun c73260 => absurd c73260 (by omega)) (fun c73260 => ?_)
                    refine ev_aload_n rfl ?_
                    refine g_getp (r := 42) (c := 51) g73259 ad42 (by decide) (by decide) rf42_13 ft12_13 ?_
                    refine ev_iconst ?_
                    refine ev_iload rfl ?_
                    refine ev_imul (r := (400 * w0 + 4 * w1)) (by unfold w32; omega) ?_
                    refine ev_iload rfl ?_
                    refine ev_iadd (r := (400 * w0 + 4 * w1)) (by unfold w32; omega) ?_
                    refine ev_iconst ?_
                    refine ev_bastG (r := 51) (j := ((400 * w0 + 4 * w1)).toNat) (w := (-1)) (g73259.lt ad51) (g73259.tg ad51) (by omega) (by rw [g73259.ln ad51]; omega) (by unfold w8; omega) (fun h73261 e73261 => ?_)
                    have g73261 := g73259.s51 e73261 (by rw [(((jw_ne e73259 (Or.inl (by decide))).trans ((jw_ne e73258 (Or.inl (by decide))).trans ((jw_ne e73257 (Or.inl (by decide))).trans ((jw_ne e73255 (Or.inr (by decide))).trans ew0)))))]; omega) (by omega) (by omega)
                    have k73261 := k73259.wr e73261 rfl
                    refine ev_aload_n rfl ?_
                    refine g_getp (r := 42) (c := 52) g73261 ad42 (by decide) (by decide) rf42_14 ft12_14 ?_
                    refine ev_iconst ?_
                    refine ev_iload rfl ?_
                    refine ev_imul (r := (400 * w0 + 4 * w1)) (by unfold w32; omega) ?_
                    refine ev_iload rfl ?_
                    refine ev_iadd (r := (400 * w0 + 4 * w1)) (by unfold w32; omega) ?_
                    refine ev_iconst ?_
                    refine g_iast g73261 ad52 rt52 (fun _ => rfl) (by omega) (by omega) (by omega) (by omega) (fun h73262 e73262 g73262 => ?_)
                    have k73262 := k73261.wr e73262 rfl
                    refine ev_iinc (w := 1) (L' := [(2, 42), (0, 1), (0, 0), (0, ((-10) * v73151 + (-v73192) + 528)), (0, (100 * w0 + w1)), (0, 1)]) rfl (by decide) rfl ?_
                    refine ev_goto f267_71 ?_
                    refine ev_iload rfl ?_
                    refine ev_iconst ?_
                    refine ev_icmpge f267_109 (fun c73263 => absurd c73263 (by omega)) (fun c73263 => ?_)
                    refine ev_aload_n rfl ?_
                    refine g_getp (r := 42) (c := 51) g73262 ad42 (by decide) (by decide) rf42_13 ft12_13 ?_
                    refine ev_iconst ?_
                    refine ev_iload rfl ?_
                    refine ev_imul (r := (400 * w0 + 4 * w1)) (by unfold w32; omega) ?_
                    refine ev_iload rfl ?_
                    refine ev_iadd (r := (400 * w0 + 4 * w1 + 1)) (by unfold w32; omega) ?_
                    refine ev_iconst ?_
                    refine ev_bastG (r := 51) (j := ((400 * w0 + 4 * w1 + 1)).toNat) (w := (-1)) (g73262.lt ad51) (g73262.tg ad51) (by omega) (by rw [g73262.ln ad51]; omega) (by unfold w8; omega) (fun h73264 e73264 => ?_)
                    have g73264 := g73262.s51 e73264 (by rw [(((jw_ne e73262 (Or.inl (by decide))).trans ((jw_ne e73261 (Or.inl (by decide))).trans ((jw_ne e73259 (Or.inl (by decide))).trans ((jw_ne e73258 (Or.inl (by decide))).trans ((jw_ne e73257 (Or.inl (by decide))).trans ((jw_ne e73255 (Or.inr (by decide))).trans ew0)))))))]; omega) (by omega) (by omega)
                    have k73264 := k73262.wr e73264 rfl
                    refine ev_aload_n rfl ?_
                    refine g_getp (r := 42) (c := 52) g73264 ad42 (by decide) (by decide) rf42_14 ft12_14 ?_
                    refine ev_iconst ?_
                    refine ev_iload rfl ?_
                    refine ev_imul (r := (400 * w0 + 4 * w1)) (by unfold w32; omega) ?_
                    refine ev_iload rfl ?_
                    refine ev_iadd (r := (400 * w0 + 4 * w1 + 1)) (by unfold w32; omega) ?_
                    refine ev_iconst ?_
                    refine g_iast g73264 ad52 rt52 (fun _ => rfl) (by omega) (by omega) (by omega) (by omega) (fun h73265 e73265 g73265 => ?_)
                    have k73265 := k73264.wr e73265 rfl
                    refine ev_iinc (w := 2) (L' := [(2, 42), (0, 1), (0, 0), (0, ((-10) * v73151 + (-v73192) + 528)), (0, (100 * w0 + w1)), (0, 2)]) rfl (by decide) rfl ?_
                    refine ev_goto f267_71 ?_
                    refine ev_iload rfl ?_
                    refine ev_iconst ?_
                    refine ev_icmpge f267_109 (fun c73266 => absurd c73266 (by omega)) (fun c73266 => ?_)
                    refine ev_aload_n rfl ?_
                    refine g_getp (r := 42) (c := 51) g73265 ad42 (by decide) (by decide) rf42_13 ft12_13 ?_
                    refine ev_iconst ?_
                    refine ev_iload rfl ?_
                    refine ev_imul (r := (400 * w0 + 4 * w1)) (by unfold w32; omega) ?_
                    refine ev_iload rfl ?_
                    refine ev_iadd (r := (400 * w0 + 4 * w1 + 2)) (by unfold w32; omega) ?_
                    refine ev_iconst ?_
                    refine ev_bastG (r := 51) (j := ((400 * w0 + 4 * w1 + 2)).toNat) (w := (-1)) (g73265.lt ad51) (g73265.tg ad51) (by omega) (by rw [g73265.ln ad51]; omega) (by unfold w8; omega) (fun h73267 e73267 => ?_)
                    have g73267 := g73265.s51 e73267 (by rw [(((jw_ne e73265 (Or.inl (by decide))).trans ((jw_ne e73264 (Or.inl (by decide))).trans ((jw_ne e73262 (Or.inl (by decide))).trans ((jw_ne e73261 (Or.inl (by decide))).trans ((jw_ne e73259 (Or.inl (by decide))).trans ((jw_ne e73258 (Or.inl (by decide))).trans ((jw_ne e73257 (Or.inl (by decide))).trans ((jw_ne e73255 (Or.inr (by decide))).trans ew0)))))))))]; omega) (by omega) (by omega)
                    have k73267 := k73265.wr e73267 rfl
                    refine ev_aload_n rfl ?_
                    refine g_getp (r := 42) (c := 52) g73267 ad42 (by decide) (by decide) rf42_14 ft12_14 ?_
                    refine ev_iconst ?_
                    refine ev_iload rfl ?_
                    refine ev_imul (r := (400 * w0 + 4 * w1)) (by unfold w32; omega) ?_
                    refine ev_iload rfl ?_
                    refine ev_iadd (r := (400 * w0 + 4 * w1 + 2)) (by unfold w32; omega) ?_
                    refine ev_iconst ?_
                    refine g_iast g73267 ad52 rt52 (fun _ => rfl) (by omega) (by omega) (by omega) (by omega) (fun h73268 e73268 g73268 => ?_)
                    have k73268 := k73267.wr e73268 rfl
                    refine ev_iinc (w := 3) (L' := [(2, 42), (0, 1), (0, 0), (0, ((-10) * v73151 + (-v73192) + 528)), (0, (100 * w0 + w1)), (0, 3)]) rfl (by decide) rfl ?_
                    refine ev_goto f267_71 ?_
                    refine ev_iload rfl ?_
                    refine ev_iconst ?_
                    refine ev_icmpge f267_109 (fun c73269 => absurd c73269 (by omega)) (fun c73269 => ?_)
                    refine ev_aload_n rfl ?_
                    refine g_getp (r := 42) (c := 51) g73268 ad42 (by decide) (by decide) rf42_13 ft12_13 ?_
                    refine ev_iconst ?_
                    refine ev_iload rfl ?_
                    refine ev_imul (r := (400 * w0 + 4 * w1)) (by unfold w32; omega) ?_
                    refine ev_iload rfl ?_
                    refine ev_iadd (r := (400 * w0 + 4 * w1 + 3)) (by unfold w32; omega) ?_
                    refine ev_iconst ?_
                    refine ev_bastG (r := 51) (j := ((400 * w0 + 4 * w1 + 3)).toNat) (w := (-1)) (g73268.lt ad51) (g73268.tg ad51) (by omega) (by rw [g73268.ln ad51]; omega) (by unfold w8; omega) (fun h73270 e73270 => ?_)
                    have g73270 := g73268.s51 e73270 (by rw [(((jw_ne e73268 (Or.inl (by decide))).trans ((jw_ne e73267 (Or.inl (by decide))).trans ((jw_ne e73265 (Or.inl (by decide))).trans ((jw_ne e73264 (Or.inl (by decide))).trans ((jw_ne e73262 (Or.inl (by decide))).trans ((jw_ne e73261 (Or.inl (by decide))).trans ((jw_ne e73259 (Or.inl (by decide))).trans ((jw_ne e73258 (Or.inl (by decide))).trans ((jw_ne e73257 (Or.inl (by decide))).trans ((jw_ne e73255 (Or.inr (by decide))).trans ew0)))))))))))]; omega) (by omega) (by omega)
                    have k73270 := k73268.wr e73270 rfl
                    refine ev_aload_n rfl ?_
                    refine g_getp (r := 42) (c := 52) g73270 ad42 (by decide) (by decide) rf42_14 ft12_14 ?_
                    refine ev_iconst ?_
                    refine ev_iload rfl ?_
                    refine ev_imul (r := (400 * w0 + 4 * w1)) (by unfold w32; omega) ?_
                    refine ev_iload rfl ?_
                    refine ev_iadd (r := (400 * w0 + 4 * w1 + 3)) (by unfold w32; omega) ?_
                    refine ev_iconst ?_
                    refine g_iast g73270 ad52 rt52 (fun _ => rfl) (by omega) (by omega) (by omega) (by omega) (fun h73271 e73271 g73271 => ?_)
                    have k73271 := k73270.wr e73271 rfl
                    refine ev_iinc (w := 4) (L' := [(2, 42), (0, 1), (0, 0), (0, ((-10) * v73151 + (-v73192) + 528)), (0, (100 * w0 + w1)), (0, 4)]) rfl (by decide) rfl ?_
                    refine ev_goto f267_71 ?_
                    refine ev_iload rfl ?_
                    refine ev_iconst ?_
                    refine ev_icmpge f267_109 (fun c73272 => ?_) (fun c73272 => absurd c73272 (by omega))
                    refine ev_iload rfl ?_
                    refine ev_ret rfl (by decide) (by decide) ?_
                    show jEv _ _ _ _ _ _ _ (_, [(2, 42), (0, a1), (0, 1), (0, (a1 + 3)), (0, 1), (0, (10 * v73151 + v73192 - 528)), (0, 2)], [(0, (100 * w0 + w1))], _, _, _)
                    refine ev_pop (by decide) ?_
                    refine ev_iload_n rfl ?_
                    exact ev_ret rfl (by decide) (by decide) ⟨⟨_, rfl, by omega, by omega, g73271, k73271⟩, fun r hr h0 => by cases hr; exact (Ad.step (r' := (a1 + 3)) (Ad.step (r' := (a1 + 2)) (Ad.step (r' := (a1 + 1)) (Ad.rf _ _ _) (by omega) k73271 (fun _ => rfl) (((jw_ne e73271 (Or.inl (by decide))).trans ((jw_ne e73270 (Or.inl (by decide))).trans ((jw_ne e73268 (Or.inl (by decide))).trans ((jw_ne e73267 (Or.inl (by decide))).trans ((jw_ne e73265 (Or.inl (by decide))).trans ((jw_ne e73264 (Or.inl (by decide))).trans ((jw_ne e73262 (Or.inl (by decide))).trans ((jw_ne e73261 (Or.inl (by decide))).trans ((jw_ne e73259 (Or.inl (by decide))).trans ((jw_ne e73258 (Or.inl (by decide))).trans ((jw_ne e73257 (Or.inl (by decide))).trans ((jw_ne e73255 (Or.inl (by decide))).trans ev72896))))))))))))) (by omega) (by omega) (by omega)) (by omega) k73271 (fun _ => rfl) (((jw_ne e73271 (Or.inl (by decide))).trans ((jw_ne e73270 (Or.inl (by decide))).trans ((jw_ne e73268 (Or.inl (by decide))).trans ((jw_ne e73267 (Or.inl (by decide))).trans ((jw_ne e73265 (Or.inl (by decide))).trans ((jw_ne e73264 (Or.inl (by decide))).trans ((jw_ne e73262 (Or.inl (by decide))).trans ((jw_ne e73261 (Or.inl (by decide))).trans ((jw_ne e73259 (Or.inl (by decide))).trans ((jw_ne e73258 (Or.inl (by decide))).trans ((jw_ne e73257 (Or.inl (by decide))).trans ((jw_ne e73255 (Or.inl (by decide))).trans ev73151))))))))))))) (by omega) (by omega) (by omega)) (by omega) k73271 (fun _ => rfl) (((jw_ne e73271 (Or.inl (by decide))).trans ((jw_ne e73270 (Or.inl (by decide))).trans ((jw_ne e73268 (Or.inl (by decide))).trans ((jw_ne e73267 (Or.inl (by decide))).trans ((jw_ne e73265 (Or.inl (by decide))).trans ((jw_ne e73264 (Or.inl (by decide))).trans ((jw_ne e73262 (Or.inl (by decide))).trans ((jw_ne e73261 (Or.inl (by decide))).trans ((jw_ne e73259 (Or.inl (by decide))).trans ((jw_ne e73258 (Or.inl (by decide))).trans ((jw_ne e73257 (Or.inl (by decide))).trans ((jw_ne e73255 (Or.inl (by decide))).trans ev73192))))))))))))) (by omega) (by omega) (by omega)), fun r hr => by cases hr; exact ⟨_, (((jw_ne e73271 (Or.inl (by decide))).trans ((jw_ne e73270 (Or.inl (by decide))).trans ((jw_ne e73268 (Or.inl (by decide))).trans ((jw_ne e73267 (Or.inl (by decide))).trans ((jw_ne e73265 (Or.inl (by decide))).trans ((jw_ne e73264 (Or.inl (by decide))).trans ((jw_ne e73262 (Or.inl (by decide))).trans ((jw_ne e73261 (Or.inl (by decide))).trans ((jw_ne e73259 (Or.inl (by decide))).trans ((jw_ne e73258 (Or.inl (by decide))).trans ((jw_ne e73257 (Or.inl (by decide))).trans (jw_eq e73255))))))))))))), by omega, by omega, (Fr.kp (Fr.w (i := (400 * w0 + 4 * w1 + 3)) (Fr.kp (Fr.w (i := (400 * w0 + 4 * w1 + 2)) (Fr.kp (Fr.w (i := (400 * w0 + 4 * w1 + 1)) (Fr.kp (Fr.w (i := (400 * w0 + 4 * w1)) (Fr.w (i := (100 * w0 + w1)) (Fr.w (i := (100 * w0 + w1)) (Fr.w (i := (100 * w0 + w1)) (Fr.kp (Fr.rf _ _) ((Kp.rf [(42, 0)] _).wr e73255 rfl) (fun _ => rfl) (fun _ => rfl) (fun _ => rfl) (fun _ => rfl)) e73257 (by omega) (by omega)) e73258 (by omega) (by omega)) e73259 (by omega) (by omega)) e73261 (by omega) (by omega)) ((Kp.rf [(52, 0)] _).wr e73262 rfl) (fun _ => rfl) (fun _ => rfl) (fun _ => rfl) (fun _ => rfl)) e73264 (by omega) (by omega)) ((Kp.rf [(52, 0)] _).wr e73265 rfl) (fun _ => rfl) (fun _ => rfl) (fun _ => rfl) (fun _ => rfl)) e73267 (by omega) (by omega)) ((Kp.rf [(52, 0)] _).wr e73268 rfl) (fun _ => rfl) (fun _ => rfl) (fun _ => rfl) (fun _ => rfl)) e73270 (by omega) (by omega)) ((Kp.rf [(52, 0)] _).wr e73271 rfl) (fun _ => rfl) (fun _ => rfl) (fun _ => rfl) (fun _ => rfl)), fun h0 => by omega, fun h0 hm => Tr.end (i := (100 * w0 + w1)) (by omega) (by omega) (by omega) (((jw_ne e73271 (Or.inl (by decide))).trans ((jw_ne e73270 (Or.inl (by decide))).trans ((jw_ne e73268 (Or.inl (by decide))).trans ((jw_ne e73267 (Or.inl (by decide))).trans ((jw_ne e73265 (Or.inl (by decide))).trans ((jw_ne e73264 (Or.inl (by decide))).trans ((jw_ne e73262 (Or.inl (by decide))).trans ((jw_ne e73261 (Or.inl (by decide))).trans ((jw_ne e73259 (Or.inl (by decide))).trans ((jw_ne e73258 (Or.inl (by decide))).trans (jw_eq e73257)))))))))))) (by omega) (by omega)⟩⟩
                  · refine ev_aload_n rfl ?_
                    refine g_getp (r := 42) (c := 54) g ad42 (by decide) (by decide) rf42_16 ft12_16 ?_
                    refine ev_iload_n rfl ?_
                    refine g_bald g ad54 rt54 (by omega) (by omega) (fun v73273 ev73273 lv73273 uv73273 => ?_)
                    refine ev_goto f264_18 ?_
                    refine ev_ret rfl (by decide) (by decide) ?_
                    show jEv _ _ _ _ _ _ _ (_, [(2, 42), (0, (a1 + 3))], [(0, v73273)], _, _, _)
                    refine ev_bipush ?_
                    refine ev_bipush ?_
                    refine ev_in (d := 0) (a := 0) (b := 0) (cd' := c242_0) (m := 3) (L0 := [(0, v73273), (0, 48), (0, 57)]) (jcall_s (A := [(0, 57), (0, 48), (0, v73273)]) (S' := []) (by decide) rfl (Nat.le_of_ble_eq_true rfl)) (by decide) ml242 pp242 (Nat.le_of_ble_eq_true rfl) rfl (by decide) (by decide) ?_
                    refine ev_iload_n rfl ?_
                    refine ev_iload_n rfl ?_
                    refine ev_icmplt f242_14 (fun c73274 => ?_) (fun c73274 => ?_)
                    · refine ev_iconst ?_
                      refine ev_ret rfl (by decide) (by decide) ?_
                      show jEv _ _ _ _ _ _ _ (_, [(2, 42), (0, (a1 + 3))], [(0, 0)], _, _, _)
                      refine ev_ret rfl (by decide) (by decide) ?_
                      show jEv _ _ _ _ _ _ _ (_, [(2, 42), (0, a1), (0, 1), (0, (a1 + 3)), (0, 1), (0, (10 * v73151 + v73192 - 528)), (0, 2)], [(0, 0)], _, _, _)
                      refine ev_ifeq f269_86 (fun c73275 => ?_) (fun c73275 => absurd c73275 (by omega))
                      refine ev_aload_n rfl ?_
                      refine ev_iload_n rfl ?_
                      refine ev_in (d := 1) (a := 0) (b := 0) (cd' := c265_0) (m := 2) (L0 := [(2, 42), (0, (a1 + 3))]) (jcall_v (A := [(0, (a1 + 3))]) (S' := []) (r := 42) rfl (g.lt ad42) (g.tg ad42) (Nat.le_of_ble_eq_true rfl)) (by decide) ml265 pp265 (Nat.le_of_ble_eq_true rfl) rfl (by decide) (by decide) ?_
                      refine ev_aload_n rfl ?_
                      refine ev_iload_n rfl ?_
                      refine ev_in (d := 0) (a := 0) (b := 0) (cd' := c264_0) (m := 2) (L0 := [(2, 42), (0, (a1 + 3))]) (jcall_v (A := [(0, (a1 + 3))]) (S' := []) (r := 42) rfl (g.lt ad42) (g.tg ad42) (Nat.le_of_ble_eq_true rfl)) (by decide) ml264 pp264 (Nat.le_of_ble_eq_true rfl) rfl (by decide) (by decide) ?_
                      refine ev_iload_n rfl ?_
                      refine ev_aload_n rfl ?_
                      refine g_getv (r := 42) (v := v72888) g ad42 (by decide) ft12_17 (ev72888) ?_
                      refine ev_icmpge f264_17 (fun c73276 => absurd c73276 (by omega)) (fun c73276 => ?_)
                      refine ev_aload_n rfl ?_
                      refine g_getp (r := 42) (c := 54) g ad42 (by decide) (by decide) rf42_16 ft12_16 ?_
                      refine ev_iload_n rfl ?_
                      refine g_baldv (v := v73273) g ad54 (by omega) (by omega) (ev73273) ?_
                      refine ev_goto f264_18 ?_
                      refine ev_ret rfl (by decide) (by decide) ?_
                      show jEv _ _ _ _ _ _ _ (_, [(2, 42), (0, (a1 + 3))], [(0, v73273)], _, _, _)
                      refine ev_bipush ?_
                      refine ev_bipush ?_
                      refine ev_in (d := 0) (a := 0) (b := 0) (cd' := c242_0) (m := 3) (L0 := [(0, v73273), (0, 48), (0, 57)]) (jcall_s (A := [(0, 57), (0, 48), (0, v73273)]) (S' := []) (by decide) rfl (Nat.le_of_ble_eq_true rfl)) (by decide) ml242 pp242 (Nat.le_of_ble_eq_true rfl) rfl (by decide) (by decide) ?_
                      refine ev_iload_n rfl ?_
                      refine ev_iload_n rfl ?_
                      refine ev_icmplt f242_14 (fun c73277 => ?_) (fun c73277 => absurd c73277 (by omega))
                      refine ev_iconst ?_
                      refine ev_ret rfl (by decide) (by decide) ?_
                      show jEv _ _ _ _ _ _ _ (_, [(2, 42), (0, (a1 + 3))], [(0, 0)], _, _, _)
                      refine ev_ret rfl (by decide) (by decide) ?_
                      show jEv _ _ _ _ _ _ _ (_, [(2, 42), (0, a1), (0, 1), (0, (a1 + 3)), (0, 1), (0, (10 * v73151 + v73192 - 528)), (0, 2)], [(0, 0)], _, _, _)
                      refine ev_ifeq f269_100 (fun c73278 => ?_) (fun c73278 => absurd c73278 (by omega))
                      refine ev_aload_n rfl ?_
                      refine ev_iload_n rfl ?_
                      refine ev_iconst ?_
                      refine ev_iload rfl ?_
                      refine ev_ifeq f269_114 (fun c73279 => absurd c73279 (by omega)) (fun c73279 => ?_)
                      refine ev_iload rfl ?_
                      refine ev_ineg (r := ((-10) * v73151 + (-v73192) + 528)) (by unfold w32; omega) ?_
                      refine ev_goto f269_116 ?_
                      refine ev_in (d := 1) (a := 0) (b := 0) (cd' := c267_0) (m := 6) (L0 := [(2, 42), (0, 1), (0, 0), (0, ((-10) * v73151 + (-v73192) + 528)), (9, 0), (9, 0)]) (jcall_v (A := [(0, ((-10) * v73151 + (-v73192) + 528)), (0, 0), (0, 1)]) (S' := []) (r := 42) rfl (g.lt ad42) (g.tg ad42) (Nat.le_of_ble_eq_true rfl)) (by decide) ml267 pp267 (Nat.le_of_ble_eq_true rfl) rfl (by decide) (by decide) ?_
                      refine ev_iload_n rfl ?_
                      refine ev_ifne f267_6 (fun c73280 => ?_) (fun c73280 => absurd c73280 (by omega))
                      refine ev_aload_n rfl ?_
                      refine ev_dup (by decide) ?_
                      refine g_getv (r := 42) (v := w1) g ad42 (by decide) ft12_21 (ew1) ?_
                      refine ev_iconst ?_
                      refine ev_iadd (r := (w1 + 1)) (by unfold w32; omega) ?_
                      refine g_putf (r := 42) g ad42 (by decide) ft12_21 (by decide) (fun e => absurd e nz12_21) rf42_21 (by decide) (by omega) (by omega) (fun h73281 e73281 g73281 => ?_)
                      have k73281 := k0.wr e73281 rfl
                      refine ev_aload_n rfl ?_
                      refine g_getv (r := 42) (v := (w1 + 1)) g73281 ad42 (by decide) ft12_21 ((jw_eq e73281)) ?_
                      refine ev_bipush ?_
                      refine ev_icmple f267_27 (fun c73282 => ?_) (fun c73282 => absurd c73282 (by omega))
                      refine ev_bipush ?_
                      refine ev_aload_n rfl ?_
                      refine g_getv (r := 42) (v := w0) g73281 ad42 (by decide) ft12_9 (((jw_ne e73281 (Or.inr (by decide))).trans ew0)) ?_
                      refine ev_imul (r := (100 * w0)) (by unfold w32; omega) ?_
                      refine ev_aload_n rfl ?_
                      refine g_getv (r := 42) (v := (w1 + 1)) g73281 ad42 (by decide) ft12_21 ((jw_eq e73281)) ?_
                      refine ev_iadd (r := (100 * w0 + w1 + 1)) (by unfold w32; omega) ?_
                      refine ev_iconst ?_
                      refine ev_isub (r := (100 * w0 + w1)) (by unfold w32; omega) ?_
                      refine ev_istore (L' := [(2, 42), (0, 1), (0, 0), (0, ((-10) * v73151 + (-v73192) + 528)), (0, (100 * w0 + w1)), (9, 0)]) (Nat.le_of_ble_eq_true rfl) rfl ?_
                      refine ev_aload_n rfl ?_
                      refine g_getp (r := 42) (c := 49) g73281 ad42 (by decide) (by decide) rf42_11 ft12_11 ?_
                      refine ev_iload rfl ?_
                      refine ev_iload_n rfl ?_
                      refine ev_i2b (r := 0) (by unfold w8; omega) ?_
                      refine ev_bastG (r := 49) (j := ((100 * w0 + w1)).toNat) (w := 0) (g73281.lt ad49) (g73281.tg ad49) (by omega) (by rw [g73281.ln ad49]; omega) (by unfold w8; omega) (fun h73283 e73283 => ?_)
                      have g73283 := g73281.s49 e73283 (by rw [(((jw_ne e73281 (Or.inr (by decide))).trans ew0))]; omega) (by omega) (by omega)
                      have k73283 := k73281.wr e73283 rfl
                      refine ev_aload_n rfl ?_
                      refine g_getp (r := 42) (c := 50) g73283 ad42 (by decide) (by decide) rf42_12 ft12_12 ?_
                      refine ev_iload rfl ?_
                      refine ev_iload_n rfl ?_
                      refine ev_iastG (r := 50) (j := ((100 * w0 + w1)).toNat) (g73283.lt ad50) (g73283.tg ad50) (by omega) (by rw [g73283.ln ad50]; omega) (fun h73284 e73284 => ?_)
                      have g73284 := g73283.s50 e73284 (Or.inl (by rw [(((jw_ne e73283 (Or.inl (by decide))).trans ((jw_ne e73281 (Or.inr (by decide))).trans ew0)))]; omega)) (by omega) (by omega)
                      have k73284 := k73283.wr e73284 rfl
                      refine ev_aload_n rfl ?_
                      refine g_getp (r := 42) (c := 53) g73284 ad42 (by decide) (by decide) rf42_15 ft12_15 ?_
                      refine ev_iload rfl ?_
                      refine ev_iconst ?_
                      refine ev_bastG (r := 53) (j := ((100 * w0 + w1)).toNat) (w := 0) (g73284.lt ad53) (g73284.tg ad53) (by omega) (by rw [g73284.ln ad53]; omega) (by unfold w8; omega) (fun h73285 e73285 => ?_)
                      have g73285 := g73284.s53 e73285 (Or.inl (by rw [(((jw_ne e73284 (Or.inl (by decide))).trans ((jw_ne e73283 (Or.inl (by decide))).trans ((jw_ne e73281 (Or.inr (by decide))).trans ew0))))]; omega)) (by omega) (by omega)
                      have k73285 := k73284.wr e73285 rfl
                      refine ev_iconst ?_
                      refine ev_istore (L' := [(2, 42), (0, 1), (0, 0), (0, ((-10) * v73151 + (-v73192) + 528)), (0, (100 * w0 + w1)), (0, 0)]) (Nat.le_of_ble_eq_true rfl) rfl ?_
                      refine ev_iload rfl ?_
                      refine ev_iconst ?_
                      refine ev_icmpge f267_109 (fun c73286 => absurd c73286 (by omega)) (fun c73286 => ?_)
                      refine ev_aload_n rfl ?_
                      refine g_getp (r := 42) (c := 51) g73285 ad42 (by decide) (by decide) rf42_13 ft12_13 ?_
                      refine ev_iconst ?_
                      refine ev_iload rfl ?_
                      refine ev_imul (r := (400 * w0 + 4 * w1)) (by unfold w32; omega) ?_
                      refine ev_iload rfl ?_
                      refine ev_iadd (r := (400 * w0 + 4 * w1)) (by unfold w32; omega) ?_
                      refine ev_iconst ?_
                      refine ev_bastG (r := 51) (j := ((400 * w0 + 4 * w1)).toNat) (w := (-1)) (g73285.lt ad51) (g73285.tg ad51) (by omega) (by rw [g73285.ln ad51]; omega) (by unfold w8; omega) (fun h73287 e73287 => ?_)
                      have g73287 := g73285.s51 e73287 (by rw [(((jw_ne e73285 (Or.inl (by decide))).trans ((jw_ne e73284 (Or.inl (by decide))).trans ((jw_ne e73283 (Or.inl (by decide))).trans ((jw_ne e73281 (Or.inr (by decide))).trans ew0)))))]; omega) (by omega) (by omega)
                      have k73287 := k73285.wr e73287 rfl
                      refine ev_aload_n rfl ?_
                      refine g_getp (r := 42) (c := 52) g73287 ad42 (by decide) (by decide) rf42_14 ft12_14 ?_
                      refine ev_iconst ?_
                      refine ev_iload rfl ?_
                      refine ev_imul (r := (400 * w0 + 4 * w1)) (by unfold w32; omega) ?_
                      refine ev_iload rfl ?_
                      refine ev_iadd (r := (400 * w0 + 4 * w1)) (by unfold w32; omega) ?_
                      refine ev_iconst ?_
                      refine g_iast g73287 ad52 rt52 (fun _ => rfl) (by omega) (by omega) (by omega) (by omega) (fun h73288 e73288 g73288 => ?_)
                      have k73288 := k73287.wr e73288 rfl
                      refine ev_iinc (w := 1) (L' := [(2, 42), (0, 1), (0, 0), (0, ((-10) * v73151 + (-v73192) + 528)), (0, (100 * w0 + w1)), (0, 1)]) rfl (by decide) rfl ?_
                      refine ev_goto f267_71 ?_
                      refine ev_iload rfl ?_
                      refine ev_iconst ?_
                      refine ev_icmpge f267_109 (fun c73289 => absurd c73289 (by omega)) (fun c73289 => ?_)
                      refine ev_aload_n rfl ?_
                      refine g_getp (r := 42) (c := 51) g73288 ad42 (by decide) (by decide) rf42_13 ft12_13 ?_
                      refine ev_iconst ?_
                      refine ev_iload rfl ?_
                      refine ev_imul (r := (400 * w0 + 4 * w1)) (by unfold w32; omega) ?_
                      refine ev_iload rfl ?_
                      refine ev_iadd (r := (400 * w0 + 4 * w1 + 1)) (by unfold w32; omega) ?_
                      refine ev_iconst ?_
                      refine ev_bastG (r := 51) (j := ((400 * w0 + 4 * w1 + 1)).toNat) (w := (-1)) (g73288.lt ad51) (g73288.tg ad51) (by omega) (by rw [g73288.ln ad51]; omega) (by unfold w8; omega) (fun h73290 e73290 => ?_)
                      have g73290 := g73288.s51 e73290 (by rw [(((jw_ne e73288 (Or.inl (by decide))).trans ((jw_ne e73287 (Or.inl (by decide))).trans ((jw_ne e73285 (Or.inl (by decide))).trans ((jw_ne e73284 (Or.inl (by decide))).trans ((jw_ne e73283 (Or.inl (by decide))).trans ((jw_ne e73281 (Or.inr (by decide))).trans ew0)))))))]; omega) (by omega) (by omega)
                      have k73290 := k73288.wr e73290 rfl
                      refine ev_aload_n rfl ?_
                      refine g_getp (r := 42) (c := 52) g73290 ad42 (by decide) (by decide) rf42_14 ft12_14 ?_
                      refine ev_iconst ?_
                      refine ev_iload rfl ?_
                      refine ev_imul (r := (400 * w0 + 4 * w1)) (by unfold w32; omega) ?_
                      refine ev_iload rfl ?_
                      refine ev_iadd (r := (400 * w0 + 4 * w1 + 1)) (by unfold w32; omega) ?_
                      refine ev_iconst ?_
                      refine g_iast g73290 ad52 rt52 (fun _ => rfl) (by omega) (by omega) (by omega) (by omega) (fun h73291 e73291 g73291 => ?_)
                      have k73291 := k73290.wr e73291 rfl
                      refine ev_iinc (w := 2) (L' := [(2, 42), (0, 1), (0, 0), (0, ((-10) * v73151 + (-v73192) + 528)), (0, (100 * w0 + w1)), (0, 2)]) rfl (by decide) rfl ?_
                      refine ev_goto f267_71 ?_
                      refine ev_iload rfl ?_
                      refine ev_iconst ?_
                      refine ev_icmpge f267_109 (fun c73292 => absurd c73292 (by omega)) (fun c73292 => ?_)
                      refine ev_aload_n rfl ?_
                      refine g_getp (r := 42) (c := 51) g73291 ad42 (by decide) (by decide) rf42_13 ft12_13 ?_
                      refine ev_iconst ?_
                      refine ev_iload rfl ?_
                      refine ev_imul (r := (400 * w0 + 4 * w1)) (by unfold w32; omega) ?_
                      refine ev_iload rfl ?_
                      refine ev_iadd (r := (400 * w0 + 4 * w1 + 2)) (by unfold w32; omega) ?_
                      refine ev_iconst ?_
                      refine ev_bastG (r := 51) (j := ((400 * w0 + 4 * w1 + 2)).toNat) (w := (-1)) (g73291.lt ad51) (g73291.tg ad51) (by omega) (by rw [g73291.ln ad51]; omega) (by unfold w8; omega) (fun h73293 e73293 => ?_)
                      have g73293 := g73291.s51 e73293 (by rw [(((jw_ne e73291 (Or.inl (by decide))).trans ((jw_ne e73290 (Or.inl (by decide))).trans ((jw_ne e73288 (Or.inl (by decide))).trans ((jw_ne e73287 (Or.inl (by decide))).trans ((jw_ne e73285 (Or.inl (by decide))).trans ((jw_ne e73284 (Or.inl (by decide))).trans ((jw_ne e73283 (Or.inl (by decide))).trans ((jw_ne e73281 (Or.inr (by decide))).trans ew0)))))))))]; omega) (by omega) (by omega)
                      have k73293 := k73291.wr e73293 rfl
                      refine ev_aload_n rfl ?_
                      refine g_getp (r := 42) (c := 52) g73293 ad42 (by decide) (by decide) rf42_14 ft12_14 ?_
                      refine ev_iconst ?_
                      refine ev_iload rfl ?_
                      refine ev_imul (r := (400 * w0 + 4 * w1)) (by unfold w32; omega) ?_
                      refine ev_iload rfl ?_
                      refine ev_iadd (r := (400 * w0 + 4 * w1 + 2)) (by unfold w32; omega) ?_
                      refine ev_iconst ?_
                      refine g_iast g73293 ad52 rt52 (fun _ => rfl) (by omega) (by omega) (by omega) (by omega) (fun h73294 e73294 g73294 => ?_)
                      have k73294 := k73293.wr e73294 rfl
                      refine ev_iinc (w := 3) (L' := [(2, 42), (0, 1), (0, 0), (0, ((-10) * v73151 + (-v73192) + 528)), (0, (100 * w0 + w1)), (0, 3)]) rfl (by decide) rfl ?_
                      refine ev_goto f267_71 ?_
                      refine ev_iload rfl ?_
                      refine ev_iconst ?_
                      refine ev_icmpge f267_109 (fun c73295 => absurd c73295 (by omega)) (fun c73295 => ?_)
                      refine ev_aload_n rfl ?_
                      refine g_getp (r := 42) (c := 51) g73294 ad42 (by decide) (by decide) rf42_13 ft12_13 ?_
                      refine ev_iconst ?_
                      refine ev_iload rfl ?_
                      refine ev_imul (r := (400 * w0 + 4 * w1)) (by unfold w32; omega) ?_
                      refine ev_iload rfl ?_
                      refine ev_iadd (r := (400 * w0 + 4 * w1 + 3)) (by unfold w32; omega) ?_
                      refine ev_iconst ?_
                      refine ev_bastG (r := 51) (j := ((400 * w0 + 4 * w1 + 3)).toNat) (w := (-1)) (g73294.lt ad51) (g73294.tg ad51) (by omega) (by rw [g73294.ln ad51]; omega) (by unfold w8; omega) (fun h73296 e73296 => ?_)
                      have g73296 := g73294.s51 e73296 (by rw [(((jw_ne e73294 (Or.inl (by decide))).trans ((jw_ne e73293 (Or.inl (by decide))).trans ((jw_ne e73291 (Or.inl (by decide))).trans ((jw_ne e73290 (Or.inl (by decide))).trans ((jw_ne e73288 (Or.inl (by decide))).trans ((jw_ne e73287 (Or.inl (by decide))).trans ((jw_ne e73285 (Or.inl (by decide))).trans ((jw_ne e73284 (Or.inl (by decide))).trans ((jw_ne e73283 (Or.inl (by decide))).trans ((jw_ne e73281 (Or.inr (by decide))).trans ew0)))))))))))]; omega) (by omega) (by omega)
                      have k73296 := k73294.wr e73296 rfl
                      refine ev_aload_n rfl ?_
                      refine g_getp (r := 42) (c := 52) g73296 ad42 (by decide) (by decide) rf42_14 ft12_14 ?_
                      refine ev_iconst ?_
                      refine ev_iload rfl ?_
                      refine ev_imul (r := (400 * w0 + 4 * w1)) (by unfold w32; omega) ?_
                      refine ev_iload rfl ?_
                      refine ev_iadd (r := (400 * w0 + 4 * w1 + 3)) (by unfold w32; omega) ?_
                      refine ev_iconst ?_
                      refine g_iast g73296 ad52 rt52 (fun _ => rfl) (by omega) (by omega) (by omega) (by omega) (fun h73297 e73297 g73297 => ?_)
                      have k73297 := k73296.wr e73297 rfl
                      refine ev_iinc (w := 4) (L' := [(2, 42), (0, 1), (0, 0), (0, ((-10) * v73151 + (-v73192) + 528)), (0, (100 * w0 + w1)), (0, 4)]) rfl (by decide) rfl ?_
                      refine ev_goto f267_71 ?_
                      refine ev_iload rfl ?_
                      refine ev_iconst ?_
                      refine ev_icmpge f267_109 (fun c73298 => ?_) (fun c73298 => absurd c73298 (by omega))
                      refine ev_iload rfl ?_
                      refine ev_ret rfl (by decide) (by decide) ?_
                      show jEv _ _ _ _ _ _ _ (_, [(2, 42), (0, a1), (0, 1), (0, (a1 + 3)), (0, 1), (0, (10 * v73151 + v73192 - 528)), (0, 2)], [(0, (100 * w0 + w1))], _, _, _)
                      refine ev_pop (by decide) ?_
                      refine ev_iload_n rfl ?_
                      exact ev_ret rfl (by decide) (by decide) ⟨⟨_, rfl, by omega, by omega, g73297, k73297⟩, fun r hr h0 => by cases hr; exact (Ad.step (r' := (a1 + 3)) (Ad.step (r' := (a1 + 2)) (Ad.step (r' := (a1 + 1)) (Ad.rf _ _ _) (by omega) k73297 (fun _ => rfl) (((jw_ne e73297 (Or.inl (by decide))).trans ((jw_ne e73296 (Or.inl (by decide))).trans ((jw_ne e73294 (Or.inl (by decide))).trans ((jw_ne e73293 (Or.inl (by decide))).trans ((jw_ne e73291 (Or.inl (by decide))).trans ((jw_ne e73290 (Or.inl (by decide))).trans ((jw_ne e73288 (Or.inl (by decide))).trans ((jw_ne e73287 (Or.inl (by decide))).trans ((jw_ne e73285 (Or.inl (by decide))).trans ((jw_ne e73284 (Or.inl (by decide))).trans ((jw_ne e73283 (Or.inl (by decide))).trans ((jw_ne e73281 (Or.inl (by decide))).trans ev72896))))))))))))) (by omega) (by omega) (by omega)) (by omega) k73297 (fun _ => rfl) (((jw_ne e73297 (Or.inl (by decide))).trans ((jw_ne e73296 (Or.inl (by decide))).trans ((jw_ne e73294 (Or.inl (by decide))).trans ((jw_ne e73293 (Or.inl (by decide))).trans ((jw_ne e73291 (Or.inl (by decide))).trans ((jw_ne e73290 (Or.inl (by decide))).trans ((jw_ne e73288 (Or.inl (by decide))).trans ((jw_ne e73287 (Or.inl (by decide))).trans ((jw_ne e73285 (Or.inl (by decide))).trans ((jw_ne e73284 (Or.inl (by decide))).trans ((jw_ne e73283 (Or.inl (by decide))).trans ((jw_ne e73281 (Or.inl (by decide))).trans ev73151))))))))))))) (by omega) (by omega) (by omega)) (by omega) k73297 (fun _ => rfl) (((jw_ne e73297 (Or.inl (by decide))).trans ((jw_ne e73296 (Or.inl (by decide))).trans ((jw_ne e73294 (Or.inl (by decide))).trans ((jw_ne e73293 (Or.inl (by decide))).trans ((jw_ne e73291 (Or.inl (by decide))).trans ((jw_ne e73290 (Or.inl (by decide))).trans ((jw_ne e73288 (Or.inl (by decide))).trans ((jw_ne e73287 (Or.inl (by decide))).trans ((jw_ne e73285 (Or.inl (by decide))).trans ((jw_ne e73284 (Or.inl (by decide))).trans ((jw_ne e73283 (Or.inl (by decide))).trans ((jw_ne e73281 (Or.inl (by decide))).trans ev73192))))))))))))) (by omega) (by omega) (by omega)), fun r hr => by cases hr; exact ⟨_, (((jw_ne e73297 (Or.inl (by decide))).trans ((jw_ne e73296 (Or.inl (by decide))).trans ((jw_ne e73294 (Or.inl (by decide))).trans ((jw_ne e73293 (Or.inl (by decide))).trans ((jw_ne e73291 (Or.inl (by decide))).trans ((jw_ne e73290 (Or.inl (by decide))).trans ((jw_ne e73288 (Or.inl (by decide))).trans ((jw_ne e73287 (Or.inl (by decide))).trans ((jw_ne e73285 (Or.inl (by decide))).trans ((jw_ne e73284 (Or.inl (by decide))).trans ((jw_ne e73283 (Or.inl (by decide))).trans (jw_eq e73281))))))))))))), by omega, by omega, (Fr.kp (Fr.w (i := (400 * w0 + 4 * w1 + 3)) (Fr.kp (Fr.w (i := (400 * w0 + 4 * w1 + 2)) (Fr.kp (Fr.w (i := (400 * w0 + 4 * w1 + 1)) (Fr.kp (Fr.w (i := (400 * w0 + 4 * w1)) (Fr.w (i := (100 * w0 + w1)) (Fr.w (i := (100 * w0 + w1)) (Fr.w (i := (100 * w0 + w1)) (Fr.kp (Fr.rf _ _) ((Kp.rf [(42, 0)] _).wr e73281 rfl) (fun _ => rfl) (fun _ => rfl) (fun _ => rfl) (fun _ => rfl)) e73283 (by omega) (by omega)) e73284 (by omega) (by omega)) e73285 (by omega) (by omega)) e73287 (by omega) (by omega)) ((Kp.rf [(52, 0)] _).wr e73288 rfl) (fun _ => rfl) (fun _ => rfl) (fun _ => rfl) (fun _ => rfl)) e73290 (by omega) (by omega)) ((Kp.rf [(52, 0)] _).wr e73291 rfl) (fun _ => rfl) (fun _ => rfl) (fun _ => rfl) (fun _ => rfl)) e73293 (by omega) (by omega)) ((Kp.rf [(52, 0)] _).wr e73294 rfl) (fun _ => rfl) (fun _ => rfl) (fun _ => rfl) (fun _ => rfl)) e73296 (by omega) (by omega)) ((Kp.rf [(52, 0)] _).wr e73297 rfl) (fun _ => rfl) (fun _ => rfl) (fun _ => rfl) (fun _ => rfl)), fun h0 => by omega, fun h0 hm => Tr.end (i := (100 * w0 + w1)) (by omega) (by omega) (by omega) (((jw_ne e73297 (Or.inl (by decide))).trans ((jw_ne e73296 (Or.inl (by decide))).trans ((jw_ne e73294 (Or.inl (by decide))).trans ((jw_ne e73293 (Or.inl (by decide))).trans ((jw_ne e73291 (Or.inl (by decide))).trans ((jw_ne e73290 (Or.inl (by decide))).trans ((jw_ne e73288 (Or.inl (by decide))).trans ((jw_ne e73287 (Or.inl (by decide))).trans ((jw_ne e73285 (Or.inl (by decide))).trans ((jw_ne e73284 (Or.inl (by decide))).trans (jw_eq e73283)))))))))))) (by omega) (by omega)⟩⟩
                    · refine ev_iload_n rfl ?_
                      refine ev_iload_n rfl ?_
                      refine ev_icmpgt f242_14 (fun c73299 => ?_) (fun c73299 => ?_)
                      · refine ev_iconst ?_
                        refine ev_ret rfl (by decide) (by decide) ?_
                        show jEv _ _ _ _ _ _ _ (_, [(2, 42), (0, (a1 + 3))], [(0, 0)], _, _, _)
                        refine ev_ret rfl (by decide) (by decide) ?_
                        show jEv _ _ _ _ _ _ _ (_, [(2, 42), (0, a1), (0, 1), (0, (a1 + 3)), (0, 1), (0, (10 * v73151 + v73192 - 528)), (0, 2)], [(0, 0)], _, _, _)
                        refine ev_ifeq f269_86 (fun c73300 => ?_) (fun c73300 => absurd c73300 (by omega))
                        refine ev_aload_n rfl ?_
                        refine ev_iload_n rfl ?_
                        refine ev_in (d := 1) (a := 0) (b := 0) (cd' := c265_0) (m := 2) (L0 := [(2, 42), (0, (a1 + 3))]) (jcall_v (A := [(0, (a1 + 3))]) (S' := []) (r := 42) rfl (g.lt ad42) (g.tg ad42) (Nat.le_of_ble_eq_true rfl)) (by decide) ml265 pp265 (Nat.le_of_ble_eq_true rfl) rfl (by decide) (by decide) ?_
                        refine ev_aload_n rfl ?_
                        refine ev_iload_n rfl ?_
                        refine ev_in (d := 0) (a := 0) (b := 0) (cd' := c264_0) (m := 2) (L0 := [(2, 42), (0, (a1 + 3))]) (jcall_v (A := [(0, (a1 + 3))]) (S' := []) (r := 42) rfl (g.lt ad42) (g.tg ad42) (Nat.le_of_ble_eq_true rfl)) (by decide) ml264 pp264 (Nat.le_of_ble_eq_true rfl) rfl (by decide) (by decide) ?_
                        refine ev_iload_n rfl ?_
                        refine ev_aload_n rfl ?_
                        refine g_getv (r := 42) (v := v72888) g ad42 (by decide) ft12_17 (ev72888) ?_
                        refine ev_icmpge f264_17 (fun c73301 => absurd c73301 (by omega)) (fun c73301 => ?_)
                        refine ev_aload_n rfl ?_
                        refine g_getp (r := 42) (c := 54) g ad42 (by decide) (by decide) rf42_16 ft12_16 ?_
                        refine ev_iload_n rfl ?_
                        refine g_baldv (v := v73273) g ad54 (by omega) (by omega) (ev73273) ?_
                        refine ev_goto f264_18 ?_
                        refine ev_ret rfl (by decide) (by decide) ?_
                        show jEv _ _ _ _ _ _ _ (_, [(2, 42), (0, (a1 + 3))], [(0, v73273)], _, _, _)
                        refine ev_bipush ?_
                        refine ev_bipush ?_
                        refine ev_in (d := 0) (a := 0) (b := 0) (cd' := c242_0) (m := 3) (L0 := [(0, v73273), (0, 48), (0, 57)]) (jcall_s (A := [(0, 57), (0, 48), (0, v73273)]) (S' := []) (by decide) rfl (Nat.le_of_ble_eq_true rfl)) (by decide) ml242 pp242 (Nat.le_of_ble_eq_true rfl) rfl (by decide) (by decide) ?_
                        refine ev_iload_n rfl ?_
                        refine ev_iload_n rfl ?_
                        refine ev_icmplt f242_14 (fun c73302 => absurd c73302 (by omega)) (fun c73302 => ?_)
                        refine ev_iload_n rfl ?_
                        refine ev_iload_n rfl ?_
                        refine ev_icmpgt f242_14 (fun c73303 => ?_) (fun c73303 => absurd c73303 (by omega))
                        refine ev_iconst ?_
                        refine ev_ret rfl (by decide) (by decide) ?_
                        show jEv _ _ _ _ _ _ _ (_, [(2, 42), (0, (a1 + 3))], [(0, 0)], _, _, _)
                        refine ev_ret rfl (by decide) (by decide) ?_
                        show jEv _ _ _ _ _ _ _ (_, [(2, 42), (0, a1), (0, 1), (0, (a1 + 3)), (0, 1), (0, (10 * v73151 + v73192 - 528)), (0, 2)], [(0, 0)], _, _, _)
                        refine ev_ifeq f269_100 (fun c73304 => ?_) (fun c73304 => absurd c73304 (by omega))
                        refine ev_aload_n rfl ?_
                        refine ev_iload_n rfl ?_
                        refine ev_iconst ?_
                        refine ev_iload rfl ?_
                        refine ev_ifeq f269_114 (fun c73305 => absurd c73305 (by omega)) (fun c73305 => ?_)
                        refine ev_iload rfl ?_
                        refine ev_ineg (r := ((-10) * v73151 + (-v73192) + 528)) (by unfold w32; omega) ?_
                        refine ev_goto f269_116 ?_
                        refine ev_in (d := 1) (a := 0) (b := 0) (cd' := c267_0) (m := 6) (L0 := [(2, 42), (0, 1), (0, 0), (0, ((-10) * v73151 + (-v73192) + 528)), (9, 0), (9, 0)]) (jcall_v (A := [(0, ((-10) * v73151 + (-v73192) + 528)), (0, 0), (0, 1)]) (S' := []) (r := 42) rfl (g.lt ad42) (g.tg ad42) (Nat.le_of_ble_eq_true rfl)) (by decide) ml267 pp267 (Nat.le_of_ble_eq_true rfl) rfl (by decide) (by decide) ?_
                        refine ev_iload_n rfl ?_
                        refine ev_ifne f267_6 (fun c73306 => ?_) (fun c73306 => absurd c73306 (by omega))
                        refine ev_aload_n rfl ?_
                        refine ev_dup (by decide) ?_
                        refine g_getv (r := 42) (v := w1) g ad42 (by decide) ft12_21 (ew1) ?_
                        refine ev_iconst ?_
                        refine ev_iadd (r := (w1 + 1)) (by unfold w32; omega) ?_
                        refine g_putf (r := 42) g ad42 (by decide) ft12_21 (by decide) (fun e => absurd e nz12_21) rf42_21 (by decide) (by omega) (by omega) (fun h73307 e73307 g73307 => ?_)
                        have k73307 := k0.wr e73307 rfl
                        refine ev_aload_n rfl ?_
                        refine g_getv (r := 42) (v := (w1 + 1)) g73307 ad42 (by decide) ft12_21 ((jw_eq e73307)) ?_
                        refine ev_bipush ?_
                        refine ev_icmple f267_27 (fun c73308 => ?_) (fun c73308 => absurd c73308 (by omega))
                        refine ev_bipush ?_
                        refine ev_aload_n rfl ?_
                        refine g_getv (r := 42) (v := w0) g73307 ad42 (by decide) ft12_9 (((jw_ne e73307 (Or.inr (by decide))).trans ew0)) ?_
                        refine ev_imul (r := (100 * w0)) (by unfold w32; omega) ?_
                        refine ev_aload_n rfl ?_
                        refine g_getv (r := 42) (v := (w1 + 1)) g73307 ad42 (by decide) ft12_21 ((jw_eq e73307)) ?_
                        refine ev_iadd (r := (100 * w0 + w1 + 1)) (by unfold w32; omega) ?_
                        refine ev_iconst ?_
                        refine ev_isub (r := (100 * w0 + w1)) (by unfold w32; omega) ?_
                        refine ev_istore (L' := [(2, 42), (0, 1), (0, 0), (0, ((-10) * v73151 + (-v73192) + 528)), (0, (100 * w0 + w1)), (9, 0)]) (Nat.le_of_ble_eq_true rfl) rfl ?_
                        refine ev_aload_n rfl ?_
                        refine g_getp (r := 42) (c := 49) g73307 ad42 (by decide) (by decide) rf42_11 ft12_11 ?_
                        refine ev_iload rfl ?_
                        refine ev_iload_n rfl ?_
                        refine ev_i2b (r := 0) (by unfold w8; omega) ?_
                        refine ev_bastG (r := 49) (j := ((100 * w0 + w1)).toNat) (w := 0) (g73307.lt ad49) (g73307.tg ad49) (by omega) (by rw [g73307.ln ad49]; omega) (by unfold w8; omega) (fun h73309 e73309 => ?_)
                        have g73309 := g73307.s49 e73309 (by rw [(((jw_ne e73307 (Or.inr (by decide))).trans ew0))]; omega) (by omega) (by omega)
                        have k73309 := k73307.wr e73309 rfl
                        refine ev_aload_n rfl ?_
                        refine g_getp (r := 42) (c := 50) g73309 ad42 (by decide) (by decide) rf42_12 ft12_12 ?_
                        refine ev_iload rfl ?_
                        refine ev_iload_n rfl ?_
                        refine ev_iastG (r := 50) (j := ((100 * w0 + w1)).toNat) (g73309.lt ad50) (g73309.tg ad50) (by omega) (by rw [g73309.ln ad50]; omega) (fun h73310 e73310 => ?_)
                        have g73310 := g73309.s50 e73310 (Or.inl (by rw [(((jw_ne e73309 (Or.inl (by decide))).trans ((jw_ne e73307 (Or.inr (by decide))).trans ew0)))]; omega)) (by omega) (by omega)
                        have k73310 := k73309.wr e73310 rfl
                        refine ev_aload_n rfl ?_
                        refine g_getp (r := 42) (c := 53) g73310 ad42 (by decide) (by decide) rf42_15 ft12_15 ?_
                        refine ev_iload rfl ?_
                        refine ev_iconst ?_
                        refine ev_bastG (r := 53) (j := ((100 * w0 + w1)).toNat) (w := 0) (g73310.lt ad53) (g73310.tg ad53) (by omega) (by rw [g73310.ln ad53]; omega) (by unfold w8; omega) (fun h73311 e73311 => ?_)
                        have g73311 := g73310.s53 e73311 (Or.inl (by rw [(((jw_ne e73310 (Or.inl (by decide))).trans ((jw_ne e73309 (Or.inl (by decide))).trans ((jw_ne e73307 (Or.inr (by decide))).trans ew0))))]; omega)) (by omega) (by omega)
                        have k73311 := k73310.wr e73311 rfl
                        refine ev_iconst ?_
                        refine ev_istore (L' := [(2, 42), (0, 1), (0, 0), (0, ((-10) * v73151 + (-v73192) + 528)), (0, (100 * w0 + w1)), (0, 0)]) (Nat.le_of_ble_eq_true rfl) rfl ?_
                        refine ev_iload rfl ?_
                        refine ev_iconst ?_
                        refine ev_icmpge f267_109 (fun c73312 => absurd c73312 (by omega)) (fun c73312 => ?_)
                        refine ev_aload_n rfl ?_
                        refine g_getp (r := 42) (c := 51) g73311 ad42 (by decide) (by decide) rf42_13 ft12_13 ?_
                        refine ev_iconst ?_
                        refine ev_iload rfl ?_
                        refine ev_imul (r := (400 * w0 + 4 * w1)) (by unfold w32; omega) ?_
                        refine ev_iload rfl ?_
                        refine ev_iadd (r := (400 * w0 + 4 * w1)) (by unfold w32; omega) ?_
                        refine ev_iconst ?_
                        refine ev_bastG (r := 51) (j := ((400 * w0 + 4 * w1)).toNat) (w := (-1)) (g73311.lt ad51) (g73311.tg ad51) (by omega) (by rw [g73311.ln ad51]; omega) (by unfold w8; omega) (fun h73313 e73313 => ?_)
                        have g73313 := g73311.s51 e73313 (by rw [(((jw_ne e73311 (Or.inl (by decide))).trans ((jw_ne e73310 (Or.inl (by decide))).trans ((jw_ne e73309 (Or.inl (by decide))).trans ((jw_ne e73307 (Or.inr (by decide))).trans ew0)))))]; omega) (by omega) (by omega)
                        have k73313 := k73311.wr e73313 rfl
                        refine ev_aload_n rfl ?_
                        refine g_getp (r := 42) (c := 52) g73313 ad42 (by decide) (by decide) rf42_14 ft12_14 ?_
                        refine ev_iconst ?_
                        refine ev_iload rfl ?_
                        refine ev_imul (r := (400 * w0 + 4 * w1)) (by unfold w32; omega) ?_
                        refine ev_iload rfl ?_
                        refine ev_iadd (r := (400 * w0 + 4 * w1)) (by unfold w32; omega) ?_
                        refine ev_iconst ?_
                        refine g_iast g73313 ad52 rt52 (fun _ => rfl) (by omega) (by omega) (by omega) (by omega) (fun h73314 e73314 g73314 => ?_)
                        have k73314 := k73313.wr e73314 rfl
                        refine ev_iinc (w := 1) (L' := [(2, 42), (0, 1), (0, 0), (0, ((-10) * v73151 + (-v73192) + 528)), (0, (100 * w0 + w1)), (0, 1)]) rfl (by decide) rfl ?_
                        refine ev_goto f267_71 ?_
                        refine ev_iload rfl ?_
                        refine ev_iconst ?_
                        refine ev_icmpge f267_109 (fun c73315 => absurd c73315 (by omega)) (fun c73315 => ?_)
                        refine ev_aload_n rfl ?_
                        refine g_getp (r := 42) (c := 51) g73314 ad42 (by decide) (by decide) rf42_13 ft12_13 ?_
                        refine ev_iconst ?_
                        refine ev_iload rfl ?_
                        refine ev_imul (r := (400 * w0 + 4 * w1)) (by unfold w32; omega) ?_
                        refine ev_iload rfl ?_
                        refine ev_iadd (r := (400 * w0 + 4 * w1 + 1)) (by unfold w32; omega) ?_
                        refine ev_iconst ?_
                        refine ev_bastG (r := 51) (j := ((400 * w0 + 4 * w1 + 1)).toNat) (w := (-1)) (g73314.lt ad51) (g73314.tg ad51) (by omega) (by rw [g73314.ln ad51]; omega) (by unfold w8; omega) (fun h73316 e73316 => ?_)
                        have g73316 := g73314.s51 e73316 (by rw [(((jw_ne e73314 (Or.inl (by decide))).trans ((jw_ne e73313 (Or.inl (by decide))).trans ((jw_ne e73311 (Or.inl (by decide))).trans ((jw_ne e73310 (Or.inl (by decide))).trans ((jw_ne e73309 (Or.inl (by decide))).trans ((jw_ne e73307 (Or.inr (by decide))).trans ew0)))))))]; omega) (by omega) (by omega)
                        have k73316 := k73314.wr e73316 rfl
                        refine ev_aload_n rfl ?_
                        refine g_getp (r := 42) (c := 52) g73316 ad42 (by decide) (by decide) rf42_14 ft12_14 ?_
                        refine ev_iconst ?_
                        refine ev_iload rfl ?_
                        refine ev_imul (r := (400 * w0 + 4 * w1)) (by unfold w32; omega) ?_
                        refine ev_iload rfl ?_
                        refine ev_iadd (r := (400 * w0 + 4 * w1 + 1)) (by unfold w32; omega) ?_
                        refine ev_iconst ?_
                        refine g_iast g73316 ad52 rt52 (fun _ => rfl) (by omega) (by omega) (by omega) (by omega) (fun h73317 e73317 g73317 => ?_)
                        have k73317 := k73316.wr e73317 rfl
                        refine ev_iinc (w := 2) (L' := [(2, 42), (0, 1), (0, 0), (0, ((-10) * v73151 + (-v73192) + 528)), (0, (100 * w0 + w1)), (0, 2)]) rfl (by decide) rfl ?_
                        refine ev_goto f267_71 ?_
                        refine ev_iload rfl ?_
                        refine ev_iconst ?_
                        refine ev_icmpge f267_109 (fun c73318 => absurd c73318 (by omega)) (fun c73318 => ?_)
                        refine ev_aload_n rfl ?_
                        refine g_getp (r := 42) (c := 51) g73317 ad42 (by decide) (by decide) rf42_13 ft12_13 ?_
                        refine ev_iconst ?_
                        refine ev_iload rfl ?_
                        refine ev_imul (r := (400 * w0 + 4 * w1)) (by unfold w32; omega) ?_
                        refine ev_iload rfl ?_
                        refine ev_iadd (r := (400 * w0 + 4 * w1 + 2)) (by unfold w32; omega) ?_
                        refine ev_iconst ?_
                        refine ev_bastG (r := 51) (j := ((400 * w0 + 4 * w1 + 2)).toNat) (w := (-1)) (g73317.lt ad51) (g73317.tg ad51) (by omega) (by rw [g73317.ln ad51]; omega) (by unfold w8; omega) (fun h73319 e73319 => ?_)
                        have g73319 := g73317.s51 e73319 (by rw [(((jw_ne e73317 (Or.inl (by decide))).trans ((jw_ne e73316 (Or.inl (by decide))).trans ((jw_ne e73314 (Or.inl (by decide))).trans ((jw_ne e73313 (Or.inl (by decide))).trans ((jw_ne e73311 (Or.inl (by decide))).trans ((jw_ne e73310 (Or.inl (by decide))).trans ((jw_ne e73309 (Or.inl (by decide))).trans ((jw_ne e73307 (Or.inr (by decide))).trans ew0)))))))))]; omega) (by omega) (by omega)
                        have k73319 := k73317.wr e73319 rfl
                        refine ev_aload_n rfl ?_
                        refine g_getp (r := 42) (c := 52) g73319 ad42 (by decide) (by decide) rf42_14 ft12_14 ?_
                        refine ev_iconst ?_
                        refine ev_iload rfl ?_
                        refine ev_imul (r := (400 * w0 + 4 * w1)) (by unfold w32; omega) ?_
                        refine ev_iload rfl ?_
                        refine ev_iadd (r := (400 * w0 + 4 * w1 + 2)) (by unfold w32; omega) ?_
                        refine ev_iconst ?_
                        refine g_iast g73319 ad52 rt52 (fun _ => rfl) (by omega) (by omega) (by omega) (by omega) (fun h73320 e73320 g73320 => ?_)
                        have k73320 := k73319.wr e73320 rfl
                        refine ev_iinc (w := 3) (L' := [(2, 42), (0, 1), (0, 0), (0, ((-10) * v73151 + (-v73192) + 528)), (0, (100 * w0 + w1)), (0, 3)]) rfl (by decide) rfl ?_
                        refine ev_goto f267_71 ?_
                        refine ev_iload rfl ?_
                        refine ev_iconst ?_
                        refine ev_icmpge f267_109 (fun c73321 => absurd c73321 (by omega)) (fun c73321 => ?_)
                        refine ev_aload_n rfl ?_
                        refine g_getp (r := 42) (c := 51) g73320 ad42 (by decide) (by decide) rf42_13 ft12_13 ?_
                        refine ev_iconst ?_
                        refine ev_iload rfl ?_
                        refine ev_imul (r := (400 * w0 + 4 * w1)) (by unfold w32; omega) ?_
                        refine ev_iload rfl ?_
                        refine ev_iadd (r := (400 * w0 + 4 * w1 + 3)) (by unfold w32; omega) ?_
                        refine ev_iconst ?_
                        refine ev_bastG (r := 51) (j := ((400 * w0 + 4 * w1 + 3)).toNat) (w := (-1)) (g73320.lt ad51) (g73320.tg ad51) (by omega) (by rw [g73320.ln ad51]; omega) (by unfold w8; omega) (fun h73322 e73322 => ?_)
                        have g73322 := g73320.s51 e73322 (by rw [(((jw_ne e73320 (Or.inl (by decide))).trans ((jw_ne e73319 (Or.inl (by decide))).trans ((jw_ne e73317 (Or.inl (by decide))).trans ((jw_ne e73316 (Or.inl (by decide))).trans ((jw_ne e73314 (Or.inl (by decide))).trans ((jw_ne e73313 (Or.inl (by decide))).trans ((jw_ne e73311 (Or.inl (by decide))).trans ((jw_ne e73310 (Or.inl (by decide))).trans ((jw_ne e73309 (Or.inl (by decide))).trans ((jw_ne e73307 (Or.inr (by decide))).trans ew0)))))))))))]; omega) (by omega) (by omega)
                        have k73322 := k73320.wr e73322 rfl
                        refine ev_aload_n rfl ?_
                        refine g_getp (r := 42) (c := 52) g73322 ad42 (by decide) (by decide) rf42_14 ft12_14 ?_
                        refine ev_iconst ?_
                        refine ev_iload rfl ?_
                        refine ev_imul (r := (400 * w0 + 4 * w1)) (by unfold w32; omega) ?_
                        refine ev_iload rfl ?_
                        refine ev_iadd (r := (400 * w0 + 4 * w1 + 3)) (by unfold w32; omega) ?_
                        refine ev_iconst ?_
                        refine g_iast g73322 ad52 rt52 (fun _ => rfl) (by omega) (by omega) (by omega) (by omega) (fun h73323 e73323 g73323 => ?_)
                        have k73323 := k73322.wr e73323 rfl
                        refine ev_iinc (w := 4) (L' := [(2, 42), (0, 1), (0, 0), (0, ((-10) * v73151 + (-v73192) + 528)), (0, (100 * w0 + w1)), (0, 4)]) rfl (by decide) rfl ?_
                        refine ev_goto f267_71 ?_
                        refine ev_iload rfl ?_
                        refine ev_iconst ?_
                        refine ev_icmpge f267_109 (fun c73324 => ?_) (fun c73324 => absurd c73324 (by omega))
                        refine ev_iload rfl ?_
                        refine ev_ret rfl (by decide) (by decide) ?_
                        show jEv _ _ _ _ _ _ _ (_, [(2, 42), (0, a1), (0, 1), (0, (a1 + 3)), (0, 1), (0, (10 * v73151 + v73192 - 528)), (0, 2)], [(0, (100 * w0 + w1))], _, _, _)
                        refine ev_pop (by decide) ?_
                        refine ev_iload_n rfl ?_
                        exact ev_ret rfl (by decide) (by decide) ⟨⟨_, rfl, by omega, by omega, g73323, k73323⟩, fun r hr h0 => by cases hr; exact (Ad.step (r' := (a1 + 3)) (Ad.step (r' := (a1 + 2)) (Ad.step (r' := (a1 + 1)) (Ad.rf _ _ _) (by omega) k73323 (fun _ => rfl) (((jw_ne e73323 (Or.inl (by decide))).trans ((jw_ne e73322 (Or.inl (by decide))).trans ((jw_ne e73320 (Or.inl (by decide))).trans ((jw_ne e73319 (Or.inl (by decide))).trans ((jw_ne e73317 (Or.inl (by decide))).trans ((jw_ne e73316 (Or.inl (by decide))).trans ((jw_ne e73314 (Or.inl (by decide))).trans ((jw_ne e73313 (Or.inl (by decide))).trans ((jw_ne e73311 (Or.inl (by decide))).trans ((jw_ne e73310 (Or.inl (by decide))).trans ((jw_ne e73309 (Or.inl (by decide))).trans ((jw_ne e73307 (Or.inl (by decide))).trans ev72896))))))))))))) (by omega) (by omega) (by omega)) (by omega) k73323 (fun _ => rfl) (((jw_ne e73323 (Or.inl (by decide))).trans ((jw_ne e73322 (Or.inl (by decide))).trans ((jw_ne e73320 (Or.inl (by decide))).trans ((jw_ne e73319 (Or.inl (by decide))).trans ((jw_ne e73317 (Or.inl (by decide))).trans ((jw_ne e73316 (Or.inl (by decide))).trans ((jw_ne e73314 (Or.inl (by decide))).trans ((jw_ne e73313 (Or.inl (by decide))).trans ((jw_ne e73311 (Or.inl (by decide))).trans ((jw_ne e73310 (Or.inl (by decide))).trans ((jw_ne e73309 (Or.inl (by decide))).trans ((jw_ne e73307 (Or.inl (by decide))).trans ev73151))))))))))))) (by omega) (by omega) (by omega)) (by omega) k73323 (fun _ => rfl) (((jw_ne e73323 (Or.inl (by decide))).trans ((jw_ne e73322 (Or.inl (by decide))).trans ((jw_ne e73320 (Or.inl (by decide))).trans ((jw_ne e73319 (Or.inl (by decide))).trans ((jw_ne e73317 (Or.inl (by decide))).trans ((jw_ne e73316 (Or.inl (by decide))).trans ((jw_ne e73314 (Or.inl (by decide))).trans ((jw_ne e73313 (Or.inl (by decide))).trans ((jw_ne e73311 (Or.inl (by decide))).trans ((jw_ne e73310 (Or.inl (by decide))).trans ((jw_ne e73309 (Or.inl (by decide))).trans ((jw_ne e73307 (Or.inl (by decide))).trans ev73192))))))))))))) (by omega) (by omega) (by omega)), fun r hr => by cases hr; exact ⟨_, (((jw_ne e73323 (Or.inl (by decide))).trans ((jw_ne e73322 (Or.inl (by decide))).trans ((jw_ne e73320 (Or.inl (by decide))).trans ((jw_ne e73319 (Or.inl (by decide))).trans ((jw_ne e73317 (Or.inl (by decide))).trans ((jw_ne e73316 (Or.inl (by decide))).trans ((jw_ne e73314 (Or.inl (by decide))).trans ((jw_ne e73313 (Or.inl (by decide))).trans ((jw_ne e73311 (Or.inl (by decide))).trans ((jw_ne e73310 (Or.inl (by decide))).trans ((jw_ne e73309 (Or.inl (by decide))).trans (jw_eq e73307))))))))))))), by omega, by omega, (Fr.kp (Fr.w (i := (400 * w0 + 4 * w1 + 3)) (Fr.kp (Fr.w (i := (400 * w0 + 4 * w1 + 2)) (Fr.kp (Fr.w (i := (400 * w0 + 4 * w1 + 1)) (Fr.kp (Fr.w (i := (400 * w0 + 4 * w1)) (Fr.w (i := (100 * w0 + w1)) (Fr.w (i := (100 * w0 + w1)) (Fr.w (i := (100 * w0 + w1)) (Fr.kp (Fr.rf _ _) ((Kp.rf [(42, 0)] _).wr e73307 rfl) (fun _ => rfl) (fun _ => rfl) (fun _ => rfl) (fun _ => rfl)) e73309 (by omega) (by omega)) e73310 (by omega) (by omega)) e73311 (by omega) (by omega)) e73313 (by omega) (by omega)) ((Kp.rf [(52, 0)] _).wr e73314 rfl) (fun _ => rfl) (fun _ => rfl) (fun _ => rfl) (fun _ => rfl)) e73316 (by omega) (by omega)) ((Kp.rf [(52, 0)] _).wr e73317 rfl) (fun _ => rfl) (fun _ => rfl) (fun _ => rfl) (fun _ => rfl)) e73319 (by omega) (by omega)) ((Kp.rf [(52, 0)] _).wr e73320 rfl) (fun _ => rfl) (fun _ => rfl) (fun _ => rfl) (fun _ => rfl)) e73322 (by omega) (by omega)) ((Kp.rf [(52, 0)] _).wr e73323 rfl) (fun _ => rfl) (fun _ => rfl) (fun _ => rfl) (fun _ => rfl)), fun h0 => by omega, fun h0 hm => Tr.end (i := (100 * w0 + w1)) (by omega) (by omega) (by omega) (((jw_ne e73323 (Or.inl (by decide))).trans ((jw_ne e73322 (Or.inl (by decide))).trans ((jw_ne e73320 (Or.inl (by decide))).trans ((jw_ne e73319 (Or.inl (by decide))).trans ((jw_ne e73317 (Or.inl (by decide))).trans ((jw_ne e73316 (Or.inl (by decide))).trans ((jw_ne e73314 (Or.inl (by decide))).trans ((jw_ne e73313 (Or.inl (by decide))).trans ((jw_ne e73311 (Or.inl (by decide))).trans ((jw_ne e73310 (Or.inl (by decide))).trans (jw_eq e73309)))))))))))) (by omega) (by omega)⟩⟩
                      · refine ev_iconst ?_
                        refine ev_goto f242_15 ?_
                        refine ev_ret rfl (by decide) (by decide) ?_
                        show jEv _ _ _ _ _ _ _ (_, [(2, 42), (0, (a1 + 3))], [(0, 1)], _, _, _)
                        refine ev_ret rfl (by decide) (by decide) ?_
                        show jEv _ _ _ _ _ _ _ (_, [(2, 42), (0, a1), (0, 1), (0, (a1 + 3)), (0, 1), (0, (10 * v73151 + v73192 - 528)), (0, 2)], [(0, 1)], _, _, _)
                        refine ev_ifeq f269_86 (fun c73325 => absurd c73325 (by omega)) (fun c73325 => ?_)
                        refine ev_bipush ?_
                        refine ev_iload rfl ?_
                        refine ev_imul (r := (100 * v73151 + 10 * v73192 - 5280)) (by unfold w32; omega) ?_
                        refine ev_aload_n rfl ?_
                        refine ev_iload_n rfl ?_
                        refine ev_in (d := 1) (a := 0) (b := 0) (cd' := c264_0) (m := 2) (L0 := [(2, 42), (0, (a1 + 3))]) (jcall_v (A := [(0, (a1 + 3))]) (S' := [(0, (100 * v73151 + 10 * v73192 - 5280))]) (r := 42) rfl (g.lt ad42) (g.tg ad42) (Nat.le_of_ble_eq_true rfl)) (by decide) ml264 pp264 (Nat.le_of_ble_eq_true rfl) rfl (by decide) (by decide) ?_
                        refine ev_iload_n rfl ?_
                        refine ev_aload_n rfl ?_
                        refine g_getv (r := 42) (v := v72888) g ad42 (by decide) ft12_17 (ev72888) ?_
                        refine ev_icmpge f264_17 (fun c73326 => absurd c73326 (by omega)) (fun c73326 => ?_)
                        refine ev_aload_n rfl ?_
                        refine g_getp (r := 42) (c := 54) g ad42 (by decide) (by decide) rf42_16 ft12_16 ?_
                        refine ev_iload_n rfl ?_
                        refine g_baldv (v := v73273) g ad54 (by omega) (by omega) (ev73273) ?_
                        refine ev_goto f264_18 ?_
                        refine ev_ret rfl (by decide) (by decide) ?_
                        show jEv _ _ _ _ _ _ _ (_, [(2, 42), (0, a1), (0, 1), (0, (a1 + 3)), (0, 1), (0, (10 * v73151 + v73192 - 528)), (0, 2)], [(0, v73273), (0, (100 * v73151 + 10 * v73192 - 5280))], _, _, _)
                        refine ev_iadd (r := (100 * v73151 + 10 * v73192 + v73273 - 5280)) (by unfold w32; omega) ?_
                        refine ev_bipush ?_
                        refine ev_isub (r := (100 * v73151 + 10 * v73192 + v73273 - 5328)) (by unfold w32; omega) ?_
                        refine ev_istore (L' := [(2, 42), (0, a1), (0, 1), (0, (a1 + 3)), (0, 1), (0, (100 * v73151 + 10 * v73192 + v73273 - 5328)), (0, 2)]) (Nat.le_of_ble_eq_true rfl) rfl ?_
                        refine ev_iinc (w := 3) (L' := [(2, 42), (0, a1), (0, 1), (0, (a1 + 3)), (0, 1), (0, (100 * v73151 + 10 * v73192 + v73273 - 5328)), (0, 3)]) rfl (by decide) rfl ?_
                        refine ev_iinc (w := (a1 + 4)) (L' := [(2, 42), (0, a1), (0, 1), (0, (a1 + 4)), (0, 1), (0, (100 * v73151 + 10 * v73192 + v73273 - 5328)), (0, 3)]) rfl (by unfold w32; omega) rfl ?_
                        refine ev_goto f269_47 ?_
                        refine ev_iload rfl ?_
                        refine ev_iconst ?_
                        refine ev_icmpge f269_86 (fun c73327 => ?_) (fun c73327 => absurd c73327 (by omega))
                        refine ev_aload_n rfl ?_
                        refine ev_iload_n rfl ?_
                        refine ev_in (d := 1) (a := 0) (b := 0) (cd' := c265_0) (m := 2) (L0 := [(2, 42), (0, (a1 + 4))]) (jcall_v (A := [(0, (a1 + 4))]) (S' := []) (r := 42) rfl (g.lt ad42) (g.tg ad42) (Nat.le_of_ble_eq_true rfl)) (by decide) ml265 pp265 (Nat.le_of_ble_eq_true rfl) rfl (by decide) (by decide) ?_
                        refine ev_aload_n rfl ?_
                        refine ev_iload_n rfl ?_
                        refine ev_in (d := 0) (a := 0) (b := 0) (cd' := c264_0) (m := 2) (L0 := [(2, 42), (0, (a1 + 4))]) (jcall_v (A := [(0, (a1 + 4))]) (S' := []) (r := 42) rfl (g.lt ad42) (g.tg ad42) (Nat.le_of_ble_eq_true rfl)) (by decide) ml264 pp264 (Nat.le_of_ble_eq_true rfl) rfl (by decide) (by decide) ?_
                        refine ev_iload_n rfl ?_
                        refine ev_aload_n rfl ?_
                        refine g_getv (r := 42) (v := v72888) g ad42 (by decide) ft12_17 (ev72888) ?_
                        refine ev_icmpge f264_17 (fun c73328 => ?_) (fun c73328 => ?_)
                        · refine ev_iconst ?_
                          refine ev_ret rfl (by decide) (by decide) ?_
                          show jEv _ _ _ _ _ _ _ (_, [(2, 42), (0, (a1 + 4))], [(0, (-1))], _, _, _)
                          refine ev_bipush ?_
                          refine ev_bipush ?_
                          refine ev_in (d := 0) (a := 0) (b := 0) (cd' := c242_0) (m := 3) (L0 := [(0, (-1)), (0, 48), (0, 57)]) (jcall_s (A := [(0, 57), (0, 48), (0, (-1))]) (S' := []) (by decide) rfl (Nat.le_of_ble_eq_true rfl)) (by decide) ml242 pp242 (Nat.le_of_ble_eq_true rfl) rfl (by decide) (by decide) ?_
                          refine ev_iload_n rfl ?_
                          refine ev_iload_n rfl ?_
                          refine ev_icmplt f242_14 (fun c73329 => ?_) (fun c73329 => absurd c73329 (by omega))
                          refine ev_iconst ?_
                          refine ev_ret rfl (by decide) (by decide) ?_
                          show jEv _ _ _ _ _ _ _ (_, [(2, 42), (0, (a1 + 4))], [(0, 0)], _, _, _)
                          refine ev_ret rfl (by decide) (by decide) ?_
                          show jEv _ _ _ _ _ _ _ (_, [(2, 42), (0, a1), (0, 1), (0, (a1 + 4)), (0, 1), (0, (100 * v73151 + 10 * v73192 + v73273 - 5328)), (0, 3)], [(0, 0)], _, _, _)
                          refine ev_ifeq f269_100 (fun c73330 => ?_) (fun c73330 => absurd c73330 (by omega))
                          refine ev_aload_n rfl ?_
                          refine ev_iload_n rfl ?_
                          refine ev_iconst ?_
                          refine ev_iload rfl ?_
                          refine ev_ifeq f269_114 (fun c73331 => absurd c73331 (by omega)) (fun c73331 => ?_)
                          refine ev_iload rfl ?_
                          refine ev_ineg (r := ((-100) * v73151 + (-10) * v73192 + (-v73273) + 5328)) (by unfold w32; omega) ?_
                          refine ev_goto f269_116 ?_
                          refine ev_in (d := 1) (a := 0) (b := 0) (cd' := c267_0) (m := 6) (L0 := [(2, 42), (0, 1), (0, 0), (0, ((-100) * v73151 + (-10) * v73192 + (-v73273) + 5328)), (9, 0), (9, 0)]) (jcall_v (A := [(0, ((-100) * v73151 + (-10) * v73192 + (-v73273) + 5328)), (0, 0), (0, 1)]) (S' := []) (r := 42) rfl (g.lt ad42) (g.tg ad42) (Nat.le_of_ble_eq_true rfl)) (by decide) ml267 pp267 (Nat.le_of_ble_eq_true rfl) rfl (by decide) (by decide) ?_
                          refine ev_iload_n rfl ?_
                          refine ev_ifne f267_6 (fun c73332 => ?_) (fun c73332 => absurd c73332 (by omega))
                          refine ev_aload_n rfl ?_
                          refine ev_dup (by decide) ?_
                          refine g_getv (r := 42) (v := w1) g ad42 (by decide) ft12_21 (ew1) ?_
                          refine ev_iconst ?_
                          refine ev_iadd (r := (w1 + 1)) (by unfold w32; omega) ?_
                          refine g_putf (r := 42) g ad42 (by decide) ft12_21 (by decide) (fun e => absurd e nz12_21) rf42_21 (by decide) (by omega) (by omega) (fun h73333 e73333 g73333 => ?_)
                          have k73333 := k0.wr e73333 rfl
                          refine ev_aload_n rfl ?_
                          refine g_getv (r := 42) (v := (w1 + 1)) g73333 ad42 (by decide) ft12_21 ((jw_eq e73333)) ?_
                          refine ev_bipush ?_
                          refine ev_icmple f267_27 (fun c73334 => ?_) (fun c73334 => absurd c73334 (by omega))
                          refine ev_bipush ?_
                          refine ev_aload_n rfl ?_
                          refine g_getv (r := 42) (v := w0) g73333 ad42 (by decide) ft12_9 (((jw_ne e73333 (Or.inr (by decide))).trans ew0)) ?_
                          refine ev_imul (r := (100 * w0)) (by unfold w32; omega) ?_
                          refine ev_aload_n rfl ?_
                          refine g_getv (r := 42) (v := (w1 + 1)) g73333 ad42 (by decide) ft12_21 ((jw_eq e73333)) ?_
                          refine ev_iadd (r := (100 * w0 + w1 + 1)) (by unfold w32; omega) ?_
                          refine ev_iconst ?_
                          refine ev_isub (r := (100 * w0 + w1)) (by unfold w32; omega) ?_
                          refine ev_istore (L' := [(2, 42), (0, 1), (0, 0), (0, ((-100) * v73151 + (-10) * v73192 + (-v73273) + 5328)), (0, (100 * w0 + w1)), (9, 0)]) (Nat.le_of_ble_eq_true rfl) rfl ?_
                          refine ev_aload_n rfl ?_
                          refine g_getp (r := 42) (c := 49) g73333 ad42 (by decide) (by decide) rf42_11 ft12_11 ?_
                          refine ev_iload rfl ?_
                          refine ev_iload_n rfl ?_
                          refine ev_i2b (r := 0) (by unfold w8; omega) ?_
                          refine ev_bastG (r := 49) (j := ((100 * w0 + w1)).toNat) (w := 0) (g73333.lt ad49) (g73333.tg ad49) (by omega) (by rw [g73333.ln ad49]; omega) (by unfold w8; omega) (fun h73335 e73335 => ?_)
                          have g73335 := g73333.s49 e73335 (by rw [(((jw_ne e73333 (Or.inr (by decide))).trans ew0))]; omega) (by omega) (by omega)
                          have k73335 := k73333.wr e73335 rfl
                          refine ev_aload_n rfl ?_
                          refine g_getp (r := 42) (c := 50) g73335 ad42 (by decide) (by decide) rf42_12 ft12_12 ?_
                          refine ev_iload rfl ?_
                          refine ev_iload_n rfl ?_
                          refine ev_iastG (r := 50) (j := ((100 * w0 + w1)).toNat) (g73335.lt ad50) (g73335.tg ad50) (by omega) (by rw [g73335.ln ad50]; omega) (fun h73336 e73336 => ?_)
                          have g73336 := g73335.s50 e73336 (Or.inl (by rw [(((jw_ne e73335 (Or.inl (by decide))).trans ((jw_ne e73333 (Or.inr (by decide))).trans ew0)))]; omega)) (by omega) (by omega)
                          have k73336 := k73335.wr e73336 rfl
                          refine ev_aload_n rfl ?_
                          refine g_getp (r := 42) (c := 53) g73336 ad42 (by decide) (by decide) rf42_15 ft12_15 ?_
                          refine ev_iload rfl ?_
                          refine ev_iconst ?_
                          refine ev_bastG (r := 53) (j := ((100 * w0 + w1)).toNat) (w := 0) (g73336.lt ad53) (g73336.tg ad53) (by omega) (by rw [g73336.ln ad53]; omega) (by unfold w8; omega) (fun h73337 e73337 => ?_)
                          have g73337 := g73336.s53 e73337 (Or.inl (by rw [(((jw_ne e73336 (Or.inl (by decide))).trans ((jw_ne e73335 (Or.inl (by decide))).trans ((jw_ne e73333 (Or.inr (by decide))).trans ew0))))]; omega)) (by omega) (by omega)
                          have k73337 := k73336.wr e73337 rfl
                          refine ev_iconst ?_
                          refine ev_istore (L' := [(2, 42), (0, 1), (0, 0), (0, ((-100) * v73151 + (-10) * v73192 + (-v73273) + 5328)), (0, (100 * w0 + w1)), (0, 0)]) (Nat.le_of_ble_eq_true rfl) rfl ?_
                          refine ev_iload rfl ?_
                          refine ev_iconst ?_
                          refine ev_icmpge f267_109 (fun c73338 => absurd c73338 (by omega)) (fun c73338 => ?_)
                          refine ev_aload_n rfl ?_
                          refine g_getp (r := 42) (c := 51) g73337 ad42 (by decide) (by decide) rf42_13 ft12_13 ?_
                          refine ev_iconst ?_
                          refine ev_iload rfl ?_
                          refine ev_imul (r := (400 * w0 + 4 * w1)) (by unfold w32; omega) ?_
                          refine ev_iload rfl ?_
                          refine ev_iadd (r := (400 * w0 + 4 * w1)) (by unfold w32; omega) ?_
                          refine ev_iconst ?_
                          refine ev_bastG (r := 51) (j := ((400 * w0 + 4 * w1)).toNat) (w := (-1)) (g73337.lt ad51) (g73337.tg ad51) (by omega) (by rw [g73337.ln ad51]; omega) (by unfold w8; omega) (fun h73339 e73339 => ?_)
                          have g73339 := g73337.s51 e73339 (by rw [(((jw_ne e73337 (Or.inl (by decide))).trans ((jw_ne e73336 (Or.inl (by decide))).trans ((jw_ne e73335 (Or.inl (by decide))).trans ((jw_ne e73333 (Or.inr (by decide))).trans ew0)))))]; omega) (by omega) (by omega)
                          have k73339 := k73337.wr e73339 rfl
                          refine ev_aload_n rfl ?_
                          refine g_getp (r := 42) (c := 52) g73339 ad42 (by decide) (by decide) rf42_14 ft12_14 ?_
                          refine ev_iconst ?_
                          refine ev_iload rfl ?_
                          refine ev_imul (r := (400 * w0 + 4 * w1)) (by unfold w32; omega) ?_
                          refine ev_iload rfl ?_
                          refine ev_iadd (r := (400 * w0 + 4 * w1)) (by unfold w32; omega) ?_
                          refine ev_iconst ?_
                          refine g_iast g73339 ad52 rt52 (fun _ => rfl) (by omega) (by omega) (by omega) (by omega) (fun h73340 e73340 g73340 => ?_)
                          have k73340 := k73339.wr e73340 rfl
                          refine ev_iinc (w := 1) (L' := [(2, 42), (0, 1), (0, 0), (0, ((-100) * v73151 + (-10) * v73192 + (-v73273) + 5328)), (0, (100 * w0 + w1)), (0, 1)]) rfl (by decide) rfl ?_
                          refine ev_goto f267_71 ?_
                          refine ev_iload rfl ?_
                          refine ev_iconst ?_
                          refine ev_icmpge f267_109 (fun c73341 => absurd c73341 (by omega)) (fun c73341 => ?_)
                          refine ev_aload_n rfl ?_
                          refine g_getp (r := 42) (c := 51) g73340 ad42 (by decide) (by decide) rf42_13 ft12_13 ?_
                          refine ev_iconst ?_
                          refine ev_iload rfl ?_
                          refine ev_imul (r := (400 * w0 + 4 * w1)) (by unfold w32; omega) ?_
                          refine ev_iload rfl ?_
                          refine ev_iadd (r := (400 * w0 + 4 * w1 + 1)) (by unfold w32; omega) ?_
                          refine ev_iconst ?_
                          refine ev_bastG (r := 51) (j := ((400 * w0 + 4 * w1 + 1)).toNat) (w := (-1)) (g73340.lt ad51) (g73340.tg ad51) (by omega) (by rw [g73340.ln ad51]; omega) (by unfold w8; omega) (fun h73342 e73342 => ?_)
                          have g73342 := g73340.s51 e73342 (by rw [(((jw_ne e73340 (Or.inl (by decide))).trans ((jw_ne e73339 (Or.inl (by decide))).trans ((jw_ne e73337 (Or.inl (by decide))).trans ((jw_ne e73336 (Or.inl (by decide))).trans ((jw_ne e73335 (Or.inl (by decide))).trans ((jw_ne e73333 (Or.inr (by decide))).trans ew0)))))))]; omega) (by omega) (by omega)
                          have k73342 := k73340.wr e73342 rfl
                          refine ev_aload_n rfl ?_
                          refine g_getp (r := 42) (c := 52) g73342 ad42 (by decide) (by decide) rf42_14 ft12_14 ?_
                          refine ev_iconst ?_
                          refine ev_iload rfl ?_
                          refine ev_imul (r := (400 * w0 + 4 * w1)) (by unfold w32; omega) ?_
                          refine ev_iload rfl ?_
                          refine ev_iadd (r := (400 * w0 + 4 * w1 + 1)) (by unfold w32; omega) ?_
                          refine ev_iconst ?_
                          refine g_iast g73342 ad52 rt52 (fun _ => rfl) (by omega) (by omega) (by omega) (by omega) (fun h73343 e73343 g73343 => ?_)
                          have k73343 := k73342.wr e73343 rfl
                          refine ev_iinc (w := 2) (L' := [(2, 42), (0, 1), (0, 0), (0, ((-100) * v73151 + (-10) * v73192 + (-v73273) + 5328)), (0, (100 * w0 + w1)), (0, 2)]) rfl (by decide) rfl ?_
                          refine ev_goto f267_71 ?_
                          refine ev_iload rfl ?_
                          refine ev_iconst ?_
                          refine ev_icmpge f267_109 (fun c73344 => absurd c73344 (by omega)) (fun c73344 => ?_)
                          refine ev_aload_n rfl ?_
                          refine g_getp (r := 42) (c := 51) g73343 ad42 (by decide) (by decide) rf42_13 ft12_13 ?_
                          refine ev_iconst ?_
                          refine ev_iload rfl ?_
                          refine ev_imul (r := (400 * w0 + 4 * w1)) (by unfold w32; omega) ?_
                          refine ev_iload rfl ?_
                          refine ev_iadd (r := (400 * w0 + 4 * w1 + 2)) (by unfold w32; omega) ?_
                          refine ev_iconst ?_
                          refine ev_bastG (r := 51) (j := ((400 * w0 + 4 * w1 + 2)).toNat) (w := (-1)) (g73343.lt ad51) (g73343.tg ad51) (by omega) (by rw [g73343.ln ad51]; omega) (by unfold w8; omega) (fun h73345 e73345 => ?_)
                          have g73345 := g73343.s51 e73345 (by rw [(((jw_ne e73343 (Or.inl (by decide))).trans ((jw_ne e73342 (Or.inl (by decide))).trans ((jw_ne e73340 (Or.inl (by decide))).trans ((jw_ne e73339 (Or.inl (by decide))).trans ((jw_ne e73337 (Or.inl (by decide))).trans ((jw_ne e73336 (Or.inl (by decide))).trans ((jw_ne e73335 (Or.inl (by decide))).trans ((jw_ne e73333 (Or.inr (by decide))).trans ew0)))))))))]; omega) (by omega) (by omega)
                          have k73345 := k73343.wr e73345 rfl
                          refine ev_aload_n rfl ?_
                          refine g_getp (r := 42) (c := 52) g73345 ad42 (by decide) (by decide) rf42_14 ft12_14 ?_
                          refine ev_iconst ?_
                          refine ev_iload rfl ?_
                          refine ev_imul (r := (400 * w0 + 4 * w1)) (by unfold w32; omega) ?_
                          refine ev_iload rfl ?_
                          refine ev_iadd (r := (400 * w0 + 4 * w1 + 2)) (by unfold w32; omega) ?_
                          refine ev_iconst ?_
                          refine g_iast g73345 ad52 rt52 (fun _ => rfl) (by omega) (by omega) (by omega) (by omega) (fun h73346 e73346 g73346 => ?_)
                          have k73346 := k73345.wr e73346 rfl
                          refine ev_iinc (w := 3) (L' := [(2, 42), (0, 1), (0, 0), (0, ((-100) * v73151 + (-10) * v73192 + (-v73273) + 5328)), (0, (100 * w0 + w1)), (0, 3)]) rfl (by decide) rfl ?_
                          refine ev_goto f267_71 ?_
                          refine ev_iload rfl ?_
                          refine ev_iconst ?_
                          refine ev_icmpge f267_109 (fun c73347 => absurd c73347 (by omega)) (fun c73347 => ?_)
                          refine ev_aload_n rfl ?_
                          refine g_getp (r := 42) (c := 51) g73346 ad42 (by decide) (by decide) rf42_13 ft12_13 ?_
                          refine ev_iconst ?_
                          refine ev_iload rfl ?_
                          refine ev_imul (r := (400 * w0 + 4 * w1)) (by unfold w32; omega) ?_
                          refine ev_iload rfl ?_
                          refine ev_iadd (r := (400 * w0 + 4 * w1 + 3)) (by unfold w32; omega) ?_
                          refine ev_iconst ?_
                          refine ev_bastG (r := 51) (j := ((400 * w0 + 4 * w1 + 3)).toNat) (w := (-1)) (g73346.lt ad51) (g73346.tg ad51) (by omega) (by rw [g73346.ln ad51]; omega) (by unfold w8; omega) (fun h73348 e73348 => ?_)
                          have g73348 := g73346.s51 e73348 (by rw [(((jw_ne e73346 (Or.inl (by decide))).trans ((jw_ne e73345 (Or.inl (by decide))).trans ((jw_ne e73343 (Or.inl (by decide))).trans ((jw_ne e73342 (Or.inl (by decide))).trans ((jw_ne e73340 (Or.inl (by decide))).trans ((jw_ne e73339 (Or.inl (by decide))).trans ((jw_ne e73337 (Or.inl (by decide))).trans ((jw_ne e73336 (Or.inl (by decide))).trans ((jw_ne e73335 (Or.inl (by decide))).trans ((jw_ne e73333 (Or.inr (by decide))).trans ew0)))))))))))]; omega) (by omega) (by omega)
                          have k73348 := k73346.wr e73348 rfl
                          refine ev_aload_n rfl ?_
                          refine g_getp (r := 42) (c := 52) g73348 ad42 (by decide) (by decide) rf42_14 ft12_14 ?_
                          refine ev_iconst ?_
                          refine ev_iload rfl ?_
                          refine ev_imul (r := (400 * w0 + 4 * w1)) (by unfold w32; omega) ?_
                          refine ev_iload rfl ?_
                          refine ev_iadd (r := (400 * w0 + 4 * w1 + 3)) (by unfold w32; omega) ?_
                          refine ev_iconst ?_
                          refine g_iast g73348 ad52 rt52 (fun _ => rfl) (by omega) (by omega) (by omega) (by omega) (fun h73349 e73349 g73349 => ?_)
                          have k73349 := k73348.wr e73349 rfl
                          refine ev_iinc (w := 4) (L' := [(2, 42), (0, 1), (0, 0), (0, ((-100) * v73151 + (-10) * v73192 + (-v73273) + 5328)), (0, (100 * w0 + w1)), (0, 4)]) rfl (by decide) rfl ?_
                          refine ev_goto f267_71 ?_
                          refine ev_iload rfl ?_
                          refine ev_iconst ?_
                          refine ev_icmpge f267_109 (fun c73350 => ?_) (fun c73350 => absurd c73350 (by omega))
                          refine ev_iload rfl ?_
                          refine ev_ret rfl (by decide) (by decide) ?_
                          show jEv _ _ _ _ _ _ _ (_, [(2, 42), (0, a1), (0, 1), (0, (a1 + 4)), (0, 1), (0, (100 * v73151 + 10 * v73192 + v73273 - 5328)), (0, 3)], [(0, (100 * w0 + w1))], _, _, _)
                          refine ev_pop (by decide) ?_
                          refine ev_iload_n rfl ?_
                          exact ev_ret rfl (by decide) (by decide) ⟨⟨_, rfl, by omega, by omega, g73349, k73349⟩, fun r hr h0 => by cases hr; exact (Ad.step (r' := (a1 + 4)) (Ad.step (r' := (a1 + 3)) (Ad.step (r' := (a1 + 2)) (Ad.step (r' := (a1 + 1)) (Ad.rf _ _ _) (by omega) k73349 (fun _ => rfl) (((jw_ne e73349 (Or.inl (by decide))).trans ((jw_ne e73348 (Or.inl (by decide))).trans ((jw_ne e73346 (Or.inl (by decide))).trans ((jw_ne e73345 (Or.inl (by decide))).trans ((jw_ne e73343 (Or.inl (by decide))).trans ((jw_ne e73342 (Or.inl (by decide))).trans ((jw_ne e73340 (Or.inl (by decide))).trans ((jw_ne e73339 (Or.inl (by decide))).trans ((jw_ne e73337 (Or.inl (by decide))).trans ((jw_ne e73336 (Or.inl (by decide))).trans ((jw_ne e73335 (Or.inl (by decide))).trans ((jw_ne e73333 (Or.inl (by decide))).trans ev72896))))))))))))) (by omega) (by omega) (by omega)) (by omega) k73349 (fun _ => rfl) (((jw_ne e73349 (Or.inl (by decide))).trans ((jw_ne e73348 (Or.inl (by decide))).trans ((jw_ne e73346 (Or.inl (by decide))).trans ((jw_ne e73345 (Or.inl (by decide))).trans ((jw_ne e73343 (Or.inl (by decide))).trans ((jw_ne e73342 (Or.inl (by decide))).trans ((jw_ne e73340 (Or.inl (by decide))).trans ((jw_ne e73339 (Or.inl (by decide))).trans ((jw_ne e73337 (Or.inl (by decide))).trans ((jw_ne e73336 (Or.inl (by decide))).trans ((jw_ne e73335 (Or.inl (by decide))).trans ((jw_ne e73333 (Or.inl (by decide))).trans ev73151))))))))))))) (by omega) (by omega) (by omega)) (by omega) k73349 (fun _ => rfl) (((jw_ne e73349 (Or.inl (by decide))).trans ((jw_ne e73348 (Or.inl (by decide))).trans ((jw_ne e73346 (Or.inl (by decide))).trans ((jw_ne e73345 (Or.inl (by decide))).trans ((jw_ne e73343 (Or.inl (by decide))).trans ((jw_ne e73342 (Or.inl (by decide))).trans ((jw_ne e73340 (Or.inl (by decide))).trans ((jw_ne e73339 (Or.inl (by decide))).trans ((jw_ne e73337 (Or.inl (by decide))).trans ((jw_ne e73336 (Or.inl (by decide))).trans ((jw_ne e73335 (Or.inl (by decide))).trans ((jw_ne e73333 (Or.inl (by decide))).trans ev73192))))))))))))) (by omega) (by omega) (by omega)) (by omega) k73349 (fun _ => rfl) (((jw_ne e73349 (Or.inl (by decide))).trans ((jw_ne e73348 (Or.inl (by decide))).trans ((jw_ne e73346 (Or.inl (by decide))).trans ((jw_ne e73345 (Or.inl (by decide))).trans ((jw_ne e73343 (Or.inl (by decide))).trans ((jw_ne e73342 (Or.inl (by decide))).trans ((jw_ne e73340 (Or.inl (by decide))).trans ((jw_ne e73339 (Or.inl (by decide))).trans ((jw_ne e73337 (Or.inl (by decide))).trans ((jw_ne e73336 (Or.inl (by decide))).trans ((jw_ne e73335 (Or.inl (by decide))).trans ((jw_ne e73333 (Or.inl (by decide))).trans ev73273))))))))))))) (by omega) (by omega) (by omega)), fun r hr => by cases hr; exact ⟨_, (((jw_ne e73349 (Or.inl (by decide))).trans ((jw_ne e73348 (Or.inl (by decide))).trans ((jw_ne e73346 (Or.inl (by decide))).trans ((jw_ne e73345 (Or.inl (by decide))).trans ((jw_ne e73343 (Or.inl (by decide))).trans ((jw_ne e73342 (Or.inl (by decide))).trans ((jw_ne e73340 (Or.inl (by decide))).trans ((jw_ne e73339 (Or.inl (by decide))).trans ((jw_ne e73337 (Or.inl (by decide))).trans ((jw_ne e73336 (Or.inl (by decide))).trans ((jw_ne e73335 (Or.inl (by decide))).trans (jw_eq e73333))))))))))))), by omega, by omega, (Fr.kp (Fr.w (i := (400 * w0 + 4 * w1 + 3)) (Fr.kp (Fr.w (i := (400 * w0 + 4 * w1 + 2)) (Fr.kp (Fr.w (i := (400 * w0 + 4 * w1 + 1)) (Fr.kp (Fr.w (i := (400 * w0 + 4 * w1)) (Fr.w (i := (100 * w0 + w1)) (Fr.w (i := (100 * w0 + w1)) (Fr.w (i := (100 * w0 + w1)) (Fr.kp (Fr.rf _ _) ((Kp.rf [(42, 0)] _).wr e73333 rfl) (fun _ => rfl) (fun _ => rfl) (fun _ => rfl) (fun _ => rfl)) e73335 (by omega) (by omega)) e73336 (by omega) (by omega)) e73337 (by omega) (by omega)) e73339 (by omega) (by omega)) ((Kp.rf [(52, 0)] _).wr e73340 rfl) (fun _ => rfl) (fun _ => rfl) (fun _ => rfl) (fun _ => rfl)) e73342 (by omega) (by omega)) ((Kp.rf [(52, 0)] _).wr e73343 rfl) (fun _ => rfl) (fun _ => rfl) (fun _ => rfl) (fun _ => rfl)) e73345 (by omega) (by omega)) ((Kp.rf [(52, 0)] _).wr e73346 rfl) (fun _ => rfl) (fun _ => rfl) (fun _ => rfl) (fun _ => rfl)) e73348 (by omega) (by omega)) ((Kp.rf [(52, 0)] _).wr e73349 rfl) (fun _ => rfl) (fun _ => rfl) (fun _ => rfl) (fun _ => rfl)), fun h0 => by omega, fun h0 hm => Tr.end (i := (100 * w0 + w1)) (by omega) (by omega) (by omega) (((jw_ne e73349 (Or.inl (by decide))).trans ((jw_ne e73348 (Or.inl (by decide))).trans ((jw_ne e73346 (Or.inl (by decide))).trans ((jw_ne e73345 (Or.inl (by decide))).trans ((jw_ne e73343 (Or.inl (by decide))).trans ((jw_ne e73342 (Or.inl (by decide))).trans ((jw_ne e73340 (Or.inl (by decide))).trans ((jw_ne e73339 (Or.inl (by decide))).trans ((jw_ne e73337 (Or.inl (by decide))).trans ((jw_ne e73336 (Or.inl (by decide))).trans (jw_eq e73335)))))))))))) (by omega) (by omega)⟩⟩
                        · refine ev_aload_n rfl ?_
                          refine g_getp (r := 42) (c := 54) g ad42 (by decide) (by decide) rf42_16 ft12_16 ?_
                          refine ev_iload_n rfl ?_
                          refine g_bald g ad54 rt54 (by omega) (by omega) (fun v73351 ev73351 lv73351 uv73351 => ?_)
                          refine ev_goto f264_18 ?_
                          refine ev_ret rfl (by decide) (by decide) ?_
                          show jEv _ _ _ _ _ _ _ (_, [(2, 42), (0, (a1 + 4))], [(0, v73351)], _, _, _)
                          refine ev_bipush ?_
                          refine ev_bipush ?_
                          refine ev_in (d := 0) (a := 0) (b := 0) (cd' := c242_0) (m := 3) (L0 := [(0, v73351), (0, 48), (0, 57)]) (jcall_s (A := [(0, 57), (0, 48), (0, v73351)]) (S' := []) (by decide) rfl (Nat.le_of_ble_eq_true rfl)) (by decide) ml242 pp242 (Nat.le_of_ble_eq_true rfl) rfl (by decide) (by decide) ?_
                          refine ev_iload_n rfl ?_
                          refine ev_iload_n rfl ?_
                          refine ev_icmplt f242_14 (fun c73352 => ?_) (fun c73352 => ?_)
                          · refine ev_iconst ?_
                            refine ev_ret rfl (by decide) (by decide) ?_
                            show jEv _ _ _ _ _ _ _ (_, [(2, 42), (0, (a1 + 4))], [(0, 0)], _, _, _)
                            refine ev_ret rfl (by decide) (by decide) ?_
                            show jEv _ _ _ _ _ _ _ (_, [(2, 42), (0, a1), (0, 1), (0, (a1 + 4)), (0, 1), (0, (100 * v73151 + 10 * v73192 + v73273 - 5328)), (0, 3)], [(0, 0)], _, _, _)
                            refine ev_ifeq f269_100 (fun c73353 => ?_) (fun c73353 => absurd c73353 (by omega))
                            refine ev_aload_n rfl ?_
                            refine ev_iload_n rfl ?_
                            refine ev_iconst ?_
                            refine ev_iload rfl ?_
                            refine ev_ifeq f269_114 (fun c73354 => absurd c73354 (by omega)) (fun c73354 => ?_)
                            refine ev_iload rfl ?_
                            refine ev_ineg (r := ((-100) * v73151 + (-10) * v73192 + (-v73273) + 5328)) (by unfold w32; omega) ?_
                            refine ev_goto f269_116 ?_
                            refine ev_in (d := 1) (a := 0) (b := 0) (cd' := c267_0) (m := 6) (L0 := [(2, 42), (0, 1), (0, 0), (0, ((-100) * v73151 + (-10) * v73192 + (-v73273) + 5328)), (9, 0), (9, 0)]) (jcall_v (A := [(0, ((-100) * v73151 + (-10) * v73192 + (-v73273) + 5328)), (0, 0), (0, 1)]) (S' := []) (r := 42) rfl (g.lt ad42) (g.tg ad42) (Nat.le_of_ble_eq_true rfl)) (by decide) ml267 pp267 (Nat.le_of_ble_eq_true rfl) rfl (by decide) (by decide) ?_
                            refine ev_iload_n rfl ?_
                            refine ev_ifne f267_6 (fun c73355 => ?_) (fun c73355 => absurd c73355 (by omega))
                            refine ev_aload_n rfl ?_
                            refine ev_dup (by decide) ?_
                            refine g_getv (r := 42) (v := w1) g ad42 (by decide) ft12_21 (ew1) ?_
                            refine ev_iconst ?_
                            refine ev_iadd (r := (w1 + 1)) (by unfold w32; omega) ?_
                            refine g_putf (r := 42) g ad42 (by decide) ft12_21 (by decide) (fun e => absurd e nz12_21) rf42_21 (by decide) (by omega) (by omega) (fun h73356 e73356 g73356 => ?_)
                            have k73356 := k0.wr e73356 rfl
                            refine ev_aload_n rfl ?_
                            refine g_getv (r := 42) (v := (w1 + 1)) g73356 ad42 (by decide) ft12_21 ((jw_eq e73356)) ?_
                            refine ev_bipush ?_
                            refine ev_icmple f267_27 (fun c73357 => ?_) (fun c73357 => absurd c73357 (by omega))
                            refine ev_bipush ?_
                            refine ev_aload_n rfl ?_
                            refine g_getv (r := 42) (v := w0) g73356 ad42 (by decide) ft12_9 (((jw_ne e73356 (Or.inr (by decide))).trans ew0)) ?_
                            refine ev_imul (r := (100 * w0)) (by unfold w32; omega) ?_
                            refine ev_aload_n rfl ?_
                            refine g_getv (r := 42) (v := (w1 + 1)) g73356 ad42 (by decide) ft12_21 ((jw_eq e73356)) ?_
                            refine ev_iadd (r := (100 * w0 + w1 + 1)) (by unfold w32; omega) ?_
                            refine ev_iconst ?_
                            refine ev_isub (r := (100 * w0 + w1)) (by unfold w32; omega) ?_
                            refine ev_istore (L' := [(2, 42), (0, 1), (0, 0), (0, ((-100) * v73151 + (-10) * v73192 + (-v73273) + 5328)), (0, (100 * w0 + w1)), (9, 0)]) (Nat.le_of_ble_eq_true rfl) rfl ?_
                            refine ev_aload_n rfl ?_
                            refine g_getp (r := 42) (c := 49) g73356 ad42 (by decide) (by decide) rf42_11 ft12_11 ?_
                            refine ev_iload rfl ?_
                            refine ev_iload_n rfl ?_
                            refine ev_i2b (r := 0) (by unfold w8; omega) ?_
                            refine ev_bastG (r := 49) (j := ((100 * w0 + w1)).toNat) (w := 0) (g73356.lt ad49) (g73356.tg ad49) (by omega) (by rw [g73356.ln ad49]; omega) (by unfold w8; omega) (fun h73358 e73358 => ?_)
                            have g73358 := g73356.s49 e73358 (by rw [(((jw_ne e73356 (Or.inr (by decide))).trans ew0))]; omega) (by omega) (by omega)
                            have k73358 := k73356.wr e73358 rfl
                            refine ev_aload_n rfl ?_
                            refine g_getp (r := 42) (c := 50) g73358 ad42 (by decide) (by decide) rf42_12 ft12_12 ?_
                            refine ev_iload rfl ?_
                            refine ev_iload_n rfl ?_
                            refine ev_iastG (r := 50) (j := ((100 * w0 + w1)).toNat) (g73358.lt ad50) (g73358.tg ad50) (by omega) (by rw [g73358.ln ad50]; omega) (fun h73359 e73359 => ?_)
                            have g73359 := g73358.s50 e73359 (Or.inl (by rw [(((jw_ne e73358 (Or.inl (by decide))).trans ((jw_ne e73356 (Or.inr (by decide))).trans ew0)))]; omega)) (by omega) (by omega)
                            have k73359 := k73358.wr e73359 rfl
                            refine ev_aload_n rfl ?_
                            refine g_getp (r := 42) (c := 53) g73359 ad42 (by decide) (by decide) rf42_15 ft12_15 ?_
                            refine ev_iload rfl ?_
                            refine ev_iconst ?_
                            refine ev_bastG (r := 53) (j := ((100 * w0 + w1)).toNat) (w := 0) (g73359.lt ad53) (g73359.tg ad53) (by omega) (by rw [g73359.ln ad53]; omega) (by unfold w8; omega) (fun h73360 e73360 => ?_)
                            have g73360 := g73359.s53 e73360 (Or.inl (by rw [(((jw_ne e73359 (Or.inl (by decide))).trans ((jw_ne e73358 (Or.inl (by decide))).trans ((jw_ne e73356 (Or.inr (by decide))).trans ew0))))]; omega)) (by omega) (by omega)
                            have k73360 := k73359.wr e73360 rfl
                            refine ev_iconst ?_
                            refine ev_istore (L' := [(2, 42), (0, 1), (0, 0), (0, ((-100) * v73151 + (-10) * v73192 + (-v73273) + 5328)), (0, (100 * w0 + w1)), (0, 0)]) (Nat.le_of_ble_eq_true rfl) rfl ?_
                            refine ev_iload rfl ?_
                            refine ev_iconst ?_
                            refine ev_icmpge f267_109 (fun c73361 => absurd c73361 (by omega)) (fun c73361 => ?_)
                            refine ev_aload_n rfl ?_
                            refine g_getp (r := 42) (c := 51) g73360 ad42 (by decide) (by decide) rf42_13 ft12_13 ?_
                            refine ev_iconst ?_
                            refine ev_iload rfl ?_
                            refine ev_imul (r := (400 * w0 + 4 * w1)) (by unfold w32; omega) ?_
                            refine ev_iload rfl ?_
                            refine ev_iadd (r := (400 * w0 + 4 * w1)) (by unfold w32; omega) ?_
                            refine ev_iconst ?_
                            refine ev_bastG (r := 51) (j := ((400 * w0 + 4 * w1)).toNat) (w := (-1)) (g73360.lt ad51) (g73360.tg ad51) (by omega) (by rw [g73360.ln ad51]; omega) (by unfold w8; omega) (fun h73362 e73362 => ?_)
                            have g73362 := g73360.s51 e73362 (by rw [(((jw_ne e73360 (Or.inl (by decide))).trans ((jw_ne e73359 (Or.inl (by decide))).trans ((jw_ne e73358 (Or.inl (by decide))).trans ((jw_ne e73356 (Or.inr (by decide))).trans ew0)))))]; omega) (by omega) (by omega)
                            have k73362 := k73360.wr e73362 rfl
                            refine ev_aload_n rfl ?_
                            refine g_getp (r := 42) (c := 52) g73362 ad42 (by decide) (by decide) rf42_14 ft12_14 ?_
                            refine ev_iconst ?_
                            refine ev_iload rfl ?_
                            refine ev_imul (r := (400 * w0 + 4 * w1)) (by unfold w32; omega) ?_
                            refine ev_iload rfl ?_
                            refine ev_iadd (r := (400 * w0 + 4 * w1)) (by unfold w32; omega) ?_
                            refine ev_iconst ?_
                            refine g_iast g73362 ad52 rt52 (fun _ => rfl) (by omega) (by omega) (by omega) (by omega) (fun h73363 e73363 g73363 => ?_)
                            have k73363 := k73362.wr e73363 rfl
                            refine ev_iinc (w := 1) (L' := [(2, 42), (0, 1), (0, 0), (0, ((-100) * v73151 + (-10) * v73192 + (-v73273) + 5328)), (0, (100 * w0 + w1)), (0, 1)]) rfl (by decide) rfl ?_
                            refine ev_goto f267_71 ?_
                            refine ev_iload rfl ?_
                            refine ev_iconst ?_
                            refine ev_icmpge f267_109 (fun c73364 => absurd c73364 (by omega)) (fun c73364 => ?_)
                            refine ev_aload_n rfl ?_
                            refine g_getp (r := 42) (c := 51) g73363 ad42 (by decide) (by decide) rf42_13 ft12_13 ?_
                            refine ev_iconst ?_
                            refine ev_iload rfl ?_
                            refine ev_imul (r := (400 * w0 + 4 * w1)) (by unfold w32; omega) ?_
                            refine ev_iload rfl ?_
                            refine ev_iadd (r := (400 * w0 + 4 * w1 + 1)) (by unfold w32; omega) ?_
                            refine ev_iconst ?_
                            refine ev_bastG (r := 51) (j := ((400 * w0 + 4 * w1 + 1)).toNat) (w := (-1)) (g73363.lt ad51) (g73363.tg ad51) (by omega) (by rw [g73363.ln ad51]; omega) (by unfold w8; omega) (fun h73365 e73365 => ?_)
                            have g73365 := g73363.s51 e73365 (by rw [(((jw_ne e73363 (Or.inl (by decide))).trans ((jw_ne e73362 (Or.inl (by decide))).trans ((jw_ne e73360 (Or.inl (by decide))).trans ((jw_ne e73359 (Or.inl (by decide))).trans ((jw_ne e73358 (Or.inl (by decide))).trans ((jw_ne e73356 (Or.inr (by decide))).trans ew0)))))))]; omega) (by omega) (by omega)
                            have k73365 := k73363.wr e73365 rfl
                            refine ev_aload_n rfl ?_
                            refine g_getp (r := 42) (c := 52) g73365 ad42 (by decide) (by decide) rf42_14 ft12_14 ?_
                            refine ev_iconst ?_
                            refine ev_iload rfl ?_
                            refine ev_imul (r := (400 * w0 + 4 * w1)) (by unfold w32; omega) ?_
                            refine ev_iload rfl ?_
                            refine ev_iadd (r := (400 * w0 + 4 * w1 + 1)) (by unfold w32; omega) ?_
                            refine ev_iconst ?_
                            refine g_iast g73365 ad52 rt52 (fun _ => rfl) (by omega) (by omega) (by omega) (by omega) (fun h73366 e73366 g73366 => ?_)
                            have k73366 := k73365.wr e73366 rfl
                            refine ev_iinc (w := 2) (L' := [(2, 42), (0, 1), (0, 0), (0, ((-100) * v73151 + (-10) * v73192 + (-v73273) + 5328)), (0, (100 * w0 + w1)), (0, 2)]) rfl (by decide) rfl ?_
                            refine ev_goto f267_71 ?_
                            refine ev_iload rfl ?_
                            refine ev_iconst ?_
                            refine ev_icmpge f267_109 (fun c73367 => absurd c73367 (by omega)) (fun c73367 => ?_)
                            refine ev_aload_n rfl ?_
                            refine g_getp (r := 42) (c := 51) g73366 ad42 (by decide) (by decide) rf42_13 ft12_13 ?_
                            refine ev_iconst ?_
                            refine ev_iload rfl ?_
                            refine ev_imul (r := (400 * w0 + 4 * w1)) (by unfold w32; omega) ?_
                            refine ev_iload rfl ?_
                            refine ev_iadd (r := (400 * w0 + 4 * w1 + 2)) (by unfold w32; omega) ?_
                            refine ev_iconst ?_
                            refine ev_bastG (r := 51) (j := ((400 * w0 + 4 * w1 + 2)).toNat) (w := (-1)) (g73366.lt ad51) (g73366.tg ad51) (by omega) (by rw [g73366.ln ad51]; omega) (by unfold w8; omega) (fun h73368 e73368 => ?_)
                            have g73368 := g73366.s51 e73368 (by rw [(((jw_ne e73366 (Or.inl (by decide))).trans ((jw_ne e73365 (Or.inl (by decide))).trans ((jw_ne e73363 (Or.inl (by decide))).trans ((jw_ne e73362 (Or.inl (by decide))).trans ((jw_ne e73360 (Or.inl (by decide))).trans ((jw_ne e73359 (Or.inl (by decide))).trans ((jw_ne e73358 (Or.inl (by decide))).trans ((jw_ne e73356 (Or.inr (by decide))).trans ew0)))))))))]; omega) (by omega) (by omega)
                            have k73368 := k73366.wr e73368 rfl
                            refine ev_aload_n rfl ?_
                            refine g_getp (r := 42) (c := 52) g73368 ad42 (by decide) (by decide) rf42_14 ft12_14 ?_
                            refine ev_iconst ?_
                            refine ev_iload rfl ?_
                            refine ev_imul (r := (400 * w0 + 4 * w1)) (by unfold w32; omega) ?_
                            refine ev_iload rfl ?_
                            refine ev_iadd (r := (400 * w0 + 4 * w1 + 2)) (by unfold w32; omega) ?_
                            refine ev_iconst ?_
                            refine g_iast g73368 ad52 rt52 (fun _ => rfl) (by omega) (by omega) (by omega) (by omega) (fun h73369 e73369 g73369 => ?_)
                            have k73369 := k73368.wr e73369 rfl
                            refine ev_iinc (w := 3) (L' := [(2, 42), (0, 1), (0, 0), (0, ((-100) * v73151 + (-10) * v73192 + (-v73273) + 5328)), (0, (100 * w0 + w1)), (0, 3)]) rfl (by decide) rfl ?_
                            refine ev_goto f267_71 ?_
                            refine ev_iload rfl ?_
                            refine ev_iconst ?_
                            refine ev_icmpge f267_109 (fun c73370 => absurd c73370 (by omega)) (fun c73370 => ?_)
                            refine ev_aload_n rfl ?_
                            refine g_getp (r := 42) (c := 51) g73369 ad42 (by decide) (by decide) rf42_13 ft12_13 ?_
                            refine ev_iconst ?_
                            refine ev_iload rfl ?_
                            refine ev_imul (r := (400 * w0 + 4 * w1)) (by unfold w32; omega) ?_
                            refine ev_iload rfl ?_
                            refine ev_iadd (r := (400 * w0 + 4 * w1 + 3)) (by unfold w32; omega) ?_
                            refine ev_iconst ?_
                            refine ev_bastG (r := 51) (j := ((400 * w0 + 4 * w1 + 3)).toNat) (w := (-1)) (g73369.lt ad51) (g73369.tg ad51) (by omega) (by rw [g73369.ln ad51]; omega) (by unfold w8; omega) (fun h73371 e73371 => ?_)
                            have g73371 := g73369.s51 e73371 (by rw [(((jw_ne e73369 (Or.inl (by decide))).trans ((jw_ne e73368 (Or.inl (by decide))).trans ((jw_ne e73366 (Or.inl (by decide))).trans ((jw_ne e73365 (Or.inl (by decide))).trans ((jw_ne e73363 (Or.inl (by decide))).trans ((jw_ne e73362 (Or.inl (by decide))).trans ((jw_ne e73360 (Or.inl (by decide))).trans ((jw_ne e73359 (Or.inl (by decide))).trans ((jw_ne e73358 (Or.inl (by decide))).trans ((jw_ne e73356 (Or.inr (by decide))).trans ew0)))))))))))]; omega) (by omega) (by omega)
                            have k73371 := k73369.wr e73371 rfl
                            refine ev_aload_n rfl ?_
                            refine g_getp (r := 42) (c := 52) g73371 ad42 (by decide) (by decide) rf42_14 ft12_14 ?_
                            refine ev_iconst ?_
                            refine ev_iload rfl ?_
                            refine ev_imul (r := (400 * w0 + 4 * w1)) (by unfold w32; omega) ?_
                            refine ev_iload rfl ?_
                            refine ev_iadd (r := (400 * w0 + 4 * w1 + 3)) (by unfold w32; omega) ?_
                            refine ev_iconst ?_
                            refine g_iast g73371 ad52 rt52 (fun _ => rfl) (by omega) (by omega) (by omega) (by omega) (fun h73372 e73372 g73372 => ?_)
                            have k73372 := k73371.wr e73372 rfl
                            refine ev_iinc (w := 4) (L' := [(2, 42), (0, 1), (0, 0), (0, ((-100) * v73151 + (-10) * v73192 + (-v73273) + 5328)), (0, (100 * w0 + w1)), (0, 4)]) rfl (by decide) rfl ?_
                            refine ev_goto f267_71 ?_
                            refine ev_iload rfl ?_
                            refine ev_iconst ?_
                            refine ev_icmpge f267_109 (fun c73373 => ?_) (fun c73373 => absurd c73373 (by omega))
                            refine ev_iload rfl ?_
                            refine ev_ret rfl (by decide) (by decide) ?_
                            show jEv _ _ _ _ _ _ _ (_, [(2, 42), (0, a1), (0, 1), (0, (a1 + 4)), (0, 1), (0, (100 * v73151 + 10 * v73192 + v73273 - 5328)), (0, 3)], [(0, (100 * w0 + w1))], _, _, _)
                            refine ev_pop (by decide) ?_
                            refine ev_iload_n rfl ?_
                            exact ev_ret rfl (by decide) (by decide) ⟨⟨_, rfl, by omega, by omega, g73372, k73372⟩, fun r hr h0 => by cases hr; exact (Ad.step (r' := (a1 + 4)) (Ad.step (r' := (a1 + 3)) (Ad.step (r' := (a1 + 2)) (Ad.step (r' := (a1 + 1)) (Ad.rf _ _ _) (by omega) k73372 (fun _ => rfl) (((jw_ne e73372 (Or.inl (by decide))).trans ((jw_ne e73371 (Or.inl (by decide))).trans ((jw_ne e73369 (Or.inl (by decide))).trans ((jw_ne e73368 (Or.inl (by decide))).trans ((jw_ne e73366 (Or.inl (by decide))).trans ((jw_ne e73365 (Or.inl (by decide))).trans ((jw_ne e73363 (Or.inl (by decide))).trans ((jw_ne e73362 (Or.inl (by decide))).trans ((jw_ne e73360 (Or.inl (by decide))).trans ((jw_ne e73359 (Or.inl (by decide))).trans ((jw_ne e73358 (Or.inl (by decide))).trans ((jw_ne e73356 (Or.inl (by decide))).trans ev72896))))))))))))) (by omega) (by omega) (by omega)) (by omega) k73372 (fun _ => rfl) (((jw_ne e73372 (Or.inl (by decide))).trans ((jw_ne e73371 (Or.inl (by decide))).trans ((jw_ne e73369 (Or.inl (by decide))).trans ((jw_ne e73368 (Or.inl (by decide))).trans ((jw_ne e73366 (Or.inl (by decide))).trans ((jw_ne e73365 (Or.inl (by decide))).trans ((jw_ne e73363 (Or.inl (by decide))).trans ((jw_ne e73362 (Or.inl (by decide))).trans ((jw_ne e73360 (Or.inl (by decide))).trans ((jw_ne e73359 (Or.inl (by decide))).trans ((jw_ne e73358 (Or.inl (by decide))).trans ((jw_ne e73356 (Or.inl (by decide))).trans ev73151))))))))))))) (by omega) (by omega) (by omega)) (by omega) k73372 (fun _ => rfl) (((jw_ne e73372 (Or.inl (by decide))).trans ((jw_ne e73371 (Or.inl (by decide))).trans ((jw_ne e73369 (Or.inl (by decide))).trans ((jw_ne e73368 (Or.inl (by decide))).trans ((jw_ne e73366 (Or.inl (by decide))).trans ((jw_ne e73365 (Or.inl (by decide))).trans ((jw_ne e73363 (Or.inl (by decide))).trans ((jw_ne e73362 (Or.inl (by decide))).trans ((jw_ne e73360 (Or.inl (by decide))).trans ((jw_ne e73359 (Or.inl (by decide))).trans ((jw_ne e73358 (Or.inl (by decide))).trans ((jw_ne e73356 (Or.inl (by decide))).trans ev73192))))))))))))) (by omega) (by omega) (by omega)) (by omega) k73372 (fun _ => rfl) (((jw_ne e73372 (Or.inl (by decide))).trans ((jw_ne e73371 (Or.inl (by decide))).trans ((jw_ne e73369 (Or.inl (by decide))).trans ((jw_ne e73368 (Or.inl (by decide))).trans ((jw_ne e73366 (Or.inl (by decide))).trans ((jw_ne e73365 (Or.inl (by decide))).trans ((jw_ne e73363 (Or.inl (by decide))).trans ((jw_ne e73362 (Or.inl (by decide))).trans ((jw_ne e73360 (Or.inl (by decide))).trans ((jw_ne e73359 (Or.inl (by decide))).trans ((jw_ne e73358 (Or.inl (by decide))).trans ((jw_ne e73356 (Or.inl (by decide))).trans ev73273))))))))))))) (by omega) (by omega) (by omega)), fun r hr => by cases hr; exact ⟨_, (((jw_ne e73372 (Or.inl (by decide))).trans ((jw_ne e73371 (Or.inl (by decide))).trans ((jw_ne e73369 (Or.inl (by decide))).trans ((jw_ne e73368 (Or.inl (by decide))).trans ((jw_ne e73366 (Or.inl (by decide))).trans ((jw_ne e73365 (Or.inl (by decide))).trans ((jw_ne e73363 (Or.inl (by decide))).trans ((jw_ne e73362 (Or.inl (by decide))).trans ((jw_ne e73360 (Or.inl (by decide))).trans ((jw_ne e73359 (Or.inl (by decide))).trans ((jw_ne e73358 (Or.inl (by decide))).trans (jw_eq e73356))))))))))))), by omega, by omega, (Fr.kp (Fr.w (i := (400 * w0 + 4 * w1 + 3)) (Fr.kp (Fr.w (i := (400 * w0 + 4 * w1 + 2)) (Fr.kp (Fr.w (i := (400 * w0 + 4 * w1 + 1)) (Fr.kp (Fr.w (i := (400 * w0 + 4 * w1)) (Fr.w (i := (100 * w0 + w1)) (Fr.w (i := (100 * w0 + w1)) (Fr.w (i := (100 * w0 + w1)) (Fr.kp (Fr.rf _ _) ((Kp.rf [(42, 0)] _).wr e73356 rfl) (fun _ => rfl) (fun _ => rfl) (fun _ => rfl) (fun _ => rfl)) e73358 (by omega) (by omega)) e73359 (by omega) (by omega)) e73360 (by omega) (by omega)) e73362 (by omega) (by omega)) ((Kp.rf [(52, 0)] _).wr e73363 rfl) (fun _ => rfl) (fun _ => rfl) (fun _ => rfl) (fun _ => rfl)) e73365 (by omega) (by omega)) ((Kp.rf [(52, 0)] _).wr e73366 rfl) (fun _ => rfl) (fun _ => rfl) (fun _ => rfl) (fun _ => rfl)) e73368 (by omega) (by omega)) ((Kp.rf [(52, 0)] _).wr e73369 rfl) (fun _ => rfl) (fun _ => rfl) (fun _ => rfl) (fun _ => rfl)) e73371 (by omega) (by omega)) ((Kp.rf [(52, 0)] _).wr e73372 rfl) (fun _ => rfl) (fun _ => rfl) (fun _ => rfl) (fun _ => rfl)), fun h0 => by omega, fun h0 hm => Tr.end (i := (100 * w0 + w1)) (by omega) (by omega) (by omega) (((jw_ne e73372 (Or.inl (by decide))).trans ((jw_ne e73371 (Or.inl (by decide))).trans ((jw_ne e73369 (Or.inl (by decide))).trans ((jw_ne e73368 (Or.inl (by decide))).trans ((jw_ne e73366 (Or.inl (by decide))).trans ((jw_ne e73365 (Or.inl (by decide))).trans ((jw_ne e73363 (Or.inl (by decide))).trans ((jw_ne e73362 (Or.inl (by decide))).trans ((jw_ne e73360 (Or.inl (by decide))).trans ((jw_ne e73359 (Or.inl (by decide))).trans (jw_eq e73358)))))))))))) (by omega) (by omega)⟩⟩
                          · refine ev_iload_n rfl ?_
                            refine ev_iload_n rfl ?_
                            refine ev_icmpgt f242_14 (fun c73374 => ?_) (fun c73374 => ?_)
                            · refine ev_iconst ?_
                              refine ev_ret rfl (by decide) (by decide) ?_
                              show jEv _ _ _ _ _ _ _ (_, [(2, 42), (0, (a1 + 4))], [(0, 0)], _, _, _)
                              refine ev_ret rfl (by decide) (by decide) ?_
                              show jEv _ _ _ _ _ _ _ (_, [(2, 42), (0, a1), (0, 1), (0, (a1 + 4)), (0, 1), (0, (100 * v73151 + 10 * v73192 + v73273 - 5328)), (0, 3)], [(0, 0)], _, _, _)
                              refine ev_ifeq f269_100 (fun c73375 => ?_) (fun c73375 => absurd c73375 (by omega))
                              refine ev_aload_n rfl ?_
                              refine ev_iload_n rfl ?_
                              refine ev_iconst ?_
                              refine ev_iload rfl ?_
                              refine ev_ifeq f269_114 (fun c73376 => absurd c73376 (by omega)) (fun c73376 => ?_)
                              refine ev_iload rfl ?_
                              refine ev_ineg (r := ((-100) * v73151 + (-10) * v73192 + (-v73273) + 5328)) (by unfold w32; omega) ?_
                              refine ev_goto f269_116 ?_
                              refine ev_in (d := 1) (a := 0) (b := 0) (cd' := c267_0) (m := 6) (L0 := [(2, 42), (0, 1), (0, 0), (0, ((-100) * v73151 + (-10) * v73192 + (-v73273) + 5328)), (9, 0), (9, 0)]) (jcall_v (A := [(0, ((-100) * v73151 + (-10) * v73192 + (-v73273) + 5328)), (0, 0), (0, 1)]) (S' := []) (r := 42) rfl (g.lt ad42) (g.tg ad42) (Nat.le_of_ble_eq_true rfl)) (by decide) ml267 pp267 (Nat.le_of_ble_eq_true rfl) rfl (by decide) (by decide) ?_
                              refine ev_iload_n rfl ?_
                              refine ev_ifne f267_6 (fun c73377 => ?_) (fun c73377 => absurd c73377 (by omega))
                              refine ev_aload_n rfl ?_
                              refine ev_dup (by decide) ?_
                              refine g_getv (r := 42) (v := w1) g ad42 (by decide) ft12_21 (ew1) ?_
                              refine ev_iconst ?_
                              refine ev_iadd (r := (w1 + 1)) (by unfold w32; omega) ?_
                              refine g_putf (r := 42) g ad42 (by decide) ft12_21 (by decide) (fun e => absurd e nz12_21) rf42_21 (by decide) (by omega) (by omega) (fun h73378 e73378 g73378 => ?_)
                              have k73378 := k0.wr e73378 rfl
                              refine ev_aload_n rfl ?_
                              refine g_getv (r := 42) (v := (w1 + 1)) g73378 ad42 (by decide) ft12_21 ((jw_eq e73378)) ?_
                              refine ev_bipush ?_
                              refine ev_icmple f267_27 (fun c73379 => ?_) (fun c73379 => absurd c73379 (by omega))
                              refine ev_bipush ?_
                              refine ev_aload_n rfl ?_
                              refine g_getv (r := 42) (v := w0) g73378 ad42 (by decide) ft12_9 (((jw_ne e73378 (Or.inr (by decide))).trans ew0)) ?_
                              refine ev_imul (r := (100 * w0)) (by unfold w32; omega) ?_
                              refine ev_aload_n rfl ?_
                              refine g_getv (r := 42) (v := (w1 + 1)) g73378 ad42 (by decide) ft12_21 ((jw_eq e73378)) ?_
                              refine ev_iadd (r := (100 * w0 + w1 + 1)) (by unfold w32; omega) ?_
                              refine ev_iconst ?_
                              refine ev_isub (r := (100 * w0 + w1)) (by unfold w32; omega) ?_
                              refine ev_istore (L' := [(2, 42), (0, 1), (0, 0), (0, ((-100) * v73151 + (-10) * v73192 + (-v73273) + 5328)), (0, (100 * w0 + w1)), (9, 0)]) (Nat.le_of_ble_eq_true rfl) rfl ?_
                              refine ev_aload_n rfl ?_
                              refine g_getp (r := 42) (c := 49) g73378 ad42 (by decide) (by decide) rf42_11 ft12_11 ?_
                              refine ev_iload rfl ?_
                              refine ev_iload_n rfl ?_
                              refine ev_i2b (r := 0) (by unfold w8; omega) ?_
                              refine ev_bastG (r := 49) (j := ((100 * w0 + w1)).toNat) (w := 0) (g73378.lt ad49) (g73378.tg ad49) (by omega) (by rw [g73378.ln ad49]; omega) (by unfold w8; omega) (fun h73380 e73380 => ?_)
                              have g73380 := g73378.s49 e73380 (by rw [(((jw_ne e73378 (Or.inr (by decide))).trans ew0))]; omega) (by omega) (by omega)
                              have k73380 := k73378.wr e73380 rfl
                              refine ev_aload_n rfl ?_
                              refine g_getp (r := 42) (c := 50) g73380 ad42 (by decide) (by decide) rf42_12 ft12_12 ?_
                              refine ev_iload rfl ?_
                              refine ev_iload_n rfl ?_
                              refine ev_iastG (r := 50) (j := ((100 * w0 + w1)).toNat) (g73380.lt ad50) (g73380.tg ad50) (by omega) (by rw [g73380.ln ad50]; omega) (fun h73381 e73381 => ?_)
                              have g73381 := g73380.s50 e73381 (Or.inl (by rw [(((jw_ne e73380 (Or.inl (by decide))).trans ((jw_ne e73378 (Or.inr (by decide))).trans ew0)))]; omega)) (by omega) (by omega)
                              have k73381 := k73380.wr e73381 rfl
                              refine ev_aload_n rfl ?_
                              refine g_getp (r := 42) (c := 53) g73381 ad42 (by decide) (by decide) rf42_15 ft12_15 ?_
                              refine ev_iload rfl ?_
                              refine ev_iconst ?_
                              refine ev_bastG (r := 53) (j := ((100 * w0 + w1)).toNat) (w := 0) (g73381.lt ad53) (g73381.tg ad53) (by omega) (by rw [g73381.ln ad53]; omega) (by unfold w8; omega) (fun h73382 e73382 => ?_)
                              have g73382 := g73381.s53 e73382 (Or.inl (by rw [(((jw_ne e73381 (Or.inl (by decide))).trans ((jw_ne e73380 (Or.inl (by decide))).trans ((jw_ne e73378 (Or.inr (by decide))).trans ew0))))]; omega)) (by omega) (by omega)
                              have k73382 := k73381.wr e73382 rfl
                              refine ev_iconst ?_
                              refine ev_istore (L' := [(2, 42), (0, 1), (0, 0), (0, ((-100) * v73151 + (-10) * v73192 + (-v73273) + 5328)), (0, (100 * w0 + w1)), (0, 0)]) (Nat.le_of_ble_eq_true rfl) rfl ?_
                              refine ev_iload rfl ?_
                              refine ev_iconst ?_
                              refine ev_icmpge f267_109 (fun c73383 => absurd c73383 (by omega)) (fun c73383 => ?_)
                              refine ev_aload_n rfl ?_
                              refine g_getp (r := 42) (c := 51) g73382 ad42 (by decide) (by decide) rf42_13 ft12_13 ?_
                              refine ev_iconst ?_
                              refine ev_iload rfl ?_
                              refine ev_imul (r := (400 * w0 + 4 * w1)) (by unfold w32; omega) ?_
                              refine ev_iload rfl ?_
                              refine ev_iadd (r := (400 * w0 + 4 * w1)) (by unfold w32; omega) ?_
                              refine ev_iconst ?_
                              refine ev_bastG (r := 51) (j := ((400 * w0 + 4 * w1)).toNat) (w := (-1)) (g73382.lt ad51) (g73382.tg ad51) (by omega) (by rw [g73382.ln ad51]; omega) (by unfold w8; omega) (fun h73384 e73384 => ?_)
                              have g73384 := g73382.s51 e73384 (by rw [(((jw_ne e73382 (Or.inl (by decide))).trans ((jw_ne e73381 (Or.inl (by decide))).trans ((jw_ne e73380 (Or.inl (by decide))).trans ((jw_ne e73378 (Or.inr (by decide))).trans ew0)))))]; omega) (by omega) (by omega)
                              have k73384 := k73382.wr e73384 rfl
                              refine ev_aload_n rfl ?_
                              refine g_getp (r := 42) (c := 52) g73384 ad42 (by decide) (by decide) rf42_14 ft12_14 ?_
                              refine ev_iconst ?_
                              refine ev_iload rfl ?_
                              refine ev_imul (r := (400 * w0 + 4 * w1)) (by unfold w32; omega) ?_
                              refine ev_iload rfl ?_
                              refine ev_iadd (r := (400 * w0 + 4 * w1)) (by unfold w32; omega) ?_
                              refine ev_iconst ?_
                              refine g_iast g73384 ad52 rt52 (fun _ => rfl) (by omega) (by omega) (by omega) (by omega) (fun h73385 e73385 g73385 => ?_)
                              have k73385 := k73384.wr e73385 rfl
                              refine ev_iinc (w := 1) (L' := [(2, 42), (0, 1), (0, 0), (0, ((-100) * v73151 + (-10) * v73192 + (-v73273) + 5328)), (0, (100 * w0 + w1)), (0, 1)]) rfl (by decide) rfl ?_
                              refine ev_goto f267_71 ?_
                              refine ev_iload rfl ?_
                              refine ev_iconst ?_
                              refine ev_icmpge f267_109 (fun c73386 => absurd c73386 (by omega)) (fun c73386 => ?_)
                              refine ev_aload_n rfl ?_
                              refine g_getp (r := 42) (c := 51) g73385 ad42 (by decide) (by decide) rf42_13 ft12_13 ?_
                              refine ev_iconst ?_
                              refine ev_iload rfl ?_
                              refine ev_imul (r := (400 * w0 + 4 * w1)) (by unfold w32; omega) ?_
                              refine ev_iload rfl ?_
                              refine ev_iadd (r := (400 * w0 + 4 * w1 + 1)) (by unfold w32; omega) ?_
                              refine ev_iconst ?_
                              refine ev_bastG (r := 51) (j := ((400 * w0 + 4 * w1 + 1)).toNat) (w := (-1)) (g73385.lt ad51) (g73385.tg ad51) (by omega) (by rw [g73385.ln ad51]; omega) (by unfold w8; omega) (fun h73387 e73387 => ?_)
                              have g73387 := g73385.s51 e73387 (by rw [(((jw_ne e73385 (Or.inl (by decide))).trans ((jw_ne e73384 (Or.inl (by decide))).trans ((jw_ne e73382 (Or.inl (by decide))).trans ((jw_ne e73381 (Or.inl (by decide))).trans ((jw_ne e73380 (Or.inl (by decide))).trans ((jw_ne e73378 (Or.inr (by decide))).trans ew0)))))))]; omega) (by omega) (by omega)
                              have k73387 := k73385.wr e73387 rfl
                              refine ev_aload_n rfl ?_
                              refine g_getp (r := 42) (c := 52) g73387 ad42 (by decide) (by decide) rf42_14 ft12_14 ?_
                              refine ev_iconst ?_
                              refine ev_iload rfl ?_
                              refine ev_imul (r := (400 * w0 + 4 * w1)) (by unfold w32; omega) ?_
                              refine ev_iload rfl ?_
                              refine ev_iadd (r := (400 * w0 + 4 * w1 + 1)) (by unfold w32; omega) ?_
                              refine ev_iconst ?_
                              refine g_iast g73387 ad52 rt52 (fun _ => rfl) (by omega) (by omega) (by omega) (by omega) (fun h73388 e73388 g73388 => ?_)
                              have k73388 := k73387.wr e73388 rfl
                              refine ev_iinc (w := 2) (L' := [(2, 42), (0, 1), (0, 0), (0, ((-100) * v73151 + (-10) * v73192 + (-v73273) + 5328)), (0, (100 * w0 + w1)), (0, 2)]) rfl (by decide) rfl ?_
                              refine ev_goto f267_71 ?_
                              refine ev_iload rfl ?_
                              refine ev_iconst ?_
                              refine ev_icmpge f267_109 (fun c73389 => absurd c73389 (by omega)) (fun c73389 => ?_)
                              refine ev_aload_n rfl ?_
                              refine g_getp (r := 42) (c := 51) g73388 ad42 (by decide) (by decide) rf42_13 ft12_13 ?_
                              refine ev_iconst ?_
                              refine ev_iload rfl ?_
                              refine ev_imul (r := (400 * w0 + 4 * w1)) (by unfold w32; omega) ?_
                              refine ev_iload rfl ?_
                              refine ev_iadd (r := (400 * w0 + 4 * w1 + 2)) (by unfold w32; omega) ?_
                              refine ev_iconst ?_
                              refine ev_bastG (r := 51) (j := ((400 * w0 + 4 * w1 + 2)).toNat) (w := (-1)) (g73388.lt ad51) (g73388.tg ad51) (by omega) (by rw [g73388.ln ad51]; omega) (by unfold w8; omega) (fun h73390 e73390 => ?_)
                              have g73390 := g73388.s51 e73390 (by rw [(((jw_ne e73388 (Or.inl (by decide))).trans ((jw_ne e73387 (Or.inl (by decide))).trans ((jw_ne e73385 (Or.inl (by decide))).trans ((jw_ne e73384 (Or.inl (by decide))).trans ((jw_ne e73382 (Or.inl (by decide))).trans ((jw_ne e73381 (Or.inl (by decide))).trans ((jw_ne e73380 (Or.inl (by decide))).trans ((jw_ne e73378 (Or.inr (by decide))).trans ew0)))))))))]; omega) (by omega) (by omega)
                              have k73390 := k73388.wr e73390 rfl
                              refine ev_aload_n rfl ?_
                              refine g_getp (r := 42) (c := 52) g73390 ad42 (by decide) (by decide) rf42_14 ft12_14 ?_
                              refine ev_iconst ?_
                              refine ev_iload rfl ?_
                              refine ev_imul (r := (400 * w0 + 4 * w1)) (by unfold w32; omega) ?_
                              refine ev_iload rfl ?_
                              refine ev_iadd (r := (400 * w0 + 4 * w1 + 2)) (by unfold w32; omega) ?_
                              refine ev_iconst ?_
                              refine g_iast g73390 ad52 rt52 (fun _ => rfl) (by omega) (by omega) (by omega) (by omega) (fun h73391 e73391 g73391 => ?_)
                              have k73391 := k73390.wr e73391 rfl
                              refine ev_iinc (w := 3) (L' := [(2, 42), (0, 1), (0, 0), (0, ((-100) * v73151 + (-10) * v73192 + (-v73273) + 5328)), (0, (100 * w0 + w1)), (0, 3)]) rfl (by decide) rfl ?_
                              refine ev_goto f267_71 ?_
                              refine ev_iload rfl ?_
                              refine ev_iconst ?_
                              refine ev_icmpge f267_109 (fun c73392 => absurd c73392 (by omega)) (fun c73392 => ?_)
                              refine ev_aload_n rfl ?_
                              refine g_getp (r := 42) (c := 51) g73391 ad42 (by decide) (by decide) rf42_13 ft12_13 ?_
                              refine ev_iconst ?_
                              refine ev_iload rfl ?_
                              refine ev_imul (r := (400 * w0 + 4 * w1)) (by unfold w32; omega) ?_
                              refine ev_iload rfl ?_
                              refine ev_iadd (r := (400 * w0 + 4 * w1 + 3)) (by unfold w32; omega) ?_
                              refine ev_iconst ?_
                              refine ev_bastG (r := 51) (j := ((400 * w0 + 4 * w1 + 3)).toNat) (w := (-1)) (g73391.lt ad51) (g73391.tg ad51) (by omega) (by rw [g73391.ln ad51]; omega) (by unfold w8; omega) (fun h73393 e73393 => ?_)
                              have g73393 := g73391.s51 e73393 (by rw [(((jw_ne e73391 (Or.inl (by decide))).trans ((jw_ne e73390 (Or.inl (by decide))).trans ((jw_ne e73388 (Or.inl (by decide))).trans ((jw_ne e73387 (Or.inl (by decide))).trans ((jw_ne e73385 (Or.inl (by decide))).trans ((jw_ne e73384 (Or.inl (by decide))).trans ((jw_ne e73382 (Or.inl (by decide))).trans ((jw_ne e73381 (Or.inl (by decide))).trans ((jw_ne e73380 (Or.inl (by decide))).trans ((jw_ne e73378 (Or.inr (by decide))).trans ew0)))))))))))]; omega) (by omega) (by omega)
                              have k73393 := k73391.wr e73393 rfl
                              refine ev_aload_n rfl ?_
                              refine g_getp (r := 42) (c := 52) g73393 ad42 (by decide) (by decide) rf42_14 ft12_14 ?_
                              refine ev_iconst ?_
                              refine ev_iload rfl ?_
                              refine ev_imul (r := (400 * w0 + 4 * w1)) (by unfold w32; omega) ?_
                              refine ev_iload rfl ?_
                              refine ev_iadd (r := (400 * w0 + 4 * w1 + 3)) (by unfold w32; omega) ?_
                              refine ev_iconst ?_
                              refine g_iast g73393 ad52 rt52 (fun _ => rfl) (by omega) (by omega) (by omega) (by omega) (fun h73394 e73394 g73394 => ?_)
                              have k73394 := k73393.wr e73394 rfl
                              refine ev_iinc (w := 4) (L' := [(2, 42), (0, 1), (0, 0), (0, ((-100) * v73151 + (-10) * v73192 + (-v73273) + 5328)), (0, (100 * w0 + w1)), (0, 4)]) rfl (by decide) rfl ?_
                              refine ev_goto f267_71 ?_
                              refine ev_iload rfl ?_
                              refine ev_iconst ?_
                              refine ev_icmpge f267_109 (fun c73395 => ?_) (fun c73395 => absurd c73395 (by omega))
                              refine ev_iload rfl ?_
                              refine ev_ret rfl (by decide) (by decide) ?_
                              show jEv _ _ _ _ _ _ _ (_, [(2, 42), (0, a1), (0, 1), (0, (a1 + 4)), (0, 1), (0, (100 * v73151 + 10 * v73192 + v73273 - 5328)), (0, 3)], [(0, (100 * w0 + w1))], _, _, _)
                              refine ev_pop (by decide) ?_
                              refine ev_iload_n rfl ?_
                              exact ev_ret rfl (by decide) (by decide) ⟨⟨_, rfl, by omega, by omega, g73394, k73394⟩, fun r hr h0 => by cases hr; exact (Ad.step (r' := (a1 + 4)) (Ad.step (r' := (a1 + 3)) (Ad.step (r' := (a1 + 2)) (Ad.step (r' := (a1 + 1)) (Ad.rf _ _ _) (by omega) k73394 (fun _ => rfl) (((jw_ne e73394 (Or.inl (by decide))).trans ((jw_ne e73393 (Or.inl (by decide))).trans ((jw_ne e73391 (Or.inl (by decide))).trans ((jw_ne e73390 (Or.inl (by decide))).trans ((jw_ne e73388 (Or.inl (by decide))).trans ((jw_ne e73387 (Or.inl (by decide))).trans ((jw_ne e73385 (Or.inl (by decide))).trans ((jw_ne e73384 (Or.inl (by decide))).trans ((jw_ne e73382 (Or.inl (by decide))).trans ((jw_ne e73381 (Or.inl (by decide))).trans ((jw_ne e73380 (Or.inl (by decide))).trans ((jw_ne e73378 (Or.inl (by decide))).trans ev72896))))))))))))) (by omega) (by omega) (by omega)) (by omega) k73394 (fun _ => rfl) (((jw_ne e73394 (Or.inl (by decide))).trans ((jw_ne e73393 (Or.inl (by decide))).trans ((jw_ne e73391 (Or.inl (by decide))).trans ((jw_ne e73390 (Or.inl (by decide))).trans ((jw_ne e73388 (Or.inl (by decide))).trans ((jw_ne e73387 (Or.inl (by decide))).trans ((jw_ne e73385 (Or.inl (by decide))).trans ((jw_ne e73384 (Or.inl (by decide))).trans ((jw_ne e73382 (Or.inl (by decide))).trans ((jw_ne e73381 (Or.inl (by decide))).trans ((jw_ne e73380 (Or.inl (by decide))).trans ((jw_ne e73378 (Or.inl (by decide))).trans ev73151))))))))))))) (by omega) (by omega) (by omega)) (by omega) k73394 (fun _ => rfl) (((jw_ne e73394 (Or.inl (by decide))).trans ((jw_ne e73393 (Or.inl (by decide))).trans ((jw_ne e73391 (Or.inl (by decide))).trans ((jw_ne e73390 (Or.inl (by decide))).trans ((jw_ne e73388 (Or.inl (by decide))).trans ((jw_ne e73387 (Or.inl (by decide))).trans ((jw_ne e73385 (Or.inl (by decide))).trans ((jw_ne e73384 (Or.inl (by decide))).trans ((jw_ne e73382 (Or.inl (by decide))).trans ((jw_ne e73381 (Or.inl (by decide))).trans ((jw_ne e73380 (Or.inl (by decide))).trans ((jw_ne e73378 (Or.inl (by decide))).trans ev73192))))))))))))) (by omega) (by omega) (by omega)) (by omega) k73394 (fun _ => rfl) (((jw_ne e73394 (Or.inl (by decide))).trans ((jw_ne e73393 (Or.inl (by decide))).trans ((jw_ne e73391 (Or.inl (by decide))).trans ((jw_ne e73390 (Or.inl (by decide))).trans ((jw_ne e73388 (Or.inl (by decide))).trans ((jw_ne e73387 (Or.inl (by decide))).trans ((jw_ne e73385 (Or.inl (by decide))).trans ((jw_ne e73384 (Or.inl (by decide))).trans ((jw_ne e73382 (Or.inl (by decide))).trans ((jw_ne e73381 (Or.inl (by decide))).trans ((jw_ne e73380 (Or.inl (by decide))).trans ((jw_ne e73378 (Or.inl (by decide))).trans ev73273))))))))))))) (by omega) (by omega) (by omega)), fun r hr => by cases hr; exact ⟨_, (((jw_ne e73394 (Or.inl (by decide))).trans ((jw_ne e73393 (Or.inl (by decide))).trans ((jw_ne e73391 (Or.inl (by decide))).trans ((jw_ne e73390 (Or.inl (by decide))).trans ((jw_ne e73388 (Or.inl (by decide))).trans ((jw_ne e73387 (Or.inl (by decide))).trans ((jw_ne e73385 (Or.inl (by decide))).trans ((jw_ne e73384 (Or.inl (by decide))).trans ((jw_ne e73382 (Or.inl (by decide))).trans ((jw_ne e73381 (Or.inl (by decide))).trans ((jw_ne e73380 (Or.inl (by decide))).trans (jw_eq e73378))))))))))))), by omega, by omega, (Fr.kp (Fr.w (i := (400 * w0 + 4 * w1 + 3)) (Fr.kp (Fr.w (i := (400 * w0 + 4 * w1 + 2)) (Fr.kp (Fr.w (i := (400 * w0 + 4 * w1 + 1)) (Fr.kp (Fr.w (i := (400 * w0 + 4 * w1)) (Fr.w (i := (100 * w0 + w1)) (Fr.w (i := (100 * w0 + w1)) (Fr.w (i := (100 * w0 + w1)) (Fr.kp (Fr.rf _ _) ((Kp.rf [(42, 0)] _).wr e73378 rfl) (fun _ => rfl) (fun _ => rfl) (fun _ => rfl) (fun _ => rfl)) e73380 (by omega) (by omega)) e73381 (by omega) (by omega)) e73382 (by omega) (by omega)) e73384 (by omega) (by omega)) ((Kp.rf [(52, 0)] _).wr e73385 rfl) (fun _ => rfl) (fun _ => rfl) (fun _ => rfl) (fun _ => rfl)) e73387 (by omega) (by omega)) ((Kp.rf [(52, 0)] _).wr e73388 rfl) (fun _ => rfl) (fun _ => rfl) (fun _ => rfl) (fun _ => rfl)) e73390 (by omega) (by omega)) ((Kp.rf [(52, 0)] _).wr e73391 rfl) (fun _ => rfl) (fun _ => rfl) (fun _ => rfl) (fun _ => rfl)) e73393 (by omega) (by omega)) ((Kp.rf [(52, 0)] _).wr e73394 rfl) (fun _ => rfl) (fun _ => rfl) (fun _ => rfl) (fun _ => rfl)), fun h0 => by omega, fun h0 hm => Tr.end (i := (100 * w0 + w1)) (by omega) (by omega) (by omega) (((jw_ne e73394 (Or.inl (by decide))).trans ((jw_ne e73393 (Or.inl (by decide))).trans ((jw_ne e73391 (Or.inl (by decide))).trans ((jw_ne e73390 (Or.inl (by decide))).trans ((jw_ne e73388 (Or.inl (by decide))).trans ((jw_ne e73387 (Or.inl (by decide))).trans ((jw_ne e73385 (Or.inl (by decide))).trans ((jw_ne e73384 (Or.inl (by decide))).trans ((jw_ne e73382 (Or.inl (by decide))).trans ((jw_ne e73381 (Or.inl (by decide))).trans (jw_eq e73380)))))))))))) (by omega) (by omega)⟩⟩
                            · refine ev_iconst ?_
                              refine ev_goto f242_15 ?_
                              refine ev_ret rfl (by decide) (by decide) ?_
                              show jEv _ _ _ _ _ _ _ (_, [(2, 42), (0, (a1 + 4))], [(0, 1)], _, _, _)
                              refine ev_ret rfl (by decide) (by decide) ?_
                              show jEv _ _ _ _ _ _ _ (_, [(2, 42), (0, a1), (0, 1), (0, (a1 + 4)), (0, 1), (0, (100 * v73151 + 10 * v73192 + v73273 - 5328)), (0, 3)], [(0, 1)], _, _, _)
                              refine ev_ifeq f269_100 (fun c73396 => absurd c73396 (by omega)) (fun c73396 => ?_)
                              refine ev_aload_n rfl ?_
                              refine ev_iload_n rfl ?_
                              refine ev_in (d := 1) (a := 0) (b := 0) (cd' := c266_0) (m := 2) (L0 := [(2, 42), (0, (a1 + 4))]) (jcall_v (A := [(0, (a1 + 4))]) (S' := []) (r := 42) rfl (g.lt ad42) (g.tg ad42) (Nat.le_of_ble_eq_true rfl)) (by decide) ml266 pp266 (Nat.le_of_ble_eq_true rfl) rfl (by decide) (by decide) ?_
                              refine ev_aload_n rfl ?_
                              refine ev_iload_n rfl ?_
                              refine g_putf (r := 42) g ad42 (by decide) ft12_20 (by decide) (fun e => absurd e nz12_20) rf42_20 (by decide) (by omega) (by omega) (fun h73397 e73397 g73397 => ?_)
                              have k73397 := k0.wr e73397 rfl
                              refine ev_iconst ?_
                              refine ev_ret rfl (by decide) (by decide) ?_
                              show jEv _ _ _ _ _ _ _ (_, [(2, 42), (0, a1), (0, 1), (0, (a1 + 4)), (0, 1), (0, (100 * v73151 + 10 * v73192 + v73273 - 5328)), (0, 3)], [(0, (-1))], _, _, _)
                              exact ev_ret rfl (by decide) (by decide) ⟨⟨_, rfl, by omega, by omega, g73397, k73397⟩, fun r hr h0 => by cases hr; exfalso; omega, fun r hr => by cases hr; exact ⟨_, (((jw_ne e73397 (Or.inr (by decide))).trans ew1)), by omega, by omega, (Fr.kp (Fr.rf _ _) ((Kp.rf [(42, 0)] _).wr e73397 rfl) (fun _ => rfl) (fun _ => rfl) (fun _ => rfl) (fun _ => rfl)), fun h0 => by exfalso; omega, fun h0 => by exfalso; omega⟩⟩
set_option maxHeartbeats 4000000 in
theorem s270i_s_l {G : GH} {h : JH} {l0 : Int} (ll0 : 0 ≤ l0) (ul0 : l0 ≤ 6) {b0 : Int} (lb0 : 1 ≤ b0) (ub0 : b0 ≤ 30000000) {a1 : Int} (la1 : 0 ≤ a1) (ua1 : a1 ≤ 202) {a2 : Int} (la2 : 0 ≤ a2) (ua2 : a2 ≤ 15) {a3 : Int} (la3 : 0 ≤ a3) (ua3 : a3 ≤ 12) {w0 : Int} (ew0 : h.2.2 42 9 = w0) (lw0 : 0 ≤ w0) (uw0 : w0 ≤ 5) {w1 : Int} (ew1 : h.2.2 42 21 = w1) (lw1 : 0 ≤ w1) (uw1 : w1 ≤ 99) (F0 : (b0 + w1) ≤ 200000000) {S : List Nat} (hI : Iv h) (hL : Lv h l0 a1) (hb : NB a3 = b0) (hS : Sk a2 S) (hq : h.2.2 54 (a1).toNat = 63) {M : Int} (hM : M = (7 * a3 - l0)) {d : Nat} (hd : 371 ≤ d) (rih : ∀ {G : GH} {h : JH} (g : Gd G h) {l0 : Int} (ll0 : 0 ≤ l0) (ul0 : l0 ≤ 6) {b0 : Int} (lb0 : 1 ≤ b0) (ub0 : b0 ≤ 30000000) {a1 : Int} (la1 : 0 ≤ a1) (ua1 : a1 ≤ 202) {a2 : Int} (la2 : 0 ≤ a2) (ua2 : a2 ≤ 15) {a3 : Int} (la3 : 0 ≤ a3) (ua3 : a3 ≤ 12) {w0 : Int} (ew0 : h.2.2 42 9 = w0) (lw0 : 0 ≤ w0) (uw0 : w0 ≤ 5) {w1 : Int} (ew1 : h.2.2 42 21 = w1) (lw1 : 0 ≤ w1) (uw1 : w1 ≤ 99) (F0 : (b0 + w1) ≤ 200000000) {S : List Nat} (hI : Iv h) (hL : Lv h l0 a1) (hb : NB a3 = b0) (hS : Sk a2 S) (hm : M + 1 ≤ (7 * a3 - l0)), jOk d 0 0 272 [(2, 42), (0, a1), (0, a2), (0, a3), (0, 1)] h (fun v h' => PI G [(42, 21), (42, 22), (49, 0), (50, 0), (51, 0), (52, 0), (53, 0)] h 0 (-1) 200 v h' ∧ (∀ r, v = some (0, r) → 0 ≤ r → Ad h l0 a1 r) ∧ (∀ r, v = some (0, r) → RI h h' w0 w1 a3 b0 S r))) : ∀ N : Nat, (∀ (h1 : JH) (x5 x7 y0 : Int) (j8 j9 : AV), Gd G h1 → Kp [(42, 21), (42, 22), (49, 0), (50, 0), (51, 0), (52, 0), (53, 0)] h h1 → 0 ≤ a1 → a1 ≤ 198 → 0 ≤ a2 → a2 ≤ 15 → 0 ≤ a3 → a3 ≤ 11 → 1 ≤ x5 → x5 ≤ 200 → 0 ≤ x7 → x7 ≤ 3 → (w1 + (-y0)) ≤ (-1) → h1.2.2 42 21 = y0 → 1 ≤ y0 → y0 ≤ 200000000 → Ad h l0 a1 x5 → Mb w1 b0 x7 y0 → Fr h h1 (100 * w0 + w1) → PC h1 (w0).toNat (w1).toNat (13 - (a3 + 1)).toNat S 1 0 x7 y0 → ((-x7) + 3) < N → jEv (jOk (d + 2)) none (fun _ => 0) c270_0 0 0 (fun v h' => PI G [(42, 21), (42, 22), (49, 0), (50, 0), (51, 0), (52, 0), (53, 0)] h 0 (-1) 200 v h' ∧ (∀ r, v = some (0, r) → 0 ≤ r → Ad h l0 a1 r) ∧ (∀ r, v = some (0, r) → RI h h' w0 w1 a3 b0 S r)) (c270_45, [(2, 42), (0, a1), (0, a2), (0, a3), (0, 1), (0, x5), (0, (100 * w0 + w1)), (0, x7), j8, j9], [], h1, 0, 0)) := by
  intro N
  induction N with
  | zero => exact fun h1 x5 x7 y0 j8 j9 g1 k1 b0 b1 b2 b3 b4 b5 b6 b7 b8 b9 b10 b11 b12 b13 b14 b15 b16 b17 hm => absurd hm (by omega)
  | succ N ih =>
    show _
    intro h1 x5 x7 y0 j8 j9 g1 k1 b0 b1 b2 b3 b4 b5 b6 b7 b8 b9 b10 ey0 ly0 uy0 H0 H1 H2 H3 hm
    obtain ⟨b74138, hb74137, eb74137, lb74137⟩ := NB.split hb (by omega)
    have rm74137 := Mb.room H1 (by omega) eb74137 lb74137
    refine ev_iconst ?_
    refine ev_istore (L' := [(2, 42), (0, a1), (0, a2), (0, a3), (0, 1), (0, x5), (0, (100 * w0 + w1)), (0, x7), (0, 0), j9]) (Nat.le_of_ble_eq_true rfl) rfl ?_
    refine ev_iconst ?_
    refine ev_istore (L' := [(2, 42), (0, a1), (0, a2), (0, a3), (0, 1), (0, x5), (0, (100 * w0 + w1)), (0, x7), (0, 0), (0, 0)]) (Nat.le_of_ble_eq_true rfl) rfl ?_
    refine ev_iload rfl ?_
    refine ev_iconst ?_
    refine ev_icmpge f270_92 (fun c74139 => absurd c74139 (by omega)) (fun c74139 => ?_)
    refine ev_aload_n rfl ?_
    refine ev_iload rfl ?_
    refine ev_in (d := (d + 1)) (a := 0) (b := 0) (cd' := c265_0) (m := 2) (L0 := [(2, 42), (0, x5)]) (jcall_v (A := [(0, x5)]) (S' := []) (r := 42) rfl (g1.lt ad42) (g1.tg ad42) (Nat.le_of_ble_eq_true rfl)) (by decide) ml265 pp265 (Nat.le_of_ble_eq_true rfl) rfl (by decide) (by decide) ?_
    refine ev_aload_n rfl ?_
    refine ev_iload_n rfl ?_
    refine ev_in (d := (d + 0)) (a := 0) (b := 0) (cd' := c264_0) (m := 2) (L0 := [(2, 42), (0, x5)]) (jcall_v (A := [(0, x5)]) (S' := []) (r := 42) rfl (g1.lt ad42) (g1.tg ad42) (Nat.le_of_ble_eq_true rfl)) (by decide) ml264 pp264 (Nat.le_of_ble_eq_true rfl) rfl (by decide) (by decide) ?_
    refine ev_iload_n rfl ?_
    refine ev_aload_n rfl ?_
    obtain ⟨v74140, ev74140, lv74140, uv74140⟩ := g1.rd ad42 (show 17 < 66 by decide) rf42_17
    refine g_getv (r := 42) (v := v74140) g1 ad42 (by decide) ft12_17 ev74140 ?_
    refine ev_icmpge f264_17 (fun c74141 => ?_) (fun c74141 => ?_)
    · refine ev_iconst ?_
      refine ev_ret rfl (by decide) (by decide) ?_
      show jEv _ _ _ _ _ _ _ (_, [(2, 42), (0, x5)], [(0, (-1))], _, _, _)
      refine ev_bipush ?_
      refine ev_bipush ?_
      refine ev_in (d := (d + 0)) (a := 0) (b := 0) (cd' := c242_0) (m := 3) (L0 := [(0, (-1)), (0, 48), (0, 57)]) (jcall_s (A := [(0, 57), (0, 48), (0, (-1))]) (S' := []) (by decide) rfl (Nat.le_of_ble_eq_true rfl)) (by decide) ml242 pp242 (Nat.le_of_ble_eq_true rfl) rfl (by decide) (by decide) ?_
      refine ev_iload_n rfl ?_
      refine ev_iload_n rfl ?_
      refine ev_icmplt f242_14 (fun c74142 => ?_) (fun c74142 => absurd c74142 (by omega))
      refine ev_iconst ?_
      refine ev_ret rfl (by decide) (by decide) ?_
      show jEv _ _ _ _ _ _ _ (_, [(2, 42), (0, x5)], [(0, 0)], _, _, _)
      refine ev_ret rfl (by decide) (by decide) ?_
      show jEv _ _ _ _ _ _ _ (_, [(2, 42), (0, a1), (0, a2), (0, a3), (0, 1), (0, x5), (0, (100 * w0 + w1)), (0, x7), (0, 0), (0, 0)], [(0, 0)], _, _, _)
      refine ev_ifeq f270_92 (fun c74143 => ?_) (fun c74143 => absurd c74143 (by omega))
      refine ev_iload rfl ?_
      refine ev_ifeq f270_108 (fun c74144 => ?_) (fun c74144 => absurd c74144 (by omega))
      refine ev_aload_n rfl ?_
      refine ev_iload rfl ?_
      refine ev_in (d := (d + 1)) (a := 0) (b := 0) (cd' := c266_0) (m := 2) (L0 := [(2, 42), (0, x5)]) (jcall_v (A := [(0, x5)]) (S' := []) (r := 42) rfl (g1.lt ad42) (g1.tg ad42) (Nat.le_of_ble_eq_true rfl)) (by decide) ml266 pp266 (Nat.le_of_ble_eq_true rfl) rfl (by decide) (by decide) ?_
      refine ev_aload_n rfl ?_
      refine ev_iload_n rfl ?_
      refine g_putf (r := 42) g1 ad42 (by decide) ft12_20 (by decide) (fun e => absurd e nz12_20) rf42_20 (by decide) (by omega) (by omega) (fun h74145 e74145 g74145 => ?_)
      have k74145 := k1.wr e74145 rfl
      refine ev_iconst ?_
      refine ev_ret rfl (by decide) (by decide) ?_
      show jEv _ _ _ _ _ _ _ (_, [(2, 42), (0, a1), (0, a2), (0, a3), (0, 1), (0, x5), (0, (100 * w0 + w1)), (0, x7), (0, 0), (0, 0)], [(0, (-1))], _, _, _)
      exact ev_ret rfl (by decide) (by decide) ⟨⟨_, rfl, by omega, by omega, g74145, k74145⟩, fun r hr h0 => by cases hr; exfalso; omega, fun r hr => by cases hr; exact ⟨_, (((jw_ne e74145 (Or.inr (by decide))).trans ey0)), by omega, by omega, (Fr.kp H2 ((Kp.rf [(42, 0)] _).wr e74145 rfl) (fun _ => rfl) (fun _ => rfl) (fun _ => rfl) (fun _ => rfl)), fun h0 => by exfalso; omega, fun h0 => by exfalso; omega⟩⟩
    · refine ev_aload_n rfl ?_
      refine g_getp (r := 42) (c := 54) g1 ad42 (by decide) (by decide) rf42_16 ft12_16 ?_
      refine ev_iload_n rfl ?_
      refine g_bald g1 ad54 rt54 (by omega) (by omega) (fun v74146 ev74146 lv74146 uv74146 => ?_)
      refine ev_goto f264_18 ?_
      refine ev_ret rfl (by decide) (by decide) ?_
      show jEv _ _ _ _ _ _ _ (_, [(2, 42), (0, x5)], [(0, v74146)], _, _, _)
      refine ev_bipush ?_
      refine ev_bipush ?_
      refine ev_in (d := (d + 0)) (a := 0) (b := 0) (cd' := c242_0) (m := 3) (L0 := [(0, v74146), (0, 48), (0, 57)]) (jcall_s (A := [(0, 57), (0, 48), (0, v74146)]) (S' := []) (by decide) rfl (Nat.le_of_ble_eq_true rfl)) (by decide) ml242 pp242 (Nat.le_of_ble_eq_true rfl) rfl (by decide) (by decide) ?_
      refine ev_iload_n rfl ?_
      refine ev_iload_n rfl ?_
      refine ev_icmplt f242_14 (fun c74147 => ?_) (fun c74147 => ?_)
      · refine ev_iconst ?_
        refine ev_ret rfl (by decide) (by decide) ?_
        show jEv _ _ _ _ _ _ _ (_, [(2, 42), (0, x5)], [(0, 0)], _, _, _)
        refine ev_ret rfl (by decide) (by decide) ?_
        show jEv _ _ _ _ _ _ _ (_, [(2, 42), (0, a1), (0, a2), (0, a3), (0, 1), (0, x5), (0, (100 * w0 + w1)), (0, x7), (0, 0), (0, 0)], [(0, 0)], _, _, _)
        refine ev_ifeq f270_92 (fun c74148 => ?_) (fun c74148 => absurd c74148 (by omega))
        refine ev_iload rfl ?_
        refine ev_ifeq f270_108 (fun c74149 => ?_) (fun c74149 => absurd c74149 (by omega))
        refine ev_aload_n rfl ?_
        refine ev_iload rfl ?_
        refine ev_in (d := (d + 1)) (a := 0) (b := 0) (cd' := c266_0) (m := 2) (L0 := [(2, 42), (0, x5)]) (jcall_v (A := [(0, x5)]) (S' := []) (r := 42) rfl (g1.lt ad42) (g1.tg ad42) (Nat.le_of_ble_eq_true rfl)) (by decide) ml266 pp266 (Nat.le_of_ble_eq_true rfl) rfl (by decide) (by decide) ?_
        refine ev_aload_n rfl ?_
        refine ev_iload_n rfl ?_
        refine g_putf (r := 42) g1 ad42 (by decide) ft12_20 (by decide) (fun e => absurd e nz12_20) rf42_20 (by decide) (by omega) (by omega) (fun h74150 e74150 g74150 => ?_)
        have k74150 := k1.wr e74150 rfl
        refine ev_iconst ?_
        refine ev_ret rfl (by decide) (by decide) ?_
        show jEv _ _ _ _ _ _ _ (_, [(2, 42), (0, a1), (0, a2), (0, a3), (0, 1), (0, x5), (0, (100 * w0 + w1)), (0, x7), (0, 0), (0, 0)], [(0, (-1))], _, _, _)
        exact ev_ret rfl (by decide) (by decide) ⟨⟨_, rfl, by omega, by omega, g74150, k74150⟩, fun r hr h0 => by cases hr; exfalso; omega, fun r hr => by cases hr; exact ⟨_, (((jw_ne e74150 (Or.inr (by decide))).trans ey0)), by omega, by omega, (Fr.kp H2 ((Kp.rf [(42, 0)] _).wr e74150 rfl) (fun _ => rfl) (fun _ => rfl) (fun _ => rfl) (fun _ => rfl)), fun h0 => by exfalso; omega, fun h0 => by exfalso; omega⟩⟩
      · refine ev_iload_n rfl ?_
        refine ev_iload_n rfl ?_
        refine ev_icmpgt f242_14 (fun c74151 => ?_) (fun c74151 => ?_)
        · refine ev_iconst ?_
          refine ev_ret rfl (by decide) (by decide) ?_
          show jEv _ _ _ _ _ _ _ (_, [(2, 42), (0, x5)], [(0, 0)], _, _, _)
          refine ev_ret rfl (by decide) (by decide) ?_
          show jEv _ _ _ _ _ _ _ (_, [(2, 42), (0, a1), (0, a2), (0, a3), (0, 1), (0, x5), (0, (100 * w0 + w1)), (0, x7), (0, 0), (0, 0)], [(0, 0)], _, _, _)
          refine ev_ifeq f270_92 (fun c74152 => ?_) (fun c74152 => absurd c74152 (by omega))
          refine ev_iload rfl ?_
          refine ev_ifeq f270_108 (fun c74153 => ?_) (fun c74153 => absurd c74153 (by omega))
          refine ev_aload_n rfl ?_
          refine ev_iload rfl ?_
          refine ev_in (d := (d + 1)) (a := 0) (b := 0) (cd' := c266_0) (m := 2) (L0 := [(2, 42), (0, x5)]) (jcall_v (A := [(0, x5)]) (S' := []) (r := 42) rfl (g1.lt ad42) (g1.tg ad42) (Nat.le_of_ble_eq_true rfl)) (by decide) ml266 pp266 (Nat.le_of_ble_eq_true rfl) rfl (by decide) (by decide) ?_
          refine ev_aload_n rfl ?_
          refine ev_iload_n rfl ?_
          refine g_putf (r := 42) g1 ad42 (by decide) ft12_20 (by decide) (fun e => absurd e nz12_20) rf42_20 (by decide) (by omega) (by omega) (fun h74154 e74154 g74154 => ?_)
          have k74154 := k1.wr e74154 rfl
          refine ev_iconst ?_
          refine ev_ret rfl (by decide) (by decide) ?_
          show jEv _ _ _ _ _ _ _ (_, [(2, 42), (0, a1), (0, a2), (0, a3), (0, 1), (0, x5), (0, (100 * w0 + w1)), (0, x7), (0, 0), (0, 0)], [(0, (-1))], _, _, _)
          exact ev_ret rfl (by decide) (by decide) ⟨⟨_, rfl, by omega, by omega, g74154, k74154⟩, fun r hr h0 => by cases hr; exfalso; omega, fun r hr => by cases hr; exact ⟨_, (((jw_ne e74154 (Or.inr (by decide))).trans ey0)), by omega, by omega, (Fr.kp H2 ((Kp.rf [(42, 0)] _).wr e74154 rfl) (fun _ => rfl) (fun _ => rfl) (fun _ => rfl) (fun _ => rfl)), fun h0 => by exfalso; omega, fun h0 => by exfalso; omega⟩⟩
        · refine ev_iconst ?_
          refine ev_goto f242_15 ?_
          refine ev_ret rfl (by decide) (by decide) ?_
          show jEv _ _ _ _ _ _ _ (_, [(2, 42), (0, x5)], [(0, 1)], _, _, _)
          refine ev_ret rfl (by decide) (by decide) ?_
          show jEv _ _ _ _ _ _ _ (_, [(2, 42), (0, a1), (0, a2), (0, a3), (0, 1), (0, x5), (0, (100 * w0 + w1)), (0, x7), (0, 0), (0, 0)], [(0, 1)], _, _, _)
          refine ev_ifeq f270_92 (fun c74155 => absurd c74155 (by omega)) (fun c74155 => ?_)
          refine ev_bipush ?_
          refine ev_iload rfl ?_
          refine ev_imul (r := 0) (by decide) ?_
          refine ev_aload_n rfl ?_
          refine ev_iload rfl ?_
          refine ev_in (d := (d + 1)) (a := 0) (b := 0) (cd' := c264_0) (m := 2) (L0 := [(2, 42), (0, x5)]) (jcall_v (A := [(0, x5)]) (S' := [(0, 0)]) (r := 42) rfl (g1.lt ad42) (g1.tg ad42) (Nat.le_of_ble_eq_true rfl)) (by decide) ml264 pp264 (Nat.le_of_ble_eq_true rfl) rfl (by decide) (by decide) ?_
          refine ev_iload_n rfl ?_
          refine ev_aload_n rfl ?_
          refine g_getv (r := 42) (v := v74140) g1 ad42 (by decide) ft12_17 (ev74140) ?_
          refine ev_icmpge f264_17 (fun c74156 => absurd c74156 (by omega)) (fun c74156 => ?_)
          refine ev_aload_n rfl ?_
          refine g_getp (r := 42) (c := 54) g1 ad42 (by decide) (by decide) rf42_16 ft12_16 ?_
          refine ev_iload_n rfl ?_
          refine g_baldv (v := v74146) g1 ad54 (by omega) (by omega) (ev74146) ?_
          refine ev_goto f264_18 ?_
          refine ev_ret rfl (by decide) (by decide) ?_
          show jEv _ _ _ _ _ _ _ (_, [(2, 42), (0, a1), (0, a2), (0, a3), (0, 1), (0, x5), (0, (100 * w0 + w1)), (0, x7), (0, 0), (0, 0)], [(0, v74146), (0, 0)], _, _, _)
          refine ev_iadd (r := v74146) (by unfold w32; omega) ?_
          refine ev_bipush ?_
          refine ev_isub (r := (v74146 - 48)) (by unfold w32; omega) ?_
          refine ev_istore (L' := [(2, 42), (0, a1), (0, a2), (0, a3), (0, 1), (0, x5), (0, (100 * w0 + w1)), (0, x7), (0, (v74146 - 48)), (0, 0)]) (Nat.le_of_ble_eq_true rfl) rfl ?_
          refine ev_iinc (w := 1) (L' := [(2, 42), (0, a1), (0, a2), (0, a3), (0, 1), (0, x5), (0, (100 * w0 + w1)), (0, x7), (0, (v74146 - 48)), (0, 1)]) rfl (by decide) rfl ?_
          refine ev_iinc (w := (x5 + 1)) (L' := [(2, 42), (0, a1), (0, a2), (0, a3), (0, 1), (0, (x5 + 1)), (0, (100 * w0 + w1)), (0, x7), (0, (v74146 - 48)), (0, 1)]) rfl (by unfold w32; omega) rfl ?_
          refine ev_goto f270_51 ?_
          refine ev_iload rfl ?_
          refine ev_iconst ?_
          refine ev_icmpge f270_92 (fun c74157 => absurd c74157 (by omega)) (fun c74157 => ?_)
          refine ev_aload_n rfl ?_
          refine ev_iload rfl ?_
          refine ev_in (d := (d + 1)) (a := 0) (b := 0) (cd' := c265_0) (m := 2) (L0 := [(2, 42), (0, (x5 + 1))]) (jcall_v (A := [(0, (x5 + 1))]) (S' := []) (r := 42) rfl (g1.lt ad42) (g1.tg ad42) (Nat.le_of_ble_eq_true rfl)) (by decide) ml265 pp265 (Nat.le_of_ble_eq_true rfl) rfl (by decide) (by decide) ?_
          refine ev_aload_n rfl ?_
          refine ev_iload_n rfl ?_
          refine ev_in (d := (d + 0)) (a := 0) (b := 0) (cd' := c264_0) (m := 2) (L0 := [(2, 42), (0, (x5 + 1))]) (jcall_v (A := [(0, (x5 + 1))]) (S' := []) (r := 42) rfl (g1.lt ad42) (g1.tg ad42) (Nat.le_of_ble_eq_true rfl)) (by decide) ml264 pp264 (Nat.le_of_ble_eq_true rfl) rfl (by decide) (by decide) ?_
          refine ev_iload_n rfl ?_
          refine ev_aload_n rfl ?_
          refine g_getv (r := 42) (v := v74140) g1 ad42 (by decide) ft12_17 (ev74140) ?_
          refine ev_icmpge f264_17 (fun c74158 => ?_) (fun c74158 => ?_)
          · refine ev_iconst ?_
            refine ev_ret rfl (by decide) (by decide) ?_
            show jEv _ _ _ _ _ _ _ (_, [(2, 42), (0, (x5 + 1))], [(0, (-1))], _, _, _)
            refine ev_bipush ?_
            refine ev_bipush ?_
            refine ev_in (d := (d + 0)) (a := 0) (b := 0) (cd' := c242_0) (m := 3) (L0 := [(0, (-1)), (0, 48), (0, 57)]) (jcall_s (A := [(0, 57), (0, 48), (0, (-1))]) (S' := []) (by decide) rfl (Nat.le_of_ble_eq_true rfl)) (by decide) ml242 pp242 (Nat.le_of_ble_eq_true rfl) rfl (by decide) (by decide) ?_
            refine ev_iload_n rfl ?_
            refine ev_iload_n rfl ?_
            refine ev_icmplt f242_14 (fun c74159 => ?_) (fun c74159 => absurd c74159 (by omega))
            refine ev_iconst ?_
            refine ev_ret rfl (by decide) (by decide) ?_
            show jEv _ _ _ _ _ _ _ (_, [(2, 42), (0, (x5 + 1))], [(0, 0)], _, _, _)
            refine ev_ret rfl (by decide) (by decide) ?_
            show jEv _ _ _ _ _ _ _ (_, [(2, 42), (0, a1), (0, a2), (0, a3), (0, 1), (0, (x5 + 1)), (0, (100 * w0 + w1)), (0, x7), (0, (v74146 - 48)), (0, 1)], [(0, 0)], _, _, _)
            refine ev_ifeq f270_92 (fun c74160 => ?_) (fun c74160 => absurd c74160 (by omega))
            refine ev_iload rfl ?_
            refine ev_ifeq f270_108 (fun c74161 => absurd c74161 (by omega)) (fun c74161 => ?_)
            refine ev_aload_n rfl ?_
            refine ev_iload rfl ?_
            refine ev_in (d := (d + 1)) (a := 0) (b := 0) (cd' := c264_0) (m := 2) (L0 := [(2, 42), (0, (x5 + 1))]) (jcall_v (A := [(0, (x5 + 1))]) (S' := []) (r := 42) rfl (g1.lt ad42) (g1.tg ad42) (Nat.le_of_ble_eq_true rfl)) (by decide) ml264 pp264 (Nat.le_of_ble_eq_true rfl) rfl (by decide) (by decide) ?_
            refine ev_iload_n rfl ?_
            refine ev_aload_n rfl ?_
            refine g_getv (r := 42) (v := v74140) g1 ad42 (by decide) ft12_17 (ev74140) ?_
            refine ev_icmpge f264_17 (fun c74162 => ?_) (fun c74162 => absurd c74162 (by omega))
            refine ev_iconst ?_
            refine ev_ret rfl (by decide) (by decide) ?_
            show jEv _ _ _ _ _ _ _ (_, [(2, 42), (0, a1), (0, a2), (0, a3), (0, 1), (0, (x5 + 1)), (0, (100 * w0 + w1)), (0, x7), (0, (v74146 - 48)), (0, 1)], [(0, (-1))], _, _, _)
            refine ev_bipush ?_
            refine ev_icmpeq f270_115 (fun c74163 => absurd c74163 (by omega)) (fun c74163 => ?_)
            refine ev_aload_n rfl ?_
            refine ev_iload rfl ?_
            refine ev_in (d := (d + 1)) (a := 0) (b := 0) (cd' := c266_0) (m := 2) (L0 := [(2, 42), (0, (x5 + 1))]) (jcall_v (A := [(0, (x5 + 1))]) (S' := []) (r := 42) rfl (g1.lt ad42) (g1.tg ad42) (Nat.le_of_ble_eq_true rfl)) (by decide) ml266 pp266 (Nat.le_of_ble_eq_true rfl) rfl (by decide) (by decide) ?_
            refine ev_aload_n rfl ?_
            refine ev_iload_n rfl ?_
            refine g_putf (r := 42) g1 ad42 (by decide) ft12_20 (by decide) (fun e => absurd e nz12_20) rf42_20 (by decide) (by omega) (by omega) (fun h74164 e74164 g74164 => ?_)
            have k74164 := k1.wr e74164 rfl
            refine ev_iconst ?_
            refine ev_ret rfl (by decide) (by decide) ?_
            show jEv _ _ _ _ _ _ _ (_, [(2, 42), (0, a1), (0, a2), (0, a3), (0, 1), (0, (x5 + 1)), (0, (100 * w0 + w1)), (0, x7), (0, (v74146 - 48)), (0, 1)], [(0, (-1))], _, _, _)
            exact ev_ret rfl (by decide) (by decide) ⟨⟨_, rfl, by omega, by omega, g74164, k74164⟩, fun r hr h0 => by cases hr; exfalso; omega, fun r hr => by cases hr; exact ⟨_, (((jw_ne e74164 (Or.inr (by decide))).trans ey0)), by omega, by omega, (Fr.kp H2 ((Kp.rf [(42, 0)] _).wr e74164 rfl) (fun _ => rfl) (fun _ => rfl) (fun _ => rfl) (fun _ => rfl)), fun h0 => by exfalso; omega, fun h0 => by exfalso; omega⟩⟩
          · refine ev_aload_n rfl ?_
            refine g_getp (r := 42) (c := 54) g1 ad42 (by decide) (by decide) rf42_16 ft12_16 ?_
            refine ev_iload_n rfl ?_
            refine g_bald g1 ad54 rt54 (by omega) (by omega) (fun v74165 ev74165 lv74165 uv74165 => ?_)
            refine ev_goto f264_18 ?_
            refine ev_ret rfl (by decide) (by decide) ?_
            show jEv _ _ _ _ _ _ _ (_, [(2, 42), (0, (x5 + 1))], [(0, v74165)], _, _, _)
            refine ev_bipush ?_
            refine ev_bipush ?_
            refine ev_in (d := (d + 0)) (a := 0) (b := 0) (cd' := c242_0) (m := 3) (L0 := [(0, v74165), (0, 48), (0, 57)]) (jcall_s (A := [(0, 57), (0, 48), (0, v74165)]) (S' := []) (by decide) rfl (Nat.le_of_ble_eq_true rfl)) (by decide) ml242 pp242 (Nat.le_of_ble_eq_true rfl) rfl (by decide) (by decide) ?_
            refine ev_iload_n rfl ?_
            refine ev_iload_n rfl ?_
            refine ev_icmplt f242_14 (fun c74166 => ?_) (fun c74166 => ?_)
            · refine ev_iconst ?_
              refine ev_ret rfl (by decide) (by decide) ?_
              show jEv _ _ _ _ _ _ _ (_, [(2, 42), (0, (x5 + 1))], [(0, 0)], _, _, _)
              refine ev_ret rfl (by decide) (by decide) ?_
              show jEv _ _ _ _ _ _ _ (_, [(2, 42), (0, a1), (0, a2), (0, a3), (0, 1), (0, (x5 + 1)), (0, (100 * w0 + w1)), (0, x7), (0, (v74146 - 48)), (0, 1)], [(0, 0)], _, _, _)
              refine ev_ifeq f270_92 (fun c74167 => ?_) (fun c74167 => absurd c74167 (by omega))
              refine ev_iload rfl ?_
              refine ev_ifeq f270_108 (fun c74168 => absurd c74168 (by omega)) (fun c74168 => ?_)
              refine ev_aload_n rfl ?_
              refine ev_iload rfl ?_
              refine ev_in (d := (d + 1)) (a := 0) (b := 0) (cd' := c264_0) (m := 2) (L0 := [(2, 42), (0, (x5 + 1))]) (jcall_v (A := [(0, (x5 + 1))]) (S' := []) (r := 42) rfl (g1.lt ad42) (g1.tg ad42) (Nat.le_of_ble_eq_true rfl)) (by decide) ml264 pp264 (Nat.le_of_ble_eq_true rfl) rfl (by decide) (by decide) ?_
              refine ev_iload_n rfl ?_
              refine ev_aload_n rfl ?_
              refine g_getv (r := 42) (v := v74140) g1 ad42 (by decide) ft12_17 (ev74140) ?_
              refine ev_icmpge f264_17 (fun c74169 => absurd c74169 (by omega)) (fun c74169 => ?_)
              refine ev_aload_n rfl ?_
              refine g_getp (r := 42) (c := 54) g1 ad42 (by decide) (by decide) rf42_16 ft12_16 ?_
              refine ev_iload_n rfl ?_
              refine g_baldv (v := v74165) g1 ad54 (by omega) (by omega) (ev74165) ?_
              refine ev_goto f264_18 ?_
              refine ev_ret rfl (by decide) (by decide) ?_
              show jEv _ _ _ _ _ _ _ (_, [(2, 42), (0, a1), (0, a2), (0, a3), (0, 1), (0, (x5 + 1)), (0, (100 * w0 + w1)), (0, x7), (0, (v74146 - 48)), (0, 1)], [(0, v74165)], _, _, _)
              refine ev_bipush ?_
              refine ev_icmpeq f270_115 (fun c74170 => absurd c74170 (by omega)) (fun c74170 => ?_)
              refine ev_aload_n rfl ?_
              refine ev_iload rfl ?_
              refine ev_in (d := (d + 1)) (a := 0) (b := 0) (cd' := c266_0) (m := 2) (L0 := [(2, 42), (0, (x5 + 1))]) (jcall_v (A := [(0, (x5 + 1))]) (S' := []) (r := 42) rfl (g1.lt ad42) (g1.tg ad42) (Nat.le_of_ble_eq_true rfl)) (by decide) ml266 pp266 (Nat.le_of_ble_eq_true rfl) rfl (by decide) (by decide) ?_
              refine ev_aload_n rfl ?_
              refine ev_iload_n rfl ?_
              refine g_putf (r := 42) g1 ad42 (by decide) ft12_20 (by decide) (fun e => absurd e nz12_20) rf42_20 (by decide) (by omega) (by omega) (fun h74171 e74171 g74171 => ?_)
              have k74171 := k1.wr e74171 rfl
              refine ev_iconst ?_
              refine ev_ret rfl (by decide) (by decide) ?_
              show jEv _ _ _ _ _ _ _ (_, [(2, 42), (0, a1), (0, a2), (0, a3), (0, 1), (0, (x5 + 1)), (0, (100 * w0 + w1)), (0, x7), (0, (v74146 - 48)), (0, 1)], [(0, (-1))], _, _, _)
              exact ev_ret rfl (by decide) (by decide) ⟨⟨_, rfl, by omega, by omega, g74171, k74171⟩, fun r hr h0 => by cases hr; exfalso; omega, fun r hr => by cases hr; exact ⟨_, (((jw_ne e74171 (Or.inr (by decide))).trans ey0)), by omega, by omega, (Fr.kp H2 ((Kp.rf [(42, 0)] _).wr e74171 rfl) (fun _ => rfl) (fun _ => rfl) (fun _ => rfl) (fun _ => rfl)), fun h0 => by exfalso; omega, fun h0 => by exfalso; omega⟩⟩
            · refine ev_iload_n rfl ?_
              refine ev_iload_n rfl ?_
              refine ev_icmpgt f242_14 (fun c74172 => ?_) (fun c74172 => ?_)
              · refine ev_iconst ?_
                refine ev_ret rfl (by decide) (by decide) ?_
                show jEv _ _ _ _ _ _ _ (_, [(2, 42), (0, (x5 + 1))], [(0, 0)], _, _, _)
                refine ev_ret rfl (by decide) (by decide) ?_
                show jEv _ _ _ _ _ _ _ (_, [(2, 42), (0, a1), (0, a2), (0, a3), (0, 1), (0, (x5 + 1)), (0, (100 * w0 + w1)), (0, x7), (0, (v74146 - 48)), (0, 1)], [(0, 0)], _, _, _)
                refine ev_ifeq f270_92 (fun c74173 => ?_) (fun c74173 => absurd c74173 (by omega))
                refine ev_iload rfl ?_
                refine ev_ifeq f270_108 (fun c74174 => absurd c74174 (by omega)) (fun c74174 => ?_)
                refine ev_aload_n rfl ?_
                refine ev_iload rfl ?_
                refine ev_in (d := (d + 1)) (a := 0) (b := 0) (cd' := c264_0) (m := 2) (L0 := [(2, 42), (0, (x5 + 1))]) (jcall_v (A := [(0, (x5 + 1))]) (S' := []) (r := 42) rfl (g1.lt ad42) (g1.tg ad42) (Nat.le_of_ble_eq_true rfl)) (by decide) ml264 pp264 (Nat.le_of_ble_eq_true rfl) rfl (by decide) (by decide) ?_
                refine ev_iload_n rfl ?_
                refine ev_aload_n rfl ?_
                refine g_getv (r := 42) (v := v74140) g1 ad42 (by decide) ft12_17 (ev74140) ?_
                refine ev_icmpge f264_17 (fun c74175 => absurd c74175 (by omega)) (fun c74175 => ?_)
                refine ev_aload_n rfl ?_
                refine g_getp (r := 42) (c := 54) g1 ad42 (by decide) (by decide) rf42_16 ft12_16 ?_
                refine ev_iload_n rfl ?_
                refine g_baldv (v := v74165) g1 ad54 (by omega) (by omega) (ev74165) ?_
                refine ev_goto f264_18 ?_
                refine ev_ret rfl (by decide) (by decide) ?_
                show jEv _ _ _ _ _ _ _ (_, [(2, 42), (0, a1), (0, a2), (0, a3), (0, 1), (0, (x5 + 1)), (0, (100 * w0 + w1)), (0, x7), (0, (v74146 - 48)), (0, 1)], [(0, v74165)], _, _, _)
                refine ev_bipush ?_
                refine ev_icmpeq f270_115 (fun c74176 => ?_) (fun c74176 => ?_)
                · rcases Int.lt_or_le (y0) 100 with c74177 | c74177
                  · refine ev_aload_n rfl ?_
                    refine ev_iload rfl ?_
                    refine ev_iload rfl ?_
                    refine ev_iload rfl ?_
                    refine ev_in (d := (d + 1)) (a := 0) (b := 0) (cd' := c268_0) (m := 4) (L0 := [(2, 42), (0, (100 * w0 + w1)), (0, x7), (0, (v74146 - 48))]) (jcall_v (A := [(0, (v74146 - 48)), (0, x7), (0, (100 * w0 + w1))]) (S' := []) (r := 42) rfl (g1.lt ad42) (g1.tg ad42) (Nat.le_of_ble_eq_true rfl)) (by decide) ml268 pp268 (Nat.le_of_ble_eq_true rfl) rfl (by decide) (by decide) ?_
                    refine ev_iload_n rfl ?_
                    refine ev_ifge f268_5 (fun c74178 => ?_) (fun c74178 => absurd c74178 (by omega))
                    refine ev_aload_n rfl ?_
                    refine g_getp (r := 42) (c := 51) g1 ad42 (by decide) (by decide) rf42_13 ft12_13 ?_
                    refine ev_iconst ?_
                    refine ev_iload_n rfl ?_
                    refine ev_imul (r := (400 * w0 + 4 * w1)) (by unfold w32; omega) ?_
                    refine ev_iload_n rfl ?_
                    refine ev_iadd (r := (400 * w0 + 4 * w1 + x7)) (by unfold w32; omega) ?_
                    refine ev_aload_n rfl ?_
                    refine g_getv (r := 42) (v := y0) g1 ad42 (by decide) ft12_21 (ey0) ?_
                    refine ev_i2b (r := y0) (by unfold w8; omega) ?_
                    refine ev_bastG (r := 51) (j := ((400 * w0 + 4 * w1 + x7)).toNat) (w := y0) (g1.lt ad51) (g1.tg ad51) (by omega) (by rw [g1.ln ad51]; omega) (by unfold w8; omega) (fun h74179 e74179 => ?_)
                    have g74179 := g1.s51 e74179 (by rw [(((k1.v (by decide)).trans ew0))]; omega) (by omega) (by omega)
                    have k74179 := k1.wr e74179 rfl
                    refine ev_aload_n rfl ?_
                    refine g_getp (r := 42) (c := 52) g74179 ad42 (by decide) (by decide) rf42_14 ft12_14 ?_
                    refine ev_iconst ?_
                    refine ev_iload_n rfl ?_
                    refine ev_imul (r := (400 * w0 + 4 * w1)) (by unfold w32; omega) ?_
                    refine ev_iload_n rfl ?_
                    refine ev_iadd (r := (400 * w0 + 4 * w1 + x7)) (by unfold w32; omega) ?_
                    refine ev_iload_n rfl ?_
                    refine g_iast g74179 ad52 rt52 (fun _ => rfl) (by omega) (by omega) (by omega) (by omega) (fun h74180 e74180 g74180 => ?_)
                    have k74180 := k74179.wr e74180 rfl
                    refine ev_ret rfl (by decide) (by decide) ?_
                    show jEv _ _ _ _ _ _ _ (_, [(2, 42), (0, a1), (0, a2), (0, a3), (0, 1), (0, (x5 + 1)), (0, (100 * w0 + w1)), (0, x7), (0, (v74146 - 48)), (0, 1)], [], _, _, _)
                    refine ev_aload_n rfl ?_
                    refine ev_iload rfl ?_
                    refine ev_iconst ?_
                    refine ev_iadd (r := (x5 + 2)) (by unfold w32; omega) ?_
                    refine ev_iload_n rfl ?_
                    refine ev_iload_n rfl ?_
                    refine ev_iconst ?_
                    refine ev_iadd (r := (a3 + 1)) (by unfold w32; omega) ?_
                    refine ev_iload rfl ?_
                    refine ev_call (jcall_v (A := [(0, 1), (0, (a3 + 1)), (0, a2), (0, (x5 + 2))]) (S' := []) (r := 42) rfl (g74180.lt ad42) (g74180.tg ad42) (Nat.le_of_ble_eq_true rfl)) (jOk_le (by omega) (rih g74180 (by omega) (by omega) (by omega) (by omega) (by omega) (by omega) (by omega) (by omega) (by omega) (by omega) (((jw_ne e74180 (Or.inl (by decide))).trans ((jw_ne e74179 (Or.inl (by decide))).trans ((k1.v (by decide)).trans ew0)))) (by omega) (by omega) (((jw_ne e74180 (Or.inl (by decide))).trans ((jw_ne e74179 (Or.inl (by decide))).trans ey0))) (by omega) (by omega) (l0 := l0) (b0 := b74138) (by omega) (Iv.kp hI k74180 (fun _ => rfl) (fun _ => rfl) rfl) (Lv.at hL (Ad.step (r' := (x5 + 2)) (Ad.step (r' := (x5 + 1)) H0 (by omega) k74180 (fun _ => rfl) (((jw_ne e74180 (Or.inl (by decide))).trans ((jw_ne e74179 (Or.inl (by decide))).trans ev74146))) (by omega) (by omega) (by omega)) (by omega) k74180 (fun _ => rfl) (((jw_ne e74180 (Or.inl (by decide))).trans ((jw_ne e74179 (Or.inl (by decide))).trans ev74165))) (by omega) (by omega) (by omega)) k74180 (fun _ => rfl) rfl) hb74137 hS (by omega))) (by decide) (by decide) (fun w74181 h74181 q74181 => ?_)
                    obtain ⟨q74181, ad74181, ro74181⟩ := q74181
                    obtain ⟨v74182, rfl, lv74182, uv74182, g74181, kk74181⟩ := q74181
                    have ad74181 := ad74181 _ rfl
                    obtain ⟨m74183, em74183, lm74183, um74183, fr74181, pm74181, tr74181⟩ := ro74181 _ rfl
                    have k74181 := k74180.tr kk74181 (by decide)
                    show jEv _ _ _ _ _ _ _ (_, [(2, 42), (0, a1), (0, a2), (0, a3), (0, 1), (0, (x5 + 1)), (0, (100 * w0 + w1)), (0, x7), (0, (v74146 - 48)), (0, 1)], [(0, v74182)], _, _, _)
                    refine ev_istore (L' := [(2, 42), (0, a1), (0, a2), (0, a3), (0, 1), (0, v74182), (0, (100 * w0 + w1)), (0, x7), (0, (v74146 - 48)), (0, 1)]) (Nat.le_of_ble_eq_true rfl) rfl ?_
                    refine ev_iload rfl ?_
                    refine ev_ifge f270_148 (fun c74184 => ?_) (fun c74184 => ?_)
                    · refine ev_iinc (w := (x7 + 1)) (L' := [(2, 42), (0, a1), (0, a2), (0, a3), (0, 1), (0, v74182), (0, (100 * w0 + w1)), (0, (x7 + 1)), (0, (v74146 - 48)), (0, 1)]) rfl (by unfold w32; omega) rfl ?_
                      refine ev_aload_n rfl ?_
                      refine ev_iload rfl ?_
                      refine ev_in (d := (d + 1)) (a := 0) (b := 0) (cd' := c264_0) (m := 2) (L0 := [(2, 42), (0, v74182)]) (jcall_v (A := [(0, v74182)]) (S' := []) (r := 42) rfl (g74181.lt ad42) (g74181.tg ad42) (Nat.le_of_ble_eq_true rfl)) (by decide) ml264 pp264 (Nat.le_of_ble_eq_true rfl) rfl (by decide) (by decide) ?_
                      refine ev_iload_n rfl ?_
                      refine ev_aload_n rfl ?_
                      refine g_getv (r := 42) (v := v74140) g74181 ad42 (by decide) ft12_17 (((kk74181.v (by decide)).trans ((jw_ne e74180 (Or.inl (by decide))).trans ((jw_ne e74179 (Or.inl (by decide))).trans ev74140)))) ?_
                      refine ev_icmpge f264_17 (fun c74185 => ?_) (fun c74185 => ?_)
                      · refine ev_iconst ?_
                        refine ev_ret rfl (by decide) (by decide) ?_
                        show jEv _ _ _ _ _ _ _ (_, [(2, 42), (0, a1), (0, a2), (0, a3), (0, 1), (0, v74182), (0, (100 * w0 + w1)), (0, (x7 + 1)), (0, (v74146 - 48)), (0, 1)], [(0, (-1))], _, _, _)
                        refine ev_bipush ?_
                        refine ev_icmpne f270_165 (fun c74186 => ?_) (fun c74186 => absurd c74186 (by omega))
                        refine ev_aload_n rfl ?_
                        refine ev_iload rfl ?_
                        refine ev_in (d := (d + 1)) (a := 0) (b := 0) (cd' := c264_0) (m := 2) (L0 := [(2, 42), (0, v74182)]) (jcall_v (A := [(0, v74182)]) (S' := []) (r := 42) rfl (g74181.lt ad42) (g74181.tg ad42) (Nat.le_of_ble_eq_true rfl)) (by decide) ml264 pp264 (Nat.le_of_ble_eq_true rfl) rfl (by decide) (by decide) ?_
                        refine ev_iload_n rfl ?_
                        refine ev_aload_n rfl ?_
                        refine g_getv (r := 42) (v := v74140) g74181 ad42 (by decide) ft12_17 (((kk74181.v (by decide)).trans ((jw_ne e74180 (Or.inl (by decide))).trans ((jw_ne e74179 (Or.inl (by decide))).trans ev74140)))) ?_
                        refine ev_icmpge f264_17 (fun c74187 => ?_) (fun c74187 => absurd c74187 (by omega))
                        refine ev_iconst ?_
                        refine ev_ret rfl (by decide) (by decide) ?_
                        show jEv _ _ _ _ _ _ _ (_, [(2, 42), (0, a1), (0, a2), (0, a3), (0, 1), (0, v74182), (0, (100 * w0 + w1)), (0, (x7 + 1)), (0, (v74146 - 48)), (0, 1)], [(0, (-1))], _, _, _)
                        refine ev_bipush ?_
                        refine ev_icmpne f270_182 (fun c74188 => ?_) (fun c74188 => absurd c74188 (by omega))
                        refine ev_aload_n rfl ?_
                        refine ev_iload rfl ?_
                        refine ev_in (d := (d + 1)) (a := 0) (b := 0) (cd' := c266_0) (m := 2) (L0 := [(2, 42), (0, v74182)]) (jcall_v (A := [(0, v74182)]) (S' := []) (r := 42) rfl (g74181.lt ad42) (g74181.tg ad42) (Nat.le_of_ble_eq_true rfl)) (by decide) ml266 pp266 (Nat.le_of_ble_eq_true rfl) rfl (by decide) (by decide) ?_
                        refine ev_aload_n rfl ?_
                        refine ev_iload_n rfl ?_
                        refine g_putf (r := 42) g74181 ad42 (by decide) ft12_20 (by decide) (fun e => absurd e nz12_20) rf42_20 (by decide) (by omega) (by omega) (fun h74189 e74189 g74189 => ?_)
                        have k74189 := k74181.wr e74189 rfl
                        refine ev_iconst ?_
                        refine ev_ret rfl (by decide) (by decide) ?_
                        show jEv _ _ _ _ _ _ _ (_, [(2, 42), (0, a1), (0, a2), (0, a3), (0, 1), (0, v74182), (0, (100 * w0 + w1)), (0, (x7 + 1)), (0, (v74146 - 48)), (0, 1)], [(0, (-1))], _, _, _)
                        exact ev_ret rfl (by decide) (by decide) ⟨⟨_, rfl, by omega, by omega, g74189, k74189⟩, fun r hr h0 => by cases hr; exfalso; omega, fun r hr => by cases hr; exact ⟨_, (((jw_ne e74189 (Or.inr (by decide))).trans em74183)), by omega, by omega, (Fr.kp (Fr.tr (Fr.kp (Fr.w (i := (400 * w0 + 4 * w1 + x7)) H2 e74179 (by omega) (by omega)) ((Kp.rf [(52, 0)] _).wr e74180 rfl) (fun _ => rfl) (fun _ => rfl) (fun _ => rfl) (fun _ => rfl)) fr74181 (by omega)) ((Kp.rf [(42, 0)] _).wr e74189 rfl) (fun _ => rfl) (fun _ => rfl) (fun _ => rfl) (fun _ => rfl)), fun h0 => by exfalso; omega, fun h0 => by exfalso; omega⟩⟩
                      · refine ev_aload_n rfl ?_
                        refine g_getp (r := 42) (c := 54) g74181 ad42 (by decide) (by decide) rf42_16 ft12_16 ?_
                        refine ev_iload_n rfl ?_
                        refine g_bald g74181 ad54 rt54 (by omega) (by omega) (fun v74190 ev74190 lv74190 uv74190 => ?_)
                        refine ev_goto f264_18 ?_
                        refine ev_ret rfl (by decide) (by decide) ?_
                        show jEv _ _ _ _ _ _ _ (_, [(2, 42), (0, a1), (0, a2), (0, a3), (0, 1), (0, v74182), (0, (100 * w0 + w1)), (0, (x7 + 1)), (0, (v74146 - 48)), (0, 1)], [(0, v74190)], _, _, _)
                        refine ev_bipush ?_
                        refine ev_icmpne f270_165 (fun c74191 => ?_) (fun c74191 => ?_)
                        · refine ev_aload_n rfl ?_
                          refine ev_iload rfl ?_
                          refine ev_in (d := (d + 1)) (a := 0) (b := 0) (cd' := c264_0) (m := 2) (L0 := [(2, 42), (0, v74182)]) (jcall_v (A := [(0, v74182)]) (S' := []) (r := 42) rfl (g74181.lt ad42) (g74181.tg ad42) (Nat.le_of_ble_eq_true rfl)) (by decide) ml264 pp264 (Nat.le_of_ble_eq_true rfl) rfl (by decide) (by decide) ?_
                          refine ev_iload_n rfl ?_
                          refine ev_aload_n rfl ?_
                          refine g_getv (r := 42) (v := v74140) g74181 ad42 (by decide) ft12_17 (((kk74181.v (by decide)).trans ((jw_ne e74180 (Or.inl (by decide))).trans ((jw_ne e74179 (Or.inl (by decide))).trans ev74140)))) ?_
                          refine ev_icmpge f264_17 (fun c74192 => absurd c74192 (by omega)) (fun c74192 => ?_)
                          refine ev_aload_n rfl ?_
                          refine g_getp (r := 42) (c := 54) g74181 ad42 (by decide) (by decide) rf42_16 ft12_16 ?_
                          refine ev_iload_n rfl ?_
                          refine g_baldv (v := v74190) g74181 ad54 (by omega) (by omega) (ev74190) ?_
                          refine ev_goto f264_18 ?_
                          refine ev_ret rfl (by decide) (by decide) ?_
                          show jEv _ _ _ _ _ _ _ (_, [(2, 42), (0, a1), (0, a2), (0, a3), (0, 1), (0, v74182), (0, (100 * w0 + w1)), (0, (x7 + 1)), (0, (v74146 - 48)), (0, 1)], [(0, v74190)], _, _, _)
                          refine ev_bipush ?_
                          refine ev_icmpne f270_182 (fun c74193 => ?_) (fun c74193 => ?_)
                          · refine ev_aload_n rfl ?_
                            refine ev_iload rfl ?_
                            refine ev_in (d := (d + 1)) (a := 0) (b := 0) (cd' := c266_0) (m := 2) (L0 := [(2, 42), (0, v74182)]) (jcall_v (A := [(0, v74182)]) (S' := []) (r := 42) rfl (g74181.lt ad42) (g74181.tg ad42) (Nat.le_of_ble_eq_true rfl)) (by decide) ml266 pp266 (Nat.le_of_ble_eq_true rfl) rfl (by decide) (by decide) ?_
                            refine ev_aload_n rfl ?_
                            refine ev_iload_n rfl ?_
                            refine g_putf (r := 42) g74181 ad42 (by decide) ft12_20 (by decide) (fun e => absurd e nz12_20) rf42_20 (by decide) (by omega) (by omega) (fun h74194 e74194 g74194 => ?_)
                            have k74194 := k74181.wr e74194 rfl
                            refine ev_iconst ?_
                            refine ev_ret rfl (by decide) (by decide) ?_
                            show jEv _ _ _ _ _ _ _ (_, [(2, 42), (0, a1), (0, a2), (0, a3), (0, 1), (0, v74182), (0, (100 * w0 + w1)), (0, (x7 + 1)), (0, (v74146 - 48)), (0, 1)], [(0, (-1))], _, _, _)
                            exact ev_ret rfl (by decide) (by decide) ⟨⟨_, rfl, by omega, by omega, g74194, k74194⟩, fun r hr h0 => by cases hr; exfalso; omega, fun r hr => by cases hr; exact ⟨_, (((jw_ne e74194 (Or.inr (by decide))).trans em74183)), by omega, by omega, (Fr.kp (Fr.tr (Fr.kp (Fr.w (i := (400 * w0 + 4 * w1 + x7)) H2 e74179 (by omega) (by omega)) ((Kp.rf [(52, 0)] _).wr e74180 rfl) (fun _ => rfl) (fun _ => rfl) (fun _ => rfl) (fun _ => rfl)) fr74181 (by omega)) ((Kp.rf [(42, 0)] _).wr e74194 rfl) (fun _ => rfl) (fun _ => rfl) (fun _ => rfl) (fun _ => rfl)), fun h0 => by exfalso; omega, fun h0 => by exfalso; omega⟩⟩
                          · refine ev_iload rfl ?_
                            refine ev_iconst ?_
                            refine ev_icmpne f270_189 (fun c74195 => ?_) (fun c74195 => ?_)
                            · refine ev_iinc (w := (v74182 + 1)) (L' := [(2, 42), (0, a1), (0, a2), (0, a3), (0, 1), (0, (v74182 + 1)), (0, (100 * w0 + w1)), (0, (x7 + 1)), (0, (v74146 - 48)), (0, 1)]) rfl (by unfold w32; omega) rfl ?_
                              refine ev_goto f270_45 ?_
                              exact ih _ _ _ _ _ _ g74181 k74181 (by omega) (by omega) (by omega) (by omega) (by omega) (by omega) (by omega) (by omega) (by omega) (by omega) (by omega) (em74183) (by omega) (by omega) (Ad.step (r' := (v74182 + 1)) (Ad.tr (Ad.step (r' := (x5 + 2)) (Ad.step (r' := (x5 + 1)) H0 (by omega) k74180 (fun _ => rfl) (((jw_ne e74180 (Or.inl (by decide))).trans ((jw_ne e74179 (Or.inl (by decide))).trans ev74146))) (by omega) (by omega) (by omega)) (by omega) k74180 (fun _ => rfl) (((jw_ne e74180 (Or.inl (by decide))).trans ((jw_ne e74179 (Or.inl (by decide))).trans ev74165))) (by omega) (by omega) (by omega)) k74180 (fun _ => rfl) (ad74181 (by omega))) (by omega) k74181 (fun _ => rfl) (ev74190) (by omega) (by omega) (by omega)) (Mb.step H1 eb74137 um74183 (by omega)) (Fr.tr (Fr.kp (Fr.w (i := (400 * w0 + 4 * w1 + x7)) H2 e74179 (by omega) (by omega)) ((Kp.rf [(52, 0)] _).wr e74180 rfl) (fun _ => rfl) (fun _ => rfl) (fun _ => rfl) (fun _ => rfl)) fr74181 (by omega)) (PC.step (i := (100 * w0 + w1)) (j := (400 * w0 + 4 * w1 + x7)) H3 (by omega) (by omega) (by omega) (by omega) (by omega) (by omega) (by omega) e74179 ((Kp.rf [(52, 0)] _).wr e74180 rfl) (fun _ => rfl) (fun _ => rfl) (fun _ => rfl) (fun _ => rfl) rfl (fun _ => rfl) kk74181 rfl (fun _ => rfl) fr74181 lm74183 (tr74181 (by omega)) (by omega)) (by omega)
                            · refine ev_aload_n rfl ?_
                              refine ev_iload rfl ?_
                              refine ev_in (d := (d + 1)) (a := 0) (b := 0) (cd' := c266_0) (m := 2) (L0 := [(2, 42), (0, v74182)]) (jcall_v (A := [(0, v74182)]) (S' := []) (r := 42) rfl (g74181.lt ad42) (g74181.tg ad42) (Nat.le_of_ble_eq_true rfl)) (by decide) ml266 pp266 (Nat.le_of_ble_eq_true rfl) rfl (by decide) (by decide) ?_
                              refine ev_aload_n rfl ?_
                              refine ev_iload_n rfl ?_
                              refine g_putf (r := 42) g74181 ad42 (by decide) ft12_20 (by decide) (fun e => absurd e nz12_20) rf42_20 (by decide) (by omega) (by omega) (fun h74196 e74196 g74196 => ?_)
                              have k74196 := k74181.wr e74196 rfl
                              refine ev_iconst ?_
                              refine ev_ret rfl (by decide) (by decide) ?_
                              show jEv _ _ _ _ _ _ _ (_, [(2, 42), (0, a1), (0, a2), (0, a3), (0, 1), (0, v74182), (0, (100 * w0 + w1)), (0, (x7 + 1)), (0, (v74146 - 48)), (0, 1)], [(0, (-1))], _, _, _)
                              exact ev_ret rfl (by decide) (by decide) ⟨⟨_, rfl, by omega, by omega, g74196, k74196⟩, fun r hr h0 => by cases hr; exfalso; omega, fun r hr => by cases hr; exact ⟨_, (((jw_ne e74196 (Or.inr (by decide))).trans em74183)), by omega, by omega, (Fr.kp (Fr.tr (Fr.kp (Fr.w (i := (400 * w0 + 4 * w1 + x7)) H2 e74179 (by omega) (by omega)) ((Kp.rf [(52, 0)] _).wr e74180 rfl) (fun _ => rfl) (fun _ => rfl) (fun _ => rfl) (fun _ => rfl)) fr74181 (by omega)) ((Kp.rf [(42, 0)] _).wr e74196 rfl) (fun _ => rfl) (fun _ => rfl) (fun _ => rfl) (fun _ => rfl)), fun h0 => by exfalso; omega, fun h0 => by exfalso; omega⟩⟩
                        · refine ev_goto f270_195 ?_
                          refine ev_iload rfl ?_
                          refine ev_iflt f270_209 (fun c74197 => absurd c74197 (by omega)) (fun c74197 => ?_)
                          refine ev_aload_n rfl ?_
                          refine g_getp (r := 42) (c := 50) g74181 ad42 (by decide) (by decide) rf42_12 ft12_12 ?_
                          refine ev_iload rfl ?_
                          refine ev_iload rfl ?_
                          refine ev_iastG (r := 50) (j := ((100 * w0 + w1)).toNat) (g74181.lt ad50) (g74181.tg ad50) (by omega) (by rw [g74181.ln ad50]; omega) (fun h74198 e74198 => ?_)
                          have g74198 := g74181.s50 e74198 (Or.inl (by rw [(((kk74181.v (by decide)).trans ((jw_ne e74180 (Or.inl (by decide))).trans ((jw_ne e74179 (Or.inl (by decide))).trans ((k1.v (by decide)).trans ew0)))))]; omega)) (by omega) (by omega)
                          have k74198 := k74181.wr e74198 rfl
                          refine ev_iload rfl ?_
                          refine ev_iconst ?_
                          refine ev_iadd (r := (v74182 + 1)) (by unfold w32; omega) ?_
                          exact ev_ret rfl (by decide) (by decide) ⟨⟨_, rfl, by omega, by omega, g74198, k74198⟩, fun r hr h0 => by cases hr; exact (Ad.step (r' := (v74182 + 1)) (Ad.tr (Ad.step (r' := (x5 + 2)) (Ad.step (r' := (x5 + 1)) H0 (by omega) k74180 (fun _ => rfl) (((jw_ne e74180 (Or.inl (by decide))).trans ((jw_ne e74179 (Or.inl (by decide))).trans ev74146))) (by omega) (by omega) (by omega)) (by omega) k74180 (fun _ => rfl) (((jw_ne e74180 (Or.inl (by decide))).trans ((jw_ne e74179 (Or.inl (by decide))).trans ev74165))) (by omega) (by omega) (by omega)) k74180 (fun _ => rfl) (ad74181 (by omega))) (by omega) k74198 (fun _ => rfl) (((jw_ne e74198 (Or.inl (by decide))).trans ev74190)) (by omega) (by omega) (by omega)), fun r hr => by cases hr; exact ⟨_, (((jw_ne e74198 (Or.inl (by decide))).trans em74183)), by omega, by omega, (Fr.w (i := (100 * w0 + w1)) (Fr.tr (Fr.kp (Fr.w (i := (400 * w0 + 4 * w1 + x7)) H2 e74179 (by omega) (by omega)) ((Kp.rf [(52, 0)] _).wr e74180 rfl) (fun _ => rfl) (fun _ => rfl) (fun _ => rfl) (fun _ => rfl)) fr74181 (by omega)) e74198 (by omega) (by omega)), fun h0 => by have := pm74181 (by omega); omega, fun h0 hm => PC.choice (i := (100 * w0 + w1)) (PC.step (i := (100 * w0 + w1)) (j := (400 * w0 + 4 * w1 + x7)) H3 (by omega) (by omega) (by omega) (by omega) (by omega) (by omega) (by omega) e74179 ((Kp.rf [(52, 0)] _).wr e74180 rfl) (fun _ => rfl) (fun _ => rfl) (fun _ => rfl) (fun _ => rfl) rfl (fun _ => rfl) kk74181 rfl (fun _ => rfl) fr74181 lm74183 (tr74181 (by omega)) (by omega)) (by omega) (by omega) (by omega) (by omega) (by omega) e74198 (by omega) hm⟩⟩
                    · refine ev_iconst ?_
                      exact ev_ret rfl (by decide) (by decide) ⟨⟨_, rfl, by omega, by omega, g74181, k74181⟩, fun r hr h0 => by cases hr; exfalso; omega, fun r hr => by cases hr; exact ⟨_, (em74183), by omega, by omega, (Fr.tr (Fr.kp (Fr.w (i := (400 * w0 + 4 * w1 + x7)) H2 e74179 (by omega) (by omega)) ((Kp.rf [(52, 0)] _).wr e74180 rfl) (fun _ => rfl) (fun _ => rfl) (fun _ => rfl) (fun _ => rfl)) fr74181 (by omega)), fun h0 => by exfalso; omega, fun h0 => by exfalso; omega⟩⟩
                  · refine ev_aload_n rfl ?_
                    refine ev_iload rfl ?_
                    refine ev_iload rfl ?_
                    refine ev_iload rfl ?_
                    refine ev_in (d := (d + 1)) (a := 0) (b := 0) (cd' := c268_0) (m := 4) (L0 := [(2, 42), (0, (100 * w0 + w1)), (0, x7), (0, (v74146 - 48))]) (jcall_v (A := [(0, (v74146 - 48)), (0, x7), (0, (100 * w0 + w1))]) (S' := []) (r := 42) rfl (g1.lt ad42) (g1.tg ad42) (Nat.le_of_ble_eq_true rfl)) (by decide) ml268 pp268 (Nat.le_of_ble_eq_true rfl) rfl (by decide) (by decide) ?_
                    refine ev_iload_n rfl ?_
                    refine ev_ifge f268_5 (fun c74199 => ?_) (fun c74199 => absurd c74199 (by omega))
                    refine ev_aload_n rfl ?_
                    refine g_getp (r := 42) (c := 51) g1 ad42 (by decide) (by decide) rf42_13 ft12_13 ?_
                    refine ev_iconst ?_
                    refine ev_iload_n rfl ?_
                    refine ev_imul (r := (400 * w0 + 4 * w1)) (by unfold w32; omega) ?_
                    refine ev_iload_n rfl ?_
                    refine ev_iadd (r := (400 * w0 + 4 * w1 + x7)) (by unfold w32; omega) ?_
                    refine ev_aload_n rfl ?_
                    refine g_getv (r := 42) (v := y0) g1 ad42 (by decide) ft12_21 (ey0) ?_
                    refine g_i2bG (fun v74200 ev74200 lv74200 uv74200 => ?_)
                    refine ev_bastG (r := 51) (j := ((400 * w0 + 4 * w1 + x7)).toNat) (w := v74200) (g1.lt ad51) (g1.tg ad51) (by omega) (by rw [g1.ln ad51]; omega) (by unfold w8; omega) (fun h74201 e74201 => ?_)
                    have g74201 := g1.s51 e74201 (by rw [(((k1.v (by decide)).trans ew0))]; omega) (by omega) (by omega)
                    have k74201 := k1.wr e74201 rfl
                    refine ev_aload_n rfl ?_
                    refine g_getp (r := 42) (c := 52) g74201 ad42 (by decide) (by decide) rf42_14 ft12_14 ?_
                    refine ev_iconst ?_
                    refine ev_iload_n rfl ?_
                    refine ev_imul (r := (400 * w0 + 4 * w1)) (by unfold w32; omega) ?_
                    refine ev_iload_n rfl ?_
                    refine ev_iadd (r := (400 * w0 + 4 * w1 + x7)) (by unfold w32; omega) ?_
                    refine ev_iload_n rfl ?_
                    refine g_iast g74201 ad52 rt52 (fun _ => rfl) (by omega) (by omega) (by omega) (by omega) (fun h74202 e74202 g74202 => ?_)
                    have k74202 := k74201.wr e74202 rfl
                    refine ev_ret rfl (by decide) (by decide) ?_
                    show jEv _ _ _ _ _ _ _ (_, [(2, 42), (0, a1), (0, a2), (0, a3), (0, 1), (0, (x5 + 1)), (0, (100 * w0 + w1)), (0, x7), (0, (v74146 - 48)), (0, 1)], [], _, _, _)
                    refine ev_aload_n rfl ?_
                    refine ev_iload rfl ?_
                    refine ev_iconst ?_
                    refine ev_iadd (r := (x5 + 2)) (by unfold w32; omega) ?_
                    refine ev_iload_n rfl ?_
                    refine ev_iload_n rfl ?_
                    refine ev_iconst ?_
                    refine ev_iadd (r := (a3 + 1)) (by unfold w32; omega) ?_
                    refine ev_iload rfl ?_
                    refine ev_call (jcall_v (A := [(0, 1), (0, (a3 + 1)), (0, a2), (0, (x5 + 2))]) (S' := []) (r := 42) rfl (g74202.lt ad42) (g74202.tg ad42) (Nat.le_of_ble_eq_true rfl)) (jOk_le (by omega) (s272o g74202 (by omega) (by omega) (by omega) (by omega) (by omega) (by omega) (by omega) (by omega) (by omega) (by omega) (((jw_ne e74202 (Or.inl (by decide))).trans ((jw_ne e74201 (Or.inl (by decide))).trans ey0))) (by omega) (by omega) (l0 := l0) (b0 := b74138) (by omega) (Iv.kp hI k74202 (fun _ => rfl) (fun _ => rfl) rfl) (Lv.at hL (Ad.step (r' := (x5 + 2)) (Ad.step (r' := (x5 + 1)) H0 (by omega) k74202 (fun _ => rfl) (((jw_ne e74202 (Or.inl (by decide))).trans ((jw_ne e74201 (Or.inl (by decide))).trans ev74146))) (by omega) (by omega) (by omega)) (by omega) k74202 (fun _ => rfl) (((jw_ne e74202 (Or.inl (by decide))).trans ((jw_ne e74201 (Or.inl (by decide))).trans ev74165))) (by omega) (by omega) (by omega)) k74202 (fun _ => rfl) rfl) hb74137)) (by decide) (by decide) (fun w74203 h74203 q74203 => ?_)
                    obtain ⟨q74203, ad74203, ro74203⟩ := q74203
                    obtain ⟨v74204, rfl, lv74204, uv74204, g74203, kk74203⟩ := q74203
                    have ad74203 := ad74203 _ rfl
                    obtain ⟨m74205, em74205, lm74205, um74205, pm74203⟩ := ro74203 _ rfl
                    have k74203 := k74202.tr kk74203 (by decide)
                    show jEv _ _ _ _ _ _ _ (_, [(2, 42), (0, a1), (0, a2), (0, a3), (0, 1), (0, (x5 + 1)), (0, (100 * w0 + w1)), (0, x7), (0, (v74146 - 48)), (0, 1)], [(0, v74204)], _, _, _)
                    refine ev_istore (L' := [(2, 42), (0, a1), (0, a2), (0, a3), (0, 1), (0, v74204), (0, (100 * w0 + w1)), (0, x7), (0, (v74146 - 48)), (0, 1)]) (Nat.le_of_ble_eq_true rfl) rfl ?_
                    refine ev_iload rfl ?_
                    refine ev_ifge f270_148 (fun c74206 => ?_) (fun c74206 => ?_)
                    · refine ev_iinc (w := (x7 + 1)) (L' := [(2, 42), (0, a1), (0, a2), (0, a3), (0, 1), (0, v74204), (0, (100 * w0 + w1)), (0, (x7 + 1)), (0, (v74146 - 48)), (0, 1)]) rfl (by unfold w32; omega) rfl ?_
                      refine ev_aload_n rfl ?_
                      refine ev_iload rfl ?_
                      refine ev_in (d := (d + 1)) (a := 0) (b := 0) (cd' := c264_0) (m := 2) (L0 := [(2, 42), (0, v74204)]) (jcall_v (A := [(0, v74204)]) (S' := []) (r := 42) rfl (g74203.lt ad42) (g74203.tg ad42) (Nat.le_of_ble_eq_true rfl)) (by decide) ml264 pp264 (Nat.le_of_ble_eq_true rfl) rfl (by decide) (by decide) ?_
                      refine ev_iload_n rfl ?_
                      refine ev_aload_n rfl ?_
                      refine g_getv (r := 42) (v := v74140) g74203 ad42 (by decide) ft12_17 (((kk74203.v (by decide)).trans ((jw_ne e74202 (Or.inl (by decide))).trans ((jw_ne e74201 (Or.inl (by decide))).trans ev74140)))) ?_
                      refine ev_icmpge f264_17 (fun c74207 => ?_) (fun c74207 => ?_)
                      · refine ev_iconst ?_
                        refine ev_ret rfl (by decide) (by decide) ?_
                        show jEv _ _ _ _ _ _ _ (_, [(2, 42), (0, a1), (0, a2), (0, a3), (0, 1), (0, v74204), (0, (100 * w0 + w1)), (0, (x7 + 1)), (0, (v74146 - 48)), (0, 1)], [(0, (-1))], _, _, _)
                        refine ev_bipush ?_
                        refine ev_icmpne f270_165 (fun c74208 => ?_) (fun c74208 => absurd c74208 (by omega))
                        refine ev_aload_n rfl ?_
                        refine ev_iload rfl ?_
                        refine ev_in (d := (d + 1)) (a := 0) (b := 0) (cd' := c264_0) (m := 2) (L0 := [(2, 42), (0, v74204)]) (jcall_v (A := [(0, v74204)]) (S' := []) (r := 42) rfl (g74203.lt ad42) (g74203.tg ad42) (Nat.le_of_ble_eq_true rfl)) (by decide) ml264 pp264 (Nat.le_of_ble_eq_true rfl) rfl (by decide) (by decide) ?_
                        refine ev_iload_n rfl ?_
                        refine ev_aload_n rfl ?_
                        refine g_getv (r := 42) (v := v74140) g74203 ad42 (by decide) ft12_17 (((kk74203.v (by decide)).trans ((jw_ne e74202 (Or.inl (by decide))).trans ((jw_ne e74201 (Or.inl (by decide))).trans ev74140)))) ?_
                        refine ev_icmpge f264_17 (fun c74209 => ?_) (fun c74209 => absurd c74209 (by omega))
                        refine ev_iconst ?_
                        refine ev_ret rfl (by decide) (by decide) ?_
                        show jEv _ _ _ _ _ _ _ (_, [(2, 42), (0, a1), (0, a2), (0, a3), (0, 1), (0, v74204), (0, (100 * w0 + w1)), (0, (x7 + 1)), (0, (v74146 - 48)), (0, 1)], [(0, (-1))], _, _, _)
                        refine ev_bipush ?_
                        refine ev_icmpne f270_182 (fun c74210 => ?_) (fun c74210 => absurd c74210 (by omega))
                        refine ev_aload_n rfl ?_
                        refine ev_iload rfl ?_
                        refine ev_in (d := (d + 1)) (a := 0) (b := 0) (cd' := c266_0) (m := 2) (L0 := [(2, 42), (0, v74204)]) (jcall_v (A := [(0, v74204)]) (S' := []) (r := 42) rfl (g74203.lt ad42) (g74203.tg ad42) (Nat.le_of_ble_eq_true rfl)) (by decide) ml266 pp266 (Nat.le_of_ble_eq_true rfl) rfl (by decide) (by decide) ?_
                        refine ev_aload_n rfl ?_
                        refine ev_iload_n rfl ?_
                        refine g_putf (r := 42) g74203 ad42 (by decide) ft12_20 (by decide) (fun e => absurd e nz12_20) rf42_20 (by decide) (by omega) (by omega) (fun h74211 e74211 g74211 => ?_)
                        have k74211 := k74203.wr e74211 rfl
                        refine ev_iconst ?_
                        refine ev_ret rfl (by decide) (by decide) ?_
                        show jEv _ _ _ _ _ _ _ (_, [(2, 42), (0, a1), (0, a2), (0, a3), (0, 1), (0, v74204), (0, (100 * w0 + w1)), (0, (x7 + 1)), (0, (v74146 - 48)), (0, 1)], [(0, (-1))], _, _, _)
                        exact ev_ret rfl (by decide) (by decide) ⟨⟨_, rfl, by omega, by omega, g74211, k74211⟩, fun r hr h0 => by cases hr; exfalso; omega, fun r hr => by cases hr; exact ⟨_, (((jw_ne e74211 (Or.inr (by decide))).trans em74205)), by omega, by omega, (Fr.kp (Fr.kp (Fr.kp (Fr.w (i := (400 * w0 + 4 * w1 + x7)) H2 e74201 (by omega) (by omega)) ((Kp.rf [(52, 0)] _).wr e74202 rfl) (fun _ => rfl) (fun _ => rfl) (fun _ => rfl) (fun _ => rfl)) kk74203 (fun _ => rfl) (fun _ => rfl) (fun _ => rfl) (fun _ => rfl)) ((Kp.rf [(42, 0)] _).wr e74211 rfl) (fun _ => rfl) (fun _ => rfl) (fun _ => rfl) (fun _ => rfl)), fun h0 => by exfalso; omega, fun h0 => by exfalso; omega⟩⟩
                      · refine ev_aload_n rfl ?_
                        refine g_getp (r := 42) (c := 54) g74203 ad42 (by decide) (by decide) rf42_16 ft12_16 ?_
                        refine ev_iload_n rfl ?_
                        refine g_bald g74203 ad54 rt54 (by omega) (by omega) (fun v74212 ev74212 lv74212 uv74212 => ?_)
                        refine ev_goto f264_18 ?_
                        refine ev_ret rfl (by decide) (by decide) ?_
                        show jEv _ _ _ _ _ _ _ (_, [(2, 42), (0, a1), (0, a2), (0, a3), (0, 1), (0, v74204), (0, (100 * w0 + w1)), (0, (x7 + 1)), (0, (v74146 - 48)), (0, 1)], [(0, v74212)], _, _, _)
                        refine ev_bipush ?_
                        refine ev_icmpne f270_165 (fun c74213 => ?_) (fun c74213 => ?_)
                        · refine ev_aload_n rfl ?_
                          refine ev_iload rfl ?_
                          refine ev_in (d := (d + 1)) (a := 0) (b := 0) (cd' := c264_0) (m := 2) (L0 := [(2, 42), (0, v74204)]) (jcall_v (A := [(0, v74204)]) (S' := []) (r := 42) rfl (g74203.lt ad42) (g74203.tg ad42) (Nat.le_of_ble_eq_true rfl)) (by decide) ml264 pp264 (Nat.le_of_ble_eq_true rfl) rfl (by decide) (by decide) ?_
                          refine ev_iload_n rfl ?_
                          refine ev_aload_n rfl ?_
                          refine g_getv (r := 42) (v := v74140) g74203 ad42 (by decide) ft12_17 (((kk74203.v (by decide)).trans ((jw_ne e74202 (Or.inl (by decide))).trans ((jw_ne e74201 (Or.inl (by decide))).trans ev74140)))) ?_
                          refine ev_icmpge f264_17 (fun c74214 => absurd c74214 (by omega)) (fun c74214 => ?_)
                          refine ev_aload_n rfl ?_
                          refine g_getp (r := 42) (c := 54) g74203 ad42 (by decide) (by decide) rf42_16 ft12_16 ?_
                          refine ev_iload_n rfl ?_
                          refine g_baldv (v := v74212) g74203 ad54 (by omega) (by omega) (ev74212) ?_
                          refine ev_goto f264_18 ?_
                          refine ev_ret rfl (by decide) (by decide) ?_
                          show jEv _ _ _ _ _ _ _ (_, [(2, 42), (0, a1), (0, a2), (0, a3), (0, 1), (0, v74204), (0, (100 * w0 + w1)), (0, (x7 + 1)), (0, (v74146 - 48)), (0, 1)], [(0, v74212)], _, _, _)
                          refine ev_bipush ?_
                          refine ev_icmpne f270_182 (fun c74215 => ?_) (fun c74215 => ?_)
                          · refine ev_aload_n rfl ?_
                            refine ev_iload rfl ?_
                            refine ev_in (d := (d + 1)) (a := 0) (b := 0) (cd' := c266_0) (m := 2) (L0 := [(2, 42), (0, v74204)]) (jcall_v (A := [(0, v74204)]) (S' := []) (r := 42) rfl (g74203.lt ad42) (g74203.tg ad42) (Nat.le_of_ble_eq_true rfl)) (by decide) ml266 pp266 (Nat.le_of_ble_eq_true rfl) rfl (by decide) (by decide) ?_
                            refine ev_aload_n rfl ?_
                            refine ev_iload_n rfl ?_
                            refine g_putf (r := 42) g74203 ad42 (by decide) ft12_20 (by decide) (fun e => absurd e nz12_20) rf42_20 (by decide) (by omega) (by omega) (fun h74216 e74216 g74216 => ?_)
                            have k74216 := k74203.wr e74216 rfl
                            refine ev_iconst ?_
                            refine ev_ret rfl (by decide) (by decide) ?_
                            show jEv _ _ _ _ _ _ _ (_, [(2, 42), (0, a1), (0, a2), (0, a3), (0, 1), (0, v74204), (0, (100 * w0 + w1)), (0, (x7 + 1)), (0, (v74146 - 48)), (0, 1)], [(0, (-1))], _, _, _)
                            exact ev_ret rfl (by decide) (by decide) ⟨⟨_, rfl, by omega, by omega, g74216, k74216⟩, fun r hr h0 => by cases hr; exfalso; omega, fun r hr => by cases hr; exact ⟨_, (((jw_ne e74216 (Or.inr (by decide))).trans em74205)), by omega, by omega, (Fr.kp (Fr.kp (Fr.kp (Fr.w (i := (400 * w0 + 4 * w1 + x7)) H2 e74201 (by omega) (by omega)) ((Kp.rf [(52, 0)] _).wr e74202 rfl) (fun _ => rfl) (fun _ => rfl) (fun _ => rfl) (fun _ => rfl)) kk74203 (fun _ => rfl) (fun _ => rfl) (fun _ => rfl) (fun _ => rfl)) ((Kp.rf [(42, 0)] _).wr e74216 rfl) (fun _ => rfl) (fun _ => rfl) (fun _ => rfl) (fun _ => rfl)), fun h0 => by exfalso; omega, fun h0 => by exfalso; omega⟩⟩
                          · refine ev_iload rfl ?_
                            refine ev_iconst ?_
                            refine ev_icmpne f270_189 (fun c74217 => ?_) (fun c74217 => ?_)
                            · refine ev_iinc (w := (v74204 + 1)) (L' := [(2, 42), (0, a1), (0, a2), (0, a3), (0, 1), (0, (v74204 + 1)), (0, (100 * w0 + w1)), (0, (x7 + 1)), (0, (v74146 - 48)), (0, 1)]) rfl (by unfold w32; omega) rfl ?_
                              refine ev_goto f270_45 ?_
                              exact ih _ _ _ _ _ _ g74203 k74203 (by omega) (by omega) (by omega) (by omega) (by omega) (by omega) (by omega) (by omega) (by omega) (by omega) (by omega) (em74205) (by omega) (by omega) (Ad.step (r' := (v74204 + 1)) (Ad.tr (Ad.step (r' := (x5 + 2)) (Ad.step (r' := (x5 + 1)) H0 (by omega) k74202 (fun _ => rfl) (((jw_ne e74202 (Or.inl (by decide))).trans ((jw_ne e74201 (Or.inl (by decide))).trans ev74146))) (by omega) (by omega) (by omega)) (by omega) k74202 (fun _ => rfl) (((jw_ne e74202 (Or.inl (by decide))).trans ((jw_ne e74201 (Or.inl (by decide))).trans ev74165))) (by omega) (by omega) (by omega)) k74202 (fun _ => rfl) (ad74203 (by omega))) (by omega) k74203 (fun _ => rfl) (ev74212) (by omega) (by omega) (by omega)) (Mb.step H1 eb74137 um74205 (by omega)) (Fr.kp (Fr.kp (Fr.w (i := (400 * w0 + 4 * w1 + x7)) H2 e74201 (by omega) (by omega)) ((Kp.rf [(52, 0)] _).wr e74202 rfl) (fun _ => rfl) (fun _ => rfl) (fun _ => rfl) (fun _ => rfl)) kk74203 (fun _ => rfl) (fun _ => rfl) (fun _ => rfl) (fun _ => rfl)) (PC.over (by have := pm74203 (by omega); omega)) (by omega)
                            · refine ev_aload_n rfl ?_
                              refine ev_iload rfl ?_
                              refine ev_in (d := (d + 1)) (a := 0) (b := 0) (cd' := c266_0) (m := 2) (L0 := [(2, 42), (0, v74204)]) (jcall_v (A := [(0, v74204)]) (S' := []) (r := 42) rfl (g74203.lt ad42) (g74203.tg ad42) (Nat.le_of_ble_eq_true rfl)) (by decide) ml266 pp266 (Nat.le_of_ble_eq_true rfl) rfl (by decide) (by decide) ?_
                              refine ev_aload_n rfl ?_
                              refine ev_iload_n rfl ?_
                              refine g_putf (r := 42) g74203 ad42 (by decide) ft12_20 (by decide) (fun e => absurd e nz12_20) rf42_20 (by decide) (by omega) (by omega) (fun h74218 e74218 g74218 => ?_)
                              have k74218 := k74203.wr e74218 rfl
                              refine ev_iconst ?_
                              refine ev_ret rfl (by decide) (by decide) ?_
                              show jEv _ _ _ _ _ _ _ (_, [(2, 42), (0, a1), (0, a2), (0, a3), (0, 1), (0, v74204), (0, (100 * w0 + w1)), (0, (x7 + 1)), (0, (v74146 - 48)), (0, 1)], [(0, (-1))], _, _, _)
                              exact ev_ret rfl (by decide) (by decide) ⟨⟨_, rfl, by omega, by omega, g74218, k74218⟩, fun r hr h0 => by cases hr; exfalso; omega, fun r hr => by cases hr; exact ⟨_, (((jw_ne e74218 (Or.inr (by decide))).trans em74205)), by omega, by omega, (Fr.kp (Fr.kp (Fr.kp (Fr.w (i := (400 * w0 + 4 * w1 + x7)) H2 e74201 (by omega) (by omega)) ((Kp.rf [(52, 0)] _).wr e74202 rfl) (fun _ => rfl) (fun _ => rfl) (fun _ => rfl) (fun _ => rfl)) kk74203 (fun _ => rfl) (fun _ => rfl) (fun _ => rfl) (fun _ => rfl)) ((Kp.rf [(42, 0)] _).wr e74218 rfl) (fun _ => rfl) (fun _ => rfl) (fun _ => rfl) (fun _ => rfl)), fun h0 => by exfalso; omega, fun h0 => by exfalso; omega⟩⟩
                        · refine ev_goto f270_195 ?_
                          refine ev_iload rfl ?_
                          refine ev_iflt f270_209 (fun c74219 => absurd c74219 (by omega)) (fun c74219 => ?_)
                          refine ev_aload_n rfl ?_
                          refine g_getp (r := 42) (c := 50) g74203 ad42 (by decide) (by decide) rf42_12 ft12_12 ?_
                          refine ev_iload rfl ?_
                          refine ev_iload rfl ?_
                          refine ev_iastG (r := 50) (j := ((100 * w0 + w1)).toNat) (g74203.lt ad50) (g74203.tg ad50) (by omega) (by rw [g74203.ln ad50]; omega) (fun h74220 e74220 => ?_)
                          have g74220 := g74203.s50 e74220 (Or.inl (by rw [(((kk74203.v (by decide)).trans ((jw_ne e74202 (Or.inl (by decide))).trans ((jw_ne e74201 (Or.inl (by decide))).trans ((k1.v (by decide)).trans ew0)))))]; omega)) (by omega) (by omega)
                          have k74220 := k74203.wr e74220 rfl
                          refine ev_iload rfl ?_
                          refine ev_iconst ?_
                          refine ev_iadd (r := (v74204 + 1)) (by unfold w32; omega) ?_
                          exact ev_ret rfl (by decide) (by decide) ⟨⟨_, rfl, by omega, by omega, g74220, k74220⟩, fun r hr h0 => by cases hr; exact (Ad.step (r' := (v74204 + 1)) (Ad.tr (Ad.step (r' := (x5 + 2)) (Ad.step (r' := (x5 + 1)) H0 (by omega) k74202 (fun _ => rfl) (((jw_ne e74202 (Or.inl (by decide))).trans ((jw_ne e74201 (Or.inl (by decide))).trans ev74146))) (by omega) (by omega) (by omega)) (by omega) k74202 (fun _ => rfl) (((jw_ne e74202 (Or.inl (by decide))).trans ((jw_ne e74201 (Or.inl (by decide))).trans ev74165))) (by omega) (by omega) (by omega)) k74202 (fun _ => rfl) (ad74203 (by omega))) (by omega) k74220 (fun _ => rfl) (((jw_ne e74220 (Or.inl (by decide))).trans ev74212)) (by omega) (by omega) (by omega)), fun r hr => by cases hr; exact ⟨_, (((jw_ne e74220 (Or.inl (by decide))).trans em74205)), by omega, by omega, (Fr.w (i := (100 * w0 + w1)) (Fr.kp (Fr.kp (Fr.w (i := (400 * w0 + 4 * w1 + x7)) H2 e74201 (by omega) (by omega)) ((Kp.rf [(52, 0)] _).wr e74202 rfl) (fun _ => rfl) (fun _ => rfl) (fun _ => rfl) (fun _ => rfl)) kk74203 (fun _ => rfl) (fun _ => rfl) (fun _ => rfl) (fun _ => rfl)) e74220 (by omega) (by omega)), fun h0 => by have := pm74203 (by omega); omega, fun h0 hm => by exfalso; have := pm74203 (by omega); omega⟩⟩
                    · refine ev_iconst ?_
                      exact ev_ret rfl (by decide) (by decide) ⟨⟨_, rfl, by omega, by omega, g74203, k74203⟩, fun r hr h0 => by cases hr; exfalso; omega, fun r hr => by cases hr; exact ⟨_, (em74205), by omega, by omega, (Fr.kp (Fr.kp (Fr.w (i := (400 * w0 + 4 * w1 + x7)) H2 e74201 (by omega) (by omega)) ((Kp.rf [(52, 0)] _).wr e74202 rfl) (fun _ => rfl) (fun _ => rfl) (fun _ => rfl) (fun _ => rfl)) kk74203 (fun _ => rfl) (fun _ => rfl) (fun _ => rfl) (fun _ => rfl)), fun h0 => by exfalso; omega, fun h0 => by exfalso; omega⟩⟩
                · refine ev_aload_n rfl ?_
                  refine ev_iload rfl ?_
                  refine ev_in (d := (d + 1)) (a := 0) (b := 0) (cd' := c266_0) (m := 2) (L0 := [(2, 42), (0, (x5 + 1))]) (jcall_v (A := [(0, (x5 + 1))]) (S' := []) (r := 42) rfl (g1.lt ad42) (g1.tg ad42) (Nat.le_of_ble_eq_true rfl)) (by decide) ml266 pp266 (Nat.le_of_ble_eq_true rfl) rfl (by decide) (by decide) ?_
                  refine ev_aload_n rfl ?_
                  refine ev_iload_n rfl ?_
                  refine g_putf (r := 42) g1 ad42 (by decide) ft12_20 (by decide) (fun e => absurd e nz12_20) rf42_20 (by decide) (by omega) (by omega) (fun h74221 e74221 g74221 => ?_)
                  have k74221 := k1.wr e74221 rfl
                  refine ev_iconst ?_
                  refine ev_ret rfl (by decide) (by decide) ?_
                  show jEv _ _ _ _ _ _ _ (_, [(2, 42), (0, a1), (0, a2), (0, a3), (0, 1), (0, (x5 + 1)), (0, (100 * w0 + w1)), (0, x7), (0, (v74146 - 48)), (0, 1)], [(0, (-1))], _, _, _)
                  exact ev_ret rfl (by decide) (by decide) ⟨⟨_, rfl, by omega, by omega, g74221, k74221⟩, fun r hr h0 => by cases hr; exfalso; omega, fun r hr => by cases hr; exact ⟨_, (((jw_ne e74221 (Or.inr (by decide))).trans ey0)), by omega, by omega, (Fr.kp H2 ((Kp.rf [(42, 0)] _).wr e74221 rfl) (fun _ => rfl) (fun _ => rfl) (fun _ => rfl) (fun _ => rfl)), fun h0 => by exfalso; omega, fun h0 => by exfalso; omega⟩⟩
              · refine ev_iconst ?_
                refine ev_goto f242_15 ?_
                refine ev_ret rfl (by decide) (by decide) ?_
                show jEv _ _ _ _ _ _ _ (_, [(2, 42), (0, (x5 + 1))], [(0, 1)], _, _, _)
                refine ev_ret rfl (by decide) (by decide) ?_
                show jEv _ _ _ _ _ _ _ (_, [(2, 42), (0, a1), (0, a2), (0, a3), (0, 1), (0, (x5 + 1)), (0, (100 * w0 + w1)), (0, x7), (0, (v74146 - 48)), (0, 1)], [(0, 1)], _, _, _)
                refine ev_ifeq f270_92 (fun c74222 => absurd c74222 (by omega)) (fun c74222 => ?_)
                refine ev_bipush ?_
                refine ev_iload rfl ?_
                refine ev_imul (r := (10 * v74146 - 480)) (by unfold w32; omega) ?_
                refine ev_aload_n rfl ?_
                refine ev_iload rfl ?_
                refine ev_in (d := (d + 1)) (a := 0) (b := 0) (cd' := c264_0) (m := 2) (L0 := [(2, 42), (0, (x5 + 1))]) (jcall_v (A := [(0, (x5 + 1))]) (S' := [(0, (10 * v74146 - 480))]) (r := 42) rfl (g1.lt ad42) (g1.tg ad42) (Nat.le_of_ble_eq_true rfl)) (by decide) ml264 pp264 (Nat.le_of_ble_eq_true rfl) rfl (by decide) (by decide) ?_
                refine ev_iload_n rfl ?_
                refine ev_aload_n rfl ?_
                refine g_getv (r := 42) (v := v74140) g1 ad42 (by decide) ft12_17 (ev74140) ?_
                refine ev_icmpge f264_17 (fun c74223 => absurd c74223 (by omega)) (fun c74223 => ?_)
                refine ev_aload_n rfl ?_
                refine g_getp (r := 42) (c := 54) g1 ad42 (by decide) (by decide) rf42_16 ft12_16 ?_
                refine ev_iload_n rfl ?_
                refine g_baldv (v := v74165) g1 ad54 (by omega) (by omega) (ev74165) ?_
                refine ev_goto f264_18 ?_
                refine ev_ret rfl (by decide) (by decide) ?_
                show jEv _ _ _ _ _ _ _ (_, [(2, 42), (0, a1), (0, a2), (0, a3), (0, 1), (0, (x5 + 1)), (0, (100 * w0 + w1)), (0, x7), (0, (v74146 - 48)), (0, 1)], [(0, v74165), (0, (10 * v74146 - 480))], _, _, _)
                refine ev_iadd (r := (10 * v74146 + v74165 - 480)) (by unfold w32; omega) ?_
                refine ev_bipush ?_
                refine ev_isub (r := (10 * v74146 + v74165 - 528)) (by unfold w32; omega) ?_
                refine ev_istore (L' := [(2, 42), (0, a1), (0, a2), (0, a3), (0, 1), (0, (x5 + 1)), (0, (100 * w0 + w1)), (0, x7), (0, (10 * v74146 + v74165 - 528)), (0, 1)]) (Nat.le_of_ble_eq_true rfl) rfl ?_
                refine ev_iinc (w := 2) (L' := [(2, 42), (0, a1), (0, a2), (0, a3), (0, 1), (0, (x5 + 1)), (0, (100 * w0 + w1)), (0, x7), (0, (10 * v74146 + v74165 - 528)), (0, 2)]) rfl (by decide) rfl ?_
                refine ev_iinc (w := (x5 + 2)) (L' := [(2, 42), (0, a1), (0, a2), (0, a3), (0, 1), (0, (x5 + 2)), (0, (100 * w0 + w1)), (0, x7), (0, (10 * v74146 + v74165 - 528)), (0, 2)]) rfl (by unfold w32; omega) rfl ?_
                refine ev_goto f270_51 ?_
                refine ev_iload rfl ?_
                refine ev_iconst ?_
                refine ev_icmpge f270_92 (fun c74224 => ?_) (fun c74224 => absurd c74224 (by omega))
                refine ev_iload rfl ?_
                refine ev_ifeq f270_108 (fun c74225 => absurd c74225 (by omega)) (fun c74225 => ?_)
                refine ev_aload_n rfl ?_
                refine ev_iload rfl ?_
                refine ev_in (d := (d + 1)) (a := 0) (b := 0) (cd' := c264_0) (m := 2) (L0 := [(2, 42), (0, (x5 + 2))]) (jcall_v (A := [(0, (x5 + 2))]) (S' := []) (r := 42) rfl (g1.lt ad42) (g1.tg ad42) (Nat.le_of_ble_eq_true rfl)) (by decide) ml264 pp264 (Nat.le_of_ble_eq_true rfl) rfl (by decide) (by decide) ?_
                refine ev_iload_n rfl ?_
                refine ev_aload_n rfl ?_
                refine g_getv (r := 42) (v := v74140) g1 ad42 (by decide) ft12_17 (ev74140) ?_
                refine ev_icmpge f264_17 (fun c74226 => ?_) (fun c74226 => ?_)
                · refine ev_iconst ?_
                  refine ev_ret rfl (by decide) (by decide) ?_
                  show jEv _ _ _ _ _ _ _ (_, [(2, 42), (0, a1), (0, a2), (0, a3), (0, 1), (0, (x5 + 2)), (0, (100 * w0 + w1)), (0, x7), (0, (10 * v74146 + v74165 - 528)), (0, 2)], [(0, (-1))], _, _, _)
                  refine ev_bipush ?_
                  refine ev_icmpeq f270_115 (fun c74227 => absurd c74227 (by omega)) (fun c74227 => ?_)
                  refine ev_aload_n rfl ?_
                  refine ev_iload rfl ?_
                  refine ev_in (d := (d + 1)) (a := 0) (b := 0) (cd' := c266_0) (m := 2) (L0 := [(2, 42), (0, (x5 + 2))]) (jcall_v (A := [(0, (x5 + 2))]) (S' := []) (r := 42) rfl (g1.lt ad42) (g1.tg ad42) (Nat.le_of_ble_eq_true rfl)) (by decide) ml266 pp266 (Nat.le_of_ble_eq_true rfl) rfl (by decide) (by decide) ?_
                  refine ev_aload_n rfl ?_
                  refine ev_iload_n rfl ?_
                  refine g_putf (r := 42) g1 ad42 (by decide) ft12_20 (by decide) (fun e => absurd e nz12_20) rf42_20 (by decide) (by omega) (by omega) (fun h74228 e74228 g74228 => ?_)
                  have k74228 := k1.wr e74228 rfl
                  refine ev_iconst ?_
                  refine ev_ret rfl (by decide) (by decide) ?_
                  show jEv _ _ _ _ _ _ _ (_, [(2, 42), (0, a1), (0, a2), (0, a3), (0, 1), (0, (x5 + 2)), (0, (100 * w0 + w1)), (0, x7), (0, (10 * v74146 + v74165 - 528)), (0, 2)], [(0, (-1))], _, _, _)
                  exact ev_ret rfl (by decide) (by decide) ⟨⟨_, rfl, by omega, by omega, g74228, k74228⟩, fun r hr h0 => by cases hr; exfalso; omega, fun r hr => by cases hr; exact ⟨_, (((jw_ne e74228 (Or.inr (by decide))).trans ey0)), by omega, by omega, (Fr.kp H2 ((Kp.rf [(42, 0)] _).wr e74228 rfl) (fun _ => rfl) (fun _ => rfl) (fun _ => rfl) (fun _ => rfl)), fun h0 => by exfalso; omega, fun h0 => by exfalso; omega⟩⟩
                · refine ev_aload_n rfl ?_
                  refine g_getp (r := 42) (c := 54) g1 ad42 (by decide) (by decide) rf42_16 ft12_16 ?_
                  refine ev_iload_n rfl ?_
                  refine g_bald g1 ad54 rt54 (by omega) (by omega) (fun v74229 ev74229 lv74229 uv74229 => ?_)
                  refine ev_goto f264_18 ?_
                  refine ev_ret rfl (by decide) (by decide) ?_
                  show jEv _ _ _ _ _ _ _ (_, [(2, 42), (0, a1), (0, a2), (0, a3), (0, 1), (0, (x5 + 2)), (0, (100 * w0 + w1)), (0, x7), (0, (10 * v74146 + v74165 - 528)), (0, 2)], [(0, v74229)], _, _, _)
                  refine ev_bipush ?_
                  refine ev_icmpeq f270_115 (fun c74230 => ?_) (fun c74230 => ?_)
                  · rcases Int.lt_or_le (y0) 100 with c74231 | c74231
                    · refine ev_aload_n rfl ?_
                      refine ev_iload rfl ?_
                      refine ev_iload rfl ?_
                      refine ev_iload rfl ?_
                      refine ev_in (d := (d + 1)) (a := 0) (b := 0) (cd' := c268_0) (m := 4) (L0 := [(2, 42), (0, (100 * w0 + w1)), (0, x7), (0, (10 * v74146 + v74165 - 528))]) (jcall_v (A := [(0, (10 * v74146 + v74165 - 528)), (0, x7), (0, (100 * w0 + w1))]) (S' := []) (r := 42) rfl (g1.lt ad42) (g1.tg ad42) (Nat.le_of_ble_eq_true rfl)) (by decide) ml268 pp268 (Nat.le_of_ble_eq_true rfl) rfl (by decide) (by decide) ?_
                      refine ev_iload_n rfl ?_
                      refine ev_ifge f268_5 (fun c74232 => ?_) (fun c74232 => absurd c74232 (by omega))
                      refine ev_aload_n rfl ?_
                      refine g_getp (r := 42) (c := 51) g1 ad42 (by decide) (by decide) rf42_13 ft12_13 ?_
                      refine ev_iconst ?_
                      refine ev_iload_n rfl ?_
                      refine ev_imul (r := (400 * w0 + 4 * w1)) (by unfold w32; omega) ?_
                      refine ev_iload_n rfl ?_
                      refine ev_iadd (r := (400 * w0 + 4 * w1 + x7)) (by unfold w32; omega) ?_
                      refine ev_aload_n rfl ?_
                      refine g_getv (r := 42) (v := y0) g1 ad42 (by decide) ft12_21 (ey0) ?_
                      refine ev_i2b (r := y0) (by unfold w8; omega) ?_
                      refine ev_bastG (r := 51) (j := ((400 * w0 + 4 * w1 + x7)).toNat) (w := y0) (g1.lt ad51) (g1.tg ad51) (by omega) (by rw [g1.ln ad51]; omega) (by unfold w8; omega) (fun h74233 e74233 => ?_)
                      have g74233 := g1.s51 e74233 (by rw [(((k1.v (by decide)).trans ew0))]; omega) (by omega) (by omega)
                      have k74233 := k1.wr e74233 rfl
                      refine ev_aload_n rfl ?_
                      refine g_getp (r := 42) (c := 52) g74233 ad42 (by decide) (by decide) rf42_14 ft12_14 ?_
                      refine ev_iconst ?_
                      refine ev_iload_n rfl ?_
                      refine ev_imul (r := (400 * w0 + 4 * w1)) (by unfold w32; omega) ?_
                      refine ev_iload_n rfl ?_
                      refine ev_iadd (r := (400 * w0 + 4 * w1 + x7)) (by unfold w32; omega) ?_
                      refine ev_iload_n rfl ?_
                      refine g_iast g74233 ad52 rt52 (fun _ => rfl) (by omega) (by omega) (by omega) (by omega) (fun h74234 e74234 g74234 => ?_)
                      have k74234 := k74233.wr e74234 rfl
                      refine ev_ret rfl (by decide) (by decide) ?_
                      show jEv _ _ _ _ _ _ _ (_, [(2, 42), (0, a1), (0, a2), (0, a3), (0, 1), (0, (x5 + 2)), (0, (100 * w0 + w1)), (0, x7), (0, (10 * v74146 + v74165 - 528)), (0, 2)], [], _, _, _)
                      refine ev_aload_n rfl ?_
                      refine ev_iload rfl ?_
                      refine ev_iconst ?_
                      refine ev_iadd (r := (x5 + 3)) (by unfold w32; omega) ?_
                      refine ev_iload_n rfl ?_
                      refine ev_iload_n rfl ?_
                      refine ev_iconst ?_
                      refine ev_iadd (r := (a3 + 1)) (by unfold w32; omega) ?_
                      refine ev_iload rfl ?_
                      refine ev_call (jcall_v (A := [(0, 1), (0, (a3 + 1)), (0, a2), (0, (x5 + 3))]) (S' := []) (r := 42) rfl (g74234.lt ad42) (g74234.tg ad42) (Nat.le_of_ble_eq_true rfl)) (jOk_le (by omega) (rih g74234 (by omega) (by omega) (by omega) (by omega) (by omega) (by omega) (by omega) (by omega) (by omega) (by omega) (((jw_ne e74234 (Or.inl (by decide))).trans ((jw_ne e74233 (Or.inl (by decide))).trans ((k1.v (by decide)).trans ew0)))) (by omega) (by omega) (((jw_ne e74234 (Or.inl (by decide))).trans ((jw_ne e74233 (Or.inl (by decide))).trans ey0))) (by omega) (by omega) (l0 := l0) (b0 := b74138) (by omega) (Iv.kp hI k74234 (fun _ => rfl) (fun _ => rfl) rfl) (Lv.at hL (Ad.step (r' := (x5 + 3)) (Ad.step (r' := (x5 + 2)) (Ad.step (r' := (x5 + 1)) H0 (by omega) k74234 (fun _ => rfl) (((jw_ne e74234 (Or.inl (by decide))).trans ((jw_ne e74233 (Or.inl (by decide))).trans ev74146))) (by omega) (by omega) (by omega)) (by omega) k74234 (fun _ => rfl) (((jw_ne e74234 (Or.inl (by decide))).trans ((jw_ne e74233 (Or.inl (by decide))).trans ev74165))) (by omega) (by omega) (by omega)) (by omega) k74234 (fun _ => rfl) (((jw_ne e74234 (Or.inl (by decide))).trans ((jw_ne e74233 (Or.inl (by decide))).trans ev74229))) (by omega) (by omega) (by omega)) k74234 (fun _ => rfl) rfl) hb74137 hS (by omega))) (by decide) (by decide) (fun w74235 h74235 q74235 => ?_)
                      obtain ⟨q74235, ad74235, ro74235⟩ := q74235
                      obtain ⟨v74236, rfl, lv74236, uv74236, g74235, kk74235⟩ := q74235
                      have ad74235 := ad74235 _ rfl
                      obtain ⟨m74237, em74237, lm74237, um74237, fr74235, pm74235, tr74235⟩ := ro74235 _ rfl
                      have k74235 := k74234.tr kk74235 (by decide)
                      show jEv _ _ _ _ _ _ _ (_, [(2, 42), (0, a1), (0, a2), (0, a3), (0, 1), (0, (x5 + 2)), (0, (100 * w0 + w1)), (0, x7), (0, (10 * v74146 + v74165 - 528)), (0, 2)], [(0, v74236)], _, _, _)
                      refine ev_istore (L' := [(2, 42), (0, a1), (0, a2), (0, a3), (0, 1), (0, v74236), (0, (100 * w0 + w1)), (0, x7), (0, (10 * v74146 + v74165 - 528)), (0, 2)]) (Nat.le_of_ble_eq_true rfl) rfl ?_
                      refine ev_iload rfl ?_
                      refine ev_ifge f270_148 (fun c74238 => ?_) (fun c74238 => ?_)
                      · refine ev_iinc (w := (x7 + 1)) (L' := [(2, 42), (0, a1), (0, a2), (0, a3), (0, 1), (0, v74236), (0, (100 * w0 + w1)), (0, (x7 + 1)), (0, (10 * v74146 + v74165 - 528)), (0, 2)]) rfl (by unfold w32; omega) rfl ?_
                        refine ev_aload_n rfl ?_
                        refine ev_iload rfl ?_
                        refine ev_in (d := (d + 1)) (a := 0) (b := 0) (cd' := c264_0) (m := 2) (L0 := [(2, 42), (0, v74236)]) (jcall_v (A := [(0, v74236)]) (S' := []) (r := 42) rfl (g74235.lt ad42) (g74235.tg ad42) (Nat.le_of_ble_eq_true rfl)) (by decide) ml264 pp264 (Nat.le_of_ble_eq_true rfl) rfl (by decide) (by decide) ?_
                        refine ev_iload_n rfl ?_
                        refine ev_aload_n rfl ?_
                        refine g_getv (r := 42) (v := v74140) g74235 ad42 (by decide) ft12_17 (((kk74235.v (by decide)).trans ((jw_ne e74234 (Or.inl (by decide))).trans ((jw_ne e74233 (Or.inl (by decide))).trans ev74140)))) ?_
                        refine ev_icmpge f264_17 (fun c74239 => ?_) (fun c74239 => ?_)
                        · refine ev_iconst ?_
                          refine ev_ret rfl (by decide) (by decide) ?_
                          show jEv _ _ _ _ _ _ _ (_, [(2, 42), (0, a1), (0, a2), (0, a3), (0, 1), (0, v74236), (0, (100 * w0 + w1)), (0, (x7 + 1)), (0, (10 * v74146 + v74165 - 528)), (0, 2)], [(0, (-1))], _, _, _)
                          refine ev_bipush ?_
                          refine ev_icmpne f270_165 (fun c74240 => ?_) (fun c74240 => absurd c74240 (by omega))
                          refine ev_aload_n rfl ?_
                          refine ev_iload rfl ?_
                          refine ev_in (d := (d + 1)) (a := 0) (b := 0) (cd' := c264_0) (m := 2) (L0 := [(2, 42), (0, v74236)]) (jcall_v (A := [(0, v74236)]) (S' := []) (r := 42) rfl (g74235.lt ad42) (g74235.tg ad42) (Nat.le_of_ble_eq_true rfl)) (by decide) ml264 pp264 (Nat.le_of_ble_eq_true rfl) rfl (by decide) (by decide) ?_
                          refine ev_iload_n rfl ?_
                          refine ev_aload_n rfl ?_
                          refine g_getv (r := 42) (v := v74140) g74235 ad42 (by decide) ft12_17 (((kk74235.v (by decide)).trans ((jw_ne e74234 (Or.inl (by decide))).trans ((jw_ne e74233 (Or.inl (by decide))).trans ev74140)))) ?_
                          refine ev_icmpge f264_17 (fun c74241 => ?_) (fun c74241 => absurd c74241 (by omega))
                          refine ev_iconst ?_
                          refine ev_ret rfl (by decide) (by decide) ?_
                          show jEv _ _ _ _ _ _ _ (_, [(2, 42), (0, a1), (0, a2), (0, a3), (0, 1), (0, v74236), (0, (100 * w0 + w1)), (0, (x7 + 1)), (0, (10 * v74146 + v74165 - 528)), (0, 2)], [(0, (-1))], _, _, _)
                          refine ev_bipush ?_
                          refine ev_icmpne f270_182 (fun c74242 => ?_) (fun c74242 => absurd c74242 (by omega))
                          refine ev_aload_n rfl ?_
                          refine ev_iload rfl ?_
                          refine ev_in (d := (d + 1)) (a := 0) (b := 0) (cd' := c266_0) (m := 2) (L0 := [(2, 42), (0, v74236)]) (jcall_v (A := [(0, v74236)]) (S' := []) (r := 42) rfl (g74235.lt ad42) (g74235.tg ad42) (Nat.le_of_ble_eq_true rfl)) (by decide) ml266 pp266 (Nat.le_of_ble_eq_true rfl) rfl (by decide) (by decide) ?_
                          refine ev_aload_n rfl ?_
                          refine ev_iload_n rfl ?_
                          refine g_putf (r := 42) g74235 ad42 (by decide) ft12_20 (by decide) (fun e => absurd e nz12_20) rf42_20 (by decide) (by omega) (by omega) (fun h74243 e74243 g74243 => ?_)
                          have k74243 := k74235.wr e74243 rfl
                          refine ev_iconst ?_
                          refine ev_ret rfl (by decide) (by decide) ?_
                          show jEv _ _ _ _ _ _ _ (_, [(2, 42), (0, a1), (0, a2), (0, a3), (0, 1), (0, v74236), (0, (100 * w0 + w1)), (0, (x7 + 1)), (0, (10 * v74146 + v74165 - 528)), (0, 2)], [(0, (-1))], _, _, _)
                          exact ev_ret rfl (by decide) (by decide) ⟨⟨_, rfl, by omega, by omega, g74243, k74243⟩, fun r hr h0 => by cases hr; exfalso; omega, fun r hr => by cases hr; exact ⟨_, (((jw_ne e74243 (Or.inr (by decide))).trans em74237)), by omega, by omega, (Fr.kp (Fr.tr (Fr.kp (Fr.w (i := (400 * w0 + 4 * w1 + x7)) H2 e74233 (by omega) (by omega)) ((Kp.rf [(52, 0)] _).wr e74234 rfl) (fun _ => rfl) (fun _ => rfl) (fun _ => rfl) (fun _ => rfl)) fr74235 (by omega)) ((Kp.rf [(42, 0)] _).wr e74243 rfl) (fun _ => rfl) (fun _ => rfl) (fun _ => rfl) (fun _ => rfl)), fun h0 => by exfalso; omega, fun h0 => by exfalso; omega⟩⟩
                        · refine ev_aload_n rfl ?_
                          refine g_getp (r := 42) (c := 54) g74235 ad42 (by decide) (by decide) rf42_16 ft12_16 ?_
                          refine ev_iload_n rfl ?_
                          refine g_bald g74235 ad54 rt54 (by omega) (by omega) (fun v74244 ev74244 lv74244 uv74244 => ?_)
                          refine ev_goto f264_18 ?_
                          refine ev_ret rfl (by decide) (by decide) ?_
                          show jEv _ _ _ _ _ _ _ (_, [(2, 42), (0, a1), (0, a2), (0, a3), (0, 1), (0, v74236), (0, (100 * w0 + w1)), (0, (x7 + 1)), (0, (10 * v74146 + v74165 - 528)), (0, 2)], [(0, v74244)], _, _, _)
                          refine ev_bipush ?_
                          refine ev_icmpne f270_165 (fun c74245 => ?_) (fun c74245 => ?_)
                          · refine ev_aload_n rfl ?_
                            refine ev_iload rfl ?_
                            refine ev_in (d := (d + 1)) (a := 0) (b := 0) (cd' := c264_0) (m := 2) (L0 := [(2, 42), (0, v74236)]) (jcall_v (A := [(0, v74236)]) (S' := []) (r := 42) rfl (g74235.lt ad42) (g74235.tg ad42) (Nat.le_of_ble_eq_true rfl)) (by decide) ml264 pp264 (Nat.le_of_ble_eq_true rfl) rfl (by decide) (by decide) ?_
                            refine ev_iload_n rfl ?_
                            refine ev_aload_n rfl ?_
                            refine g_getv (r := 42) (v := v74140) g74235 ad42 (by decide) ft12_17 (((kk74235.v (by decide)).trans ((jw_ne e74234 (Or.inl (by decide))).trans ((jw_ne e74233 (Or.inl (by decide))).trans ev74140)))) ?_
                            refine ev_icmpge f264_17 (fun c74246 => absurd c74246 (by omega)) (fun c74246 => ?_)
                            refine ev_aload_n rfl ?_
                            refine g_getp (r := 42) (c := 54) g74235 ad42 (by decide) (by decide) rf42_16 ft12_16 ?_
                            refine ev_iload_n rfl ?_
                            refine g_baldv (v := v74244) g74235 ad54 (by omega) (by omega) (ev74244) ?_
                            refine ev_goto f264_18 ?_
                            refine ev_ret rfl (by decide) (by decide) ?_
                            show jEv _ _ _ _ _ _ _ (_, [(2, 42), (0, a1), (0, a2), (0, a3), (0, 1), (0, v74236), (0, (100 * w0 + w1)), (0, (x7 + 1)), (0, (10 * v74146 + v74165 - 528)), (0, 2)], [(0, v74244)], _, _, _)
                            refine ev_bipush ?_
                            refine ev_icmpne f270_182 (fun c74247 => ?_) (fun c74247 => ?_)
                            · refine ev_aload_n rfl ?_
                              refine ev_iload rfl ?_
                              refine ev_in (d := (d + 1)) (a := 0) (b := 0) (cd' := c266_0) (m := 2) (L0 := [(2, 42), (0, v74236)]) (jcall_v (A := [(0, v74236)]) (S' := []) (r := 42) rfl (g74235.lt ad42) (g74235.tg ad42) (Nat.le_of_ble_eq_true rfl)) (by decide) ml266 pp266 (Nat.le_of_ble_eq_true rfl) rfl (by decide) (by decide) ?_
                              refine ev_aload_n rfl ?_
                              refine ev_iload_n rfl ?_
                              refine g_putf (r := 42) g74235 ad42 (by decide) ft12_20 (by decide) (fun e => absurd e nz12_20) rf42_20 (by decide) (by omega) (by omega) (fun h74248 e74248 g74248 => ?_)
                              have k74248 := k74235.wr e74248 rfl
                              refine ev_iconst ?_
                              refine ev_ret rfl (by decide) (by decide) ?_
                              show jEv _ _ _ _ _ _ _ (_, [(2, 42), (0, a1), (0, a2), (0, a3), (0, 1), (0, v74236), (0, (100 * w0 + w1)), (0, (x7 + 1)), (0, (10 * v74146 + v74165 - 528)), (0, 2)], [(0, (-1))], _, _, _)
                              exact ev_ret rfl (by decide) (by decide) ⟨⟨_, rfl, by omega, by omega, g74248, k74248⟩, fun r hr h0 => by cases hr; exfalso; omega, fun r hr => by cases hr; exact ⟨_, (((jw_ne e74248 (Or.inr (by decide))).trans em74237)), by omega, by omega, (Fr.kp (Fr.tr (Fr.kp (Fr.w (i := (400 * w0 + 4 * w1 + x7)) H2 e74233 (by omega) (by omega)) ((Kp.rf [(52, 0)] _).wr e74234 rfl) (fun _ => rfl) (fun _ => rfl) (fun _ => rfl) (fun _ => rfl)) fr74235 (by omega)) ((Kp.rf [(42, 0)] _).wr e74248 rfl) (fun _ => rfl) (fun _ => rfl) (fun _ => rfl) (fun _ => rfl)), fun h0 => by exfalso; omega, fun h0 => by exfalso; omega⟩⟩
                            · refine ev_iload rfl ?_
                              refine ev_iconst ?_
                              refine ev_icmpne f270_189 (fun c74249 => ?_) (fun c74249 => ?_)
                              · refine ev_iinc (w := (v74236 + 1)) (L' := [(2, 42), (0, a1), (0, a2), (0, a3), (0, 1), (0, (v74236 + 1)), (0, (100 * w0 + w1)), (0, (x7 + 1)), (0, (10 * v74146 + v74165 - 528)), (0, 2)]) rfl (by unfold w32; omega) rfl ?_
                                refine ev_goto f270_45 ?_
                                exact ih _ _ _ _ _ _ g74235 k74235 (by omega) (by omega) (by omega) (by omega) (by omega) (by omega) (by omega) (by omega) (by omega) (by omega) (by omega) (em74237) (by omega) (by omega) (Ad.step (r' := (v74236 + 1)) (Ad.tr (Ad.step (r' := (x5 + 3)) (Ad.step (r' := (x5 + 2)) (Ad.step (r' := (x5 + 1)) H0 (by omega) k74234 (fun _ => rfl) (((jw_ne e74234 (Or.inl (by decide))).trans ((jw_ne e74233 (Or.inl (by decide))).trans ev74146))) (by omega) (by omega) (by omega)) (by omega) k74234 (fun _ => rfl) (((jw_ne e74234 (Or.inl (by decide))).trans ((jw_ne e74233 (Or.inl (by decide))).trans ev74165))) (by omega) (by omega) (by omega)) (by omega) k74234 (fun _ => rfl) (((jw_ne e74234 (Or.inl (by decide))).trans ((jw_ne e74233 (Or.inl (by decide))).trans ev74229))) (by omega) (by omega) (by omega)) k74234 (fun _ => rfl) (ad74235 (by omega))) (by omega) k74235 (fun _ => rfl) (ev74244) (by omega) (by omega) (by omega)) (Mb.step H1 eb74137 um74237 (by omega)) (Fr.tr (Fr.kp (Fr.w (i := (400 * w0 + 4 * w1 + x7)) H2 e74233 (by omega) (by omega)) ((Kp.rf [(52, 0)] _).wr e74234 rfl) (fun _ => rfl) (fun _ => rfl) (fun _ => rfl) (fun _ => rfl)) fr74235 (by omega)) (PC.step (i := (100 * w0 + w1)) (j := (400 * w0 + 4 * w1 + x7)) H3 (by omega) (by omega) (by omega) (by omega) (by omega) (by omega) (by omega) e74233 ((Kp.rf [(52, 0)] _).wr e74234 rfl) (fun _ => rfl) (fun _ => rfl) (fun _ => rfl) (fun _ => rfl) rfl (fun _ => rfl) kk74235 rfl (fun _ => rfl) fr74235 lm74237 (tr74235 (by omega)) (by omega)) (by omega)
                              · refine ev_aload_n rfl ?_
                                refine ev_iload rfl ?_
                                refine ev_in (d := (d + 1)) (a := 0) (b := 0) (cd' := c266_0) (m := 2) (L0 := [(2, 42), (0, v74236)]) (jcall_v (A := [(0, v74236)]) (S' := []) (r := 42) rfl (g74235.lt ad42) (g74235.tg ad42) (Nat.le_of_ble_eq_true rfl)) (by decide) ml266 pp266 (Nat.le_of_ble_eq_true rfl) rfl (by decide) (by decide) ?_
                                refine ev_aload_n rfl ?_
                                refine ev_iload_n rfl ?_
                                refine g_putf (r := 42) g74235 ad42 (by decide) ft12_20 (by decide) (fun e => absurd e nz12_20) rf42_20 (by decide) (by omega) (by omega) (fun h74250 e74250 g74250 => ?_)
                                have k74250 := k74235.wr e74250 rfl
                                refine ev_iconst ?_
                                refine ev_ret rfl (by decide) (by decide) ?_
                                show jEv _ _ _ _ _ _ _ (_, [(2, 42), (0, a1), (0, a2), (0, a3), (0, 1), (0, v74236), (0, (100 * w0 + w1)), (0, (x7 + 1)), (0, (10 * v74146 + v74165 - 528)), (0, 2)], [(0, (-1))], _, _, _)
                                exact ev_ret rfl (by decide) (by decide) ⟨⟨_, rfl, by omega, by omega, g74250, k74250⟩, fun r hr h0 => by cases hr; exfalso; omega, fun r hr => by cases hr; exact ⟨_, (((jw_ne e74250 (Or.inr (by decide))).trans em74237)), by omega, by omega, (Fr.kp (Fr.tr (Fr.kp (Fr.w (i := (400 * w0 + 4 * w1 + x7)) H2 e74233 (by omega) (by omega)) ((Kp.rf [(52, 0)] _).wr e74234 rfl) (fun _ => rfl) (fun _ => rfl) (fun _ => rfl) (fun _ => rfl)) fr74235 (by omega)) ((Kp.rf [(42, 0)] _).wr e74250 rfl) (fun _ => rfl) (fun _ => rfl) (fun _ => rfl) (fun _ => rfl)), fun h0 => by exfalso; omega, fun h0 => by exfalso; omega⟩⟩
                          · refine ev_goto f270_195 ?_
                            refine ev_iload rfl ?_
                            refine ev_iflt f270_209 (fun c74251 => absurd c74251 (by omega)) (fun c74251 => ?_)
                            refine ev_aload_n rfl ?_
                            refine g_getp (r := 42) (c := 50) g74235 ad42 (by decide) (by decide) rf42_12 ft12_12 ?_
                            refine ev_iload rfl ?_
                            refine ev_iload rfl ?_
                            refine ev_iastG (r := 50) (j := ((100 * w0 + w1)).toNat) (g74235.lt ad50) (g74235.tg ad50) (by omega) (by rw [g74235.ln ad50]; omega) (fun h74252 e74252 => ?_)
                            have g74252 := g74235.s50 e74252 (Or.inl (by rw [(((kk74235.v (by decide)).trans ((jw_ne e74234 (Or.inl (by decide))).trans ((jw_ne e74233 (Or.inl (by decide))).trans ((k1.v (by decide)).trans ew0)))))]; omega)) (by omega) (by omega)
                            have k74252 := k74235.wr e74252 rfl
                            refine ev_iload rfl ?_
                            refine ev_iconst ?_
                            refine ev_iadd (r := (v74236 + 1)) (by unfold w32; omega) ?_
                            exact ev_ret rfl (by decide) (by decide) ⟨⟨_, rfl, by omega, by omega, g74252, k74252⟩, fun r hr h0 => by cases hr; exact (Ad.step (r' := (v74236 + 1)) (Ad.tr (Ad.step (r' := (x5 + 3)) (Ad.step (r' := (x5 + 2)) (Ad.step (r' := (x5 + 1)) H0 (by omega) k74234 (fun _ => rfl) (((jw_ne e74234 (Or.inl (by decide))).trans ((jw_ne e74233 (Or.inl (by decide))).trans ev74146))) (by omega) (by omega) (by omega)) (by omega) k74234 (fun _ => rfl) (((jw_ne e74234 (Or.inl (by decide))).trans ((jw_ne e74233 (Or.inl (by decide))).trans ev74165))) (by omega) (by omega) (by omega)) (by omega) k74234 (fun _ => rfl) (((jw_ne e74234 (Or.inl (by decide))).trans ((jw_ne e74233 (Or.inl (by decide))).trans ev74229))) (by omega) (by omega) (by omega)) k74234 (fun _ => rfl) (ad74235 (by omega))) (by omega) k74252 (fun _ => rfl) (((jw_ne e74252 (Or.inl (by decide))).trans ev74244)) (by omega) (by omega) (by omega)), fun r hr => by cases hr; exact ⟨_, (((jw_ne e74252 (Or.inl (by decide))).trans em74237)), by omega, by omega, (Fr.w (i := (100 * w0 + w1)) (Fr.tr (Fr.kp (Fr.w (i := (400 * w0 + 4 * w1 + x7)) H2 e74233 (by omega) (by omega)) ((Kp.rf [(52, 0)] _).wr e74234 rfl) (fun _ => rfl) (fun _ => rfl) (fun _ => rfl) (fun _ => rfl)) fr74235 (by omega)) e74252 (by omega) (by omega)), fun h0 => by have := pm74235 (by omega); omega, fun h0 hm => PC.choice (i := (100 * w0 + w1)) (PC.step (i := (100 * w0 + w1)) (j := (400 * w0 + 4 * w1 + x7)) H3 (by omega) (by omega) (by omega) (by omega) (by omega) (by omega) (by omega) e74233 ((Kp.rf [(52, 0)] _).wr e74234 rfl) (fun _ => rfl) (fun _ => rfl) (fun _ => rfl) (fun _ => rfl) rfl (fun _ => rfl) kk74235 rfl (fun _ => rfl) fr74235 lm74237 (tr74235 (by omega)) (by omega)) (by omega) (by omega) (by omega) (by omega) (by omega) e74252 (by omega) hm⟩⟩
                      · refine ev_iconst ?_
                        exact ev_ret rfl (by decide) (by decide) ⟨⟨_, rfl, by omega, by omega, g74235, k74235⟩, fun r hr h0 => by cases hr; exfalso; omega, fun r hr => by cases hr; exact ⟨_, (em74237), by omega, by omega, (Fr.tr (Fr.kp (Fr.w (i := (400 * w0 + 4 * w1 + x7)) H2 e74233 (by omega) (by omega)) ((Kp.rf [(52, 0)] _).wr e74234 rfl) (fun _ => rfl) (fun _ => rfl) (fun _ => rfl) (fun _ => rfl)) fr74235 (by omega)), fun h0 => by exfalso; omega, fun h0 => by exfalso; omega⟩⟩
                    · refine ev_aload_n rfl ?_
                      refine ev_iload rfl ?_
                      refine ev_iload rfl ?_
                      refine ev_iload rfl ?_
                      refine ev_in (d := (d + 1)) (a := 0) (b := 0) (cd' := c268_0) (m := 4) (L0 := [(2, 42), (0, (100 * w0 + w1)), (0, x7), (0, (10 * v74146 + v74165 - 528))]) (jcall_v (A := [(0, (10 * v74146 + v74165 - 528)), (0, x7), (0, (100 * w0 + w1))]) (S' := []) (r := 42) rfl (g1.lt ad42) (g1.tg ad42) (Nat.le_of_ble_eq_true rfl)) (by decide) ml268 pp268 (Nat.le_of_ble_eq_true rfl) rfl (by decide) (by decide) ?_
                      refine ev_iload_n rfl ?_
                      refine ev_ifge f268_5 (fun c74253 => ?_) (fun c74253 => absurd c74253 (by omega))
                      refine ev_aload_n rfl ?_
                      refine g_getp (r := 42) (c := 51) g1 ad42 (by decide) (by decide) rf42_13 ft12_13 ?_
                      refine ev_iconst ?_
                      refine ev_iload_n rfl ?_
                      refine ev_imul (r := (400 * w0 + 4 * w1)) (by unfold w32; omega) ?_
                      refine ev_iload_n rfl ?_
                      refine ev_iadd (r := (400 * w0 + 4 * w1 + x7)) (by unfold w32; omega) ?_
                      refine ev_aload_n rfl ?_
                      refine g_getv (r := 42) (v := y0) g1 ad42 (by decide) ft12_21 (ey0) ?_
                      refine g_i2bG (fun v74254 ev74254 lv74254 uv74254 => ?_)
                      refine ev_bastG (r := 51) (j := ((400 * w0 + 4 * w1 + x7)).toNat) (w := v74254) (g1.lt ad51) (g1.tg ad51) (by omega) (by rw [g1.ln ad51]; omega) (by unfold w8; omega) (fun h74255 e74255 => ?_)
                      have g74255 := g1.s51 e74255 (by rw [(((k1.v (by decide)).trans ew0))]; omega) (by omega) (by omega)
                      have k74255 := k1.wr e74255 rfl
                      refine ev_aload_n rfl ?_
                      refine g_getp (r := 42) (c := 52) g74255 ad42 (by decide) (by decide) rf42_14 ft12_14 ?_
                      refine ev_iconst ?_
                      refine ev_iload_n rfl ?_
                      refine ev_imul (r := (400 * w0 + 4 * w1)) (by unfold w32; omega) ?_
                      refine ev_iload_n rfl ?_
                      refine ev_iadd (r := (400 * w0 + 4 * w1 + x7)) (by unfold w32; omega) ?_
                      refine ev_iload_n rfl ?_
                      refine g_iast g74255 ad52 rt52 (fun _ => rfl) (by omega) (by omega) (by omega) (by omega) (fun h74256 e74256 g74256 => ?_)
                      have k74256 := k74255.wr e74256 rfl
                      refine ev_ret rfl (by decide) (by decide) ?_
                      show jEv _ _ _ _ _ _ _ (_, [(2, 42), (0, a1), (0, a2), (0, a3), (0, 1), (0, (x5 + 2)), (0, (100 * w0 + w1)), (0, x7), (0, (10 * v74146 + v74165 - 528)), (0, 2)], [], _, _, _)
                      refine ev_aload_n rfl ?_
                      refine ev_iload rfl ?_
                      refine ev_iconst ?_
                      refine ev_iadd (r := (x5 + 3)) (by unfold w32; omega) ?_
                      refine ev_iload_n rfl ?_
                      refine ev_iload_n rfl ?_
                      refine ev_iconst ?_
                      refine ev_iadd (r := (a3 + 1)) (by unfold w32; omega) ?_
                      refine ev_iload rfl ?_
                      refine ev_call (jcall_v (A := [(0, 1), (0, (a3 + 1)), (0, a2), (0, (x5 + 3))]) (S' := []) (r := 42) rfl (g74256.lt ad42) (g74256.tg ad42) (Nat.le_of_ble_eq_true rfl)) (jOk_le (by omega) (s272o g74256 (by omega) (by omega) (by omega) (by omega) (by omega) (by omega) (by omega) (by omega) (by omega) (by omega) (((jw_ne e74256 (Or.inl (by decide))).trans ((jw_ne e74255 (Or.inl (by decide))).trans ey0))) (by omega) (by omega) (l0 := l0) (b0 := b74138) (by omega) (Iv.kp hI k74256 (fun _ => rfl) (fun _ => rfl) rfl) (Lv.at hL (Ad.step (r' := (x5 + 3)) (Ad.step (r' := (x5 + 2)) (Ad.step (r' := (x5 + 1)) H0 (by omega) k74256 (fun _ => rfl) (((jw_ne e74256 (Or.inl (by decide))).trans ((jw_ne e74255 (Or.inl (by decide))).trans ev74146))) (by omega) (by omega) (by omega)) (by omega) k74256 (fun _ => rfl) (((jw_ne e74256 (Or.inl (by decide))).trans ((jw_ne e74255 (Or.inl (by decide))).trans ev74165))) (by omega) (by omega) (by omega)) (by omega) k74256 (fun _ => rfl) (((jw_ne e74256 (Or.inl (by decide))).trans ((jw_ne e74255 (Or.inl (by decide))).trans ev74229))) (by omega) (by omega) (by omega)) k74256 (fun _ => rfl) rfl) hb74137)) (by decide) (by decide) (fun w74257 h74257 q74257 => ?_)
                      obtain ⟨q74257, ad74257, ro74257⟩ := q74257
                      obtain ⟨v74258, rfl, lv74258, uv74258, g74257, kk74257⟩ := q74257
                      have ad74257 := ad74257 _ rfl
                      obtain ⟨m74259, em74259, lm74259, um74259, pm74257⟩ := ro74257 _ rfl
                      have k74257 := k74256.tr kk74257 (by decide)
                      show jEv _ _ _ _ _ _ _ (_, [(2, 42), (0, a1), (0, a2), (0, a3), (0, 1), (0, (x5 + 2)), (0, (100 * w0 + w1)), (0, x7), (0, (10 * v74146 + v74165 - 528)), (0, 2)], [(0, v74258)], _, _, _)
                      refine ev_istore (L' := [(2, 42), (0, a1), (0, a2), (0, a3), (0, 1), (0, v74258), (0, (100 * w0 + w1)), (0, x7), (0, (10 * v74146 + v74165 - 528)), (0, 2)]) (Nat.le_of_ble_eq_true rfl) rfl ?_
                      refine ev_iload rfl ?_
                      refine ev_ifge f270_148 (fun c74260 => ?_) (fun c74260 => ?_)
                      · refine ev_iinc (w := (x7 + 1)) (L' := [(2, 42), (0, a1), (0, a2), (0, a3), (0, 1), (0, v74258), (0, (100 * w0 + w1)), (0, (x7 + 1)), (0, (10 * v74146 + v74165 - 528)), (0, 2)]) rfl (by unfold w32; omega) rfl ?_
                        refine ev_aload_n rfl ?_
                        refine ev_iload rfl ?_
                        refine ev_in (d := (d + 1)) (a := 0) (b := 0) (cd' := c264_0) (m := 2) (L0 := [(2, 42), (0, v74258)]) (jcall_v (A := [(0, v74258)]) (S' := []) (r := 42) rfl (g74257.lt ad42) (g74257.tg ad42) (Nat.le_of_ble_eq_true rfl)) (by decide) ml264 pp264 (Nat.le_of_ble_eq_true rfl) rfl (by decide) (by decide) ?_
                        refine ev_iload_n rfl ?_
                        refine ev_aload_n rfl ?_
                        refine g_getv (r := 42) (v := v74140) g74257 ad42 (by decide) ft12_17 (((kk74257.v (by decide)).trans ((jw_ne e74256 (Or.inl (by decide))).trans ((jw_ne e74255 (Or.inl (by decide))).trans ev74140)))) ?_
                        refine ev_icmpge f264_17 (fun c74261 => ?_) (fun c74261 => ?_)
                        · refine ev_iconst ?_
                          refine ev_ret rfl (by decide) (by decide) ?_
                          show jEv _ _ _ _ _ _ _ (_, [(2, 42), (0, a1), (0, a2), (0, a3), (0, 1), (0, v74258), (0, (100 * w0 + w1)), (0, (x7 + 1)), (0, (10 * v74146 + v74165 - 528)), (0, 2)], [(0, (-1))], _, _, _)
                          refine ev_bipush ?_
                          refine ev_icmpne f270_165 (fun c74262 => ?_) (fun c74262 => absurd c74262 (by omega))
                          refine ev_aload_n rfl ?_
                          refine ev_iload rfl ?_
                          refine ev_in (d := (d + 1)) (a := 0) (b := 0) (cd' := c264_0) (m := 2) (L0 := [(2, 42), (0, v74258)]) (jcall_v (A := [(0, v74258)]) (S' := []) (r := 42) rfl (g74257.lt ad42) (g74257.tg ad42) (Nat.le_of_ble_eq_true rfl)) (by decide) ml264 pp264 (Nat.le_of_ble_eq_true rfl) rfl (by decide) (by decide) ?_
                          refine ev_iload_n rfl ?_
                          refine ev_aload_n rfl ?_
                          refine g_getv (r := 42) (v := v74140) g74257 ad42 (by decide) ft12_17 (((kk74257.v (by decide)).trans ((jw_ne e74256 (Or.inl (by decide))).trans ((jw_ne e74255 (Or.inl (by decide))).trans ev74140)))) ?_
                          refine ev_icmpge f264_17 (fun c74263 => ?_) (fun c74263 => absurd c74263 (by omega))
                          refine ev_iconst ?_
                          refine ev_ret rfl (by decide) (by decide) ?_
                          show jEv _ _ _ _ _ _ _ (_, [(2, 42), (0, a1), (0, a2), (0, a3), (0, 1), (0, v74258), (0, (100 * w0 + w1)), (0, (x7 + 1)), (0, (10 * v74146 + v74165 - 528)), (0, 2)], [(0, (-1))], _, _, _)
                          refine ev_bipush ?_
                          refine ev_icmpne f270_182 (fun c74264 => ?_) (fun c74264 => absurd c74264 (by omega))
                          refine ev_aload_n rfl ?_
                          refine ev_iload rfl ?_
                          refine ev_in (d := (d + 1)) (a := 0) (b := 0) (cd' := c266_0) (m := 2) (L0 := [(2, 42), (0, v74258)]) (jcall_v (A := [(0, v74258)]) (S' := []) (r := 42) rfl (g74257.lt ad42) (g74257.tg ad42) (Nat.le_of_ble_eq_true rfl)) (by decide) ml266 pp266 (Nat.le_of_ble_eq_true rfl) rfl (by decide) (by decide) ?_
                          refine ev_aload_n rfl ?_
                          refine ev_iload_n rfl ?_
                          refine g_putf (r := 42) g74257 ad42 (by decide) ft12_20 (by decide) (fun e => absurd e nz12_20) rf42_20 (by decide) (by omega) (by omega) (fun h74265 e74265 g74265 => ?_)
                          have k74265 := k74257.wr e74265 rfl
                          refine ev_iconst ?_
                          refine ev_ret rfl (by decide) (by decide) ?_
                          show jEv _ _ _ _ _ _ _ (_, [(2, 42), (0, a1), (0, a2), (0, a3), (0, 1), (0, v74258), (0, (100 * w0 + w1)), (0, (x7 + 1)), (0, (10 * v74146 + v74165 - 528)), (0, 2)], [(0, (-1))], _, _, _)
                          exact ev_ret rfl (by decide) (by decide) ⟨⟨_, rfl, by omega, by omega, g74265, k74265⟩, fun r hr h0 => by cases hr; exfalso; omega, fun r hr => by cases hr; exact ⟨_, (((jw_ne e74265 (Or.inr (by decide))).trans em74259)), by omega, by omega, (Fr.kp (Fr.kp (Fr.kp (Fr.w (i := (400 * w0 + 4 * w1 + x7)) H2 e74255 (by omega) (by omega)) ((Kp.rf [(52, 0)] _).wr e74256 rfl) (fun _ => rfl) (fun _ => rfl) (fun _ => rfl) (fun _ => rfl)) kk74257 (fun _ => rfl) (fun _ => rfl) (fun _ => rfl) (fun _ => rfl)) ((Kp.rf [(42, 0)] _).wr e74265 rfl) (fun _ => rfl) (fun _ => rfl) (fun _ => rfl) (fun _ => rfl)), fun h0 => by exfalso; omega, fun h0 => by exfalso; omega⟩⟩
                        · refine ev_aload_n rfl ?_
                          refine g_getp (r := 42) (c := 54) g74257 ad42 (by decide) (by decide) rf42_16 ft12_16 ?_
                          refine ev_iload_n rfl ?_
                          refine g_bald g74257 ad54 rt54 (by omega) (by omega) (fun v74266 ev74266 lv74266 uv74266 => ?_)
                          refine ev_goto f264_18 ?_
                          refine ev_ret rfl (by decide) (by decide) ?_
                          show jEv _ _ _ _ _ _ _ (_, [(2, 42), (0, a1), (0, a2), (0, a3), (0, 1), (0, v74258), (0, (100 * w0 + w1)), (0, (x7 + 1)), (0, (10 * v74146 + v74165 - 528)), (0, 2)], [(0, v74266)], _, _, _)
                          refine ev_bipush ?_
                          refine ev_icmpne f270_165 (fun c74267 => ?_) (fun c74267 => ?_)
                          · refine ev_aload_n rfl ?_
                            refine ev_iload rfl ?_
                            refine ev_in (d := (d + 1)) (a := 0) (b := 0) (cd' := c264_0) (m := 2) (L0 := [(2, 42), (0, v74258)]) (jcall_v (A := [(0, v74258)]) (S' := []) (r := 42) rfl (g74257.lt ad42) (g74257.tg ad42) (Nat.le_of_ble_eq_true rfl)) (by decide) ml264 pp264 (Nat.le_of_ble_eq_true rfl) rfl (by decide) (by decide) ?_
                            refine ev_iload_n rfl ?_
                            refine ev_aload_n rfl ?_
                            refine g_getv (r := 42) (v := v74140) g74257 ad42 (by decide) ft12_17 (((kk74257.v (by decide)).trans ((jw_ne e74256 (Or.inl (by decide))).trans ((jw_ne e74255 (Or.inl (by decide))).trans ev74140)))) ?_
                            refine ev_icmpge f264_17 (fun c74268 => absurd c74268 (by omega)) (fun c74268 => ?_)
                            refine ev_aload_n rfl ?_
                            refine g_getp (r := 42) (c := 54) g74257 ad42 (by decide) (by decide) rf42_16 ft12_16 ?_
                            refine ev_iload_n rfl ?_
                            refine g_baldv (v := v74266) g74257 ad54 (by omega) (by omega) (ev74266) ?_
                            refine ev_goto f264_18 ?_
                            refine ev_ret rfl (by decide) (by decide) ?_
                            show jEv _ _ _ _ _ _ _ (_, [(2, 42), (0, a1), (0, a2), (0, a3), (0, 1), (0, v74258), (0, (100 * w0 + w1)), (0, (x7 + 1)), (0, (10 * v74146 + v74165 - 528)), (0, 2)], [(0, v74266)], _, _, _)
                            refine ev_bipush ?_
                            refine ev_icmpne f270_182 (fun c74269 => ?_) (fun c74269 => ?_)
                            · refine ev_aload_n rfl ?_
                              refine ev_iload rfl ?_
                              refine ev_in (d := (d + 1)) (a := 0) (b := 0) (cd' := c266_0) (m := 2) (L0 := [(2, 42), (0, v74258)]) (jcall_v (A := [(0, v74258)]) (S' := []) (r := 42) rfl (g74257.lt ad42) (g74257.tg ad42) (Nat.le_of_ble_eq_true rfl)) (by decide) ml266 pp266 (Nat.le_of_ble_eq_true rfl) rfl (by decide) (by decide) ?_
                              refine ev_aload_n rfl ?_
                              refine ev_iload_n rfl ?_
                              refine g_putf (r := 42) g74257 ad42 (by decide) ft12_20 (by decide) (fun e => absurd e nz12_20) rf42_20 (by decide) (by omega) (by omega) (fun h74270 e74270 g74270 => ?_)
                              have k74270 := k74257.wr e74270 rfl
                              refine ev_iconst ?_
                              refine ev_ret rfl (by decide) (by decide) ?_
                              show jEv _ _ _ _ _ _ _ (_, [(2, 42), (0, a1), (0, a2), (0, a3), (0, 1), (0, v74258), (0, (100 * w0 + w1)), (0, (x7 + 1)), (0, (10 * v74146 + v74165 - 528)), (0, 2)], [(0, (-1))], _, _, _)
                              exact ev_ret rfl (by decide) (by decide) ⟨⟨_, rfl, by omega, by omega, g74270, k74270⟩, fun r hr h0 => by cases hr; exfalso; omega, fun r hr => by cases hr; exact ⟨_, (((jw_ne e74270 (Or.inr (by decide))).trans em74259)), by omega, by omega, (Fr.kp (Fr.kp (Fr.kp (Fr.w (i := (400 * w0 + 4 * w1 + x7)) H2 e74255 (by omega) (by omega)) ((Kp.rf [(52, 0)] _).wr e74256 rfl) (fun _ => rfl) (fun _ => rfl) (fun _ => rfl) (fun _ => rfl)) kk74257 (fun _ => rfl) (fun _ => rfl) (fun _ => rfl) (fun _ => rfl)) ((Kp.rf [(42, 0)] _).wr e74270 rfl) (fun _ => rfl) (fun _ => rfl) (fun _ => rfl) (fun _ => rfl)), fun h0 => by exfalso; omega, fun h0 => by exfalso; omega⟩⟩
                            · refine ev_iload rfl ?_
                              refine ev_iconst ?_
                              refine ev_icmpne f270_189 (fun c74271 => ?_) (fun c74271 => ?_)
                              · refine ev_iinc (w := (v74258 + 1)) (L' := [(2, 42), (0, a1), (0, a2), (0, a3), (0, 1), (0, (v74258 + 1)), (0, (100 * w0 + w1)), (0, (x7 + 1)), (0, (10 * v74146 + v74165 - 528)), (0, 2)]) rfl (by unfold w32; omega) rfl ?_
                                refine ev_goto f270_45 ?_
                                exact ih _ _ _ _ _ _ g74257 k74257 (by omega) (by omega) (by omega) (by omega) (by omega) (by omega) (by omega) (by omega) (by omega) (by omega) (by omega) (em74259) (by omega) (by omega) (Ad.step (r' := (v74258 + 1)) (Ad.tr (Ad.step (r' := (x5 + 3)) (Ad.step (r' := (x5 + 2)) (Ad.step (r' := (x5 + 1)) H0 (by omega) k74256 (fun _ => rfl) (((jw_ne e74256 (Or.inl (by decide))).trans ((jw_ne e74255 (Or.inl (by decide))).trans ev74146))) (by omega) (by omega) (by omega)) (by omega) k74256 (fun _ => rfl) (((jw_ne e74256 (Or.inl (by decide))).trans ((jw_ne e74255 (Or.inl (by decide))).trans ev74165))) (by omega) (by omega) (by omega)) (by omega) k74256 (fun _ => rfl) (((jw_ne e74256 (Or.inl (by decide))).trans ((jw_ne e74255 (Or.inl (by decide))).trans ev74229))) (by omega) (by omega) (by omega)) k74256 (fun _ => rfl) (ad74257 (by omega))) (by omega) k74257 (fun _ => rfl) (ev74266) (by omega) (by omega) (by omega)) (Mb.step H1 eb74137 um74259 (by omega)) (Fr.kp (Fr.kp (Fr.w (i := (400 * w0 + 4 * w1 + x7)) H2 e74255 (by omega) (by omega)) ((Kp.rf [(52, 0)] _).wr e74256 rfl) (fun _ => rfl) (fun _ => rfl) (fun _ => rfl) (fun _ => rfl)) kk74257 (fun _ => rfl) (fun _ => rfl) (fun _ => rfl) (fun _ => rfl)) (PC.over (by have := pm74257 (by omega); omega)) (by omega)
                              · refine ev_aload_n rfl ?_
                                refine ev_iload rfl ?_
                                refine ev_in (d := (d + 1)) (a := 0) (b := 0) (cd' := c266_0) (m := 2) (L0 := [(2, 42), (0, v74258)]) (jcall_v (A := [(0, v74258)]) (S' := []) (r := 42) rfl (g74257.lt ad42) (g74257.tg ad42) (Nat.le_of_ble_eq_true rfl)) (by decide) ml266 pp266 (Nat.le_of_ble_eq_true rfl) rfl (by decide) (by decide) ?_
                                refine ev_aload_n rfl ?_
                                refine ev_iload_n rfl ?_
                                refine g_putf (r := 42) g74257 ad42 (by decide) ft12_20 (by decide) (fun e => absurd e nz12_20) rf42_20 (by decide) (by omega) (by omega) (fun h74272 e74272 g74272 => ?_)
                                have k74272 := k74257.wr e74272 rfl
                                refine ev_iconst ?_
                                refine ev_ret rfl (by decide) (by decide) ?_
                                show jEv _ _ _ _ _ _ _ (_, [(2, 42), (0, a1), (0, a2), (0, a3), (0, 1), (0, v74258), (0, (100 * w0 + w1)), (0, (x7 + 1)), (0, (10 * v74146 + v74165 - 528)), (0, 2)], [(0, (-1))], _, _, _)
                                exact ev_ret rfl (by decide) (by decide) ⟨⟨_, rfl, by omega, by omega, g74272, k74272⟩, fun r hr h0 => by cases hr; exfalso; omega, fun r hr => by cases hr; exact ⟨_, (((jw_ne e74272 (Or.inr (by decide))).trans em74259)), by omega, by omega, (Fr.kp (Fr.kp (Fr.kp (Fr.w (i := (400 * w0 + 4 * w1 + x7)) H2 e74255 (by omega) (by omega)) ((Kp.rf [(52, 0)] _).wr e74256 rfl) (fun _ => rfl) (fun _ => rfl) (fun _ => rfl) (fun _ => rfl)) kk74257 (fun _ => rfl) (fun _ => rfl) (fun _ => rfl) (fun _ => rfl)) ((Kp.rf [(42, 0)] _).wr e74272 rfl) (fun _ => rfl) (fun _ => rfl) (fun _ => rfl) (fun _ => rfl)), fun h0 => by exfalso; omega, fun h0 => by exfalso; omega⟩⟩
                          · refine ev_goto f270_195 ?_
                            refine ev_iload rfl ?_
                            refine ev_iflt f270_209 (fun c74273 => absurd c74273 (by omega)) (fun c74273 => ?_)
                            refine ev_aload_n rfl ?_
                            refine g_getp (r := 42) (c := 50) g74257 ad42 (by decide) (by decide) rf42_12 ft12_12 ?_
                            refine ev_iload rfl ?_
                            refine ev_iload rfl ?_
                            refine ev_iastG (r := 50) (j := ((100 * w0 + w1)).toNat) (g74257.lt ad50) (g74257.tg ad50) (by omega) (by rw [g74257.ln ad50]; omega) (fun h74274 e74274 => ?_)
                            have g74274 := g74257.s50 e74274 (Or.inl (by rw [(((kk74257.v (by decide)).trans ((jw_ne e74256 (Or.inl (by decide))).trans ((jw_ne e74255 (Or.inl (by decide))).trans ((k1.v (by decide)).trans ew0)))))]; omega)) (by omega) (by omega)
                            have k74274 := k74257.wr e74274 rfl
                            refine ev_iload rfl ?_
                            refine ev_iconst ?_
                            refine ev_iadd (r := (v74258 + 1)) (by unfold w32; omega) ?_
                            exact ev_ret rfl (by decide) (by decide) ⟨⟨_, rfl, by omega, by omega, g74274, k74274⟩, fun r hr h0 => by cases hr; exact (Ad.step (r' := (v74258 + 1)) (Ad.tr (Ad.step (r' := (x5 + 3)) (Ad.step (r' := (x5 + 2)) (Ad.step (r' := (x5 + 1)) H0 (by omega) k74256 (fun _ => rfl) (((jw_ne e74256 (Or.inl (by decide))).trans ((jw_ne e74255 (Or.inl (by decide))).trans ev74146))) (by omega) (by omega) (by omega)) (by omega) k74256 (fun _ => rfl) (((jw_ne e74256 (Or.inl (by decide))).trans ((jw_ne e74255 (Or.inl (by decide))).trans ev74165))) (by omega) (by omega) (by omega)) (by omega) k74256 (fun _ => rfl) (((jw_ne e74256 (Or.inl (by decide))).trans ((jw_ne e74255 (Or.inl (by decide))).trans ev74229))) (by omega) (by omega) (by omega)) k74256 (fun _ => rfl) (ad74257 (by omega))) (by omega) k74274 (fun _ => rfl) (((jw_ne e74274 (Or.inl (by decide))).trans ev74266)) (by omega) (by omega) (by omega)), fun r hr => by cases hr; exact ⟨_, (((jw_ne e74274 (Or.inl (by decide))).trans em74259)), by omega, by omega, (Fr.w (i := (100 * w0 + w1)) (Fr.kp (Fr.kp (Fr.w (i := (400 * w0 + 4 * w1 + x7)) H2 e74255 (by omega) (by omega)) ((Kp.rf [(52, 0)] _).wr e74256 rfl) (fun _ => rfl) (fun _ => rfl) (fun _ => rfl) (fun _ => rfl)) kk74257 (fun _ => rfl) (fun _ => rfl) (fun _ => rfl) (fun _ => rfl)) e74274 (by omega) (by omega)), fun h0 => by have := pm74257 (by omega); omega, fun h0 hm => by exfalso; have := pm74257 (by omega); omega⟩⟩
                      · refine ev_iconst ?_
                        exact ev_ret rfl (by decide) (by decide) ⟨⟨_, rfl, by omega, by omega, g74257, k74257⟩, fun r hr h0 => by cases hr; exfalso; omega, fun r hr => by cases hr; exact ⟨_, (em74259), by omega, by omega, (Fr.kp (Fr.kp (Fr.w (i := (400 * w0 + 4 * w1 + x7)) H2 e74255 (by omega) (by omega)) ((Kp.rf [(52, 0)] _).wr e74256 rfl) (fun _ => rfl) (fun _ => rfl) (fun _ => rfl) (fun _ => rfl)) kk74257 (fun _ => rfl) (fun _ => rfl) (fun _ => rfl) (fun _ => rfl)), fun h0 => by exfalso; omega, fun h0 => by exfalso; omega⟩⟩
                  · refine ev_aload_n rfl ?_
                    refine ev_iload rfl ?_
                    refine ev_in (d := (d + 1)) (a := 0) (b := 0) (cd' := c266_0) (m := 2) (L0 := [(2, 42), (0, (x5 + 2))]) (jcall_v (A := [(0, (x5 + 2))]) (S' := []) (r := 42) rfl (g1.lt ad42) (g1.tg ad42) (Nat.le_of_ble_eq_true rfl)) (by decide) ml266 pp266 (Nat.le_of_ble_eq_true rfl) rfl (by decide) (by decide) ?_
                    refine ev_aload_n rfl ?_
                    refine ev_iload_n rfl ?_
                    refine g_putf (r := 42) g1 ad42 (by decide) ft12_20 (by decide) (fun e => absurd e nz12_20) rf42_20 (by decide) (by omega) (by omega) (fun h74275 e74275 g74275 => ?_)
                    have k74275 := k1.wr e74275 rfl
                    refine ev_iconst ?_
                    refine ev_ret rfl (by decide) (by decide) ?_
                    show jEv _ _ _ _ _ _ _ (_, [(2, 42), (0, a1), (0, a2), (0, a3), (0, 1), (0, (x5 + 2)), (0, (100 * w0 + w1)), (0, x7), (0, (10 * v74146 + v74165 - 528)), (0, 2)], [(0, (-1))], _, _, _)
                    exact ev_ret rfl (by decide) (by decide) ⟨⟨_, rfl, by omega, by omega, g74275, k74275⟩, fun r hr h0 => by cases hr; exfalso; omega, fun r hr => by cases hr; exact ⟨_, (((jw_ne e74275 (Or.inr (by decide))).trans ey0)), by omega, by omega, (Fr.kp H2 ((Kp.rf [(42, 0)] _).wr e74275 rfl) (fun _ => rfl) (fun _ => rfl) (fun _ => rfl) (fun _ => rfl)), fun h0 => by exfalso; omega, fun h0 => by exfalso; omega⟩⟩
set_option maxHeartbeats 4000000 in
theorem s270i_s {G : GH} {h : JH} (g : Gd G h) {l0 : Int} (ll0 : 0 ≤ l0) (ul0 : l0 ≤ 6) {b0 : Int} (lb0 : 1 ≤ b0) (ub0 : b0 ≤ 30000000) {a1 : Int} (la1 : 0 ≤ a1) (ua1 : a1 ≤ 202) {a2 : Int} (la2 : 0 ≤ a2) (ua2 : a2 ≤ 15) {a3 : Int} (la3 : 0 ≤ a3) (ua3 : a3 ≤ 12) {w0 : Int} (ew0 : h.2.2 42 9 = w0) (lw0 : 0 ≤ w0) (uw0 : w0 ≤ 5) {w1 : Int} (ew1 : h.2.2 42 21 = w1) (lw1 : 0 ≤ w1) (uw1 : w1 ≤ 99) (F0 : (b0 + w1) ≤ 200000000) {S : List Nat} (hI : Iv h) (hL : Lv h l0 a1) (hb : NB a3 = b0) (hS : Sk a2 S) (hq : h.2.2 54 (a1).toNat = 63) {M : Int} (hM : M = (7 * a3 - l0)) {d : Nat} (hd : 371 ≤ d) (rih : ∀ {G : GH} {h : JH} (g : Gd G h) {l0 : Int} (ll0 : 0 ≤ l0) (ul0 : l0 ≤ 6) {b0 : Int} (lb0 : 1 ≤ b0) (ub0 : b0 ≤ 30000000) {a1 : Int} (la1 : 0 ≤ a1) (ua1 : a1 ≤ 202) {a2 : Int} (la2 : 0 ≤ a2) (ua2 : a2 ≤ 15) {a3 : Int} (la3 : 0 ≤ a3) (ua3 : a3 ≤ 12) {w0 : Int} (ew0 : h.2.2 42 9 = w0) (lw0 : 0 ≤ w0) (uw0 : w0 ≤ 5) {w1 : Int} (ew1 : h.2.2 42 21 = w1) (lw1 : 0 ≤ w1) (uw1 : w1 ≤ 99) (F0 : (b0 + w1) ≤ 200000000) {S : List Nat} (hI : Iv h) (hL : Lv h l0 a1) (hb : NB a3 = b0) (hS : Sk a2 S) (hm : M + 1 ≤ (7 * a3 - l0)), jOk d 0 0 272 [(2, 42), (0, a1), (0, a2), (0, a3), (0, 1)] h (fun v h' => PI G [(42, 21), (42, 22), (49, 0), (50, 0), (51, 0), (52, 0), (53, 0)] h 0 (-1) 200 v h' ∧ (∀ r, v = some (0, r) → 0 ≤ r → Ad h l0 a1 r) ∧ (∀ r, v = some (0, r) → RI h h' w0 w1 a3 b0 S r))) : jOk (d + 3) 0 0 270 [(2, 42), (0, a1), (0, a2), (0, a3), (0, 1)] h (fun v h' => PI G [(42, 21), (42, 22), (49, 0), (50, 0), (51, 0), (52, 0), (53, 0)] h 0 (-1) 200 v h' ∧ (∀ r, v = some (0, r) → 0 ≤ r → Ad h l0 a1 r) ∧ (∀ r, v = some (0, r) → RI h h' w0 w1 a3 b0 S r)) := by
  refine ⟨by decide, by rw [ml270]; exact Nat.le_of_ble_eq_true rfl, ?_⟩
  rw [ml270, pp270]
  show jEv _ none _ c270_0 0 0 _ (c270_0, [(2, 42), (0, a1), (0, a2), (0, a3), (0, 1), (9, 0), (9, 0), (9, 0), (9, 0), (9, 0)], [], h, 0, 0)
  have k0 := Kp.rf [(42, 21), (42, 22), (49, 0), (50, 0), (51, 0), (52, 0), (53, 0)] h
  refine ev_iload_n rfl ?_
  refine ev_iconst ?_
  refine ev_iadd (r := (a1 + 1)) (by unfold w32; omega) ?_
  refine ev_istore (L' := [(2, 42), (0, a1), (0, a2), (0, a3), (0, 1), (0, (a1 + 1)), (9, 0), (9, 0), (9, 0), (9, 0)]) (Nat.le_of_ble_eq_true rfl) rfl ?_
  refine ev_aload_n rfl ?_
  refine ev_iload rfl ?_
  refine ev_in (d := (d + 1)) (a := 0) (b := 0) (cd' := c264_0) (m := 2) (L0 := [(2, 42), (0, (a1 + 1))]) (jcall_v (A := [(0, (a1 + 1))]) (S' := []) (r := 42) rfl (g.lt ad42) (g.tg ad42) (Nat.le_of_ble_eq_true rfl)) (by decide) ml264 pp264 (Nat.le_of_ble_eq_true rfl) rfl (by decide) (by decide) ?_
  refine ev_iload_n rfl ?_
  refine ev_aload_n rfl ?_
  obtain ⟨v74276, ev74276, lv74276, uv74276⟩ := g.rd ad42 (show 17 < 66 by decide) rf42_17
  refine g_getv (r := 42) (v := v74276) g ad42 (by decide) ft12_17 ev74276 ?_
  refine ev_icmpge f264_17 (fun c74277 => ?_) (fun c74277 => ?_)
  · refine ev_iconst ?_
    refine ev_ret rfl (by decide) (by decide) ?_
    show jEv _ _ _ _ _ _ _ (_, [(2, 42), (0, a1), (0, a2), (0, a3), (0, 1), (0, (a1 + 1)), (9, 0), (9, 0), (9, 0), (9, 0)], [(0, (-1))], _, _, _)
    refine ev_bipush ?_
    refine ev_icmpne f270_22 (fun c74278 => ?_) (fun c74278 => absurd c74278 (by omega))
    refine ev_aload_n rfl ?_
    refine ev_iload rfl ?_
    refine ev_in (d := (d + 1)) (a := 0) (b := 0) (cd' := c266_0) (m := 2) (L0 := [(2, 42), (0, (a1 + 1))]) (jcall_v (A := [(0, (a1 + 1))]) (S' := []) (r := 42) rfl (g.lt ad42) (g.tg ad42) (Nat.le_of_ble_eq_true rfl)) (by decide) ml266 pp266 (Nat.le_of_ble_eq_true rfl) rfl (by decide) (by decide) ?_
    refine ev_aload_n rfl ?_
    refine ev_iload_n rfl ?_
    refine g_putf (r := 42) g ad42 (by decide) ft12_20 (by decide) (fun e => absurd e nz12_20) rf42_20 (by decide) (by omega) (by omega) (fun h74279 e74279 g74279 => ?_)
    have k74279 := k0.wr e74279 rfl
    refine ev_iconst ?_
    refine ev_ret rfl (by decide) (by decide) ?_
    show jEv _ _ _ _ _ _ _ (_, [(2, 42), (0, a1), (0, a2), (0, a3), (0, 1), (0, (a1 + 1)), (9, 0), (9, 0), (9, 0), (9, 0)], [(0, (-1))], _, _, _)
    exact ev_ret rfl (by decide) (by decide) ⟨⟨_, rfl, by omega, by omega, g74279, k74279⟩, fun r hr h0 => by cases hr; exfalso; omega, fun r hr => by cases hr; exact ⟨_, (((jw_ne e74279 (Or.inr (by decide))).trans ew1)), by omega, by omega, (Fr.kp (Fr.rf _ _) ((Kp.rf [(42, 0)] _).wr e74279 rfl) (fun _ => rfl) (fun _ => rfl) (fun _ => rfl) (fun _ => rfl)), fun h0 => by exfalso; omega, fun h0 => by exfalso; omega⟩⟩
  · refine ev_aload_n rfl ?_
    refine g_getp (r := 42) (c := 54) g ad42 (by decide) (by decide) rf42_16 ft12_16 ?_
    refine ev_iload_n rfl ?_
    refine g_bald g ad54 rt54 (by omega) (by omega) (fun v74280 ev74280 lv74280 uv74280 => ?_)
    refine ev_goto f264_18 ?_
    refine ev_ret rfl (by decide) (by decide) ?_
    show jEv _ _ _ _ _ _ _ (_, [(2, 42), (0, a1), (0, a2), (0, a3), (0, 1), (0, (a1 + 1)), (9, 0), (9, 0), (9, 0), (9, 0)], [(0, v74280)], _, _, _)
    refine ev_bipush ?_
    refine ev_icmpne f270_22 (fun c74281 => ?_) (fun c74281 => ?_)
    · refine ev_aload_n rfl ?_
      refine ev_iload rfl ?_
      refine ev_in (d := (d + 1)) (a := 0) (b := 0) (cd' := c266_0) (m := 2) (L0 := [(2, 42), (0, (a1 + 1))]) (jcall_v (A := [(0, (a1 + 1))]) (S' := []) (r := 42) rfl (g.lt ad42) (g.tg ad42) (Nat.le_of_ble_eq_true rfl)) (by decide) ml266 pp266 (Nat.le_of_ble_eq_true rfl) rfl (by decide) (by decide) ?_
      refine ev_aload_n rfl ?_
      refine ev_iload_n rfl ?_
      refine g_putf (r := 42) g ad42 (by decide) ft12_20 (by decide) (fun e => absurd e nz12_20) rf42_20 (by decide) (by omega) (by omega) (fun h74282 e74282 g74282 => ?_)
      have k74282 := k0.wr e74282 rfl
      refine ev_iconst ?_
      refine ev_ret rfl (by decide) (by decide) ?_
      show jEv _ _ _ _ _ _ _ (_, [(2, 42), (0, a1), (0, a2), (0, a3), (0, 1), (0, (a1 + 1)), (9, 0), (9, 0), (9, 0), (9, 0)], [(0, (-1))], _, _, _)
      exact ev_ret rfl (by decide) (by decide) ⟨⟨_, rfl, by omega, by omega, g74282, k74282⟩, fun r hr h0 => by cases hr; exfalso; omega, fun r hr => by cases hr; exact ⟨_, (((jw_ne e74282 (Or.inr (by decide))).trans ew1)), by omega, by omega, (Fr.kp (Fr.rf _ _) ((Kp.rf [(42, 0)] _).wr e74282 rfl) (fun _ => rfl) (fun _ => rfl) (fun _ => rfl) (fun _ => rfl)), fun h0 => by exfalso; omega, fun h0 => by exfalso; omega⟩⟩
    · refine ev_iload_n rfl ?_
      refine ev_bipush ?_
      refine ev_icmpne f270_29 (fun c74283 => ?_) (fun c74283 => ?_)
      · refine ev_aload_n rfl ?_
        refine ev_iload rfl ?_
        refine ev_iconst ?_
        refine ev_iconst ?_
        refine ev_in (d := (d + 1)) (a := 0) (b := 0) (cd' := c267_0) (m := 6) (L0 := [(2, 42), (0, 1), (0, 1), (0, 0), (9, 0), (9, 0)]) (jcall_v (A := [(0, 0), (0, 1), (0, 1)]) (S' := []) (r := 42) rfl (g.lt ad42) (g.tg ad42) (Nat.le_of_ble_eq_true rfl)) (by decide) ml267 pp267 (Nat.le_of_ble_eq_true rfl) rfl (by decide) (by decide) ?_
        refine ev_iload_n rfl ?_
        refine ev_ifne f267_6 (fun c74284 => ?_) (fun c74284 => absurd c74284 (by omega))
        refine ev_aload_n rfl ?_
        refine ev_dup (by decide) ?_
        refine g_getv (r := 42) (v := w1) g ad42 (by decide) ft12_21 (ew1) ?_
        refine ev_iconst ?_
        refine ev_iadd (r := (w1 + 1)) (by unfold w32; omega) ?_
        refine g_putf (r := 42) g ad42 (by decide) ft12_21 (by decide) (fun e => absurd e nz12_21) rf42_21 (by decide) (by omega) (by omega) (fun h74285 e74285 g74285 => ?_)
        have k74285 := k0.wr e74285 rfl
        refine ev_aload_n rfl ?_
        refine g_getv (r := 42) (v := (w1 + 1)) g74285 ad42 (by decide) ft12_21 ((jw_eq e74285)) ?_
        refine ev_bipush ?_
        refine ev_icmple f267_27 (fun c74286 => ?_) (fun c74286 => absurd c74286 (by omega))
        refine ev_bipush ?_
        refine ev_aload_n rfl ?_
        refine g_getv (r := 42) (v := w0) g74285 ad42 (by decide) ft12_9 (((jw_ne e74285 (Or.inr (by decide))).trans ew0)) ?_
        refine ev_imul (r := (100 * w0)) (by unfold w32; omega) ?_
        refine ev_aload_n rfl ?_
        refine g_getv (r := 42) (v := (w1 + 1)) g74285 ad42 (by decide) ft12_21 ((jw_eq e74285)) ?_
        refine ev_iadd (r := (100 * w0 + w1 + 1)) (by unfold w32; omega) ?_
        refine ev_iconst ?_
        refine ev_isub (r := (100 * w0 + w1)) (by unfold w32; omega) ?_
        refine ev_istore (L' := [(2, 42), (0, 1), (0, 1), (0, 0), (0, (100 * w0 + w1)), (9, 0)]) (Nat.le_of_ble_eq_true rfl) rfl ?_
        refine ev_aload_n rfl ?_
        refine g_getp (r := 42) (c := 49) g74285 ad42 (by decide) (by decide) rf42_11 ft12_11 ?_
        refine ev_iload rfl ?_
        refine ev_iload_n rfl ?_
        refine ev_i2b (r := 1) (by unfold w8; omega) ?_
        refine ev_bastG (r := 49) (j := ((100 * w0 + w1)).toNat) (w := 1) (g74285.lt ad49) (g74285.tg ad49) (by omega) (by rw [g74285.ln ad49]; omega) (by unfold w8; omega) (fun h74287 e74287 => ?_)
        have g74287 := g74285.s49 e74287 (by rw [(((jw_ne e74285 (Or.inr (by decide))).trans ew0))]; omega) (by omega) (by omega)
        have k74287 := k74285.wr e74287 rfl
        refine ev_aload_n rfl ?_
        refine g_getp (r := 42) (c := 50) g74287 ad42 (by decide) (by decide) rf42_12 ft12_12 ?_
        refine ev_iload rfl ?_
        refine ev_iload_n rfl ?_
        refine ev_iastG (r := 50) (j := ((100 * w0 + w1)).toNat) (g74287.lt ad50) (g74287.tg ad50) (by omega) (by rw [g74287.ln ad50]; omega) (fun h74288 e74288 => ?_)
        have g74288 := g74287.s50 e74288 (Or.inl (by rw [(((jw_ne e74287 (Or.inl (by decide))).trans ((jw_ne e74285 (Or.inr (by decide))).trans ew0)))]; omega)) (by omega) (by omega)
        have k74288 := k74287.wr e74288 rfl
        refine ev_aload_n rfl ?_
        refine g_getp (r := 42) (c := 53) g74288 ad42 (by decide) (by decide) rf42_15 ft12_15 ?_
        refine ev_iload rfl ?_
        refine ev_iconst ?_
        refine ev_bastG (r := 53) (j := ((100 * w0 + w1)).toNat) (w := 0) (g74288.lt ad53) (g74288.tg ad53) (by omega) (by rw [g74288.ln ad53]; omega) (by unfold w8; omega) (fun h74289 e74289 => ?_)
        have g74289 := g74288.s53 e74289 (Or.inl (by rw [(((jw_ne e74288 (Or.inl (by decide))).trans ((jw_ne e74287 (Or.inl (by decide))).trans ((jw_ne e74285 (Or.inr (by decide))).trans ew0))))]; omega)) (by omega) (by omega)
        have k74289 := k74288.wr e74289 rfl
        refine ev_iconst ?_
        refine ev_istore (L' := [(2, 42), (0, 1), (0, 1), (0, 0), (0, (100 * w0 + w1)), (0, 0)]) (Nat.le_of_ble_eq_true rfl) rfl ?_
        refine ev_iload rfl ?_
        refine ev_iconst ?_
        refine ev_icmpge f267_109 (fun c74290 => absurd c74290 (by omega)) (fun c74290 => ?_)
        refine ev_aload_n rfl ?_
        refine g_getp (r := 42) (c := 51) g74289 ad42 (by decide) (by decide) rf42_13 ft12_13 ?_
        refine ev_iconst ?_
        refine ev_iload rfl ?_
        refine ev_imul (r := (400 * w0 + 4 * w1)) (by unfold w32; omega) ?_
        refine ev_iload rfl ?_
        refine ev_iadd (r := (400 * w0 + 4 * w1)) (by unfold w32; omega) ?_
        refine ev_iconst ?_
        refine ev_bastG (r := 51) (j := ((400 * w0 + 4 * w1)).toNat) (w := (-1)) (g74289.lt ad51) (g74289.tg ad51) (by omega) (by rw [g74289.ln ad51]; omega) (by unfold w8; omega) (fun h74291 e74291 => ?_)
        have g74291 := g74289.s51 e74291 (by rw [(((jw_ne e74289 (Or.inl (by decide))).trans ((jw_ne e74288 (Or.inl (by decide))).trans ((jw_ne e74287 (Or.inl (by decide))).trans ((jw_ne e74285 (Or.inr (by decide))).trans ew0)))))]; omega) (by omega) (by omega)
        have k74291 := k74289.wr e74291 rfl
        refine ev_aload_n rfl ?_
        refine g_getp (r := 42) (c := 52) g74291 ad42 (by decide) (by decide) rf42_14 ft12_14 ?_
        refine ev_iconst ?_
        refine ev_iload rfl ?_
        refine ev_imul (r := (400 * w0 + 4 * w1)) (by unfold w32; omega) ?_
        refine ev_iload rfl ?_
        refine ev_iadd (r := (400 * w0 + 4 * w1)) (by unfold w32; omega) ?_
        refine ev_iconst ?_
        refine g_iast g74291 ad52 rt52 (fun _ => rfl) (by omega) (by omega) (by omega) (by omega) (fun h74292 e74292 g74292 => ?_)
        have k74292 := k74291.wr e74292 rfl
        refine ev_iinc (w := 1) (L' := [(2, 42), (0, 1), (0, 1), (0, 0), (0, (100 * w0 + w1)), (0, 1)]) rfl (by decide) rfl ?_
        refine ev_goto f267_71 ?_
        refine ev_iload rfl ?_
        refine ev_iconst ?_
        refine ev_icmpge f267_109 (fun c74293 => absurd c74293 (by omega)) (fun c74293 => ?_)
        refine ev_aload_n rfl ?_
        refine g_getp (r := 42) (c := 51) g74292 ad42 (by decide) (by decide) rf42_13 ft12_13 ?_
        refine ev_iconst ?_
        refine ev_iload rfl ?_
        refine ev_imul (r := (400 * w0 + 4 * w1)) (by unfold w32; omega) ?_
        refine ev_iload rfl ?_
        refine ev_iadd (r := (400 * w0 + 4 * w1 + 1)) (by unfold w32; omega) ?_
        refine ev_iconst ?_
        refine ev_bastG (r := 51) (j := ((400 * w0 + 4 * w1 + 1)).toNat) (w := (-1)) (g74292.lt ad51) (g74292.tg ad51) (by omega) (by rw [g74292.ln ad51]; omega) (by unfold w8; omega) (fun h74294 e74294 => ?_)
        have g74294 := g74292.s51 e74294 (by rw [(((jw_ne e74292 (Or.inl (by decide))).trans ((jw_ne e74291 (Or.inl (by decide))).trans ((jw_ne e74289 (Or.inl (by decide))).trans ((jw_ne e74288 (Or.inl (by decide))).trans ((jw_ne e74287 (Or.inl (by decide))).trans ((jw_ne e74285 (Or.inr (by decide))).trans ew0)))))))]; omega) (by omega) (by omega)
        have k74294 := k74292.wr e74294 rfl
        refine ev_aload_n rfl ?_
        refine g_getp (r := 42) (c := 52) g74294 ad42 (by decide) (by decide) rf42_14 ft12_14 ?_
        refine ev_iconst ?_
        refine ev_iload rfl ?_
        refine ev_imul (r := (400 * w0 + 4 * w1)) (by unfold w32; omega) ?_
        refine ev_iload rfl ?_
        refine ev_iadd (r := (400 * w0 + 4 * w1 + 1)) (by unfold w32; omega) ?_
        refine ev_iconst ?_
        refine g_iast g74294 ad52 rt52 (fun _ => rfl) (by omega) (by omega) (by omega) (by omega) (fun h74295 e74295 g74295 => ?_)
        have k74295 := k74294.wr e74295 rfl
        refine ev_iinc (w := 2) (L' := [(2, 42), (0, 1), (0, 1), (0, 0), (0, (100 * w0 + w1)), (0, 2)]) rfl (by decide) rfl ?_
        refine ev_goto f267_71 ?_
        refine ev_iload rfl ?_
        refine ev_iconst ?_
        refine ev_icmpge f267_109 (fun c74296 => absurd c74296 (by omega)) (fun c74296 => ?_)
        refine ev_aload_n rfl ?_
        refine g_getp (r := 42) (c := 51) g74295 ad42 (by decide) (by decide) rf42_13 ft12_13 ?_
        refine ev_iconst ?_
        refine ev_iload rfl ?_
        refine ev_imul (r := (400 * w0 + 4 * w1)) (by unfold w32; omega) ?_
        refine ev_iload rfl ?_
        refine ev_iadd (r := (400 * w0 + 4 * w1 + 2)) (by unfold w32; omega) ?_
        refine ev_iconst ?_
        refine ev_bastG (r := 51) (j := ((400 * w0 + 4 * w1 + 2)).toNat) (w := (-1)) (g74295.lt ad51) (g74295.tg ad51) (by omega) (by rw [g74295.ln ad51]; omega) (by unfold w8; omega) (fun h74297 e74297 => ?_)
        have g74297 := g74295.s51 e74297 (by rw [(((jw_ne e74295 (Or.inl (by decide))).trans ((jw_ne e74294 (Or.inl (by decide))).trans ((jw_ne e74292 (Or.inl (by decide))).trans ((jw_ne e74291 (Or.inl (by decide))).trans ((jw_ne e74289 (Or.inl (by decide))).trans ((jw_ne e74288 (Or.inl (by decide))).trans ((jw_ne e74287 (Or.inl (by decide))).trans ((jw_ne e74285 (Or.inr (by decide))).trans ew0)))))))))]; omega) (by omega) (by omega)
        have k74297 := k74295.wr e74297 rfl
        refine ev_aload_n rfl ?_
        refine g_getp (r := 42) (c := 52) g74297 ad42 (by decide) (by decide) rf42_14 ft12_14 ?_
        refine ev_iconst ?_
        refine ev_iload rfl ?_
        refine ev_imul (r := (400 * w0 + 4 * w1)) (by unfold w32; omega) ?_
        refine ev_iload rfl ?_
        refine ev_iadd (r := (400 * w0 + 4 * w1 + 2)) (by unfold w32; omega) ?_
        refine ev_iconst ?_
        refine g_iast g74297 ad52 rt52 (fun _ => rfl) (by omega) (by omega) (by omega) (by omega) (fun h74298 e74298 g74298 => ?_)
        have k74298 := k74297.wr e74298 rfl
        refine ev_iinc (w := 3) (L' := [(2, 42), (0, 1), (0, 1), (0, 0), (0, (100 * w0 + w1)), (0, 3)]) rfl (by decide) rfl ?_
        refine ev_goto f267_71 ?_
        refine ev_iload rfl ?_
        refine ev_iconst ?_
        refine ev_icmpge f267_109 (fun c74299 => absurd c74299 (by omega)) (fun c74299 => ?_)
        refine ev_aload_n rfl ?_
        refine g_getp (r := 42) (c := 51) g74298 ad42 (by decide) (by decide) rf42_13 ft12_13 ?_
        refine ev_iconst ?_
        refine ev_iload rfl ?_
        refine ev_imul (r := (400 * w0 + 4 * w1)) (by unfold w32; omega) ?_
        refine ev_iload rfl ?_
        refine ev_iadd (r := (400 * w0 + 4 * w1 + 3)) (by unfold w32; omega) ?_
        refine ev_iconst ?_
        refine ev_bastG (r := 51) (j := ((400 * w0 + 4 * w1 + 3)).toNat) (w := (-1)) (g74298.lt ad51) (g74298.tg ad51) (by omega) (by rw [g74298.ln ad51]; omega) (by unfold w8; omega) (fun h74300 e74300 => ?_)
        have g74300 := g74298.s51 e74300 (by rw [(((jw_ne e74298 (Or.inl (by decide))).trans ((jw_ne e74297 (Or.inl (by decide))).trans ((jw_ne e74295 (Or.inl (by decide))).trans ((jw_ne e74294 (Or.inl (by decide))).trans ((jw_ne e74292 (Or.inl (by decide))).trans ((jw_ne e74291 (Or.inl (by decide))).trans ((jw_ne e74289 (Or.inl (by decide))).trans ((jw_ne e74288 (Or.inl (by decide))).trans ((jw_ne e74287 (Or.inl (by decide))).trans ((jw_ne e74285 (Or.inr (by decide))).trans ew0)))))))))))]; omega) (by omega) (by omega)
        have k74300 := k74298.wr e74300 rfl
        refine ev_aload_n rfl ?_
        refine g_getp (r := 42) (c := 52) g74300 ad42 (by decide) (by decide) rf42_14 ft12_14 ?_
        refine ev_iconst ?_
        refine ev_iload rfl ?_
        refine ev_imul (r := (400 * w0 + 4 * w1)) (by unfold w32; omega) ?_
        refine ev_iload rfl ?_
        refine ev_iadd (r := (400 * w0 + 4 * w1 + 3)) (by unfold w32; omega) ?_
        refine ev_iconst ?_
        refine g_iast g74300 ad52 rt52 (fun _ => rfl) (by omega) (by omega) (by omega) (by omega) (fun h74301 e74301 g74301 => ?_)
        have k74301 := k74300.wr e74301 rfl
        refine ev_iinc (w := 4) (L' := [(2, 42), (0, 1), (0, 1), (0, 0), (0, (100 * w0 + w1)), (0, 4)]) rfl (by decide) rfl ?_
        refine ev_goto f267_71 ?_
        refine ev_iload rfl ?_
        refine ev_iconst ?_
        refine ev_icmpge f267_109 (fun c74302 => ?_) (fun c74302 => absurd c74302 (by omega))
        refine ev_iload rfl ?_
        refine ev_ret rfl (by decide) (by decide) ?_
        show jEv _ _ _ _ _ _ _ (_, [(2, 42), (0, a1), (0, a2), (0, a3), (0, 1), (0, (a1 + 1)), (9, 0), (9, 0), (9, 0), (9, 0)], [(0, (100 * w0 + w1))], _, _, _)
        refine ev_istore (L' := [(2, 42), (0, a1), (0, a2), (0, a3), (0, 1), (0, (a1 + 1)), (0, (100 * w0 + w1)), (9, 0), (9, 0), (9, 0)]) (Nat.le_of_ble_eq_true rfl) rfl ?_
        refine ev_iconst ?_
        refine ev_istore (L' := [(2, 42), (0, a1), (0, a2), (0, a3), (0, 1), (0, (a1 + 1)), (0, (100 * w0 + w1)), (0, 0), (9, 0), (9, 0)]) (Nat.le_of_ble_eq_true rfl) rfl ?_
        refine ev_iinc (w := (a1 + 2)) (L' := [(2, 42), (0, a1), (0, a2), (0, a3), (0, 1), (0, (a1 + 2)), (0, (100 * w0 + w1)), (0, 0), (9, 0), (9, 0)]) rfl (by unfold w32; omega) rfl ?_
        exact (s270i_s_l ll0 ul0 lb0 ub0 la1 ua1 la2 ua2 la3 ua3 ew0 lw0 uw0 ew1 lw1 uw1 F0 hI hL hb hS hq hM hd rih 8) _ _ _ _ _ _ g74301 k74301 (by omega) (by omega) (by omega) (by omega) (by omega) (by omega) (by omega) (by omega) (by omega) (by omega) (by omega) (((jw_ne e74301 (Or.inl (by decide))).trans ((jw_ne e74300 (Or.inl (by decide))).trans ((jw_ne e74298 (Or.inl (by decide))).trans ((jw_ne e74297 (Or.inl (by decide))).trans ((jw_ne e74295 (Or.inl (by decide))).trans ((jw_ne e74294 (Or.inl (by decide))).trans ((jw_ne e74292 (Or.inl (by decide))).trans ((jw_ne e74291 (Or.inl (by decide))).trans ((jw_ne e74289 (Or.inl (by decide))).trans ((jw_ne e74288 (Or.inl (by decide))).trans ((jw_ne e74287 (Or.inl (by decide))).trans (jw_eq e74285))))))))))))) (by omega) (by omega) (Ad.step (r' := (a1 + 2)) (Ad.step (r' := (a1 + 1)) (Ad.rf _ _ _) (by omega) k74301 (fun _ => rfl) (((jw_ne e74301 (Or.inl (by decide))).trans ((jw_ne e74300 (Or.inl (by decide))).trans ((jw_ne e74298 (Or.inl (by decide))).trans ((jw_ne e74297 (Or.inl (by decide))).trans ((jw_ne e74295 (Or.inl (by decide))).trans ((jw_ne e74294 (Or.inl (by decide))).trans ((jw_ne e74292 (Or.inl (by decide))).trans ((jw_ne e74291 (Or.inl (by decide))).trans ((jw_ne e74289 (Or.inl (by decide))).trans ((jw_ne e74288 (Or.inl (by decide))).trans ((jw_ne e74287 (Or.inl (by decide))).trans ((jw_ne e74285 (Or.inl (by decide))).trans hq))))))))))))) (by omega) (by omega) (by omega)) (by omega) k74301 (fun _ => rfl) (((jw_ne e74301 (Or.inl (by decide))).trans ((jw_ne e74300 (Or.inl (by decide))).trans ((jw_ne e74298 (Or.inl (by decide))).trans ((jw_ne e74297 (Or.inl (by decide))).trans ((jw_ne e74295 (Or.inl (by decide))).trans ((jw_ne e74294 (Or.inl (by decide))).trans ((jw_ne e74292 (Or.inl (by decide))).trans ((jw_ne e74291 (Or.inl (by decide))).trans ((jw_ne e74289 (Or.inl (by decide))).trans ((jw_ne e74288 (Or.inl (by decide))).trans ((jw_ne e74287 (Or.inl (by decide))).trans ((jw_ne e74285 (Or.inl (by decide))).trans ev74280))))))))))))) (by omega) (by omega) (by omega)) (Mb.start _ _ (by omega)) (Fr.kp (Fr.w (i := (400 * w0 + 4 * w1 + 3)) (Fr.kp (Fr.w (i := (400 * w0 + 4 * w1 + 2)) (Fr.kp (Fr.w (i := (400 * w0 + 4 * w1 + 1)) (Fr.kp (Fr.w (i := (400 * w0 + 4 * w1)) (Fr.w (i := (100 * w0 + w1)) (Fr.w (i := (100 * w0 + w1)) (Fr.w (i := (100 * w0 + w1)) (Fr.kp (Fr.rf _ _) ((Kp.rf [(42, 0)] _).wr e74285 rfl) (fun _ => rfl) (fun _ => rfl) (fun _ => rfl) (fun _ => rfl)) e74287 (by omega) (by omega)) e74288 (by omega) (by omega)) e74289 (by omega) (by omega)) e74291 (by omega) (by omega)) ((Kp.rf [(52, 0)] _).wr e74292 rfl) (fun _ => rfl) (fun _ => rfl) (fun _ => rfl) (fun _ => rfl)) e74294 (by omega) (by omega)) ((Kp.rf [(52, 0)] _).wr e74295 rfl) (fun _ => rfl) (fun _ => rfl) (fun _ => rfl) (fun _ => rfl)) e74297 (by omega) (by omega)) ((Kp.rf [(52, 0)] _).wr e74298 rfl) (fun _ => rfl) (fun _ => rfl) (fun _ => rfl) (fun _ => rfl)) e74300 (by omega) (by omega)) ((Kp.rf [(52, 0)] _).wr e74301 rfl) (fun _ => rfl) (fun _ => rfl) (fun _ => rfl) (fun _ => rfl)) (PC.start (i := (100 * w0 + w1)) (by omega) (by omega) (by omega) (((jw_ne e74301 (Or.inl (by decide))).trans ((jw_ne e74300 (Or.inl (by decide))).trans ((jw_ne e74298 (Or.inl (by decide))).trans ((jw_ne e74297 (Or.inl (by decide))).trans ((jw_ne e74295 (Or.inl (by decide))).trans ((jw_ne e74294 (Or.inl (by decide))).trans ((jw_ne e74292 (Or.inl (by decide))).trans ((jw_ne e74291 (Or.inl (by decide))).trans ((jw_ne e74289 (Or.inl (by decide))).trans ((jw_ne e74288 (Or.inl (by decide))).trans (jw_eq e74287)))))))))))) (fun z => absurd z (by decide)) (((jw_ne e74301 (Or.inl (by decide))).trans ((jw_ne e74300 (Or.inl (by decide))).trans ((jw_ne e74298 (Or.inl (by decide))).trans ((jw_ne e74297 (Or.inl (by decide))).trans ((jw_ne e74295 (Or.inl (by decide))).trans ((jw_ne e74294 (Or.inl (by decide))).trans ((jw_ne e74292 (Or.inl (by decide))).trans ((jw_ne e74291 (Or.inl (by decide))).trans (jw_eq e74289)))))))))) (by omega)) (by omega)
      · refine ev_aload_n rfl ?_
        refine ev_iload rfl ?_
        refine ev_in (d := (d + 1)) (a := 0) (b := 0) (cd' := c266_0) (m := 2) (L0 := [(2, 42), (0, (a1 + 1))]) (jcall_v (A := [(0, (a1 + 1))]) (S' := []) (r := 42) rfl (g.lt ad42) (g.tg ad42) (Nat.le_of_ble_eq_true rfl)) (by decide) ml266 pp266 (Nat.le_of_ble_eq_true rfl) rfl (by decide) (by decide) ?_
        refine ev_aload_n rfl ?_
        refine ev_iload_n rfl ?_
        refine g_putf (r := 42) g ad42 (by decide) ft12_20 (by decide) (fun e => absurd e nz12_20) rf42_20 (by decide) (by omega) (by omega) (fun h74303 e74303 g74303 => ?_)
        have k74303 := k0.wr e74303 rfl
        refine ev_iconst ?_
        refine ev_ret rfl (by decide) (by decide) ?_
        show jEv _ _ _ _ _ _ _ (_, [(2, 42), (0, a1), (0, a2), (0, a3), (0, 1), (0, (a1 + 1)), (9, 0), (9, 0), (9, 0), (9, 0)], [(0, (-1))], _, _, _)
        exact ev_ret rfl (by decide) (by decide) ⟨⟨_, rfl, by omega, by omega, g74303, k74303⟩, fun r hr h0 => by cases hr; exfalso; omega, fun r hr => by cases hr; exact ⟨_, (((jw_ne e74303 (Or.inr (by decide))).trans ew1)), by omega, by omega, (Fr.kp (Fr.rf _ _) ((Kp.rf [(42, 0)] _).wr e74303 rfl) (fun _ => rfl) (fun _ => rfl) (fun _ => rfl) (fun _ => rfl)), fun h0 => by exfalso; omega, fun h0 => by exfalso; omega⟩⟩
set_option maxHeartbeats 4000000 in
theorem s271i_s_l {G : GH} {h : JH} {l0 : Int} (ll0 : 0 ≤ l0) (ul0 : l0 ≤ 6) {b0 : Int} (lb0 : 1 ≤ b0) (ub0 : b0 ≤ 30000000) {a1 : Int} (la1 : 0 ≤ a1) (ua1 : a1 ≤ 202) {a2 : Int} (la2 : 0 ≤ a2) (ua2 : a2 ≤ 15) {a3 : Int} (la3 : 0 ≤ a3) (ua3 : a3 ≤ 12) {w0 : Int} (ew0 : h.2.2 42 9 = w0) (lw0 : 0 ≤ w0) (uw0 : w0 ≤ 5) {w1 : Int} (ew1 : h.2.2 42 21 = w1) (lw1 : 0 ≤ w1) (uw1 : w1 ≤ 99) (F0 : (b0 + w1) ≤ 200000000) {S : List Nat} (hI : Iv h) (hL : Lv h l0 a1) (hb : NB a3 = b0) (hS : Sk a2 S) (hq : h.2.2 54 (a1).toNat = 33) {M : Int} (hM : M = (7 * a3 - l0)) {d : Nat} (hd : 371 ≤ d) (rih : ∀ {G : GH} {h : JH} (g : Gd G h) {l0 : Int} (ll0 : 0 ≤ l0) (ul0 : l0 ≤ 6) {b0 : Int} (lb0 : 1 ≤ b0) (ub0 : b0 ≤ 30000000) {a1 : Int} (la1 : 0 ≤ a1) (ua1 : a1 ≤ 202) {a2 : Int} (la2 : 0 ≤ a2) (ua2 : a2 ≤ 15) {a3 : Int} (la3 : 0 ≤ a3) (ua3 : a3 ≤ 12) {w0 : Int} (ew0 : h.2.2 42 9 = w0) (lw0 : 0 ≤ w0) (uw0 : w0 ≤ 5) {w1 : Int} (ew1 : h.2.2 42 21 = w1) (lw1 : 0 ≤ w1) (uw1 : w1 ≤ 99) (F0 : (b0 + w1) ≤ 200000000) {S : List Nat} (hI : Iv h) (hL : Lv h l0 a1) (hb : NB a3 = b0) (hS : Sk a2 S) (hm : M + 1 ≤ (7 * a3 - l0)), jOk d 0 0 272 [(2, 42), (0, a1), (0, a2), (0, a3), (0, 1)] h (fun v h' => PI G [(42, 21), (42, 22), (49, 0), (50, 0), (51, 0), (52, 0), (53, 0)] h 0 (-1) 200 v h' ∧ (∀ r, v = some (0, r) → 0 ≤ r → Ad h l0 a1 r) ∧ (∀ r, v = some (0, r) → RI h h' w0 w1 a3 b0 S r))) : ∀ N : Nat, (∀ (h1 : JH) (x5 x6 x8 y0 y1 y2 : Int), Gd G h1 → Kp [(42, 21), (42, 22), (49, 0), (50, 0), (51, 0), (52, 0), (53, 0)] h h1 → 0 ≤ a1 → a1 ≤ 197 → 0 ≤ a2 → a2 ≤ 15 → 0 ≤ a3 → a3 ≤ 11 → 0 ≤ x5 → x5 ≤ 3 → 1 ≤ x6 → x6 ≤ 200 → 0 ≤ x8 → x8 ≤ 3 → (w1 + (-y0)) ≤ (-1) → (x5 + (-y1)) ≤ (-1) → (x8 + (-y2)) ≤ 0 → h1.2.2 42 21 = y0 → 1 ≤ y0 → y0 ≤ 200000000 → h1.2.2 42 1 = y1 → 0 ≤ y1 → y1 ≤ 4 → h1.2.2 43 (x5).toNat = y2 → 2 ≤ y2 → y2 ≤ 3 → Ad h l0 a1 x6 → Mb w1 b0 x8 y0 → Fr h h1 (100 * w0 + w1) → PC h1 (w0).toNat (w1).toNat (13 - (a3 + 1)).toNat ((x5).toNat :: S) 2 x5 x8 y0 → (x5).toNat ∉ S → ((-x8) + 3) < N → jEv (jOk (d + 2)) none (fun _ => 0) c271_0 0 0 (fun v h' => PI G [(42, 21), (42, 22), (49, 0), (50, 0), (51, 0), (52, 0), (53, 0)] h 0 (-1) 200 v h' ∧ (∀ r, v = some (0, r) → 0 ≤ r → Ad h l0 a1 r) ∧ (∀ r, v = some (0, r) → RI h h' w0 w1 a3 b0 S r)) (c271_85, [(2, 42), (0, a1), (0, a2), (0, a3), (0, 1), (0, x5), (0, x6), (0, (100 * w0 + w1)), (0, x8)], [], h1, 0, 0)) := by
  intro N
  induction N with
  | zero => exact fun h1 x5 x6 x8 y0 y1 y2 g1 k1 b0 b1 b2 b3 b4 b5 b6 b7 b8 b9 b10 b11 b12 b13 b14 b15 b16 b17 b18 b19 b20 b21 b22 b23 b24 b25 b26 b27 b28 hm => absurd hm (by omega)
  | succ N ih =>
    show _
    intro h1 x5 x6 x8 y0 y1 y2 g1 k1 b0 b1 b2 b3 b4 b5 b6 b7 b8 b9 b10 b11 b12 b13 b14 ey0 ly0 uy0 ey1 ly1 uy1 ey2 ly2 uy2 H0 H1 H2 H3 H4 hm
    obtain ⟨b74636, hb74635, eb74635, lb74635⟩ := NB.split hb (by omega)
    have rm74635 := Mb.room H1 (by omega) eb74635 lb74635
    refine ev_iload rfl ?_
    refine ev_aload_n rfl ?_
    refine g_getp (r := 42) (c := 43) g1 ad42 (by decide) (by decide) rf42_2 ft12_2 ?_
    refine ev_iload rfl ?_
    refine g_ialdv (v := y2) g1 ad43 (by omega) (by omega) (ey2) ?_
    refine ev_icmpge f271_178 (fun c74637 => ?_) (fun c74637 => ?_)
    · refine ev_iload rfl ?_
      exact ev_ret rfl (by decide) (by decide) ⟨⟨_, rfl, by omega, by omega, g1, k1⟩, fun r hr h0 => by cases hr; exact H0, fun r hr => by cases hr; exact ⟨_, (ey0), by omega, by omega, H2, fun h0 => by omega, fun h0 hm => PC.turn (t := x5) H3 (by omega) (ey1) (by omega) H4 (ey2) (by omega) (by omega) (by omega) hm⟩⟩
    · rcases Int.lt_or_le (y0) 100 with c74638 | c74638
      · refine ev_aload_n rfl ?_
        refine ev_iload rfl ?_
        refine ev_iload rfl ?_
        refine ev_iconst ?_
        refine ev_in (d := (d + 1)) (a := 0) (b := 0) (cd' := c268_0) (m := 4) (L0 := [(2, 42), (0, (100 * w0 + w1)), (0, x8), (0, 0)]) (jcall_v (A := [(0, 0), (0, x8), (0, (100 * w0 + w1))]) (S' := []) (r := 42) rfl (g1.lt ad42) (g1.tg ad42) (Nat.le_of_ble_eq_true rfl)) (by decide) ml268 pp268 (Nat.le_of_ble_eq_true rfl) rfl (by decide) (by decide) ?_
        refine ev_iload_n rfl ?_
        refine ev_ifge f268_5 (fun c74639 => ?_) (fun c74639 => absurd c74639 (by omega))
        refine ev_aload_n rfl ?_
        refine g_getp (r := 42) (c := 51) g1 ad42 (by decide) (by decide) rf42_13 ft12_13 ?_
        refine ev_iconst ?_
        refine ev_iload_n rfl ?_
        refine ev_imul (r := (400 * w0 + 4 * w1)) (by unfold w32; omega) ?_
        refine ev_iload_n rfl ?_
        refine ev_iadd (r := (400 * w0 + 4 * w1 + x8)) (by unfold w32; omega) ?_
        refine ev_aload_n rfl ?_
        refine g_getv (r := 42) (v := y0) g1 ad42 (by decide) ft12_21 (ey0) ?_
        refine ev_i2b (r := y0) (by unfold w8; omega) ?_
        refine ev_bastG (r := 51) (j := ((400 * w0 + 4 * w1 + x8)).toNat) (w := y0) (g1.lt ad51) (g1.tg ad51) (by omega) (by rw [g1.ln ad51]; omega) (by unfold w8; omega) (fun h74640 e74640 => ?_)
        have g74640 := g1.s51 e74640 (by rw [(((k1.v (by decide)).trans ew0))]; omega) (by omega) (by omega)
        have k74640 := k1.wr e74640 rfl
        refine ev_aload_n rfl ?_
        refine g_getp (r := 42) (c := 52) g74640 ad42 (by decide) (by decide) rf42_14 ft12_14 ?_
        refine ev_iconst ?_
        refine ev_iload_n rfl ?_
        refine ev_imul (r := (400 * w0 + 4 * w1)) (by unfold w32; omega) ?_
        refine ev_iload_n rfl ?_
        refine ev_iadd (r := (400 * w0 + 4 * w1 + x8)) (by unfold w32; omega) ?_
        refine ev_iload_n rfl ?_
        refine g_iast g74640 ad52 rt52 (fun _ => rfl) (by omega) (by omega) (by omega) (by omega) (fun h74641 e74641 g74641 => ?_)
        have k74641 := k74640.wr e74641 rfl
        refine ev_ret rfl (by decide) (by decide) ?_
        show jEv _ _ _ _ _ _ _ (_, [(2, 42), (0, a1), (0, a2), (0, a3), (0, 1), (0, x5), (0, x6), (0, (100 * w0 + w1)), (0, x8)], [], _, _, _)
        refine ev_aload_n rfl ?_
        refine ev_iload rfl ?_
        refine ev_iload_n rfl ?_
        refine ev_iconst ?_
        refine ev_iload rfl ?_
        refine g_ishlB (a' := 1) (a := 1) (b := 3) (hi := 8) (by omega) (by omega) (by omega) (by omega) (by decide) (by decide) (fun v74642 ev74642 lv74642 uv74642 => ?_)
        refine g_iorB (k := 4) (hi := 15) (by decide) (by decide) (by omega) (by omega) (by omega) (by omega) (fun v74643 ev74643 lv74643 uv74643 => ?_)
        refine ev_iload_n rfl ?_
        refine ev_iconst ?_
        refine ev_iadd (r := (a3 + 1)) (by unfold w32; omega) ?_
        refine ev_iload rfl ?_
        refine ev_call (jcall_v (A := [(0, 1), (0, (a3 + 1)), (0, v74643), (0, x6)]) (S' := []) (r := 42) rfl (g74641.lt ad42) (g74641.tg ad42) (Nat.le_of_ble_eq_true rfl)) (jOk_le (by omega) (rih g74641 (by omega) (by omega) (by omega) (by omega) (by omega) (by omega) (by omega) (by omega) (by omega) (by omega) (((jw_ne e74641 (Or.inl (by decide))).trans ((jw_ne e74640 (Or.inl (by decide))).trans ((k1.v (by decide)).trans ew0)))) (by omega) (by omega) (((jw_ne e74641 (Or.inl (by decide))).trans ((jw_ne e74640 (Or.inl (by decide))).trans ey0))) (by omega) (by omega) (l0 := l0) (b0 := b74636) (by omega) (Iv.kp hI k74641 (fun _ => rfl) (fun _ => rfl) rfl) (Lv.at hL H0 k74641 (fun _ => rfl) rfl) hb74635 (Sk.cons hS (by omega) (by omega) (by omega) (by omega) ev74642 ev74643) (by omega))) (by decide) (by decide) (fun w74644 h74644 q74644 => ?_)
        obtain ⟨q74644, ad74644, ro74644⟩ := q74644
        obtain ⟨v74645, rfl, lv74645, uv74645, g74644, kk74644⟩ := q74644
        have ad74644 := ad74644 _ rfl
        obtain ⟨m74646, em74646, lm74646, um74646, fr74644, pm74644, tr74644⟩ := ro74644 _ rfl
        have k74644 := k74641.tr kk74644 (by decide)
        show jEv _ _ _ _ _ _ _ (_, [(2, 42), (0, a1), (0, a2), (0, a3), (0, 1), (0, x5), (0, x6), (0, (100 * w0 + w1)), (0, x8)], [(0, v74645)], _, _, _)
        refine ev_istore (L' := [(2, 42), (0, a1), (0, a2), (0, a3), (0, 1), (0, x5), (0, v74645), (0, (100 * w0 + w1)), (0, x8)]) (Nat.le_of_ble_eq_true rfl) rfl ?_
        refine ev_iload rfl ?_
        refine ev_ifge f271_132 (fun c74647 => ?_) (fun c74647 => ?_)
        · refine ev_aload_n rfl ?_
          refine ev_iload rfl ?_
          refine ev_in (d := (d + 1)) (a := 0) (b := 0) (cd' := c264_0) (m := 2) (L0 := [(2, 42), (0, v74645)]) (jcall_v (A := [(0, v74645)]) (S' := []) (r := 42) rfl (g74644.lt ad42) (g74644.tg ad42) (Nat.le_of_ble_eq_true rfl)) (by decide) ml264 pp264 (Nat.le_of_ble_eq_true rfl) rfl (by decide) (by decide) ?_
          refine ev_iload_n rfl ?_
          refine ev_aload_n rfl ?_
          obtain ⟨v74648, ev74648, lv74648, uv74648⟩ := g74644.rd ad42 (show 17 < 66 by decide) rf42_17
          refine g_getv (r := 42) (v := v74648) g74644 ad42 (by decide) ft12_17 ev74648 ?_
          refine ev_icmpge f264_17 (fun c74649 => ?_) (fun c74649 => ?_)
          · refine ev_iconst ?_
            refine ev_ret rfl (by decide) (by decide) ?_
            show jEv _ _ _ _ _ _ _ (_, [(2, 42), (0, a1), (0, a2), (0, a3), (0, 1), (0, x5), (0, v74645), (0, (100 * w0 + w1)), (0, x8)], [(0, (-1))], _, _, _)
            refine ev_iload rfl ?_
            refine ev_iconst ?_
            refine ev_iadd (r := (x8 + 1)) (by unfold w32; omega) ?_
            refine ev_aload_n rfl ?_
            refine g_getp (r := 42) (c := 43) g74644 ad42 (by decide) (by decide) rf42_2 ft12_2 ?_
            refine ev_iload rfl ?_
            refine g_ialdv (v := y2) g74644 ad43 (by omega) (by omega) (((kk74644.v rfl).trans ((jw_ne e74641 (Or.inl (by decide))).trans ((jw_ne e74640 (Or.inl (by decide))).trans ey2)))) ?_
            refine ev_icmpge f271_157 (fun c74650 => ?_) (fun c74650 => ?_)
            · refine ev_bipush ?_
              refine ev_icmpeq f271_169 (fun c74651 => absurd c74651 (by omega)) (fun c74651 => ?_)
              refine ev_aload_n rfl ?_
              refine ev_iload rfl ?_
              refine ev_in (d := (d + 1)) (a := 0) (b := 0) (cd' := c266_0) (m := 2) (L0 := [(2, 42), (0, v74645)]) (jcall_v (A := [(0, v74645)]) (S' := []) (r := 42) rfl (g74644.lt ad42) (g74644.tg ad42) (Nat.le_of_ble_eq_true rfl)) (by decide) ml266 pp266 (Nat.le_of_ble_eq_true rfl) rfl (by decide) (by decide) ?_
              refine ev_aload_n rfl ?_
              refine ev_iload_n rfl ?_
              refine g_putf (r := 42) g74644 ad42 (by decide) ft12_20 (by decide) (fun e => absurd e nz12_20) rf42_20 (by decide) (by omega) (by omega) (fun h74652 e74652 g74652 => ?_)
              have k74652 := k74644.wr e74652 rfl
              refine ev_iconst ?_
              refine ev_ret rfl (by decide) (by decide) ?_
              show jEv _ _ _ _ _ _ _ (_, [(2, 42), (0, a1), (0, a2), (0, a3), (0, 1), (0, x5), (0, v74645), (0, (100 * w0 + w1)), (0, x8)], [(0, (-1))], _, _, _)
              exact ev_ret rfl (by decide) (by decide) ⟨⟨_, rfl, by omega, by omega, g74652, k74652⟩, fun r hr h0 => by cases hr; exfalso; omega, fun r hr => by cases hr; exact ⟨_, (((jw_ne e74652 (Or.inr (by decide))).trans em74646)), by omega, by omega, (Fr.kp (Fr.tr (Fr.kp (Fr.w (i := (400 * w0 + 4 * w1 + x8)) H2 e74640 (by omega) (by omega)) ((Kp.rf [(52, 0)] _).wr e74641 rfl) (fun _ => rfl) (fun _ => rfl) (fun _ => rfl) (fun _ => rfl)) fr74644 (by omega)) ((Kp.rf [(42, 0)] _).wr e74652 rfl) (fun _ => rfl) (fun _ => rfl) (fun _ => rfl) (fun _ => rfl)), fun h0 => by exfalso; omega, fun h0 => by exfalso; omega⟩⟩
            · refine ev_bipush ?_
              refine ev_goto f271_159 ?_
              refine ev_icmpeq f271_169 (fun c74653 => absurd c74653 (by omega)) (fun c74653 => ?_)
              refine ev_aload_n rfl ?_
              refine ev_iload rfl ?_
              refine ev_in (d := (d + 1)) (a := 0) (b := 0) (cd' := c266_0) (m := 2) (L0 := [(2, 42), (0, v74645)]) (jcall_v (A := [(0, v74645)]) (S' := []) (r := 42) rfl (g74644.lt ad42) (g74644.tg ad42) (Nat.le_of_ble_eq_true rfl)) (by decide) ml266 pp266 (Nat.le_of_ble_eq_true rfl) rfl (by decide) (by decide) ?_
              refine ev_aload_n rfl ?_
              refine ev_iload_n rfl ?_
              refine g_putf (r := 42) g74644 ad42 (by decide) ft12_20 (by decide) (fun e => absurd e nz12_20) rf42_20 (by decide) (by omega) (by omega) (fun h74654 e74654 g74654 => ?_)
              have k74654 := k74644.wr e74654 rfl
              refine ev_iconst ?_
              refine ev_ret rfl (by decide) (by decide) ?_
              show jEv _ _ _ _ _ _ _ (_, [(2, 42), (0, a1), (0, a2), (0, a3), (0, 1), (0, x5), (0, v74645), (0, (100 * w0 + w1)), (0, x8)], [(0, (-1))], _, _, _)
              exact ev_ret rfl (by decide) (by decide) ⟨⟨_, rfl, by omega, by omega, g74654, k74654⟩, fun r hr h0 => by cases hr; exfalso; omega, fun r hr => by cases hr; exact ⟨_, (((jw_ne e74654 (Or.inr (by decide))).trans em74646)), by omega, by omega, (Fr.kp (Fr.tr (Fr.kp (Fr.w (i := (400 * w0 + 4 * w1 + x8)) H2 e74640 (by omega) (by omega)) ((Kp.rf [(52, 0)] _).wr e74641 rfl) (fun _ => rfl) (fun _ => rfl) (fun _ => rfl) (fun _ => rfl)) fr74644 (by omega)) ((Kp.rf [(42, 0)] _).wr e74654 rfl) (fun _ => rfl) (fun _ => rfl) (fun _ => rfl) (fun _ => rfl)), fun h0 => by exfalso; omega, fun h0 => by exfalso; omega⟩⟩
          · refine ev_aload_n rfl ?_
            refine g_getp (r := 42) (c := 54) g74644 ad42 (by decide) (by decide) rf42_16 ft12_16 ?_
            refine ev_iload_n rfl ?_
            refine g_bald g74644 ad54 rt54 (by omega) (by omega) (fun v74655 ev74655 lv74655 uv74655 => ?_)
            refine ev_goto f264_18 ?_
            refine ev_ret rfl (by decide) (by decide) ?_
            show jEv _ _ _ _ _ _ _ (_, [(2, 42), (0, a1), (0, a2), (0, a3), (0, 1), (0, x5), (0, v74645), (0, (100 * w0 + w1)), (0, x8)], [(0, v74655)], _, _, _)
            refine ev_iload rfl ?_
            refine ev_iconst ?_
            refine ev_iadd (r := (x8 + 1)) (by unfold w32; omega) ?_
            refine ev_aload_n rfl ?_
            refine g_getp (r := 42) (c := 43) g74644 ad42 (by decide) (by decide) rf42_2 ft12_2 ?_
            refine ev_iload rfl ?_
            refine g_ialdv (v := y2) g74644 ad43 (by omega) (by omega) (((kk74644.v rfl).trans ((jw_ne e74641 (Or.inl (by decide))).trans ((jw_ne e74640 (Or.inl (by decide))).trans ey2)))) ?_
            refine ev_icmpge f271_157 (fun c74656 => ?_) (fun c74656 => ?_)
            · refine ev_bipush ?_
              refine ev_icmpeq f271_169 (fun c74657 => ?_) (fun c74657 => ?_)
              · refine ev_iinc (w := (v74645 + 1)) (L' := [(2, 42), (0, a1), (0, a2), (0, a3), (0, 1), (0, x5), (0, (v74645 + 1)), (0, (100 * w0 + w1)), (0, x8)]) rfl (by unfold w32; omega) rfl ?_
                refine ev_iinc (w := (x8 + 1)) (L' := [(2, 42), (0, a1), (0, a2), (0, a3), (0, 1), (0, x5), (0, (v74645 + 1)), (0, (100 * w0 + w1)), (0, (x8 + 1))]) rfl (by unfold w32; omega) rfl ?_
                refine ev_goto f271_85 ?_
                exact ih _ _ _ _ _ _ _ g74644 k74644 (by omega) (by omega) (by omega) (by omega) (by omega) (by omega) (by omega) (by omega) (by omega) (by omega) (by omega) (by omega) (by omega) (by omega) (by omega) (em74646) (by omega) (by omega) (((kk74644.v (by decide)).trans ((jw_ne e74641 (Or.inl (by decide))).trans ((jw_ne e74640 (Or.inl (by decide))).trans ey1)))) (by omega) (by omega) (((kk74644.v rfl).trans ((jw_ne e74641 (Or.inl (by decide))).trans ((jw_ne e74640 (Or.inl (by decide))).trans ey2)))) (by omega) (by omega) (Ad.step (r' := (v74645 + 1)) (Ad.tr H0 k74641 (fun _ => rfl) (ad74644 (by omega))) (by omega) k74644 (fun _ => rfl) (ev74655) (by omega) (by omega) (by omega)) (Mb.step H1 eb74635 um74646 (by omega)) (Fr.tr (Fr.kp (Fr.w (i := (400 * w0 + 4 * w1 + x8)) H2 e74640 (by omega) (by omega)) ((Kp.rf [(52, 0)] _).wr e74641 rfl) (fun _ => rfl) (fun _ => rfl) (fun _ => rfl) (fun _ => rfl)) fr74644 (by omega)) (PC.step (i := (100 * w0 + w1)) (j := (400 * w0 + 4 * w1 + x8)) H3 (by omega) (by omega) (by omega) (by omega) (by omega) (by omega) (by omega) e74640 ((Kp.rf [(52, 0)] _).wr e74641 rfl) (fun _ => rfl) (fun _ => rfl) (fun _ => rfl) (fun _ => rfl) rfl (fun _ => rfl) kk74644 rfl (fun _ => rfl) fr74644 lm74646 (tr74644 (by omega)) (by omega)) H4 (by omega)
              · refine ev_aload_n rfl ?_
                refine ev_iload rfl ?_
                refine ev_in (d := (d + 1)) (a := 0) (b := 0) (cd' := c266_0) (m := 2) (L0 := [(2, 42), (0, v74645)]) (jcall_v (A := [(0, v74645)]) (S' := []) (r := 42) rfl (g74644.lt ad42) (g74644.tg ad42) (Nat.le_of_ble_eq_true rfl)) (by decide) ml266 pp266 (Nat.le_of_ble_eq_true rfl) rfl (by decide) (by decide) ?_
                refine ev_aload_n rfl ?_
                refine ev_iload_n rfl ?_
                refine g_putf (r := 42) g74644 ad42 (by decide) ft12_20 (by decide) (fun e => absurd e nz12_20) rf42_20 (by decide) (by omega) (by omega) (fun h74658 e74658 g74658 => ?_)
                have k74658 := k74644.wr e74658 rfl
                refine ev_iconst ?_
                refine ev_ret rfl (by decide) (by decide) ?_
                show jEv _ _ _ _ _ _ _ (_, [(2, 42), (0, a1), (0, a2), (0, a3), (0, 1), (0, x5), (0, v74645), (0, (100 * w0 + w1)), (0, x8)], [(0, (-1))], _, _, _)
                exact ev_ret rfl (by decide) (by decide) ⟨⟨_, rfl, by omega, by omega, g74658, k74658⟩, fun r hr h0 => by cases hr; exfalso; omega, fun r hr => by cases hr; exact ⟨_, (((jw_ne e74658 (Or.inr (by decide))).trans em74646)), by omega, by omega, (Fr.kp (Fr.tr (Fr.kp (Fr.w (i := (400 * w0 + 4 * w1 + x8)) H2 e74640 (by omega) (by omega)) ((Kp.rf [(52, 0)] _).wr e74641 rfl) (fun _ => rfl) (fun _ => rfl) (fun _ => rfl) (fun _ => rfl)) fr74644 (by omega)) ((Kp.rf [(42, 0)] _).wr e74658 rfl) (fun _ => rfl) (fun _ => rfl) (fun _ => rfl) (fun _ => rfl)), fun h0 => by exfalso; omega, fun h0 => by exfalso; omega⟩⟩
            · refine ev_bipush ?_
              refine ev_goto f271_159 ?_
              refine ev_icmpeq f271_169 (fun c74659 => ?_) (fun c74659 => ?_)
              · refine ev_iinc (w := (v74645 + 1)) (L' := [(2, 42), (0, a1), (0, a2), (0, a3), (0, 1), (0, x5), (0, (v74645 + 1)), (0, (100 * w0 + w1)), (0, x8)]) rfl (by unfold w32; omega) rfl ?_
                refine ev_iinc (w := (x8 + 1)) (L' := [(2, 42), (0, a1), (0, a2), (0, a3), (0, 1), (0, x5), (0, (v74645 + 1)), (0, (100 * w0 + w1)), (0, (x8 + 1))]) rfl (by unfold w32; omega) rfl ?_
                refine ev_goto f271_85 ?_
                exact ih _ _ _ _ _ _ _ g74644 k74644 (by omega) (by omega) (by omega) (by omega) (by omega) (by omega) (by omega) (by omega) (by omega) (by omega) (by omega) (by omega) (by omega) (by omega) (by omega) (em74646) (by omega) (by omega) (((kk74644.v (by decide)).trans ((jw_ne e74641 (Or.inl (by decide))).trans ((jw_ne e74640 (Or.inl (by decide))).trans ey1)))) (by omega) (by omega) (((kk74644.v rfl).trans ((jw_ne e74641 (Or.inl (by decide))).trans ((jw_ne e74640 (Or.inl (by decide))).trans ey2)))) (by omega) (by omega) (Ad.step (r' := (v74645 + 1)) (Ad.tr H0 k74641 (fun _ => rfl) (ad74644 (by omega))) (by omega) k74644 (fun _ => rfl) (ev74655) (by omega) (by omega) (by omega)) (Mb.step H1 eb74635 um74646 (by omega)) (Fr.tr (Fr.kp (Fr.w (i := (400 * w0 + 4 * w1 + x8)) H2 e74640 (by omega) (by omega)) ((Kp.rf [(52, 0)] _).wr e74641 rfl) (fun _ => rfl) (fun _ => rfl) (fun _ => rfl) (fun _ => rfl)) fr74644 (by omega)) (PC.step (i := (100 * w0 + w1)) (j := (400 * w0 + 4 * w1 + x8)) H3 (by omega) (by omega) (by omega) (by omega) (by omega) (by omega) (by omega) e74640 ((Kp.rf [(52, 0)] _).wr e74641 rfl) (fun _ => rfl) (fun _ => rfl) (fun _ => rfl) (fun _ => rfl) rfl (fun _ => rfl) kk74644 rfl (fun _ => rfl) fr74644 lm74646 (tr74644 (by omega)) (by omega)) H4 (by omega)
              · refine ev_aload_n rfl ?_
                refine ev_iload rfl ?_
                refine ev_in (d := (d + 1)) (a := 0) (b := 0) (cd' := c266_0) (m := 2) (L0 := [(2, 42), (0, v74645)]) (jcall_v (A := [(0, v74645)]) (S' := []) (r := 42) rfl (g74644.lt ad42) (g74644.tg ad42) (Nat.le_of_ble_eq_true rfl)) (by decide) ml266 pp266 (Nat.le_of_ble_eq_true rfl) rfl (by decide) (by decide) ?_
                refine ev_aload_n rfl ?_
                refine ev_iload_n rfl ?_
                refine g_putf (r := 42) g74644 ad42 (by decide) ft12_20 (by decide) (fun e => absurd e nz12_20) rf42_20 (by decide) (by omega) (by omega) (fun h74660 e74660 g74660 => ?_)
                have k74660 := k74644.wr e74660 rfl
                refine ev_iconst ?_
                refine ev_ret rfl (by decide) (by decide) ?_
                show jEv _ _ _ _ _ _ _ (_, [(2, 42), (0, a1), (0, a2), (0, a3), (0, 1), (0, x5), (0, v74645), (0, (100 * w0 + w1)), (0, x8)], [(0, (-1))], _, _, _)
                exact ev_ret rfl (by decide) (by decide) ⟨⟨_, rfl, by omega, by omega, g74660, k74660⟩, fun r hr h0 => by cases hr; exfalso; omega, fun r hr => by cases hr; exact ⟨_, (((jw_ne e74660 (Or.inr (by decide))).trans em74646)), by omega, by omega, (Fr.kp (Fr.tr (Fr.kp (Fr.w (i := (400 * w0 + 4 * w1 + x8)) H2 e74640 (by omega) (by omega)) ((Kp.rf [(52, 0)] _).wr e74641 rfl) (fun _ => rfl) (fun _ => rfl) (fun _ => rfl) (fun _ => rfl)) fr74644 (by omega)) ((Kp.rf [(42, 0)] _).wr e74660 rfl) (fun _ => rfl) (fun _ => rfl) (fun _ => rfl) (fun _ => rfl)), fun h0 => by exfalso; omega, fun h0 => by exfalso; omega⟩⟩
        · refine ev_iconst ?_
          exact ev_ret rfl (by decide) (by decide) ⟨⟨_, rfl, by omega, by omega, g74644, k74644⟩, fun r hr h0 => by cases hr; exfalso; omega, fun r hr => by cases hr; exact ⟨_, (em74646), by omega, by omega, (Fr.tr (Fr.kp (Fr.w (i := (400 * w0 + 4 * w1 + x8)) H2 e74640 (by omega) (by omega)) ((Kp.rf [(52, 0)] _).wr e74641 rfl) (fun _ => rfl) (fun _ => rfl) (fun _ => rfl) (fun _ => rfl)) fr74644 (by omega)), fun h0 => by exfalso; omega, fun h0 => by exfalso; omega⟩⟩
      · refine ev_aload_n rfl ?_
        refine ev_iload rfl ?_
        refine ev_iload rfl ?_
        refine ev_iconst ?_
        refine ev_in (d := (d + 1)) (a := 0) (b := 0) (cd' := c268_0) (m := 4) (L0 := [(2, 42), (0, (100 * w0 + w1)), (0, x8), (0, 0)]) (jcall_v (A := [(0, 0), (0, x8), (0, (100 * w0 + w1))]) (S' := []) (r := 42) rfl (g1.lt ad42) (g1.tg ad42) (Nat.le_of_ble_eq_true rfl)) (by decide) ml268 pp268 (Nat.le_of_ble_eq_true rfl) rfl (by decide) (by decide) ?_
        refine ev_iload_n rfl ?_
        refine ev_ifge f268_5 (fun c74661 => ?_) (fun c74661 => absurd c74661 (by omega))
        refine ev_aload_n rfl ?_
        refine g_getp (r := 42) (c := 51) g1 ad42 (by decide) (by decide) rf42_13 ft12_13 ?_
        refine ev_iconst ?_
        refine ev_iload_n rfl ?_
        refine ev_imul (r := (400 * w0 + 4 * w1)) (by unfold w32; omega) ?_
        refine ev_iload_n rfl ?_
        refine ev_iadd (r := (400 * w0 + 4 * w1 + x8)) (by unfold w32; omega) ?_
        refine ev_aload_n rfl ?_
        refine g_getv (r := 42) (v := y0) g1 ad42 (by decide) ft12_21 (ey0) ?_
        refine g_i2bG (fun v74662 ev74662 lv74662 uv74662 => ?_)
        refine ev_bastG (r := 51) (j := ((400 * w0 + 4 * w1 + x8)).toNat) (w := v74662) (g1.lt ad51) (g1.tg ad51) (by omega) (by rw [g1.ln ad51]; omega) (by unfold w8; omega) (fun h74663 e74663 => ?_)
        have g74663 := g1.s51 e74663 (by rw [(((k1.v (by decide)).trans ew0))]; omega) (by omega) (by omega)
        have k74663 := k1.wr e74663 rfl
        refine ev_aload_n rfl ?_
        refine g_getp (r := 42) (c := 52) g74663 ad42 (by decide) (by decide) rf42_14 ft12_14 ?_
        refine ev_iconst ?_
        refine ev_iload_n rfl ?_
        refine ev_imul (r := (400 * w0 + 4 * w1)) (by unfold w32; omega) ?_
        refine ev_iload_n rfl ?_
        refine ev_iadd (r := (400 * w0 + 4 * w1 + x8)) (by unfold w32; omega) ?_
        refine ev_iload_n rfl ?_
        refine g_iast g74663 ad52 rt52 (fun _ => rfl) (by omega) (by omega) (by omega) (by omega) (fun h74664 e74664 g74664 => ?_)
        have k74664 := k74663.wr e74664 rfl
        refine ev_ret rfl (by decide) (by decide) ?_
        show jEv _ _ _ _ _ _ _ (_, [(2, 42), (0, a1), (0, a2), (0, a3), (0, 1), (0, x5), (0, x6), (0, (100 * w0 + w1)), (0, x8)], [], _, _, _)
        refine ev_aload_n rfl ?_
        refine ev_iload rfl ?_
        refine ev_iload_n rfl ?_
        refine ev_iconst ?_
        refine ev_iload rfl ?_
        refine g_ishlB (a' := 1) (a := 1) (b := 3) (hi := 8) (by omega) (by omega) (by omega) (by omega) (by decide) (by decide) (fun v74665 ev74665 lv74665 uv74665 => ?_)
        refine g_iorB (k := 4) (hi := 15) (by decide) (by decide) (by omega) (by omega) (by omega) (by omega) (fun v74666 ev74666 lv74666 uv74666 => ?_)
        refine ev_iload_n rfl ?_
        refine ev_iconst ?_
        refine ev_iadd (r := (a3 + 1)) (by unfold w32; omega) ?_
        refine ev_iload rfl ?_
        refine ev_call (jcall_v (A := [(0, 1), (0, (a3 + 1)), (0, v74666), (0, x6)]) (S' := []) (r := 42) rfl (g74664.lt ad42) (g74664.tg ad42) (Nat.le_of_ble_eq_true rfl)) (jOk_le (by omega) (s272o g74664 (by omega) (by omega) (by omega) (by omega) (by omega) (by omega) (by omega) (by omega) (by omega) (by omega) (((jw_ne e74664 (Or.inl (by decide))).trans ((jw_ne e74663 (Or.inl (by decide))).trans ey0))) (by omega) (by omega) (l0 := l0) (b0 := b74636) (by omega) (Iv.kp hI k74664 (fun _ => rfl) (fun _ => rfl) rfl) (Lv.at hL H0 k74664 (fun _ => rfl) rfl) hb74635)) (by decide) (by decide) (fun w74667 h74667 q74667 => ?_)
        obtain ⟨q74667, ad74667, ro74667⟩ := q74667
        obtain ⟨v74668, rfl, lv74668, uv74668, g74667, kk74667⟩ := q74667
        have ad74667 := ad74667 _ rfl
        obtain ⟨m74669, em74669, lm74669, um74669, pm74667⟩ := ro74667 _ rfl
        have k74667 := k74664.tr kk74667 (by decide)
        show jEv _ _ _ _ _ _ _ (_, [(2, 42), (0, a1), (0, a2), (0, a3), (0, 1), (0, x5), (0, x6), (0, (100 * w0 + w1)), (0, x8)], [(0, v74668)], _, _, _)
        refine ev_istore (L' := [(2, 42), (0, a1), (0, a2), (0, a3), (0, 1), (0, x5), (0, v74668), (0, (100 * w0 + w1)), (0, x8)]) (Nat.le_of_ble_eq_true rfl) rfl ?_
        refine ev_iload rfl ?_
        refine ev_ifge f271_132 (fun c74670 => ?_) (fun c74670 => ?_)
        · refine ev_aload_n rfl ?_
          refine ev_iload rfl ?_
          refine ev_in (d := (d + 1)) (a := 0) (b := 0) (cd' := c264_0) (m := 2) (L0 := [(2, 42), (0, v74668)]) (jcall_v (A := [(0, v74668)]) (S' := []) (r := 42) rfl (g74667.lt ad42) (g74667.tg ad42) (Nat.le_of_ble_eq_true rfl)) (by decide) ml264 pp264 (Nat.le_of_ble_eq_true rfl) rfl (by decide) (by decide) ?_
          refine ev_iload_n rfl ?_
          refine ev_aload_n rfl ?_
          obtain ⟨v74671, ev74671, lv74671, uv74671⟩ := g74667.rd ad42 (show 17 < 66 by decide) rf42_17
          refine g_getv (r := 42) (v := v74671) g74667 ad42 (by decide) ft12_17 ev74671 ?_
          refine ev_icmpge f264_17 (fun c74672 => ?_) (fun c74672 => ?_)
          · refine ev_iconst ?_
            refine ev_ret rfl (by decide) (by decide) ?_
            show jEv _ _ _ _ _ _ _ (_, [(2, 42), (0, a1), (0, a2), (0, a3), (0, 1), (0, x5), (0, v74668), (0, (100 * w0 + w1)), (0, x8)], [(0, (-1))], _, _, _)
            refine ev_iload rfl ?_
            refine ev_iconst ?_
            refine ev_iadd (r := (x8 + 1)) (by unfold w32; omega) ?_
            refine ev_aload_n rfl ?_
            refine g_getp (r := 42) (c := 43) g74667 ad42 (by decide) (by decide) rf42_2 ft12_2 ?_
            refine ev_iload rfl ?_
            refine g_ialdv (v := y2) g74667 ad43 (by omega) (by omega) (((kk74667.v rfl).trans ((jw_ne e74664 (Or.inl (by decide))).trans ((jw_ne e74663 (Or.inl (by decide))).trans ey2)))) ?_
            refine ev_icmpge f271_157 (fun c74673 => ?_) (fun c74673 => ?_)
            · refine ev_bipush ?_
              refine ev_icmpeq f271_169 (fun c74674 => absurd c74674 (by omega)) (fun c74674 => ?_)
              refine ev_aload_n rfl ?_
              refine ev_iload rfl ?_
              refine ev_in (d := (d + 1)) (a := 0) (b := 0) (cd' := c266_0) (m := 2) (L0 := [(2, 42), (0, v74668)]) (jcall_v (A := [(0, v74668)]) (S' := []) (r := 42) rfl (g74667.lt ad42) (g74667.tg ad42) (Nat.le_of_ble_eq_true rfl)) (by decide) ml266 pp266 (Nat.le_of_ble_eq_true rfl) rfl (by decide) (by decide) ?_
              refine ev_aload_n rfl ?_
              refine ev_iload_n rfl ?_
              refine g_putf (r := 42) g74667 ad42 (by decide) ft12_20 (by decide) (fun e => absurd e nz12_20) rf42_20 (by decide) (by omega) (by omega) (fun h74675 e74675 g74675 => ?_)
              have k74675 := k74667.wr e74675 rfl
              refine ev_iconst ?_
              refine ev_ret rfl (by decide) (by decide) ?_
              show jEv _ _ _ _ _ _ _ (_, [(2, 42), (0, a1), (0, a2), (0, a3), (0, 1), (0, x5), (0, v74668), (0, (100 * w0 + w1)), (0, x8)], [(0, (-1))], _, _, _)
              exact ev_ret rfl (by decide) (by decide) ⟨⟨_, rfl, by omega, by omega, g74675, k74675⟩, fun r hr h0 => by cases hr; exfalso; omega, fun r hr => by cases hr; exact ⟨_, (((jw_ne e74675 (Or.inr (by decide))).trans em74669)), by omega, by omega, (Fr.kp (Fr.kp (Fr.kp (Fr.w (i := (400 * w0 + 4 * w1 + x8)) H2 e74663 (by omega) (by omega)) ((Kp.rf [(52, 0)] _).wr e74664 rfl) (fun _ => rfl) (fun _ => rfl) (fun _ => rfl) (fun _ => rfl)) kk74667 (fun _ => rfl) (fun _ => rfl) (fun _ => rfl) (fun _ => rfl)) ((Kp.rf [(42, 0)] _).wr e74675 rfl) (fun _ => rfl) (fun _ => rfl) (fun _ => rfl) (fun _ => rfl)), fun h0 => by exfalso; omega, fun h0 => by exfalso; omega⟩⟩
            · refine ev_bipush ?_
              refine ev_goto f271_159 ?_
              refine ev_icmpeq f271_169 (fun c74676 => absurd c74676 (by omega)) (fun c74676 => ?_)
              refine ev_aload_n rfl ?_
              refine ev_iload rfl ?_
              refine ev_in (d := (d + 1)) (a := 0) (b := 0) (cd' := c266_0) (m := 2) (L0 := [(2, 42), (0, v74668)]) (jcall_v (A := [(0, v74668)]) (S' := []) (r := 42) rfl (g74667.lt ad42) (g74667.tg ad42) (Nat.le_of_ble_eq_true rfl)) (by decide) ml266 pp266 (Nat.le_of_ble_eq_true rfl) rfl (by decide) (by decide) ?_
              refine ev_aload_n rfl ?_
              refine ev_iload_n rfl ?_
              refine g_putf (r := 42) g74667 ad42 (by decide) ft12_20 (by decide) (fun e => absurd e nz12_20) rf42_20 (by decide) (by omega) (by omega) (fun h74677 e74677 g74677 => ?_)
              have k74677 := k74667.wr e74677 rfl
              refine ev_iconst ?_
              refine ev_ret rfl (by decide) (by decide) ?_
              show jEv _ _ _ _ _ _ _ (_, [(2, 42), (0, a1), (0, a2), (0, a3), (0, 1), (0, x5), (0, v74668), (0, (100 * w0 + w1)), (0, x8)], [(0, (-1))], _, _, _)
              exact ev_ret rfl (by decide) (by decide) ⟨⟨_, rfl, by omega, by omega, g74677, k74677⟩, fun r hr h0 => by cases hr; exfalso; omega, fun r hr => by cases hr; exact ⟨_, (((jw_ne e74677 (Or.inr (by decide))).trans em74669)), by omega, by omega, (Fr.kp (Fr.kp (Fr.kp (Fr.w (i := (400 * w0 + 4 * w1 + x8)) H2 e74663 (by omega) (by omega)) ((Kp.rf [(52, 0)] _).wr e74664 rfl) (fun _ => rfl) (fun _ => rfl) (fun _ => rfl) (fun _ => rfl)) kk74667 (fun _ => rfl) (fun _ => rfl) (fun _ => rfl) (fun _ => rfl)) ((Kp.rf [(42, 0)] _).wr e74677 rfl) (fun _ => rfl) (fun _ => rfl) (fun _ => rfl) (fun _ => rfl)), fun h0 => by exfalso; omega, fun h0 => by exfalso; omega⟩⟩
          · refine ev_aload_n rfl ?_
            refine g_getp (r := 42) (c := 54) g74667 ad42 (by decide) (by decide) rf42_16 ft12_16 ?_
            refine ev_iload_n rfl ?_
            refine g_bald g74667 ad54 rt54 (by omega) (by omega) (fun v74678 ev74678 lv74678 uv74678 => ?_)
            refine ev_goto f264_18 ?_
            refine ev_ret rfl (by decide) (by decide) ?_
            show jEv _ _ _ _ _ _ _ (_, [(2, 42), (0, a1), (0, a2), (0, a3), (0, 1), (0, x5), (0, v74668), (0, (100 * w0 + w1)), (0, x8)], [(0, v74678)], _, _, _)
            refine ev_iload rfl ?_
            refine ev_iconst ?_
            refine ev_iadd (r := (x8 + 1)) (by unfold w32; omega) ?_
            refine ev_aload_n rfl ?_
            refine g_getp (r := 42) (c := 43) g74667 ad42 (by decide) (by decide) rf42_2 ft12_2 ?_
            refine ev_iload rfl ?_
            refine g_ialdv (v := y2) g74667 ad43 (by omega) (by omega) (((kk74667.v rfl).trans ((jw_ne e74664 (Or.inl (by decide))).trans ((jw_ne e74663 (Or.inl (by decide))).trans ey2)))) ?_
            refine ev_icmpge f271_157 (fun c74679 => ?_) (fun c74679 => ?_)
            · refine ev_bipush ?_
              refine ev_icmpeq f271_169 (fun c74680 => ?_) (fun c74680 => ?_)
              · refine ev_iinc (w := (v74668 + 1)) (L' := [(2, 42), (0, a1), (0, a2), (0, a3), (0, 1), (0, x5), (0, (v74668 + 1)), (0, (100 * w0 + w1)), (0, x8)]) rfl (by unfold w32; omega) rfl ?_
                refine ev_iinc (w := (x8 + 1)) (L' := [(2, 42), (0, a1), (0, a2), (0, a3), (0, 1), (0, x5), (0, (v74668 + 1)), (0, (100 * w0 + w1)), (0, (x8 + 1))]) rfl (by unfold w32; omega) rfl ?_
                refine ev_goto f271_85 ?_
                exact ih _ _ _ _ _ _ _ g74667 k74667 (by omega) (by omega) (by omega) (by omega) (by omega) (by omega) (by omega) (by omega) (by omega) (by omega) (by omega) (by omega) (by omega) (by omega) (by omega) (em74669) (by omega) (by omega) (((kk74667.v (by decide)).trans ((jw_ne e74664 (Or.inl (by decide))).trans ((jw_ne e74663 (Or.inl (by decide))).trans ey1)))) (by omega) (by omega) (((kk74667.v rfl).trans ((jw_ne e74664 (Or.inl (by decide))).trans ((jw_ne e74663 (Or.inl (by decide))).trans ey2)))) (by omega) (by omega) (Ad.step (r' := (v74668 + 1)) (Ad.tr H0 k74664 (fun _ => rfl) (ad74667 (by omega))) (by omega) k74667 (fun _ => rfl) (ev74678) (by omega) (by omega) (by omega)) (Mb.step H1 eb74635 um74669 (by omega)) (Fr.kp (Fr.kp (Fr.w (i := (400 * w0 + 4 * w1 + x8)) H2 e74663 (by omega) (by omega)) ((Kp.rf [(52, 0)] _).wr e74664 rfl) (fun _ => rfl) (fun _ => rfl) (fun _ => rfl) (fun _ => rfl)) kk74667 (fun _ => rfl) (fun _ => rfl) (fun _ => rfl) (fun _ => rfl)) (PC.over (by have := pm74667 (by omega); omega)) H4 (by omega)
              · refine ev_aload_n rfl ?_
                refine ev_iload rfl ?_
                refine ev_in (d := (d + 1)) (a := 0) (b := 0) (cd' := c266_0) (m := 2) (L0 := [(2, 42), (0, v74668)]) (jcall_v (A := [(0, v74668)]) (S' := []) (r := 42) rfl (g74667.lt ad42) (g74667.tg ad42) (Nat.le_of_ble_eq_true rfl)) (by decide) ml266 pp266 (Nat.le_of_ble_eq_true rfl) rfl (by decide) (by decide) ?_
                refine ev_aload_n rfl ?_
                refine ev_iload_n rfl ?_
                refine g_putf (r := 42) g74667 ad42 (by decide) ft12_20 (by decide) (fun e => absurd e nz12_20) rf42_20 (by decide) (by omega) (by omega) (fun h74681 e74681 g74681 => ?_)
                have k74681 := k74667.wr e74681 rfl
                refine ev_iconst ?_
                refine ev_ret rfl (by decide) (by decide) ?_
                show jEv _ _ _ _ _ _ _ (_, [(2, 42), (0, a1), (0, a2), (0, a3), (0, 1), (0, x5), (0, v74668), (0, (100 * w0 + w1)), (0, x8)], [(0, (-1))], _, _, _)
                exact ev_ret rfl (by decide) (by decide) ⟨⟨_, rfl, by omega, by omega, g74681, k74681⟩, fun r hr h0 => by cases hr; exfalso; omega, fun r hr => by cases hr; exact ⟨_, (((jw_ne e74681 (Or.inr (by decide))).trans em74669)), by omega, by omega, (Fr.kp (Fr.kp (Fr.kp (Fr.w (i := (400 * w0 + 4 * w1 + x8)) H2 e74663 (by omega) (by omega)) ((Kp.rf [(52, 0)] _).wr e74664 rfl) (fun _ => rfl) (fun _ => rfl) (fun _ => rfl) (fun _ => rfl)) kk74667 (fun _ => rfl) (fun _ => rfl) (fun _ => rfl) (fun _ => rfl)) ((Kp.rf [(42, 0)] _).wr e74681 rfl) (fun _ => rfl) (fun _ => rfl) (fun _ => rfl) (fun _ => rfl)), fun h0 => by exfalso; omega, fun h0 => by exfalso; omega⟩⟩
            · refine ev_bipush ?_
              refine ev_goto f271_159 ?_
              refine ev_icmpeq f271_169 (fun c74682 => ?_) (fun c74682 => ?_)
              · refine ev_iinc (w := (v74668 + 1)) (L' := [(2, 42), (0, a1), (0, a2), (0, a3), (0, 1), (0, x5), (0, (v74668 + 1)), (0, (100 * w0 + w1)), (0, x8)]) rfl (by unfold w32; omega) rfl ?_
                refine ev_iinc (w := (x8 + 1)) (L' := [(2, 42), (0, a1), (0, a2), (0, a3), (0, 1), (0, x5), (0, (v74668 + 1)), (0, (100 * w0 + w1)), (0, (x8 + 1))]) rfl (by unfold w32; omega) rfl ?_
                refine ev_goto f271_85 ?_
                exact ih _ _ _ _ _ _ _ g74667 k74667 (by omega) (by omega) (by omega) (by omega) (by omega) (by omega) (by omega) (by omega) (by omega) (by omega) (by omega) (by omega) (by omega) (by omega) (by omega) (em74669) (by omega) (by omega) (((kk74667.v (by decide)).trans ((jw_ne e74664 (Or.inl (by decide))).trans ((jw_ne e74663 (Or.inl (by decide))).trans ey1)))) (by omega) (by omega) (((kk74667.v rfl).trans ((jw_ne e74664 (Or.inl (by decide))).trans ((jw_ne e74663 (Or.inl (by decide))).trans ey2)))) (by omega) (by omega) (Ad.step (r' := (v74668 + 1)) (Ad.tr H0 k74664 (fun _ => rfl) (ad74667 (by omega))) (by omega) k74667 (fun _ => rfl) (ev74678) (by omega) (by omega) (by omega)) (Mb.step H1 eb74635 um74669 (by omega)) (Fr.kp (Fr.kp (Fr.w (i := (400 * w0 + 4 * w1 + x8)) H2 e74663 (by omega) (by omega)) ((Kp.rf [(52, 0)] _).wr e74664 rfl) (fun _ => rfl) (fun _ => rfl) (fun _ => rfl) (fun _ => rfl)) kk74667 (fun _ => rfl) (fun _ => rfl) (fun _ => rfl) (fun _ => rfl)) (PC.over (by have := pm74667 (by omega); omega)) H4 (by omega)
              · refine ev_aload_n rfl ?_
                refine ev_iload rfl ?_
                refine ev_in (d := (d + 1)) (a := 0) (b := 0) (cd' := c266_0) (m := 2) (L0 := [(2, 42), (0, v74668)]) (jcall_v (A := [(0, v74668)]) (S' := []) (r := 42) rfl (g74667.lt ad42) (g74667.tg ad42) (Nat.le_of_ble_eq_true rfl)) (by decide) ml266 pp266 (Nat.le_of_ble_eq_true rfl) rfl (by decide) (by decide) ?_
                refine ev_aload_n rfl ?_
                refine ev_iload_n rfl ?_
                refine g_putf (r := 42) g74667 ad42 (by decide) ft12_20 (by decide) (fun e => absurd e nz12_20) rf42_20 (by decide) (by omega) (by omega) (fun h74683 e74683 g74683 => ?_)
                have k74683 := k74667.wr e74683 rfl
                refine ev_iconst ?_
                refine ev_ret rfl (by decide) (by decide) ?_
                show jEv _ _ _ _ _ _ _ (_, [(2, 42), (0, a1), (0, a2), (0, a3), (0, 1), (0, x5), (0, v74668), (0, (100 * w0 + w1)), (0, x8)], [(0, (-1))], _, _, _)
                exact ev_ret rfl (by decide) (by decide) ⟨⟨_, rfl, by omega, by omega, g74683, k74683⟩, fun r hr h0 => by cases hr; exfalso; omega, fun r hr => by cases hr; exact ⟨_, (((jw_ne e74683 (Or.inr (by decide))).trans em74669)), by omega, by omega, (Fr.kp (Fr.kp (Fr.kp (Fr.w (i := (400 * w0 + 4 * w1 + x8)) H2 e74663 (by omega) (by omega)) ((Kp.rf [(52, 0)] _).wr e74664 rfl) (fun _ => rfl) (fun _ => rfl) (fun _ => rfl) (fun _ => rfl)) kk74667 (fun _ => rfl) (fun _ => rfl) (fun _ => rfl) (fun _ => rfl)) ((Kp.rf [(42, 0)] _).wr e74683 rfl) (fun _ => rfl) (fun _ => rfl) (fun _ => rfl) (fun _ => rfl)), fun h0 => by exfalso; omega, fun h0 => by exfalso; omega⟩⟩
        · refine ev_iconst ?_
          exact ev_ret rfl (by decide) (by decide) ⟨⟨_, rfl, by omega, by omega, g74667, k74667⟩, fun r hr h0 => by cases hr; exfalso; omega, fun r hr => by cases hr; exact ⟨_, (em74669), by omega, by omega, (Fr.kp (Fr.kp (Fr.w (i := (400 * w0 + 4 * w1 + x8)) H2 e74663 (by omega) (by omega)) ((Kp.rf [(52, 0)] _).wr e74664 rfl) (fun _ => rfl) (fun _ => rfl) (fun _ => rfl) (fun _ => rfl)) kk74667 (fun _ => rfl) (fun _ => rfl) (fun _ => rfl) (fun _ => rfl)), fun h0 => by exfalso; omega, fun h0 => by exfalso; omega⟩⟩
set_option maxHeartbeats 4000000 in
theorem s271i_s {G : GH} {h : JH} (g : Gd G h) {l0 : Int} (ll0 : 0 ≤ l0) (ul0 : l0 ≤ 6) {b0 : Int} (lb0 : 1 ≤ b0) (ub0 : b0 ≤ 30000000) {a1 : Int} (la1 : 0 ≤ a1) (ua1 : a1 ≤ 202) {a2 : Int} (la2 : 0 ≤ a2) (ua2 : a2 ≤ 15) {a3 : Int} (la3 : 0 ≤ a3) (ua3 : a3 ≤ 12) {w0 : Int} (ew0 : h.2.2 42 9 = w0) (lw0 : 0 ≤ w0) (uw0 : w0 ≤ 5) {w1 : Int} (ew1 : h.2.2 42 21 = w1) (lw1 : 0 ≤ w1) (uw1 : w1 ≤ 99) (F0 : (b0 + w1) ≤ 200000000) {S : List Nat} (hI : Iv h) (hL : Lv h l0 a1) (hb : NB a3 = b0) (hS : Sk a2 S) (hq : h.2.2 54 (a1).toNat = 33) {M : Int} (hM : M = (7 * a3 - l0)) {d : Nat} (hd : 371 ≤ d) (rih : ∀ {G : GH} {h : JH} (g : Gd G h) {l0 : Int} (ll0 : 0 ≤ l0) (ul0 : l0 ≤ 6) {b0 : Int} (lb0 : 1 ≤ b0) (ub0 : b0 ≤ 30000000) {a1 : Int} (la1 : 0 ≤ a1) (ua1 : a1 ≤ 202) {a2 : Int} (la2 : 0 ≤ a2) (ua2 : a2 ≤ 15) {a3 : Int} (la3 : 0 ≤ a3) (ua3 : a3 ≤ 12) {w0 : Int} (ew0 : h.2.2 42 9 = w0) (lw0 : 0 ≤ w0) (uw0 : w0 ≤ 5) {w1 : Int} (ew1 : h.2.2 42 21 = w1) (lw1 : 0 ≤ w1) (uw1 : w1 ≤ 99) (F0 : (b0 + w1) ≤ 200000000) {S : List Nat} (hI : Iv h) (hL : Lv h l0 a1) (hb : NB a3 = b0) (hS : Sk a2 S) (hm : M + 1 ≤ (7 * a3 - l0)), jOk d 0 0 272 [(2, 42), (0, a1), (0, a2), (0, a3), (0, 1)] h (fun v h' => PI G [(42, 21), (42, 22), (49, 0), (50, 0), (51, 0), (52, 0), (53, 0)] h 0 (-1) 200 v h' ∧ (∀ r, v = some (0, r) → 0 ≤ r → Ad h l0 a1 r) ∧ (∀ r, v = some (0, r) → RI h h' w0 w1 a3 b0 S r))) : jOk (d + 3) 0 0 271 [(2, 42), (0, a1), (0, a2), (0, a3), (0, 1)] h (fun v h' => PI G [(42, 21), (42, 22), (49, 0), (50, 0), (51, 0), (52, 0), (53, 0)] h 0 (-1) 200 v h' ∧ (∀ r, v = some (0, r) → 0 ≤ r → Ad h l0 a1 r) ∧ (∀ r, v = some (0, r) → RI h h' w0 w1 a3 b0 S r)) := by
  refine ⟨by decide, by rw [ml271]; exact Nat.le_of_ble_eq_true rfl, ?_⟩
  rw [ml271, pp271]
  show jEv _ none _ c271_0 0 0 _ (c271_0, [(2, 42), (0, a1), (0, a2), (0, a3), (0, 1), (9, 0), (9, 0), (9, 0), (9, 0)], [], h, 0, 0)
  have k0 := Kp.rf [(42, 21), (42, 22), (49, 0), (50, 0), (51, 0), (52, 0), (53, 0)] h
  refine ev_aload_n rfl ?_
  refine ev_iload_n rfl ?_
  refine ev_iconst ?_
  refine ev_iadd (r := (a1 + 1)) (by unfold w32; omega) ?_
  refine ev_in (d := (d + 1)) (a := 0) (b := 0) (cd' := c264_0) (m := 2) (L0 := [(2, 42), (0, (a1 + 1))]) (jcall_v (A := [(0, (a1 + 1))]) (S' := []) (r := 42) rfl (g.lt ad42) (g.tg ad42) (Nat.le_of_ble_eq_true rfl)) (by decide) ml264 pp264 (Nat.le_of_ble_eq_true rfl) rfl (by decide) (by decide) ?_
  refine ev_iload_n rfl ?_
  refine ev_aload_n rfl ?_
  obtain ⟨v74684, ev74684, lv74684, uv74684⟩ := g.rd ad42 (show 17 < 66 by decide) rf42_17
  refine g_getv (r := 42) (v := v74684) g ad42 (by decide) ft12_17 ev74684 ?_
  refine ev_icmpge f264_17 (fun c74685 => ?_) (fun c74685 => ?_)
  · refine ev_iconst ?_
    refine ev_ret rfl (by decide) (by decide) ?_
    show jEv _ _ _ _ _ _ _ (_, [(2, 42), (0, a1), (0, a2), (0, a3), (0, 1), (9, 0), (9, 0), (9, 0), (9, 0)], [(0, (-1))], _, _, _)
    refine ev_bipush ?_
    refine ev_isub (r := (-98)) (by decide) ?_
    refine ev_istore (L' := [(2, 42), (0, a1), (0, a2), (0, a3), (0, 1), (0, (-98)), (9, 0), (9, 0), (9, 0)]) (Nat.le_of_ble_eq_true rfl) rfl ?_
    refine ev_aload_n rfl ?_
    refine ev_iload rfl ?_
    refine ev_in (d := (d + 1)) (a := 0) (b := 0) (cd' := c245_0) (m := 2) (L0 := [(2, 42), (0, (-98))]) (jcall_v (A := [(0, (-98))]) (S' := []) (r := 42) rfl (g.lt ad42) (g.tg ad42) (Nat.le_of_ble_eq_true rfl)) (by decide) ml245 pp245 (Nat.le_of_ble_eq_true rfl) rfl (by decide) (by decide) ?_
    refine ev_iload_n rfl ?_
    refine ev_iconst ?_
    refine ev_aload_n rfl ?_
    obtain ⟨v74686, ev74686, lv74686, uv74686⟩ := g.rd ad42 (show 1 < 66 by decide) rf42_1
    refine g_getv (r := 42) (v := v74686) g ad42 (by decide) ft12_1 ev74686 ?_
    refine ev_iconst ?_
    refine ev_isub (r := (v74686 - 1)) (by unfold w32; omega) ?_
    refine ev_in (d := (d + 0)) (a := 0) (b := 0) (cd' := c242_0) (m := 3) (L0 := [(0, (-98)), (0, 0), (0, (v74686 - 1))]) (jcall_s (A := [(0, (v74686 - 1)), (0, 0), (0, (-98))]) (S' := []) (by decide) rfl (Nat.le_of_ble_eq_true rfl)) (by decide) ml242 pp242 (Nat.le_of_ble_eq_true rfl) rfl (by decide) (by decide) ?_
    refine ev_iload_n rfl ?_
    refine ev_iload_n rfl ?_
    refine ev_icmplt f242_14 (fun c74687 => ?_) (fun c74687 => absurd c74687 (by omega))
    refine ev_iconst ?_
    refine ev_ret rfl (by decide) (by decide) ?_
    show jEv _ _ _ _ _ _ _ (_, [(2, 42), (0, (-98))], [(0, 0)], _, _, _)
    refine ev_ret rfl (by decide) (by decide) ?_
    show jEv _ _ _ _ _ _ _ (_, [(2, 42), (0, a1), (0, a2), (0, a3), (0, 1), (0, (-98)), (9, 0), (9, 0), (9, 0)], [(0, 0)], _, _, _)
    refine ev_ifeq f271_31 (fun c74688 => ?_) (fun c74688 => absurd c74688 (by omega))
    refine ev_aload_n rfl ?_
    refine ev_iload_n rfl ?_
    refine ev_iconst ?_
    refine ev_iadd (r := (a1 + 1)) (by unfold w32; omega) ?_
    refine ev_in (d := (d + 1)) (a := 0) (b := 0) (cd' := c266_0) (m := 2) (L0 := [(2, 42), (0, (a1 + 1))]) (jcall_v (A := [(0, (a1 + 1))]) (S' := []) (r := 42) rfl (g.lt ad42) (g.tg ad42) (Nat.le_of_ble_eq_true rfl)) (by decide) ml266 pp266 (Nat.le_of_ble_eq_true rfl) rfl (by decide) (by decide) ?_
    refine ev_aload_n rfl ?_
    refine ev_iload_n rfl ?_
    refine g_putf (r := 42) g ad42 (by decide) ft12_20 (by decide) (fun e => absurd e nz12_20) rf42_20 (by decide) (by omega) (by omega) (fun h74689 e74689 g74689 => ?_)
    have k74689 := k0.wr e74689 rfl
    refine ev_iconst ?_
    refine ev_ret rfl (by decide) (by decide) ?_
    show jEv _ _ _ _ _ _ _ (_, [(2, 42), (0, a1), (0, a2), (0, a3), (0, 1), (0, (-98)), (9, 0), (9, 0), (9, 0)], [(0, (-1))], _, _, _)
    exact ev_ret rfl (by decide) (by decide) ⟨⟨_, rfl, by omega, by omega, g74689, k74689⟩, fun r hr h0 => by cases hr; exfalso; omega, fun r hr => by cases hr; exact ⟨_, (((jw_ne e74689 (Or.inr (by decide))).trans ew1)), by omega, by omega, (Fr.kp (Fr.rf _ _) ((Kp.rf [(42, 0)] _).wr e74689 rfl) (fun _ => rfl) (fun _ => rfl) (fun _ => rfl) (fun _ => rfl)), fun h0 => by exfalso; omega, fun h0 => by exfalso; omega⟩⟩
  · refine ev_aload_n rfl ?_
    refine g_getp (r := 42) (c := 54) g ad42 (by decide) (by decide) rf42_16 ft12_16 ?_
    refine ev_iload_n rfl ?_
    refine g_bald g ad54 rt54 (by omega) (by omega) (fun v74690 ev74690 lv74690 uv74690 => ?_)
    refine ev_goto f264_18 ?_
    refine ev_ret rfl (by decide) (by decide) ?_
    show jEv _ _ _ _ _ _ _ (_, [(2, 42), (0, a1), (0, a2), (0, a3), (0, 1), (9, 0), (9, 0), (9, 0), (9, 0)], [(0, v74690)], _, _, _)
    refine ev_bipush ?_
    refine ev_isub (r := (v74690 - 97)) (by unfold w32; omega) ?_
    refine ev_istore (L' := [(2, 42), (0, a1), (0, a2), (0, a3), (0, 1), (0, (v74690 - 97)), (9, 0), (9, 0), (9, 0)]) (Nat.le_of_ble_eq_true rfl) rfl ?_
    refine ev_aload_n rfl ?_
    refine ev_iload rfl ?_
    refine ev_in (d := (d + 1)) (a := 0) (b := 0) (cd' := c245_0) (m := 2) (L0 := [(2, 42), (0, (v74690 - 97))]) (jcall_v (A := [(0, (v74690 - 97))]) (S' := []) (r := 42) rfl (g.lt ad42) (g.tg ad42) (Nat.le_of_ble_eq_true rfl)) (by decide) ml245 pp245 (Nat.le_of_ble_eq_true rfl) rfl (by decide) (by decide) ?_
    refine ev_iload_n rfl ?_
    refine ev_iconst ?_
    refine ev_aload_n rfl ?_
    obtain ⟨v74691, ev74691, lv74691, uv74691⟩ := g.rd ad42 (show 1 < 66 by decide) rf42_1
    refine g_getv (r := 42) (v := v74691) g ad42 (by decide) ft12_1 ev74691 ?_
    refine ev_iconst ?_
    refine ev_isub (r := (v74691 - 1)) (by unfold w32; omega) ?_
    refine ev_in (d := (d + 0)) (a := 0) (b := 0) (cd' := c242_0) (m := 3) (L0 := [(0, (v74690 - 97)), (0, 0), (0, (v74691 - 1))]) (jcall_s (A := [(0, (v74691 - 1)), (0, 0), (0, (v74690 - 97))]) (S' := []) (by decide) rfl (Nat.le_of_ble_eq_true rfl)) (by decide) ml242 pp242 (Nat.le_of_ble_eq_true rfl) rfl (by decide) (by decide) ?_
    refine ev_iload_n rfl ?_
    refine ev_iload_n rfl ?_
    refine ev_icmplt f242_14 (fun c74692 => ?_) (fun c74692 => ?_)
    · refine ev_iconst ?_
      refine ev_ret rfl (by decide) (by decide) ?_
      show jEv _ _ _ _ _ _ _ (_, [(2, 42), (0, (v74690 - 97))], [(0, 0)], _, _, _)
      refine ev_ret rfl (by decide) (by decide) ?_
      show jEv _ _ _ _ _ _ _ (_, [(2, 42), (0, a1), (0, a2), (0, a3), (0, 1), (0, (v74690 - 97)), (9, 0), (9, 0), (9, 0)], [(0, 0)], _, _, _)
      refine ev_ifeq f271_31 (fun c74693 => ?_) (fun c74693 => absurd c74693 (by omega))
      refine ev_aload_n rfl ?_
      refine ev_iload_n rfl ?_
      refine ev_iconst ?_
      refine ev_iadd (r := (a1 + 1)) (by unfold w32; omega) ?_
      refine ev_in (d := (d + 1)) (a := 0) (b := 0) (cd' := c266_0) (m := 2) (L0 := [(2, 42), (0, (a1 + 1))]) (jcall_v (A := [(0, (a1 + 1))]) (S' := []) (r := 42) rfl (g.lt ad42) (g.tg ad42) (Nat.le_of_ble_eq_true rfl)) (by decide) ml266 pp266 (Nat.le_of_ble_eq_true rfl) rfl (by decide) (by decide) ?_
      refine ev_aload_n rfl ?_
      refine ev_iload_n rfl ?_
      refine g_putf (r := 42) g ad42 (by decide) ft12_20 (by decide) (fun e => absurd e nz12_20) rf42_20 (by decide) (by omega) (by omega) (fun h74694 e74694 g74694 => ?_)
      have k74694 := k0.wr e74694 rfl
      refine ev_iconst ?_
      refine ev_ret rfl (by decide) (by decide) ?_
      show jEv _ _ _ _ _ _ _ (_, [(2, 42), (0, a1), (0, a2), (0, a3), (0, 1), (0, (v74690 - 97)), (9, 0), (9, 0), (9, 0)], [(0, (-1))], _, _, _)
      exact ev_ret rfl (by decide) (by decide) ⟨⟨_, rfl, by omega, by omega, g74694, k74694⟩, fun r hr h0 => by cases hr; exfalso; omega, fun r hr => by cases hr; exact ⟨_, (((jw_ne e74694 (Or.inr (by decide))).trans ew1)), by omega, by omega, (Fr.kp (Fr.rf _ _) ((Kp.rf [(42, 0)] _).wr e74694 rfl) (fun _ => rfl) (fun _ => rfl) (fun _ => rfl) (fun _ => rfl)), fun h0 => by exfalso; omega, fun h0 => by exfalso; omega⟩⟩
    · refine ev_iload_n rfl ?_
      refine ev_iload_n rfl ?_
      refine ev_icmpgt f242_14 (fun c74695 => ?_) (fun c74695 => ?_)
      · refine ev_iconst ?_
        refine ev_ret rfl (by decide) (by decide) ?_
        show jEv _ _ _ _ _ _ _ (_, [(2, 42), (0, (v74690 - 97))], [(0, 0)], _, _, _)
        refine ev_ret rfl (by decide) (by decide) ?_
        show jEv _ _ _ _ _ _ _ (_, [(2, 42), (0, a1), (0, a2), (0, a3), (0, 1), (0, (v74690 - 97)), (9, 0), (9, 0), (9, 0)], [(0, 0)], _, _, _)
        refine ev_ifeq f271_31 (fun c74696 => ?_) (fun c74696 => absurd c74696 (by omega))
        refine ev_aload_n rfl ?_
        refine ev_iload_n rfl ?_
        refine ev_iconst ?_
        refine ev_iadd (r := (a1 + 1)) (by unfold w32; omega) ?_
        refine ev_in (d := (d + 1)) (a := 0) (b := 0) (cd' := c266_0) (m := 2) (L0 := [(2, 42), (0, (a1 + 1))]) (jcall_v (A := [(0, (a1 + 1))]) (S' := []) (r := 42) rfl (g.lt ad42) (g.tg ad42) (Nat.le_of_ble_eq_true rfl)) (by decide) ml266 pp266 (Nat.le_of_ble_eq_true rfl) rfl (by decide) (by decide) ?_
        refine ev_aload_n rfl ?_
        refine ev_iload_n rfl ?_
        refine g_putf (r := 42) g ad42 (by decide) ft12_20 (by decide) (fun e => absurd e nz12_20) rf42_20 (by decide) (by omega) (by omega) (fun h74697 e74697 g74697 => ?_)
        have k74697 := k0.wr e74697 rfl
        refine ev_iconst ?_
        refine ev_ret rfl (by decide) (by decide) ?_
        show jEv _ _ _ _ _ _ _ (_, [(2, 42), (0, a1), (0, a2), (0, a3), (0, 1), (0, (v74690 - 97)), (9, 0), (9, 0), (9, 0)], [(0, (-1))], _, _, _)
        exact ev_ret rfl (by decide) (by decide) ⟨⟨_, rfl, by omega, by omega, g74697, k74697⟩, fun r hr h0 => by cases hr; exfalso; omega, fun r hr => by cases hr; exact ⟨_, (((jw_ne e74697 (Or.inr (by decide))).trans ew1)), by omega, by omega, (Fr.kp (Fr.rf _ _) ((Kp.rf [(42, 0)] _).wr e74697 rfl) (fun _ => rfl) (fun _ => rfl) (fun _ => rfl) (fun _ => rfl)), fun h0 => by exfalso; omega, fun h0 => by exfalso; omega⟩⟩
      · refine ev_iconst ?_
        refine ev_goto f242_15 ?_
        refine ev_ret rfl (by decide) (by decide) ?_
        show jEv _ _ _ _ _ _ _ (_, [(2, 42), (0, (v74690 - 97))], [(0, 1)], _, _, _)
        refine ev_ret rfl (by decide) (by decide) ?_
        show jEv _ _ _ _ _ _ _ (_, [(2, 42), (0, a1), (0, a2), (0, a3), (0, 1), (0, (v74690 - 97)), (9, 0), (9, 0), (9, 0)], [(0, 1)], _, _, _)
        refine ev_ifeq f271_31 (fun c74698 => absurd c74698 (by omega)) (fun c74698 => ?_)
        refine ev_iload_n rfl ?_
        refine ev_iload rfl ?_
        refine g_ishrB (a := 15) (by omega) (by omega) (by decide) (fun v74699 ev74699 lv74699 uv74699 => ?_)
        refine ev_iconst ?_
        refine g_iandB (b := 1) (by omega) (by omega) (by decide) (fun v74700 ev74700 lv74700 uv74700 => ?_)
        refine ev_iconst ?_
        refine ev_icmpne f271_39 (fun c74701 => ?_) (fun c74701 => ?_)
        · refine ev_iload_n rfl ?_
          refine ev_iconst ?_
          refine ev_iadd (r := (a1 + 2)) (by unfold w32; omega) ?_
          refine ev_istore (L' := [(2, 42), (0, a1), (0, a2), (0, a3), (0, 1), (0, (v74690 - 97)), (0, (a1 + 2)), (9, 0), (9, 0)]) (Nat.le_of_ble_eq_true rfl) rfl ?_
          refine ev_aload_n rfl ?_
          refine ev_iload rfl ?_
          refine ev_in (d := (d + 1)) (a := 0) (b := 0) (cd' := c264_0) (m := 2) (L0 := [(2, 42), (0, (a1 + 2))]) (jcall_v (A := [(0, (a1 + 2))]) (S' := []) (r := 42) rfl (g.lt ad42) (g.tg ad42) (Nat.le_of_ble_eq_true rfl)) (by decide) ml264 pp264 (Nat.le_of_ble_eq_true rfl) rfl (by decide) (by decide) ?_
          refine ev_iload_n rfl ?_
          refine ev_aload_n rfl ?_
          refine g_getv (r := 42) (v := v74684) g ad42 (by decide) ft12_17 (ev74684) ?_
          refine ev_icmpge f264_17 (fun c74702 => ?_) (fun c74702 => ?_)
          · refine ev_iconst ?_
            refine ev_ret rfl (by decide) (by decide) ?_
            show jEv _ _ _ _ _ _ _ (_, [(2, 42), (0, a1), (0, a2), (0, a3), (0, 1), (0, (v74690 - 97)), (0, (a1 + 2)), (9, 0), (9, 0)], [(0, (-1))], _, _, _)
            refine ev_bipush ?_
            refine ev_icmpne f271_61 (fun c74703 => ?_) (fun c74703 => absurd c74703 (by omega))
            refine ev_aload_n rfl ?_
            refine ev_iload rfl ?_
            refine ev_in (d := (d + 1)) (a := 0) (b := 0) (cd' := c266_0) (m := 2) (L0 := [(2, 42), (0, (a1 + 2))]) (jcall_v (A := [(0, (a1 + 2))]) (S' := []) (r := 42) rfl (g.lt ad42) (g.tg ad42) (Nat.le_of_ble_eq_true rfl)) (by decide) ml266 pp266 (Nat.le_of_ble_eq_true rfl) rfl (by decide) (by decide) ?_
            refine ev_aload_n rfl ?_
            refine ev_iload_n rfl ?_
            refine g_putf (r := 42) g ad42 (by decide) ft12_20 (by decide) (fun e => absurd e nz12_20) rf42_20 (by decide) (by omega) (by omega) (fun h74704 e74704 g74704 => ?_)
            have k74704 := k0.wr e74704 rfl
            refine ev_iconst ?_
            refine ev_ret rfl (by decide) (by decide) ?_
            show jEv _ _ _ _ _ _ _ (_, [(2, 42), (0, a1), (0, a2), (0, a3), (0, 1), (0, (v74690 - 97)), (0, (a1 + 2)), (9, 0), (9, 0)], [(0, (-1))], _, _, _)
            exact ev_ret rfl (by decide) (by decide) ⟨⟨_, rfl, by omega, by omega, g74704, k74704⟩, fun r hr h0 => by cases hr; exfalso; omega, fun r hr => by cases hr; exact ⟨_, (((jw_ne e74704 (Or.inr (by decide))).trans ew1)), by omega, by omega, (Fr.kp (Fr.rf _ _) ((Kp.rf [(42, 0)] _).wr e74704 rfl) (fun _ => rfl) (fun _ => rfl) (fun _ => rfl) (fun _ => rfl)), fun h0 => by exfalso; omega, fun h0 => by exfalso; omega⟩⟩
          · refine ev_aload_n rfl ?_
            refine g_getp (r := 42) (c := 54) g ad42 (by decide) (by decide) rf42_16 ft12_16 ?_
            refine ev_iload_n rfl ?_
            refine g_bald g ad54 rt54 (by omega) (by omega) (fun v74705 ev74705 lv74705 uv74705 => ?_)
            refine ev_goto f264_18 ?_
            refine ev_ret rfl (by decide) (by decide) ?_
            show jEv _ _ _ _ _ _ _ (_, [(2, 42), (0, a1), (0, a2), (0, a3), (0, 1), (0, (v74690 - 97)), (0, (a1 + 2)), (9, 0), (9, 0)], [(0, v74705)], _, _, _)
            refine ev_bipush ?_
            refine ev_icmpne f271_61 (fun c74706 => ?_) (fun c74706 => ?_)
            · refine ev_aload_n rfl ?_
              refine ev_iload rfl ?_
              refine ev_in (d := (d + 1)) (a := 0) (b := 0) (cd' := c266_0) (m := 2) (L0 := [(2, 42), (0, (a1 + 2))]) (jcall_v (A := [(0, (a1 + 2))]) (S' := []) (r := 42) rfl (g.lt ad42) (g.tg ad42) (Nat.le_of_ble_eq_true rfl)) (by decide) ml266 pp266 (Nat.le_of_ble_eq_true rfl) rfl (by decide) (by decide) ?_
              refine ev_aload_n rfl ?_
              refine ev_iload_n rfl ?_
              refine g_putf (r := 42) g ad42 (by decide) ft12_20 (by decide) (fun e => absurd e nz12_20) rf42_20 (by decide) (by omega) (by omega) (fun h74707 e74707 g74707 => ?_)
              have k74707 := k0.wr e74707 rfl
              refine ev_iconst ?_
              refine ev_ret rfl (by decide) (by decide) ?_
              show jEv _ _ _ _ _ _ _ (_, [(2, 42), (0, a1), (0, a2), (0, a3), (0, 1), (0, (v74690 - 97)), (0, (a1 + 2)), (9, 0), (9, 0)], [(0, (-1))], _, _, _)
              exact ev_ret rfl (by decide) (by decide) ⟨⟨_, rfl, by omega, by omega, g74707, k74707⟩, fun r hr h0 => by cases hr; exfalso; omega, fun r hr => by cases hr; exact ⟨_, (((jw_ne e74707 (Or.inr (by decide))).trans ew1)), by omega, by omega, (Fr.kp (Fr.rf _ _) ((Kp.rf [(42, 0)] _).wr e74707 rfl) (fun _ => rfl) (fun _ => rfl) (fun _ => rfl) (fun _ => rfl)), fun h0 => by exfalso; omega, fun h0 => by exfalso; omega⟩⟩
            · refine ev_iload_n rfl ?_
              refine ev_bipush ?_
              refine ev_icmpne f271_68 (fun c74708 => ?_) (fun c74708 => ?_)
              · refine ev_aload_n rfl ?_
                refine ev_iload rfl ?_
                refine ev_iconst ?_
                refine ev_iload rfl ?_
                refine ev_in (d := (d + 1)) (a := 0) (b := 0) (cd' := c267_0) (m := 6) (L0 := [(2, 42), (0, 1), (0, 2), (0, (v74690 - 97)), (9, 0), (9, 0)]) (jcall_v (A := [(0, (v74690 - 97)), (0, 2), (0, 1)]) (S' := []) (r := 42) rfl (g.lt ad42) (g.tg ad42) (Nat.le_of_ble_eq_true rfl)) (by decide) ml267 pp267 (Nat.le_of_ble_eq_true rfl) rfl (by decide) (by decide) ?_
                refine ev_iload_n rfl ?_
                refine ev_ifne f267_6 (fun c74709 => ?_) (fun c74709 => absurd c74709 (by omega))
                refine ev_aload_n rfl ?_
                refine ev_dup (by decide) ?_
                refine g_getv (r := 42) (v := w1) g ad42 (by decide) ft12_21 (ew1) ?_
                refine ev_iconst ?_
                refine ev_iadd (r := (w1 + 1)) (by unfold w32; omega) ?_
                refine g_putf (r := 42) g ad42 (by decide) ft12_21 (by decide) (fun e => absurd e nz12_21) rf42_21 (by decide) (by omega) (by omega) (fun h74710 e74710 g74710 => ?_)
                have k74710 := k0.wr e74710 rfl
                refine ev_aload_n rfl ?_
                refine g_getv (r := 42) (v := (w1 + 1)) g74710 ad42 (by decide) ft12_21 ((jw_eq e74710)) ?_
                refine ev_bipush ?_
                refine ev_icmple f267_27 (fun c74711 => ?_) (fun c74711 => absurd c74711 (by omega))
                refine ev_bipush ?_
                refine ev_aload_n rfl ?_
                refine g_getv (r := 42) (v := w0) g74710 ad42 (by decide) ft12_9 (((jw_ne e74710 (Or.inr (by decide))).trans ew0)) ?_
                refine ev_imul (r := (100 * w0)) (by unfold w32; omega) ?_
                refine ev_aload_n rfl ?_
                refine g_getv (r := 42) (v := (w1 + 1)) g74710 ad42 (by decide) ft12_21 ((jw_eq e74710)) ?_
                refine ev_iadd (r := (100 * w0 + w1 + 1)) (by unfold w32; omega) ?_
                refine ev_iconst ?_
                refine ev_isub (r := (100 * w0 + w1)) (by unfold w32; omega) ?_
                refine ev_istore (L' := [(2, 42), (0, 1), (0, 2), (0, (v74690 - 97)), (0, (100 * w0 + w1)), (9, 0)]) (Nat.le_of_ble_eq_true rfl) rfl ?_
                refine ev_aload_n rfl ?_
                refine g_getp (r := 42) (c := 49) g74710 ad42 (by decide) (by decide) rf42_11 ft12_11 ?_
                refine ev_iload rfl ?_
                refine ev_iload_n rfl ?_
                refine ev_i2b (r := 2) (by unfold w8; omega) ?_
                refine ev_bastG (r := 49) (j := ((100 * w0 + w1)).toNat) (w := 2) (g74710.lt ad49) (g74710.tg ad49) (by omega) (by rw [g74710.ln ad49]; omega) (by unfold w8; omega) (fun h74712 e74712 => ?_)
                have g74712 := g74710.s49 e74712 (by rw [(((jw_ne e74710 (Or.inr (by decide))).trans ew0))]; omega) (by omega) (by omega)
                have k74712 := k74710.wr e74712 rfl
                refine ev_aload_n rfl ?_
                refine g_getp (r := 42) (c := 50) g74712 ad42 (by decide) (by decide) rf42_12 ft12_12 ?_
                refine ev_iload rfl ?_
                refine ev_iload_n rfl ?_
                refine ev_iastG (r := 50) (j := ((100 * w0 + w1)).toNat) (g74712.lt ad50) (g74712.tg ad50) (by omega) (by rw [g74712.ln ad50]; omega) (fun h74713 e74713 => ?_)
                have g74713 := g74712.s50 e74713 (Or.inl (by rw [(((jw_ne e74712 (Or.inl (by decide))).trans ((jw_ne e74710 (Or.inr (by decide))).trans ew0)))]; omega)) (by omega) (by omega)
                have k74713 := k74712.wr e74713 rfl
                refine ev_aload_n rfl ?_
                refine g_getp (r := 42) (c := 53) g74713 ad42 (by decide) (by decide) rf42_15 ft12_15 ?_
                refine ev_iload rfl ?_
                refine ev_iconst ?_
                refine ev_bastG (r := 53) (j := ((100 * w0 + w1)).toNat) (w := 0) (g74713.lt ad53) (g74713.tg ad53) (by omega) (by rw [g74713.ln ad53]; omega) (by unfold w8; omega) (fun h74714 e74714 => ?_)
                have g74714 := g74713.s53 e74714 (Or.inl (by rw [(((jw_ne e74713 (Or.inl (by decide))).trans ((jw_ne e74712 (Or.inl (by decide))).trans ((jw_ne e74710 (Or.inr (by decide))).trans ew0))))]; omega)) (by omega) (by omega)
                have k74714 := k74713.wr e74714 rfl
                refine ev_iconst ?_
                refine ev_istore (L' := [(2, 42), (0, 1), (0, 2), (0, (v74690 - 97)), (0, (100 * w0 + w1)), (0, 0)]) (Nat.le_of_ble_eq_true rfl) rfl ?_
                refine ev_iload rfl ?_
                refine ev_iconst ?_
                refine ev_icmpge f267_109 (fun c74715 => absurd c74715 (by omega)) (fun c74715 => ?_)
                refine ev_aload_n rfl ?_
                refine g_getp (r := 42) (c := 51) g74714 ad42 (by decide) (by decide) rf42_13 ft12_13 ?_
                refine ev_iconst ?_
                refine ev_iload rfl ?_
                refine ev_imul (r := (400 * w0 + 4 * w1)) (by unfold w32; omega) ?_
                refine ev_iload rfl ?_
                refine ev_iadd (r := (400 * w0 + 4 * w1)) (by unfold w32; omega) ?_
                refine ev_iconst ?_
                refine ev_bastG (r := 51) (j := ((400 * w0 + 4 * w1)).toNat) (w := (-1)) (g74714.lt ad51) (g74714.tg ad51) (by omega) (by rw [g74714.ln ad51]; omega) (by unfold w8; omega) (fun h74716 e74716 => ?_)
                have g74716 := g74714.s51 e74716 (by rw [(((jw_ne e74714 (Or.inl (by decide))).trans ((jw_ne e74713 (Or.inl (by decide))).trans ((jw_ne e74712 (Or.inl (by decide))).trans ((jw_ne e74710 (Or.inr (by decide))).trans ew0)))))]; omega) (by omega) (by omega)
                have k74716 := k74714.wr e74716 rfl
                refine ev_aload_n rfl ?_
                refine g_getp (r := 42) (c := 52) g74716 ad42 (by decide) (by decide) rf42_14 ft12_14 ?_
                refine ev_iconst ?_
                refine ev_iload rfl ?_
                refine ev_imul (r := (400 * w0 + 4 * w1)) (by unfold w32; omega) ?_
                refine ev_iload rfl ?_
                refine ev_iadd (r := (400 * w0 + 4 * w1)) (by unfold w32; omega) ?_
                refine ev_iconst ?_
                refine g_iast g74716 ad52 rt52 (fun _ => rfl) (by omega) (by omega) (by omega) (by omega) (fun h74717 e74717 g74717 => ?_)
                have k74717 := k74716.wr e74717 rfl
                refine ev_iinc (w := 1) (L' := [(2, 42), (0, 1), (0, 2), (0, (v74690 - 97)), (0, (100 * w0 + w1)), (0, 1)]) rfl (by decide) rfl ?_
                refine ev_goto f267_71 ?_
                refine ev_iload rfl ?_
                refine ev_iconst ?_
                refine ev_icmpge f267_109 (fun c74718 => absurd c74718 (by omega)) (fun c74718 => ?_)
                refine ev_aload_n rfl ?_
                refine g_getp (r := 42) (c := 51) g74717 ad42 (by decide) (by decide) rf42_13 ft12_13 ?_
                refine ev_iconst ?_
                refine ev_iload rfl ?_
                refine ev_imul (r := (400 * w0 + 4 * w1)) (by unfold w32; omega) ?_
                refine ev_iload rfl ?_
                refine ev_iadd (r := (400 * w0 + 4 * w1 + 1)) (by unfold w32; omega) ?_
                refine ev_iconst ?_
                refine ev_bastG (r := 51) (j := ((400 * w0 + 4 * w1 + 1)).toNat) (w := (-1)) (g74717.lt ad51) (g74717.tg ad51) (by omega) (by rw [g74717.ln ad51]; omega) (by unfold w8; omega) (fun h74719 e74719 => ?_)
                have g74719 := g74717.s51 e74719 (by rw [(((jw_ne e74717 (Or.inl (by decide))).trans ((jw_ne e74716 (Or.inl (by decide))).trans ((jw_ne e74714 (Or.inl (by decide))).trans ((jw_ne e74713 (Or.inl (by decide))).trans ((jw_ne e74712 (Or.inl (by decide))).trans ((jw_ne e74710 (Or.inr (by decide))).trans ew0)))))))]; omega) (by omega) (by omega)
                have k74719 := k74717.wr e74719 rfl
                refine ev_aload_n rfl ?_
                refine g_getp (r := 42) (c := 52) g74719 ad42 (by decide) (by decide) rf42_14 ft12_14 ?_
                refine ev_iconst ?_
                refine ev_iload rfl ?_
                refine ev_imul (r := (400 * w0 + 4 * w1)) (by unfold w32; omega) ?_
                refine ev_iload rfl ?_
                refine ev_iadd (r := (400 * w0 + 4 * w1 + 1)) (by unfold w32; omega) ?_
                refine ev_iconst ?_
                refine g_iast g74719 ad52 rt52 (fun _ => rfl) (by omega) (by omega) (by omega) (by omega) (fun h74720 e74720 g74720 => ?_)
                have k74720 := k74719.wr e74720 rfl
                refine ev_iinc (w := 2) (L' := [(2, 42), (0, 1), (0, 2), (0, (v74690 - 97)), (0, (100 * w0 + w1)), (0, 2)]) rfl (by decide) rfl ?_
                refine ev_goto f267_71 ?_
                refine ev_iload rfl ?_
                refine ev_iconst ?_
                refine ev_icmpge f267_109 (fun c74721 => absurd c74721 (by omega)) (fun c74721 => ?_)
                refine ev_aload_n rfl ?_
                refine g_getp (r := 42) (c := 51) g74720 ad42 (by decide) (by decide) rf42_13 ft12_13 ?_
                refine ev_iconst ?_
                refine ev_iload rfl ?_
                refine ev_imul (r := (400 * w0 + 4 * w1)) (by unfold w32; omega) ?_
                refine ev_iload rfl ?_
                refine ev_iadd (r := (400 * w0 + 4 * w1 + 2)) (by unfold w32; omega) ?_
                refine ev_iconst ?_
                refine ev_bastG (r := 51) (j := ((400 * w0 + 4 * w1 + 2)).toNat) (w := (-1)) (g74720.lt ad51) (g74720.tg ad51) (by omega) (by rw [g74720.ln ad51]; omega) (by unfold w8; omega) (fun h74722 e74722 => ?_)
                have g74722 := g74720.s51 e74722 (by rw [(((jw_ne e74720 (Or.inl (by decide))).trans ((jw_ne e74719 (Or.inl (by decide))).trans ((jw_ne e74717 (Or.inl (by decide))).trans ((jw_ne e74716 (Or.inl (by decide))).trans ((jw_ne e74714 (Or.inl (by decide))).trans ((jw_ne e74713 (Or.inl (by decide))).trans ((jw_ne e74712 (Or.inl (by decide))).trans ((jw_ne e74710 (Or.inr (by decide))).trans ew0)))))))))]; omega) (by omega) (by omega)
                have k74722 := k74720.wr e74722 rfl
                refine ev_aload_n rfl ?_
                refine g_getp (r := 42) (c := 52) g74722 ad42 (by decide) (by decide) rf42_14 ft12_14 ?_
                refine ev_iconst ?_
                refine ev_iload rfl ?_
                refine ev_imul (r := (400 * w0 + 4 * w1)) (by unfold w32; omega) ?_
                refine ev_iload rfl ?_
                refine ev_iadd (r := (400 * w0 + 4 * w1 + 2)) (by unfold w32; omega) ?_
                refine ev_iconst ?_
                refine g_iast g74722 ad52 rt52 (fun _ => rfl) (by omega) (by omega) (by omega) (by omega) (fun h74723 e74723 g74723 => ?_)
                have k74723 := k74722.wr e74723 rfl
                refine ev_iinc (w := 3) (L' := [(2, 42), (0, 1), (0, 2), (0, (v74690 - 97)), (0, (100 * w0 + w1)), (0, 3)]) rfl (by decide) rfl ?_
                refine ev_goto f267_71 ?_
                refine ev_iload rfl ?_
                refine ev_iconst ?_
                refine ev_icmpge f267_109 (fun c74724 => absurd c74724 (by omega)) (fun c74724 => ?_)
                refine ev_aload_n rfl ?_
                refine g_getp (r := 42) (c := 51) g74723 ad42 (by decide) (by decide) rf42_13 ft12_13 ?_
                refine ev_iconst ?_
                refine ev_iload rfl ?_
                refine ev_imul (r := (400 * w0 + 4 * w1)) (by unfold w32; omega) ?_
                refine ev_iload rfl ?_
                refine ev_iadd (r := (400 * w0 + 4 * w1 + 3)) (by unfold w32; omega) ?_
                refine ev_iconst ?_
                refine ev_bastG (r := 51) (j := ((400 * w0 + 4 * w1 + 3)).toNat) (w := (-1)) (g74723.lt ad51) (g74723.tg ad51) (by omega) (by rw [g74723.ln ad51]; omega) (by unfold w8; omega) (fun h74725 e74725 => ?_)
                have g74725 := g74723.s51 e74725 (by rw [(((jw_ne e74723 (Or.inl (by decide))).trans ((jw_ne e74722 (Or.inl (by decide))).trans ((jw_ne e74720 (Or.inl (by decide))).trans ((jw_ne e74719 (Or.inl (by decide))).trans ((jw_ne e74717 (Or.inl (by decide))).trans ((jw_ne e74716 (Or.inl (by decide))).trans ((jw_ne e74714 (Or.inl (by decide))).trans ((jw_ne e74713 (Or.inl (by decide))).trans ((jw_ne e74712 (Or.inl (by decide))).trans ((jw_ne e74710 (Or.inr (by decide))).trans ew0)))))))))))]; omega) (by omega) (by omega)
                have k74725 := k74723.wr e74725 rfl
                refine ev_aload_n rfl ?_
                refine g_getp (r := 42) (c := 52) g74725 ad42 (by decide) (by decide) rf42_14 ft12_14 ?_
                refine ev_iconst ?_
                refine ev_iload rfl ?_
                refine ev_imul (r := (400 * w0 + 4 * w1)) (by unfold w32; omega) ?_
                refine ev_iload rfl ?_
                refine ev_iadd (r := (400 * w0 + 4 * w1 + 3)) (by unfold w32; omega) ?_
                refine ev_iconst ?_
                refine g_iast g74725 ad52 rt52 (fun _ => rfl) (by omega) (by omega) (by omega) (by omega) (fun h74726 e74726 g74726 => ?_)
                have k74726 := k74725.wr e74726 rfl
                refine ev_iinc (w := 4) (L' := [(2, 42), (0, 1), (0, 2), (0, (v74690 - 97)), (0, (100 * w0 + w1)), (0, 4)]) rfl (by decide) rfl ?_
                refine ev_goto f267_71 ?_
                refine ev_iload rfl ?_
                refine ev_iconst ?_
                refine ev_icmpge f267_109 (fun c74727 => ?_) (fun c74727 => absurd c74727 (by omega))
                refine ev_iload rfl ?_
                refine ev_ret rfl (by decide) (by decide) ?_
                show jEv _ _ _ _ _ _ _ (_, [(2, 42), (0, a1), (0, a2), (0, a3), (0, 1), (0, (v74690 - 97)), (0, (a1 + 2)), (9, 0), (9, 0)], [(0, (100 * w0 + w1))], _, _, _)
                refine ev_istore (L' := [(2, 42), (0, a1), (0, a2), (0, a3), (0, 1), (0, (v74690 - 97)), (0, (a1 + 2)), (0, (100 * w0 + w1)), (9, 0)]) (Nat.le_of_ble_eq_true rfl) rfl ?_
                refine ev_iinc (w := (a1 + 3)) (L' := [(2, 42), (0, a1), (0, a2), (0, a3), (0, 1), (0, (v74690 - 97)), (0, (a1 + 3)), (0, (100 * w0 + w1)), (9, 0)]) rfl (by unfold w32; omega) rfl ?_
                refine ev_iconst ?_
                refine ev_istore (L' := [(2, 42), (0, a1), (0, a2), (0, a3), (0, 1), (0, (v74690 - 97)), (0, (a1 + 3)), (0, (100 * w0 + w1)), (0, 0)]) (Nat.le_of_ble_eq_true rfl) rfl ?_
                obtain ⟨v74728, ev74728, lv74728, uv74728⟩ := g74726.rd ad43 (show ((v74690 - 97)).toNat < 4 by omega) (rt43 _)
                have xv74728 := (g74726.ex.2.1 ((v74690 - 97) : Int).toNat (by rw [(((jw_ne e74726 (Or.inl (by decide))).trans ((jw_ne e74725 (Or.inl (by decide))).trans ((jw_ne e74723 (Or.inl (by decide))).trans ((jw_ne e74722 (Or.inl (by decide))).trans ((jw_ne e74720 (Or.inl (by decide))).trans ((jw_ne e74719 (Or.inl (by decide))).trans ((jw_ne e74717 (Or.inl (by decide))).trans ((jw_ne e74716 (Or.inl (by decide))).trans ((jw_ne e74714 (Or.inl (by decide))).trans ((jw_ne e74713 (Or.inl (by decide))).trans ((jw_ne e74712 (Or.inl (by decide))).trans ((jw_ne e74710 (Or.inr (by decide))).trans ev74691)))))))))))))]; omega))
                rw [ev74728] at xv74728
                exact (s271i_s_l ll0 ul0 lb0 ub0 la1 ua1 la2 ua2 la3 ua3 ew0 lw0 uw0 ew1 lw1 uw1 F0 hI hL hb hS hq hM hd rih 8) _ _ _ _ _ _ _ g74726 k74726 (by omega) (by omega) (by omega) (by omega) (by omega) (by omega) (by omega) (by omega) (by omega) (by omega) (by omega) (by omega) (by omega) (by omega) (by omega) (((jw_ne e74726 (Or.inl (by decide))).trans ((jw_ne e74725 (Or.inl (by decide))).trans ((jw_ne e74723 (Or.inl (by decide))).trans ((jw_ne e74722 (Or.inl (by decide))).trans ((jw_ne e74720 (Or.inl (by decide))).trans ((jw_ne e74719 (Or.inl (by decide))).trans ((jw_ne e74717 (Or.inl (by decide))).trans ((jw_ne e74716 (Or.inl (by decide))).trans ((jw_ne e74714 (Or.inl (by decide))).trans ((jw_ne e74713 (Or.inl (by decide))).trans ((jw_ne e74712 (Or.inl (by decide))).trans (jw_eq e74710))))))))))))) (by omega) (by omega) (((jw_ne e74726 (Or.inl (by decide))).trans ((jw_ne e74725 (Or.inl (by decide))).trans ((jw_ne e74723 (Or.inl (by decide))).trans ((jw_ne e74722 (Or.inl (by decide))).trans ((jw_ne e74720 (Or.inl (by decide))).trans ((jw_ne e74719 (Or.inl (by decide))).trans ((jw_ne e74717 (Or.inl (by decide))).trans ((jw_ne e74716 (Or.inl (by decide))).trans ((jw_ne e74714 (Or.inl (by decide))).trans ((jw_ne e74713 (Or.inl (by decide))).trans ((jw_ne e74712 (Or.inl (by decide))).trans ((jw_ne e74710 (Or.inr (by decide))).trans ev74691))))))))))))) (by omega) (by omega) ev74728 (by omega) (by omega) (Ad.step (r' := (a1 + 3)) (Ad.step (r' := (a1 + 2)) (Ad.step (r' := (a1 + 1)) (Ad.rf _ _ _) (by omega) k74726 (fun _ => rfl) (((jw_ne e74726 (Or.inl (by decide))).trans ((jw_ne e74725 (Or.inl (by decide))).trans ((jw_ne e74723 (Or.inl (by decide))).trans ((jw_ne e74722 (Or.inl (by decide))).trans ((jw_ne e74720 (Or.inl (by decide))).trans ((jw_ne e74719 (Or.inl (by decide))).trans ((jw_ne e74717 (Or.inl (by decide))).trans ((jw_ne e74716 (Or.inl (by decide))).trans ((jw_ne e74714 (Or.inl (by decide))).trans ((jw_ne e74713 (Or.inl (by decide))).trans ((jw_ne e74712 (Or.inl (by decide))).trans ((jw_ne e74710 (Or.inl (by decide))).trans hq))))))))))))) (by omega) (by omega) (by omega)) (by omega) k74726 (fun _ => rfl) (((jw_ne e74726 (Or.inl (by decide))).trans ((jw_ne e74725 (Or.inl (by decide))).trans ((jw_ne e74723 (Or.inl (by decide))).trans ((jw_ne e74722 (Or.inl (by decide))).trans ((jw_ne e74720 (Or.inl (by decide))).trans ((jw_ne e74719 (Or.inl (by decide))).trans ((jw_ne e74717 (Or.inl (by decide))).trans ((jw_ne e74716 (Or.inl (by decide))).trans ((jw_ne e74714 (Or.inl (by decide))).trans ((jw_ne e74713 (Or.inl (by decide))).trans ((jw_ne e74712 (Or.inl (by decide))).trans ((jw_ne e74710 (Or.inl (by decide))).trans ev74690))))))))))))) (by omega) (by omega) (by omega)) (by omega) k74726 (fun _ => rfl) (((jw_ne e74726 (Or.inl (by decide))).trans ((jw_ne e74725 (Or.inl (by decide))).trans ((jw_ne e74723 (Or.inl (by decide))).trans ((jw_ne e74722 (Or.inl (by decide))).trans ((jw_ne e74720 (Or.inl (by decide))).trans ((jw_ne e74719 (Or.inl (by decide))).trans ((jw_ne e74717 (Or.inl (by decide))).trans ((jw_ne e74716 (Or.inl (by decide))).trans ((jw_ne e74714 (Or.inl (by decide))).trans ((jw_ne e74713 (Or.inl (by decide))).trans ((jw_ne e74712 (Or.inl (by decide))).trans ((jw_ne e74710 (Or.inl (by decide))).trans ev74705))))))))))))) (by omega) (by omega) (by omega)) (Mb.start _ _ (by omega)) (Fr.kp (Fr.w (i := (400 * w0 + 4 * w1 + 3)) (Fr.kp (Fr.w (i := (400 * w0 + 4 * w1 + 2)) (Fr.kp (Fr.w (i := (400 * w0 + 4 * w1 + 1)) (Fr.kp (Fr.w (i := (400 * w0 + 4 * w1)) (Fr.w (i := (100 * w0 + w1)) (Fr.w (i := (100 * w0 + w1)) (Fr.w (i := (100 * w0 + w1)) (Fr.kp (Fr.rf _ _) ((Kp.rf [(42, 0)] _).wr e74710 rfl) (fun _ => rfl) (fun _ => rfl) (fun _ => rfl) (fun _ => rfl)) e74712 (by omega) (by omega)) e74713 (by omega) (by omega)) e74714 (by omega) (by omega)) e74716 (by omega) (by omega)) ((Kp.rf [(52, 0)] _).wr e74717 rfl) (fun _ => rfl) (fun _ => rfl) (fun _ => rfl) (fun _ => rfl)) e74719 (by omega) (by omega)) ((Kp.rf [(52, 0)] _).wr e74720 rfl) (fun _ => rfl) (fun _ => rfl) (fun _ => rfl) (fun _ => rfl)) e74722 (by omega) (by omega)) ((Kp.rf [(52, 0)] _).wr e74723 rfl) (fun _ => rfl) (fun _ => rfl) (fun _ => rfl) (fun _ => rfl)) e74725 (by omega) (by omega)) ((Kp.rf [(52, 0)] _).wr e74726 rfl) (fun _ => rfl) (fun _ => rfl) (fun _ => rfl) (fun _ => rfl)) (PC.start (i := (100 * w0 + w1)) (by omega) (by omega) (by omega) (((jw_ne e74726 (Or.inl (by decide))).trans ((jw_ne e74725 (Or.inl (by decide))).trans ((jw_ne e74723 (Or.inl (by decide))).trans ((jw_ne e74722 (Or.inl (by decide))).trans ((jw_ne e74720 (Or.inl (by decide))).trans ((jw_ne e74719 (Or.inl (by decide))).trans ((jw_ne e74717 (Or.inl (by decide))).trans ((jw_ne e74716 (Or.inl (by decide))).trans ((jw_ne e74714 (Or.inl (by decide))).trans ((jw_ne e74713 (Or.inl (by decide))).trans (jw_eq e74712)))))))))))) (fun _ => (((jw_ne e74726 (Or.inl (by decide))).trans ((jw_ne e74725 (Or.inl (by decide))).trans ((jw_ne e74723 (Or.inl (by decide))).trans ((jw_ne e74722 (Or.inl (by decide))).trans ((jw_ne e74720 (Or.inl (by decide))).trans ((jw_ne e74719 (Or.inl (by decide))).trans ((jw_ne e74717 (Or.inl (by decide))).trans ((jw_ne e74716 (Or.inl (by decide))).trans ((jw_ne e74714 (Or.inl (by decide))).trans (jw_eq e74713)))))))))))) (((jw_ne e74726 (Or.inl (by decide))).trans ((jw_ne e74725 (Or.inl (by decide))).trans ((jw_ne e74723 (Or.inl (by decide))).trans ((jw_ne e74722 (Or.inl (by decide))).trans ((jw_ne e74720 (Or.inl (by decide))).trans ((jw_ne e74719 (Or.inl (by decide))).trans ((jw_ne e74717 (Or.inl (by decide))).trans ((jw_ne e74716 (Or.inl (by decide))).trans (jw_eq e74714)))))))))) (by omega)) (Sk.not hS (by omega) ev74699 ev74700 (by omega)) (by omega)
              · refine ev_aload_n rfl ?_
                refine ev_iload rfl ?_
                refine ev_in (d := (d + 1)) (a := 0) (b := 0) (cd' := c266_0) (m := 2) (L0 := [(2, 42), (0, (a1 + 2))]) (jcall_v (A := [(0, (a1 + 2))]) (S' := []) (r := 42) rfl (g.lt ad42) (g.tg ad42) (Nat.le_of_ble_eq_true rfl)) (by decide) ml266 pp266 (Nat.le_of_ble_eq_true rfl) rfl (by decide) (by decide) ?_
                refine ev_aload_n rfl ?_
                refine ev_iload_n rfl ?_
                refine g_putf (r := 42) g ad42 (by decide) ft12_20 (by decide) (fun e => absurd e nz12_20) rf42_20 (by decide) (by omega) (by omega) (fun h74729 e74729 g74729 => ?_)
                have k74729 := k0.wr e74729 rfl
                refine ev_iconst ?_
                refine ev_ret rfl (by decide) (by decide) ?_
                show jEv _ _ _ _ _ _ _ (_, [(2, 42), (0, a1), (0, a2), (0, a3), (0, 1), (0, (v74690 - 97)), (0, (a1 + 2)), (9, 0), (9, 0)], [(0, (-1))], _, _, _)
                exact ev_ret rfl (by decide) (by decide) ⟨⟨_, rfl, by omega, by omega, g74729, k74729⟩, fun r hr h0 => by cases hr; exfalso; omega, fun r hr => by cases hr; exact ⟨_, (((jw_ne e74729 (Or.inr (by decide))).trans ew1)), by omega, by omega, (Fr.kp (Fr.rf _ _) ((Kp.rf [(42, 0)] _).wr e74729 rfl) (fun _ => rfl) (fun _ => rfl) (fun _ => rfl) (fun _ => rfl)), fun h0 => by exfalso; omega, fun h0 => by exfalso; omega⟩⟩
        · refine ev_aload_n rfl ?_
          refine ev_iload_n rfl ?_
          refine ev_iconst ?_
          refine ev_iadd (r := (a1 + 1)) (by unfold w32; omega) ?_
          refine ev_in (d := (d + 1)) (a := 0) (b := 0) (cd' := c266_0) (m := 2) (L0 := [(2, 42), (0, (a1 + 1))]) (jcall_v (A := [(0, (a1 + 1))]) (S' := []) (r := 42) rfl (g.lt ad42) (g.tg ad42) (Nat.le_of_ble_eq_true rfl)) (by decide) ml266 pp266 (Nat.le_of_ble_eq_true rfl) rfl (by decide) (by decide) ?_
          refine ev_aload_n rfl ?_
          refine ev_iload_n rfl ?_
          refine g_putf (r := 42) g ad42 (by decide) ft12_20 (by decide) (fun e => absurd e nz12_20) rf42_20 (by decide) (by omega) (by omega) (fun h74730 e74730 g74730 => ?_)
          have k74730 := k0.wr e74730 rfl
          refine ev_iconst ?_
          refine ev_ret rfl (by decide) (by decide) ?_
          show jEv _ _ _ _ _ _ _ (_, [(2, 42), (0, a1), (0, a2), (0, a3), (0, 1), (0, (v74690 - 97)), (9, 0), (9, 0), (9, 0)], [(0, (-1))], _, _, _)
          exact ev_ret rfl (by decide) (by decide) ⟨⟨_, rfl, by omega, by omega, g74730, k74730⟩, fun r hr h0 => by cases hr; exfalso; omega, fun r hr => by cases hr; exact ⟨_, (((jw_ne e74730 (Or.inr (by decide))).trans ew1)), by omega, by omega, (Fr.kp (Fr.rf _ _) ((Kp.rf [(42, 0)] _).wr e74730 rfl) (fun _ => rfl) (fun _ => rfl) (fun _ => rfl) (fun _ => rfl)), fun h0 => by exfalso; omega, fun h0 => by exfalso; omega⟩⟩
set_option maxHeartbeats 4000000 in
theorem s272i_s {G : GH} {h : JH} (g : Gd G h) {l0 : Int} (ll0 : 0 ≤ l0) (ul0 : l0 ≤ 6) {b0 : Int} (lb0 : 1 ≤ b0) (ub0 : b0 ≤ 30000000) {a1 : Int} (la1 : 0 ≤ a1) (ua1 : a1 ≤ 202) {a2 : Int} (la2 : 0 ≤ a2) (ua2 : a2 ≤ 15) {a3 : Int} (la3 : 0 ≤ a3) (ua3 : a3 ≤ 12) {w0 : Int} (ew0 : h.2.2 42 9 = w0) (lw0 : 0 ≤ w0) (uw0 : w0 ≤ 5) {w1 : Int} (ew1 : h.2.2 42 21 = w1) (lw1 : 0 ≤ w1) (uw1 : w1 ≤ 99) (F0 : (b0 + w1) ≤ 200000000) {S : List Nat} (hI : Iv h) (hL : Lv h l0 a1) (hb : NB a3 = b0) (hS : Sk a2 S) {M : Int} (hM : M = (7 * a3 - l0)) {d : Nat} (hd : 371 ≤ d) (rih : ∀ {G : GH} {h : JH} (g : Gd G h) {l0 : Int} (ll0 : 0 ≤ l0) (ul0 : l0 ≤ 6) {b0 : Int} (lb0 : 1 ≤ b0) (ub0 : b0 ≤ 30000000) {a1 : Int} (la1 : 0 ≤ a1) (ua1 : a1 ≤ 202) {a2 : Int} (la2 : 0 ≤ a2) (ua2 : a2 ≤ 15) {a3 : Int} (la3 : 0 ≤ a3) (ua3 : a3 ≤ 12) {w0 : Int} (ew0 : h.2.2 42 9 = w0) (lw0 : 0 ≤ w0) (uw0 : w0 ≤ 5) {w1 : Int} (ew1 : h.2.2 42 21 = w1) (lw1 : 0 ≤ w1) (uw1 : w1 ≤ 99) (F0 : (b0 + w1) ≤ 200000000) {S : List Nat} (hI : Iv h) (hL : Lv h l0 a1) (hb : NB a3 = b0) (hS : Sk a2 S) (hm : M + 1 ≤ (7 * a3 - l0)), jOk d 0 0 272 [(2, 42), (0, a1), (0, a2), (0, a3), (0, 1)] h (fun v h' => PI G [(42, 21), (42, 22), (49, 0), (50, 0), (51, 0), (52, 0), (53, 0)] h 0 (-1) 200 v h' ∧ (∀ r, v = some (0, r) → 0 ≤ r → Ad h l0 a1 r) ∧ (∀ r, v = some (0, r) → RI h h' w0 w1 a3 b0 S r))) : jOk (d + 4) 0 0 272 [(2, 42), (0, a1), (0, a2), (0, a3), (0, 1)] h (fun v h' => PI G [(42, 21), (42, 22), (49, 0), (50, 0), (51, 0), (52, 0), (53, 0)] h 0 (-1) 200 v h' ∧ (∀ r, v = some (0, r) → 0 ≤ r → Ad h l0 a1 r) ∧ (∀ r, v = some (0, r) → RI h h' w0 w1 a3 b0 S r)) := by
  refine ⟨by decide, by rw [ml272]; exact Nat.le_of_ble_eq_true rfl, ?_⟩
  rw [ml272, pp272]
  show jEv _ none _ c272_0 0 0 _ (c272_0, [(2, 42), (0, a1), (0, a2), (0, a3), (0, 1), (9, 0), (9, 0)], [], h, 0, 0)
  have k0 := Kp.rf [(42, 21), (42, 22), (49, 0), (50, 0), (51, 0), (52, 0), (53, 0)] h
  refine ev_aload_n rfl ?_
  refine ev_iload_n rfl ?_
  refine ev_in (d := (d + 2)) (a := 0) (b := 0) (cd' := c264_0) (m := 2) (L0 := [(2, 42), (0, a1)]) (jcall_v (A := [(0, a1)]) (S' := []) (r := 42) rfl (g.lt ad42) (g.tg ad42) (Nat.le_of_ble_eq_true rfl)) (by decide) ml264 pp264 (Nat.le_of_ble_eq_true rfl) rfl (by decide) (by decide) ?_
  refine ev_iload_n rfl ?_
  refine ev_aload_n rfl ?_
  obtain ⟨v74837, ev74837, lv74837, uv74837⟩ := g.rd ad42 (show 17 < 66 by decide) rf42_17
  refine g_getv (r := 42) (v := v74837) g ad42 (by decide) ft12_17 ev74837 ?_
  refine ev_icmpge f264_17 (fun c74838 => ?_) (fun c74838 => ?_)
  · refine ev_iconst ?_
    refine ev_ret rfl (by decide) (by decide) ?_
    show jEv _ _ _ _ _ _ _ (_, [(2, 42), (0, a1), (0, a2), (0, a3), (0, 1), (9, 0), (9, 0)], [(0, (-1))], _, _, _)
    refine ev_istore (L' := [(2, 42), (0, a1), (0, a2), (0, a3), (0, 1), (0, (-1)), (9, 0)]) (Nat.le_of_ble_eq_true rfl) rfl ?_
    refine ev_iload rfl ?_
    refine ev_bipush ?_
    refine ev_icmpne f272_24 (fun c74839 => ?_) (fun c74839 => absurd c74839 (by omega))
    refine ev_iload rfl ?_
    refine ev_bipush ?_
    refine ev_icmpne f272_41 (fun c74840 => ?_) (fun c74840 => absurd c74840 (by omega))
    refine ev_iload rfl ?_
    refine ev_bipush ?_
    refine ev_icmpeq f272_56 (fun c74841 => absurd c74841 (by omega)) (fun c74841 => ?_)
    refine ev_aload_n rfl ?_
    refine ev_iload_n rfl ?_
    refine ev_in (d := (d + 2)) (a := 0) (b := 0) (cd' := c265_0) (m := 2) (L0 := [(2, 42), (0, a1)]) (jcall_v (A := [(0, a1)]) (S' := []) (r := 42) rfl (g.lt ad42) (g.tg ad42) (Nat.le_of_ble_eq_true rfl)) (by decide) ml265 pp265 (Nat.le_of_ble_eq_true rfl) rfl (by decide) (by decide) ?_
    refine ev_aload_n rfl ?_
    refine ev_iload_n rfl ?_
    refine ev_in (d := (d + 1)) (a := 0) (b := 0) (cd' := c264_0) (m := 2) (L0 := [(2, 42), (0, a1)]) (jcall_v (A := [(0, a1)]) (S' := []) (r := 42) rfl (g.lt ad42) (g.tg ad42) (Nat.le_of_ble_eq_true rfl)) (by decide) ml264 pp264 (Nat.le_of_ble_eq_true rfl) rfl (by decide) (by decide) ?_
    refine ev_iload_n rfl ?_
    refine ev_aload_n rfl ?_
    refine g_getv (r := 42) (v := v74837) g ad42 (by decide) ft12_17 (ev74837) ?_
    refine ev_icmpge f264_17 (fun c74842 => ?_) (fun c74842 => absurd c74842 (by omega))
    refine ev_iconst ?_
    refine ev_ret rfl (by decide) (by decide) ?_
    show jEv _ _ _ _ _ _ _ (_, [(2, 42), (0, a1)], [(0, (-1))], _, _, _)
    refine ev_bipush ?_
    refine ev_bipush ?_
    refine ev_in (d := (d + 1)) (a := 0) (b := 0) (cd' := c242_0) (m := 3) (L0 := [(0, (-1)), (0, 48), (0, 57)]) (jcall_s (A := [(0, 57), (0, 48), (0, (-1))]) (S' := []) (by decide) rfl (Nat.le_of_ble_eq_true rfl)) (by decide) ml242 pp242 (Nat.le_of_ble_eq_true rfl) rfl (by decide) (by decide) ?_
    refine ev_iload_n rfl ?_
    refine ev_iload_n rfl ?_
    refine ev_icmplt f242_14 (fun c74843 => ?_) (fun c74843 => absurd c74843 (by omega))
    refine ev_iconst ?_
    refine ev_ret rfl (by decide) (by decide) ?_
    show jEv _ _ _ _ _ _ _ (_, [(2, 42), (0, a1)], [(0, 0)], _, _, _)
    refine ev_ret rfl (by decide) (by decide) ?_
    show jEv _ _ _ _ _ _ _ (_, [(2, 42), (0, a1), (0, a2), (0, a3), (0, 1), (0, (-1)), (9, 0)], [(0, 0)], _, _, _)
    refine ev_ifeq f272_64 (fun c74844 => ?_) (fun c74844 => absurd c74844 (by omega))
    refine ev_iload rfl ?_
    refine ev_bipush ?_
    refine ev_isub (r := (-66)) (by decide) ?_
    refine ev_istore (L' := [(2, 42), (0, a1), (0, a2), (0, a3), (0, 1), (0, (-1)), (0, (-66))]) (Nat.le_of_ble_eq_true rfl) rfl ?_
    refine ev_iload rfl ?_
    refine ev_iconst ?_
    refine ev_aload_n rfl ?_
    obtain ⟨v74845, ev74845, lv74845, uv74845⟩ := g.rd ad42 (show 19 < 66 by decide) rf42_19
    refine g_getv (r := 42) (v := v74845) g ad42 (by decide) ft12_19 ev74845 ?_
    refine ev_iconst ?_
    refine ev_isub (r := (v74845 - 1)) (by unfold w32; omega) ?_
    refine ev_in (d := (d + 2)) (a := 0) (b := 0) (cd' := c242_0) (m := 3) (L0 := [(0, (-66)), (0, 0), (0, (v74845 - 1))]) (jcall_s (A := [(0, (v74845 - 1)), (0, 0), (0, (-66))]) (S' := []) (by decide) rfl (Nat.le_of_ble_eq_true rfl)) (by decide) ml242 pp242 (Nat.le_of_ble_eq_true rfl) rfl (by decide) (by decide) ?_
    refine ev_iload_n rfl ?_
    refine ev_iload_n rfl ?_
    refine ev_icmplt f242_14 (fun c74846 => ?_) (fun c74846 => absurd c74846 (by omega))
    refine ev_iconst ?_
    refine ev_ret rfl (by decide) (by decide) ?_
    show jEv _ _ _ _ _ _ _ (_, [(2, 42), (0, a1), (0, a2), (0, a3), (0, 1), (0, (-1)), (0, (-66))], [(0, 0)], _, _, _)
    refine ev_ifne f272_92 (fun c74847 => absurd c74847 (by omega)) (fun c74847 => ?_)
    refine ev_aload_n rfl ?_
    refine ev_iload_n rfl ?_
    refine ev_in (d := (d + 2)) (a := 0) (b := 0) (cd' := c266_0) (m := 2) (L0 := [(2, 42), (0, a1)]) (jcall_v (A := [(0, a1)]) (S' := []) (r := 42) rfl (g.lt ad42) (g.tg ad42) (Nat.le_of_ble_eq_true rfl)) (by decide) ml266 pp266 (Nat.le_of_ble_eq_true rfl) rfl (by decide) (by decide) ?_
    refine ev_aload_n rfl ?_
    refine ev_iload_n rfl ?_
    refine g_putf (r := 42) g ad42 (by decide) ft12_20 (by decide) (fun e => absurd e nz12_20) rf42_20 (by decide) (by omega) (by omega) (fun h74848 e74848 g74848 => ?_)
    have k74848 := k0.wr e74848 rfl
    refine ev_iconst ?_
    refine ev_ret rfl (by decide) (by decide) ?_
    show jEv _ _ _ _ _ _ _ (_, [(2, 42), (0, a1), (0, a2), (0, a3), (0, 1), (0, (-1)), (0, (-66))], [(0, (-1))], _, _, _)
    exact ev_ret rfl (by decide) (by decide) ⟨⟨_, rfl, by omega, by omega, g74848, k74848⟩, fun r hr h0 => by cases hr; exfalso; omega, fun r hr => by cases hr; exact ⟨_, (((jw_ne e74848 (Or.inr (by decide))).trans ew1)), by omega, by omega, (Fr.kp (Fr.rf _ _) ((Kp.rf [(42, 0)] _).wr e74848 rfl) (fun _ => rfl) (fun _ => rfl) (fun _ => rfl) (fun _ => rfl)), fun h0 => by exfalso; omega, fun h0 => by exfalso; omega⟩⟩
  · refine ev_aload_n rfl ?_
    refine g_getp (r := 42) (c := 54) g ad42 (by decide) (by decide) rf42_16 ft12_16 ?_
    refine ev_iload_n rfl ?_
    refine g_bald g ad54 rt54 (by omega) (by omega) (fun v74849 ev74849 lv74849 uv74849 => ?_)
    refine ev_goto f264_18 ?_
    refine ev_ret rfl (by decide) (by decide) ?_
    show jEv _ _ _ _ _ _ _ (_, [(2, 42), (0, a1), (0, a2), (0, a3), (0, 1), (9, 0), (9, 0)], [(0, v74849)], _, _, _)
    refine ev_istore (L' := [(2, 42), (0, a1), (0, a2), (0, a3), (0, 1), (0, v74849), (9, 0)]) (Nat.le_of_ble_eq_true rfl) rfl ?_
    refine ev_iload rfl ?_
    refine ev_bipush ?_
    refine ev_icmpne f272_24 (fun c74850 => ?_) (fun c74850 => ?_)
    · refine ev_iload rfl ?_
      refine ev_bipush ?_
      refine ev_icmpne f272_41 (fun c74851 => ?_) (fun c74851 => ?_)
      · refine ev_iload rfl ?_
        refine ev_bipush ?_
        refine ev_icmpeq f272_56 (fun c74852 => ?_) (fun c74852 => ?_)
        · refine ev_aload_n rfl ?_
          refine ev_iload_n rfl ?_
          refine ev_iload rfl ?_
          refine ev_call (jcall_v (A := [(0, 1), (0, a1)]) (S' := []) (r := 42) rfl (g.lt ad42) (g.tg ad42) (Nat.le_of_ble_eq_true rfl)) (jOk_le (by omega) (s269i g (by omega) (by omega) (by omega) (by omega) (by omega) (by omega) (by omega) (by omega) (ew0) (by omega) (by omega) (ew1) (by omega) (by omega) (l0 := l0) (b0 := b0) (k0 := a3) (by omega)  (S := S))) (by decide) (by decide) (fun w74853 h74853 q74853 => ?_)
          obtain ⟨q74853, ad74853, ro74853⟩ := q74853
          obtain ⟨v74854, rfl, lv74854, uv74854, g74853, kk74853⟩ := q74853
          have ad74853 := ad74853 _ rfl
          obtain ⟨m74855, em74855, lm74855, um74855, fr74853, pm74853, tr74853⟩ := ro74853 _ rfl
          have k74853 := k0.tr kk74853 (by decide)
          show jEv _ _ _ _ _ _ _ (_, [(2, 42), (0, a1), (0, a2), (0, a3), (0, 1), (0, v74849), (9, 0)], [(0, v74854)], _, _, _)
          exact ev_ret rfl (by decide) (by decide) ⟨⟨_, rfl, by omega, by omega, g74853, k74853⟩, fun r hr h0 => by cases hr; exact ad74853 h0, fun r hr => by cases hr; exact ⟨_, (em74855), by omega, by omega, (Fr.tr (Fr.rf _ _) fr74853 (by omega)), fun h0 => by have := pm74853 (by omega); omega, fun h0 hm => tr74853 h0 hm⟩⟩
        · refine ev_aload_n rfl ?_
          refine ev_iload_n rfl ?_
          refine ev_in (d := (d + 2)) (a := 0) (b := 0) (cd' := c265_0) (m := 2) (L0 := [(2, 42), (0, a1)]) (jcall_v (A := [(0, a1)]) (S' := []) (r := 42) rfl (g.lt ad42) (g.tg ad42) (Nat.le_of_ble_eq_true rfl)) (by decide) ml265 pp265 (Nat.le_of_ble_eq_true rfl) rfl (by decide) (by decide) ?_
          refine ev_aload_n rfl ?_
          refine ev_iload_n rfl ?_
          refine ev_in (d := (d + 1)) (a := 0) (b := 0) (cd' := c264_0) (m := 2) (L0 := [(2, 42), (0, a1)]) (jcall_v (A := [(0, a1)]) (S' := []) (r := 42) rfl (g.lt ad42) (g.tg ad42) (Nat.le_of_ble_eq_true rfl)) (by decide) ml264 pp264 (Nat.le_of_ble_eq_true rfl) rfl (by decide) (by decide) ?_
          refine ev_iload_n rfl ?_
          refine ev_aload_n rfl ?_
          refine g_getv (r := 42) (v := v74837) g ad42 (by decide) ft12_17 (ev74837) ?_
          refine ev_icmpge f264_17 (fun c74856 => absurd c74856 (by omega)) (fun c74856 => ?_)
          refine ev_aload_n rfl ?_
          refine g_getp (r := 42) (c := 54) g ad42 (by decide) (by decide) rf42_16 ft12_16 ?_
          refine ev_iload_n rfl ?_
          refine g_baldv (v := v74849) g ad54 (by omega) (by omega) (ev74849) ?_
          refine ev_goto f264_18 ?_
          refine ev_ret rfl (by decide) (by decide) ?_
          show jEv _ _ _ _ _ _ _ (_, [(2, 42), (0, a1)], [(0, v74849)], _, _, _)
          refine ev_bipush ?_
          refine ev_bipush ?_
          refine ev_in (d := (d + 1)) (a := 0) (b := 0) (cd' := c242_0) (m := 3) (L0 := [(0, v74849), (0, 48), (0, 57)]) (jcall_s (A := [(0, 57), (0, 48), (0, v74849)]) (S' := []) (by decide) rfl (Nat.le_of_ble_eq_true rfl)) (by decide) ml242 pp242 (Nat.le_of_ble_eq_true rfl) rfl (by decide) (by decide) ?_
          refine ev_iload_n rfl ?_
          refine ev_iload_n rfl ?_
          refine ev_icmplt f242_14 (fun c74857 => ?_) (fun c74857 => ?_)
          · refine ev_iconst ?_
            refine ev_ret rfl (by decide) (by decide) ?_
            show jEv _ _ _ _ _ _ _ (_, [(2, 42), (0, a1)], [(0, 0)], _, _, _)
            refine ev_ret rfl (by decide) (by decide) ?_
            show jEv _ _ _ _ _ _ _ (_, [(2, 42), (0, a1), (0, a2), (0, a3), (0, 1), (0, v74849), (9, 0)], [(0, 0)], _, _, _)
            refine ev_ifeq f272_64 (fun c74858 => ?_) (fun c74858 => absurd c74858 (by omega))
            refine ev_iload rfl ?_
            refine ev_bipush ?_
            refine ev_isub (r := (v74849 - 65)) (by unfold w32; omega) ?_
            refine ev_istore (L' := [(2, 42), (0, a1), (0, a2), (0, a3), (0, 1), (0, v74849), (0, (v74849 - 65))]) (Nat.le_of_ble_eq_true rfl) rfl ?_
            refine ev_iload rfl ?_
            refine ev_iconst ?_
            refine ev_aload_n rfl ?_
            obtain ⟨v74859, ev74859, lv74859, uv74859⟩ := g.rd ad42 (show 19 < 66 by decide) rf42_19
            refine g_getv (r := 42) (v := v74859) g ad42 (by decide) ft12_19 ev74859 ?_
            refine ev_iconst ?_
            refine ev_isub (r := (v74859 - 1)) (by unfold w32; omega) ?_
            refine ev_in (d := (d + 2)) (a := 0) (b := 0) (cd' := c242_0) (m := 3) (L0 := [(0, (v74849 - 65)), (0, 0), (0, (v74859 - 1))]) (jcall_s (A := [(0, (v74859 - 1)), (0, 0), (0, (v74849 - 65))]) (S' := []) (by decide) rfl (Nat.le_of_ble_eq_true rfl)) (by decide) ml242 pp242 (Nat.le_of_ble_eq_true rfl) rfl (by decide) (by decide) ?_
            refine ev_iload_n rfl ?_
            refine ev_iload_n rfl ?_
            refine ev_icmplt f242_14 (fun c74860 => ?_) (fun c74860 => absurd c74860 (by omega))
            refine ev_iconst ?_
            refine ev_ret rfl (by decide) (by decide) ?_
            show jEv _ _ _ _ _ _ _ (_, [(2, 42), (0, a1), (0, a2), (0, a3), (0, 1), (0, v74849), (0, (v74849 - 65))], [(0, 0)], _, _, _)
            refine ev_ifne f272_92 (fun c74861 => absurd c74861 (by omega)) (fun c74861 => ?_)
            refine ev_aload_n rfl ?_
            refine ev_iload_n rfl ?_
            refine ev_in (d := (d + 2)) (a := 0) (b := 0) (cd' := c266_0) (m := 2) (L0 := [(2, 42), (0, a1)]) (jcall_v (A := [(0, a1)]) (S' := []) (r := 42) rfl (g.lt ad42) (g.tg ad42) (Nat.le_of_ble_eq_true rfl)) (by decide) ml266 pp266 (Nat.le_of_ble_eq_true rfl) rfl (by decide) (by decide) ?_
            refine ev_aload_n rfl ?_
            refine ev_iload_n rfl ?_
            refine g_putf (r := 42) g ad42 (by decide) ft12_20 (by decide) (fun e => absurd e nz12_20) rf42_20 (by decide) (by omega) (by omega) (fun h74862 e74862 g74862 => ?_)
            have k74862 := k0.wr e74862 rfl
            refine ev_iconst ?_
            refine ev_ret rfl (by decide) (by decide) ?_
            show jEv _ _ _ _ _ _ _ (_, [(2, 42), (0, a1), (0, a2), (0, a3), (0, 1), (0, v74849), (0, (v74849 - 65))], [(0, (-1))], _, _, _)
            exact ev_ret rfl (by decide) (by decide) ⟨⟨_, rfl, by omega, by omega, g74862, k74862⟩, fun r hr h0 => by cases hr; exfalso; omega, fun r hr => by cases hr; exact ⟨_, (((jw_ne e74862 (Or.inr (by decide))).trans ew1)), by omega, by omega, (Fr.kp (Fr.rf _ _) ((Kp.rf [(42, 0)] _).wr e74862 rfl) (fun _ => rfl) (fun _ => rfl) (fun _ => rfl) (fun _ => rfl)), fun h0 => by exfalso; omega, fun h0 => by exfalso; omega⟩⟩
          · refine ev_iload_n rfl ?_
            refine ev_iload_n rfl ?_
            refine ev_icmpgt f242_14 (fun c74863 => ?_) (fun c74863 => ?_)
            · refine ev_iconst ?_
              refine ev_ret rfl (by decide) (by decide) ?_
              show jEv _ _ _ _ _ _ _ (_, [(2, 42), (0, a1)], [(0, 0)], _, _, _)
              refine ev_ret rfl (by decide) (by decide) ?_
              show jEv _ _ _ _ _ _ _ (_, [(2, 42), (0, a1), (0, a2), (0, a3), (0, 1), (0, v74849), (9, 0)], [(0, 0)], _, _, _)
              refine ev_ifeq f272_64 (fun c74864 => ?_) (fun c74864 => absurd c74864 (by omega))
              refine ev_iload rfl ?_
              refine ev_bipush ?_
              refine ev_isub (r := (v74849 - 65)) (by unfold w32; omega) ?_
              refine ev_istore (L' := [(2, 42), (0, a1), (0, a2), (0, a3), (0, 1), (0, v74849), (0, (v74849 - 65))]) (Nat.le_of_ble_eq_true rfl) rfl ?_
              refine ev_iload rfl ?_
              refine ev_iconst ?_
              refine ev_aload_n rfl ?_
              obtain ⟨v74865, ev74865, lv74865, uv74865⟩ := g.rd ad42 (show 19 < 66 by decide) rf42_19
              refine g_getv (r := 42) (v := v74865) g ad42 (by decide) ft12_19 ev74865 ?_
              refine ev_iconst ?_
              refine ev_isub (r := (v74865 - 1)) (by unfold w32; omega) ?_
              refine ev_in (d := (d + 2)) (a := 0) (b := 0) (cd' := c242_0) (m := 3) (L0 := [(0, (v74849 - 65)), (0, 0), (0, (v74865 - 1))]) (jcall_s (A := [(0, (v74865 - 1)), (0, 0), (0, (v74849 - 65))]) (S' := []) (by decide) rfl (Nat.le_of_ble_eq_true rfl)) (by decide) ml242 pp242 (Nat.le_of_ble_eq_true rfl) rfl (by decide) (by decide) ?_
              refine ev_iload_n rfl ?_
              refine ev_iload_n rfl ?_
              refine ev_icmplt f242_14 (fun c74866 => ?_) (fun c74866 => ?_)
              · refine ev_iconst ?_
                refine ev_ret rfl (by decide) (by decide) ?_
                show jEv _ _ _ _ _ _ _ (_, [(2, 42), (0, a1), (0, a2), (0, a3), (0, 1), (0, v74849), (0, (v74849 - 65))], [(0, 0)], _, _, _)
                refine ev_ifne f272_92 (fun c74867 => absurd c74867 (by omega)) (fun c74867 => ?_)
                refine ev_aload_n rfl ?_
                refine ev_iload_n rfl ?_
                refine ev_in (d := (d + 2)) (a := 0) (b := 0) (cd' := c266_0) (m := 2) (L0 := [(2, 42), (0, a1)]) (jcall_v (A := [(0, a1)]) (S' := []) (r := 42) rfl (g.lt ad42) (g.tg ad42) (Nat.le_of_ble_eq_true rfl)) (by decide) ml266 pp266 (Nat.le_of_ble_eq_true rfl) rfl (by decide) (by decide) ?_
                refine ev_aload_n rfl ?_
                refine ev_iload_n rfl ?_
                refine g_putf (r := 42) g ad42 (by decide) ft12_20 (by decide) (fun e => absurd e nz12_20) rf42_20 (by decide) (by omega) (by omega) (fun h74868 e74868 g74868 => ?_)
                have k74868 := k0.wr e74868 rfl
                refine ev_iconst ?_
                refine ev_ret rfl (by decide) (by decide) ?_
                show jEv _ _ _ _ _ _ _ (_, [(2, 42), (0, a1), (0, a2), (0, a3), (0, 1), (0, v74849), (0, (v74849 - 65))], [(0, (-1))], _, _, _)
                exact ev_ret rfl (by decide) (by decide) ⟨⟨_, rfl, by omega, by omega, g74868, k74868⟩, fun r hr h0 => by cases hr; exfalso; omega, fun r hr => by cases hr; exact ⟨_, (((jw_ne e74868 (Or.inr (by decide))).trans ew1)), by omega, by omega, (Fr.kp (Fr.rf _ _) ((Kp.rf [(42, 0)] _).wr e74868 rfl) (fun _ => rfl) (fun _ => rfl) (fun _ => rfl) (fun _ => rfl)), fun h0 => by exfalso; omega, fun h0 => by exfalso; omega⟩⟩
              · refine ev_iload_n rfl ?_
                refine ev_iload_n rfl ?_
                refine ev_icmpgt f242_14 (fun c74869 => ?_) (fun c74869 => ?_)
                · refine ev_iconst ?_
                  refine ev_ret rfl (by decide) (by decide) ?_
                  show jEv _ _ _ _ _ _ _ (_, [(2, 42), (0, a1), (0, a2), (0, a3), (0, 1), (0, v74849), (0, (v74849 - 65))], [(0, 0)], _, _, _)
                  refine ev_ifne f272_92 (fun c74870 => absurd c74870 (by omega)) (fun c74870 => ?_)
                  refine ev_aload_n rfl ?_
                  refine ev_iload_n rfl ?_
                  refine ev_in (d := (d + 2)) (a := 0) (b := 0) (cd' := c266_0) (m := 2) (L0 := [(2, 42), (0, a1)]) (jcall_v (A := [(0, a1)]) (S' := []) (r := 42) rfl (g.lt ad42) (g.tg ad42) (Nat.le_of_ble_eq_true rfl)) (by decide) ml266 pp266 (Nat.le_of_ble_eq_true rfl) rfl (by decide) (by decide) ?_
                  refine ev_aload_n rfl ?_
                  refine ev_iload_n rfl ?_
                  refine g_putf (r := 42) g ad42 (by decide) ft12_20 (by decide) (fun e => absurd e nz12_20) rf42_20 (by decide) (by omega) (by omega) (fun h74871 e74871 g74871 => ?_)
                  have k74871 := k0.wr e74871 rfl
                  refine ev_iconst ?_
                  refine ev_ret rfl (by decide) (by decide) ?_
                  show jEv _ _ _ _ _ _ _ (_, [(2, 42), (0, a1), (0, a2), (0, a3), (0, 1), (0, v74849), (0, (v74849 - 65))], [(0, (-1))], _, _, _)
                  exact ev_ret rfl (by decide) (by decide) ⟨⟨_, rfl, by omega, by omega, g74871, k74871⟩, fun r hr h0 => by cases hr; exfalso; omega, fun r hr => by cases hr; exact ⟨_, (((jw_ne e74871 (Or.inr (by decide))).trans ew1)), by omega, by omega, (Fr.kp (Fr.rf _ _) ((Kp.rf [(42, 0)] _).wr e74871 rfl) (fun _ => rfl) (fun _ => rfl) (fun _ => rfl) (fun _ => rfl)), fun h0 => by exfalso; omega, fun h0 => by exfalso; omega⟩⟩
                · refine ev_iconst ?_
                  refine ev_goto f242_15 ?_
                  refine ev_ret rfl (by decide) (by decide) ?_
                  show jEv _ _ _ _ _ _ _ (_, [(2, 42), (0, a1), (0, a2), (0, a3), (0, 1), (0, v74849), (0, (v74849 - 65))], [(0, 1)], _, _, _)
                  refine ev_ifne f272_92 (fun c74872 => ?_) (fun c74872 => absurd c74872 (by omega))
                  have zc74873 := Lv.cap hL (by omega) (ev74849) (ev74865) (by omega) (by omega)
                  refine ev_aload_n rfl ?_
                  refine ev_aload_n rfl ?_
                  refine g_getp (r := 42) (c := 55) g ad42 (by decide) (by decide) rf42_18 ft12_18 ?_
                  refine ev_iload rfl ?_
                  refine g_iald g ad55 rt55 (by omega) (by omega) (fun v74874 ev74874 lv74874 uv74874 => ?_)
                  refine ev_iload_n rfl ?_
                  refine ev_iload_n rfl ?_
                  refine ev_iload rfl ?_
                  refine ev_call (jcall_v (A := [(0, 1), (0, a3), (0, a2), (0, v74874)]) (S' := []) (r := 42) rfl (g.lt ad42) (g.tg ad42) (Nat.le_of_ble_eq_true rfl)) (jOk_le (by omega) (rih g (by omega) (by omega) (by omega) (by omega) (by omega) (by omega) (by omega) (by omega) (by omega) (by omega) (ew0) (by omega) (by omega) (ew1) (by omega) (by omega) (l0 := (v74849 - 65)) (b0 := b0) (by omega) hI (Iv.lv hI (by omega) (ev74865) (by omega) (by omega) (ev74874)) hb hS (by omega))) (by decide) (by decide) (fun w74875 h74875 q74875 => ?_)
                  obtain ⟨q74875, ad74875, ro74875⟩ := q74875
                  obtain ⟨v74876, rfl, lv74876, uv74876, g74875, kk74875⟩ := q74875
                  have ad74875 := ad74875 _ rfl
                  obtain ⟨m74877, em74877, lm74877, um74877, fr74875, pm74875, tr74875⟩ := ro74875 _ rfl
                  have k74875 := k0.tr kk74875 (by decide)
                  show jEv _ _ _ _ _ _ _ (_, [(2, 42), (0, a1), (0, a2), (0, a3), (0, 1), (0, v74849), (0, (v74849 - 65))], [(0, v74876)], _, _, _)
                  refine ev_ifge f272_116 (fun c74878 => ?_) (fun c74878 => ?_)
                  · refine ev_iload_n rfl ?_
                    refine ev_iconst ?_
                    refine ev_iadd (r := (a1 + 1)) (by unfold w32; omega) ?_
                    exact ev_ret rfl (by decide) (by decide) ⟨⟨_, rfl, by omega, by omega, g74875, k74875⟩, fun r hr h0 => by cases hr; exact (Ad.step (r' := (a1 + 1)) (Ad.rf _ _ _) (by omega) k74875 (fun _ => rfl) (((kk74875.v rfl).trans ev74849)) (by omega) (by omega) (by omega)), fun r hr => by cases hr; exact ⟨_, (em74877), by omega, by omega, (Fr.tr (Fr.rf _ _) fr74875 (by omega)), fun h0 => by have := pm74875 (by omega); omega, fun h0 hm => tr74875 (by omega) hm⟩⟩
                  · refine ev_aload_n rfl ?_
                    refine ev_iload_n rfl ?_
                    refine ev_in (d := (d + 2)) (a := 0) (b := 0) (cd' := c266_0) (m := 2) (L0 := [(2, 42), (0, a1)]) (jcall_v (A := [(0, a1)]) (S' := []) (r := 42) rfl (g74875.lt ad42) (g74875.tg ad42) (Nat.le_of_ble_eq_true rfl)) (by decide) ml266 pp266 (Nat.le_of_ble_eq_true rfl) rfl (by decide) (by decide) ?_
                    refine ev_aload_n rfl ?_
                    refine ev_iload_n rfl ?_
                    refine g_putf (r := 42) g74875 ad42 (by decide) ft12_20 (by decide) (fun e => absurd e nz12_20) rf42_20 (by decide) (by omega) (by omega) (fun h74879 e74879 g74879 => ?_)
                    have k74879 := k74875.wr e74879 rfl
                    refine ev_iconst ?_
                    refine ev_ret rfl (by decide) (by decide) ?_
                    show jEv _ _ _ _ _ _ _ (_, [(2, 42), (0, a1), (0, a2), (0, a3), (0, 1), (0, v74849), (0, (v74849 - 65))], [(0, (-1))], _, _, _)
                    exact ev_ret rfl (by decide) (by decide) ⟨⟨_, rfl, by omega, by omega, g74879, k74879⟩, fun r hr h0 => by cases hr; exfalso; omega, fun r hr => by cases hr; exact ⟨_, (((jw_ne e74879 (Or.inr (by decide))).trans em74877)), by omega, by omega, (Fr.kp (Fr.tr (Fr.rf _ _) fr74875 (by omega)) ((Kp.rf [(42, 0)] _).wr e74879 rfl) (fun _ => rfl) (fun _ => rfl) (fun _ => rfl) (fun _ => rfl)), fun h0 => by exfalso; omega, fun h0 => by exfalso; omega⟩⟩
            · refine ev_iconst ?_
              refine ev_goto f242_15 ?_
              refine ev_ret rfl (by decide) (by decide) ?_
              show jEv _ _ _ _ _ _ _ (_, [(2, 42), (0, a1)], [(0, 1)], _, _, _)
              refine ev_ret rfl (by decide) (by decide) ?_
              show jEv _ _ _ _ _ _ _ (_, [(2, 42), (0, a1), (0, a2), (0, a3), (0, 1), (0, v74849), (9, 0)], [(0, 1)], _, _, _)
              refine ev_ifeq f272_64 (fun c74880 => absurd c74880 (by omega)) (fun c74880 => ?_)
              refine ev_aload_n rfl ?_
              refine ev_iload_n rfl ?_
              refine ev_iload rfl ?_
              refine ev_call (jcall_v (A := [(0, 1), (0, a1)]) (S' := []) (r := 42) rfl (g.lt ad42) (g.tg ad42) (Nat.le_of_ble_eq_true rfl)) (jOk_le (by omega) (s269i g (by omega) (by omega) (by omega) (by omega) (by omega) (by omega) (by omega) (by omega) (ew0) (by omega) (by omega) (ew1) (by omega) (by omega) (l0 := l0) (b0 := b0) (k0 := a3) (by omega)  (S := S))) (by decide) (by decide) (fun w74881 h74881 q74881 => ?_)
              obtain ⟨q74881, ad74881, ro74881⟩ := q74881
              obtain ⟨v74882, rfl, lv74882, uv74882, g74881, kk74881⟩ := q74881
              have ad74881 := ad74881 _ rfl
              obtain ⟨m74883, em74883, lm74883, um74883, fr74881, pm74881, tr74881⟩ := ro74881 _ rfl
              have k74881 := k0.tr kk74881 (by decide)
              show jEv _ _ _ _ _ _ _ (_, [(2, 42), (0, a1), (0, a2), (0, a3), (0, 1), (0, v74849), (9, 0)], [(0, v74882)], _, _, _)
              exact ev_ret rfl (by decide) (by decide) ⟨⟨_, rfl, by omega, by omega, g74881, k74881⟩, fun r hr h0 => by cases hr; exact ad74881 h0, fun r hr => by cases hr; exact ⟨_, (em74883), by omega, by omega, (Fr.tr (Fr.rf _ _) fr74881 (by omega)), fun h0 => by have := pm74881 (by omega); omega, fun h0 hm => tr74881 h0 hm⟩⟩
      · refine ev_aload_n rfl ?_
        refine ev_iload_n rfl ?_
        refine ev_iload_n rfl ?_
        refine ev_iload_n rfl ?_
        refine ev_iload rfl ?_
        refine ev_call (jcall_v (A := [(0, 1), (0, a3), (0, a2), (0, a1)]) (S' := []) (r := 42) rfl (g.lt ad42) (g.tg ad42) (Nat.le_of_ble_eq_true rfl)) (jOk_le (by omega) (s271i_s g (by omega) (by omega) (by omega) (by omega) (by omega) (by omega) (by omega) (by omega) (by omega) (by omega) (ew0) (by omega) (by omega) (ew1) (by omega) (by omega) (l0 := l0) (b0 := b0) (by omega) hI hL hb hS (by rw [(ev74849)]; omega)  (S := S) hM (by omega) rih)) (by decide) (by decide) (fun w74884 h74884 q74884 => ?_)
        obtain ⟨q74884, ad74884, ro74884⟩ := q74884
        obtain ⟨v74885, rfl, lv74885, uv74885, g74884, kk74884⟩ := q74884
        have ad74884 := ad74884 _ rfl
        obtain ⟨m74886, em74886, lm74886, um74886, fr74884, pm74884, tr74884⟩ := ro74884 _ rfl
        have k74884 := k0.tr kk74884 (by decide)
        show jEv _ _ _ _ _ _ _ (_, [(2, 42), (0, a1), (0, a2), (0, a3), (0, 1), (0, v74849), (9, 0)], [(0, v74885)], _, _, _)
        exact ev_ret rfl (by decide) (by decide) ⟨⟨_, rfl, by omega, by omega, g74884, k74884⟩, fun r hr h0 => by cases hr; exact ad74884 h0, fun r hr => by cases hr; exact ⟨_, (em74886), by omega, by omega, (Fr.tr (Fr.rf _ _) fr74884 (by omega)), fun h0 => by have := pm74884 (by omega); omega, fun h0 hm => tr74884 h0 hm⟩⟩
    · refine ev_aload_n rfl ?_
      refine ev_iload_n rfl ?_
      refine ev_iload_n rfl ?_
      refine ev_iload_n rfl ?_
      refine ev_iload rfl ?_
      refine ev_call (jcall_v (A := [(0, 1), (0, a3), (0, a2), (0, a1)]) (S' := []) (r := 42) rfl (g.lt ad42) (g.tg ad42) (Nat.le_of_ble_eq_true rfl)) (jOk_le (by omega) (s270i_s g (by omega) (by omega) (by omega) (by omega) (by omega) (by omega) (by omega) (by omega) (by omega) (by omega) (ew0) (by omega) (by omega) (ew1) (by omega) (by omega) (l0 := l0) (b0 := b0) (by omega) hI hL hb hS (by rw [(ev74849)]; omega)  (S := S) hM (by omega) rih)) (by decide) (by decide) (fun w74887 h74887 q74887 => ?_)
      obtain ⟨q74887, ad74887, ro74887⟩ := q74887
      obtain ⟨v74888, rfl, lv74888, uv74888, g74887, kk74887⟩ := q74887
      have ad74887 := ad74887 _ rfl
      obtain ⟨m74889, em74889, lm74889, um74889, fr74887, pm74887, tr74887⟩ := ro74887 _ rfl
      have k74887 := k0.tr kk74887 (by decide)
      show jEv _ _ _ _ _ _ _ (_, [(2, 42), (0, a1), (0, a2), (0, a3), (0, 1), (0, v74849), (9, 0)], [(0, v74888)], _, _, _)
      exact ev_ret rfl (by decide) (by decide) ⟨⟨_, rfl, by omega, by omega, g74887, k74887⟩, fun r hr h0 => by cases hr; exact ad74887 h0, fun r hr => by cases hr; exact ⟨_, (em74889), by omega, by omega, (Fr.tr (Fr.rf _ _) fr74887 (by omega)), fun h0 => by have := pm74887 (by omega); omega, fun h0 hm => tr74887 h0 hm⟩⟩
theorem s272i_n (N : Nat) : ∀ {G : GH} {h : JH} (g : Gd G h) {l0 : Int} (ll0 : 0 ≤ l0) (ul0 : l0 ≤ 6) {b0 : Int} (lb0 : 1 ≤ b0) (ub0 : b0 ≤ 30000000) {a1 : Int} (la1 : 0 ≤ a1) (ua1 : a1 ≤ 202) {a2 : Int} (la2 : 0 ≤ a2) (ua2 : a2 ≤ 15) {a3 : Int} (la3 : 0 ≤ a3) (ua3 : a3 ≤ 12) {w0 : Int} (ew0 : h.2.2 42 9 = w0) (lw0 : 0 ≤ w0) (uw0 : w0 ≤ 5) {w1 : Int} (ew1 : h.2.2 42 21 = w1) (lw1 : 0 ≤ w1) (uw1 : w1 ≤ 99) (F0 : (b0 + w1) ≤ 200000000) {S : List Nat} (hI : Iv h) (hL : Lv h l0 a1) (hb : NB a3 = b0) (hS : Sk a2 S) (hN : 85 - (7 * a3 - l0) ≤ (N : Int)), jOk (371 + 4 * N) 0 0 272 [(2, 42), (0, a1), (0, a2), (0, a3), (0, 1)] h (fun v h' => PI G [(42, 21), (42, 22), (49, 0), (50, 0), (51, 0), (52, 0), (53, 0)] h 0 (-1) 200 v h' ∧ (∀ r, v = some (0, r) → 0 ≤ r → Ad h l0 a1 r) ∧ (∀ r, v = some (0, r) → RI h h' w0 w1 a3 b0 S r)) := by
  induction N with
  | zero => intro G h g l0 ll0 ul0 b0 lb0 ub0 a1 la1 ua1 a2 la2 ua2 a3 la3 ua3 w0 ew0 lw0 uw0 w1 ew1 lw1 uw1 F0 S hI hL hb hS hN; exfalso; omega
  | succ N ih =>
    intro G h g l0 ll0 ul0 b0 lb0 ub0 a1 la1 ua1 a2 la2 ua2 a3 la3 ua3 w0 ew0 lw0 uw0 w1 ew1 lw1 uw1 F0 S hI hL hb hS hN
    exact jOk_le (by omega) (s272i_s g ll0 ul0 lb0 ub0 la1 ua1 la2 ua2 la3 ua3 ew0 lw0 uw0 ew1 lw1 uw1 F0 hI hL hb hS (M := (7 * a3 - l0)) rfl (d := 371 + 4 * N) (by omega) (fun {G} {h} g {l0} ll0 ul0 {b0} lb0 ub0 {a1} la1 ua1 {a2} la2 ua2 {a3} la3 ua3 {w0} ew0 lw0 uw0 {w1} ew1 lw1 uw1 F0 {S} hI hL hb hS hm => ih g ll0 ul0 lb0 ub0 la1 ua1 la2 ua2 la3 ua3 ew0 lw0 uw0 ew1 lw1 uw1 F0 hI hL hb hS (by omega)))
theorem s272i {G : GH} {h : JH} (g : Gd G h) {l0 : Int} (ll0 : 0 ≤ l0) (ul0 : l0 ≤ 6) {b0 : Int} (lb0 : 1 ≤ b0) (ub0 : b0 ≤ 30000000) {a1 : Int} (la1 : 0 ≤ a1) (ua1 : a1 ≤ 202) {a2 : Int} (la2 : 0 ≤ a2) (ua2 : a2 ≤ 15) {a3 : Int} (la3 : 0 ≤ a3) (ua3 : a3 ≤ 12) {w0 : Int} (ew0 : h.2.2 42 9 = w0) (lw0 : 0 ≤ w0) (uw0 : w0 ≤ 5) {w1 : Int} (ew1 : h.2.2 42 21 = w1) (lw1 : 0 ≤ w1) (uw1 : w1 ≤ 99) (F0 : (b0 + w1) ≤ 200000000) {S : List Nat} (hI : Iv h) (hL : Lv h l0 a1) (hb : NB a3 = b0) (hS : Sk a2 S) : jOk 739 0 0 272 [(2, 42), (0, a1), (0, a2), (0, a3), (0, 1)] h (fun v h' => PI G [(42, 21), (42, 22), (49, 0), (50, 0), (51, 0), (52, 0), (53, 0)] h 0 (-1) 200 v h' ∧ (∀ r, v = some (0, r) → 0 ≤ r → Ad h l0 a1 r) ∧ (∀ r, v = some (0, r) → RI h h' w0 w1 a3 b0 S r)) := jOk_le (by decide) (s272i_n 92 g ll0 ul0 lb0 ub0 la1 ua1 la2 ua2 la3 ua3 ew0 lw0 uw0 ew1 lw1 uw1 F0 hI hL hb hS (by omega))
