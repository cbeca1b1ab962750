set_option maxHeartbeats 4000000 in
theorem s269f {G : GH} {h : JH} (g : Gd G h) {l0 : Int} (ll0 : 0 ≤ l0) (ul0 : l0 ≤ 6) {a1 : Int} (la1 : 0 ≤ a1) (ua1 : a1 ≤ 202) : jOk 3 0 0 269 [(2, 42), (0, a1), (0, 0)] h (fun v h' => PI G [(42, 21)] h 0 (-1) 200 v h' ∧ (∀ r, v = some (0, r) → 0 ≤ r → Ad h l0 a1 r)) := by
  refine ⟨by decide, by rw [ml269]; exact Nat.le_of_ble_eq_true rfl, ?_⟩
  rw [ml269, pp269]
  show jEv _ none _ c269_0 0 0 _ (c269_0, [(2, 42), (0, a1), (0, 0), (9, 0), (9, 0), (9, 0), (9, 0)], [], h, 0, 0)
  have k0 := Kp.rf [(42, 21)] h
  refine ev_iload_n rfl ?_
  refine ev_istore_n (L' := [(2, 42), (0, a1), (0, 0), (0, a1), (9, 0), (9, 0), (9, 0)]) (Nat.le_of_ble_eq_true rfl) rfl ?_
  refine ev_aload_n rfl ?_
  refine ev_iload_n rfl ?_
  refine ev_in (d := 1) (a := 0) (b := 0) (cd' := c264_0) (m := 2) (L0 := [(2, 42), (0, a1)]) (jcall_v (A := [(0, a1)]) (S' := []) (r := 42) rfl (g.lt ad42) (g.tg ad42) (Nat.le_of_ble_eq_true rfl)) (by decide) ml264 pp264 (Nat.le_of_ble_eq_true rfl) rfl (by decide) (by decide) ?_
  refine ev_iload_n rfl ?_
  refine ev_aload_n rfl ?_
  obtain ⟨v69209, ev69209, lv69209, uv69209⟩ := g.rd ad42 (show 17 < 66 by decide) rf42_17
  refine g_getv (r := 42) (v := v69209) g ad42 (by decide) ft12_17 ev69209 ?_
  refine ev_icmpge f264_17 (fun c69210 => ?_) (fun c69210 => ?_)
  · refine ev_iconst ?_
    refine ev_ret rfl (by decide) (by decide) ?_
    show jEv _ _ _ _ _ _ _ (_, [(2, 42), (0, a1), (0, 0), (0, a1), (9, 0), (9, 0), (9, 0)], [(0, (-1))], _, _, _)
    refine ev_bipush ?_
    refine ev_icmpne f269_16 (fun c69211 => ?_) (fun c69211 => absurd c69211 (by omega))
    refine ev_iconst ?_
    refine ev_istore (L' := [(2, 42), (0, a1), (0, 0), (0, a1), (0, 0), (9, 0), (9, 0)]) (Nat.le_of_ble_eq_true rfl) rfl ?_
    refine ev_iload rfl ?_
    refine ev_ifeq f269_27 (fun c69212 => ?_) (fun c69212 => absurd c69212 (by omega))
    refine ev_aload_n rfl ?_
    refine ev_iload_n rfl ?_
    refine ev_in (d := 1) (a := 0) (b := 0) (cd' := c265_0) (m := 2) (L0 := [(2, 42), (0, a1)]) (jcall_v (A := [(0, a1)]) (S' := []) (r := 42) rfl (g.lt ad42) (g.tg ad42) (Nat.le_of_ble_eq_true rfl)) (by decide) ml265 pp265 (Nat.le_of_ble_eq_true rfl) rfl (by decide) (by decide) ?_
    refine ev_aload_n rfl ?_
    refine ev_iload_n rfl ?_
    refine ev_in (d := 0) (a := 0) (b := 0) (cd' := c264_0) (m := 2) (L0 := [(2, 42), (0, a1)]) (jcall_v (A := [(0, a1)]) (S' := []) (r := 42) rfl (g.lt ad42) (g.tg ad42) (Nat.le_of_ble_eq_true rfl)) (by decide) ml264 pp264 (Nat.le_of_ble_eq_true rfl) rfl (by decide) (by decide) ?_
    refine ev_iload_n rfl ?_
    refine ev_aload_n rfl ?_
    refine g_getv (r := 42) (v := v69209) g ad42 (by decide) ft12_17 (ev69209) ?_
    refine ev_icmpge f264_17 (fun c69213 => ?_) (fun c69213 => absurd c69213 (by omega))
    refine ev_iconst ?_
    refine ev_ret rfl (by decide) (by decide) ?_
    show jEv _ _ _ _ _ _ _ (_, [(2, 42), (0, a1)], [(0, (-1))], _, _, _)
    refine ev_bipush ?_
    refine ev_bipush ?_
    refine ev_in (d := 0) (a := 0) (b := 0) (cd' := c242_0) (m := 3) (L0 := [(0, (-1)), (0, 48), (0, 57)]) (jcall_s (A := [(0, 57), (0, 48), (0, (-1))]) (S' := []) (by decide) rfl (Nat.le_of_ble_eq_true rfl)) (by decide) ml242 pp242 (Nat.le_of_ble_eq_true rfl) rfl (by decide) (by decide) ?_
    refine ev_iload_n rfl ?_
    refine ev_iload_n rfl ?_
    refine ev_icmplt f242_14 (fun c69214 => ?_) (fun c69214 => absurd c69214 (by omega))
    refine ev_iconst ?_
    refine ev_ret rfl (by decide) (by decide) ?_
    show jEv _ _ _ _ _ _ _ (_, [(2, 42), (0, a1)], [(0, 0)], _, _, _)
    refine ev_ret rfl (by decide) (by decide) ?_
    show jEv _ _ _ _ _ _ _ (_, [(2, 42), (0, a1), (0, 0), (0, a1), (0, 0), (9, 0), (9, 0)], [(0, 0)], _, _, _)
    refine ev_ifne f269_41 (fun c69215 => absurd c69215 (by omega)) (fun c69215 => ?_)
    refine ev_aload_n rfl ?_
    refine ev_iload_n rfl ?_
    refine ev_in (d := 1) (a := 0) (b := 0) (cd' := c266_0) (m := 2) (L0 := [(2, 42), (0, a1)]) (jcall_v (A := [(0, a1)]) (S' := []) (r := 42) rfl (g.lt ad42) (g.tg ad42) (Nat.le_of_ble_eq_true rfl)) (by decide) ml266 pp266 (Nat.le_of_ble_eq_true rfl) rfl (by decide) (by decide) ?_
    refine ev_aload_n rfl ?_
    refine ev_iload_n rfl ?_
    refine g_putf (r := 42) g ad42 (by decide) ft12_20 (by decide) (fun e => absurd e nz12_20) rf42_20 (by decide) (by omega) (by omega) (fun h69216 e69216 g69216 => ?_)
    have k69216 := k0.wr e69216 rfl
    refine ev_iconst ?_
    refine ev_ret rfl (by decide) (by decide) ?_
    show jEv _ _ _ _ _ _ _ (_, [(2, 42), (0, a1), (0, 0), (0, a1), (0, 0), (9, 0), (9, 0)], [(0, (-1))], _, _, _)
    exact ev_ret rfl (by decide) (by decide) ⟨⟨_, rfl, by omega, by omega, g69216, k69216⟩, fun r hr h0 => by cases hr; exfalso; omega⟩
  · refine ev_aload_n rfl ?_
    refine g_getp (r := 42) (c := 54) g ad42 (by decide) (by decide) rf42_16 ft12_16 ?_
    refine ev_iload_n rfl ?_
    refine g_bald g ad54 rt54 (by omega) (by omega) (fun v69217 ev69217 lv69217 uv69217 => ?_)
    refine ev_goto f264_18 ?_
    refine ev_ret rfl (by decide) (by decide) ?_
    show jEv _ _ _ _ _ _ _ (_, [(2, 42), (0, a1), (0, 0), (0, a1), (9, 0), (9, 0), (9, 0)], [(0, v69217)], _, _, _)
    refine ev_bipush ?_
    refine ev_icmpne f269_16 (fun c69218 => ?_) (fun c69218 => ?_)
    · refine ev_iconst ?_
      refine ev_istore (L' := [(2, 42), (0, a1), (0, 0), (0, a1), (0, 0), (9, 0), (9, 0)]) (Nat.le_of_ble_eq_true rfl) rfl ?_
      refine ev_iload rfl ?_
      refine ev_ifeq f269_27 (fun c69219 => ?_) (fun c69219 => absurd c69219 (by omega))
      refine ev_aload_n rfl ?_
      refine ev_iload_n rfl ?_
      refine ev_in (d := 1) (a := 0) (b := 0) (cd' := c265_0) (m := 2) (L0 := [(2, 42), (0, a1)]) (jcall_v (A := [(0, a1)]) (S' := []) (r := 42) rfl (g.lt ad42) (g.tg ad42) (Nat.le_of_ble_eq_true rfl)) (by decide) ml265 pp265 (Nat.le_of_ble_eq_true rfl) rfl (by decide) (by decide) ?_
      refine ev_aload_n rfl ?_
      refine ev_iload_n rfl ?_
      refine ev_in (d := 0) (a := 0) (b := 0) (cd' := c264_0) (m := 2) (L0 := [(2, 42), (0, a1)]) (jcall_v (A := [(0, a1)]) (S' := []) (r := 42) rfl (g.lt ad42) (g.tg ad42) (Nat.le_of_ble_eq_true rfl)) (by decide) ml264 pp264 (Nat.le_of_ble_eq_true rfl) rfl (by decide) (by decide) ?_
      refine ev_iload_n rfl ?_
      refine ev_aload_n rfl ?_
      refine g_getv (r := 42) (v := v69209) g ad42 (by decide) ft12_17 (ev69209) ?_
      refine ev_icmpge f264_17 (fun c69220 => absurd c69220 (by omega)) (fun c69220 => ?_)
      refine ev_aload_n rfl ?_
      refine g_getp (r := 42) (c := 54) g ad42 (by decide) (by decide) rf42_16 ft12_16 ?_
      refine ev_iload_n rfl ?_
      refine g_baldv (v := v69217) g ad54 (by omega) (by omega) (ev69217) ?_
      refine ev_goto f264_18 ?_
      refine ev_ret rfl (by decide) (by decide) ?_
      show jEv _ _ _ _ _ _ _ (_, [(2, 42), (0, a1)], [(0, v69217)], _, _, _)
      refine ev_bipush ?_
      refine ev_bipush ?_
      refine ev_in (d := 0) (a := 0) (b := 0) (cd' := c242_0) (m := 3) (L0 := [(0, v69217), (0, 48), (0, 57)]) (jcall_s (A := [(0, 57), (0, 48), (0, v69217)]) (S' := []) (by decide) rfl (Nat.le_of_ble_eq_true rfl)) (by decide) ml242 pp242 (Nat.le_of_ble_eq_true rfl) rfl (by decide) (by decide) ?_
      refine ev_iload_n rfl ?_
      refine ev_iload_n rfl ?_
      refine ev_icmplt f242_14 (fun c69221 => ?_) (fun c69221 => ?_)
      · refine ev_iconst ?_
        refine ev_ret rfl (by decide) (by decide) ?_
        show jEv _ _ _ _ _ _ _ (_, [(2, 42), (0, a1)], [(0, 0)], _, _, _)
        refine ev_ret rfl (by decide) (by decide) ?_
        show jEv _ _ _ _ _ _ _ (_, [(2, 42), (0, a1), (0, 0), (0, a1), (0, 0), (9, 0), (9, 0)], [(0, 0)], _, _, _)
        refine ev_ifne f269_41 (fun c69222 => absurd c69222 (by omega)) (fun c69222 => ?_)
        refine ev_aload_n rfl ?_
        refine ev_iload_n rfl ?_
        refine ev_in (d := 1) (a := 0) (b := 0) (cd' := c266_0) (m := 2) (L0 := [(2, 42), (0, a1)]) (jcall_v (A := [(0, a1)]) (S' := []) (r := 42) rfl (g.lt ad42) (g.tg ad42) (Nat.le_of_ble_eq_true rfl)) (by decide) ml266 pp266 (Nat.le_of_ble_eq_true rfl) rfl (by decide) (by decide) ?_
        refine ev_aload_n rfl ?_
        refine ev_iload_n rfl ?_
        refine g_putf (r := 42) g ad42 (by decide) ft12_20 (by decide) (fun e => absurd e nz12_20) rf42_20 (by decide) (by omega) (by omega) (fun h69223 e69223 g69223 => ?_)
        have k69223 := k0.wr e69223 rfl
        refine ev_iconst ?_
        refine ev_ret rfl (by decide) (by decide) ?_
        show jEv _ _ _ _ _ _ _ (_, [(2, 42), (0, a1), (0, 0), (0, a1), (0, 0), (9, 0), (9, 0)], [(0, (-1))], _, _, _)
        exact ev_ret rfl (by decide) (by decide) ⟨⟨_, rfl, by omega, by omega, g69223, k69223⟩, fun r hr h0 => by cases hr; exfalso; omega⟩
      · refine ev_iload_n rfl ?_
        refine ev_iload_n rfl ?_
        refine ev_icmpgt f242_14 (fun c69224 => ?_) (fun c69224 => ?_)
        · refine ev_iconst ?_
          refine ev_ret rfl (by decide) (by decide) ?_
          show jEv _ _ _ _ _ _ _ (_, [(2, 42), (0, a1)], [(0, 0)], _, _, _)
          refine ev_ret rfl (by decide) (by decide) ?_
          show jEv _ _ _ _ _ _ _ (_, [(2, 42), (0, a1), (0, 0), (0, a1), (0, 0), (9, 0), (9, 0)], [(0, 0)], _, _, _)
          refine ev_ifne f269_41 (fun c69225 => absurd c69225 (by omega)) (fun c69225 => ?_)
          refine ev_aload_n rfl ?_
          refine ev_iload_n rfl ?_
          refine ev_in (d := 1) (a := 0) (b := 0) (cd' := c266_0) (m := 2) (L0 := [(2, 42), (0, a1)]) (jcall_v (A := [(0, a1)]) (S' := []) (r := 42) rfl (g.lt ad42) (g.tg ad42) (Nat.le_of_ble_eq_true rfl)) (by decide) ml266 pp266 (Nat.le_of_ble_eq_true rfl) rfl (by decide) (by decide) ?_
          refine ev_aload_n rfl ?_
          refine ev_iload_n rfl ?_
          refine g_putf (r := 42) g ad42 (by decide) ft12_20 (by decide) (fun e => absurd e nz12_20) rf42_20 (by decide) (by omega) (by omega) (fun h69226 e69226 g69226 => ?_)
          have k69226 := k0.wr e69226 rfl
          refine ev_iconst ?_
          refine ev_ret rfl (by decide) (by decide) ?_
          show jEv _ _ _ _ _ _ _ (_, [(2, 42), (0, a1), (0, 0), (0, a1), (0, 0), (9, 0), (9, 0)], [(0, (-1))], _, _, _)
          exact ev_ret rfl (by decide) (by decide) ⟨⟨_, rfl, by omega, by omega, g69226, k69226⟩, fun r hr h0 => by cases hr; exfalso; omega⟩
        · refine ev_iconst ?_
          refine ev_goto f242_15 ?_
          refine ev_ret rfl (by decide) (by decide) ?_
          show jEv _ _ _ _ _ _ _ (_, [(2, 42), (0, a1)], [(0, 1)], _, _, _)
          refine ev_ret rfl (by decide) (by decide) ?_
          show jEv _ _ _ _ _ _ _ (_, [(2, 42), (0, a1), (0, 0), (0, a1), (0, 0), (9, 0), (9, 0)], [(0, 1)], _, _, _)
          refine ev_ifne f269_41 (fun c69227 => ?_) (fun c69227 => absurd c69227 (by omega))
          refine ev_iconst ?_
          refine ev_istore (L' := [(2, 42), (0, a1), (0, 0), (0, a1), (0, 0), (0, 0), (9, 0)]) (Nat.le_of_ble_eq_true rfl) rfl ?_
          refine ev_iconst ?_
          refine ev_istore (L' := [(2, 42), (0, a1), (0, 0), (0, a1), (0, 0), (0, 0), (0, 0)]) (Nat.le_of_ble_eq_true rfl) rfl ?_
          refine ev_iload rfl ?_
          refine ev_iconst ?_
          refine ev_icmpge f269_86 (fun c69228 => absurd c69228 (by omega)) (fun c69228 => ?_)
          refine ev_aload_n rfl ?_
          refine ev_iload_n rfl ?_
          refine ev_in (d := 1) (a := 0) (b := 0) (cd' := c265_0) (m := 2) (L0 := [(2, 42), (0, a1)]) (jcall_v (A := [(0, a1)]) (S' := []) (r := 42) rfl (g.lt ad42) (g.tg ad42) (Nat.le_of_ble_eq_true rfl)) (by decide) ml265 pp265 (Nat.le_of_ble_eq_true rfl) rfl (by decide) (by decide) ?_
          refine ev_aload_n rfl ?_
          refine ev_iload_n rfl ?_
          refine ev_in (d := 0) (a := 0) (b := 0) (cd' := c264_0) (m := 2) (L0 := [(2, 42), (0, a1)]) (jcall_v (A := [(0, a1)]) (S' := []) (r := 42) rfl (g.lt ad42) (g.tg ad42) (Nat.le_of_ble_eq_true rfl)) (by decide) ml264 pp264 (Nat.le_of_ble_eq_true rfl) rfl (by decide) (by decide) ?_
          refine ev_iload_n rfl ?_
          refine ev_aload_n rfl ?_
          refine g_getv (r := 42) (v := v69209) g ad42 (by decide) ft12_17 (ev69209) ?_
          refine ev_icmpge f264_17 (fun c69229 => absurd c69229 (by omega)) (fun c69229 => ?_)
          refine ev_aload_n rfl ?_
          refine g_getp (r := 42) (c := 54) g ad42 (by decide) (by decide) rf42_16 ft12_16 ?_
          refine ev_iload_n rfl ?_
          refine g_baldv (v := v69217) g ad54 (by omega) (by omega) (ev69217) ?_
          refine ev_goto f264_18 ?_
          refine ev_ret rfl (by decide) (by decide) ?_
          show jEv _ _ _ _ _ _ _ (_, [(2, 42), (0, a1)], [(0, v69217)], _, _, _)
          refine ev_bipush ?_
          refine ev_bipush ?_
          refine ev_in (d := 0) (a := 0) (b := 0) (cd' := c242_0) (m := 3) (L0 := [(0, v69217), (0, 48), (0, 57)]) (jcall_s (A := [(0, 57), (0, 48), (0, v69217)]) (S' := []) (by decide) rfl (Nat.le_of_ble_eq_true rfl)) (by decide) ml242 pp242 (Nat.le_of_ble_eq_true rfl) rfl (by decide) (by decide) ?_
          refine ev_iload_n rfl ?_
          refine ev_iload_n rfl ?_
          refine ev_icmplt f242_14 (fun c69230 => absurd c69230 (by omega)) (fun c69230 => ?_)
          refine ev_iload_n rfl ?_
          refine ev_iload_n rfl ?_
          refine ev_icmpgt f242_14 (fun c69231 => absurd c69231 (by omega)) (fun c69231 => ?_)
          refine ev_iconst ?_
          refine ev_goto f242_15 ?_
          refine ev_ret rfl (by decide) (by decide) ?_
          show jEv _ _ _ _ _ _ _ (_, [(2, 42), (0, a1)], [(0, 1)], _, _, _)
          refine ev_ret rfl (by decide) (by decide) ?_
          show jEv _ _ _ _ _ _ _ (_, [(2, 42), (0, a1), (0, 0), (0, a1), (0, 0), (0, 0), (0, 0)], [(0, 1)], _, _, _)
          refine ev_ifeq f269_86 (fun c69232 => absurd c69232 (by omega)) (fun c69232 => ?_)
          refine ev_bipush ?_
          refine ev_iload rfl ?_
          refine ev_imul (r := 0) (by decide) ?_
          refine ev_aload_n rfl ?_
          refine ev_iload_n rfl ?_
          refine ev_in (d := 1) (a := 0) (b := 0) (cd' := c264_0) (m := 2) (L0 := [(2, 42), (0, a1)]) (jcall_v (A := [(0, a1)]) (S' := [(0, 0)]) (r := 42) rfl (g.lt ad42) (g.tg ad42) (Nat.le_of_ble_eq_true rfl)) (by decide) ml264 pp264 (Nat.le_of_ble_eq_true rfl) rfl (by decide) (by decide) ?_
          refine ev_iload_n rfl ?_
          refine ev_aload_n rfl ?_
          refine g_getv (r := 42) (v := v69209) g ad42 (by decide) ft12_17 (ev69209) ?_
          refine ev_icmpge f264_17 (fun c69233 => absurd c69233 (by omega)) (fun c69233 => ?_)
          refine ev_aload_n rfl ?_
          refine g_getp (r := 42) (c := 54) g ad42 (by decide) (by decide) rf42_16 ft12_16 ?_
          refine ev_iload_n rfl ?_
          refine g_baldv (v := v69217) g ad54 (by omega) (by omega) (ev69217) ?_
          refine ev_goto f264_18 ?_
          refine ev_ret rfl (by decide) (by decide) ?_
          show jEv _ _ _ _ _ _ _ (_, [(2, 42), (0, a1), (0, 0), (0, a1), (0, 0), (0, 0), (0, 0)], [(0, v69217), (0, 0)], _, _, _)
          refine ev_iadd (r := v69217) (by unfold w32; omega) ?_
          refine ev_bipush ?_
          refine ev_isub (r := (v69217 - 48)) (by unfold w32; omega) ?_
          refine ev_istore (L' := [(2, 42), (0, a1), (0, 0), (0, a1), (0, 0), (0, (v69217 - 48)), (0, 0)]) (Nat.le_of_ble_eq_true rfl) rfl ?_
          refine ev_iinc (w := 1) (L' := [(2, 42), (0, a1), (0, 0), (0, a1), (0, 0), (0, (v69217 - 48)), (0, 1)]) rfl (by decide) rfl ?_
          refine ev_iinc (w := (a1 + 1)) (L' := [(2, 42), (0, a1), (0, 0), (0, (a1 + 1)), (0, 0), (0, (v69217 - 48)), (0, 1)]) rfl (by unfold w32; omega) rfl ?_
          refine ev_goto f269_47 ?_
          refine ev_iload rfl ?_
          refine ev_iconst ?_
          refine ev_icmpge f269_86 (fun c69234 => absurd c69234 (by omega)) (fun c69234 => ?_)
          refine ev_aload_n rfl ?_
          refine ev_iload_n rfl ?_
          refine ev_in (d := 1) (a := 0) (b := 0) (cd' := c265_0) (m := 2) (L0 := [(2, 42), (0, (a1 + 1))]) (jcall_v (A := [(0, (a1 + 1))]) (S' := []) (r := 42) rfl (g.lt ad42) (g.tg ad42) (Nat.le_of_ble_eq_true rfl)) (by decide) ml265 pp265 (Nat.le_of_ble_eq_true rfl) rfl (by decide) (by decide) ?_
          refine ev_aload_n rfl ?_
          refine ev_iload_n rfl ?_
          refine ev_in (d := 0) (a := 0) (b := 0) (cd' := c264_0) (m := 2) (L0 := [(2, 42), (0, (a1 + 1))]) (jcall_v (A := [(0, (a1 + 1))]) (S' := []) (r := 42) rfl (g.lt ad42) (g.tg ad42) (Nat.le_of_ble_eq_true rfl)) (by decide) ml264 pp264 (Nat.le_of_ble_eq_true rfl) rfl (by decide) (by decide) ?_
          refine ev_iload_n rfl ?_
          refine ev_aload_n rfl ?_
          refine g_getv (r := 42) (v := v69209) g ad42 (by decide) ft12_17 (ev69209) ?_
          refine ev_icmpge f264_17 (fun c69235 => ?_) (fun c69235 => ?_)
          · refine ev_iconst ?_
            refine ev_ret rfl (by decide) (by decide) ?_
            show jEv _ _ _ _ _ _ _ (_, [(2, 42), (0, (a1 + 1))], [(0, (-1))], _, _, _)
            refine ev_bipush ?_
            refine ev_bipush ?_
            refine ev_in (d := 0) (a := 0) (b := 0) (cd' := c242_0) (m := 3) (L0 := [(0, (-1)), (0, 48), (0, 57)]) (jcall_s (A := [(0, 57), (0, 48), (0, (-1))]) (S' := []) (by decide) rfl (Nat.le_of_ble_eq_true rfl)) (by decide) ml242 pp242 (Nat.le_of_ble_eq_true rfl) rfl (by decide) (by decide) ?_
            refine ev_iload_n rfl ?_
            refine ev_iload_n rfl ?_
            refine ev_icmplt f242_14 (fun c69236 => ?_) (fun c69236 => absurd c69236 (by omega))
            refine ev_iconst ?_
            refine ev_ret rfl (by decide) (by decide) ?_
            show jEv _ _ _ _ _ _ _ (_, [(2, 42), (0, (a1 + 1))], [(0, 0)], _, _, _)
            refine ev_ret rfl (by decide) (by decide) ?_
            show jEv _ _ _ _ _ _ _ (_, [(2, 42), (0, a1), (0, 0), (0, (a1 + 1)), (0, 0), (0, (v69217 - 48)), (0, 1)], [(0, 0)], _, _, _)
            refine ev_ifeq f269_86 (fun c69237 => ?_) (fun c69237 => absurd c69237 (by omega))
            refine ev_aload_n rfl ?_
            refine ev_iload_n rfl ?_
            refine ev_in (d := 1) (a := 0) (b := 0) (cd' := c265_0) (m := 2) (L0 := [(2, 42), (0, (a1 + 1))]) (jcall_v (A := [(0, (a1 + 1))]) (S' := []) (r := 42) rfl (g.lt ad42) (g.tg ad42) (Nat.le_of_ble_eq_true rfl)) (by decide) ml265 pp265 (Nat.le_of_ble_eq_true rfl) rfl (by decide) (by decide) ?_
            refine ev_aload_n rfl ?_
            refine ev_iload_n rfl ?_
            refine ev_in (d := 0) (a := 0) (b := 0) (cd' := c264_0) (m := 2) (L0 := [(2, 42), (0, (a1 + 1))]) (jcall_v (A := [(0, (a1 + 1))]) (S' := []) (r := 42) rfl (g.lt ad42) (g.tg ad42) (Nat.le_of_ble_eq_true rfl)) (by decide) ml264 pp264 (Nat.le_of_ble_eq_true rfl) rfl (by decide) (by decide) ?_
            refine ev_iload_n rfl ?_
            refine ev_aload_n rfl ?_
            refine g_getv (r := 42) (v := v69209) g ad42 (by decide) ft12_17 (ev69209) ?_
            refine ev_icmpge f264_17 (fun c69238 => ?_) (fun c69238 => absurd c69238 (by omega))
            refine ev_iconst ?_
            refine ev_ret rfl (by decide) (by decide) ?_
            show jEv _ _ _ _ _ _ _ (_, [(2, 42), (0, (a1 + 1))], [(0, (-1))], _, _, _)
            refine ev_bipush ?_
            refine ev_bipush ?_
            refine ev_in (d := 0) (a := 0) (b := 0) (cd' := c242_0) (m := 3) (L0 := [(0, (-1)), (0, 48), (0, 57)]) (jcall_s (A := [(0, 57), (0, 48), (0, (-1))]) (S' := []) (by decide) rfl (Nat.le_of_ble_eq_true rfl)) (by decide) ml242 pp242 (Nat.le_of_ble_eq_true rfl) rfl (by decide) (by decide) ?_
            refine ev_iload_n rfl ?_
            refine ev_iload_n rfl ?_
            refine ev_icmplt f242_14 (fun c69239 => ?_) (fun c69239 => absurd c69239 (by omega))
            refine ev_iconst ?_
            refine ev_ret rfl (by decide) (by decide) ?_
            show jEv _ _ _ _ _ _ _ (_, [(2, 42), (0, (a1 + 1))], [(0, 0)], _, _, _)
            refine ev_ret rfl (by decide) (by decide) ?_
            show jEv _ _ _ _ _ _ _ (_, [(2, 42), (0, a1), (0, 0), (0, (a1 + 1)), (0, 0), (0, (v69217 - 48)), (0, 1)], [(0, 0)], _, _, _)
            refine ev_ifeq f269_100 (fun c69240 => ?_) (fun c69240 => absurd c69240 (by omega))
            refine ev_aload_n rfl ?_
            refine ev_iload_n rfl ?_
            refine ev_iconst ?_
            refine ev_iload rfl ?_
            refine ev_ifeq f269_114 (fun c69241 => ?_) (fun c69241 => absurd c69241 (by omega))
            refine ev_iload rfl ?_
            refine ev_in (d := 1) (a := 0) (b := 0) (cd' := c267_0) (m := 6) (L0 := [(2, 42), (0, 0), (0, 0), (0, (v69217 - 48)), (9, 0), (9, 0)]) (jcall_v (A := [(0, (v69217 - 48)), (0, 0), (0, 0)]) (S' := []) (r := 42) rfl (g.lt ad42) (g.tg ad42) (Nat.le_of_ble_eq_true rfl)) (by decide) ml267 pp267 (Nat.le_of_ble_eq_true rfl) rfl (by decide) (by decide) ?_
            refine ev_iload_n rfl ?_
            refine ev_ifne f267_6 (fun c69242 => absurd c69242 (by omega)) (fun c69242 => ?_)
            refine ev_iconst ?_
            refine ev_ret rfl (by decide) (by decide) ?_
            show jEv _ _ _ _ _ _ _ (_, [(2, 42), (0, a1), (0, 0), (0, (a1 + 1)), (0, 0), (0, (v69217 - 48)), (0, 1)], [(0, (-1))], _, _, _)
            refine ev_pop (by decide) ?_
            refine ev_iload_n rfl ?_
            exact ev_ret rfl (by decide) (by decide) ⟨⟨_, rfl, by omega, by omega, g, k0⟩, fun r hr h0 => by cases hr; exact (Ad.step (r' := (a1 + 1)) (Ad.rf _ _ _) (by omega) k0 (fun _ => rfl) (ev69217) (by omega) (by omega) (by omega))⟩
          · refine ev_aload_n rfl ?_
            refine g_getp (r := 42) (c := 54) g ad42 (by decide) (by decide) rf42_16 ft12_16 ?_
            refine ev_iload_n rfl ?_
            refine g_bald g ad54 rt54 (by omega) (by omega) (fun v69243 ev69243 lv69243 uv69243 => ?_)
            refine ev_goto f264_18 ?_
            refine ev_ret rfl (by decide) (by decide) ?_
            show jEv _ _ _ _ _ _ _ (_, [(2, 42), (0, (a1 + 1))], [(0, v69243)], _, _, _)
            refine ev_bipush ?_
            refine ev_bipush ?_
            refine ev_in (d := 0) (a := 0) (b := 0) (cd' := c242_0) (m := 3) (L0 := [(0, v69243), (0, 48), (0, 57)]) (jcall_s (A := [(0, 57), (0, 48), (0, v69243)]) (S' := []) (by decide) rfl (Nat.le_of_ble_eq_true rfl)) (by decide) ml242 pp242 (Nat.le_of_ble_eq_true rfl) rfl (by decide) (by decide) ?_
            refine ev_iload_n rfl ?_
            refine ev_iload_n rfl ?_
            refine ev_icmplt f242_14 (fun c69244 => ?_) (fun c69244 => ?_)
            · refine ev_iconst ?_
              refine ev_ret rfl (by decide) (by decide) ?_
              show jEv _ _ _ _ _ _ _ (_, [(2, 42), (0, (a1 + 1))], [(0, 0)], _, _, _)
              refine ev_ret rfl (by decide) (by decide) ?_
              show jEv _ _ _ _ _ _ _ (_, [(2, 42), (0, a1), (0, 0), (0, (a1 + 1)), (0, 0), (0, (v69217 - 48)), (0, 1)], [(0, 0)], _, _, _)
              refine ev_ifeq f269_86 (fun c69245 => ?_) (fun c69245 => absurd c69245 (by omega))
              refine ev_aload_n rfl ?_
              refine ev_iload_n rfl ?_
              refine ev_in (d := 1) (a := 0) (b := 0) (cd' := c265_0) (m := 2) (L0 := [(2, 42), (0, (a1 + 1))]) (jcall_v (A := [(0, (a1 + 1))]) (S' := []) (r := 42) rfl (g.lt ad42) (g.tg ad42) (Nat.le_of_ble_eq_true rfl)) (by decide) ml265 pp265 (Nat.le_of_ble_eq_true rfl) rfl (by decide) (by decide) ?_
              refine ev_aload_n rfl ?_
              refine ev_iload_n rfl ?_
              refine ev_in (d := 0) (a := 0) (b := 0) (cd' := c264_0) (m := 2) (L0 := [(2, 42), (0, (a1 + 1))]) (jcall_v (A := [(0, (a1 + 1))]) (S' := []) (r := 42) rfl (g.lt ad42) (g.tg ad42) (Nat.le_of_ble_eq_true rfl)) (by decide) ml264 pp264 (Nat.le_of_ble_eq_true rfl) rfl (by decide) (by decide) ?_
              refine ev_iload_n rfl ?_
              refine ev_aload_n rfl ?_
              refine g_getv (r := 42) (v := v69209) g ad42 (by decide) ft12_17 (ev69209) ?_
              refine ev_icmpge f264_17 (fun c69246 => absurd c69246 (by omega)) (fun c69246 => ?_)
              refine ev_aload_n rfl ?_
              refine g_getp (r := 42) (c := 54) g ad42 (by decide) (by decide) rf42_16 ft12_16 ?_
              refine ev_iload_n rfl ?_
              refine g_baldv (v := v69243) g ad54 (by omega) (by omega) (ev69243) ?_
              refine ev_goto f264_18 ?_
              refine ev_ret rfl (by decide) (by decide) ?_
              show jEv _ _ _ _ _ _ _ (_, [(2, 42), (0, (a1 + 1))], [(0, v69243)], _, _, _)
              refine ev_bipush ?_
              refine ev_bipush ?_
              refine ev_in (d := 0) (a := 0) (b := 0) (cd' := c242_0) (m := 3) (L0 := [(0, v69243), (0, 48), (0, 57)]) (jcall_s (A := [(0, 57), (0, 48), (0, v69243)]) (S' := []) (by decide) rfl (Nat.le_of_ble_eq_true rfl)) (by decide) ml242 pp242 (Nat.le_of_ble_eq_true rfl) rfl (by decide) (by decide) ?_
              refine ev_iload_n rfl ?_
              refine ev_iload_n rfl ?_
              refine ev_icmplt f242_14 (fun c69247 => ?_) (fun c69247 => absurd c69247 (by omega))
              refine ev_iconst ?_
              refine ev_ret rfl (by decide) (by decide) ?_
              show jEv _ _ _ _ _ _ _ (_, [(2, 42), (0, (a1 + 1))], [(0, 0)], _, _, _)
              refine ev_ret rfl (by decide) (by decide) ?_
              show jEv _ _ _ _ _ _ _ (_, [(2, 42), (0, a1), (0, 0), (0, (a1 + 1)), (0, 0), (0, (v69217 - 48)), (0, 1)], [(0, 0)], _, _, _)
              refine ev_ifeq f269_100 (fun c69248 => ?_) (fun c69248 => absurd c69248 (by omega))
              refine ev_aload_n rfl ?_
              refine ev_iload_n rfl ?_
              refine ev_iconst ?_
              refine ev_iload rfl ?_
              refine ev_ifeq f269_114 (fun c69249 => ?_) (fun c69249 => absurd c69249 (by omega))
              refine ev_iload rfl ?_
              refine ev_in (d := 1) (a := 0) (b := 0) (cd' := c267_0) (m := 6) (L0 := [(2, 42), (0, 0), (0, 0), (0, (v69217 - 48)), (9, 0), (9, 0)]) (jcall_v (A := [(0, (v69217 - 48)), (0, 0), (0, 0)]) (S' := []) (r := 42) rfl (g.lt ad42) (g.tg ad42) (Nat.le_of_ble_eq_true rfl)) (by decide) ml267 pp267 (Nat.le_of_ble_eq_true rfl) rfl (by decide) (by decide) ?_
              refine ev_iload_n rfl ?_
              refine ev_ifne f267_6 (fun c69250 => absurd c69250 (by omega)) (fun c69250 => ?_)
              refine ev_iconst ?_
              refine ev_ret rfl (by decide) (by decide) ?_
              show jEv _ _ _ _ _ _ _ (_, [(2, 42), (0, a1), (0, 0), (0, (a1 + 1)), (0, 0), (0, (v69217 - 48)), (0, 1)], [(0, (-1))], _, _, _)
              refine ev_pop (by decide) ?_
              refine ev_iload_n rfl ?_
              exact ev_ret rfl (by decide) (by decide) ⟨⟨_, rfl, by omega, by omega, g, k0⟩, fun r hr h0 => by cases hr; exact (Ad.step (r' := (a1 + 1)) (Ad.rf _ _ _) (by omega) k0 (fun _ => rfl) (ev69217) (by omega) (by omega) (by omega))⟩
            · refine ev_iload_n rfl ?_
              refine ev_iload_n rfl ?_
              refine ev_icmpgt f242_14 (fun c69251 => ?_) (fun c69251 => ?_)
              · refine ev_iconst ?_
                refine ev_ret rfl (by decide) (by decide) ?_
                show jEv _ _ _ _ _ _ _ (_, [(2, 42), (0, (a1 + 1))], [(0, 0)], _, _, _)
                refine ev_ret rfl (by decide) (by decide) ?_
                show jEv _ _ _ _ _ _ _ (_, [(2, 42), (0, a1), (0, 0), (0, (a1 + 1)), (0, 0), (0, (v69217 - 48)), (0, 1)], [(0, 0)], _, _, _)
                refine ev_ifeq f269_86 (fun c69252 => ?_) (fun c69252 => absurd c69252 (by omega))
                refine ev_aload_n rfl ?_
                refine ev_iload_n rfl ?_
                refine ev_in (d := 1) (a := 0) (b := 0) (cd' := c265_0) (m := 2) (L0 := [(2, 42), (0, (a1 + 1))]) (jcall_v (A := [(0, (a1 + 1))]) (S' := []) (r := 42) rfl (g.lt ad42) (g.tg ad42) (Nat.le_of_ble_eq_true rfl)) (by decide) ml265 pp265 (Nat.le_of_ble_eq_true rfl) rfl (by decide) (by decide) ?_
                refine ev_aload_n rfl ?_
                refine ev_iload_n rfl ?_
                refine ev_in (d := 0) (a := 0) (b := 0) (cd' := c264_0) (m := 2) (L0 := [(2, 42), (0, (a1 + 1))]) (jcall_v (A := [(0, (a1 + 1))]) (S' := []) (r := 42) rfl (g.lt ad42) (g.tg ad42) (Nat.le_of_ble_eq_true rfl)) (by decide) ml264 pp264 (Nat.le_of_ble_eq_true rfl) rfl (by decide) (by decide) ?_
                refine ev_iload_n rfl ?_
                refine ev_aload_n rfl ?_
                refine g_getv (r := 42) (v := v69209) g ad42 (by decide) ft12_17 (ev69209) ?_
                refine ev_icmpge f264_17 (fun c69253 => absurd c69253 (by omega)) (fun c69253 => ?_)
                refine ev_aload_n rfl ?_
                refine g_getp (r := 42) (c := 54) g ad42 (by decide) (by decide) rf42_16 ft12_16 ?_
                refine ev_iload_n rfl ?_
                refine g_baldv (v := v69243) g ad54 (by omega) (by omega) (ev69243) ?_
                refine ev_goto f264_18 ?_
                refine ev_ret rfl (by decide) (by decide) ?_
                show jEv _ _ _ _ _ _ _ (_, [(2, 42), (0, (a1 + 1))], [(0, v69243)], _, _, _)
                refine ev_bipush ?_
                refine ev_bipush ?_
                refine ev_in (d := 0) (a := 0) (b := 0) (cd' := c242_0) (m := 3) (L0 := [(0, v69243), (0, 48), (0, 57)]) (jcall_s (A := [(0, 57), (0, 48), (0, v69243)]) (S' := []) (by decide) rfl (Nat.le_of_ble_eq_true rfl)) (by decide) ml242 pp242 (Nat.le_of_ble_eq_true rfl) rfl (by decide) (by decide) ?_
                refine ev_iload_n rfl ?_
                refine ev_iload_n rfl ?_
                refine ev_icmplt f242_14 (fun c69254 => absurd c69254 (by omega)) (fun c69254 => ?_)
                refine ev_iload_n rfl ?_
                refine ev_iload_n rfl ?_
                refine ev_icmpgt f242_14 (fun c69255 => ?_) (fun c69255 => absurd c69255 (by omega))
                refine ev_iconst ?_
                refine ev_ret rfl (by decide) (by decide) ?_
                show jEv _ _ _ _ _ _ _ (_, [(2, 42), (0, (a1 + 1))], [(0, 0)], _, _, _)
                refine ev_ret rfl (by decide) (by decide) ?_
                show jEv _ _ _ _ _ _ _ (_, [(2, 42), (0, a1), (0, 0), (0, (a1 + 1)), (0, 0), (0, (v69217 - 48)), (0, 1)], [(0, 0)], _, _, _)
                refine ev_ifeq f269_100 (fun c69256 => ?_) (fun c69256 => absurd c69256 (by omega))
                refine ev_aload_n rfl ?_
                refine ev_iload_n rfl ?_
                refine ev_iconst ?_
                refine ev_iload rfl ?_
                refine ev_ifeq f269_114 (fun c69257 => ?_) (fun c69257 => absurd c69257 (by omega))
                refine ev_iload rfl ?_
                refine ev_in (d := 1) (a := 0) (b := 0) (cd' := c267_0) (m := 6) (L0 := [(2, 42), (0, 0), (0, 0), (0, (v69217 - 48)), (9, 0), (9, 0)]) (jcall_v (A := [(0, (v69217 - 48)), (0, 0), (0, 0)]) (S' := []) (r := 42) rfl (g.lt ad42) (g.tg ad42) (Nat.le_of_ble_eq_true rfl)) (by decide) ml267 pp267 (Nat.le_of_ble_eq_true rfl) rfl (by decide) (by decide) ?_
                refine ev_iload_n rfl ?_
                refine ev_ifne f267_6 (fun c69258 => absurd c69258 (by omega)) (fun c69258 => ?_)
                refine ev_iconst ?_
                refine ev_ret rfl (by decide) (by decide) ?_
                show jEv _ _ _ _ _ _ _ (_, [(2, 42), (0, a1), (0, 0), (0, (a1 + 1)), (0, 0), (0, (v69217 - 48)), (0, 1)], [(0, (-1))], _, _, _)
                refine ev_pop (by decide) ?_
                refine ev_iload_n rfl ?_
                exact ev_ret rfl (by decide) (by decide) ⟨⟨_, rfl, by omega, by omega, g, k0⟩, fun r hr h0 => by cases hr; exact (Ad.step (r' := (a1 + 1)) (Ad.rf _ _ _) (by omega) k0 (fun _ => rfl) (ev69217) (by omega) (by omega) (by omega))⟩
              · refine ev_iconst ?_
                refine ev_goto f242_15 ?_
                refine ev_ret rfl (by decide) (by decide) ?_
                show jEv _ _ _ _ _ _ _ (_, [(2, 42), (0, (a1 + 1))], [(0, 1)], _, _, _)
                refine ev_ret rfl (by decide) (by decide) ?_
                show jEv _ _ _ _ _ _ _ (_, [(2, 42), (0, a1), (0, 0), (0, (a1 + 1)), (0, 0), (0, (v69217 - 48)), (0, 1)], [(0, 1)], _, _, _)
                refine ev_ifeq f269_86 (fun c69259 => absurd c69259 (by omega)) (fun c69259 => ?_)
                refine ev_bipush ?_
                refine ev_iload rfl ?_
                refine ev_imul (r := (10 * v69217 - 480)) (by unfold w32; omega) ?_
                refine ev_aload_n rfl ?_
                refine ev_iload_n rfl ?_
                refine ev_in (d := 1) (a := 0) (b := 0) (cd' := c264_0) (m := 2) (L0 := [(2, 42), (0, (a1 + 1))]) (jcall_v (A := [(0, (a1 + 1))]) (S' := [(0, (10 * v69217 - 480))]) (r := 42) rfl (g.lt ad42) (g.tg ad42) (Nat.le_of_ble_eq_true rfl)) (by decide) ml264 pp264 (Nat.le_of_ble_eq_true rfl) rfl (by decide) (by decide) ?_
                refine ev_iload_n rfl ?_
                refine ev_aload_n rfl ?_
                refine g_getv (r := 42) (v := v69209) g ad42 (by decide) ft12_17 (ev69209) ?_
                refine ev_icmpge f264_17 (fun c69260 => absurd c69260 (by omega)) (fun c69260 => ?_)
                refine ev_aload_n rfl ?_
                refine g_getp (r := 42) (c := 54) g ad42 (by decide) (by decide) rf42_16 ft12_16 ?_
                refine ev_iload_n rfl ?_
                refine g_baldv (v := v69243) g ad54 (by omega) (by omega) (ev69243) ?_
                refine ev_goto f264_18 ?_
                refine ev_ret rfl (by decide) (by decide) ?_
                show jEv _ _ _ _ _ _ _ (_, [(2, 42), (0, a1), (0, 0), (0, (a1 + 1)), (0, 0), (0, (v69217 - 48)), (0, 1)], [(0, v69243), (0, (10 * v69217 - 480))], _, _, _)
                refine ev_iadd (r := (10 * v69217 + v69243 - 480)) (by unfold w32; omega) ?_
                refine ev_bipush ?_
                refine ev_isub (r := (10 * v69217 + v69243 - 528)) (by unfold w32; omega) ?_
                refine ev_istore (L' := [(2, 42), (0, a1), (0, 0), (0, (a1 + 1)), (0, 0), (0, (10 * v69217 + v69243 - 528)), (0, 1)]) (Nat.le_of_ble_eq_true rfl) rfl ?_
                refine ev_iinc (w := 2) (L' := [(2, 42), (0, a1), (0, 0), (0, (a1 + 1)), (0, 0), (0, (10 * v69217 + v69243 - 528)), (0, 2)]) rfl (by decide) rfl ?_
                refine ev_iinc (w := (a1 + 2)) (L' := [(2, 42), (0, a1), (0, 0), (0, (a1 + 2)), (0, 0), (0, (10 * v69217 + v69243 - 528)), (0, 2)]) rfl (by unfold w32; omega) rfl ?_
                refine ev_goto f269_47 ?_
                refine ev_iload rfl ?_
                refine ev_iconst ?_
                refine ev_icmpge f269_86 (fun c69261 => absurd c69261 (by omega)) (fun c69261 => ?_)
                refine ev_aload_n rfl ?_
                refine ev_iload_n rfl ?_
                refine ev_in (d := 1) (a := 0) (b := 0) (cd' := c265_0) (m := 2) (L0 := [(2, 42), (0, (a1 + 2))]) (jcall_v (A := [(0, (a1 + 2))]) (S' := []) (r := 42) rfl (g.lt ad42) (g.tg ad42) (Nat.le_of_ble_eq_true rfl)) (by decide) ml265 pp265 (Nat.le_of_ble_eq_true rfl) rfl (by decide) (by decide) ?_
                refine ev_aload_n rfl ?_
                refine ev_iload_n rfl ?_
                refine ev_in (d := 0) (a := 0) (b := 0) (cd' := c264_0) (m := 2) (L0 := [(2, 42), (0, (a1 + 2))]) (jcall_v (A := [(0, (a1 + 2))]) (S' := []) (r := 42) rfl (g.lt ad42) (g.tg ad42) (Nat.le_of_ble_eq_true rfl)) (by decide) ml264 pp264 (Nat.le_of_ble_eq_true rfl) rfl (by decide) (by decide) ?_
                refine ev_iload_n rfl ?_
                refine ev_aload_n rfl ?_
                refine g_getv (r := 42) (v := v69209) g ad42 (by decide) ft12_17 (ev69209) ?_
                refine ev_icmpge f264_17 (fun c69262 => ?_) (fun c69262 => ?_)
                · refine ev_iconst ?_
                  refine ev_ret rfl (by decide) (by decide) ?_
                  show jEv _ _ _ _ _ _ _ (_, [(2, 42), (0, (a1 + 2))], [(0, (-1))], _, _, _)
                  refine ev_bipush ?_
                  refine ev_bipush ?_
                  refine ev_in (d := 0) (a := 0) (b := 0) (cd' := c242_0) (m := 3) (L0 := [(0, (-1)), (0, 48), (0, 57)]) (jcall_s (A := [(0, 57), (0, 48), (0, (-1))]) (S' := []) (by decide) rfl (Nat.le_of_ble_eq_true rfl)) (by decide) ml242 pp242 (Nat.le_of_ble_eq_true rfl) rfl (by decide) (by decide) ?_
                  refine ev_iload_n rfl ?_
                  refine ev_iload_n rfl ?_
                  refine ev_icmplt f242_14 (fun c69263 => ?_) (fun c69263 => absurd c69263 (by omega))
                  refine ev_iconst ?_
                  refine ev_ret rfl (by decide) (by decide) ?_
                  show jEv _ _ _ _ _ _ _ (_, [(2, 42), (0, (a1 + 2))], [(0, 0)], _, _, _)
                  refine ev_ret rfl (by decide) (by decide) ?_
                  show jEv _ _ _ _ _ _ _ (_, [(2, 42), (0, a1), (0, 0), (0, (a1 + 2)), (0, 0), (0, (10 * v69217 + v69243 - 528)), (0, 2)], [(0, 0)], _, _, _)
                  refine ev_ifeq f269_86 (fun c69264 => ?_) (fun c69264 => absurd c69264 (by omega))
                  refine ev_aload_n rfl ?_
                  refine ev_iload_n rfl ?_
                  refine ev_in (d := 1) (a := 0) (b := 0) (cd' := c265_0) (m := 2) (L0 := [(2, 42), (0, (a1 + 2))]) (jcall_v (A := [(0, (a1 + 2))]) (S' := []) (r := 42) rfl (g.lt ad42) (g.tg ad42) (Nat.le_of_ble_eq_true rfl)) (by decide) ml265 pp265 (Nat.le_of_ble_eq_true rfl) rfl (by decide) (by decide) ?_
                  refine ev_aload_n rfl ?_
                  refine ev_iload_n rfl ?_
                  refine ev_in (d := 0) (a := 0) (b := 0) (cd' := c264_0) (m := 2) (L0 := [(2, 42), (0, (a1 + 2))]) (jcall_v (A := [(0, (a1 + 2))]) (S' := []) (r := 42) rfl (g.lt ad42) (g.tg ad42) (Nat.le_of_ble_eq_true rfl)) (by decide) ml264 pp264 (Nat.le_of_ble_eq_true rfl) rfl (by decide) (by decide) ?_
                  refine ev_iload_n rfl ?_
                  refine ev_aload_n rfl ?_
                  refine g_getv (r := 42) (v := v69209) g ad42 (by decide) ft12_17 (ev69209) ?_
                  refine ev_icmpge f264_17 (fun c69265 => ?_) (fun c69265 => absurd c69265 (by omega))
                  refine ev_iconst ?_
                  refine ev_ret rfl (by decide) (by decide) ?_
                  show jEv _ _ _ _ _ _ _ (_, [(2, 42), (0, (a1 + 2))], [(0, (-1))], _, _, _)
                  refine ev_bipush ?_
                  refine ev_bipush ?_
                  refine ev_in (d := 0) (a := 0) (b := 0) (cd' := c242_0) (m := 3) (L0 := [(0, (-1)), (0, 48), (0, 57)]) (jcall_s (A := [(0, 57), (0, 48), (0, (-1))]) (S' := []) (by decide) rfl (Nat.le_of_ble_eq_true rfl)) (by decide) ml242 pp242 (Nat.le_of_ble_eq_true rfl) rfl (by decide) (by decide) ?_
                  refine ev_iload_n rfl ?_
                  refine ev_iload_n rfl ?_
                  refine ev_icmplt f242_14 (fun c69266 => ?_) (fun c69266 => absurd c69266 (by omega))
                  refine ev_iconst ?_
                  refine ev_ret rfl (by decide) (by decide) ?_
                  show jEv _ _ _ _ _ _ _ (_, [(2, 42), (0, (a1 + 2))], [(0, 0)], _, _, _)
                  refine ev_ret rfl (by decide) (by decide) ?_
                  show jEv _ _ _ _ _ _ _ (_, [(2, 42), (0, a1), (0, 0), (0, (a1 + 2)), (0, 0), (0, (10 * v69217 + v69243 - 528)), (0, 2)], [(0, 0)], _, _, _)
                  refine ev_ifeq f269_100 (fun c69267 => ?_) (fun c69267 => absurd c69267 (by omega))
                  refine ev_aload_n rfl ?_
                  refine ev_iload_n rfl ?_
                  refine ev_iconst ?_
                  refine ev_iload rfl ?_
                  refine ev_ifeq f269_114 (fun c69268 => ?_) (fun c69268 => absurd c69268 (by omega))
                  refine ev_iload rfl ?_
                  refine ev_in (d := 1) (a := 0) (b := 0) (cd' := c267_0) (m := 6) (L0 := [(2, 42), (0, 0), (0, 0), (0, (10 * v69217 + v69243 - 528)), (9, 0), (9, 0)]) (jcall_v (A := [(0, (10 * v69217 + v69243 - 528)), (0, 0), (0, 0)]) (S' := []) (r := 42) rfl (g.lt ad42) (g.tg ad42) (Nat.le_of_ble_eq_true rfl)) (by decide) ml267 pp267 (Nat.le_of_ble_eq_true rfl) rfl (by decide) (by decide) ?_
                  refine ev_iload_n rfl ?_
                  refine ev_ifne f267_6 (fun c69269 => absurd c69269 (by omega)) (fun c69269 => ?_)
                  refine ev_iconst ?_
                  refine ev_ret rfl (by decide) (by decide) ?_
                  show jEv _ _ _ _ _ _ _ (_, [(2, 42), (0, a1), (0, 0), (0, (a1 + 2)), (0, 0), (0, (10 * v69217 + v69243 - 528)), (0, 2)], [(0, (-1))], _, _, _)
                  refine ev_pop (by decide) ?_
                  refine ev_iload_n rfl ?_
                  exact ev_ret rfl (by decide) (by decide) ⟨⟨_, rfl, by omega, by omega, g, k0⟩, fun r hr h0 => by cases hr; exact (Ad.step (r' := (a1 + 2)) (Ad.step (r' := (a1 + 1)) (Ad.rf _ _ _) (by omega) k0 (fun _ => rfl) (ev69217) (by omega) (by omega) (by omega)) (by omega) k0 (fun _ => rfl) (ev69243) (by omega) (by omega) (by omega))⟩
                · refine ev_aload_n rfl ?_
                  refine g_getp (r := 42) (c := 54) g ad42 (by decide) (by decide) rf42_16 ft12_16 ?_
                  refine ev_iload_n rfl ?_
                  refine g_bald g ad54 rt54 (by omega) (by omega) (fun v69270 ev69270 lv69270 uv69270 => ?_)
                  refine ev_goto f264_18 ?_
                  refine ev_ret rfl (by decide) (by decide) ?_
                  show jEv _ _ _ _ _ _ _ (_, [(2, 42), (0, (a1 + 2))], [(0, v69270)], _, _, _)
                  refine ev_bipush ?_
                  refine ev_bipush ?_
                  refine ev_in (d := 0) (a := 0) (b := 0) (cd' := c242_0) (m := 3) (L0 := [(0, v69270), (0, 48), (0, 57)]) (jcall_s (A := [(0, 57), (0, 48), (0, v69270)]) (S' := []) (by decide) rfl (Nat.le_of_ble_eq_true rfl)) (by decide) ml242 pp242 (Nat.le_of_ble_eq_true rfl) rfl (by decide) (by decide) ?_
                  refine ev_iload_n rfl ?_
                  refine ev_iload_n rfl ?_
                  refine ev_icmplt f242_14 (fun c69271 => ?_) (fun c69271 => ?_)
                  · refine ev_iconst ?_
                    refine ev_ret rfl (by decide) (by decide) ?_
                    show jEv _ _ _ _ _ _ _ (_, [(2, 42), (0, (a1 + 2))], [(0, 0)], _, _, _)
                    refine ev_ret rfl (by decide) (by decide) ?_
                    show jEv _ _ _ _ _ _ _ (_, [(2, 42), (0, a1), (0, 0), (0, (a1 + 2)), (0, 0), (0, (10 * v69217 + v69243 - 528)), (0, 2)], [(0, 0)], _, _, _)
                    refine ev_ifeq f269_86 (fun c69272 => ?_) (fun c69272 => absurd c69272 (by omega))
                    refine ev_aload_n rfl ?_
                    refine ev_iload_n rfl ?_
                    refine ev_in (d := 1) (a := 0) (b := 0) (cd' := c265_0) (m := 2) (L0 := [(2, 42), (0, (a1 + 2))]) (jcall_v (A := [(0, (a1 + 2))]) (S' := []) (r := 42) rfl (g.lt ad42) (g.tg ad42) (Nat.le_of_ble_eq_true rfl)) (by decide) ml265 pp265 (Nat.le_of_ble_eq_true rfl) rfl (by decide) (by decide) ?_
                    refine ev_aload_n rfl ?_
                    refine ev_iload_n rfl ?_
                    refine ev_in (d := 0) (a := 0) (b := 0) (cd' := c264_0) (m := 2) (L0 := [(2, 42), (0, (a1 + 2))]) (jcall_v (A := [(0, (a1 + 2))]) (S' := []) (r := 42) rfl (g.lt ad42) (g.tg ad42) (Nat.le_of_ble_eq_true rfl)) (by decide) ml264 pp264 (Nat.le_of_ble_eq_true rfl) rfl (by decide) (by decide) ?_
                    refine ev_iload_n rfl ?_
                    refine ev_aload_n rfl ?_
                    refine g_getv (r := 42) (v := v69209) g ad42 (by decide) ft12_17 (ev69209) ?_
                    refine ev_icmpge f264_17 (fun c69273 => absurd c69273 (by omega)) (fun c69273 => ?_)
                    refine ev_aload_n rfl ?_
                    refine g_getp (r := 42) (c := 54) g ad42 (by decide) (by decide) rf42_16 ft12_16 ?_
                    refine ev_iload_n rfl ?_
                    refine g_baldv (v := v69270) g ad54 (by omega) (by omega) (ev69270) ?_
                    refine ev_goto f264_18 ?_
                    refine ev_ret rfl (by decide) (by decide) ?_
                    show jEv _ _ _ _ _ _ _ (_, [(2, 42), (0, (a1 + 2))], [(0, v69270)], _, _, _)
                    refine ev_bipush ?_
                    refine ev_bipush ?_
                    refine ev_in (d := 0) (a := 0) (b := 0) (cd' := c242_0) (m := 3) (L0 := [(0, v69270), (0, 48), (0, 57)]) (jcall_s (A := [(0, 57), (0, 48), (0, v69270)]) (S' := []) (by decide) rfl (Nat.le_of_ble_eq_true rfl)) (by decide) ml242 pp242 (Nat.le_of_ble_eq_true rfl) rfl (by decide) (by decide) ?_
                    refine ev_iload_n rfl ?_
                    refine ev_iload_n rfl ?_
                    refine ev_icmplt f242_14 (fun c69274 => ?_) (fun c69274 => absurd c69274 (by omega))
                    refine ev_iconst ?_
                    refine ev_ret rfl (by decide) (by decide) ?_
                    show jEv _ _ _ _ _ _ _ (_, [(2, 42), (0, (a1 + 2))], [(0, 0)], _, _, _)
                    refine ev_ret rfl (by decide) (by decide) ?_
                    show jEv _ _ _ _ _ _ _ (_, [(2, 42), (0, a1), (0, 0), (0, (a1 + 2)), (0, 0), (0, (10 * v69217 + v69243 - 528)), (0, 2)], [(0, 0)], _, _, _)
                    refine ev_ifeq f269_100 (fun c69275 => ?_) (fun c69275 => absurd c69275 (by omega))
                    refine ev_aload_n rfl ?_
                    refine ev_iload_n rfl ?_
                    refine ev_iconst ?_
                    refine ev_iload rfl ?_
                    refine ev_ifeq f269_114 (fun c69276 => ?_) (fun c69276 => absurd c69276 (by omega))
                    refine ev_iload rfl ?_
                    refine ev_in (d := 1) (a := 0) (b := 0) (cd' := c267_0) (m := 6) (L0 := [(2, 42), (0, 0), (0, 0), (0, (10 * v69217 + v69243 - 528)), (9, 0), (9, 0)]) (jcall_v (A := [(0, (10 * v69217 + v69243 - 528)), (0, 0), (0, 0)]) (S' := []) (r := 42) rfl (g.lt ad42) (g.tg ad42) (Nat.le_of_ble_eq_true rfl)) (by decide) ml267 pp267 (Nat.le_of_ble_eq_true rfl) rfl (by decide) (by decide) ?_
                    refine ev_iload_n rfl ?_
                    refine ev_ifne f267_6 (fun c69277 => absurd c69277 (by omega)) (fun c69277 => ?_)
                    refine ev_iconst ?_
                    refine ev_ret rfl (by decide) (by decide) ?_
                    show jEv _ _ _ _ _ _ _ (_, [(2, 42), (0, a1), (0, 0), (0, (a1 + 2)), (0, 0), (0, (10 * v69217 + v69243 - 528)), (0, 2)], [(0, (-1))], _, _, _)
                    refine ev_pop (by decide) ?_
                    refine ev_iload_n rfl ?_
                    exact ev_ret rfl (by decide) (by decide) ⟨⟨_, rfl, by omega, by omega, g, k0⟩, fun r hr h0 => by cases hr; exact (Ad.step (r' := (a1 + 2)) (Ad.step (r' := (a1 + 1)) (Ad.rf _ _ _) (by omega) k0 (fun _ => rfl) (ev69217) (by omega) (by omega) (by omega)) (by omega) k0 (fun _ => rfl) (ev69243) (by omega) (by omega) (by omega))⟩
                  · refine ev_iload_n rfl ?_
                    refine ev_iload_n rfl ?_
                    refine ev_icmpgt f242_14 (fun c69278 => ?_) (fun c69278 => ?_)
                    · refine ev_iconst ?_
                      refine ev_ret rfl (by decide) (by decide) ?_
                      show jEv _ _ _ _ _ _ _ (_, [(2, 42), (0, (a1 + 2))], [(0, 0)], _, _, _)
                      refine ev_ret rfl (by decide) (by decide) ?_
                      show jEv _ _ _ _ _ _ _ (_, [(2, 42), (0, a1), (0, 0), (0, (a1 + 2)), (0, 0), (0, (10 * v69217 + v69243 - 528)), (0, 2)], [(0, 0)], _, _, _)
                      refine ev_ifeq f269_86 (fun c69279 => ?_) (fun c69279 => absurd c69279 (by omega))
                      refine ev_aload_n rfl ?_
                      refine ev_iload_n rfl ?_
                      refine ev_in (d := 1) (a := 0) (b := 0) (cd' := c265_0) (m := 2) (L0 := [(2, 42), (0, (a1 + 2))]) (jcall_v (A := [(0, (a1 + 2))]) (S' := []) (r := 42) rfl (g.lt ad42) (g.tg ad42) (Nat.le_of_ble_eq_true rfl)) (by decide) ml265 pp265 (Nat.le_of_ble_eq_true rfl) rfl (by decide) (by decide) ?_
                      refine ev_aload_n rfl ?_
                      refine ev_iload_n rfl ?_
                      refine ev_in (d := 0) (a := 0) (b := 0) (cd' := c264_0) (m := 2) (L0 := [(2, 42), (0, (a1 + 2))]) (jcall_v (A := [(0, (a1 + 2))]) (S' := []) (r := 42) rfl (g.lt ad42) (g.tg ad42) (Nat.le_of_ble_eq_true rfl)) (by decide) ml264 pp264 (Nat.le_of_ble_eq_true rfl) rfl (by decide) (by decide) ?_
                      refine ev_iload_n rfl ?_
                      refine ev_aload_n rfl ?_
                      refine g_getv (r := 42) (v := v69209) g ad42 (by decide) ft12_17 (ev69209) ?_
                      refine ev_icmpge f264_17 (fun c69280 => absurd c69280 (by omega)) (fun c69280 => ?_)
                      refine ev_aload_n rfl ?_
                      refine g_getp (r := 42) (c := 54) g ad42 (by decide) (by decide) rf42_16 ft12_16 ?_
                      refine ev_iload_n rfl ?_
                      refine g_baldv (v := v69270) g ad54 (by omega) (by omega) (ev69270) ?_
                      refine ev_goto f264_18 ?_
                      refine ev_ret rfl (by decide) (by decide) ?_
                      show jEv _ _ _ _ _ _ _ (_, [(2, 42), (0, (a1 + 2))], [(0, v69270)], _, _, _)
                      refine ev_bipush ?_
                      refine ev_bipush ?_
                      refine ev_in (d := 0) (a := 0) (b := 0) (cd' := c242_0) (m := 3) (L0 := [(0, v69270), (0, 48), (0, 57)]) (jcall_s (A := [(0, 57), (0, 48), (0, v69270)]) (S' := []) (by decide) rfl (Nat.le_of_ble_eq_true rfl)) (by decide) ml242 pp242 (Nat.le_of_ble_eq_true rfl) rfl (by decide) (by decide) ?_
                      refine ev_iload_n rfl ?_
                      refine ev_iload_n rfl ?_
                      refine ev_icmplt f242_14 (fun c69281 => absurd c69281 (by omega)) (fun c69281 => ?_)
                      refine ev_iload_n rfl ?_
                      refine ev_iload_n rfl ?_
                      refine ev_icmpgt f242_14 (fun c69282 => ?_) (fun c69282 => absurd c69282 (by omega))
                      refine ev_iconst ?_
                      refine ev_ret rfl (by decide) (by decide) ?_
                      show jEv _ _ _ _ _ _ _ (_, [(2, 42), (0, (a1 + 2))], [(0, 0)], _, _, _)
                      refine ev_ret rfl (by decide) (by decide) ?_
                      show jEv _ _ _ _ _ _ _ (_, [(2, 42), (0, a1), (0, 0), (0, (a1 + 2)), (0, 0), (0, (10 * v69217 + v69243 - 528)), (0, 2)], [(0, 0)], _, _, _)
                      refine ev_ifeq f269_100 (fun c69283 => ?_) (fun c69283 => absurd c69283 (by omega))
                      refine ev_aload_n rfl ?_
                      refine ev_iload_n rfl ?_
                      refine ev_iconst ?_
                      refine ev_iload rfl ?_
                      refine ev_ifeq f269_114 (fun c69284 => ?_) (fun c69284 => absurd c69284 (by omega))
                      refine ev_iload rfl ?_
                      refine ev_in (d := 1) (a := 0) (b := 0) (cd' := c267_0) (m := 6) (L0 := [(2, 42), (0, 0), (0, 0), (0, (10 * v69217 + v69243 - 528)), (9, 0), (9, 0)]) (jcall_v (A := [(0, (10 * v69217 + v69243 - 528)), (0, 0), (0, 0)]) (S' := []) (r := 42) rfl (g.lt ad42) (g.tg ad42) (Nat.le_of_ble_eq_true rfl)) (by decide) ml267 pp267 (Nat.le_of_ble_eq_true rfl) rfl (by decide) (by decide) ?_
                      refine ev_iload_n rfl ?_
                      refine ev_ifne f267_6 (fun c69285 => absurd c69285 (by omega)) (fun c69285 => ?_)
                      refine ev_iconst ?_
                      refine ev_ret rfl (by decide) (by decide) ?_
                      show jEv _ _ _ _ _ _ _ (_, [(2, 42), (0, a1), (0, 0), (0, (a1 + 2)), (0, 0), (0, (10 * v69217 + v69243 - 528)), (0, 2)], [(0, (-1))], _, _, _)
                      refine ev_pop (by decide) ?_
                      refine ev_iload_n rfl ?_
                      exact ev_ret rfl (by decide) (by decide) ⟨⟨_, rfl, by omega, by omega, g, k0⟩, fun r hr h0 => by cases hr; exact (Ad.step (r' := (a1 + 2)) (Ad.step (r' := (a1 + 1)) (Ad.rf _ _ _) (by omega) k0 (fun _ => rfl) (ev69217) (by omega) (by omega) (by omega)) (by omega) k0 (fun _ => rfl) (ev69243) (by omega) (by omega) (by omega))⟩
                    · refine ev_iconst ?_
                      refine ev_goto f242_15 ?_
                      refine ev_ret rfl (by decide) (by decide) ?_
                      show jEv _ _ _ _ _ _ _ (_, [(2, 42), (0, (a1 + 2))], [(0, 1)], _, _, _)
                      refine ev_ret rfl (by decide) (by decide) ?_
                      show jEv _ _ _ _ _ _ _ (_, [(2, 42), (0, a1), (0, 0), (0, (a1 + 2)), (0, 0), (0, (10 * v69217 + v69243 - 528)), (0, 2)], [(0, 1)], _, _, _)
                      refine ev_ifeq f269_86 (fun c69286 => absurd c69286 (by omega)) (fun c69286 => ?_)
                      refine ev_bipush ?_
                      refine ev_iload rfl ?_
                      refine ev_imul (r := (100 * v69217 + 10 * v69243 - 5280)) (by unfold w32; omega) ?_
                      refine ev_aload_n rfl ?_
                      refine ev_iload_n rfl ?_
                      refine ev_in (d := 1) (a := 0) (b := 0) (cd' := c264_0) (m := 2) (L0 := [(2, 42), (0, (a1 + 2))]) (jcall_v (A := [(0, (a1 + 2))]) (S' := [(0, (100 * v69217 + 10 * v69243 - 5280))]) (r := 42) rfl (g.lt ad42) (g.tg ad42) (Nat.le_of_ble_eq_true rfl)) (by decide) ml264 pp264 (Nat.le_of_ble_eq_true rfl) rfl (by decide) (by decide) ?_
                      refine ev_iload_n rfl ?_
                      refine ev_aload_n rfl ?_
                      refine g_getv (r := 42) (v := v69209) g ad42 (by decide) ft12_17 (ev69209) ?_
                      refine ev_icmpge f264_17 (fun c69287 => absurd c69287 (by omega)) (fun c69287 => ?_)
                      refine ev_aload_n rfl ?_
                      refine g_getp (r := 42) (c := 54) g ad42 (by decide) (by decide) rf42_16 ft12_16 ?_
                      refine ev_iload_n rfl ?_
                      refine g_baldv (v := v69270) g ad54 (by omega) (by omega) (ev69270) ?_
                      refine ev_goto f264_18 ?_
                      refine ev_ret rfl (by decide) (by decide) ?_
                      show jEv _ _ _ _ _ _ _ (_, [(2, 42), (0, a1), (0, 0), (0, (a1 + 2)), (0, 0), (0, (10 * v69217 + v69243 - 528)), (0, 2)], [(0, v69270), (0, (100 * v69217 + 10 * v69243 - 5280))], _, _, _)
                      refine ev_iadd (r := (100 * v69217 + 10 * v69243 + v69270 - 5280)) (by unfold w32; omega) ?_
                      refine ev_bipush ?_
                      refine ev_isub (r := (100 * v69217 + 10 * v69243 + v69270 - 5328)) (by unfold w32; omega) ?_
                      refine ev_istore (L' := [(2, 42), (0, a1), (0, 0), (0, (a1 + 2)), (0, 0), (0, (100 * v69217 + 10 * v69243 + v69270 - 5328)), (0, 2)]) (Nat.le_of_ble_eq_true rfl) rfl ?_
                      refine ev_iinc (w := 3) (L' := [(2, 42), (0, a1), (0, 0), (0, (a1 + 2)), (0, 0), (0, (100 * v69217 + 10 * v69243 + v69270 - 5328)), (0, 3)]) rfl (by decide) rfl ?_
                      refine ev_iinc (w := (a1 + 3)) (L' := [(2, 42), (0, a1), (0, 0), (0, (a1 + 3)), (0, 0), (0, (100 * v69217 + 10 * v69243 + v69270 - 5328)), (0, 3)]) rfl (by unfold w32; omega) rfl ?_
                      refine ev_goto f269_47 ?_
                      refine ev_iload rfl ?_
                      refine ev_iconst ?_
                      refine ev_icmpge f269_86 (fun c69288 => ?_) (fun c69288 => absurd c69288 (by omega))
                      refine ev_aload_n rfl ?_
                      refine ev_iload_n rfl ?_
                      refine ev_in (d := 1) (a := 0) (b := 0) (cd' := c265_0) (m := 2) (L0 := [(2, 42), (0, (a1 + 3))]) (jcall_v (A := [(0, (a1 + 3))]) (S' := []) (r := 42) rfl (g.lt ad42) (g.tg ad42) (Nat.le_of_ble_eq_true rfl)) (by decide) ml265 pp265 (Nat.le_of_ble_eq_true rfl) rfl (by decide) (by decide) ?_
                      refine ev_aload_n rfl ?_
                      refine ev_iload_n rfl ?_
                      refine ev_in (d := 0) (a := 0) (b := 0) (cd' := c264_0) (m := 2) (L0 := [(2, 42), (0, (a1 + 3))]) (jcall_v (A := [(0, (a1 + 3))]) (S' := []) (r := 42) rfl (g.lt ad42) (g.tg ad42) (Nat.le_of_ble_eq_true rfl)) (by decide) ml264 pp264 (Nat.le_of_ble_eq_true rfl) rfl (by decide) (by decide) ?_
                      refine ev_iload_n rfl ?_
                      refine ev_aload_n rfl ?_
                      refine g_getv (r := 42) (v := v69209) g ad42 (by decide) ft12_17 (ev69209) ?_
                      refine ev_icmpge f264_17 (fun c69289 => ?_) (fun c69289 => ?_)
                      · refine ev_iconst ?_
                        refine ev_ret rfl (by decide) (by decide) ?_
                        show jEv _ _ _ _ _ _ _ (_, [(2, 42), (0, (a1 + 3))], [(0, (-1))], _, _, _)
                        refine ev_bipush ?_
                        refine ev_bipush ?_
                        refine ev_in (d := 0) (a := 0) (b := 0) (cd' := c242_0) (m := 3) (L0 := [(0, (-1)), (0, 48), (0, 57)]) (jcall_s (A := [(0, 57), (0, 48), (0, (-1))]) (S' := []) (by decide) rfl (Nat.le_of_ble_eq_true rfl)) (by decide) ml242 pp242 (Nat.le_of_ble_eq_true rfl) rfl (by decide) (by decide) ?_
                        refine ev_iload_n rfl ?_
                        refine ev_iload_n rfl ?_
                        refine ev_icmplt f242_14 (fun c69290 => ?_) (fun c69290 => absurd c69290 (by omega))
                        refine ev_iconst ?_
                        refine ev_ret rfl (by decide) (by decide) ?_
                        show jEv _ _ _ _ _ _ _ (_, [(2, 42), (0, (a1 + 3))], [(0, 0)], _, _, _)
                        refine ev_ret rfl (by decide) (by decide) ?_
                        show jEv _ _ _ _ _ _ _ (_, [(2, 42), (0, a1), (0, 0), (0, (a1 + 3)), (0, 0), (0, (100 * v69217 + 10 * v69243 + v69270 - 5328)), (0, 3)], [(0, 0)], _, _, _)
                        refine ev_ifeq f269_100 (fun c69291 => ?_) (fun c69291 => absurd c69291 (by omega))
                        refine ev_aload_n rfl ?_
                        refine ev_iload_n rfl ?_
                        refine ev_iconst ?_
                        refine ev_iload rfl ?_
                        refine ev_ifeq f269_114 (fun c69292 => ?_) (fun c69292 => absurd c69292 (by omega))
                        refine ev_iload rfl ?_
                        refine ev_in (d := 1) (a := 0) (b := 0) (cd' := c267_0) (m := 6) (L0 := [(2, 42), (0, 0), (0, 0), (0, (100 * v69217 + 10 * v69243 + v69270 - 5328)), (9, 0), (9, 0)]) (jcall_v (A := [(0, (100 * v69217 + 10 * v69243 + v69270 - 5328)), (0, 0), (0, 0)]) (S' := []) (r := 42) rfl (g.lt ad42) (g.tg ad42) (Nat.le_of_ble_eq_true rfl)) (by decide) ml267 pp267 (Nat.le_of_ble_eq_true rfl) rfl (by decide) (by decide) ?_
                        refine ev_iload_n rfl ?_
                        refine ev_ifne f267_6 (fun c69293 => absurd c69293 (by omega)) (fun c69293 => ?_)
                        refine ev_iconst ?_
                        refine ev_ret rfl (by decide) (by decide) ?_
                        show jEv _ _ _ _ _ _ _ (_, [(2, 42), (0, a1), (0, 0), (0, (a1 + 3)), (0, 0), (0, (100 * v69217 + 10 * v69243 + v69270 - 5328)), (0, 3)], [(0, (-1))], _, _, _)
                        refine ev_pop (by decide) ?_
                        refine ev_iload_n rfl ?_
                        exact ev_ret rfl (by decide) (by decide) ⟨⟨_, rfl, by omega, by omega, g, k0⟩, fun r hr h0 => by cases hr; exact (Ad.step (r' := (a1 + 3)) (Ad.step (r' := (a1 + 2)) (Ad.step (r' := (a1 + 1)) (Ad.rf _ _ _) (by omega) k0 (fun _ => rfl) (ev69217) (by omega) (by omega) (by omega)) (by omega) k0 (fun _ => rfl) (ev69243) (by omega) (by omega) (by omega)) (by omega) k0 (fun _ => rfl) (ev69270) (by omega) (by omega) (by omega))⟩
                      · refine ev_aload_n rfl ?_
                        refine g_getp (r := 42) (c := 54) g ad42 (by decide) (by decide) rf42_16 ft12_16 ?_
                        refine ev_iload_n rfl ?_
                        refine g_bald g ad54 rt54 (by omega) (by omega) (fun v69294 ev69294 lv69294 uv69294 => ?_)
                        refine ev_goto f264_18 ?_
                        refine ev_ret rfl (by decide) (by decide) ?_
                        show jEv _ _ _ _ _ _ _ (_, [(2, 42), (0, (a1 + 3))], [(0, v69294)], _, _, _)
                        refine ev_bipush ?_
                        refine ev_bipush ?_
                        refine ev_in (d := 0) (a := 0) (b := 0) (cd' := c242_0) (m := 3) (L0 := [(0, v69294), (0, 48), (0, 57)]) (jcall_s (A := [(0, 57), (0, 48), (0, v69294)]) (S' := []) (by decide) rfl (Nat.le_of_ble_eq_true rfl)) (by decide) ml242 pp242 (Nat.le_of_ble_eq_true rfl) rfl (by decide) (by decide) ?_
                        refine ev_iload_n rfl ?_
                        refine ev_iload_n rfl ?_
                        refine ev_icmplt f242_14 (fun c69295 => ?_) (fun c69295 => ?_)
                        · refine ev_iconst ?_
                          refine ev_ret rfl (by decide) (by decide) ?_
                          show jEv _ _ _ _ _ _ _ (_, [(2, 42), (0, (a1 + 3))], [(0, 0)], _, _, _)
                          refine ev_ret rfl (by decide) (by decide) ?_
                          show jEv _ _ _ _ _ _ _ (_, [(2, 42), (0, a1), (0, 0), (0, (a1 + 3)), (0, 0), (0, (100 * v69217 + 10 * v69243 + v69270 - 5328)), (0, 3)], [(0, 0)], _, _, _)
                          refine ev_ifeq f269_100 (fun c69296 => ?_) (fun c69296 => absurd c69296 (by omega))
                          refine ev_aload_n rfl ?_
                          refine ev_iload_n rfl ?_
                          refine ev_iconst ?_
                          refine ev_iload rfl ?_
                          refine ev_ifeq f269_114 (fun c69297 => ?_) (fun c69297 => absurd c69297 (by omega))
                          refine ev_iload rfl ?_
                          refine ev_in (d := 1) (a := 0) (b := 0) (cd' := c267_0) (m := 6) (L0 := [(2, 42), (0, 0), (0, 0), (0, (100 * v69217 + 10 * v69243 + v69270 - 5328)), (9, 0), (9, 0)]) (jcall_v (A := [(0, (100 * v69217 + 10 * v69243 + v69270 - 5328)), (0, 0), (0, 0)]) (S' := []) (r := 42) rfl (g.lt ad42) (g.tg ad42) (Nat.le_of_ble_eq_true rfl)) (by decide) ml267 pp267 (Nat.le_of_ble_eq_true rfl) rfl (by decide) (by decide) ?_
                          refine ev_iload_n rfl ?_
                          refine ev_ifne f267_6 (fun c69298 => absurd c69298 (by omega)) (fun c69298 => ?_)
                          refine ev_iconst ?_
                          refine ev_ret rfl (by decide) (by decide) ?_
                          show jEv _ _ _ _ _ _ _ (_, [(2, 42), (0, a1), (0, 0), (0, (a1 + 3)), (0, 0), (0, (100 * v69217 + 10 * v69243 + v69270 - 5328)), (0, 3)], [(0, (-1))], _, _, _)
                          refine ev_pop (by decide) ?_
                          refine ev_iload_n rfl ?_
                          exact ev_ret rfl (by decide) (by decide) ⟨⟨_, rfl, by omega, by omega, g, k0⟩, fun r hr h0 => by cases hr; exact (Ad.step (r' := (a1 + 3)) (Ad.step (r' := (a1 + 2)) (Ad.step (r' := (a1 + 1)) (Ad.rf _ _ _) (by omega) k0 (fun _ => rfl) (ev69217) (by omega) (by omega) (by omega)) (by omega) k0 (fun _ => rfl) (ev69243) (by omega) (by omega) (by omega)) (by omega) k0 (fun _ => rfl) (ev69270) (by omega) (by omega) (by omega))⟩
                        · refine ev_iload_n rfl ?_
                          refine ev_iload_n rfl ?_
                          refine ev_icmpgt f242_14 (fun c69299 => ?_) (fun c69299 => ?_)
                          · refine ev_iconst ?_
                            refine ev_ret rfl (by decide) (by decide) ?_
                            show jEv _ _ _ _ _ _ _ (_, [(2, 42), (0, (a1 + 3))], [(0, 0)], _, _, _)
                            refine ev_ret rfl (by decide) (by decide) ?_
                            show jEv _ _ _ _ _ _ _ (_, [(2, 42), (0, a1), (0, 0), (0, (a1 + 3)), (0, 0), (0, (100 * v69217 + 10 * v69243 + v69270 - 5328)), (0, 3)], [(0, 0)], _, _, _)
                            refine ev_ifeq f269_100 (fun c69300 => ?_) (fun c69300 => absurd c69300 (by omega))
                            refine ev_aload_n rfl ?_
                            refine ev_iload_n rfl ?_
                            refine ev_iconst ?_
                            refine ev_iload rfl ?_
                            refine ev_ifeq f269_114 (fun c69301 => ?_) (fun c69301 => absurd c69301 (by omega))
                            refine ev_iload rfl ?_
                            refine ev_in (d := 1) (a := 0) (b := 0) (cd' := c267_0) (m := 6) (L0 := [(2, 42), (0, 0), (0, 0), (0, (100 * v69217 + 10 * v69243 + v69270 - 5328)), (9, 0), (9, 0)]) (jcall_v (A := [(0, (100 * v69217 + 10 * v69243 + v69270 - 5328)), (0, 0), (0, 0)]) (S' := []) (r := 42) rfl (g.lt ad42) (g.tg ad42) (Nat.le_of_ble_eq_true rfl)) (by decide) ml267 pp267 (Nat.le_of_ble_eq_true rfl) rfl (by decide) (by decide) ?_
                            refine ev_iload_n rfl ?_
                            refine ev_ifne f267_6 (fun c69302 => absurd c69302 (by omega)) (fun c69302 => ?_)
                            refine ev_iconst ?_
                            refine ev_ret rfl (by decide) (by decide) ?_
                            show jEv _ _ _ _ _ _ _ (_, [(2, 42), (0, a1), (0, 0), (0, (a1 + 3)), (0, 0), (0, (100 * v69217 + 10 * v69243 + v69270 - 5328)), (0, 3)], [(0, (-1))], _, _, _)
                            refine ev_pop (by decide) ?_
                            refine ev_iload_n rfl ?_
                            exact ev_ret rfl (by decide) (by decide) ⟨⟨_, rfl, by omega, by omega, g, k0⟩, fun r hr h0 => by cases hr; exact (Ad.step (r' := (a1 + 3)) (Ad.step (r' := (a1 + 2)) (Ad.step (r' := (a1 + 1)) (Ad.rf _ _ _) (by omega) k0 (fun _ => rfl) (ev69217) (by omega) (by omega) (by omega)) (by omega) k0 (fun _ => rfl) (ev69243) (by omega) (by omega) (by omega)) (by omega) k0 (fun _ => rfl) (ev69270) (by omega) (by omega) (by omega))⟩
                          · refine ev_iconst ?_
                            refine ev_goto f242_15 ?_
                            refine ev_ret rfl (by decide) (by decide) ?_
                            show jEv _ _ _ _ _ _ _ (_, [(2, 42), (0, (a1 + 3))], [(0, 1)], _, _, _)
                            refine ev_ret rfl (by decide) (by decide) ?_
                            show jEv _ _ _ _ _ _ _ (_, [(2, 42), (0, a1), (0, 0), (0, (a1 + 3)), (0, 0), (0, (100 * v69217 + 10 * v69243 + v69270 - 5328)), (0, 3)], [(0, 1)], _, _, _)
                            refine ev_ifeq f269_100 (fun c69303 => absurd c69303 (by omega)) (fun c69303 => ?_)
                            refine ev_aload_n rfl ?_
                            refine ev_iload_n rfl ?_
                            refine ev_in (d := 1) (a := 0) (b := 0) (cd' := c266_0) (m := 2) (L0 := [(2, 42), (0, (a1 + 3))]) (jcall_v (A := [(0, (a1 + 3))]) (S' := []) (r := 42) rfl (g.lt ad42) (g.tg ad42) (Nat.le_of_ble_eq_true rfl)) (by decide) ml266 pp266 (Nat.le_of_ble_eq_true rfl) rfl (by decide) (by decide) ?_
                            refine ev_aload_n rfl ?_
                            refine ev_iload_n rfl ?_
                            refine g_putf (r := 42) g ad42 (by decide) ft12_20 (by decide) (fun e => absurd e nz12_20) rf42_20 (by decide) (by omega) (by omega) (fun h69304 e69304 g69304 => ?_)
                            have k69304 := k0.wr e69304 rfl
                            refine ev_iconst ?_
                            refine ev_ret rfl (by decide) (by decide) ?_
                            show jEv _ _ _ _ _ _ _ (_, [(2, 42), (0, a1), (0, 0), (0, (a1 + 3)), (0, 0), (0, (100 * v69217 + 10 * v69243 + v69270 - 5328)), (0, 3)], [(0, (-1))], _, _, _)
                            exact ev_ret rfl (by decide) (by decide) ⟨⟨_, rfl, by omega, by omega, g69304, k69304⟩, fun r hr h0 => by cases hr; exfalso; omega⟩
    · refine ev_iconst ?_
      refine ev_goto f269_17 ?_
      refine ev_istore (L' := [(2, 42), (0, a1), (0, 0), (0, a1), (0, 1), (9, 0), (9, 0)]) (Nat.le_of_ble_eq_true rfl) rfl ?_
      refine ev_iload rfl ?_
      refine ev_ifeq f269_27 (fun c69305 => absurd c69305 (by omega)) (fun c69305 => ?_)
      refine ev_iinc (w := (a1 + 1)) (L' := [(2, 42), (0, a1), (0, 0), (0, (a1 + 1)), (0, 1), (9, 0), (9, 0)]) rfl (by unfold w32; omega) rfl ?_
      refine ev_aload_n rfl ?_
      refine ev_iload_n rfl ?_
      refine ev_in (d := 1) (a := 0) (b := 0) (cd' := c265_0) (m := 2) (L0 := [(2, 42), (0, (a1 + 1))]) (jcall_v (A := [(0, (a1 + 1))]) (S' := []) (r := 42) rfl (g.lt ad42) (g.tg ad42) (Nat.le_of_ble_eq_true rfl)) (by decide) ml265 pp265 (Nat.le_of_ble_eq_true rfl) rfl (by decide) (by decide) ?_
      refine ev_aload_n rfl ?_
      refine ev_iload_n rfl ?_
      refine ev_in (d := 0) (a := 0) (b := 0) (cd' := c264_0) (m := 2) (L0 := [(2, 42), (0, (a1 + 1))]) (jcall_v (A := [(0, (a1 + 1))]) (S' := []) (r := 42) rfl (g.lt ad42) (g.tg ad42) (Nat.le_of_ble_eq_true rfl)) (by decide) ml264 pp264 (Nat.le_of_ble_eq_true rfl) rfl (by decide) (by decide) ?_
      refine ev_iload_n rfl ?_
      refine ev_aload_n rfl ?_
      refine g_getv (r := 42) (v := v69209) g ad42 (by decide) ft12_17 (ev69209) ?_
      refine ev_icmpge f264_17 (fun c69306 => ?_) (fun c69306 => ?_)
      · refine ev_iconst ?_
        refine ev_ret rfl (by decide) (by decide) ?_
        show jEv _ _ _ _ _ _ _ (_, [(2, 42), (0, (a1 + 1))], [(0, (-1))], _, _, _)
        refine ev_bipush ?_
        refine ev_bipush ?_
        refine ev_in (d := 0) (a := 0) (b := 0) (cd' := c242_0) (m := 3) (L0 := [(0, (-1)), (0, 48), (0, 57)]) (jcall_s (A := [(0, 57), (0, 48), (0, (-1))]) (S' := []) (by decide) rfl (Nat.le_of_ble_eq_true rfl)) (by decide) ml242 pp242 (Nat.le_of_ble_eq_true rfl) rfl (by decide) (by decide) ?_
        refine ev_iload_n rfl ?_
        refine ev_iload_n rfl ?_
        refine ev_icmplt f242_14 (fun c69307 => ?_) (fun c69307 => absurd c69307 (by omega))
        refine ev_iconst ?_
        refine ev_ret rfl (by decide) (by decide) ?_
        show jEv _ _ _ _ _ _ _ (_, [(2, 42), (0, (a1 + 1))], [(0, 0)], _, _, _)
        refine ev_ret rfl (by decide) (by decide) ?_
        show jEv _ _ _ _ _ _ _ (_, [(2, 42), (0, a1), (0, 0), (0, (a1 + 1)), (0, 1), (9, 0), (9, 0)], [(0, 0)], _, _, _)
        refine ev_ifne f269_41 (fun c69308 => absurd c69308 (by omega)) (fun c69308 => ?_)
        refine ev_aload_n rfl ?_
        refine ev_iload_n rfl ?_
        refine ev_in (d := 1) (a := 0) (b := 0) (cd' := c266_0) (m := 2) (L0 := [(2, 42), (0, (a1 + 1))]) (jcall_v (A := [(0, (a1 + 1))]) (S' := []) (r := 42) rfl (g.lt ad42) (g.tg ad42) (Nat.le_of_ble_eq_true rfl)) (by decide) ml266 pp266 (Nat.le_of_ble_eq_true rfl) rfl (by decide) (by decide) ?_
        refine ev_aload_n rfl ?_
        refine ev_iload_n rfl ?_
        refine g_putf (r := 42) g ad42 (by decide) ft12_20 (by decide) (fun e => absurd e nz12_20) rf42_20 (by decide) (by omega) (by omega) (fun h69309 e69309 g69309 => ?_)
        have k69309 := k0.wr e69309 rfl
        refine ev_iconst ?_
        refine ev_ret rfl (by decide) (by decide) ?_
        show jEv _ _ _ _ _ _ _ (_, [(2, 42), (0, a1), (0, 0), (0, (a1 + 1)), (0, 1), (9, 0), (9, 0)], [(0, (-1))], _, _, _)
        exact ev_ret rfl (by decide) (by decide) ⟨⟨_, rfl, by omega, by omega, g69309, k69309⟩, fun r hr h0 => by cases hr; exfalso; omega⟩
      · refine ev_aload_n rfl ?_
        refine g_getp (r := 42) (c := 54) g ad42 (by decide) (by decide) rf42_16 ft12_16 ?_
        refine ev_iload_n rfl ?_
        refine g_bald g ad54 rt54 (by omega) (by omega) (fun v69310 ev69310 lv69310 uv69310 => ?_)
        refine ev_goto f264_18 ?_
        refine ev_ret rfl (by decide) (by decide) ?_
        show jEv _ _ _ _ _ _ _ (_, [(2, 42), (0, (a1 + 1))], [(0, v69310)], _, _, _)
        refine ev_bipush ?_
        refine ev_bipush ?_
        refine ev_in (d := 0) (a := 0) (b := 0) (cd' := c242_0) (m := 3) (L0 := [(0, v69310), (0, 48), (0, 57)]) (jcall_s (A := [(0, 57), (0, 48), (0, v69310)]) (S' := []) (by decide) rfl (Nat.le_of_ble_eq_true rfl)) (by decide) ml242 pp242 (Nat.le_of_ble_eq_true rfl) rfl (by decide) (by decide) ?_
        refine ev_iload_n rfl ?_
        refine ev_iload_n rfl ?_
        refine ev_icmplt f242_14 (fun c69311 => ?_) (fun c69311 => ?_)
        · refine ev_iconst ?_
          refine ev_ret rfl (by decide) (by decide) ?_
          show jEv _ _ _ _ _ _ _ (_, [(2, 42), (0, (a1 + 1))], [(0, 0)], _, _, _)
          refine ev_ret rfl (by decide) (by decide) ?_
          show jEv _ _ _ _ _ _ _ (_, [(2, 42), (0, a1), (0, 0), (0, (a1 + 1)), (0, 1), (9, 0), (9, 0)], [(0, 0)], _, _, _)
          refine ev_ifne f269_41 (fun c69312 => absurd c69312 (by omega)) (fun c69312 => ?_)
          refine ev_aload_n rfl ?_
          refine ev_iload_n rfl ?_
          refine ev_in (d := 1) (a := 0) (b := 0) (cd' := c266_0) (m := 2) (L0 := [(2, 42), (0, (a1 + 1))]) (jcall_v (A := [(0, (a1 + 1))]) (S' := []) (r := 42) rfl (g.lt ad42) (g.tg ad42) (Nat.le_of_ble_eq_true rfl)) (by decide) ml266 pp266 (Nat.le_of_ble_eq_true rfl) rfl (by decide) (by decide) ?_
          refine ev_aload_n rfl ?_
          refine ev_iload_n rfl ?_
          refine g_putf (r := 42) g ad42 (by decide) ft12_20 (by decide) (fun e => absurd e nz12_20) rf42_20 (by decide) (by omega) (by omega) (fun h69313 e69313 g69313 => ?_)
          have k69313 := k0.wr e69313 rfl
          refine ev_iconst ?_
          refine ev_ret rfl (by decide) (by decide) ?_
          show jEv _ _ _ _ _ _ _ (_, [(2, 42), (0, a1), (0, 0), (0, (a1 + 1)), (0, 1), (9, 0), (9, 0)], [(0, (-1))], _, _, _)
          exact ev_ret rfl (by decide) (by decide) ⟨⟨_, rfl, by omega, by omega, g69313, k69313⟩, fun r hr h0 => by cases hr; exfalso; omega⟩
        · refine ev_iload_n rfl ?_
          refine ev_iload_n rfl ?_
          refine ev_icmpgt f242_14 (fun c69314 => ?_) (fun c69314 => ?_)
          · refine ev_iconst ?_
            refine ev_ret rfl (by decide) (by decide) ?_
            show jEv _ _ _ _ _ _ _ (_, [(2, 42), (0, (a1 + 1))], [(0, 0)], _, _, _)
            refine ev_ret rfl (by decide) (by decide) ?_
            show jEv _ _ _ _ _ _ _ (_, [(2, 42), (0, a1), (0, 0), (0, (a1 + 1)), (0, 1), (9, 0), (9, 0)], [(0, 0)], _, _, _)
            refine ev_ifne f269_41 (fun c69315 => absurd c69315 (by omega)) (fun c69315 => ?_)
            refine ev_aload_n rfl ?_
            refine ev_iload_n rfl ?_
            refine ev_in (d := 1) (a := 0) (b := 0) (cd' := c266_0) (m := 2) (L0 := [(2, 42), (0, (a1 + 1))]) (jcall_v (A := [(0, (a1 + 1))]) (S' := []) (r := 42) rfl (g.lt ad42) (g.tg ad42) (Nat.le_of_ble_eq_true rfl)) (by decide) ml266 pp266 (Nat.le_of_ble_eq_true rfl) rfl (by decide) (by decide) ?_
            refine ev_aload_n rfl ?_
            refine ev_iload_n rfl ?_
            refine g_putf (r := 42) g ad42 (by decide) ft12_20 (by decide) (fun e => absurd e nz12_20) rf42_20 (by decide) (by omega) (by omega) (fun h69316 e69316 g69316 => ?_)
            have k69316 := k0.wr e69316 rfl
            refine ev_iconst ?_
            refine ev_ret rfl (by decide) (by decide) ?_
            show jEv _ _ _ _ _ _ _ (_, [(2, 42), (0, a1), (0, 0), (0, (a1 + 1)), (0, 1), (9, 0), (9, 0)], [(0, (-1))], _, _, _)
            exact ev_ret rfl (by decide) (by decide) ⟨⟨_, rfl, by omega, by omega, g69316, k69316⟩, fun r hr h0 => by cases hr; exfalso; omega⟩
          · refine ev_iconst ?_
            refine ev_goto f242_15 ?_
            refine ev_ret rfl (by decide) (by decide) ?_
            show jEv _ _ _ _ _ _ _ (_, [(2, 42), (0, (a1 + 1))], [(0, 1)], _, _, _)
            refine ev_ret rfl (by decide) (by decide) ?_
            show jEv _ _ _ _ _ _ _ (_, [(2, 42), (0, a1), (0, 0), (0, (a1 + 1)), (0, 1), (9, 0), (9, 0)], [(0, 1)], _, _, _)
            refine ev_ifne f269_41 (fun c69317 => ?_) (fun c69317 => absurd c69317 (by omega))
            refine ev_iconst ?_
            refine ev_istore (L' := [(2, 42), (0, a1), (0, 0), (0, (a1 + 1)), (0, 1), (0, 0), (9, 0)]) (Nat.le_of_ble_eq_true rfl) rfl ?_
            refine ev_iconst ?_
            refine ev_istore (L' := [(2, 42), (0, a1), (0, 0), (0, (a1 + 1)), (0, 1), (0, 0), (0, 0)]) (Nat.le_of_ble_eq_true rfl) rfl ?_
            refine ev_iload rfl ?_
            refine ev_iconst ?_
            refine ev_icmpge f269_86 (fun c69318 => absurd c69318 (by omega)) (fun c69318 => ?_)
            refine ev_aload_n rfl ?_
            refine ev_iload_n rfl ?_
            refine ev_in (d := 1) (a := 0) (b := 0) (cd' := c265_0) (m := 2) (L0 := [(2, 42), (0, (a1 + 1))]) (jcall_v (A := [(0, (a1 + 1))]) (S' := []) (r := 42) rfl (g.lt ad42) (g.tg ad42) (Nat.le_of_ble_eq_true rfl)) (by decide) ml265 pp265 (Nat.le_of_ble_eq_true rfl) rfl (by decide) (by decide) ?_
            refine ev_aload_n rfl ?_
            refine ev_iload_n rfl ?_
            refine ev_in (d := 0) (a := 0) (b := 0) (cd' := c264_0) (m := 2) (L0 := [(2, 42), (0, (a1 + 1))]) (jcall_v (A := [(0, (a1 + 1))]) (S' := []) (r := 42) rfl (g.lt ad42) (g.tg ad42) (Nat.le_of_ble_eq_true rfl)) (by decide) ml264 pp264 (Nat.le_of_ble_eq_true rfl) rfl (by decide) (by decide) ?_
            refine ev_iload_n rfl ?_
            refine ev_aload_n rfl ?_
            refine g_getv (r := 42) (v := v69209) g ad42 (by decide) ft12_17 (ev69209) ?_
            refine ev_icmpge f264_17 (fun c69319 => absurd c69319 (by omega)) (fun c69319 => ?_)
            refine ev_aload_n rfl ?_
            refine g_getp (r := 42) (c := 54) g ad42 (by decide) (by decide) rf42_16 ft12_16 ?_
            refine ev_iload_n rfl ?_
            refine g_baldv (v := v69310) g ad54 (by omega) (by omega) (ev69310) ?_
            refine ev_goto f264_18 ?_
            refine ev_ret rfl (by decide) (by decide) ?_
            show jEv _ _ _ _ _ _ _ (_, [(2, 42), (0, (a1 + 1))], [(0, v69310)], _, _, _)
            refine ev_bipush ?_
            refine ev_bipush ?_
            refine ev_in (d := 0) (a := 0) (b := 0) (cd' := c242_0) (m := 3) (L0 := [(0, v69310), (0, 48), (0, 57)]) (jcall_s (A := [(0, 57), (0, 48), (0, v69310)]) (S' := []) (by decide) rfl (Nat.le_of_ble_eq_true rfl)) (by decide) ml242 pp242 (Nat.le_of_ble_eq_true rfl) rfl (by decide) (by decide) ?_
            refine ev_iload_n rfl ?_
            refine ev_iload_n rfl ?_
            refine ev_icmplt f242_14 (fun c69320 => absurd c69320 (by omega)) (fun c69320 => ?_)
            refine ev_iload_n rfl ?_
            refine ev_iload_n rfl ?_
            refine ev_icmpgt f242_14 (fun c69321 => absurd c69321 (by omega)) (fun c69321 => ?_)
            refine ev_iconst ?_
            refine ev_goto f242_15 ?_
            refine ev_ret rfl (by decide) (by decide) ?_
            show jEv _ _ _ _ _ _ _ (_, [(2, 42), (0, (a1 + 1))], [(0, 1)], _, _, _)
            refine ev_ret rfl (by decide) (by decide) ?_
            show jEv _ _ _ _ _ _ _ (_, [(2, 42), (0, a1), (0, 0), (0, (a1 + 1)), (0, 1), (0, 0), (0, 0)], [(0, 1)], _, _, _)
            refine ev_ifeq f269_86 (fun c69322 => absurd c69322 (by omega)) (fun c69322 => ?_)
            refine ev_bipush ?_
            refine ev_iload rfl ?_
            refine ev_imul (r := 0) (by decide) ?_
            refine ev_aload_n rfl ?_
            refine ev_iload_n rfl ?_
            refine ev_in (d := 1) (a := 0) (b := 0) (cd' := c264_0) (m := 2) (L0 := [(2, 42), (0, (a1 + 1))]) (jcall_v (A := [(0, (a1 + 1))]) (S' := [(0, 0)]) (r := 42) rfl (g.lt ad42) (g.tg ad42) (Nat.le_of_ble_eq_true rfl)) (by decide) ml264 pp264 (Nat.le_of_ble_eq_true rfl) rfl (by decide) (by decide) ?_
            refine ev_iload_n rfl ?_
            refine ev_aload_n rfl ?_
            refine g_getv (r := 42) (v := v69209) g ad42 (by decide) ft12_17 (ev69209) ?_
            refine ev_icmpge f264_17 (fun c69323 => absurd c69323 (by omega)) (fun c69323 => ?_)
            refine ev_aload_n rfl ?_
            refine g_getp (r := 42) (c := 54) g ad42 (by decide) (by decide) rf42_16 ft12_16 ?_
            refine ev_iload_n rfl ?_
            refine g_baldv (v := v69310) g ad54 (by omega) (by omega) (ev69310) ?_
            refine ev_goto f264_18 ?_
            refine ev_ret rfl (by decide) (by decide) ?_
            show jEv _ _ _ _ _ _ _ (_, [(2, 42), (0, a1), (0, 0), (0, (a1 + 1)), (0, 1), (0, 0), (0, 0)], [(0, v69310), (0, 0)], _, _, _)
            refine ev_iadd (r := v69310) (by unfold w32; omega) ?_
            refine ev_bipush ?_
            refine ev_isub (r := (v69310 - 48)) (by unfold w32; omega) ?_
            refine ev_istore (L' := [(2, 42), (0, a1), (0, 0), (0, (a1 + 1)), (0, 1), (0, (v69310 - 48)), (0, 0)]) (Nat.le_of_ble_eq_true rfl) rfl ?_
            refine ev_iinc (w := 1) (L' := [(2, 42), (0, a1), (0, 0), (0, (a1 + 1)), (0, 1), (0, (v69310 - 48)), (0, 1)]) rfl (by decide) rfl ?_
            refine ev_iinc (w := (a1 + 2)) (L' := [(2, 42), (0, a1), (0, 0), (0, (a1 + 2)), (0, 1), (0, (v69310 - 48)), (0, 1)]) rfl (by unfold w32; omega) rfl ?_
            refine ev_goto f269_47 ?_
            refine ev_iload rfl ?_
            refine ev_iconst ?_
            refine ev_icmpge f269_86 (fun c69324 => absurd c69324 (by omega)) (fun c69324 => ?_)
            refine ev_aload_n rfl ?_
            refine ev_iload_n rfl ?_
            refine ev_in (d := 1) (a := 0) (b := 0) (cd' := c265_0) (m := 2) (L0 := [(2, 42), (0, (a1 + 2))]) (jcall_v (A := [(0, (a1 + 2))]) (S' := []) (r := 42) rfl (g.lt ad42) (g.tg ad42) (Nat.le_of_ble_eq_true rfl)) (by decide) ml265 pp265 (Nat.le_of_ble_eq_true rfl) rfl (by decide) (by decide) ?_
            refine ev_aload_n rfl ?_
            refine ev_iload_n rfl ?_
            refine ev_in (d := 0) (a := 0) (b := 0) (cd' := c264_0) (m := 2) (L0 := [(2, 42), (0, (a1 + 2))]) (jcall_v (A := [(0, (a1 + 2))]) (S' := []) (r := 42) rfl (g.lt ad42) (g.tg ad42) (Nat.le_of_ble_eq_true rfl)) (by decide) ml264 pp264 (Nat.le_of_ble_eq_true rfl) rfl (by decide) (by decide) ?_
            refine ev_iload_n rfl ?_
            refine ev_aload_n rfl ?_
            refine g_getv (r := 42) (v := v69209) g ad42 (by decide) ft12_17 (ev69209) ?_
            refine ev_icmpge f264_17 (fun c69325 => ?_) (fun c69325 => ?_)
            · refine ev_iconst ?_
              refine ev_ret rfl (by decide) (by decide) ?_
              show jEv _ _ _ _ _ _ _ (_, [(2, 42), (0, (a1 + 2))], [(0, (-1))], _, _, _)
              refine ev_bipush ?_
              refine ev_bipush ?_
              refine ev_in (d := 0) (a := 0) (b := 0) (cd' := c242_0) (m := 3) (L0 := [(0, (-1)), (0, 48), (0, 57)]) (jcall_s (A := [(0, 57), (0, 48), (0, (-1))]) (S' := []) (by decide) rfl (Nat.le_of_ble_eq_true rfl)) (by decide) ml242 pp242 (Nat.le_of_ble_eq_true rfl) rfl (by decide) (by decide) ?_
              refine ev_iload_n rfl ?_
              refine ev_iload_n rfl ?_
              refine ev_icmplt f242_14 (fun c69326 => ?_) (fun c69326 => absurd c69326 (by omega))
              refine ev_iconst ?_
              refine ev_ret rfl (by decide) (by decide) ?_
              show jEv _ _ _ _ _ _ _ (_, [(2, 42), (0, (a1 + 2))], [(0, 0)], _, _, _)
              refine ev_ret rfl (by decide) (by decide) ?_
              show jEv _ _ _ _ _ _ _ (_, [(2, 42), (0, a1), (0, 0), (0, (a1 + 2)), (0, 1), (0, (v69310 - 48)), (0, 1)], [(0, 0)], _, _, _)
              refine ev_ifeq f269_86 (fun c69327 => ?_) (fun c69327 => absurd c69327 (by omega))
              refine ev_aload_n rfl ?_
              refine ev_iload_n rfl ?_
              refine ev_in (d := 1) (a := 0) (b := 0) (cd' := c265_0) (m := 2) (L0 := [(2, 42), (0, (a1 + 2))]) (jcall_v (A := [(0, (a1 + 2))]) (S' := []) (r := 42) rfl (g.lt ad42) (g.tg ad42) (Nat.le_of_ble_eq_true rfl)) (by decide) ml265 pp265 (Nat.le_of_ble_eq_true rfl) rfl (by decide) (by decide) ?_
              refine ev_aload_n rfl ?_
              refine ev_iload_n rfl ?_
              refine ev_in (d := 0) (a := 0) (b := 0) (cd' := c264_0) (m := 2) (L0 := [(2, 42), (0, (a1 + 2))]) (jcall_v (A := [(0, (a1 + 2))]) (S' := []) (r := 42) rfl (g.lt ad42) (g.tg ad42) (Nat.le_of_ble_eq_true rfl)) (by decide) ml264 pp264 (Nat.le_of_ble_eq_true rfl) rfl (by decide) (by decide) ?_
              refine ev_iload_n rfl ?_
              refine ev_aload_n rfl ?_
              refine g_getv (r := 42) (v := v69209) g ad42 (by decide) ft12_17 (ev69209) ?_
              refine ev_icmpge f264_17 (fun c69328 => ?_) (fun c69328 => absurd c69328 (by omega))
              refine ev_iconst ?_
              refine ev_ret rfl (by decide) (by decide) ?_
              show jEv _ _ _ _ _ _ _ (_, [(2, 42), (0, (a1 + 2))], [(0, (-1))], _, _, _)
              refine ev_bipush ?_
              refine ev_bipush ?_
              refine ev_in (d := 0) (a := 0) (b := 0) (cd' := c242_0) (m := 3) (L0 := [(0, (-1)), (0, 48), (0, 57)]) (jcall_s (A := [(0, 57), (0, 48), (0, (-1))]) (S' := []) (by decide) rfl (Nat.le_of_ble_eq_true rfl)) (by decide) ml242 pp242 (Nat.le_of_ble_eq_true rfl) rfl (by decide) (by decide) ?_
              refine ev_iload_n rfl ?_
              refine ev_iload_n rfl ?_
              refine ev_icmplt f242_14 (fun c69329 => ?_) (fun c69329 => absurd c69329 (by omega))
              refine ev_iconst ?_
              refine ev_ret rfl (by decide) (by decide) ?_
              show jEv _ _ _ _ _ _ _ (_, [(2, 42), (0, (a1 + 2))], [(0, 0)], _, _, _)
              refine ev_ret rfl (by decide) (by decide) ?_
              show jEv _ _ _ _ _ _ _ (_, [(2, 42), (0, a1), (0, 0), (0, (a1 + 2)), (0, 1), (0, (v69310 - 48)), (0, 1)], [(0, 0)], _, _, _)
              refine ev_ifeq f269_100 (fun c69330 => ?_) (fun c69330 => absurd c69330 (by omega))
              refine ev_aload_n rfl ?_
              refine ev_iload_n rfl ?_
              refine ev_iconst ?_
              refine ev_iload rfl ?_
              refine ev_ifeq f269_114 (fun c69331 => absurd c69331 (by omega)) (fun c69331 => ?_)
              refine ev_iload rfl ?_
              refine ev_ineg (r := ((-v69310) + 48)) (by unfold w32; omega) ?_
              refine ev_goto f269_116 ?_
              refine ev_in (d := 1) (a := 0) (b := 0) (cd' := c267_0) (m := 6) (L0 := [(2, 42), (0, 0), (0, 0), (0, ((-v69310) + 48)), (9, 0), (9, 0)]) (jcall_v (A := [(0, ((-v69310) + 48)), (0, 0), (0, 0)]) (S' := []) (r := 42) rfl (g.lt ad42) (g.tg ad42) (Nat.le_of_ble_eq_true rfl)) (by decide) ml267 pp267 (Nat.le_of_ble_eq_true rfl) rfl (by decide) (by decide) ?_
              refine ev_iload_n rfl ?_
              refine ev_ifne f267_6 (fun c69332 => absurd c69332 (by omega)) (fun c69332 => ?_)
              refine ev_iconst ?_
              refine ev_ret rfl (by decide) (by decide) ?_
              show jEv _ _ _ _ _ _ _ (_, [(2, 42), (0, a1), (0, 0), (0, (a1 + 2)), (0, 1), (0, (v69310 - 48)), (0, 1)], [(0, (-1))], _, _, _)
              refine ev_pop (by decide) ?_
              refine ev_iload_n rfl ?_
              exact ev_ret rfl (by decide) (by decide) ⟨⟨_, rfl, by omega, by omega, g, k0⟩, fun r hr h0 => by cases hr; exact (Ad.step (r' := (a1 + 2)) (Ad.step (r' := (a1 + 1)) (Ad.rf _ _ _) (by omega) k0 (fun _ => rfl) (ev69217) (by omega) (by omega) (by omega)) (by omega) k0 (fun _ => rfl) (ev69310) (by omega) (by omega) (by omega))⟩
            · refine ev_aload_n rfl ?_
              refine g_getp (r := 42) (c := 54) g ad42 (by decide) (by decide) rf42_16 ft12_16 ?_
              refine ev_iload_n rfl ?_
              refine g_bald g ad54 rt54 (by omega) (by omega) (fun v69333 ev69333 lv69333 uv69333 => ?_)
              refine ev_goto f264_18 ?_
              refine ev_ret rfl (by decide) (by decide) ?_
              show jEv _ _ _ _ _ _ _ (_, [(2, 42), (0, (a1 + 2))], [(0, v69333)], _, _, _)
              refine ev_bipush ?_
              refine ev_bipush ?_
              refine ev_in (d := 0) (a := 0) (b := 0) (cd' := c242_0) (m := 3) (L0 := [(0, v69333), (0, 48), (0, 57)]) (jcall_s (A := [(0, 57), (0, 48), (0, v69333)]) (S' := []) (by decide) rfl (Nat.le_of_ble_eq_true rfl)) (by decide) ml242 pp242 (Nat.le_of_ble_eq_true rfl) rfl (by decide) (by decide) ?_
              refine ev_iload_n rfl ?_
              refine ev_iload_n rfl ?_
              refine ev_icmplt f242_14 (fun c69334 => ?_) (fun c69334 => ?_)
              · refine ev_iconst ?_
                refine ev_ret rfl (by decide) (by decide) ?_
                show jEv _ _ _ _ _ _ _ (_, [(2, 42), (0, (a1 + 2))], [(0, 0)], _, _, _)
                refine ev_ret rfl (by decide) (by decide) ?_
                show jEv _ _ _ _ _ _ _ (_, [(2, 42), (0, a1), (0, 0), (0, (a1 + 2)), (0, 1), (0, (v69310 - 48)), (0, 1)], [(0, 0)], _, _, _)
                refine ev_ifeq f269_86 (fun c69335 => ?_) (fun c69335 => absurd c69335 (by omega))
                refine ev_aload_n rfl ?_
                refine ev_iload_n rfl ?_
                refine ev_in (d := 1) (a := 0) (b := 0) (cd' := c265_0) (m := 2) (L0 := [(2, 42), (0, (a1 + 2))]) (jcall_v (A := [(0, (a1 + 2))]) (S' := []) (r := 42) rfl (g.lt ad42) (g.tg ad42) (Nat.le_of_ble_eq_true rfl)) (by decide) ml265 pp265 (Nat.le_of_ble_eq_true rfl) rfl (by decide) (by decide) ?_
                refine ev_aload_n rfl ?_
                refine ev_iload_n rfl ?_
                refine ev_in (d := 0) (a := 0) (b := 0) (cd' := c264_0) (m := 2) (L0 := [(2, 42), (0, (a1 + 2))]) (jcall_v (A := [(0, (a1 + 2))]) (S' := []) (r := 42) rfl (g.lt ad42) (g.tg ad42) (Nat.le_of_ble_eq_true rfl)) (by decide) ml264 pp264 (Nat.le_of_ble_eq_true rfl) rfl (by decide) (by decide) ?_
                refine ev_iload_n rfl ?_
                refine ev_aload_n rfl ?_
                refine g_getv (r := 42) (v := v69209) g ad42 (by decide) ft12_17 (ev69209) ?_
                refine ev_icmpge f264_17 (fun c69336 => absurd c69336 (by omega)) (fun c69336 => ?_)
                refine ev_aload_n rfl ?_
                refine g_getp (r := 42) (c := 54) g ad42 (by decide) (by decide) rf42_16 ft12_16 ?_
                refine ev_iload_n rfl ?_
                refine g_baldv (v := v69333) g ad54 (by omega) (by omega) (ev69333) ?_
                refine ev_goto f264_18 ?_
                refine ev_ret rfl (by decide) (by decide) ?_
                show jEv _ _ _ _ _ _ _ (_, [(2, 42), (0, (a1 + 2))], [(0, v69333)], _, _, _)
                refine ev_bipush ?_
                refine ev_bipush ?_
                refine ev_in (d := 0) (a := 0) (b := 0) (cd' := c242_0) (m := 3) (L0 := [(0, v69333), (0, 48), (0, 57)]) (jcall_s (A := [(0, 57), (0, 48), (0, v69333)]) (S' := []) (by decide) rfl (Nat.le_of_ble_eq_true rfl)) (by decide) ml242 pp242 (Nat.le_of_ble_eq_true rfl) rfl (by decide) (by decide) ?_
                refine ev_iload_n rfl ?_
                refine ev_iload_n rfl ?_
                refine ev_icmplt f242_14 (fun c69337 => ?_) (fun c69337 => absurd c69337 (by omega))
                refine ev_iconst ?_
                refine ev_ret rfl (by decide) (by decide) ?_
                show jEv _ _ _ _ _ _ _ (_, [(2, 42), (0, (a1 + 2))], [(0, 0)], _, _, _)
                refine ev_ret rfl (by decide) (by decide) ?_
                show jEv _ _ _ _ _ _ _ (_, [(2, 42), (0, a1), (0, 0), (0, (a1 + 2)), (0, 1), (0, (v69310 - 48)), (0, 1)], [(0, 0)], _, _, _)
                refine ev_ifeq f269_100 (fun c69338 => ?_) (fun c69338 => absurd c69338 (by omega))
                refine ev_aload_n rfl ?_
                refine ev_iload_n rfl ?_
                refine ev_iconst ?_
                refine ev_iload rfl ?_
                refine ev_ifeq f269_114 (fun c69339 => absurd c69339 (by omega)) (fun c69339 => ?_)
                refine ev_iload rfl ?_
                refine ev_ineg (r := ((-v69310) + 48)) (by unfold w32; omega) ?_
                refine ev_goto f269_116 ?_
                refine ev_in (d := 1) (a := 0) (b := 0) (cd' := c267_0) (m := 6) (L0 := [(2, 42), (0, 0), (0, 0), (0, ((-v69310) + 48)), (9, 0), (9, 0)]) (jcall_v (A := [(0, ((-v69310) + 48)), (0, 0), (0, 0)]) (S' := []) (r := 42) rfl (g.lt ad42) (g.tg ad42) (Nat.le_of_ble_eq_true rfl)) (by decide) ml267 pp267 (Nat.le_of_ble_eq_true rfl) rfl (by decide) (by decide) ?_
                refine ev_iload_n rfl ?_
                refine ev_ifne f267_6 (fun c69340 => absurd c69340 (by omega)) (fun c69340 => ?_)
                refine ev_iconst ?_
                refine ev_ret rfl (by decide) (by decide) ?_
                show jEv _ _ _ _ _ _ _ (_, [(2, 42), (0, a1), (0, 0), (0, (a1 + 2)), (0, 1), (0, (v69310 - 48)), (0, 1)], [(0, (-1))], _, _, _)
                refine ev_pop (by decide) ?_
                refine ev_iload_n rfl ?_
                exact ev_ret rfl (by decide) (by decide) ⟨⟨_, rfl, by omega, by omega, g, k0⟩, fun r hr h0 => by cases hr; exact (Ad.step (r' := (a1 + 2)) (Ad.step (r' := (a1 + 1)) (Ad.rf _ _ _) (by omega) k0 (fun _ => rfl) (ev69217) (by omega) (by omega) (by omega)) (by omega) k0 (fun _ => rfl) (ev69310) (by omega) (by omega) (by omega))⟩
              · refine ev_iload_n rfl ?_
                refine ev_iload_n rfl ?_
                refine ev_icmpgt f242_14 (fun c69341 => ?_) (fun c69341 => ?_)
                · refine ev_iconst ?_
                  refine ev_ret rfl (by decide) (by decide) ?_
                  show jEv _ _ _ _ _ _ _ (_, [(2, 42), (0, (a1 + 2))], [(0, 0)], _, _, _)
                  refine ev_ret rfl (by decide) (by decide) ?_
                  show jEv _ _ _ _ _ _ _ (_, [(2, 42), (0, a1), (0, 0), (0, (a1 + 2)), (0, 1), (0, (v69310 - 48)), (0, 1)], [(0, 0)], _, _, _)
                  refine ev_ifeq f269_86 (fun c69342 => ?_) (fun c69342 => absurd c69342 (by omega))
                  refine ev_aload_n rfl ?_
                  refine ev_iload_n rfl ?_
                  refine ev_in (d := 1) (a := 0) (b := 0) (cd' := c265_0) (m := 2) (L0 := [(2, 42), (0, (a1 + 2))]) (jcall_v (A := [(0, (a1 + 2))]) (S' := []) (r := 42) rfl (g.lt ad42) (g.tg ad42) (Nat.le_of_ble_eq_true rfl)) (by decide) ml265 pp265 (Nat.le_of_ble_eq_true rfl) rfl (by decide) (by decide) ?_
                  refine ev_aload_n rfl ?_
                  refine ev_iload_n rfl ?_
                  refine ev_in (d := 0) (a := 0) (b := 0) (cd' := c264_0) (m := 2) (L0 := [(2, 42), (0, (a1 + 2))]) (jcall_v (A := [(0, (a1 + 2))]) (S' := []) (r := 42) rfl (g.lt ad42) (g.tg ad42) (Nat.le_of_ble_eq_true rfl)) (by decide) ml264 pp264 (Nat.le_of_ble_eq_true rfl) rfl (by decide) (by decide) ?_
                  refine ev_iload_n rfl ?_
                  refine ev_aload_n rfl ?_
                  refine g_getv (r := 42) (v := v69209) g ad42 (by decide) ft12_17 (ev69209) ?_
                  refine ev_icmpge f264_17 (fun c69343 => absurd c69343 (by omega)) (fun c69343 => ?_)
                  refine ev_aload_n rfl ?_
                  refine g_getp (r := 42) (c := 54) g ad42 (by decide) (by decide) rf42_16 ft12_16 ?_
                  refine ev_iload_n rfl ?_
                  refine g_baldv (v := v69333) g ad54 (by omega) (by omega) (ev69333) ?_
                  refine ev_goto f264_18 ?_
                  refine ev_ret rfl (by decide) (by decide) ?_
                  show jEv _ _ _ _ _ _ _ (_, [(2, 42), (0, (a1 + 2))], [(0, v69333)], _, _, _)
                  refine ev_bipush ?_
                  refine ev_bipush ?_
                  refine ev_in (d := 0) (a := 0) (b := 0) (cd' := c242_0) (m := 3) (L0 := [(0, v69333), (0, 48), (0, 57)]) (jcall_s (A := [(0, 57), (0, 48), (0, v69333)]) (S' := []) (by decide) rfl (Nat.le_of_ble_eq_true rfl)) (by decide) ml242 pp242 (Nat.le_of_ble_eq_true rfl) rfl (by decide) (by decide) ?_
                  refine ev_iload_n rfl ?_
                  refine ev_iload_n rfl ?_
                  refine ev_icmplt f242_14 (fun c69344 => absurd c69344 (by omega)) (fun c69344 => ?_)
                  refine ev_iload_n rfl ?_
                  refine ev_iload_n rfl ?_
                  refine ev_icmpgt f242_14 (fun c69345 => ?_) (fun c69345 => absurd c69345 (by omega))
                  refine ev_iconst ?_
                  refine ev_ret rfl (by decide) (by decide) ?_
                  show jEv _ _ _ _ _ _ _ (_, [(2, 42), (0, (a1 + 2))], [(0, 0)], _, _, _)
                  refine ev_ret rfl (by decide) (by decide) ?_
                  show jEv _ _ _ _ _ _ _ (_, [(2, 42), (0, a1), (0, 0), (0, (a1 + 2)), (0, 1), (0, (v69310 - 48)), (0, 1)], [(0, 0)], _, _, _)
                  refine ev_ifeq f269_100 (fun c69346 => ?_) (fun c69346 => absurd c69346 (by omega))
                  refine ev_aload_n rfl ?_
                  refine ev_iload_n rfl ?_
                  refine ev_iconst ?_
                  refine ev_iload rfl ?_
                  refine ev_ifeq f269_114 (fun c69347 => absurd c69347 (by omega)) (fun c69347 => ?_)
                  refine ev_iload rfl ?_
                  refine ev_ineg (r := ((-v69310) + 48)) (by unfold w32; omega) ?_
                  refine ev_goto f269_116 ?_
                  refine ev_in (d := 1) (a := 0) (b := 0) (cd' := c267_0) (m := 6) (L0 := [(2, 42), (0, 0), (0, 0), (0, ((-v69310) + 48)), (9, 0), (9, 0)]) (jcall_v (A := [(0, ((-v69310) + 48)), (0, 0), (0, 0)]) (S' := []) (r := 42) rfl (g.lt ad42) (g.tg ad42) (Nat.le_of_ble_eq_true rfl)) (by decide) ml267 pp267 (Nat.le_of_ble_eq_true rfl) rfl (by decide) (by decide) ?_
                  refine ev_iload_n rfl ?_
                  refine ev_ifne f267_6 (fun c69348 => absurd c69348 (by omega)) (fun c69348 => ?_)
                  refine ev_iconst ?_
                  refine ev_ret rfl (by decide) (by decide) ?_
                  show jEv _ _ _ _ _ _ _ (_, [(2, 42), (0, a1), (0, 0), (0, (a1 + 2)), (0, 1), (0, (v69310 - 48)), (0, 1)], [(0, (-1))], _, _, _)
                  refine ev_pop (by decide) ?_
                  refine ev_iload_n rfl ?_
                  exact ev_ret rfl (by decide) (by decide) ⟨⟨_, rfl, by omega, by omega, g, k0⟩, fun r hr h0 => by cases hr; exact (Ad.step (r' := (a1 + 2)) (Ad.step (r' := (a1 + 1)) (Ad.rf _ _ _) (by omega) k0 (fun _ => rfl) (ev69217) (by omega) (by omega) (by omega)) (by omega) k0 (fun _ => rfl) (ev69310) (by omega) (by omega) (by omega))⟩
                · refine ev_iconst ?_
                  refine ev_goto f242_15 ?_
                  refine ev_ret rfl (by decide) (by decide) ?_
                  show jEv _ _ _ _ _ _ _ (_, [(2, 42), (0, (a1 + 2))], [(0, 1)], _, _, _)
                  refine ev_ret rfl (by decide) (by decide) ?_
                  show jEv _ _ _ _ _ _ _ (_, [(2, 42), (0, a1), (0, 0), (0, (a1 + 2)), (0, 1), (0, (v69310 - 48)), (0, 1)], [(0, 1)], _, _, _)
                  refine ev_ifeq f269_86 (fun c69349 => absurd c69349 (by omega)) (fun c69349 => ?_)
                  refine ev_bipush ?_
                  refine ev_iload rfl ?_
                  refine ev_imul (r := (10 * v69310 - 480)) (by unfold w32; omega) ?_
                  refine ev_aload_n rfl ?_
                  refine ev_iload_n rfl ?_
                  refine ev_in (d := 1) (a := 0) (b := 0) (cd' := c264_0) (m := 2) (L0 := [(2, 42), (0, (a1 + 2))]) (jcall_v (A := [(0, (a1 + 2))]) (S' := [(0, (10 * v69310 - 480))]) (r := 42) rfl (g.lt ad42) (g.tg ad42) (Nat.le_of_ble_eq_true rfl)) (by decide) ml264 pp264 (Nat.le_of_ble_eq_true rfl) rfl (by decide) (by decide) ?_
                  refine ev_iload_n rfl ?_
                  refine ev_aload_n rfl ?_
                  refine g_getv (r := 42) (v := v69209) g ad42 (by decide) ft12_17 (ev69209) ?_
                  refine ev_icmpge f264_17 (fun c69350 => absurd c69350 (by omega)) (fun c69350 => ?_)
                  refine ev_aload_n rfl ?_
                  refine g_getp (r := 42) (c := 54) g ad42 (by decide) (by decide) rf42_16 ft12_16 ?_
                  refine ev_iload_n rfl ?_
                  refine g_baldv (v := v69333) g ad54 (by omega) (by omega) (ev69333) ?_
                  refine ev_goto f264_18 ?_
                  refine ev_ret rfl (by decide) (by decide) ?_
                  show jEv _ _ _ _ _ _ _ (_, [(2, 42), (0, a1), (0, 0), (0, (a1 + 2)), (0, 1), (0, (v69310 - 48)), (0, 1)], [(0, v69333), (0, (10 * v69310 - 480))], _, _, _)
                  refine ev_iadd (r := (10 * v69310 + v69333 - 480)) (by unfold w32; omega) ?_
                  refine ev_bipush ?_
                  refine ev_isub (r := (10 * v69310 + v69333 - 528)) (by unfold w32; omega) ?_
                  refine ev_istore (L' := [(2, 42), (0, a1), (0, 0), (0, (a1 + 2)), (0, 1), (0, (10 * v69310 + v69333 - 528)), (0, 1)]) (Nat.le_of_ble_eq_true rfl) rfl ?_
                  refine ev_iinc (w := 2) (L' := [(2, 42), (0, a1), (0, 0), (0, (a1 + 2)), (0, 1), (0, (10 * v69310 + v69333 - 528)), (0, 2)]) rfl (by decide) rfl ?_
                  refine ev_iinc (w := (a1 + 3)) (L' := [(2, 42), (0, a1), (0, 0), (0, (a1 + 3)), (0, 1), (0, (10 * v69310 + v69333 - 528)), (0, 2)]) rfl (by unfold w32; omega) rfl ?_
                  refine ev_goto f269_47 ?_
                  refine ev_iload rfl ?_
                  refine ev_iconst ?_
                  refine ev_icmpge f269_86 (fun c69351 => absurd c69351 (by omega)) (fun c69351 => ?_)
                  refine ev_aload_n rfl ?_
                  refine ev_iload_n rfl ?_
                  refine ev_in (d := 1) (a := 0) (b := 0) (cd' := c265_0) (m := 2) (L0 := [(2, 42), (0, (a1 + 3))]) (jcall_v (A := [(0, (a1 + 3))]) (S' := []) (r := 42) rfl (g.lt ad42) (g.tg ad42) (Nat.le_of_ble_eq_true rfl)) (by decide) ml265 pp265 (Nat.le_of_ble_eq_true rfl) rfl (by decide) (by decide) ?_
                  refine ev_aload_n rfl ?_
                  refine ev_iload_n rfl ?_
                  refine ev_in (d := 0) (a := 0) (b := 0) (cd' := c264_0) (m := 2) (L0 := [(2, 42), (0, (a1 + 3))]) (jcall_v (A := [(0, (a1 + 3))]) (S' := []) (r := 42) rfl (g.lt ad42) (g.tg ad42) (Nat.le_of_ble_eq_true rfl)) (by decide) ml264 pp264 (Nat.le_of_ble_eq_true rfl) rfl (by decide) (by decide) ?_
                  refine ev_iload_n rfl ?_
                  refine ev_aload_n rfl ?_
                  refine g_getv (r := 42) (v := v69209) g ad42 (by decide) ft12_17 (ev69209) ?_
                  refine ev_icmpge f264_17 (fun c69352 => ?_) (fun c69352 => ?_)
                  · refine ev_iconst ?_
                    refine ev_ret rfl (by decide) (by decide) ?_
                    show jEv _ _ _ _ _ _ _ (_, [(2, 42), (0, (a1 + 3))], [(0, (-1))], _, _, _)
                    refine ev_bipush ?_
                    refine ev_bipush ?_
                    refine ev_in (d := 0) (a := 0) (b := 0) (cd' := c242_0) (m := 3) (L0 := [(0, (-1)), (0, 48), (0, 57)]) (jcall_s (A := [(0, 57), (0, 48), (0, (-1))]) (S' := []) (by decide) rfl (Nat.le_of_ble_eq_true rfl)) (by decide) ml242 pp242 (Nat.le_of_ble_eq_true rfl) rfl (by decide) (by decide) ?_
                    refine ev_iload_n rfl ?_
                    refine ev_iload_n rfl ?_
                    refine ev_icmplt f242_14 (fun c69353 => ?_) (fun c69353 => absurd c69353 (by omega))
                    refine ev_iconst ?_
                    refine ev_ret rfl (by decide) (by decide) ?_
                    show jEv _ _ _ _ _ _ _ (_, [(2, 42), (0, (a1 + 3))], [(0, 0)], _, _, _)
                    refine ev_ret rfl (by decide) (by decide) ?_
                    show jEv _ _ _ _ _ _ _ (_, [(2, 42), (0, a1), (0, 0), (0, (a1 + 3)), (0, 1), (0, (10 * v69310 + v69333 - 528)), (0, 2)], [(0, 0)], _, _, _)
                    refine ev_ifeq f269_86 (fun c69354 => ?_) (fun c69354 => absurd c69354 (by omega))
                    refine ev_aload_n rfl ?_
                    refine ev_iload_n rfl ?_
                    refine ev_in (d := 1) (a := 0) (b := 0) (cd' := c265_0) (m := 2) (L0 := [(2, 42), (0, (a1 + 3))]) (jcall_v (A := [(0, (a1 + 3))]) (S' := []) (r := 42) rfl (g.lt ad42) (g.tg ad42) (Nat.le_of_ble_eq_true rfl)) (by decide) ml265 pp265 (Nat.le_of_ble_eq_true rfl) rfl (by decide) (by decide) ?_
                    refine ev_aload_n rfl ?_
                    refine ev_iload_n rfl ?_
                    refine ev_in (d := 0) (a := 0) (b := 0) (cd' := c264_0) (m := 2) (L0 := [(2, 42), (0, (a1 + 3))]) (jcall_v (A := [(0, (a1 + 3))]) (S' := []) (r := 42) rfl (g.lt ad42) (g.tg ad42) (Nat.le_of_ble_eq_true rfl)) (by decide) ml264 pp264 (Nat.le_of_ble_eq_true rfl) rfl (by decide) (by decide) ?_
                    refine ev_iload_n rfl ?_
                    refine ev_aload_n rfl ?_
                    refine g_getv (r := 42) (v := v69209) g ad42 (by decide) ft12_17 (ev69209) ?_
                    refine ev_icmpge f264_17 (fun c69355 => ?_) (fun c69355 => absurd c69355 (by omega))
                    refine ev_iconst ?_
                    refine ev_ret rfl (by decide) (by decide) ?_
                    show jEv _ _ _ _ _ _ _ (_, [(2, 42), (0, (a1 + 3))], [(0, (-1))], _, _, _)
                    refine ev_bipush ?_
                    refine ev_bipush ?_
                    refine ev_in (d := 0) (a := 0) (b := 0) (cd' := c242_0) (m := 3) (L0 := [(0, (-1)), (0, 48), (0, 57)]) (jcall_s (A := [(0, 57), (0, 48), (0, (-1))]) (S' := []) (by decide) rfl (Nat.le_of_ble_eq_true rfl)) (by decide) ml242 pp242 (Nat.le_of_ble_eq_true rfl) rfl (by decide) (by decide) ?_
                    refine ev_iload_n rfl ?_
                    refine ev_iload_n rfl ?_
                    refine ev_icmplt f242_14 (fun c69356 => ?_) (fun c69356 => absurd c69356 (by omega))
                    refine ev_iconst ?_
                    refine ev_ret rfl (by decide) (by decide) ?_
                    show jEv _ _ _ _ _ _ _ (_, [(2, 42), (0, (a1 + 3))], [(0, 0)], _, _, _)
                    refine ev_ret rfl (by decide) (by decide) ?_
                    show jEv _ _ _ _ _ _ _ (_, [(2, 42), (0, a1), (0, 0), (0, (a1 + 3)), (0, 1), (0, (10 * v69310 + v69333 - 528)), (0, 2)], [(0, 0)], _, _, _)
                    refine ev_ifeq f269_100 (fun c69357 => ?_) (fun c69357 => absurd c69357 (by omega))
                    refine ev_aload_n rfl ?_
                    refine ev_iload_n rfl ?_
                    refine ev_iconst ?_
                    refine ev_iload rfl ?_
                    refine ev_ifeq f269_114 (fun c69358 => absurd c69358 (by omega)) (fun c69358 => ?_)
                    refine ev_iload rfl ?_
                    refine ev_ineg (r := ((-10) * v69310 + (-v69333) + 528)) (by unfold w32; omega) ?_
                    refine ev_goto f269_116 ?_
                    refine ev_in (d := 1) (a := 0) (b := 0) (cd' := c267_0) (m := 6) (L0 := [(2, 42), (0, 0), (0, 0), (0, ((-10) * v69310 + (-v69333) + 528)), (9, 0), (9, 0)]) (jcall_v (A := [(0, ((-10) * v69310 + (-v69333) + 528)), (0, 0), (0, 0)]) (S' := []) (r := 42) rfl (g.lt ad42) (g.tg ad42) (Nat.le_of_ble_eq_true rfl)) (by decide) ml267 pp267 (Nat.le_of_ble_eq_true rfl) rfl (by decide) (by decide) ?_
                    refine ev_iload_n rfl ?_
                    refine ev_ifne f267_6 (fun c69359 => absurd c69359 (by omega)) (fun c69359 => ?_)
                    refine ev_iconst ?_
                    refine ev_ret rfl (by decide) (by decide) ?_
                    show jEv _ _ _ _ _ _ _ (_, [(2, 42), (0, a1), (0, 0), (0, (a1 + 3)), (0, 1), (0, (10 * v69310 + v69333 - 528)), (0, 2)], [(0, (-1))], _, _, _)
                    refine ev_pop (by decide) ?_
                    refine ev_iload_n rfl ?_
                    exact ev_ret rfl (by decide) (by decide) ⟨⟨_, rfl, by omega, by omega, g, k0⟩, fun r hr h0 => by cases hr; exact (Ad.step (r' := (a1 + 3)) (Ad.step (r' := (a1 + 2)) (Ad.step (r' := (a1 + 1)) (Ad.rf _ _ _) (by omega) k0 (fun _ => rfl) (ev69217) (by omega) (by omega) (by omega)) (by omega) k0 (fun _ => rfl) (ev69310) (by omega) (by omega) (by omega)) (by omega) k0 (fun _ => rfl) (ev69333) (by omega) (by omega) (by omega))⟩
                  · refine ev_aload_n rfl ?_
                    refine g_getp (r := 42) (c := 54) g ad42 (by decide) (by decide) rf42_16 ft12_16 ?_
                    refine ev_iload_n rfl ?_
                    refine g_bald g ad54 rt54 (by omega) (by omega) (fun v69360 ev69360 lv69360 uv69360 => ?_)
                    refine ev_goto f264_18 ?_
                    refine ev_ret rfl (by decide) (by decide) ?_
                    show jEv _ _ _ _ _ _ _ (_, [(2, 42), (0, (a1 + 3))], [(0, v69360)], _, _, _)
                    refine ev_bipush ?_
                    refine ev_bipush ?_
                    refine ev_in (d := 0) (a := 0) (b := 0) (cd' := c242_0) (m := 3) (L0 := [(0, v69360), (0, 48), (0, 57)]) (jcall_s (A := [(0, 57), (0, 48), (0, v69360)]) (S' := []) (by decide) rfl (Nat.le_of_ble_eq_true rfl)) (by decide) ml242 pp242 (Nat.le_of_ble_eq_true rfl) rfl (by decide) (by decide) ?_
                    refine ev_iload_n rfl ?_
                    refine ev_iload_n rfl ?_
                    refine ev_icmplt f242_14 (fun c69361 => ?_) (fun c69361 => ?_)
                    · refine ev_iconst ?_
                      refine ev_ret rfl (by decide) (by decide) ?_
                      show jEv _ _ _ _ _ _ _ (_, [(2, 42), (0, (a1 + 3))], [(0, 0)], _, _, _)
                      refine ev_ret rfl (by decide) (by decide) ?_
                      show jEv _ _ _ _ _ _ _ (_, [(2, 42), (0, a1), (0, 0), (0, (a1 + 3)), (0, 1), (0, (10 * v69310 + v69333 - 528)), (0, 2)], [(0, 0)], _, _, _)
                      refine ev_ifeq f269_86 (fun c69362 => ?_) (fun c69362 => absurd c69362 (by omega))
                      refine ev_aload_n rfl ?_
                      refine ev_iload_n rfl ?_
                      refine ev_in (d := 1) (a := 0) (b := 0) (cd' := c265_0) (m := 2) (L0 := [(2, 42), (0, (a1 + 3))]) (jcall_v (A := [(0, (a1 + 3))]) (S' := []) (r := 42) rfl (g.lt ad42) (g.tg ad42) (Nat.le_of_ble_eq_true rfl)) (by decide) ml265 pp265 (Nat.le_of_ble_eq_true rfl) rfl (by decide) (by decide) ?_
                      refine ev_aload_n rfl ?_
                      refine ev_iload_n rfl ?_
                      refine ev_in (d := 0) (a := 0) (b := 0) (cd' := c264_0) (m := 2) (L0 := [(2, 42), (0, (a1 + 3))]) (jcall_v (A := [(0, (a1 + 3))]) (S' := []) (r := 42) rfl (g.lt ad42) (g.tg ad42) (Nat.le_of_ble_eq_true rfl)) (by decide) ml264 pp264 (Nat.le_of_ble_eq_true rfl) rfl (by decide) (by decide) ?_
                      refine ev_iload_n rfl ?_
                      refine ev_aload_n rfl ?_
                      refine g_getv (r := 42) (v := v69209) g ad42 (by decide) ft12_17 (ev69209) ?_
                      refine ev_icmpge f264_17 (fun c69363 => absurd c69363 (by omega)) (fun c69363 => ?_)
                      refine ev_aload_n rfl ?_
                      refine g_getp (r := 42) (c := 54) g ad42 (by decide) (by decide) rf42_16 ft12_16 ?_
                      refine ev_iload_n rfl ?_
                      refine g_baldv (v := v69360) g ad54 (by omega) (by omega) (ev69360) ?_
                      refine ev_goto f264_18 ?_
                      refine ev_ret rfl (by decide) (by decide) ?_
                      show jEv _ _ _ _ _ _ _ (_, [(2, 42), (0, (a1 + 3))], [(0, v69360)], _, _, _)
                      refine ev_bipush ?_
                      refine ev_bipush ?_
                      refine ev_in (d := 0) (a := 0) (b := 0) (cd' := c242_0) (m := 3) (L0 := [(0, v69360), (0, 48), (0, 57)]) (jcall_s (A := [(0, 57), (0, 48), (0, v69360)]) (S' := []) (by decide) rfl (Nat.le_of_ble_eq_true rfl)) (by decide) ml242 pp242 (Nat.le_of_ble_eq_true rfl) rfl (by decide) (by decide) ?_
                      refine ev_iload_n rfl ?_
                      refine ev_iload_n rfl ?_
                      refine ev_icmplt f242_14 (fun c69364 => ?_) (fun c69364 => absurd c69364 (by omega))
                      refine ev_iconst ?_
                      refine ev_ret rfl (by decide) (by decide) ?_
                      show jEv _ _ _ _ _ _ _ (_, [(2, 42), (0, (a1 + 3))], [(0, 0)], _, _, _)
                      refine ev_ret rfl (by decide) (by decide) ?_
                      show jEv _ _ _ _ _ _ _ (_, [(2, 42), (0, a1), (0, 0), (0, (a1 + 3)), (0, 1), (0, (10 * v69310 + v69333 - 528)), (0, 2)], [(0, 0)], _, _, _)
                      refine ev_ifeq f269_100 (fun c69365 => ?_) (fun c69365 => absurd c69365 (by omega))
                      refine ev_aload_n rfl ?_
                      refine ev_iload_n rfl ?_
                      refine ev_iconst ?_
                      refine ev_iload rfl ?_
                      refine ev_ifeq f269_114 (fun c69366 => absurd c69366 (by omega)) (fun c69366 => ?_)
                      refine ev_iload rfl ?_
                      refine ev_ineg (r := ((-10) * v69310 + (-v69333) + 528)) (by unfold w32; omega) ?_
                      refine ev_goto f269_116 ?_
                      refine ev_in (d := 1) (a := 0) (b := 0) (cd' := c267_0) (m := 6) (L0 := [(2, 42), (0, 0), (0, 0), (0, ((-10) * v69310 + (-v69333) + 528)), (9, 0), (9, 0)]) (jcall_v (A := [(0, ((-10) * v69310 + (-v69333) + 528)), (0, 0), (0, 0)]) (S' := []) (r := 42) rfl (g.lt ad42) (g.tg ad42) (Nat.le_of_ble_eq_true rfl)) (by decide) ml267 pp267 (Nat.le_of_ble_eq_true rfl) rfl (by decide) (by decide) ?_
                      refine ev_iload_n rfl ?_
                      refine ev_ifne f267_6 (fun c69367 => absurd c69367 (by omega)) (fun c69367 => ?_)
                      refine ev_iconst ?_
                      refine ev_ret rfl (by decide) (by decide) ?_
                      show jEv _ _ _ _ _ _ _ (_, [(2, 42), (0, a1), (0, 0), (0, (a1 + 3)), (0, 1), (0, (10 * v69310 + v69333 - 528)), (0, 2)], [(0, (-1))], _, _, _)
                      refine ev_pop (by decide) ?_
                      refine ev_iload_n rfl ?_
                      exact ev_ret rfl (by decide) (by decide) ⟨⟨_, rfl, by omega, by omega, g, k0⟩, fun r hr h0 => by cases hr; exact (Ad.step (r' := (a1 + 3)) (Ad.step (r' := (a1 + 2)) (Ad.step (r' := (a1 + 1)) (Ad.rf _ _ _) (by omega) k0 (fun _ => rfl) (ev69217) (by omega) (by omega) (by omega)) (by omega) k0 (fun _ => rfl) (ev69310) (by omega) (by omega) (by omega)) (by omega) k0 (fun _ => rfl) (ev69333) (by omega) (by omega) (by omega))⟩
                    · refine ev_iload_n rfl ?_
                      refine ev_iload_n rfl ?_
                      refine ev_icmpgt f242_14 (fun c69368 => ?_) (fun c69368 => ?_)
                      · refine ev_iconst ?_
                        refine ev_ret rfl (by decide) (by decide) ?_
                        show jEv _ _ _ _ _ _ _ (_, [(2, 42), (0, (a1 + 3))], [(0, 0)], _, _, _)
                        refine ev_ret rfl (by decide) (by decide) ?_
                        show jEv _ _ _ _ _ _ _ (_, [(2, 42), (0, a1), (0, 0), (0, (a1 + 3)), (0, 1), (0, (10 * v69310 + v69333 - 528)), (0, 2)], [(0, 0)], _, _, _)
                        refine ev_ifeq f269_86 (fun c69369 => ?_) (fun c69369 => absurd c69369 (by omega))
                        refine ev_aload_n rfl ?_
                        refine ev_iload_n rfl ?_
                        refine ev_in (d := 1) (a := 0) (b := 0) (cd' := c265_0) (m := 2) (L0 := [(2, 42), (0, (a1 + 3))]) (jcall_v (A := [(0, (a1 + 3))]) (S' := []) (r := 42) rfl (g.lt ad42) (g.tg ad42) (Nat.le_of_ble_eq_true rfl)) (by decide) ml265 pp265 (Nat.le_of_ble_eq_true rfl) rfl (by decide) (by decide) ?_
                        refine ev_aload_n rfl ?_
                        refine ev_iload_n rfl ?_
                        refine ev_in (d := 0) (a := 0) (b := 0) (cd' := c264_0) (m := 2) (L0 := [(2, 42), (0, (a1 + 3))]) (jcall_v (A := [(0, (a1 + 3))]) (S' := []) (r := 42) rfl (g.lt ad42) (g.tg ad42) (Nat.le_of_ble_eq_true rfl)) (by decide) ml264 pp264 (Nat.le_of_ble_eq_true rfl) rfl (by decide) (by decide) ?_
                        refine ev_iload_n rfl ?_
                        refine ev_aload_n rfl ?_
                        refine g_getv (r := 42) (v := v69209) g ad42 (by decide) ft12_17 (ev69209) ?_
                        refine ev_icmpge f264_17 (fun c69370 => absurd c69370 (by omega)) (fun c69370 => ?_)
                        refine ev_aload_n rfl ?_
                        refine g_getp (r := 42) (c := 54) g ad42 (by decide) (by decide) rf42_16 ft12_16 ?_
                        refine ev_iload_n rfl ?_
                        refine g_baldv (v := v69360) g ad54 (by omega) (by omega) (ev69360) ?_
                        refine ev_goto f264_18 ?_
                        refine ev_ret rfl (by decide) (by decide) ?_
                        show jEv _ _ _ _ _ _ _ (_, [(2, 42), (0, (a1 + 3))], [(0, v69360)], _, _, _)
                        refine ev_bipush ?_
                        refine ev_bipush ?_
                        refine ev_in (d := 0) (a := 0) (b := 0) (cd' := c242_0) (m := 3) (L0 := [(0, v69360), (0, 48), (0, 57)]) (jcall_s (A := [(0, 57), (0, 48), (0, v69360)]) (S' := []) (by decide) rfl (Nat.le_of_ble_eq_true rfl)) (by decide) ml242 pp242 (Nat.le_of_ble_eq_true rfl) rfl (by decide) (by decide) ?_
                        refine ev_iload_n rfl ?_
                        refine ev_iload_n rfl ?_
                        refine ev_icmplt f242_14 (fun c69371 => absurd c69371 (by omega)) (fun c69371 => ?_)
                        refine ev_iload_n rfl ?_
                        refine ev_iload_n rfl ?_
                        refine ev_icmpgt f242_14 (fun c69372 => ?_) (fun c69372 => absurd c69372 (by omega))
                        refine ev_iconst ?_
                        refine ev_ret rfl (by decide) (by decide) ?_
                        show jEv _ _ _ _ _ _ _ (_, [(2, 42), (0, (a1 + 3))], [(0, 0)], _, _, _)
                        refine ev_ret rfl (by decide) (by decide) ?_
                        show jEv _ _ _ _ _ _ _ (_, [(2, 42), (0, a1), (0, 0), (0, (a1 + 3)), (0, 1), (0, (10 * v69310 + v69333 - 528)), (0, 2)], [(0, 0)], _, _, _)
                        refine ev_ifeq f269_100 (fun c69373 => ?_) (fun c69373 => absurd c69373 (by omega))
                        refine ev_aload_n rfl ?_
                        refine ev_iload_n rfl ?_
                        refine ev_iconst ?_
                        refine ev_iload rfl ?_
                        refine ev_ifeq f269_114 (fun c69374 => absurd c69374 (by omega)) (fun c69374 => ?_)
                        refine ev_iload rfl ?_
                        refine ev_ineg (r := ((-10) * v69310 + (-v69333) + 528)) (by unfold w32; omega) ?_
                        refine ev_goto f269_116 ?_
                        refine ev_in (d := 1) (a := 0) (b := 0) (cd' := c267_0) (m := 6) (L0 := [(2, 42), (0, 0), (0, 0), (0, ((-10) * v69310 + (-v69333) + 528)), (9, 0), (9, 0)]) (jcall_v (A := [(0, ((-10) * v69310 + (-v69333) + 528)), (0, 0), (0, 0)]) (S' := []) (r := 42) rfl (g.lt ad42) (g.tg ad42) (Nat.le_of_ble_eq_true rfl)) (by decide) ml267 pp267 (Nat.le_of_ble_eq_true rfl) rfl (by decide) (by decide) ?_
                        refine ev_iload_n rfl ?_
                        refine ev_ifne f267_6 (fun c69375 => absurd c69375 (by omega)) (fun c69375 => ?_)
                        refine ev_iconst ?_
                        refine ev_ret rfl (by decide) (by decide) ?_
                        show jEv _ _ _ _ _ _ _ (_, [(2, 42), (0, a1), (0, 0), (0, (a1 + 3)), (0, 1), (0, (10 * v69310 + v69333 - 528)), (0, 2)], [(0, (-1))], _, _, _)
                        refine ev_pop (by decide) ?_
                        refine ev_iload_n rfl ?_
                        exact ev_ret rfl (by decide) (by decide) ⟨⟨_, rfl, by omega, by omega, g, k0⟩, fun r hr h0 => by cases hr; exact (Ad.step (r' := (a1 + 3)) (Ad.step (r' := (a1 + 2)) (Ad.step (r' := (a1 + 1)) (Ad.rf _ _ _) (by omega) k0 (fun _ => rfl) (ev69217) (by omega) (by omega) (by omega)) (by omega) k0 (fun _ => rfl) (ev69310) (by omega) (by omega) (by omega)) (by omega) k0 (fun _ => rfl) (ev69333) (by omega) (by omega) (by omega))⟩
                      · refine ev_iconst ?_
                        refine ev_goto f242_15 ?_
                        refine ev_ret rfl (by decide) (by decide) ?_
                        show jEv _ _ _ _ _ _ _ (_, [(2, 42), (0, (a1 + 3))], [(0, 1)], _, _, _)
                        refine ev_ret rfl (by decide) (by decide) ?_
                        show jEv _ _ _ _ _ _ _ (_, [(2, 42), (0, a1), (0, 0), (0, (a1 + 3)), (0, 1), (0, (10 * v69310 + v69333 - 528)), (0, 2)], [(0, 1)], _, _, _)
                        refine ev_ifeq f269_86 (fun c69376 => absurd c69376 (by omega)) (fun c69376 => ?_)
                        refine ev_bipush ?_
                        refine ev_iload rfl ?_
                        refine ev_imul (r := (100 * v69310 + 10 * v69333 - 5280)) (by unfold w32; omega) ?_
                        refine ev_aload_n rfl ?_
                        refine ev_iload_n rfl ?_
                        refine ev_in (d := 1) (a := 0) (b := 0) (cd' := c264_0) (m := 2) (L0 := [(2, 42), (0, (a1 + 3))]) (jcall_v (A := [(0, (a1 + 3))]) (S' := [(0, (100 * v69310 + 10 * v69333 - 5280))]) (r := 42) rfl (g.lt ad42) (g.tg ad42) (Nat.le_of_ble_eq_true rfl)) (by decide) ml264 pp264 (Nat.le_of_ble_eq_true rfl) rfl (by decide) (by decide) ?_
                        refine ev_iload_n rfl ?_
                        refine ev_aload_n rfl ?_
                        refine g_getv (r := 42) (v := v69209) g ad42 (by decide) ft12_17 (ev69209) ?_
                        refine ev_icmpge f264_17 (fun c69377 => absurd c69377 (by omega)) (fun c69377 => ?_)
                        refine ev_aload_n rfl ?_
                        refine g_getp (r := 42) (c := 54) g ad42 (by decide) (by decide) rf42_16 ft12_16 ?_
                        refine ev_iload_n rfl ?_
                        refine g_baldv (v := v69360) g ad54 (by omega) (by omega) (ev69360) ?_
                        refine ev_goto f264_18 ?_
                        refine ev_ret rfl (by decide) (by decide) ?_
                        show jEv _ _ _ _ _ _ _ (_, [(2, 42), (0, a1), (0, 0), (0, (a1 + 3)), (0, 1), (0, (10 * v69310 + v69333 - 528)), (0, 2)], [(0, v69360), (0, (100 * v69310 + 10 * v69333 - 5280))], _, _, _)
                        refine ev_iadd (r := (100 * v69310 + 10 * v69333 + v69360 - 5280)) (by unfold w32; omega) ?_
                        refine ev_bipush ?_
                        refine ev_isub (r := (100 * v69310 + 10 * v69333 + v69360 - 5328)) (by unfold w32; omega) ?_
                        refine ev_istore (L' := [(2, 42), (0, a1), (0, 0), (0, (a1 + 3)), (0, 1), (0, (100 * v69310 + 10 * v69333 + v69360 - 5328)), (0, 2)]) (Nat.le_of_ble_eq_true rfl) rfl ?_
                        refine ev_iinc (w := 3) (L' := [(2, 42), (0, a1), (0, 0), (0, (a1 + 3)), (0, 1), (0, (100 * v69310 + 10 * v69333 + v69360 - 5328)), (0, 3)]) rfl (by decide) rfl ?_
                        refine ev_iinc (w := (a1 + 4)) (L' := [(2, 42), (0, a1), (0, 0), (0, (a1 + 4)), (0, 1), (0, (100 * v69310 + 10 * v69333 + v69360 - 5328)), (0, 3)]) rfl (by unfold w32; omega) rfl ?_
                        refine ev_goto f269_47 ?_
                        refine ev_iload rfl ?_
                        refine ev_iconst ?_
                        refine ev_icmpge f269_86 (fun c69378 => ?_) (fun c69378 => absurd c69378 (by omega))
                        refine ev_aload_n rfl ?_
                        refine ev_iload_n rfl ?_
                        refine ev_in (d := 1) (a := 0) (b := 0) (cd' := c265_0) (m := 2) (L0 := [(2, 42), (0, (a1 + 4))]) (jcall_v (A := [(0, (a1 + 4))]) (S' := []) (r := 42) rfl (g.lt ad42) (g.tg ad42) (Nat.le_of_ble_eq_true rfl)) (by decide) ml265 pp265 (Nat.le_of_ble_eq_true rfl) rfl (by decide) (by decide) ?_
                        refine ev_aload_n rfl ?_
                        refine ev_iload_n rfl ?_
                        refine ev_in (d := 0) (a := 0) (b := 0) (cd' := c264_0) (m := 2) (L0 := [(2, 42), (0, (a1 + 4))]) (jcall_v (A := [(0, (a1 + 4))]) (S' := []) (r := 42) rfl (g.lt ad42) (g.tg ad42) (Nat.le_of_ble_eq_true rfl)) (by decide) ml264 pp264 (Nat.le_of_ble_eq_true rfl) rfl (by decide) (by decide) ?_
                        refine ev_iload_n rfl ?_
                        refine ev_aload_n rfl ?_
                        refine g_getv (r := 42) (v := v69209) g ad42 (by decide) ft12_17 (ev69209) ?_
                        refine ev_icmpge f264_17 (fun c69379 => ?_) (fun c69379 => ?_)
                        · refine ev_iconst ?_
                          refine ev_ret rfl (by decide) (by decide) ?_
                          show jEv _ _ _ _ _ _ _ (_, [(2, 42), (0, (a1 + 4))], [(0, (-1))], _, _, _)
                          refine ev_bipush ?_
                          refine ev_bipush ?_
                          refine ev_in (d := 0) (a := 0) (b := 0) (cd' := c242_0) (m := 3) (L0 := [(0, (-1)), (0, 48), (0, 57)]) (jcall_s (A := [(0, 57), (0, 48), (0, (-1))]) (S' := []) (by decide) rfl (Nat.le_of_ble_eq_true rfl)) (by decide) ml242 pp242 (Nat.le_of_ble_eq_true rfl) rfl (by decide) (by decide) ?_
                          refine ev_iload_n rfl ?_
                          refine ev_iload_n rfl ?_
                          refine ev_icmplt f242_14 (fun c69380 => ?_) (fun c69380 => absurd c69380 (by omega))
                          refine ev_iconst ?_
                          refine ev_ret rfl (by decide) (by decide) ?_
                          show jEv _ _ _ _ _ _ _ (_, [(2, 42), (0, (a1 + 4))], [(0, 0)], _, _, _)
                          refine ev_ret rfl (by decide) (by decide) ?_
                          show jEv _ _ _ _ _ _ _ (_, [(2, 42), (0, a1), (0, 0), (0, (a1 + 4)), (0, 1), (0, (100 * v69310 + 10 * v69333 + v69360 - 5328)), (0, 3)], [(0, 0)], _, _, _)
                          refine ev_ifeq f269_100 (fun c69381 => ?_) (fun c69381 => absurd c69381 (by omega))
                          refine ev_aload_n rfl ?_
                          refine ev_iload_n rfl ?_
                          refine ev_iconst ?_
                          refine ev_iload rfl ?_
                          refine ev_ifeq f269_114 (fun c69382 => absurd c69382 (by omega)) (fun c69382 => ?_)
                          refine ev_iload rfl ?_
                          refine ev_ineg (r := ((-100) * v69310 + (-10) * v69333 + (-v69360) + 5328)) (by unfold w32; omega) ?_
                          refine ev_goto f269_116 ?_
                          refine ev_in (d := 1) (a := 0) (b := 0) (cd' := c267_0) (m := 6) (L0 := [(2, 42), (0, 0), (0, 0), (0, ((-100) * v69310 + (-10) * v69333 + (-v69360) + 5328)), (9, 0), (9, 0)]) (jcall_v (A := [(0, ((-100) * v69310 + (-10) * v69333 + (-v69360) + 5328)), (0, 0), (0, 0)]) (S' := []) (r := 42) rfl (g.lt ad42) (g.tg ad42) (Nat.le_of_ble_eq_true rfl)) (by decide) ml267 pp267 (Nat.le_of_ble_eq_true rfl) rfl (by decide) (by decide) ?_
                          refine ev_iload_n rfl ?_
                          refine ev_ifne f267_6 (fun c69383 => absurd c69383 (by omega)) (fun c69383 => ?_)
                          refine ev_iconst ?_
                          refine ev_ret rfl (by decide) (by decide) ?_
                          show jEv _ _ _ _ _ _ _ (_, [(2, 42), (0, a1), (0, 0), (0, (a1 + 4)), (0, 1), (0, (100 * v69310 + 10 * v69333 + v69360 - 5328)), (0, 3)], [(0, (-1))], _, _, _)
                          refine ev_pop (by decide) ?_
                          refine ev_iload_n rfl ?_
                          exact ev_ret rfl (by decide) (by decide) ⟨⟨_, rfl, by omega, by omega, g, k0⟩, fun r hr h0 => by cases hr; exact (Ad.step (r' := (a1 + 4)) (Ad.step (r' := (a1 + 3)) (Ad.step (r' := (a1 + 2)) (Ad.step (r' := (a1 + 1)) (Ad.rf _ _ _) (by omega) k0 (fun _ => rfl) (ev69217) (by omega) (by omega) (by omega)) (by omega) k0 (fun _ => rfl) (ev69310) (by omega) (by omega) (by omega)) (by omega) k0 (fun _ => rfl) (ev69333) (by omega) (by omega) (by omega)) (by omega) k0 (fun _ => rfl) (ev69360) (by omega) (by omega) (by omega))⟩
                        · refine ev_aload_n rfl ?_
                          refine g_getp (r := 42) (c := 54) g ad42 (by decide) (by decide) rf42_16 ft12_16 ?_
                          refine ev_iload_n rfl ?_
                          refine g_bald g ad54 rt54 (by omega) (by omega) (fun v69384 ev69384 lv69384 uv69384 => ?_)
                          refine ev_goto f264_18 ?_
                          refine ev_ret rfl (by decide) (by decide) ?_
                          show jEv _ _ _ _ _ _ _ (_, [(2, 42), (0, (a1 + 4))], [(0, v69384)], _, _, _)
                          refine ev_bipush ?_
                          refine ev_bipush ?_
                          refine ev_in (d := 0) (a := 0) (b := 0) (cd' := c242_0) (m := 3) (L0 := [(0, v69384), (0, 48), (0, 57)]) (jcall_s (A := [(0, 57), (0, 48), (0, v69384)]) (S' := []) (by decide) rfl (Nat.le_of_ble_eq_true rfl)) (by decide) ml242 pp242 (Nat.le_of_ble_eq_true rfl) rfl (by decide) (by decide) ?_
                          refine ev_iload_n rfl ?_
                          refine ev_iload_n rfl ?_
                          refine ev_icmplt f242_14 (fun c69385 => ?_) (fun c69385 => ?_)
                          · refine ev_iconst ?_
                            refine ev_ret rfl (by decide) (by decide) ?_
                            show jEv _ _ _ _ _ _ _ (_, [(2, 42), (0, (a1 + 4))], [(0, 0)], _, _, _)
                            refine ev_ret rfl (by decide) (by decide) ?_
                            show jEv _ _ _ _ _ _ _ (_, [(2, 42), (0, a1), (0, 0), (0, (a1 + 4)), (0, 1), (0, (100 * v69310 + 10 * v69333 + v69360 - 5328)), (0, 3)], [(0, 0)], _, _, _)
                            refine ev_ifeq f269_100 (fun c69386 => ?_) (fun c69386 => absurd c69386 (by omega))
                            refine ev_aload_n rfl ?_
                            refine ev_iload_n rfl ?_
                            refine ev_iconst ?_
                            refine ev_iload rfl ?_
                            refine ev_ifeq f269_114 (fun c69387 => absurd c69387 (by omega)) (fun c69387 => ?_)
                            refine ev_iload rfl ?_
                            refine ev_ineg (r := ((-100) * v69310 + (-10) * v69333 + (-v69360) + 5328)) (by unfold w32; omega) ?_
                            refine ev_goto f269_116 ?_
                            refine ev_in (d := 1) (a := 0) (b := 0) (cd' := c267_0) (m := 6) (L0 := [(2, 42), (0, 0), (0, 0), (0, ((-100) * v69310 + (-10) * v69333 + (-v69360) + 5328)), (9, 0), (9, 0)]) (jcall_v (A := [(0, ((-100) * v69310 + (-10) * v69333 + (-v69360) + 5328)), (0, 0), (0, 0)]) (S' := []) (r := 42) rfl (g.lt ad42) (g.tg ad42) (Nat.le_of_ble_eq_true rfl)) (by decide) ml267 pp267 (Nat.le_of_ble_eq_true rfl) rfl (by decide) (by decide) ?_
                            refine ev_iload_n rfl ?_
                            refine ev_ifne f267_6 (fun c69388 => absurd c69388 (by omega)) (fun c69388 => ?_)
                            refine ev_iconst ?_
                            refine ev_ret rfl (by decide) (by decide) ?_
                            show jEv _ _ _ _ _ _ _ (_, [(2, 42), (0, a1), (0, 0), (0, (a1 + 4)), (0, 1), (0, (100 * v69310 + 10 * v69333 + v69360 - 5328)), (0, 3)], [(0, (-1))], _, _, _)
                            refine ev_pop (by decide) ?_
                            refine ev_iload_n rfl ?_
                            exact ev_ret rfl (by decide) (by decide) ⟨⟨_, rfl, by omega, by omega, g, k0⟩, fun r hr h0 => by cases hr; exact (Ad.step (r' := (a1 + 4)) (Ad.step (r' := (a1 + 3)) (Ad.step (r' := (a1 + 2)) (Ad.step (r' := (a1 + 1)) (Ad.rf _ _ _) (by omega) k0 (fun _ => rfl) (ev69217) (by omega) (by omega) (by omega)) (by omega) k0 (fun _ => rfl) (ev69310) (by omega) (by omega) (by omega)) (by omega) k0 (fun _ => rfl) (ev69333) (by omega) (by omega) (by omega)) (by omega) k0 (fun _ => rfl) (ev69360) (by omega) (by omega) (by omega))⟩
                          · refine ev_iload_n rfl ?_
                            refine ev_iload_n rfl ?_
                            refine ev_icmpgt f242_14 (fun c69389 => ?_) (fun c69389 => ?_)
                            · refine ev_iconst ?_
                              refine ev_ret rfl (by decide) (by decide) ?_
                              show jEv _ _ _ _ _ _ _ (_, [(2, 42), (0, (a1 + 4))], [(0, 0)], _, _, _)
                              refine ev_ret rfl (by decide) (by decide) ?_
                              show jEv _ _ _ _ _ _ _ (_, [(2, 42), (0, a1), (0, 0), (0, (a1 + 4)), (0, 1), (0, (100 * v69310 + 10 * v69333 + v69360 - 5328)), (0, 3)], [(0, 0)], _, _, _)
                              refine ev_ifeq f269_100 (fun c69390 => ?_) (fun c69390 => absurd c69390 (by omega))
                              refine ev_aload_n rfl ?_
                              refine ev_iload_n rfl ?_
                              refine ev_iconst ?_
                              refine ev_iload rfl ?_
                              refine ev_ifeq f269_114 (fun c69391 => absurd c69391 (by omega)) (fun c69391 => ?_)
                              refine ev_iload rfl ?_
                              refine ev_ineg (r := ((-100) * v69310 + (-10) * v69333 + (-v69360) + 5328)) (by unfold w32; omega) ?_
                              refine ev_goto f269_116 ?_
                              refine ev_in (d := 1) (a := 0) (b := 0) (cd' := c267_0) (m := 6) (L0 := [(2, 42), (0, 0), (0, 0), (0, ((-100) * v69310 + (-10) * v69333 + (-v69360) + 5328)), (9, 0), (9, 0)]) (jcall_v (A := [(0, ((-100) * v69310 + (-10) * v69333 + (-v69360) + 5328)), (0, 0), (0, 0)]) (S' := []) (r := 42) rfl (g.lt ad42) (g.tg ad42) (Nat.le_of_ble_eq_true rfl)) (by decide) ml267 pp267 (Nat.le_of_ble_eq_true rfl) rfl (by decide) (by decide) ?_
                              refine ev_iload_n rfl ?_
                              refine ev_ifne f267_6 (fun c69392 => absurd c69392 (by omega)) (fun c69392 => ?_)
                              refine ev_iconst ?_
                              refine ev_ret rfl (by decide) (by decide) ?_
                              show jEv _ _ _ _ _ _ _ (_, [(2, 42), (0, a1), (0, 0), (0, (a1 + 4)), (0, 1), (0, (100 * v69310 + 10 * v69333 + v69360 - 5328)), (0, 3)], [(0, (-1))], _, _, _)
                              refine ev_pop (by decide) ?_
                              refine ev_iload_n rfl ?_
                              exact ev_ret rfl (by decide) (by decide) ⟨⟨_, rfl, by omega, by omega, g, k0⟩, fun r hr h0 => by cases hr; exact (Ad.step (r' := (a1 + 4)) (Ad.step (r' := (a1 + 3)) (Ad.step (r' := (a1 + 2)) (Ad.step (r' := (a1 + 1)) (Ad.rf _ _ _) (by omega) k0 (fun _ => rfl) (ev69217) (by omega) (by omega) (by omega)) (by omega) k0 (fun _ => rfl) (ev69310) (by omega) (by omega) (by omega)) (by omega) k0 (fun _ => rfl) (ev69333) (by omega) (by omega) (by omega)) (by omega) k0 (fun _ => rfl) (ev69360) (by omega) (by omega) (by omega))⟩
                            · refine ev_iconst ?_
                              refine ev_goto f242_15 ?_
                              refine ev_ret rfl (by decide) (by decide) ?_
                              show jEv _ _ _ _ _ _ _ (_, [(2, 42), (0, (a1 + 4))], [(0, 1)], _, _, _)
                              refine ev_ret rfl (by decide) (by decide) ?_
                              show jEv _ _ _ _ _ _ _ (_, [(2, 42), (0, a1), (0, 0), (0, (a1 + 4)), (0, 1), (0, (100 * v69310 + 10 * v69333 + v69360 - 5328)), (0, 3)], [(0, 1)], _, _, _)
                              refine ev_ifeq f269_100 (fun c69393 => absurd c69393 (by omega)) (fun c69393 => ?_)
                              refine ev_aload_n rfl ?_
                              refine ev_iload_n rfl ?_
                              refine ev_in (d := 1) (a := 0) (b := 0) (cd' := c266_0) (m := 2) (L0 := [(2, 42), (0, (a1 + 4))]) (jcall_v (A := [(0, (a1 + 4))]) (S' := []) (r := 42) rfl (g.lt ad42) (g.tg ad42) (Nat.le_of_ble_eq_true rfl)) (by decide) ml266 pp266 (Nat.le_of_ble_eq_true rfl) rfl (by decide) (by decide) ?_
                              refine ev_aload_n rfl ?_
                              refine ev_iload_n rfl ?_
                              refine g_putf (r := 42) g ad42 (by decide) ft12_20 (by decide) (fun e => absurd e nz12_20) rf42_20 (by decide) (by omega) (by omega) (fun h69394 e69394 g69394 => ?_)
                              have k69394 := k0.wr e69394 rfl
                              refine ev_iconst ?_
                              refine ev_ret rfl (by decide) (by decide) ?_
                              show jEv _ _ _ _ _ _ _ (_, [(2, 42), (0, a1), (0, 0), (0, (a1 + 4)), (0, 1), (0, (100 * v69310 + 10 * v69333 + v69360 - 5328)), (0, 3)], [(0, (-1))], _, _, _)
                              exact ev_ret rfl (by decide) (by decide) ⟨⟨_, rfl, by omega, by omega, g69394, k69394⟩, fun r hr h0 => by cases hr; exfalso; omega⟩
set_option maxHeartbeats 4000000 in
theorem s270f_s_l {G : GH} {h : JH} {l0 : Int} (ll0 : 0 ≤ l0) (ul0 : l0 ≤ 6) {a1 : Int} (la1 : 0 ≤ a1) (ua1 : a1 ≤ 202) {a2 : Int} (la2 : 0 ≤ a2) (ua2 : a2 ≤ 15) {a3 : Int} (la3 : 0 ≤ a3) (ua3 : a3 ≤ 12) (hI : Iv h) (hL : Lv h l0 a1) (hq : h.2.2 54 (a1).toNat = 63) {M : Int} (hM : M = (7 * a3 - l0)) {d : Nat} (hd : 0 ≤ d) (rih : ∀ {G : GH} {h : JH} (g : Gd G h) {l0 : Int} (ll0 : 0 ≤ l0) (ul0 : l0 ≤ 6) {a1 : Int} (la1 : 0 ≤ a1) (ua1 : a1 ≤ 202) {a2 : Int} (la2 : 0 ≤ a2) (ua2 : a2 ≤ 15) {a3 : Int} (la3 : 0 ≤ a3) (ua3 : a3 ≤ 12) (hI : Iv h) (hL : Lv h l0 a1) (hm : M + 1 ≤ (7 * a3 - l0)), jOk d 0 0 272 [(2, 42), (0, a1), (0, a2), (0, a3), (0, 0)] h (fun v h' => PI G [(42, 21)] h 0 (-1) 200 v h' ∧ (∀ r, v = some (0, r) → 0 ≤ r → Ad h l0 a1 r))) : ∀ N : Nat, (∀ (h1 : JH) (x5 x7 : Int) (j8 j9 : AV), Gd G h1 → Kp [(42, 21)] h h1 → 0 ≤ a1 → a1 ≤ 198 → 0 ≤ a2 → a2 ≤ 15 → 0 ≤ a3 → a3 ≤ 11 → 1 ≤ x5 → x5 ≤ 200 → 0 ≤ x7 → x7 ≤ 3 → Ad h l0 a1 x5 → ((-x7) + 3) < N → jEv (jOk (d + 2)) none (fun _ => 0) c270_0 0 0 (fun v h' => PI G [(42, 21)] h 0 (-1) 200 v h' ∧ (∀ r, v = some (0, r) → 0 ≤ r → Ad h l0 a1 r)) (c270_45, [(2, 42), (0, a1), (0, a2), (0, a3), (0, 0), (0, x5), (0, (-1)), (0, x7), j8, j9], [], h1, 0, 0)) := by
  intro N
  induction N with
  | zero => exact fun h1 x5 x7 j8 j9 g1 k1 b0 b1 b2 b3 b4 b5 b6 b7 b8 b9 b10 hm => absurd hm (by omega)
  | succ N ih =>
    show _
    intro h1 x5 x7 j8 j9 g1 k1 b0 b1 b2 b3 b4 b5 b6 b7 b8 b9 H0 hm
    refine ev_iconst ?_
    refine ev_istore (L' := [(2, 42), (0, a1), (0, a2), (0, a3), (0, 0), (0, x5), (0, (-1)), (0, x7), (0, 0), j9]) (Nat.le_of_ble_eq_true rfl) rfl ?_
    refine ev_iconst ?_
    refine ev_istore (L' := [(2, 42), (0, a1), (0, a2), (0, a3), (0, 0), (0, x5), (0, (-1)), (0, x7), (0, 0), (0, 0)]) (Nat.le_of_ble_eq_true rfl) rfl ?_
    refine ev_iload rfl ?_
    refine ev_iconst ?_
    refine ev_icmpge f270_92 (fun c69824 => absurd c69824 (by omega)) (fun c69824 => ?_)
    refine ev_aload_n rfl ?_
    refine ev_iload rfl ?_
    refine ev_in (d := (d + 1)) (a := 0) (b := 0) (cd' := c265_0) (m := 2) (L0 := [(2, 42), (0, x5)]) (jcall_v (A := [(0, x5)]) (S' := []) (r := 42) rfl (g1.lt ad42) (g1.tg ad42) (Nat.le_of_ble_eq_true rfl)) (by decide) ml265 pp265 (Nat.le_of_ble_eq_true rfl) rfl (by decide) (by decide) ?_
    refine ev_aload_n rfl ?_
    refine ev_iload_n rfl ?_
    refine ev_in (d := (d + 0)) (a := 0) (b := 0) (cd' := c264_0) (m := 2) (L0 := [(2, 42), (0, x5)]) (jcall_v (A := [(0, x5)]) (S' := []) (r := 42) rfl (g1.lt ad42) (g1.tg ad42) (Nat.le_of_ble_eq_true rfl)) (by decide) ml264 pp264 (Nat.le_of_ble_eq_true rfl) rfl (by decide) (by decide) ?_
    refine ev_iload_n rfl ?_
    refine ev_aload_n rfl ?_
    obtain ⟨v69825, ev69825, lv69825, uv69825⟩ := g1.rd ad42 (show 17 < 66 by decide) rf42_17
    refine g_getv (r := 42) (v := v69825) g1 ad42 (by decide) ft12_17 ev69825 ?_
    refine ev_icmpge f264_17 (fun c69826 => ?_) (fun c69826 => ?_)
    · refine ev_iconst ?_
      refine ev_ret rfl (by decide) (by decide) ?_
      show jEv _ _ _ _ _ _ _ (_, [(2, 42), (0, x5)], [(0, (-1))], _, _, _)
      refine ev_bipush ?_
      refine ev_bipush ?_
      refine ev_in (d := (d + 0)) (a := 0) (b := 0) (cd' := c242_0) (m := 3) (L0 := [(0, (-1)), (0, 48), (0, 57)]) (jcall_s (A := [(0, 57), (0, 48), (0, (-1))]) (S' := []) (by decide) rfl (Nat.le_of_ble_eq_true rfl)) (by decide) ml242 pp242 (Nat.le_of_ble_eq_true rfl) rfl (by decide) (by decide) ?_
      refine ev_iload_n rfl ?_
      refine ev_iload_n rfl ?_
      refine ev_icmplt f242_14 (fun c69827 => ?_) (fun c69827 => absurd c69827 (by omega))
      refine ev_iconst ?_
      refine ev_ret rfl (by decide) (by decide) ?_
      show jEv _ _ _ _ _ _ _ (_, [(2, 42), (0, x5)], [(0, 0)], _, _, _)
      refine ev_ret rfl (by decide) (by decide) ?_
      show jEv _ _ _ _ _ _ _ (_, [(2, 42), (0, a1), (0, a2), (0, a3), (0, 0), (0, x5), (0, (-1)), (0, x7), (0, 0), (0, 0)], [(0, 0)], _, _, _)
      refine ev_ifeq f270_92 (fun c69828 => ?_) (fun c69828 => absurd c69828 (by omega))
      refine ev_iload rfl ?_
      refine ev_ifeq f270_108 (fun c69829 => ?_) (fun c69829 => absurd c69829 (by omega))
      refine ev_aload_n rfl ?_
      refine ev_iload rfl ?_
      refine ev_in (d := (d + 1)) (a := 0) (b := 0) (cd' := c266_0) (m := 2) (L0 := [(2, 42), (0, x5)]) (jcall_v (A := [(0, x5)]) (S' := []) (r := 42) rfl (g1.lt ad42) (g1.tg ad42) (Nat.le_of_ble_eq_true rfl)) (by decide) ml266 pp266 (Nat.le_of_ble_eq_true rfl) rfl (by decide) (by decide) ?_
      refine ev_aload_n rfl ?_
      refine ev_iload_n rfl ?_
      refine g_putf (r := 42) g1 ad42 (by decide) ft12_20 (by decide) (fun e => absurd e nz12_20) rf42_20 (by decide) (by omega) (by omega) (fun h69830 e69830 g69830 => ?_)
      have k69830 := k1.wr e69830 rfl
      refine ev_iconst ?_
      refine ev_ret rfl (by decide) (by decide) ?_
      show jEv _ _ _ _ _ _ _ (_, [(2, 42), (0, a1), (0, a2), (0, a3), (0, 0), (0, x5), (0, (-1)), (0, x7), (0, 0), (0, 0)], [(0, (-1))], _, _, _)
      exact ev_ret rfl (by decide) (by decide) ⟨⟨_, rfl, by omega, by omega, g69830, k69830⟩, fun r hr h0 => by cases hr; exfalso; omega⟩
    · refine ev_aload_n rfl ?_
      refine g_getp (r := 42) (c := 54) g1 ad42 (by decide) (by decide) rf42_16 ft12_16 ?_
      refine ev_iload_n rfl ?_
      refine g_bald g1 ad54 rt54 (by omega) (by omega) (fun v69831 ev69831 lv69831 uv69831 => ?_)
      refine ev_goto f264_18 ?_
      refine ev_ret rfl (by decide) (by decide) ?_
      show jEv _ _ _ _ _ _ _ (_, [(2, 42), (0, x5)], [(0, v69831)], _, _, _)
      refine ev_bipush ?_
      refine ev_bipush ?_
      refine ev_in (d := (d + 0)) (a := 0) (b := 0) (cd' := c242_0) (m := 3) (L0 := [(0, v69831), (0, 48), (0, 57)]) (jcall_s (A := [(0, 57), (0, 48), (0, v69831)]) (S' := []) (by decide) rfl (Nat.le_of_ble_eq_true rfl)) (by decide) ml242 pp242 (Nat.le_of_ble_eq_true rfl) rfl (by decide) (by decide) ?_
      refine ev_iload_n rfl ?_
      refine ev_iload_n rfl ?_
      refine ev_icmplt f242_14 (fun c69832 => ?_) (fun c69832 => ?_)
      · refine ev_iconst ?_
        refine ev_ret rfl (by decide) (by decide) ?_
        show jEv _ _ _ _ _ _ _ (_, [(2, 42), (0, x5)], [(0, 0)], _, _, _)
        refine ev_ret rfl (by decide) (by decide) ?_
        show jEv _ _ _ _ _ _ _ (_, [(2, 42), (0, a1), (0, a2), (0, a3), (0, 0), (0, x5), (0, (-1)), (0, x7), (0, 0), (0, 0)], [(0, 0)], _, _, _)
        refine ev_ifeq f270_92 (fun c69833 => ?_) (fun c69833 => absurd c69833 (by omega))
        refine ev_iload rfl ?_
        refine ev_ifeq f270_108 (fun c69834 => ?_) (fun c69834 => absurd c69834 (by omega))
        refine ev_aload_n rfl ?_
        refine ev_iload rfl ?_
        refine ev_in (d := (d + 1)) (a := 0) (b := 0) (cd' := c266_0) (m := 2) (L0 := [(2, 42), (0, x5)]) (jcall_v (A := [(0, x5)]) (S' := []) (r := 42) rfl (g1.lt ad42) (g1.tg ad42) (Nat.le_of_ble_eq_true rfl)) (by decide) ml266 pp266 (Nat.le_of_ble_eq_true rfl) rfl (by decide) (by decide) ?_
        refine ev_aload_n rfl ?_
        refine ev_iload_n rfl ?_
        refine g_putf (r := 42) g1 ad42 (by decide) ft12_20 (by decide) (fun e => absurd e nz12_20) rf42_20 (by decide) (by omega) (by omega) (fun h69835 e69835 g69835 => ?_)
        have k69835 := k1.wr e69835 rfl
        refine ev_iconst ?_
        refine ev_ret rfl (by decide) (by decide) ?_
        show jEv _ _ _ _ _ _ _ (_, [(2, 42), (0, a1), (0, a2), (0, a3), (0, 0), (0, x5), (0, (-1)), (0, x7), (0, 0), (0, 0)], [(0, (-1))], _, _, _)
        exact ev_ret rfl (by decide) (by decide) ⟨⟨_, rfl, by omega, by omega, g69835, k69835⟩, fun r hr h0 => by cases hr; exfalso; omega⟩
      · refine ev_iload_n rfl ?_
        refine ev_iload_n rfl ?_
        refine ev_icmpgt f242_14 (fun c69836 => ?_) (fun c69836 => ?_)
        · refine ev_iconst ?_
          refine ev_ret rfl (by decide) (by decide) ?_
          show jEv _ _ _ _ _ _ _ (_, [(2, 42), (0, x5)], [(0, 0)], _, _, _)
          refine ev_ret rfl (by decide) (by decide) ?_
          show jEv _ _ _ _ _ _ _ (_, [(2, 42), (0, a1), (0, a2), (0, a3), (0, 0), (0, x5), (0, (-1)), (0, x7), (0, 0), (0, 0)], [(0, 0)], _, _, _)
          refine ev_ifeq f270_92 (fun c69837 => ?_) (fun c69837 => absurd c69837 (by omega))
          refine ev_iload rfl ?_
          refine ev_ifeq f270_108 (fun c69838 => ?_) (fun c69838 => absurd c69838 (by omega))
          refine ev_aload_n rfl ?_
          refine ev_iload rfl ?_
          refine ev_in (d := (d + 1)) (a := 0) (b := 0) (cd' := c266_0) (m := 2) (L0 := [(2, 42), (0, x5)]) (jcall_v (A := [(0, x5)]) (S' := []) (r := 42) rfl (g1.lt ad42) (g1.tg ad42) (Nat.le_of_ble_eq_true rfl)) (by decide) ml266 pp266 (Nat.le_of_ble_eq_true rfl) rfl (by decide) (by decide) ?_
          refine ev_aload_n rfl ?_
          refine ev_iload_n rfl ?_
          refine g_putf (r := 42) g1 ad42 (by decide) ft12_20 (by decide) (fun e => absurd e nz12_20) rf42_20 (by decide) (by omega) (by omega) (fun h69839 e69839 g69839 => ?_)
          have k69839 := k1.wr e69839 rfl
          refine ev_iconst ?_
          refine ev_ret rfl (by decide) (by decide) ?_
          show jEv _ _ _ _ _ _ _ (_, [(2, 42), (0, a1), (0, a2), (0, a3), (0, 0), (0, x5), (0, (-1)), (0, x7), (0, 0), (0, 0)], [(0, (-1))], _, _, _)
          exact ev_ret rfl (by decide) (by decide) ⟨⟨_, rfl, by omega, by omega, g69839, k69839⟩, fun r hr h0 => by cases hr; exfalso; omega⟩
        · refine ev_iconst ?_
          refine ev_goto f242_15 ?_
          refine ev_ret rfl (by decide) (by decide) ?_
          show jEv _ _ _ _ _ _ _ (_, [(2, 42), (0, x5)], [(0, 1)], _, _, _)
          refine ev_ret rfl (by decide) (by decide) ?_
          show jEv _ _ _ _ _ _ _ (_, [(2, 42), (0, a1), (0, a2), (0, a3), (0, 0), (0, x5), (0, (-1)), (0, x7), (0, 0), (0, 0)], [(0, 1)], _, _, _)
          refine ev_ifeq f270_92 (fun c69840 => absurd c69840 (by omega)) (fun c69840 => ?_)
          refine ev_bipush ?_
          refine ev_iload rfl ?_
          refine ev_imul (r := 0) (by decide) ?_
          refine ev_aload_n rfl ?_
          refine ev_iload rfl ?_
          refine ev_in (d := (d + 1)) (a := 0) (b := 0) (cd' := c264_0) (m := 2) (L0 := [(2, 42), (0, x5)]) (jcall_v (A := [(0, x5)]) (S' := [(0, 0)]) (r := 42) rfl (g1.lt ad42) (g1.tg ad42) (Nat.le_of_ble_eq_true rfl)) (by decide) ml264 pp264 (Nat.le_of_ble_eq_true rfl) rfl (by decide) (by decide) ?_
          refine ev_iload_n rfl ?_
          refine ev_aload_n rfl ?_
          refine g_getv (r := 42) (v := v69825) g1 ad42 (by decide) ft12_17 (ev69825) ?_
          refine ev_icmpge f264_17 (fun c69841 => absurd c69841 (by omega)) (fun c69841 => ?_)
          refine ev_aload_n rfl ?_
          refine g_getp (r := 42) (c := 54) g1 ad42 (by decide) (by decide) rf42_16 ft12_16 ?_
          refine ev_iload_n rfl ?_
          refine g_baldv (v := v69831) g1 ad54 (by omega) (by omega) (ev69831) ?_
          refine ev_goto f264_18 ?_
          refine ev_ret rfl (by decide) (by decide) ?_
          show jEv _ _ _ _ _ _ _ (_, [(2, 42), (0, a1), (0, a2), (0, a3), (0, 0), (0, x5), (0, (-1)), (0, x7), (0, 0), (0, 0)], [(0, v69831), (0, 0)], _, _, _)
          refine ev_iadd (r := v69831) (by unfold w32; omega) ?_
          refine ev_bipush ?_
          refine ev_isub (r := (v69831 - 48)) (by unfold w32; omega) ?_
          refine ev_istore (L' := [(2, 42), (0, a1), (0, a2), (0, a3), (0, 0), (0, x5), (0, (-1)), (0, x7), (0, (v69831 - 48)), (0, 0)]) (Nat.le_of_ble_eq_true rfl) rfl ?_
          refine ev_iinc (w := 1) (L' := [(2, 42), (0, a1), (0, a2), (0, a3), (0, 0), (0, x5), (0, (-1)), (0, x7), (0, (v69831 - 48)), (0, 1)]) rfl (by decide) rfl ?_
          refine ev_iinc (w := (x5 + 1)) (L' := [(2, 42), (0, a1), (0, a2), (0, a3), (0, 0), (0, (x5 + 1)), (0, (-1)), (0, x7), (0, (v69831 - 48)), (0, 1)]) rfl (by unfold w32; omega) rfl ?_
          refine ev_goto f270_51 ?_
          refine ev_iload rfl ?_
          refine ev_iconst ?_
          refine ev_icmpge f270_92 (fun c69842 => absurd c69842 (by omega)) (fun c69842 => ?_)
          refine ev_aload_n rfl ?_
          refine ev_iload rfl ?_
          refine ev_in (d := (d + 1)) (a := 0) (b := 0) (cd' := c265_0) (m := 2) (L0 := [(2, 42), (0, (x5 + 1))]) (jcall_v (A := [(0, (x5 + 1))]) (S' := []) (r := 42) rfl (g1.lt ad42) (g1.tg ad42) (Nat.le_of_ble_eq_true rfl)) (by decide) ml265 pp265 (Nat.le_of_ble_eq_true rfl) rfl (by decide) (by decide) ?_
          refine ev_aload_n rfl ?_
          refine ev_iload_n rfl ?_
          refine ev_in (d := (d + 0)) (a := 0) (b := 0) (cd' := c264_0) (m := 2) (L0 := [(2, 42), (0, (x5 + 1))]) (jcall_v (A := [(0, (x5 + 1))]) (S' := []) (r := 42) rfl (g1.lt ad42) (g1.tg ad42) (Nat.le_of_ble_eq_true rfl)) (by decide) ml264 pp264 (Nat.le_of_ble_eq_true rfl) rfl (by decide) (by decide) ?_
          refine ev_iload_n rfl ?_
          refine ev_aload_n rfl ?_
          refine g_getv (r := 42) (v := v69825) g1 ad42 (by decide) ft12_17 (ev69825) ?_
          refine ev_icmpge f264_17 (fun c69843 => ?_) (fun c69843 => ?_)
          · refine ev_iconst ?_
            refine ev_ret rfl (by decide) (by decide) ?_
            show jEv _ _ _ _ _ _ _ (_, [(2, 42), (0, (x5 + 1))], [(0, (-1))], _, _, _)
            refine ev_bipush ?_
            refine ev_bipush ?_
            refine ev_in (d := (d + 0)) (a := 0) (b := 0) (cd' := c242_0) (m := 3) (L0 := [(0, (-1)), (0, 48), (0, 57)]) (jcall_s (A := [(0, 57), (0, 48), (0, (-1))]) (S' := []) (by decide) rfl (Nat.le_of_ble_eq_true rfl)) (by decide) ml242 pp242 (Nat.le_of_ble_eq_true rfl) rfl (by decide) (by decide) ?_
            refine ev_iload_n rfl ?_
            refine ev_iload_n rfl ?_
            refine ev_icmplt f242_14 (fun c69844 => ?_) (fun c69844 => absurd c69844 (by omega))
            refine ev_iconst ?_
            refine ev_ret rfl (by decide) (by decide) ?_
            show jEv _ _ _ _ _ _ _ (_, [(2, 42), (0, (x5 + 1))], [(0, 0)], _, _, _)
            refine ev_ret rfl (by decide) (by decide) ?_
            show jEv _ _ _ _ _ _ _ (_, [(2, 42), (0, a1), (0, a2), (0, a3), (0, 0), (0, (x5 + 1)), (0, (-1)), (0, x7), (0, (v69831 - 48)), (0, 1)], [(0, 0)], _, _, _)
            refine ev_ifeq f270_92 (fun c69845 => ?_) (fun c69845 => absurd c69845 (by omega))
            refine ev_iload rfl ?_
            refine ev_ifeq f270_108 (fun c69846 => absurd c69846 (by omega)) (fun c69846 => ?_)
            refine ev_aload_n rfl ?_
            refine ev_iload rfl ?_
            refine ev_in (d := (d + 1)) (a := 0) (b := 0) (cd' := c264_0) (m := 2) (L0 := [(2, 42), (0, (x5 + 1))]) (jcall_v (A := [(0, (x5 + 1))]) (S' := []) (r := 42) rfl (g1.lt ad42) (g1.tg ad42) (Nat.le_of_ble_eq_true rfl)) (by decide) ml264 pp264 (Nat.le_of_ble_eq_true rfl) rfl (by decide) (by decide) ?_
            refine ev_iload_n rfl ?_
            refine ev_aload_n rfl ?_
            refine g_getv (r := 42) (v := v69825) g1 ad42 (by decide) ft12_17 (ev69825) ?_
            refine ev_icmpge f264_17 (fun c69847 => ?_) (fun c69847 => absurd c69847 (by omega))
            refine ev_iconst ?_
            refine ev_ret rfl (by decide) (by decide) ?_
            show jEv _ _ _ _ _ _ _ (_, [(2, 42), (0, a1), (0, a2), (0, a3), (0, 0), (0, (x5 + 1)), (0, (-1)), (0, x7), (0, (v69831 - 48)), (0, 1)], [(0, (-1))], _, _, _)
            refine ev_bipush ?_
            refine ev_icmpeq f270_115 (fun c69848 => absurd c69848 (by omega)) (fun c69848 => ?_)
            refine ev_aload_n rfl ?_
            refine ev_iload rfl ?_
            refine ev_in (d := (d + 1)) (a := 0) (b := 0) (cd' := c266_0) (m := 2) (L0 := [(2, 42), (0, (x5 + 1))]) (jcall_v (A := [(0, (x5 + 1))]) (S' := []) (r := 42) rfl (g1.lt ad42) (g1.tg ad42) (Nat.le_of_ble_eq_true rfl)) (by decide) ml266 pp266 (Nat.le_of_ble_eq_true rfl) rfl (by decide) (by decide) ?_
            refine ev_aload_n rfl ?_
            refine ev_iload_n rfl ?_
            refine g_putf (r := 42) g1 ad42 (by decide) ft12_20 (by decide) (fun e => absurd e nz12_20) rf42_20 (by decide) (by omega) (by omega) (fun h69849 e69849 g69849 => ?_)
            have k69849 := k1.wr e69849 rfl
            refine ev_iconst ?_
            refine ev_ret rfl (by decide) (by decide) ?_
            show jEv _ _ _ _ _ _ _ (_, [(2, 42), (0, a1), (0, a2), (0, a3), (0, 0), (0, (x5 + 1)), (0, (-1)), (0, x7), (0, (v69831 - 48)), (0, 1)], [(0, (-1))], _, _, _)
            exact ev_ret rfl (by decide) (by decide) ⟨⟨_, rfl, by omega, by omega, g69849, k69849⟩, fun r hr h0 => by cases hr; exfalso; omega⟩
          · refine ev_aload_n rfl ?_
            refine g_getp (r := 42) (c := 54) g1 ad42 (by decide) (by decide) rf42_16 ft12_16 ?_
            refine ev_iload_n rfl ?_
            refine g_bald g1 ad54 rt54 (by omega) (by omega) (fun v69850 ev69850 lv69850 uv69850 => ?_)
            refine ev_goto f264_18 ?_
            refine ev_ret rfl (by decide) (by decide) ?_
            show jEv _ _ _ _ _ _ _ (_, [(2, 42), (0, (x5 + 1))], [(0, v69850)], _, _, _)
            refine ev_bipush ?_
            refine ev_bipush ?_
            refine ev_in (d := (d + 0)) (a := 0) (b := 0) (cd' := c242_0) (m := 3) (L0 := [(0, v69850), (0, 48), (0, 57)]) (jcall_s (A := [(0, 57), (0, 48), (0, v69850)]) (S' := []) (by decide) rfl (Nat.le_of_ble_eq_true rfl)) (by decide) ml242 pp242 (Nat.le_of_ble_eq_true rfl) rfl (by decide) (by decide) ?_
            refine ev_iload_n rfl ?_
            refine ev_iload_n rfl ?_
            refine ev_icmplt f242_14 (fun c69851 => ?_) (fun c69851 => ?_)
            · refine ev_iconst ?_
              refine ev_ret rfl (by decide) (by decide) ?_
              show jEv _ _ _ _ _ _ _ (_, [(2, 42), (0, (x5 + 1))], [(0, 0)], _, _, _)
              refine ev_ret rfl (by decide) (by decide) ?_
              show jEv _ _ _ _ _ _ _ (_, [(2, 42), (0, a1), (0, a2), (0, a3), (0, 0), (0, (x5 + 1)), (0, (-1)), (0, x7), (0, (v69831 - 48)), (0, 1)], [(0, 0)], _, _, _)
              refine ev_ifeq f270_92 (fun c69852 => ?_) (fun c69852 => absurd c69852 (by omega))
              refine ev_iload rfl ?_
              refine ev_ifeq f270_108 (fun c69853 => absurd c69853 (by omega)) (fun c69853 => ?_)
              refine ev_aload_n rfl ?_
              refine ev_iload rfl ?_
              refine ev_in (d := (d + 1)) (a := 0) (b := 0) (cd' := c264_0) (m := 2) (L0 := [(2, 42), (0, (x5 + 1))]) (jcall_v (A := [(0, (x5 + 1))]) (S' := []) (r := 42) rfl (g1.lt ad42) (g1.tg ad42) (Nat.le_of_ble_eq_true rfl)) (by decide) ml264 pp264 (Nat.le_of_ble_eq_true rfl) rfl (by decide) (by decide) ?_
              refine ev_iload_n rfl ?_
              refine ev_aload_n rfl ?_
              refine g_getv (r := 42) (v := v69825) g1 ad42 (by decide) ft12_17 (ev69825) ?_
              refine ev_icmpge f264_17 (fun c69854 => absurd c69854 (by omega)) (fun c69854 => ?_)
              refine ev_aload_n rfl ?_
              refine g_getp (r := 42) (c := 54) g1 ad42 (by decide) (by decide) rf42_16 ft12_16 ?_
              refine ev_iload_n rfl ?_
              refine g_baldv (v := v69850) g1 ad54 (by omega) (by omega) (ev69850) ?_
              refine ev_goto f264_18 ?_
              refine ev_ret rfl (by decide) (by decide) ?_
              show jEv _ _ _ _ _ _ _ (_, [(2, 42), (0, a1), (0, a2), (0, a3), (0, 0), (0, (x5 + 1)), (0, (-1)), (0, x7), (0, (v69831 - 48)), (0, 1)], [(0, v69850)], _, _, _)
              refine ev_bipush ?_
              refine ev_icmpeq f270_115 (fun c69855 => absurd c69855 (by omega)) (fun c69855 => ?_)
              refine ev_aload_n rfl ?_
              refine ev_iload rfl ?_
              refine ev_in (d := (d + 1)) (a := 0) (b := 0) (cd' := c266_0) (m := 2) (L0 := [(2, 42), (0, (x5 + 1))]) (jcall_v (A := [(0, (x5 + 1))]) (S' := []) (r := 42) rfl (g1.lt ad42) (g1.tg ad42) (Nat.le_of_ble_eq_true rfl)) (by decide) ml266 pp266 (Nat.le_of_ble_eq_true rfl) rfl (by decide) (by decide) ?_
              refine ev_aload_n rfl ?_
              refine ev_iload_n rfl ?_
              refine g_putf (r := 42) g1 ad42 (by decide) ft12_20 (by decide) (fun e => absurd e nz12_20) rf42_20 (by decide) (by omega) (by omega) (fun h69856 e69856 g69856 => ?_)
              have k69856 := k1.wr e69856 rfl
              refine ev_iconst ?_
              refine ev_ret rfl (by decide) (by decide) ?_
              show jEv _ _ _ _ _ _ _ (_, [(2, 42), (0, a1), (0, a2), (0, a3), (0, 0), (0, (x5 + 1)), (0, (-1)), (0, x7), (0, (v69831 - 48)), (0, 1)], [(0, (-1))], _, _, _)
              exact ev_ret rfl (by decide) (by decide) ⟨⟨_, rfl, by omega, by omega, g69856, k69856⟩, fun r hr h0 => by cases hr; exfalso; omega⟩
            · refine ev_iload_n rfl ?_
              refine ev_iload_n rfl ?_
              refine ev_icmpgt f242_14 (fun c69857 => ?_) (fun c69857 => ?_)
              · refine ev_iconst ?_
                refine ev_ret rfl (by decide) (by decide) ?_
                show jEv _ _ _ _ _ _ _ (_, [(2, 42), (0, (x5 + 1))], [(0, 0)], _, _, _)
                refine ev_ret rfl (by decide) (by decide) ?_
                show jEv _ _ _ _ _ _ _ (_, [(2, 42), (0, a1), (0, a2), (0, a3), (0, 0), (0, (x5 + 1)), (0, (-1)), (0, x7), (0, (v69831 - 48)), (0, 1)], [(0, 0)], _, _, _)
                refine ev_ifeq f270_92 (fun c69858 => ?_) (fun c69858 => absurd c69858 (by omega))
                refine ev_iload rfl ?_
                refine ev_ifeq f270_108 (fun c69859 => absurd c69859 (by omega)) (fun c69859 => ?_)
                refine ev_aload_n rfl ?_
                refine ev_iload rfl ?_
                refine ev_in (d := (d + 1)) (a := 0) (b := 0) (cd' := c264_0) (m := 2) (L0 := [(2, 42), (0, (x5 + 1))]) (jcall_v (A := [(0, (x5 + 1))]) (S' := []) (r := 42) rfl (g1.lt ad42) (g1.tg ad42) (Nat.le_of_ble_eq_true rfl)) (by decide) ml264 pp264 (Nat.le_of_ble_eq_true rfl) rfl (by decide) (by decide) ?_
                refine ev_iload_n rfl ?_
                refine ev_aload_n rfl ?_
                refine g_getv (r := 42) (v := v69825) g1 ad42 (by decide) ft12_17 (ev69825) ?_
                refine ev_icmpge f264_17 (fun c69860 => absurd c69860 (by omega)) (fun c69860 => ?_)
                refine ev_aload_n rfl ?_
                refine g_getp (r := 42) (c := 54) g1 ad42 (by decide) (by decide) rf42_16 ft12_16 ?_
                refine ev_iload_n rfl ?_
                refine g_baldv (v := v69850) g1 ad54 (by omega) (by omega) (ev69850) ?_
                refine ev_goto f264_18 ?_
                refine ev_ret rfl (by decide) (by decide) ?_
                show jEv _ _ _ _ _ _ _ (_, [(2, 42), (0, a1), (0, a2), (0, a3), (0, 0), (0, (x5 + 1)), (0, (-1)), (0, x7), (0, (v69831 - 48)), (0, 1)], [(0, v69850)], _, _, _)
                refine ev_bipush ?_
                refine ev_icmpeq f270_115 (fun c69861 => ?_) (fun c69861 => ?_)
                · refine ev_aload_n rfl ?_
                  refine ev_iload rfl ?_
                  refine ev_iload rfl ?_
                  refine ev_iload rfl ?_
                  refine ev_in (d := (d + 1)) (a := 0) (b := 0) (cd' := c268_0) (m := 4) (L0 := [(2, 42), (0, (-1)), (0, x7), (0, (v69831 - 48))]) (jcall_v (A := [(0, (v69831 - 48)), (0, x7), (0, (-1))]) (S' := []) (r := 42) rfl (g1.lt ad42) (g1.tg ad42) (Nat.le_of_ble_eq_true rfl)) (by decide) ml268 pp268 (Nat.le_of_ble_eq_true rfl) rfl (by decide) (by decide) ?_
                  refine ev_iload_n rfl ?_
                  refine ev_ifge f268_5 (fun c69862 => absurd c69862 (by omega)) (fun c69862 => ?_)
                  refine ev_ret rfl (by decide) (by decide) ?_
                  show jEv _ _ _ _ _ _ _ (_, [(2, 42), (0, a1), (0, a2), (0, a3), (0, 0), (0, (x5 + 1)), (0, (-1)), (0, x7), (0, (v69831 - 48)), (0, 1)], [], _, _, _)
                  refine ev_aload_n rfl ?_
                  refine ev_iload rfl ?_
                  refine ev_iconst ?_
                  refine ev_iadd (r := (x5 + 2)) (by unfold w32; omega) ?_
                  refine ev_iload_n rfl ?_
                  refine ev_iload_n rfl ?_
                  refine ev_iconst ?_
                  refine ev_iadd (r := (a3 + 1)) (by unfold w32; omega) ?_
                  refine ev_iload rfl ?_
                  refine ev_call (jcall_v (A := [(0, 0), (0, (a3 + 1)), (0, a2), (0, (x5 + 2))]) (S' := []) (r := 42) rfl (g1.lt ad42) (g1.tg ad42) (Nat.le_of_ble_eq_true rfl)) (jOk_le (by omega) (rih g1 (by omega) (by omega) (by omega) (by omega) (by omega) (by omega) (by omega) (by omega) (l0 := l0) (Iv.kp hI k1 (fun _ => rfl) (fun _ => rfl) rfl) (Lv.at hL (Ad.step (r' := (x5 + 2)) (Ad.step (r' := (x5 + 1)) H0 (by omega) k1 (fun _ => rfl) (ev69831) (by omega) (by omega) (by omega)) (by omega) k1 (fun _ => rfl) (ev69850) (by omega) (by omega) (by omega)) k1 (fun _ => rfl) rfl) (by omega))) (by decide) (by decide) (fun w69863 h69863 q69863 => ?_)
                  obtain ⟨q69863, ad69863⟩ := q69863
                  obtain ⟨v69864, rfl, lv69864, uv69864, g69863, kk69863⟩ := q69863
                  have ad69863 := ad69863 _ rfl
                  have k69863 := k1.tr kk69863 (by decide)
                  show jEv _ _ _ _ _ _ _ (_, [(2, 42), (0, a1), (0, a2), (0, a3), (0, 0), (0, (x5 + 1)), (0, (-1)), (0, x7), (0, (v69831 - 48)), (0, 1)], [(0, v69864)], _, _, _)
                  refine ev_istore (L' := [(2, 42), (0, a1), (0, a2), (0, a3), (0, 0), (0, v69864), (0, (-1)), (0, x7), (0, (v69831 - 48)), (0, 1)]) (Nat.le_of_ble_eq_true rfl) rfl ?_
                  refine ev_iload rfl ?_
                  refine ev_ifge f270_148 (fun c69865 => ?_) (fun c69865 => ?_)
                  · refine ev_iinc (w := (x7 + 1)) (L' := [(2, 42), (0, a1), (0, a2), (0, a3), (0, 0), (0, v69864), (0, (-1)), (0, (x7 + 1)), (0, (v69831 - 48)), (0, 1)]) rfl (by unfold w32; omega) rfl ?_
                    refine ev_aload_n rfl ?_
                    refine ev_iload rfl ?_
                    refine ev_in (d := (d + 1)) (a := 0) (b := 0) (cd' := c264_0) (m := 2) (L0 := [(2, 42), (0, v69864)]) (jcall_v (A := [(0, v69864)]) (S' := []) (r := 42) rfl (g69863.lt ad42) (g69863.tg ad42) (Nat.le_of_ble_eq_true rfl)) (by decide) ml264 pp264 (Nat.le_of_ble_eq_true rfl) rfl (by decide) (by decide) ?_
                    refine ev_iload_n rfl ?_
                    refine ev_aload_n rfl ?_
                    refine g_getv (r := 42) (v := v69825) g69863 ad42 (by decide) ft12_17 (((kk69863.v (by decide)).trans ev69825)) ?_
                    refine ev_icmpge f264_17 (fun c69866 => ?_) (fun c69866 => ?_)
                    · refine ev_iconst ?_
                      refine ev_ret rfl (by decide) (by decide) ?_
                      show jEv _ _ _ _ _ _ _ (_, [(2, 42), (0, a1), (0, a2), (0, a3), (0, 0), (0, v69864), (0, (-1)), (0, (x7 + 1)), (0, (v69831 - 48)), (0, 1)], [(0, (-1))], _, _, _)
                      refine ev_bipush ?_
                      refine ev_icmpne f270_165 (fun c69867 => ?_) (fun c69867 => absurd c69867 (by omega))
                      refine ev_aload_n rfl ?_
                      refine ev_iload rfl ?_
                      refine ev_in (d := (d + 1)) (a := 0) (b := 0) (cd' := c264_0) (m := 2) (L0 := [(2, 42), (0, v69864)]) (jcall_v (A := [(0, v69864)]) (S' := []) (r := 42) rfl (g69863.lt ad42) (g69863.tg ad42) (Nat.le_of_ble_eq_true rfl)) (by decide) ml264 pp264 (Nat.le_of_ble_eq_true rfl) rfl (by decide) (by decide) ?_
                      refine ev_iload_n rfl ?_
                      refine ev_aload_n rfl ?_
                      refine g_getv (r := 42) (v := v69825) g69863 ad42 (by decide) ft12_17 (((kk69863.v (by decide)).trans ev69825)) ?_
                      refine ev_icmpge f264_17 (fun c69868 => ?_) (fun c69868 => absurd c69868 (by omega))
                      refine ev_iconst ?_
                      refine ev_ret rfl (by decide) (by decide) ?_
                      show jEv _ _ _ _ _ _ _ (_, [(2, 42), (0, a1), (0, a2), (0, a3), (0, 0), (0, v69864), (0, (-1)), (0, (x7 + 1)), (0, (v69831 - 48)), (0, 1)], [(0, (-1))], _, _, _)
                      refine ev_bipush ?_
                      refine ev_icmpne f270_182 (fun c69869 => ?_) (fun c69869 => absurd c69869 (by omega))
                      refine ev_aload_n rfl ?_
                      refine ev_iload rfl ?_
                      refine ev_in (d := (d + 1)) (a := 0) (b := 0) (cd' := c266_0) (m := 2) (L0 := [(2, 42), (0, v69864)]) (jcall_v (A := [(0, v69864)]) (S' := []) (r := 42) rfl (g69863.lt ad42) (g69863.tg ad42) (Nat.le_of_ble_eq_true rfl)) (by decide) ml266 pp266 (Nat.le_of_ble_eq_true rfl) rfl (by decide) (by decide) ?_
                      refine ev_aload_n rfl ?_
                      refine ev_iload_n rfl ?_
                      refine g_putf (r := 42) g69863 ad42 (by decide) ft12_20 (by decide) (fun e => absurd e nz12_20) rf42_20 (by decide) (by omega) (by omega) (fun h69870 e69870 g69870 => ?_)
                      have k69870 := k69863.wr e69870 rfl
                      refine ev_iconst ?_
                      refine ev_ret rfl (by decide) (by decide) ?_
                      show jEv _ _ _ _ _ _ _ (_, [(2, 42), (0, a1), (0, a2), (0, a3), (0, 0), (0, v69864), (0, (-1)), (0, (x7 + 1)), (0, (v69831 - 48)), (0, 1)], [(0, (-1))], _, _, _)
                      exact ev_ret rfl (by decide) (by decide) ⟨⟨_, rfl, by omega, by omega, g69870, k69870⟩, fun r hr h0 => by cases hr; exfalso; omega⟩
                    · refine ev_aload_n rfl ?_
                      refine g_getp (r := 42) (c := 54) g69863 ad42 (by decide) (by decide) rf42_16 ft12_16 ?_
                      refine ev_iload_n rfl ?_
                      refine g_bald g69863 ad54 rt54 (by omega) (by omega) (fun v69871 ev69871 lv69871 uv69871 => ?_)
                      refine ev_goto f264_18 ?_
                      refine ev_ret rfl (by decide) (by decide) ?_
                      show jEv _ _ _ _ _ _ _ (_, [(2, 42), (0, a1), (0, a2), (0, a3), (0, 0), (0, v69864), (0, (-1)), (0, (x7 + 1)), (0, (v69831 - 48)), (0, 1)], [(0, v69871)], _, _, _)
                      refine ev_bipush ?_
                      refine ev_icmpne f270_165 (fun c69872 => ?_) (fun c69872 => ?_)
                      · refine ev_aload_n rfl ?_
                        refine ev_iload rfl ?_
                        refine ev_in (d := (d + 1)) (a := 0) (b := 0) (cd' := c264_0) (m := 2) (L0 := [(2, 42), (0, v69864)]) (jcall_v (A := [(0, v69864)]) (S' := []) (r := 42) rfl (g69863.lt ad42) (g69863.tg ad42) (Nat.le_of_ble_eq_true rfl)) (by decide) ml264 pp264 (Nat.le_of_ble_eq_true rfl) rfl (by decide) (by decide) ?_
                        refine ev_iload_n rfl ?_
                        refine ev_aload_n rfl ?_
                        refine g_getv (r := 42) (v := v69825) g69863 ad42 (by decide) ft12_17 (((kk69863.v (by decide)).trans ev69825)) ?_
                        refine ev_icmpge f264_17 (fun c69873 => absurd c69873 (by omega)) (fun c69873 => ?_)
                        refine ev_aload_n rfl ?_
                        refine g_getp (r := 42) (c := 54) g69863 ad42 (by decide) (by decide) rf42_16 ft12_16 ?_
                        refine ev_iload_n rfl ?_
                        refine g_baldv (v := v69871) g69863 ad54 (by omega) (by omega) (ev69871) ?_
                        refine ev_goto f264_18 ?_
                        refine ev_ret rfl (by decide) (by decide) ?_
                        show jEv _ _ _ _ _ _ _ (_, [(2, 42), (0, a1), (0, a2), (0, a3), (0, 0), (0, v69864), (0, (-1)), (0, (x7 + 1)), (0, (v69831 - 48)), (0, 1)], [(0, v69871)], _, _, _)
                        refine ev_bipush ?_
                        refine ev_icmpne f270_182 (fun c69874 => ?_) (fun c69874 => ?_)
                        · refine ev_aload_n rfl ?_
                          refine ev_iload rfl ?_
                          refine ev_in (d := (d + 1)) (a := 0) (b := 0) (cd' := c266_0) (m := 2) (L0 := [(2, 42), (0, v69864)]) (jcall_v (A := [(0, v69864)]) (S' := []) (r := 42) rfl (g69863.lt ad42) (g69863.tg ad42) (Nat.le_of_ble_eq_true rfl)) (by decide) ml266 pp266 (Nat.le_of_ble_eq_true rfl) rfl (by decide) (by decide) ?_
                          refine ev_aload_n rfl ?_
                          refine ev_iload_n rfl ?_
                          refine g_putf (r := 42) g69863 ad42 (by decide) ft12_20 (by decide) (fun e => absurd e nz12_20) rf42_20 (by decide) (by omega) (by omega) (fun h69875 e69875 g69875 => ?_)
                          have k69875 := k69863.wr e69875 rfl
                          refine ev_iconst ?_
                          refine ev_ret rfl (by decide) (by decide) ?_
                          show jEv _ _ _ _ _ _ _ (_, [(2, 42), (0, a1), (0, a2), (0, a3), (0, 0), (0, v69864), (0, (-1)), (0, (x7 + 1)), (0, (v69831 - 48)), (0, 1)], [(0, (-1))], _, _, _)
                          exact ev_ret rfl (by decide) (by decide) ⟨⟨_, rfl, by omega, by omega, g69875, k69875⟩, fun r hr h0 => by cases hr; exfalso; omega⟩
                        · refine ev_iload rfl ?_
                          refine ev_iconst ?_
                          refine ev_icmpne f270_189 (fun c69876 => ?_) (fun c69876 => ?_)
                          · refine ev_iinc (w := (v69864 + 1)) (L' := [(2, 42), (0, a1), (0, a2), (0, a3), (0, 0), (0, (v69864 + 1)), (0, (-1)), (0, (x7 + 1)), (0, (v69831 - 48)), (0, 1)]) rfl (by unfold w32; omega) rfl ?_
                            refine ev_goto f270_45 ?_
                            exact ih _ _ _ _ _ g69863 k69863 (by omega) (by omega) (by omega) (by omega) (by omega) (by omega) (by omega) (by omega) (by omega) (by omega) (Ad.step (r' := (v69864 + 1)) (Ad.tr (Ad.step (r' := (x5 + 2)) (Ad.step (r' := (x5 + 1)) H0 (by omega) k1 (fun _ => rfl) (ev69831) (by omega) (by omega) (by omega)) (by omega) k1 (fun _ => rfl) (ev69850) (by omega) (by omega) (by omega)) k1 (fun _ => rfl) (ad69863 (by omega))) (by omega) k69863 (fun _ => rfl) (ev69871) (by omega) (by omega) (by omega)) (by omega)
                          · refine ev_aload_n rfl ?_
                            refine ev_iload rfl ?_
                            refine ev_in (d := (d + 1)) (a := 0) (b := 0) (cd' := c266_0) (m := 2) (L0 := [(2, 42), (0, v69864)]) (jcall_v (A := [(0, v69864)]) (S' := []) (r := 42) rfl (g69863.lt ad42) (g69863.tg ad42) (Nat.le_of_ble_eq_true rfl)) (by decide) ml266 pp266 (Nat.le_of_ble_eq_true rfl) rfl (by decide) (by decide) ?_
                            refine ev_aload_n rfl ?_
                            refine ev_iload_n rfl ?_
                            refine g_putf (r := 42) g69863 ad42 (by decide) ft12_20 (by decide) (fun e => absurd e nz12_20) rf42_20 (by decide) (by omega) (by omega) (fun h69877 e69877 g69877 => ?_)
                            have k69877 := k69863.wr e69877 rfl
                            refine ev_iconst ?_
                            refine ev_ret rfl (by decide) (by decide) ?_
                            show jEv _ _ _ _ _ _ _ (_, [(2, 42), (0, a1), (0, a2), (0, a3), (0, 0), (0, v69864), (0, (-1)), (0, (x7 + 1)), (0, (v69831 - 48)), (0, 1)], [(0, (-1))], _, _, _)
                            exact ev_ret rfl (by decide) (by decide) ⟨⟨_, rfl, by omega, by omega, g69877, k69877⟩, fun r hr h0 => by cases hr; exfalso; omega⟩
                      · refine ev_goto f270_195 ?_
                        refine ev_iload rfl ?_
                        refine ev_iflt f270_209 (fun c69878 => ?_) (fun c69878 => absurd c69878 (by omega))
                        refine ev_iload rfl ?_
                        refine ev_iconst ?_
                        refine ev_iadd (r := (v69864 + 1)) (by unfold w32; omega) ?_
                        exact ev_ret rfl (by decide) (by decide) ⟨⟨_, rfl, by omega, by omega, g69863, k69863⟩, fun r hr h0 => by cases hr; exact (Ad.step (r' := (v69864 + 1)) (Ad.tr (Ad.step (r' := (x5 + 2)) (Ad.step (r' := (x5 + 1)) H0 (by omega) k1 (fun _ => rfl) (ev69831) (by omega) (by omega) (by omega)) (by omega) k1 (fun _ => rfl) (ev69850) (by omega) (by omega) (by omega)) k1 (fun _ => rfl) (ad69863 (by omega))) (by omega) k69863 (fun _ => rfl) (ev69871) (by omega) (by omega) (by omega))⟩
                  · refine ev_iconst ?_
                    exact ev_ret rfl (by decide) (by decide) ⟨⟨_, rfl, by omega, by omega, g69863, k69863⟩, fun r hr h0 => by cases hr; exfalso; omega⟩
                · refine ev_aload_n rfl ?_
                  refine ev_iload rfl ?_
                  refine ev_in (d := (d + 1)) (a := 0) (b := 0) (cd' := c266_0) (m := 2) (L0 := [(2, 42), (0, (x5 + 1))]) (jcall_v (A := [(0, (x5 + 1))]) (S' := []) (r := 42) rfl (g1.lt ad42) (g1.tg ad42) (Nat.le_of_ble_eq_true rfl)) (by decide) ml266 pp266 (Nat.le_of_ble_eq_true rfl) rfl (by decide) (by decide) ?_
                  refine ev_aload_n rfl ?_
                  refine ev_iload_n rfl ?_
                  refine g_putf (r := 42) g1 ad42 (by decide) ft12_20 (by decide) (fun e => absurd e nz12_20) rf42_20 (by decide) (by omega) (by omega) (fun h69879 e69879 g69879 => ?_)
                  have k69879 := k1.wr e69879 rfl
                  refine ev_iconst ?_
                  refine ev_ret rfl (by decide) (by decide) ?_
                  show jEv _ _ _ _ _ _ _ (_, [(2, 42), (0, a1), (0, a2), (0, a3), (0, 0), (0, (x5 + 1)), (0, (-1)), (0, x7), (0, (v69831 - 48)), (0, 1)], [(0, (-1))], _, _, _)
                  exact ev_ret rfl (by decide) (by decide) ⟨⟨_, rfl, by omega, by omega, g69879, k69879⟩, fun r hr h0 => by cases hr; exfalso; omega⟩
              · refine ev_iconst ?_
                refine ev_goto f242_15 ?_
                refine ev_ret rfl (by decide) (by decide) ?_
                show jEv _ _ _ _ _ _ _ (_, [(2, 42), (0, (x5 + 1))], [(0, 1)], _, _, _)
                refine ev_ret rfl (by decide) (by decide) ?_
                show jEv _ _ _ _ _ _ _ (_, [(2, 42), (0, a1), (0, a2), (0, a3), (0, 0), (0, (x5 + 1)), (0, (-1)), (0, x7), (0, (v69831 - 48)), (0, 1)], [(0, 1)], _, _, _)
                refine ev_ifeq f270_92 (fun c69880 => absurd c69880 (by omega)) (fun c69880 => ?_)
                refine ev_bipush ?_
                refine ev_iload rfl ?_
                refine ev_imul (r := (10 * v69831 - 480)) (by unfold w32; omega) ?_
                refine ev_aload_n rfl ?_
                refine ev_iload rfl ?_
                refine ev_in (d := (d + 1)) (a := 0) (b := 0) (cd' := c264_0) (m := 2) (L0 := [(2, 42), (0, (x5 + 1))]) (jcall_v (A := [(0, (x5 + 1))]) (S' := [(0, (10 * v69831 - 480))]) (r := 42) rfl (g1.lt ad42) (g1.tg ad42) (Nat.le_of_ble_eq_true rfl)) (by decide) ml264 pp264 (Nat.le_of_ble_eq_true rfl) rfl (by decide) (by decide) ?_
                refine ev_iload_n rfl ?_
                refine ev_aload_n rfl ?_
                refine g_getv (r := 42) (v := v69825) g1 ad42 (by decide) ft12_17 (ev69825) ?_
                refine ev_icmpge f264_17 (fun c69881 => absurd c69881 (by omega)) (fun c69881 => ?_)
                refine ev_aload_n rfl ?_
                refine g_getp (r := 42) (c := 54) g1 ad42 (by decide) (by decide) rf42_16 ft12_16 ?_
                refine ev_iload_n rfl ?_
                refine g_baldv (v := v69850) g1 ad54 (by omega) (by omega) (ev69850) ?_
                refine ev_goto f264_18 ?_
                refine ev_ret rfl (by decide) (by decide) ?_
                show jEv _ _ _ _ _ _ _ (_, [(2, 42), (0, a1), (0, a2), (0, a3), (0, 0), (0, (x5 + 1)), (0, (-1)), (0, x7), (0, (v69831 - 48)), (0, 1)], [(0, v69850), (0, (10 * v69831 - 480))], _, _, _)
                refine ev_iadd (r := (10 * v69831 + v69850 - 480)) (by unfold w32; omega) ?_
                refine ev_bipush ?_
                refine ev_isub (r := (10 * v69831 + v69850 - 528)) (by unfold w32; omega) ?_
                refine ev_istore (L' := [(2, 42), (0, a1), (0, a2), (0, a3), (0, 0), (0, (x5 + 1)), (0, (-1)), (0, x7), (0, (10 * v69831 + v69850 - 528)), (0, 1)]) (Nat.le_of_ble_eq_true rfl) rfl ?_
                refine ev_iinc (w := 2) (L' := [(2, 42), (0, a1), (0, a2), (0, a3), (0, 0), (0, (x5 + 1)), (0, (-1)), (0, x7), (0, (10 * v69831 + v69850 - 528)), (0, 2)]) rfl (by decide) rfl ?_
                refine ev_iinc (w := (x5 + 2)) (L' := [(2, 42), (0, a1), (0, a2), (0, a3), (0, 0), (0, (x5 + 2)), (0, (-1)), (0, x7), (0, (10 * v69831 + v69850 - 528)), (0, 2)]) rfl (by unfold w32; omega) rfl ?_
                refine ev_goto f270_51 ?_
                refine ev_iload rfl ?_
                refine ev_iconst ?_
                refine ev_icmpge f270_92 (fun c69882 => ?_) (fun c69882 => absurd c69882 (by omega))
                refine ev_iload rfl ?_
                refine ev_ifeq f270_108 (fun c69883 => absurd c69883 (by omega)) (fun c69883 => ?_)
                refine ev_aload_n rfl ?_
                refine ev_iload rfl ?_
                refine ev_in (d := (d + 1)) (a := 0) (b := 0) (cd' := c264_0) (m := 2) (L0 := [(2, 42), (0, (x5 + 2))]) (jcall_v (A := [(0, (x5 + 2))]) (S' := []) (r := 42) rfl (g1.lt ad42) (g1.tg ad42) (Nat.le_of_ble_eq_true rfl)) (by decide) ml264 pp264 (Nat.le_of_ble_eq_true rfl) rfl (by decide) (by decide) ?_
                refine ev_iload_n rfl ?_
                refine ev_aload_n rfl ?_
                refine g_getv (r := 42) (v := v69825) g1 ad42 (by decide) ft12_17 (ev69825) ?_
                refine ev_icmpge f264_17 (fun c69884 => ?_) (fun c69884 => ?_)
                · refine ev_iconst ?_
                  refine ev_ret rfl (by decide) (by decide) ?_
                  show jEv _ _ _ _ _ _ _ (_, [(2, 42), (0, a1), (0, a2), (0, a3), (0, 0), (0, (x5 + 2)), (0, (-1)), (0, x7), (0, (10 * v69831 + v69850 - 528)), (0, 2)], [(0, (-1))], _, _, _)
                  refine ev_bipush ?_
                  refine ev_icmpeq f270_115 (fun c69885 => absurd c69885 (by omega)) (fun c69885 => ?_)
                  refine ev_aload_n rfl ?_
                  refine ev_iload rfl ?_
                  refine ev_in (d := (d + 1)) (a := 0) (b := 0) (cd' := c266_0) (m := 2) (L0 := [(2, 42), (0, (x5 + 2))]) (jcall_v (A := [(0, (x5 + 2))]) (S' := []) (r := 42) rfl (g1.lt ad42) (g1.tg ad42) (Nat.le_of_ble_eq_true rfl)) (by decide) ml266 pp266 (Nat.le_of_ble_eq_true rfl) rfl (by decide) (by decide) ?_
                  refine ev_aload_n rfl ?_
                  refine ev_iload_n rfl ?_
                  refine g_putf (r := 42) g1 ad42 (by decide) ft12_20 (by decide) (fun e => absurd e nz12_20) rf42_20 (by decide) (by omega) (by omega) (fun h69886 e69886 g69886 => ?_)
                  have k69886 := k1.wr e69886 rfl
                  refine ev_iconst ?_
                  refine ev_ret rfl (by decide) (by decide) ?_
                  show jEv _ _ _ _ _ _ _ (_, [(2, 42), (0, a1), (0, a2), (0, a3), (0, 0), (0, (x5 + 2)), (0, (-1)), (0, x7), (0, (10 * v69831 + v69850 - 528)), (0, 2)], [(0, (-1))], _, _, _)
                  exact ev_ret rfl (by decide) (by decide) ⟨⟨_, rfl, by omega, by omega, g69886, k69886⟩, fun r hr h0 => by cases hr; exfalso; omega⟩
                · refine ev_aload_n rfl ?_
                  refine g_getp (r := 42) (c := 54) g1 ad42 (by decide) (by decide) rf42_16 ft12_16 ?_
                  refine ev_iload_n rfl ?_
                  refine g_bald g1 ad54 rt54 (by omega) (by omega) (fun v69887 ev69887 lv69887 uv69887 => ?_)
                  refine ev_goto f264_18 ?_
                  refine ev_ret rfl (by decide) (by decide) ?_
                  show jEv _ _ _ _ _ _ _ (_, [(2, 42), (0, a1), (0, a2), (0, a3), (0, 0), (0, (x5 + 2)), (0, (-1)), (0, x7), (0, (10 * v69831 + v69850 - 528)), (0, 2)], [(0, v69887)], _, _, _)
                  refine ev_bipush ?_
                  refine ev_icmpeq f270_115 (fun c69888 => ?_) (fun c69888 => ?_)
                  · refine ev_aload_n rfl ?_
                    refine ev_iload rfl ?_
                    refine ev_iload rfl ?_
                    refine ev_iload rfl ?_
                    refine ev_in (d := (d + 1)) (a := 0) (b := 0) (cd' := c268_0) (m := 4) (L0 := [(2, 42), (0, (-1)), (0, x7), (0, (10 * v69831 + v69850 - 528))]) (jcall_v (A := [(0, (10 * v69831 + v69850 - 528)), (0, x7), (0, (-1))]) (S' := []) (r := 42) rfl (g1.lt ad42) (g1.tg ad42) (Nat.le_of_ble_eq_true rfl)) (by decide) ml268 pp268 (Nat.le_of_ble_eq_true rfl) rfl (by decide) (by decide) ?_
                    refine ev_iload_n rfl ?_
                    refine ev_ifge f268_5 (fun c69889 => absurd c69889 (by omega)) (fun c69889 => ?_)
                    refine ev_ret rfl (by decide) (by decide) ?_
                    show jEv _ _ _ _ _ _ _ (_, [(2, 42), (0, a1), (0, a2), (0, a3), (0, 0), (0, (x5 + 2)), (0, (-1)), (0, x7), (0, (10 * v69831 + v69850 - 528)), (0, 2)], [], _, _, _)
                    refine ev_aload_n rfl ?_
                    refine ev_iload rfl ?_
                    refine ev_iconst ?_
                    refine ev_iadd (r := (x5 + 3)) (by unfold w32; omega) ?_
                    refine ev_iload_n rfl ?_
                    refine ev_iload_n rfl ?_
                    refine ev_iconst ?_
                    refine ev_iadd (r := (a3 + 1)) (by unfold w32; omega) ?_
                    refine ev_iload rfl ?_
                    refine ev_call (jcall_v (A := [(0, 0), (0, (a3 + 1)), (0, a2), (0, (x5 + 3))]) (S' := []) (r := 42) rfl (g1.lt ad42) (g1.tg ad42) (Nat.le_of_ble_eq_true rfl)) (jOk_le (by omega) (rih g1 (by omega) (by omega) (by omega) (by omega) (by omega) (by omega) (by omega) (by omega) (l0 := l0) (Iv.kp hI k1 (fun _ => rfl) (fun _ => rfl) rfl) (Lv.at hL (Ad.step (r' := (x5 + 3)) (Ad.step (r' := (x5 + 2)) (Ad.step (r' := (x5 + 1)) H0 (by omega) k1 (fun _ => rfl) (ev69831) (by omega) (by omega) (by omega)) (by omega) k1 (fun _ => rfl) (ev69850) (by omega) (by omega) (by omega)) (by omega) k1 (fun _ => rfl) (ev69887) (by omega) (by omega) (by omega)) k1 (fun _ => rfl) rfl) (by omega))) (by decide) (by decide) (fun w69890 h69890 q69890 => ?_)
                    obtain ⟨q69890, ad69890⟩ := q69890
                    obtain ⟨v69891, rfl, lv69891, uv69891, g69890, kk69890⟩ := q69890
                    have ad69890 := ad69890 _ rfl
                    have k69890 := k1.tr kk69890 (by decide)
                    show jEv _ _ _ _ _ _ _ (_, [(2, 42), (0, a1), (0, a2), (0, a3), (0, 0), (0, (x5 + 2)), (0, (-1)), (0, x7), (0, (10 * v69831 + v69850 - 528)), (0, 2)], [(0, v69891)], _, _, _)
                    refine ev_istore (L' := [(2, 42), (0, a1), (0, a2), (0, a3), (0, 0), (0, v69891), (0, (-1)), (0, x7), (0, (10 * v69831 + v69850 - 528)), (0, 2)]) (Nat.le_of_ble_eq_true rfl) rfl ?_
                    refine ev_iload rfl ?_
                    refine ev_ifge f270_148 (fun c69892 => ?_) (fun c69892 => ?_)
                    · refine ev_iinc (w := (x7 + 1)) (L' := [(2, 42), (0, a1), (0, a2), (0, a3), (0, 0), (0, v69891), (0, (-1)), (0, (x7 + 1)), (0, (10 * v69831 + v69850 - 528)), (0, 2)]) rfl (by unfold w32; omega) rfl ?_
                      refine ev_aload_n rfl ?_
                      refine ev_iload rfl ?_
                      refine ev_in (d := (d + 1)) (a := 0) (b := 0) (cd' := c264_0) (m := 2) (L0 := [(2, 42), (0, v69891)]) (jcall_v (A := [(0, v69891)]) (S' := []) (r := 42) rfl (g69890.lt ad42) (g69890.tg ad42) (Nat.le_of_ble_eq_true rfl)) (by decide) ml264 pp264 (Nat.le_of_ble_eq_true rfl) rfl (by decide) (by decide) ?_
                      refine ev_iload_n rfl ?_
                      refine ev_aload_n rfl ?_
                      refine g_getv (r := 42) (v := v69825) g69890 ad42 (by decide) ft12_17 (((kk69890.v (by decide)).trans ev69825)) ?_
                      refine ev_icmpge f264_17 (fun c69893 => ?_) (fun c69893 => ?_)
                      · refine ev_iconst ?_
                        refine ev_ret rfl (by decide) (by decide) ?_
                        show jEv _ _ _ _ _ _ _ (_, [(2, 42), (0, a1), (0, a2), (0, a3), (0, 0), (0, v69891), (0, (-1)), (0, (x7 + 1)), (0, (10 * v69831 + v69850 - 528)), (0, 2)], [(0, (-1))], _, _, _)
                        refine ev_bipush ?_
                        refine ev_icmpne f270_165 (fun c69894 => ?_) (fun c69894 => absurd c69894 (by omega))
                        refine ev_aload_n rfl ?_
                        refine ev_iload rfl ?_
                        refine ev_in (d := (d + 1)) (a := 0) (b := 0) (cd' := c264_0) (m := 2) (L0 := [(2, 42), (0, v69891)]) (jcall_v (A := [(0, v69891)]) (S' := []) (r := 42) rfl (g69890.lt ad42) (g69890.tg ad42) (Nat.le_of_ble_eq_true rfl)) (by decide) ml264 pp264 (Nat.le_of_ble_eq_true rfl) rfl (by decide) (by decide) ?_
                        refine ev_iload_n rfl ?_
                        refine ev_aload_n rfl ?_
                        refine g_getv (r := 42) (v := v69825) g69890 ad42 (by decide) ft12_17 (((kk69890.v (by decide)).trans ev69825)) ?_
                        refine ev_icmpge f264_17 (fun c69895 => ?_) (fun c69895 => absurd c69895 (by omega))
                        refine ev_iconst ?_
                        refine ev_ret rfl (by decide) (by decide) ?_
                        show jEv _ _ _ _ _ _ _ (_, [(2, 42), (0, a1), (0, a2), (0, a3), (0, 0), (0, v69891), (0, (-1)), (0, (x7 + 1)), (0, (10 * v69831 + v69850 - 528)), (0, 2)], [(0, (-1))], _, _, _)
                        refine ev_bipush ?_
                        refine ev_icmpne f270_182 (fun c69896 => ?_) (fun c69896 => absurd c69896 (by omega))
                        refine ev_aload_n rfl ?_
                        refine ev_iload rfl ?_
                        refine ev_in (d := (d + 1)) (a := 0) (b := 0) (cd' := c266_0) (m := 2) (L0 := [(2, 42), (0, v69891)]) (jcall_v (A := [(0, v69891)]) (S' := []) (r := 42) rfl (g69890.lt ad42) (g69890.tg ad42) (Nat.le_of_ble_eq_true rfl)) (by decide) ml266 pp266 (Nat.le_of_ble_eq_true rfl) rfl (by decide) (by decide) ?_
                        refine ev_aload_n rfl ?_
                        refine ev_iload_n rfl ?_
                        refine g_putf (r := 42) g69890 ad42 (by decide) ft12_20 (by decide) (fun e => absurd e nz12_20) rf42_20 (by decide) (by omega) (by omega) (fun h69897 e69897 g69897 => ?_)
                        have k69897 := k69890.wr e69897 rfl
                        refine ev_iconst ?_
                        refine ev_ret rfl (by decide) (by decide) ?_
                        show jEv _ _ _ _ _ _ _ (_, [(2, 42), (0, a1), (0, a2), (0, a3), (0, 0), (0, v69891), (0, (-1)), (0, (x7 + 1)), (0, (10 * v69831 + v69850 - 528)), (0, 2)], [(0, (-1))], _, _, _)
                        exact ev_ret rfl (by decide) (by decide) ⟨⟨_, rfl, by omega, by omega, g69897, k69897⟩, fun r hr h0 => by cases hr; exfalso; omega⟩
                      · refine ev_aload_n rfl ?_
                        refine g_getp (r := 42) (c := 54) g69890 ad42 (by decide) (by decide) rf42_16 ft12_16 ?_
                        refine ev_iload_n rfl ?_
                        refine g_bald g69890 ad54 rt54 (by omega) (by omega) (fun v69898 ev69898 lv69898 uv69898 => ?_)
                        refine ev_goto f264_18 ?_
                        refine ev_ret rfl (by decide) (by decide) ?_
                        show jEv _ _ _ _ _ _ _ (_, [(2, 42), (0, a1), (0, a2), (0, a3), (0, 0), (0, v69891), (0, (-1)), (0, (x7 + 1)), (0, (10 * v69831 + v69850 - 528)), (0, 2)], [(0, v69898)], _, _, _)
                        refine ev_bipush ?_
                        refine ev_icmpne f270_165 (fun c69899 => ?_) (fun c69899 => ?_)
                        · refine ev_aload_n rfl ?_
                          refine ev_iload rfl ?_
                          refine ev_in (d := (d + 1)) (a := 0) (b := 0) (cd' := c264_0) (m := 2) (L0 := [(2, 42), (0, v69891)]) (jcall_v (A := [(0, v69891)]) (S' := []) (r := 42) rfl (g69890.lt ad42) (g69890.tg ad42) (Nat.le_of_ble_eq_true rfl)) (by decide) ml264 pp264 (Nat.le_of_ble_eq_true rfl) rfl (by decide) (by decide) ?_
                          refine ev_iload_n rfl ?_
                          refine ev_aload_n rfl ?_
                          refine g_getv (r := 42) (v := v69825) g69890 ad42 (by decide) ft12_17 (((kk69890.v (by decide)).trans ev69825)) ?_
                          refine ev_icmpge f264_17 (fun c69900 => absurd c69900 (by omega)) (fun c69900 => ?_)
                          refine ev_aload_n rfl ?_
                          refine g_getp (r := 42) (c := 54) g69890 ad42 (by decide) (by decide) rf42_16 ft12_16 ?_
                          refine ev_iload_n rfl ?_
                          refine g_baldv (v := v69898) g69890 ad54 (by omega) (by omega) (ev69898) ?_
                          refine ev_goto f264_18 ?_
                          refine ev_ret rfl (by decide) (by decide) ?_
                          show jEv _ _ _ _ _ _ _ (_, [(2, 42), (0, a1), (0, a2), (0, a3), (0, 0), (0, v69891), (0, (-1)), (0, (x7 + 1)), (0, (10 * v69831 + v69850 - 528)), (0, 2)], [(0, v69898)], _, _, _)
                          refine ev_bipush ?_
                          refine ev_icmpne f270_182 (fun c69901 => ?_) (fun c69901 => ?_)
                          · refine ev_aload_n rfl ?_
                            refine ev_iload rfl ?_
                            refine ev_in (d := (d + 1)) (a := 0) (b := 0) (cd' := c266_0) (m := 2) (L0 := [(2, 42), (0, v69891)]) (jcall_v (A := [(0, v69891)]) (S' := []) (r := 42) rfl (g69890.lt ad42) (g69890.tg ad42) (Nat.le_of_ble_eq_true rfl)) (by decide) ml266 pp266 (Nat.le_of_ble_eq_true rfl) rfl (by decide) (by decide) ?_
                            refine ev_aload_n rfl ?_
                            refine ev_iload_n rfl ?_
                            refine g_putf (r := 42) g69890 ad42 (by decide) ft12_20 (by decide) (fun e => absurd e nz12_20) rf42_20 (by decide) (by omega) (by omega) (fun h69902 e69902 g69902 => ?_)
                            have k69902 := k69890.wr e69902 rfl
                            refine ev_iconst ?_
                            refine ev_ret rfl (by decide) (by decide) ?_
                            show jEv _ _ _ _ _ _ _ (_, [(2, 42), (0, a1), (0, a2), (0, a3), (0, 0), (0, v69891), (0, (-1)), (0, (x7 + 1)), (0, (10 * v69831 + v69850 - 528)), (0, 2)], [(0, (-1))], _, _, _)
                            exact ev_ret rfl (by decide) (by decide) ⟨⟨_, rfl, by omega, by omega, g69902, k69902⟩, fun r hr h0 => by cases hr; exfalso; omega⟩
                          · refine ev_iload rfl ?_
                            refine ev_iconst ?_
                            refine ev_icmpne f270_189 (fun c69903 => ?_) (fun c69903 => ?_)
                            · refine ev_iinc (w := (v69891 + 1)) (L' := [(2, 42), (0, a1), (0, a2), (0, a3), (0, 0), (0, (v69891 + 1)), (0, (-1)), (0, (x7 + 1)), (0, (10 * v69831 + v69850 - 528)), (0, 2)]) rfl (by unfold w32; omega) rfl ?_
                              refine ev_goto f270_45 ?_
                              exact ih _ _ _ _ _ g69890 k69890 (by omega) (by omega) (by omega) (by omega) (by omega) (by omega) (by omega) (by omega) (by omega) (by omega) (Ad.step (r' := (v69891 + 1)) (Ad.tr (Ad.step (r' := (x5 + 3)) (Ad.step (r' := (x5 + 2)) (Ad.step (r' := (x5 + 1)) H0 (by omega) k1 (fun _ => rfl) (ev69831) (by omega) (by omega) (by omega)) (by omega) k1 (fun _ => rfl) (ev69850) (by omega) (by omega) (by omega)) (by omega) k1 (fun _ => rfl) (ev69887) (by omega) (by omega) (by omega)) k1 (fun _ => rfl) (ad69890 (by omega))) (by omega) k69890 (fun _ => rfl) (ev69898) (by omega) (by omega) (by omega)) (by omega)
                            · refine ev_aload_n rfl ?_
                              refine ev_iload rfl ?_
                              refine ev_in (d := (d + 1)) (a := 0) (b := 0) (cd' := c266_0) (m := 2) (L0 := [(2, 42), (0, v69891)]) (jcall_v (A := [(0, v69891)]) (S' := []) (r := 42) rfl (g69890.lt ad42) (g69890.tg ad42) (Nat.le_of_ble_eq_true rfl)) (by decide) ml266 pp266 (Nat.le_of_ble_eq_true rfl) rfl (by decide) (by decide) ?_
                              refine ev_aload_n rfl ?_
                              refine ev_iload_n rfl ?_
                              refine g_putf (r := 42) g69890 ad42 (by decide) ft12_20 (by decide) (fun e => absurd e nz12_20) rf42_20 (by decide) (by omega) (by omega) (fun h69904 e69904 g69904 => ?_)
                              have k69904 := k69890.wr e69904 rfl
                              refine ev_iconst ?_
                              refine ev_ret rfl (by decide) (by decide) ?_
                              show jEv _ _ _ _ _ _ _ (_, [(2, 42), (0, a1), (0, a2), (0, a3), (0, 0), (0, v69891), (0, (-1)), (0, (x7 + 1)), (0, (10 * v69831 + v69850 - 528)), (0, 2)], [(0, (-1))], _, _, _)
                              exact ev_ret rfl (by decide) (by decide) ⟨⟨_, rfl, by omega, by omega, g69904, k69904⟩, fun r hr h0 => by cases hr; exfalso; omega⟩
                        · refine ev_goto f270_195 ?_
                          refine ev_iload rfl ?_
                          refine ev_iflt f270_209 (fun c69905 => ?_) (fun c69905 => absurd c69905 (by omega))
                          refine ev_iload rfl ?_
                          refine ev_iconst ?_
                          refine ev_iadd (r := (v69891 + 1)) (by unfold w32; omega) ?_
                          exact ev_ret rfl (by decide) (by decide) ⟨⟨_, rfl, by omega, by omega, g69890, k69890⟩, fun r hr h0 => by cases hr; exact (Ad.step (r' := (v69891 + 1)) (Ad.tr (Ad.step (r' := (x5 + 3)) (Ad.step (r' := (x5 + 2)) (Ad.step (r' := (x5 + 1)) H0 (by omega) k1 (fun _ => rfl) (ev69831) (by omega) (by omega) (by omega)) (by omega) k1 (fun _ => rfl) (ev69850) (by omega) (by omega) (by omega)) (by omega) k1 (fun _ => rfl) (ev69887) (by omega) (by omega) (by omega)) k1 (fun _ => rfl) (ad69890 (by omega))) (by omega) k69890 (fun _ => rfl) (ev69898) (by omega) (by omega) (by omega))⟩
                    · refine ev_iconst ?_
                      exact ev_ret rfl (by decide) (by decide) ⟨⟨_, rfl, by omega, by omega, g69890, k69890⟩, fun r hr h0 => by cases hr; exfalso; omega⟩
                  · refine ev_aload_n rfl ?_
                    refine ev_iload rfl ?_
                    refine ev_in (d := (d + 1)) (a := 0) (b := 0) (cd' := c266_0) (m := 2) (L0 := [(2, 42), (0, (x5 + 2))]) (jcall_v (A := [(0, (x5 + 2))]) (S' := []) (r := 42) rfl (g1.lt ad42) (g1.tg ad42) (Nat.le_of_ble_eq_true rfl)) (by decide) ml266 pp266 (Nat.le_of_ble_eq_true rfl) rfl (by decide) (by decide) ?_
                    refine ev_aload_n rfl ?_
                    refine ev_iload_n rfl ?_
                    refine g_putf (r := 42) g1 ad42 (by decide) ft12_20 (by decide) (fun e => absurd e nz12_20) rf42_20 (by decide) (by omega) (by omega) (fun h69906 e69906 g69906 => ?_)
                    have k69906 := k1.wr e69906 rfl
                    refine ev_iconst ?_
                    refine ev_ret rfl (by decide) (by decide) ?_
                    show jEv _ _ _ _ _ _ _ (_, [(2, 42), (0, a1), (0, a2), (0, a3), (0, 0), (0, (x5 + 2)), (0, (-1)), (0, x7), (0, (10 * v69831 + v69850 - 528)), (0, 2)], [(0, (-1))], _, _, _)
                    exact ev_ret rfl (by decide) (by decide) ⟨⟨_, rfl, by omega, by omega, g69906, k69906⟩, fun r hr h0 => by cases hr; exfalso; omega⟩
set_option maxHeartbeats 4000000 in
theorem s270f_s {G : GH} {h : JH} (g : Gd G h) {l0 : Int} (ll0 : 0 ≤ l0) (ul0 : l0 ≤ 6) {a1 : Int} (la1 : 0 ≤ a1) (ua1 : a1 ≤ 202) {a2 : Int} (la2 : 0 ≤ a2) (ua2 : a2 ≤ 15) {a3 : Int} (la3 : 0 ≤ a3) (ua3 : a3 ≤ 12) (hI : Iv h) (hL : Lv h l0 a1) (hq : h.2.2 54 (a1).toNat = 63) {M : Int} (hM : M = (7 * a3 - l0)) {d : Nat} (hd : 0 ≤ d) (rih : ∀ {G : GH} {h : JH} (g : Gd G h) {l0 : Int} (ll0 : 0 ≤ l0) (ul0 : l0 ≤ 6) {a1 : Int} (la1 : 0 ≤ a1) (ua1 : a1 ≤ 202) {a2 : Int} (la2 : 0 ≤ a2) (ua2 : a2 ≤ 15) {a3 : Int} (la3 : 0 ≤ a3) (ua3 : a3 ≤ 12) (hI : Iv h) (hL : Lv h l0 a1) (hm : M + 1 ≤ (7 * a3 - l0)), jOk d 0 0 272 [(2, 42), (0, a1), (0, a2), (0, a3), (0, 0)] h (fun v h' => PI G [(42, 21)] h 0 (-1) 200 v h' ∧ (∀ r, v = some (0, r) → 0 ≤ r → Ad h l0 a1 r))) : jOk (d + 3) 0 0 270 [(2, 42), (0, a1), (0, a2), (0, a3), (0, 0)] h (fun v h' => PI G [(42, 21)] h 0 (-1) 200 v h' ∧ (∀ r, v = some (0, r) → 0 ≤ r → Ad h l0 a1 r)) := by
  refine ⟨by decide, by rw [ml270]; exact Nat.le_of_ble_eq_true rfl, ?_⟩
  rw [ml270, pp270]
  show jEv _ none _ c270_0 0 0 _ (c270_0, [(2, 42), (0, a1), (0, a2), (0, a3), (0, 0), (9, 0), (9, 0), (9, 0), (9, 0), (9, 0)], [], h, 0, 0)
  have k0 := Kp.rf [(42, 21)] h
  refine ev_iload_n rfl ?_
  refine ev_iconst ?_
  refine ev_iadd (r := (a1 + 1)) (by unfold w32; omega) ?_
  refine ev_istore (L' := [(2, 42), (0, a1), (0, a2), (0, a3), (0, 0), (0, (a1 + 1)), (9, 0), (9, 0), (9, 0), (9, 0)]) (Nat.le_of_ble_eq_true rfl) rfl ?_
  refine ev_aload_n rfl ?_
  refine ev_iload rfl ?_
  refine ev_in (d := (d + 1)) (a := 0) (b := 0) (cd' := c264_0) (m := 2) (L0 := [(2, 42), (0, (a1 + 1))]) (jcall_v (A := [(0, (a1 + 1))]) (S' := []) (r := 42) rfl (g.lt ad42) (g.tg ad42) (Nat.le_of_ble_eq_true rfl)) (by decide) ml264 pp264 (Nat.le_of_ble_eq_true rfl) rfl (by decide) (by decide) ?_
  refine ev_iload_n rfl ?_
  refine ev_aload_n rfl ?_
  obtain ⟨v69907, ev69907, lv69907, uv69907⟩ := g.rd ad42 (show 17 < 66 by decide) rf42_17
  refine g_getv (r := 42) (v := v69907) g ad42 (by decide) ft12_17 ev69907 ?_
  refine ev_icmpge f264_17 (fun c69908 => ?_) (fun c69908 => ?_)
  · refine ev_iconst ?_
    refine ev_ret rfl (by decide) (by decide) ?_
    show jEv _ _ _ _ _ _ _ (_, [(2, 42), (0, a1), (0, a2), (0, a3), (0, 0), (0, (a1 + 1)), (9, 0), (9, 0), (9, 0), (9, 0)], [(0, (-1))], _, _, _)
    refine ev_bipush ?_
    refine ev_icmpne f270_22 (fun c69909 => ?_) (fun c69909 => absurd c69909 (by omega))
    refine ev_aload_n rfl ?_
    refine ev_iload rfl ?_
    refine ev_in (d := (d + 1)) (a := 0) (b := 0) (cd' := c266_0) (m := 2) (L0 := [(2, 42), (0, (a1 + 1))]) (jcall_v (A := [(0, (a1 + 1))]) (S' := []) (r := 42) rfl (g.lt ad42) (g.tg ad42) (Nat.le_of_ble_eq_true rfl)) (by decide) ml266 pp266 (Nat.le_of_ble_eq_true rfl) rfl (by decide) (by decide) ?_
    refine ev_aload_n rfl ?_
    refine ev_iload_n rfl ?_
    refine g_putf (r := 42) g ad42 (by decide) ft12_20 (by decide) (fun e => absurd e nz12_20) rf42_20 (by decide) (by omega) (by omega) (fun h69910 e69910 g69910 => ?_)
    have k69910 := k0.wr e69910 rfl
    refine ev_iconst ?_
    refine ev_ret rfl (by decide) (by decide) ?_
    show jEv _ _ _ _ _ _ _ (_, [(2, 42), (0, a1), (0, a2), (0, a3), (0, 0), (0, (a1 + 1)), (9, 0), (9, 0), (9, 0), (9, 0)], [(0, (-1))], _, _, _)
    exact ev_ret rfl (by decide) (by decide) ⟨⟨_, rfl, by omega, by omega, g69910, k69910⟩, fun r hr h0 => by cases hr; exfalso; omega⟩
  · refine ev_aload_n rfl ?_
    refine g_getp (r := 42) (c := 54) g ad42 (by decide) (by decide) rf42_16 ft12_16 ?_
    refine ev_iload_n rfl ?_
    refine g_bald g ad54 rt54 (by omega) (by omega) (fun v69911 ev69911 lv69911 uv69911 => ?_)
    refine ev_goto f264_18 ?_
    refine ev_ret rfl (by decide) (by decide) ?_
    show jEv _ _ _ _ _ _ _ (_, [(2, 42), (0, a1), (0, a2), (0, a3), (0, 0), (0, (a1 + 1)), (9, 0), (9, 0), (9, 0), (9, 0)], [(0, v69911)], _, _, _)
    refine ev_bipush ?_
    refine ev_icmpne f270_22 (fun c69912 => ?_) (fun c69912 => ?_)
    · refine ev_aload_n rfl ?_
      refine ev_iload rfl ?_
      refine ev_in (d := (d + 1)) (a := 0) (b := 0) (cd' := c266_0) (m := 2) (L0 := [(2, 42), (0, (a1 + 1))]) (jcall_v (A := [(0, (a1 + 1))]) (S' := []) (r := 42) rfl (g.lt ad42) (g.tg ad42) (Nat.le_of_ble_eq_true rfl)) (by decide) ml266 pp266 (Nat.le_of_ble_eq_true rfl) rfl (by decide) (by decide) ?_
      refine ev_aload_n rfl ?_
      refine ev_iload_n rfl ?_
      refine g_putf (r := 42) g ad42 (by decide) ft12_20 (by decide) (fun e => absurd e nz12_20) rf42_20 (by decide) (by omega) (by omega) (fun h69913 e69913 g69913 => ?_)
      have k69913 := k0.wr e69913 rfl
      refine ev_iconst ?_
      refine ev_ret rfl (by decide) (by decide) ?_
      show jEv _ _ _ _ _ _ _ (_, [(2, 42), (0, a1), (0, a2), (0, a3), (0, 0), (0, (a1 + 1)), (9, 0), (9, 0), (9, 0), (9, 0)], [(0, (-1))], _, _, _)
      exact ev_ret rfl (by decide) (by decide) ⟨⟨_, rfl, by omega, by omega, g69913, k69913⟩, fun r hr h0 => by cases hr; exfalso; omega⟩
    · refine ev_iload_n rfl ?_
      refine ev_bipush ?_
      refine ev_icmpne f270_29 (fun c69914 => ?_) (fun c69914 => ?_)
      · refine ev_aload_n rfl ?_
        refine ev_iload rfl ?_
        refine ev_iconst ?_
        refine ev_iconst ?_
        refine ev_in (d := (d + 1)) (a := 0) (b := 0) (cd' := c267_0) (m := 6) (L0 := [(2, 42), (0, 0), (0, 1), (0, 0), (9, 0), (9, 0)]) (jcall_v (A := [(0, 0), (0, 1), (0, 0)]) (S' := []) (r := 42) rfl (g.lt ad42) (g.tg ad42) (Nat.le_of_ble_eq_true rfl)) (by decide) ml267 pp267 (Nat.le_of_ble_eq_true rfl) rfl (by decide) (by decide) ?_
        refine ev_iload_n rfl ?_
        refine ev_ifne f267_6 (fun c69915 => absurd c69915 (by omega)) (fun c69915 => ?_)
        refine ev_iconst ?_
        refine ev_ret rfl (by decide) (by decide) ?_
        show jEv _ _ _ _ _ _ _ (_, [(2, 42), (0, a1), (0, a2), (0, a3), (0, 0), (0, (a1 + 1)), (9, 0), (9, 0), (9, 0), (9, 0)], [(0, (-1))], _, _, _)
        refine ev_istore (L' := [(2, 42), (0, a1), (0, a2), (0, a3), (0, 0), (0, (a1 + 1)), (0, (-1)), (9, 0), (9, 0), (9, 0)]) (Nat.le_of_ble_eq_true rfl) rfl ?_
        refine ev_iconst ?_
        refine ev_istore (L' := [(2, 42), (0, a1), (0, a2), (0, a3), (0, 0), (0, (a1 + 1)), (0, (-1)), (0, 0), (9, 0), (9, 0)]) (Nat.le_of_ble_eq_true rfl) rfl ?_
        refine ev_iinc (w := (a1 + 2)) (L' := [(2, 42), (0, a1), (0, a2), (0, a3), (0, 0), (0, (a1 + 2)), (0, (-1)), (0, 0), (9, 0), (9, 0)]) rfl (by unfold w32; omega) rfl ?_
        exact (s270f_s_l ll0 ul0 la1 ua1 la2 ua2 la3 ua3 hI hL hq hM hd rih 8) _ _ _ _ _ g k0 (by omega) (by omega) (by omega) (by omega) (by omega) (by omega) (by omega) (by omega) (by omega) (by omega) (Ad.step (r' := (a1 + 2)) (Ad.step (r' := (a1 + 1)) (Ad.rf _ _ _) (by omega) k0 (fun _ => rfl) (hq) (by omega) (by omega) (by omega)) (by omega) k0 (fun _ => rfl) (ev69911) (by omega) (by omega) (by omega)) (by omega)
      · refine ev_aload_n rfl ?_
        refine ev_iload rfl ?_
        refine ev_in (d := (d + 1)) (a := 0) (b := 0) (cd' := c266_0) (m := 2) (L0 := [(2, 42), (0, (a1 + 1))]) (jcall_v (A := [(0, (a1 + 1))]) (S' := []) (r := 42) rfl (g.lt ad42) (g.tg ad42) (Nat.le_of_ble_eq_true rfl)) (by decide) ml266 pp266 (Nat.le_of_ble_eq_true rfl) rfl (by decide) (by decide) ?_
        refine ev_aload_n rfl ?_
        refine ev_iload_n rfl ?_
        refine g_putf (r := 42) g ad42 (by decide) ft12_20 (by decide) (fun e => absurd e nz12_20) rf42_20 (by decide) (by omega) (by omega) (fun h69916 e69916 g69916 => ?_)
        have k69916 := k0.wr e69916 rfl
        refine ev_iconst ?_
        refine ev_ret rfl (by decide) (by decide) ?_
        show jEv _ _ _ _ _ _ _ (_, [(2, 42), (0, a1), (0, a2), (0, a3), (0, 0), (0, (a1 + 1)), (9, 0), (9, 0), (9, 0), (9, 0)], [(0, (-1))], _, _, _)
        exact ev_ret rfl (by decide) (by decide) ⟨⟨_, rfl, by omega, by omega, g69916, k69916⟩, fun r hr h0 => by cases hr; exfalso; omega⟩
set_option maxHeartbeats 4000000 in
theorem s271f_s_l {G : GH} {h : JH} {l0 : Int} (ll0 : 0 ≤ l0) (ul0 : l0 ≤ 6) {a1 : Int} (la1 : 0 ≤ a1) (ua1 : a1 ≤ 202) {a2 : Int} (la2 : 0 ≤ a2) (ua2 : a2 ≤ 15) {a3 : Int} (la3 : 0 ≤ a3) (ua3 : a3 ≤ 12) (hI : Iv h) (hL : Lv h l0 a1) (hq : h.2.2 54 (a1).toNat = 33) {M : Int} (hM : M = (7 * a3 - l0)) {d : Nat} (hd : 0 ≤ d) (rih : ∀ {G : GH} {h : JH} (g : Gd G h) {l0 : Int} (ll0 : 0 ≤ l0) (ul0 : l0 ≤ 6) {a1 : Int} (la1 : 0 ≤ a1) (ua1 : a1 ≤ 202) {a2 : Int} (la2 : 0 ≤ a2) (ua2 : a2 ≤ 15) {a3 : Int} (la3 : 0 ≤ a3) (ua3 : a3 ≤ 12) (hI : Iv h) (hL : Lv h l0 a1) (hm : M + 1 ≤ (7 * a3 - l0)), jOk d 0 0 272 [(2, 42), (0, a1), (0, a2), (0, a3), (0, 0)] h (fun v h' => PI G [(42, 21)] h 0 (-1) 200 v h' ∧ (∀ r, v = some (0, r) → 0 ≤ r → Ad h l0 a1 r))) : ∀ N : Nat, (∀ (h1 : JH) (x5 x6 x8 y0 y1 : Int), Gd G h1 → Kp [(42, 21)] h h1 → 0 ≤ a1 → a1 ≤ 197 → 0 ≤ a2 → a2 ≤ 15 → 0 ≤ a3 → a3 ≤ 11 → 0 ≤ x5 → x5 ≤ 3 → 1 ≤ x6 → x6 ≤ 200 → 0 ≤ x8 → x8 ≤ 3 → (x5 + (-y0)) ≤ (-1) → (x8 + (-y1)) ≤ 0 → h1.2.2 42 1 = y0 → 0 ≤ y0 → y0 ≤ 4 → h1.2.2 43 (x5).toNat = y1 → 2 ≤ y1 → y1 ≤ 3 → Ad h l0 a1 x6 → ((-x8) + 3) < N → jEv (jOk (d + 2)) none (fun _ => 0) c271_0 0 0 (fun v h' => PI G [(42, 21)] h 0 (-1) 200 v h' ∧ (∀ r, v = some (0, r) → 0 ≤ r → Ad h l0 a1 r)) (c271_85, [(2, 42), (0, a1), (0, a2), (0, a3), (0, 0), (0, x5), (0, x6), (0, (-1)), (0, x8)], [], h1, 0, 0)) := by
  intro N
  induction N with
  | zero => exact fun h1 x5 x6 x8 y0 y1 g1 k1 b0 b1 b2 b3 b4 b5 b6 b7 b8 b9 b10 b11 b12 b13 b14 b15 b16 b17 b18 b19 b20 hm => absurd hm (by omega)
  | succ N ih =>
    show _
    intro h1 x5 x6 x8 y0 y1 g1 k1 b0 b1 b2 b3 b4 b5 b6 b7 b8 b9 b10 b11 b12 b13 ey0 ly0 uy0 ey1 ly1 uy1 H0 hm
    refine ev_iload rfl ?_
    refine ev_aload_n rfl ?_
    refine g_getp (r := 42) (c := 43) g1 ad42 (by decide) (by decide) rf42_2 ft12_2 ?_
    refine ev_iload rfl ?_
    refine g_ialdv (v := y1) g1 ad43 (by omega) (by omega) (ey1) ?_
    refine ev_icmpge f271_178 (fun c70071 => ?_) (fun c70071 => ?_)
    · refine ev_iload rfl ?_
      exact ev_ret rfl (by decide) (by decide) ⟨⟨_, rfl, by omega, by omega, g1, k1⟩, fun r hr h0 => by cases hr; exact H0⟩
    · refine ev_aload_n rfl ?_
      refine ev_iload rfl ?_
      refine ev_iload rfl ?_
      refine ev_iconst ?_
      refine ev_in (d := (d + 1)) (a := 0) (b := 0) (cd' := c268_0) (m := 4) (L0 := [(2, 42), (0, (-1)), (0, x8), (0, 0)]) (jcall_v (A := [(0, 0), (0, x8), (0, (-1))]) (S' := []) (r := 42) rfl (g1.lt ad42) (g1.tg ad42) (Nat.le_of_ble_eq_true rfl)) (by decide) ml268 pp268 (Nat.le_of_ble_eq_true rfl) rfl (by decide) (by decide) ?_
      refine ev_iload_n rfl ?_
      refine ev_ifge f268_5 (fun c70072 => absurd c70072 (by omega)) (fun c70072 => ?_)
      refine ev_ret rfl (by decide) (by decide) ?_
      show jEv _ _ _ _ _ _ _ (_, [(2, 42), (0, a1), (0, a2), (0, a3), (0, 0), (0, x5), (0, x6), (0, (-1)), (0, x8)], [], _, _, _)
      refine ev_aload_n rfl ?_
      refine ev_iload rfl ?_
      refine ev_iload_n rfl ?_
      refine ev_iconst ?_
      refine ev_iload rfl ?_
      refine g_ishlB (a' := 1) (a := 1) (b := 3) (hi := 8) (by omega) (by omega) (by omega) (by omega) (by decide) (by decide) (fun v70073 ev70073 lv70073 uv70073 => ?_)
      refine g_iorB (k := 4) (hi := 15) (by decide) (by decide) (by omega) (by omega) (by omega) (by omega) (fun v70074 ev70074 lv70074 uv70074 => ?_)
      refine ev_iload_n rfl ?_
      refine ev_iconst ?_
      refine ev_iadd (r := (a3 + 1)) (by unfold w32; omega) ?_
      refine ev_iload rfl ?_
      refine ev_call (jcall_v (A := [(0, 0), (0, (a3 + 1)), (0, v70074), (0, x6)]) (S' := []) (r := 42) rfl (g1.lt ad42) (g1.tg ad42) (Nat.le_of_ble_eq_true rfl)) (jOk_le (by omega) (rih g1 (by omega) (by omega) (by omega) (by omega) (by omega) (by omega) (by omega) (by omega) (l0 := l0) (Iv.kp hI k1 (fun _ => rfl) (fun _ => rfl) rfl) (Lv.at hL H0 k1 (fun _ => rfl) rfl) (by omega))) (by decide) (by decide) (fun w70075 h70075 q70075 => ?_)
      obtain ⟨q70075, ad70075⟩ := q70075
      obtain ⟨v70076, rfl, lv70076, uv70076, g70075, kk70075⟩ := q70075
      have ad70075 := ad70075 _ rfl
      have k70075 := k1.tr kk70075 (by decide)
      show jEv _ _ _ _ _ _ _ (_, [(2, 42), (0, a1), (0, a2), (0, a3), (0, 0), (0, x5), (0, x6), (0, (-1)), (0, x8)], [(0, v70076)], _, _, _)
      refine ev_istore (L' := [(2, 42), (0, a1), (0, a2), (0, a3), (0, 0), (0, x5), (0, v70076), (0, (-1)), (0, x8)]) (Nat.le_of_ble_eq_true rfl) rfl ?_
      refine ev_iload rfl ?_
      refine ev_ifge f271_132 (fun c70077 => ?_) (fun c70077 => ?_)
      · refine ev_aload_n rfl ?_
        refine ev_iload rfl ?_
        refine ev_in (d := (d + 1)) (a := 0) (b := 0) (cd' := c264_0) (m := 2) (L0 := [(2, 42), (0, v70076)]) (jcall_v (A := [(0, v70076)]) (S' := []) (r := 42) rfl (g70075.lt ad42) (g70075.tg ad42) (Nat.le_of_ble_eq_true rfl)) (by decide) ml264 pp264 (Nat.le_of_ble_eq_true rfl) rfl (by decide) (by decide) ?_
        refine ev_iload_n rfl ?_
        refine ev_aload_n rfl ?_
        obtain ⟨v70078, ev70078, lv70078, uv70078⟩ := g70075.rd ad42 (show 17 < 66 by decide) rf42_17
        refine g_getv (r := 42) (v := v70078) g70075 ad42 (by decide) ft12_17 ev70078 ?_
        refine ev_icmpge f264_17 (fun c70079 => ?_) (fun c70079 => ?_)
        · refine ev_iconst ?_
          refine ev_ret rfl (by decide) (by decide) ?_
          show jEv _ _ _ _ _ _ _ (_, [(2, 42), (0, a1), (0, a2), (0, a3), (0, 0), (0, x5), (0, v70076), (0, (-1)), (0, x8)], [(0, (-1))], _, _, _)
          refine ev_iload rfl ?_
          refine ev_iconst ?_
          refine ev_iadd (r := (x8 + 1)) (by unfold w32; omega) ?_
          refine ev_aload_n rfl ?_
          refine g_getp (r := 42) (c := 43) g70075 ad42 (by decide) (by decide) rf42_2 ft12_2 ?_
          refine ev_iload rfl ?_
          refine g_ialdv (v := y1) g70075 ad43 (by omega) (by omega) (((kk70075.v rfl).trans ey1)) ?_
          refine ev_icmpge f271_157 (fun c70080 => ?_) (fun c70080 => ?_)
          · refine ev_bipush ?_
            refine ev_icmpeq f271_169 (fun c70081 => absurd c70081 (by omega)) (fun c70081 => ?_)
            refine ev_aload_n rfl ?_
            refine ev_iload rfl ?_
            refine ev_in (d := (d + 1)) (a := 0) (b := 0) (cd' := c266_0) (m := 2) (L0 := [(2, 42), (0, v70076)]) (jcall_v (A := [(0, v70076)]) (S' := []) (r := 42) rfl (g70075.lt ad42) (g70075.tg ad42) (Nat.le_of_ble_eq_true rfl)) (by decide) ml266 pp266 (Nat.le_of_ble_eq_true rfl) rfl (by decide) (by decide) ?_
            refine ev_aload_n rfl ?_
            refine ev_iload_n rfl ?_
            refine g_putf (r := 42) g70075 ad42 (by decide) ft12_20 (by decide) (fun e => absurd e nz12_20) rf42_20 (by decide) (by omega) (by omega) (fun h70082 e70082 g70082 => ?_)
            have k70082 := k70075.wr e70082 rfl
            refine ev_iconst ?_
            refine ev_ret rfl (by decide) (by decide) ?_
            show jEv _ _ _ _ _ _ _ (_, [(2, 42), (0, a1), (0, a2), (0, a3), (0, 0), (0, x5), (0, v70076), (0, (-1)), (0, x8)], [(0, (-1))], _, _, _)
            exact ev_ret rfl (by decide) (by decide) ⟨⟨_, rfl, by omega, by omega, g70082, k70082⟩, fun r hr h0 => by cases hr; exfalso; omega⟩
          · refine ev_bipush ?_
            refine ev_goto f271_159 ?_
            refine ev_icmpeq f271_169 (fun c70083 => absurd c70083 (by omega)) (fun c70083 => ?_)
            refine ev_aload_n rfl ?_
            refine ev_iload rfl ?_
            refine ev_in (d := (d + 1)) (a := 0) (b := 0) (cd' := c266_0) (m := 2) (L0 := [(2, 42), (0, v70076)]) (jcall_v (A := [(0, v70076)]) (S' := []) (r := 42) rfl (g70075.lt ad42) (g70075.tg ad42) (Nat.le_of_ble_eq_true rfl)) (by decide) ml266 pp266 (Nat.le_of_ble_eq_true rfl) rfl (by decide) (by decide) ?_
            refine ev_aload_n rfl ?_
            refine ev_iload_n rfl ?_
            refine g_putf (r := 42) g70075 ad42 (by decide) ft12_20 (by decide) (fun e => absurd e nz12_20) rf42_20 (by decide) (by omega) (by omega) (fun h70084 e70084 g70084 => ?_)
            have k70084 := k70075.wr e70084 rfl
            refine ev_iconst ?_
            refine ev_ret rfl (by decide) (by decide) ?_
            show jEv _ _ _ _ _ _ _ (_, [(2, 42), (0, a1), (0, a2), (0, a3), (0, 0), (0, x5), (0, v70076), (0, (-1)), (0, x8)], [(0, (-1))], _, _, _)
            exact ev_ret rfl (by decide) (by decide) ⟨⟨_, rfl, by omega, by omega, g70084, k70084⟩, fun r hr h0 => by cases hr; exfalso; omega⟩
        · refine ev_aload_n rfl ?_
          refine g_getp (r := 42) (c := 54) g70075 ad42 (by decide) (by decide) rf42_16 ft12_16 ?_
          refine ev_iload_n rfl ?_
          refine g_bald g70075 ad54 rt54 (by omega) (by omega) (fun v70085 ev70085 lv70085 uv70085 => ?_)
          refine ev_goto f264_18 ?_
          refine ev_ret rfl (by decide) (by decide) ?_
          show jEv _ _ _ _ _ _ _ (_, [(2, 42), (0, a1), (0, a2), (0, a3), (0, 0), (0, x5), (0, v70076), (0, (-1)), (0, x8)], [(0, v70085)], _, _, _)
          refine ev_iload rfl ?_
          refine ev_iconst ?_
          refine ev_iadd (r := (x8 + 1)) (by unfold w32; omega) ?_
          refine ev_aload_n rfl ?_
          refine g_getp (r := 42) (c := 43) g70075 ad42 (by decide) (by decide) rf42_2 ft12_2 ?_
          refine ev_iload rfl ?_
          refine g_ialdv (v := y1) g70075 ad43 (by omega) (by omega) (((kk70075.v rfl).trans ey1)) ?_
          refine ev_icmpge f271_157 (fun c70086 => ?_) (fun c70086 => ?_)
          · refine ev_bipush ?_
            refine ev_icmpeq f271_169 (fun c70087 => ?_) (fun c70087 => ?_)
            · refine ev_iinc (w := (v70076 + 1)) (L' := [(2, 42), (0, a1), (0, a2), (0, a3), (0, 0), (0, x5), (0, (v70076 + 1)), (0, (-1)), (0, x8)]) rfl (by unfold w32; omega) rfl ?_
              refine ev_iinc (w := (x8 + 1)) (L' := [(2, 42), (0, a1), (0, a2), (0, a3), (0, 0), (0, x5), (0, (v70076 + 1)), (0, (-1)), (0, (x8 + 1))]) rfl (by unfold w32; omega) rfl ?_
              refine ev_goto f271_85 ?_
              exact ih _ _ _ _ _ _ g70075 k70075 (by omega) (by omega) (by omega) (by omega) (by omega) (by omega) (by omega) (by omega) (by omega) (by omega) (by omega) (by omega) (by omega) (by omega) (((kk70075.v (by decide)).trans ey0)) (by omega) (by omega) (((kk70075.v rfl).trans ey1)) (by omega) (by omega) (Ad.step (r' := (v70076 + 1)) (Ad.tr H0 k1 (fun _ => rfl) (ad70075 (by omega))) (by omega) k70075 (fun _ => rfl) (ev70085) (by omega) (by omega) (by omega)) (by omega)
            · refine ev_aload_n rfl ?_
              refine ev_iload rfl ?_
              refine ev_in (d := (d + 1)) (a := 0) (b := 0) (cd' := c266_0) (m := 2) (L0 := [(2, 42), (0, v70076)]) (jcall_v (A := [(0, v70076)]) (S' := []) (r := 42) rfl (g70075.lt ad42) (g70075.tg ad42) (Nat.le_of_ble_eq_true rfl)) (by decide) ml266 pp266 (Nat.le_of_ble_eq_true rfl) rfl (by decide) (by decide) ?_
              refine ev_aload_n rfl ?_
              refine ev_iload_n rfl ?_
              refine g_putf (r := 42) g70075 ad42 (by decide) ft12_20 (by decide) (fun e => absurd e nz12_20) rf42_20 (by decide) (by omega) (by omega) (fun h70088 e70088 g70088 => ?_)
              have k70088 := k70075.wr e70088 rfl
              refine ev_iconst ?_
              refine ev_ret rfl (by decide) (by decide) ?_
              show jEv _ _ _ _ _ _ _ (_, [(2, 42), (0, a1), (0, a2), (0, a3), (0, 0), (0, x5), (0, v70076), (0, (-1)), (0, x8)], [(0, (-1))], _, _, _)
              exact ev_ret rfl (by decide) (by decide) ⟨⟨_, rfl, by omega, by omega, g70088, k70088⟩, fun r hr h0 => by cases hr; exfalso; omega⟩
          · refine ev_bipush ?_
            refine ev_goto f271_159 ?_
            refine ev_icmpeq f271_169 (fun c70089 => ?_) (fun c70089 => ?_)
            · refine ev_iinc (w := (v70076 + 1)) (L' := [(2, 42), (0, a1), (0, a2), (0, a3), (0, 0), (0, x5), (0, (v70076 + 1)), (0, (-1)), (0, x8)]) rfl (by unfold w32; omega) rfl ?_
              refine ev_iinc (w := (x8 + 1)) (L' := [(2, 42), (0, a1), (0, a2), (0, a3), (0, 0), (0, x5), (0, (v70076 + 1)), (0, (-1)), (0, (x8 + 1))]) rfl (by unfold w32; omega) rfl ?_
              refine ev_goto f271_85 ?_
              exact ih _ _ _ _ _ _ g70075 k70075 (by omega) (by omega) (by omega) (by omega) (by omega) (by omega) (by omega) (by omega) (by omega) (by omega) (by omega) (by omega) (by omega) (by omega) (((kk70075.v (by decide)).trans ey0)) (by omega) (by omega) (((kk70075.v rfl).trans ey1)) (by omega) (by omega) (Ad.step (r' := (v70076 + 1)) (Ad.tr H0 k1 (fun _ => rfl) (ad70075 (by omega))) (by omega) k70075 (fun _ => rfl) (ev70085) (by omega) (by omega) (by omega)) (by omega)
            · refine ev_aload_n rfl ?_
              refine ev_iload rfl ?_
              refine ev_in (d := (d + 1)) (a := 0) (b := 0) (cd' := c266_0) (m := 2) (L0 := [(2, 42), (0, v70076)]) (jcall_v (A := [(0, v70076)]) (S' := []) (r := 42) rfl (g70075.lt ad42) (g70075.tg ad42) (Nat.le_of_ble_eq_true rfl)) (by decide) ml266 pp266 (Nat.le_of_ble_eq_true rfl) rfl (by decide) (by decide) ?_
              refine ev_aload_n rfl ?_
              refine ev_iload_n rfl ?_
              refine g_putf (r := 42) g70075 ad42 (by decide) ft12_20 (by decide) (fun e => absurd e nz12_20) rf42_20 (by decide) (by omega) (by omega) (fun h70090 e70090 g70090 => ?_)
              have k70090 := k70075.wr e70090 rfl
              refine ev_iconst ?_
              refine ev_ret rfl (by decide) (by decide) ?_
              show jEv _ _ _ _ _ _ _ (_, [(2, 42), (0, a1), (0, a2), (0, a3), (0, 0), (0, x5), (0, v70076), (0, (-1)), (0, x8)], [(0, (-1))], _, _, _)
              exact ev_ret rfl (by decide) (by decide) ⟨⟨_, rfl, by omega, by omega, g70090, k70090⟩, fun r hr h0 => by cases hr; exfalso; omega⟩
      · refine ev_iconst ?_
        exact ev_ret rfl (by decide) (by decide) ⟨⟨_, rfl, by omega, by omega, g70075, k70075⟩, fun r hr h0 => by cases hr; exfalso; omega⟩
set_option maxHeartbeats 4000000 in
theorem s271f_s {G : GH} {h : JH} (g : Gd G h) {l0 : Int} (ll0 : 0 ≤ l0) (ul0 : l0 ≤ 6) {a1 : Int} (la1 : 0 ≤ a1) (ua1 : a1 ≤ 202) {a2 : Int} (la2 : 0 ≤ a2) (ua2 : a2 ≤ 15) {a3 : Int} (la3 : 0 ≤ a3) (ua3 : a3 ≤ 12) (hI : Iv h) (hL : Lv h l0 a1) (hq : h.2.2 54 (a1).toNat = 33) {M : Int} (hM : M = (7 * a3 - l0)) {d : Nat} (hd : 0 ≤ d) (rih : ∀ {G : GH} {h : JH} (g : Gd G h) {l0 : Int} (ll0 : 0 ≤ l0) (ul0 : l0 ≤ 6) {a1 : Int} (la1 : 0 ≤ a1) (ua1 : a1 ≤ 202) {a2 : Int} (la2 : 0 ≤ a2) (ua2 : a2 ≤ 15) {a3 : Int} (la3 : 0 ≤ a3) (ua3 : a3 ≤ 12) (hI : Iv h) (hL : Lv h l0 a1) (hm : M + 1 ≤ (7 * a3 - l0)), jOk d 0 0 272 [(2, 42), (0, a1), (0, a2), (0, a3), (0, 0)] h (fun v h' => PI G [(42, 21)] h 0 (-1) 200 v h' ∧ (∀ r, v = some (0, r) → 0 ≤ r → Ad h l0 a1 r))) : jOk (d + 3) 0 0 271 [(2, 42), (0, a1), (0, a2), (0, a3), (0, 0)] h (fun v h' => PI G [(42, 21)] h 0 (-1) 200 v h' ∧ (∀ r, v = some (0, r) → 0 ≤ r → Ad h l0 a1 r)) := by
  refine ⟨by decide, by rw [ml271]; exact Nat.le_of_ble_eq_true rfl, ?_⟩
  rw [ml271, pp271]
  show jEv _ none _ c271_0 0 0 _ (c271_0, [(2, 42), (0, a1), (0, a2), (0, a3), (0, 0), (9, 0), (9, 0), (9, 0), (9, 0)], [], h, 0, 0)
  have k0 := Kp.rf [(42, 21)] h
  refine ev_aload_n rfl ?_
  refine ev_iload_n rfl ?_
  refine ev_iconst ?_
  refine ev_iadd (r := (a1 + 1)) (by unfold w32; omega) ?_
  refine ev_in (d := (d + 1)) (a := 0) (b := 0) (cd' := c264_0) (m := 2) (L0 := [(2, 42), (0, (a1 + 1))]) (jcall_v (A := [(0, (a1 + 1))]) (S' := []) (r := 42) rfl (g.lt ad42) (g.tg ad42) (Nat.le_of_ble_eq_true rfl)) (by decide) ml264 pp264 (Nat.le_of_ble_eq_true rfl) rfl (by decide) (by decide) ?_
  refine ev_iload_n rfl ?_
  refine ev_aload_n rfl ?_
  obtain ⟨v70091, ev70091, lv70091, uv70091⟩ := g.rd ad42 (show 17 < 66 by decide) rf42_17
  refine g_getv (r := 42) (v := v70091) g ad42 (by decide) ft12_17 ev70091 ?_
  refine ev_icmpge f264_17 (fun c70092 => ?_) (fun c70092 => ?_)
  · refine ev_iconst ?_
    refine ev_ret rfl (by decide) (by decide) ?_
    show jEv _ _ _ _ _ _ _ (_, [(2, 42), (0, a1), (0, a2), (0, a3), (0, 0), (9, 0), (9, 0), (9, 0), (9, 0)], [(0, (-1))], _, _, _)
    refine ev_bipush ?_
    refine ev_isub (r := (-98)) (by decide) ?_
    refine ev_istore (L' := [(2, 42), (0, a1), (0, a2), (0, a3), (0, 0), (0, (-98)), (9, 0), (9, 0), (9, 0)]) (Nat.le_of_ble_eq_true rfl) rfl ?_
    refine ev_aload_n rfl ?_
    refine ev_iload rfl ?_
    refine ev_in (d := (d + 1)) (a := 0) (b := 0) (cd' := c245_0) (m := 2) (L0 := [(2, 42), (0, (-98))]) (jcall_v (A := [(0, (-98))]) (S' := []) (r := 42) rfl (g.lt ad42) (g.tg ad42) (Nat.le_of_ble_eq_true rfl)) (by decide) ml245 pp245 (Nat.le_of_ble_eq_true rfl) rfl (by decide) (by decide) ?_
    refine ev_iload_n rfl ?_
    refine ev_iconst ?_
    refine ev_aload_n rfl ?_
    obtain ⟨v70093, ev70093, lv70093, uv70093⟩ := g.rd ad42 (show 1 < 66 by decide) rf42_1
    refine g_getv (r := 42) (v := v70093) g ad42 (by decide) ft12_1 ev70093 ?_
    refine ev_iconst ?_
    refine ev_isub (r := (v70093 - 1)) (by unfold w32; omega) ?_
    refine ev_in (d := (d + 0)) (a := 0) (b := 0) (cd' := c242_0) (m := 3) (L0 := [(0, (-98)), (0, 0), (0, (v70093 - 1))]) (jcall_s (A := [(0, (v70093 - 1)), (0, 0), (0, (-98))]) (S' := []) (by decide) rfl (Nat.le_of_ble_eq_true rfl)) (by decide) ml242 pp242 (Nat.le_of_ble_eq_true rfl) rfl (by decide) (by decide) ?_
    refine ev_iload_n rfl ?_
    refine ev_iload_n rfl ?_
    refine ev_icmplt f242_14 (fun c70094 => ?_) (fun c70094 => absurd c70094 (by omega))
    refine ev_iconst ?_
    refine ev_ret rfl (by decide) (by decide) ?_
    show jEv _ _ _ _ _ _ _ (_, [(2, 42), (0, (-98))], [(0, 0)], _, _, _)
    refine ev_ret rfl (by decide) (by decide) ?_
    show jEv _ _ _ _ _ _ _ (_, [(2, 42), (0, a1), (0, a2), (0, a3), (0, 0), (0, (-98)), (9, 0), (9, 0), (9, 0)], [(0, 0)], _, _, _)
    refine ev_ifeq f271_31 (fun c70095 => ?_) (fun c70095 => absurd c70095 (by omega))
    refine ev_aload_n rfl ?_
    refine ev_iload_n rfl ?_
    refine ev_iconst ?_
    refine ev_iadd (r := (a1 + 1)) (by unfold w32; omega) ?_
    refine ev_in (d := (d + 1)) (a := 0) (b := 0) (cd' := c266_0) (m := 2) (L0 := [(2, 42), (0, (a1 + 1))]) (jcall_v (A := [(0, (a1 + 1))]) (S' := []) (r := 42) rfl (g.lt ad42) (g.tg ad42) (Nat.le_of_ble_eq_true rfl)) (by decide) ml266 pp266 (Nat.le_of_ble_eq_true rfl) rfl (by decide) (by decide) ?_
    refine ev_aload_n rfl ?_
    refine ev_iload_n rfl ?_
    refine g_putf (r := 42) g ad42 (by decide) ft12_20 (by decide) (fun e => absurd e nz12_20) rf42_20 (by decide) (by omega) (by omega) (fun h70096 e70096 g70096 => ?_)
    have k70096 := k0.wr e70096 rfl
    refine ev_iconst ?_
    refine ev_ret rfl (by decide) (by decide) ?_
    show jEv _ _ _ _ _ _ _ (_, [(2, 42), (0, a1), (0, a2), (0, a3), (0, 0), (0, (-98)), (9, 0), (9, 0), (9, 0)], [(0, (-1))], _, _, _)
    exact ev_ret rfl (by decide) (by decide) ⟨⟨_, rfl, by omega, by omega, g70096, k70096⟩, fun r hr h0 => by cases hr; exfalso; omega⟩
  · refine ev_aload_n rfl ?_
    refine g_getp (r := 42) (c := 54) g ad42 (by decide) (by decide) rf42_16 ft12_16 ?_
    refine ev_iload_n rfl ?_
    refine g_bald g ad54 rt54 (by omega) (by omega) (fun v70097 ev70097 lv70097 uv70097 => ?_)
    refine ev_goto f264_18 ?_
    refine ev_ret rfl (by decide) (by decide) ?_
    show jEv _ _ _ _ _ _ _ (_, [(2, 42), (0, a1), (0, a2), (0, a3), (0, 0), (9, 0), (9, 0), (9, 0), (9, 0)], [(0, v70097)], _, _, _)
    refine ev_bipush ?_
    refine ev_isub (r := (v70097 - 97)) (by unfold w32; omega) ?_
    refine ev_istore (L' := [(2, 42), (0, a1), (0, a2), (0, a3), (0, 0), (0, (v70097 - 97)), (9, 0), (9, 0), (9, 0)]) (Nat.le_of_ble_eq_true rfl) rfl ?_
    refine ev_aload_n rfl ?_
    refine ev_iload rfl ?_
    refine ev_in (d := (d + 1)) (a := 0) (b := 0) (cd' := c245_0) (m := 2) (L0 := [(2, 42), (0, (v70097 - 97))]) (jcall_v (A := [(0, (v70097 - 97))]) (S' := []) (r := 42) rfl (g.lt ad42) (g.tg ad42) (Nat.le_of_ble_eq_true rfl)) (by decide) ml245 pp245 (Nat.le_of_ble_eq_true rfl) rfl (by decide) (by decide) ?_
    refine ev_iload_n rfl ?_
    refine ev_iconst ?_
    refine ev_aload_n rfl ?_
    obtain ⟨v70098, ev70098, lv70098, uv70098⟩ := g.rd ad42 (show 1 < 66 by decide) rf42_1
    refine g_getv (r := 42) (v := v70098) g ad42 (by decide) ft12_1 ev70098 ?_
    refine ev_iconst ?_
    refine ev_isub (r := (v70098 - 1)) (by unfold w32; omega) ?_
    refine ev_in (d := (d + 0)) (a := 0) (b := 0) (cd' := c242_0) (m := 3) (L0 := [(0, (v70097 - 97)), (0, 0), (0, (v70098 - 1))]) (jcall_s (A := [(0, (v70098 - 1)), (0, 0), (0, (v70097 - 97))]) (S' := []) (by decide) rfl (Nat.le_of_ble_eq_true rfl)) (by decide) ml242 pp242 (Nat.le_of_ble_eq_true rfl) rfl (by decide) (by decide) ?_
    refine ev_iload_n rfl ?_
    refine ev_iload_n rfl ?_
    refine ev_icmplt f242_14 (fun c70099 => ?_) (fun c70099 => ?_)
    · refine ev_iconst ?_
      refine ev_ret rfl (by decide) (by decide) ?_
      show jEv _ _ _ _ _ _ _ (_, [(2, 42), (0, (v70097 - 97))], [(0, 0)], _, _, _)
      refine ev_ret rfl (by decide) (by decide) ?_
      show jEv _ _ _ _ _ _ _ (_, [(2, 42), (0, a1), (0, a2), (0, a3), (0, 0), (0, (v70097 - 97)), (9, 0), (9, 0), (9, 0)], [(0, 0)], _, _, _)
      refine ev_ifeq f271_31 (fun c70100 => ?_) (fun c70100 => absurd c70100 (by omega))
      refine ev_aload_n rfl ?_
      refine ev_iload_n rfl ?_
      refine ev_iconst ?_
      refine ev_iadd (r := (a1 + 1)) (by unfold w32; omega) ?_
      refine ev_in (d := (d + 1)) (a := 0) (b := 0) (cd' := c266_0) (m := 2) (L0 := [(2, 42), (0, (a1 + 1))]) (jcall_v (A := [(0, (a1 + 1))]) (S' := []) (r := 42) rfl (g.lt ad42) (g.tg ad42) (Nat.le_of_ble_eq_true rfl)) (by decide) ml266 pp266 (Nat.le_of_ble_eq_true rfl) rfl (by decide) (by decide) ?_
      refine ev_aload_n rfl ?_
      refine ev_iload_n rfl ?_
      refine g_putf (r := 42) g ad42 (by decide) ft12_20 (by decide) (fun e => absurd e nz12_20) rf42_20 (by decide) (by omega) (by omega) (fun h70101 e70101 g70101 => ?_)
      have k70101 := k0.wr e70101 rfl
      refine ev_iconst ?_
      refine ev_ret rfl (by decide) (by decide) ?_
      show jEv _ _ _ _ _ _ _ (_, [(2, 42), (0, a1), (0, a2), (0, a3), (0, 0), (0, (v70097 - 97)), (9, 0), (9, 0), (9, 0)], [(0, (-1))], _, _, _)
      exact ev_ret rfl (by decide) (by decide) ⟨⟨_, rfl, by omega, by omega, g70101, k70101⟩, fun r hr h0 => by cases hr; exfalso; omega⟩
    · refine ev_iload_n rfl ?_
      refine ev_iload_n rfl ?_
      refine ev_icmpgt f242_14 (fun c70102 => ?_) (fun c70102 => ?_)
      · refine ev_iconst ?_
        refine ev_ret rfl (by decide) (by decide) ?_
        show jEv _ _ _ _ _ _ _ (_, [(2, 42), (0, (v70097 - 97))], [(0, 0)], _, _, _)
        refine ev_ret rfl (by decide) (by decide) ?_
        show jEv _ _ _ _ _ _ _ (_, [(2, 42), (0, a1), (0, a2), (0, a3), (0, 0), (0, (v70097 - 97)), (9, 0), (9, 0), (9, 0)], [(0, 0)], _, _, _)
        refine ev_ifeq f271_31 (fun c70103 => ?_) (fun c70103 => absurd c70103 (by omega))
        refine ev_aload_n rfl ?_
        refine ev_iload_n rfl ?_
        refine ev_iconst ?_
        refine ev_iadd (r := (a1 + 1)) (by unfold w32; omega) ?_
        refine ev_in (d := (d + 1)) (a := 0) (b := 0) (cd' := c266_0) (m := 2) (L0 := [(2, 42), (0, (a1 + 1))]) (jcall_v (A := [(0, (a1 + 1))]) (S' := []) (r := 42) rfl (g.lt ad42) (g.tg ad42) (Nat.le_of_ble_eq_true rfl)) (by decide) ml266 pp266 (Nat.le_of_ble_eq_true rfl) rfl (by decide) (by decide) ?_
        refine ev_aload_n rfl ?_
        refine ev_iload_n rfl ?_
        refine g_putf (r := 42) g ad42 (by decide) ft12_20 (by decide) (fun e => absurd e nz12_20) rf42_20 (by decide) (by omega) (by omega) (fun h70104 e70104 g70104 => ?_)
        have k70104 := k0.wr e70104 rfl
        refine ev_iconst ?_
        refine ev_ret rfl (by decide) (by decide) ?_
        show jEv _ _ _ _ _ _ _ (_, [(2, 42), (0, a1), (0, a2), (0, a3), (0, 0), (0, (v70097 - 97)), (9, 0), (9, 0), (9, 0)], [(0, (-1))], _, _, _)
        exact ev_ret rfl (by decide) (by decide) ⟨⟨_, rfl, by omega, by omega, g70104, k70104⟩, fun r hr h0 => by cases hr; exfalso; omega⟩
      · refine ev_iconst ?_
        refine ev_goto f242_15 ?_
        refine ev_ret rfl (by decide) (by decide) ?_
        show jEv _ _ _ _ _ _ _ (_, [(2, 42), (0, (v70097 - 97))], [(0, 1)], _, _, _)
        refine ev_ret rfl (by decide) (by decide) ?_
        show jEv _ _ _ _ _ _ _ (_, [(2, 42), (0, a1), (0, a2), (0, a3), (0, 0), (0, (v70097 - 97)), (9, 0), (9, 0), (9, 0)], [(0, 1)], _, _, _)
        refine ev_ifeq f271_31 (fun c70105 => absurd c70105 (by omega)) (fun c70105 => ?_)
        refine ev_iload_n rfl ?_
        refine ev_iload rfl ?_
        refine g_ishrB (a := 15) (by omega) (by omega) (by decide) (fun v70106 ev70106 lv70106 uv70106 => ?_)
        refine ev_iconst ?_
        refine g_iandB (b := 1) (by omega) (by omega) (by decide) (fun v70107 ev70107 lv70107 uv70107 => ?_)
        refine ev_iconst ?_
        refine ev_icmpne f271_39 (fun c70108 => ?_) (fun c70108 => ?_)
        · refine ev_iload_n rfl ?_
          refine ev_iconst ?_
          refine ev_iadd (r := (a1 + 2)) (by unfold w32; omega) ?_
          refine ev_istore (L' := [(2, 42), (0, a1), (0, a2), (0, a3), (0, 0), (0, (v70097 - 97)), (0, (a1 + 2)), (9, 0), (9, 0)]) (Nat.le_of_ble_eq_true rfl) rfl ?_
          refine ev_aload_n rfl ?_
          refine ev_iload rfl ?_
          refine ev_in (d := (d + 1)) (a := 0) (b := 0) (cd' := c264_0) (m := 2) (L0 := [(2, 42), (0, (a1 + 2))]) (jcall_v (A := [(0, (a1 + 2))]) (S' := []) (r := 42) rfl (g.lt ad42) (g.tg ad42) (Nat.le_of_ble_eq_true rfl)) (by decide) ml264 pp264 (Nat.le_of_ble_eq_true rfl) rfl (by decide) (by decide) ?_
          refine ev_iload_n rfl ?_
          refine ev_aload_n rfl ?_
          refine g_getv (r := 42) (v := v70091) g ad42 (by decide) ft12_17 (ev70091) ?_
          refine ev_icmpge f264_17 (fun c70109 => ?_) (fun c70109 => ?_)
          · refine ev_iconst ?_
            refine ev_ret rfl (by decide) (by decide) ?_
            show jEv _ _ _ _ _ _ _ (_, [(2, 42), (0, a1), (0, a2), (0, a3), (0, 0), (0, (v70097 - 97)), (0, (a1 + 2)), (9, 0), (9, 0)], [(0, (-1))], _, _, _)
            refine ev_bipush ?_
            refine ev_icmpne f271_61 (fun c70110 => ?_) (fun c70110 => absurd c70110 (by omega))
            refine ev_aload_n rfl ?_
            refine ev_iload rfl ?_
            refine ev_in (d := (d + 1)) (a := 0) (b := 0) (cd' := c266_0) (m := 2) (L0 := [(2, 42), (0, (a1 + 2))]) (jcall_v (A := [(0, (a1 + 2))]) (S' := []) (r := 42) rfl (g.lt ad42) (g.tg ad42) (Nat.le_of_ble_eq_true rfl)) (by decide) ml266 pp266 (Nat.le_of_ble_eq_true rfl) rfl (by decide) (by decide) ?_
            refine ev_aload_n rfl ?_
            refine ev_iload_n rfl ?_
            refine g_putf (r := 42) g ad42 (by decide) ft12_20 (by decide) (fun e => absurd e nz12_20) rf42_20 (by decide) (by omega) (by omega) (fun h70111 e70111 g70111 => ?_)
            have k70111 := k0.wr e70111 rfl
            refine ev_iconst ?_
            refine ev_ret rfl (by decide) (by decide) ?_
            show jEv _ _ _ _ _ _ _ (_, [(2, 42), (0, a1), (0, a2), (0, a3), (0, 0), (0, (v70097 - 97)), (0, (a1 + 2)), (9, 0), (9, 0)], [(0, (-1))], _, _, _)
            exact ev_ret rfl (by decide) (by decide) ⟨⟨_, rfl, by omega, by omega, g70111, k70111⟩, fun r hr h0 => by cases hr; exfalso; omega⟩
          · refine ev_aload_n rfl ?_
            refine g_getp (r := 42) (c := 54) g ad42 (by decide) (by decide) rf42_16 ft12_16 ?_
            refine ev_iload_n rfl ?_
            refine g_bald g ad54 rt54 (by omega) (by omega) (fun v70112 ev70112 lv70112 uv70112 => ?_)
            refine ev_goto f264_18 ?_
            refine ev_ret rfl (by decide) (by decide) ?_
            show jEv _ _ _ _ _ _ _ (_, [(2, 42), (0, a1), (0, a2), (0, a3), (0, 0), (0, (v70097 - 97)), (0, (a1 + 2)), (9, 0), (9, 0)], [(0, v70112)], _, _, _)
            refine ev_bipush ?_
            refine ev_icmpne f271_61 (fun c70113 => ?_) (fun c70113 => ?_)
            · refine ev_aload_n rfl ?_
              refine ev_iload rfl ?_
              refine ev_in (d := (d + 1)) (a := 0) (b := 0) (cd' := c266_0) (m := 2) (L0 := [(2, 42), (0, (a1 + 2))]) (jcall_v (A := [(0, (a1 + 2))]) (S' := []) (r := 42) rfl (g.lt ad42) (g.tg ad42) (Nat.le_of_ble_eq_true rfl)) (by decide) ml266 pp266 (Nat.le_of_ble_eq_true rfl) rfl (by decide) (by decide) ?_
              refine ev_aload_n rfl ?_
              refine ev_iload_n rfl ?_
              refine g_putf (r := 42) g ad42 (by decide) ft12_20 (by decide) (fun e => absurd e nz12_20) rf42_20 (by decide) (by omega) (by omega) (fun h70114 e70114 g70114 => ?_)
              have k70114 := k0.wr e70114 rfl
              refine ev_iconst ?_
              refine ev_ret rfl (by decide) (by decide) ?_
              show jEv _ _ _ _ _ _ _ (_, [(2, 42), (0, a1), (0, a2), (0, a3), (0, 0), (0, (v70097 - 97)), (0, (a1 + 2)), (9, 0), (9, 0)], [(0, (-1))], _, _, _)
              exact ev_ret rfl (by decide) (by decide) ⟨⟨_, rfl, by omega, by omega, g70114, k70114⟩, fun r hr h0 => by cases hr; exfalso; omega⟩
            · refine ev_iload_n rfl ?_
              refine ev_bipush ?_
              refine ev_icmpne f271_68 (fun c70115 => ?_) (fun c70115 => ?_)
              · refine ev_aload_n rfl ?_
                refine ev_iload rfl ?_
                refine ev_iconst ?_
                refine ev_iload rfl ?_
                refine ev_in (d := (d + 1)) (a := 0) (b := 0) (cd' := c267_0) (m := 6) (L0 := [(2, 42), (0, 0), (0, 2), (0, (v70097 - 97)), (9, 0), (9, 0)]) (jcall_v (A := [(0, (v70097 - 97)), (0, 2), (0, 0)]) (S' := []) (r := 42) rfl (g.lt ad42) (g.tg ad42) (Nat.le_of_ble_eq_true rfl)) (by decide) ml267 pp267 (Nat.le_of_ble_eq_true rfl) rfl (by decide) (by decide) ?_
                refine ev_iload_n rfl ?_
                refine ev_ifne f267_6 (fun c70116 => absurd c70116 (by omega)) (fun c70116 => ?_)
                refine ev_iconst ?_
                refine ev_ret rfl (by decide) (by decide) ?_
                show jEv _ _ _ _ _ _ _ (_, [(2, 42), (0, a1), (0, a2), (0, a3), (0, 0), (0, (v70097 - 97)), (0, (a1 + 2)), (9, 0), (9, 0)], [(0, (-1))], _, _, _)
                refine ev_istore (L' := [(2, 42), (0, a1), (0, a2), (0, a3), (0, 0), (0, (v70097 - 97)), (0, (a1 + 2)), (0, (-1)), (9, 0)]) (Nat.le_of_ble_eq_true rfl) rfl ?_
                refine ev_iinc (w := (a1 + 3)) (L' := [(2, 42), (0, a1), (0, a2), (0, a3), (0, 0), (0, (v70097 - 97)), (0, (a1 + 3)), (0, (-1)), (9, 0)]) rfl (by unfold w32; omega) rfl ?_
                refine ev_iconst ?_
                refine ev_istore (L' := [(2, 42), (0, a1), (0, a2), (0, a3), (0, 0), (0, (v70097 - 97)), (0, (a1 + 3)), (0, (-1)), (0, 0)]) (Nat.le_of_ble_eq_true rfl) rfl ?_
                obtain ⟨v70117, ev70117, lv70117, uv70117⟩ := g.rd ad43 (show ((v70097 - 97)).toNat < 4 by omega) (rt43 _)
                have xv70117 := (g.ex.2.1 ((v70097 - 97) : Int).toNat (by rw [(ev70098)]; omega))
                rw [ev70117] at xv70117
                exact (s271f_s_l ll0 ul0 la1 ua1 la2 ua2 la3 ua3 hI hL hq hM hd rih 8) _ _ _ _ _ _ g k0 (by omega) (by omega) (by omega) (by omega) (by omega) (by omega) (by omega) (by omega) (by omega) (by omega) (by omega) (by omega) (by omega) (by omega) (ev70098) (by omega) (by omega) ev70117 (by omega) (by omega) (Ad.step (r' := (a1 + 3)) (Ad.step (r' := (a1 + 2)) (Ad.step (r' := (a1 + 1)) (Ad.rf _ _ _) (by omega) k0 (fun _ => rfl) (hq) (by omega) (by omega) (by omega)) (by omega) k0 (fun _ => rfl) (ev70097) (by omega) (by omega) (by omega)) (by omega) k0 (fun _ => rfl) (ev70112) (by omega) (by omega) (by omega)) (by omega)
              · refine ev_aload_n rfl ?_
                refine ev_iload rfl ?_
                refine ev_in (d := (d + 1)) (a := 0) (b := 0) (cd' := c266_0) (m := 2) (L0 := [(2, 42), (0, (a1 + 2))]) (jcall_v (A := [(0, (a1 + 2))]) (S' := []) (r := 42) rfl (g.lt ad42) (g.tg ad42) (Nat.le_of_ble_eq_true rfl)) (by decide) ml266 pp266 (Nat.le_of_ble_eq_true rfl) rfl (by decide) (by decide) ?_
                refine ev_aload_n rfl ?_
                refine ev_iload_n rfl ?_
                refine g_putf (r := 42) g ad42 (by decide) ft12_20 (by decide) (fun e => absurd e nz12_20) rf42_20 (by decide) (by omega) (by omega) (fun h70118 e70118 g70118 => ?_)
                have k70118 := k0.wr e70118 rfl
                refine ev_iconst ?_
                refine ev_ret rfl (by decide) (by decide) ?_
                show jEv _ _ _ _ _ _ _ (_, [(2, 42), (0, a1), (0, a2), (0, a3), (0, 0), (0, (v70097 - 97)), (0, (a1 + 2)), (9, 0), (9, 0)], [(0, (-1))], _, _, _)
                exact ev_ret rfl (by decide) (by decide) ⟨⟨_, rfl, by omega, by omega, g70118, k70118⟩, fun r hr h0 => by cases hr; exfalso; omega⟩
        · refine ev_aload_n rfl ?_
          refine ev_iload_n rfl ?_
          refine ev_iconst ?_
          refine ev_iadd (r := (a1 + 1)) (by unfold w32; omega) ?_
          refine ev_in (d := (d + 1)) (a := 0) (b := 0) (cd' := c266_0) (m := 2) (L0 := [(2, 42), (0, (a1 + 1))]) (jcall_v (A := [(0, (a1 + 1))]) (S' := []) (r := 42) rfl (g.lt ad42) (g.tg ad42) (Nat.le_of_ble_eq_true rfl)) (by decide) ml266 pp266 (Nat.le_of_ble_eq_true rfl) rfl (by decide) (by decide) ?_
          refine ev_aload_n rfl ?_
          refine ev_iload_n rfl ?_
          refine g_putf (r := 42) g ad42 (by decide) ft12_20 (by decide) (fun e => absurd e nz12_20) rf42_20 (by decide) (by omega) (by omega) (fun h70119 e70119 g70119 => ?_)
          have k70119 := k0.wr e70119 rfl
          refine ev_iconst ?_
          refine ev_ret rfl (by decide) (by decide) ?_
          show jEv _ _ _ _ _ _ _ (_, [(2, 42), (0, a1), (0, a2), (0, a3), (0, 0), (0, (v70097 - 97)), (9, 0), (9, 0), (9, 0)], [(0, (-1))], _, _, _)
          exact ev_ret rfl (by decide) (by decide) ⟨⟨_, rfl, by omega, by omega, g70119, k70119⟩, fun r hr h0 => by cases hr; exfalso; omega⟩
set_option maxHeartbeats 4000000 in
theorem s272f_s {G : GH} {h : JH} (g : Gd G h) {l0 : Int} (ll0 : 0 ≤ l0) (ul0 : l0 ≤ 6) {a1 : Int} (la1 : 0 ≤ a1) (ua1 : a1 ≤ 202) {a2 : Int} (la2 : 0 ≤ a2) (ua2 : a2 ≤ 15) {a3 : Int} (la3 : 0 ≤ a3) (ua3 : a3 ≤ 12) (hI : Iv h) (hL : Lv h l0 a1) {M : Int} (hM : M = (7 * a3 - l0)) {d : Nat} (hd : 3 ≤ d) (rih : ∀ {G : GH} {h : JH} (g : Gd G h) {l0 : Int} (ll0 : 0 ≤ l0) (ul0 : l0 ≤ 6) {a1 : Int} (la1 : 0 ≤ a1) (ua1 : a1 ≤ 202) {a2 : Int} (la2 : 0 ≤ a2) (ua2 : a2 ≤ 15) {a3 : Int} (la3 : 0 ≤ a3) (ua3 : a3 ≤ 12) (hI : Iv h) (hL : Lv h l0 a1) (hm : M + 1 ≤ (7 * a3 - l0)), jOk d 0 0 272 [(2, 42), (0, a1), (0, a2), (0, a3), (0, 0)] h (fun v h' => PI G [(42, 21)] h 0 (-1) 200 v h' ∧ (∀ r, v = some (0, r) → 0 ≤ r → Ad h l0 a1 r))) : jOk (d + 4) 0 0 272 [(2, 42), (0, a1), (0, a2), (0, a3), (0, 0)] h (fun v h' => PI G [(42, 21)] h 0 (-1) 200 v h' ∧ (∀ r, v = some (0, r) → 0 ≤ r → Ad h l0 a1 r)) := by
  refine ⟨by decide, by rw [ml272]; exact Nat.le_of_ble_eq_true rfl, ?_⟩
  rw [ml272, pp272]
  show jEv _ none _ c272_0 0 0 _ (c272_0, [(2, 42), (0, a1), (0, a2), (0, a3), (0, 0), (9, 0), (9, 0)], [], h, 0, 0)
  have k0 := Kp.rf [(42, 21)] h
  refine ev_aload_n rfl ?_
  refine ev_iload_n rfl ?_
  refine ev_in (d := (d + 2)) (a := 0) (b := 0) (cd' := c264_0) (m := 2) (L0 := [(2, 42), (0, a1)]) (jcall_v (A := [(0, a1)]) (S' := []) (r := 42) rfl (g.lt ad42) (g.tg ad42) (Nat.le_of_ble_eq_true rfl)) (by decide) ml264 pp264 (Nat.le_of_ble_eq_true rfl) rfl (by decide) (by decide) ?_
  refine ev_iload_n rfl ?_
  refine ev_aload_n rfl ?_
  obtain ⟨v70216, ev70216, lv70216, uv70216⟩ := g.rd ad42 (show 17 < 66 by decide) rf42_17
  refine g_getv (r := 42) (v := v70216) g ad42 (by decide) ft12_17 ev70216 ?_
  refine ev_icmpge f264_17 (fun c70217 => ?_) (fun c70217 => ?_)
  · refine ev_iconst ?_
    refine ev_ret rfl (by decide) (by decide) ?_
    show jEv _ _ _ _ _ _ _ (_, [(2, 42), (0, a1), (0, a2), (0, a3), (0, 0), (9, 0), (9, 0)], [(0, (-1))], _, _, _)
    refine ev_istore (L' := [(2, 42), (0, a1), (0, a2), (0, a3), (0, 0), (0, (-1)), (9, 0)]) (Nat.le_of_ble_eq_true rfl) rfl ?_
    refine ev_iload rfl ?_
    refine ev_bipush ?_
    refine ev_icmpne f272_24 (fun c70218 => ?_) (fun c70218 => absurd c70218 (by omega))
    refine ev_iload rfl ?_
    refine ev_bipush ?_
    refine ev_icmpne f272_41 (fun c70219 => ?_) (fun c70219 => absurd c70219 (by omega))
    refine ev_iload rfl ?_
    refine ev_bipush ?_
    refine ev_icmpeq f272_56 (fun c70220 => absurd c70220 (by omega)) (fun c70220 => ?_)
    refine ev_aload_n rfl ?_
    refine ev_iload_n rfl ?_
    refine ev_in (d := (d + 2)) (a := 0) (b := 0) (cd' := c265_0) (m := 2) (L0 := [(2, 42), (0, a1)]) (jcall_v (A := [(0, a1)]) (S' := []) (r := 42) rfl (g.lt ad42) (g.tg ad42) (Nat.le_of_ble_eq_true rfl)) (by decide) ml265 pp265 (Nat.le_of_ble_eq_true rfl) rfl (by decide) (by decide) ?_
    refine ev_aload_n rfl ?_
    refine ev_iload_n rfl ?_
    refine ev_in (d := (d + 1)) (a := 0) (b := 0) (cd' := c264_0) (m := 2) (L0 := [(2, 42), (0, a1)]) (jcall_v (A := [(0, a1)]) (S' := []) (r := 42) rfl (g.lt ad42) (g.tg ad42) (Nat.le_of_ble_eq_true rfl)) (by decide) ml264 pp264 (Nat.le_of_ble_eq_true rfl) rfl (by decide) (by decide) ?_
    refine ev_iload_n rfl ?_
    refine ev_aload_n rfl ?_
    refine g_getv (r := 42) (v := v70216) g ad42 (by decide) ft12_17 (ev70216) ?_
    refine ev_icmpge f264_17 (fun c70221 => ?_) (fun c70221 => absurd c70221 (by omega))
    refine ev_iconst ?_
    refine ev_ret rfl (by decide) (by decide) ?_
    show jEv _ _ _ _ _ _ _ (_, [(2, 42), (0, a1)], [(0, (-1))], _, _, _)
    refine ev_bipush ?_
    refine ev_bipush ?_
    refine ev_in (d := (d + 1)) (a := 0) (b := 0) (cd' := c242_0) (m := 3) (L0 := [(0, (-1)), (0, 48), (0, 57)]) (jcall_s (A := [(0, 57), (0, 48), (0, (-1))]) (S' := []) (by decide) rfl (Nat.le_of_ble_eq_true rfl)) (by decide) ml242 pp242 (Nat.le_of_ble_eq_true rfl) rfl (by decide) (by decide) ?_
    refine ev_iload_n rfl ?_
    refine ev_iload_n rfl ?_
    refine ev_icmplt f242_14 (fun c70222 => ?_) (fun c70222 => absurd c70222 (by omega))
    refine ev_iconst ?_
    refine ev_ret rfl (by decide) (by decide) ?_
    show jEv _ _ _ _ _ _ _ (_, [(2, 42), (0, a1)], [(0, 0)], _, _, _)
    refine ev_ret rfl (by decide) (by decide) ?_
    show jEv _ _ _ _ _ _ _ (_, [(2, 42), (0, a1), (0, a2), (0, a3), (0, 0), (0, (-1)), (9, 0)], [(0, 0)], _, _, _)
    refine ev_ifeq f272_64 (fun c70223 => ?_) (fun c70223 => absurd c70223 (by omega))
    refine ev_iload rfl ?_
    refine ev_bipush ?_
    refine ev_isub (r := (-66)) (by decide) ?_
    refine ev_istore (L' := [(2, 42), (0, a1), (0, a2), (0, a3), (0, 0), (0, (-1)), (0, (-66))]) (Nat.le_of_ble_eq_true rfl) rfl ?_
    refine ev_iload rfl ?_
    refine ev_iconst ?_
    refine ev_aload_n rfl ?_
    obtain ⟨v70224, ev70224, lv70224, uv70224⟩ := g.rd ad42 (show 19 < 66 by decide) rf42_19
    refine g_getv (r := 42) (v := v70224) g ad42 (by decide) ft12_19 ev70224 ?_
    refine ev_iconst ?_
    refine ev_isub (r := (v70224 - 1)) (by unfold w32; omega) ?_
    refine ev_in (d := (d + 2)) (a := 0) (b := 0) (cd' := c242_0) (m := 3) (L0 := [(0, (-66)), (0, 0), (0, (v70224 - 1))]) (jcall_s (A := [(0, (v70224 - 1)), (0, 0), (0, (-66))]) (S' := []) (by decide) rfl (Nat.le_of_ble_eq_true rfl)) (by decide) ml242 pp242 (Nat.le_of_ble_eq_true rfl) rfl (by decide) (by decide) ?_
    refine ev_iload_n rfl ?_
    refine ev_iload_n rfl ?_
    refine ev_icmplt f242_14 (fun c70225 => ?_) (fun c70225 => absurd c70225 (by omega))
    refine ev_iconst ?_
    refine ev_ret rfl (by decide) (by decide) ?_
    show jEv _ _ _ _ _ _ _ (_, [(2, 42), (0, a1), (0, a2), (0, a3), (0, 0), (0, (-1)), (0, (-66))], [(0, 0)], _, _, _)
    refine ev_ifne f272_92 (fun c70226 => absurd c70226 (by omega)) (fun c70226 => ?_)
    refine ev_aload_n rfl ?_
    refine ev_iload_n rfl ?_
    refine ev_in (d := (d + 2)) (a := 0) (b := 0) (cd' := c266_0) (m := 2) (L0 := [(2, 42), (0, a1)]) (jcall_v (A := [(0, a1)]) (S' := []) (r := 42) rfl (g.lt ad42) (g.tg ad42) (Nat.le_of_ble_eq_true rfl)) (by decide) ml266 pp266 (Nat.le_of_ble_eq_true rfl) rfl (by decide) (by decide) ?_
    refine ev_aload_n rfl ?_
    refine ev_iload_n rfl ?_
    refine g_putf (r := 42) g ad42 (by decide) ft12_20 (by decide) (fun e => absurd e nz12_20) rf42_20 (by decide) (by omega) (by omega) (fun h70227 e70227 g70227 => ?_)
    have k70227 := k0.wr e70227 rfl
    refine ev_iconst ?_
    refine ev_ret rfl (by decide) (by decide) ?_
    show jEv _ _ _ _ _ _ _ (_, [(2, 42), (0, a1), (0, a2), (0, a3), (0, 0), (0, (-1)), (0, (-66))], [(0, (-1))], _, _, _)
    exact ev_ret rfl (by decide) (by decide) ⟨⟨_, rfl, by omega, by omega, g70227, k70227⟩, fun r hr h0 => by cases hr; exfalso; omega⟩
  · refine ev_aload_n rfl ?_
    refine g_getp (r := 42) (c := 54) g ad42 (by decide) (by decide) rf42_16 ft12_16 ?_
    refine ev_iload_n rfl ?_
    refine g_bald g ad54 rt54 (by omega) (by omega) (fun v70228 ev70228 lv70228 uv70228 => ?_)
    refine ev_goto f264_18 ?_
    refine ev_ret rfl (by decide) (by decide) ?_
    show jEv _ _ _ _ _ _ _ (_, [(2, 42), (0, a1), (0, a2), (0, a3), (0, 0), (9, 0), (9, 0)], [(0, v70228)], _, _, _)
    refine ev_istore (L' := [(2, 42), (0, a1), (0, a2), (0, a3), (0, 0), (0, v70228), (9, 0)]) (Nat.le_of_ble_eq_true rfl) rfl ?_
    refine ev_iload rfl ?_
    refine ev_bipush ?_
    refine ev_icmpne f272_24 (fun c70229 => ?_) (fun c70229 => ?_)
    · refine ev_iload rfl ?_
      refine ev_bipush ?_
      refine ev_icmpne f272_41 (fun c70230 => ?_) (fun c70230 => ?_)
      · refine ev_iload rfl ?_
        refine ev_bipush ?_
        refine ev_icmpeq f272_56 (fun c70231 => ?_) (fun c70231 => ?_)
        · refine ev_aload_n rfl ?_
          refine ev_iload_n rfl ?_
          refine ev_iload rfl ?_
          refine ev_call (jcall_v (A := [(0, 0), (0, a1)]) (S' := []) (r := 42) rfl (g.lt ad42) (g.tg ad42) (Nat.le_of_ble_eq_true rfl)) (jOk_le (by omega) (s269f g (by omega) (by omega) (by omega) (by omega) (l0 := l0) )) (by decide) (by decide) (fun w70232 h70232 q70232 => ?_)
          obtain ⟨q70232, ad70232⟩ := q70232
          obtain ⟨v70233, rfl, lv70233, uv70233, g70232, kk70232⟩ := q70232
          have ad70232 := ad70232 _ rfl
          have k70232 := k0.tr kk70232 (by decide)
          show jEv _ _ _ _ _ _ _ (_, [(2, 42), (0, a1), (0, a2), (0, a3), (0, 0), (0, v70228), (9, 0)], [(0, v70233)], _, _, _)
          exact ev_ret rfl (by decide) (by decide) ⟨⟨_, rfl, by omega, by omega, g70232, k70232⟩, fun r hr h0 => by cases hr; exact ad70232 h0⟩
        · refine ev_aload_n rfl ?_
          refine ev_iload_n rfl ?_
          refine ev_in (d := (d + 2)) (a := 0) (b := 0) (cd' := c265_0) (m := 2) (L0 := [(2, 42), (0, a1)]) (jcall_v (A := [(0, a1)]) (S' := []) (r := 42) rfl (g.lt ad42) (g.tg ad42) (Nat.le_of_ble_eq_true rfl)) (by decide) ml265 pp265 (Nat.le_of_ble_eq_true rfl) rfl (by decide) (by decide) ?_
          refine ev_aload_n rfl ?_
          refine ev_iload_n rfl ?_
          refine ev_in (d := (d + 1)) (a := 0) (b := 0) (cd' := c264_0) (m := 2) (L0 := [(2, 42), (0, a1)]) (jcall_v (A := [(0, a1)]) (S' := []) (r := 42) rfl (g.lt ad42) (g.tg ad42) (Nat.le_of_ble_eq_true rfl)) (by decide) ml264 pp264 (Nat.le_of_ble_eq_true rfl) rfl (by decide) (by decide) ?_
          refine ev_iload_n rfl ?_
          refine ev_aload_n rfl ?_
          refine g_getv (r := 42) (v := v70216) g ad42 (by decide) ft12_17 (ev70216) ?_
          refine ev_icmpge f264_17 (fun c70234 => absurd c70234 (by omega)) (fun c70234 => ?_)
          refine ev_aload_n rfl ?_
          refine g_getp (r := 42) (c := 54) g ad42 (by decide) (by decide) rf42_16 ft12_16 ?_
          refine ev_iload_n rfl ?_
          refine g_baldv (v := v70228) g ad54 (by omega) (by omega) (ev70228) ?_
          refine ev_goto f264_18 ?_
          refine ev_ret rfl (by decide) (by decide) ?_
          show jEv _ _ _ _ _ _ _ (_, [(2, 42), (0, a1)], [(0, v70228)], _, _, _)
          refine ev_bipush ?_
          refine ev_bipush ?_
          refine ev_in (d := (d + 1)) (a := 0) (b := 0) (cd' := c242_0) (m := 3) (L0 := [(0, v70228), (0, 48), (0, 57)]) (jcall_s (A := [(0, 57), (0, 48), (0, v70228)]) (S' := []) (by decide) rfl (Nat.le_of_ble_eq_true rfl)) (by decide) ml242 pp242 (Nat.le_of_ble_eq_true rfl) rfl (by decide) (by decide) ?_
          refine ev_iload_n rfl ?_
          refine ev_iload_n rfl ?_
          refine ev_icmplt f242_14 (fun c70235 => ?_) (fun c70235 => ?_)
          · refine ev_iconst ?_
            refine ev_ret rfl (by decide) (by decide) ?_
            show jEv _ _ _ _ _ _ _ (_, [(2, 42), (0, a1)], [(0, 0)], _, _, _)
            refine ev_ret rfl (by decide) (by decide) ?_
            show jEv _ _ _ _ _ _ _ (_, [(2, 42), (0, a1), (0, a2), (0, a3), (0, 0), (0, v70228), (9, 0)], [(0, 0)], _, _, _)
            refine ev_ifeq f272_64 (fun c70236 => ?_) (fun c70236 => absurd c70236 (by omega))
            refine ev_iload rfl ?_
            refine ev_bipush ?_
            refine ev_isub (r := (v70228 - 65)) (by unfold w32; omega) ?_
            refine ev_istore (L' := [(2, 42), (0, a1), (0, a2), (0, a3), (0, 0), (0, v70228), (0, (v70228 - 65))]) (Nat.le_of_ble_eq_true rfl) rfl ?_
            refine ev_iload rfl ?_
            refine ev_iconst ?_
            refine ev_aload_n rfl ?_
            obtain ⟨v70237, ev70237, lv70237, uv70237⟩ := g.rd ad42 (show 19 < 66 by decide) rf42_19
            refine g_getv (r := 42) (v := v70237) g ad42 (by decide) ft12_19 ev70237 ?_
            refine ev_iconst ?_
            refine ev_isub (r := (v70237 - 1)) (by unfold w32; omega) ?_
            refine ev_in (d := (d + 2)) (a := 0) (b := 0) (cd' := c242_0) (m := 3) (L0 := [(0, (v70228 - 65)), (0, 0), (0, (v70237 - 1))]) (jcall_s (A := [(0, (v70237 - 1)), (0, 0), (0, (v70228 - 65))]) (S' := []) (by decide) rfl (Nat.le_of_ble_eq_true rfl)) (by decide) ml242 pp242 (Nat.le_of_ble_eq_true rfl) rfl (by decide) (by decide) ?_
            refine ev_iload_n rfl ?_
            refine ev_iload_n rfl ?_
            refine ev_icmplt f242_14 (fun c70238 => ?_) (fun c70238 => absurd c70238 (by omega))
            refine ev_iconst ?_
            refine ev_ret rfl (by decide) (by decide) ?_
            show jEv _ _ _ _ _ _ _ (_, [(2, 42), (0, a1), (0, a2), (0, a3), (0, 0), (0, v70228), (0, (v70228 - 65))], [(0, 0)], _, _, _)
            refine ev_ifne f272_92 (fun c70239 => absurd c70239 (by omega)) (fun c70239 => ?_)
            refine ev_aload_n rfl ?_
            refine ev_iload_n rfl ?_
            refine ev_in (d := (d + 2)) (a := 0) (b := 0) (cd' := c266_0) (m := 2) (L0 := [(2, 42), (0, a1)]) (jcall_v (A := [(0, a1)]) (S' := []) (r := 42) rfl (g.lt ad42) (g.tg ad42) (Nat.le_of_ble_eq_true rfl)) (by decide) ml266 pp266 (Nat.le_of_ble_eq_true rfl) rfl (by decide) (by decide) ?_
            refine ev_aload_n rfl ?_
            refine ev_iload_n rfl ?_
            refine g_putf (r := 42) g ad42 (by decide) ft12_20 (by decide) (fun e => absurd e nz12_20) rf42_20 (by decide) (by omega) (by omega) (fun h70240 e70240 g70240 => ?_)
            have k70240 := k0.wr e70240 rfl
            refine ev_iconst ?_
            refine ev_ret rfl (by decide) (by decide) ?_
            show jEv _ _ _ _ _ _ _ (_, [(2, 42), (0, a1), (0, a2), (0, a3), (0, 0), (0, v70228), (0, (v70228 - 65))], [(0, (-1))], _, _, _)
            exact ev_ret rfl (by decide) (by decide) ⟨⟨_, rfl, by omega, by omega, g70240, k70240⟩, fun r hr h0 => by cases hr; exfalso; omega⟩
          · refine ev_iload_n rfl ?_
            refine ev_iload_n rfl ?_
            refine ev_icmpgt f242_14 (fun c70241 => ?_) (fun c70241 => ?_)
            · refine ev_iconst ?_
              refine ev_ret rfl (by decide) (by decide) ?_
              show jEv _ _ _ _ _ _ _ (_, [(2, 42), (0, a1)], [(0, 0)], _, _, _)
              refine ev_ret rfl (by decide) (by decide) ?_
              show jEv _ _ _ _ _ _ _ (_, [(2, 42), (0, a1), (0, a2), (0, a3), (0, 0), (0, v70228), (9, 0)], [(0, 0)], _, _, _)
              refine ev_ifeq f272_64 (fun c70242 => ?_) (fun c70242 => absurd c70242 (by omega))
              refine ev_iload rfl ?_
              refine ev_bipush ?_
              refine ev_isub (r := (v70228 - 65)) (by unfold w32; omega) ?_
              refine ev_istore (L' := [(2, 42), (0, a1), (0, a2), (0, a3), (0, 0), (0, v70228), (0, (v70228 - 65))]) (Nat.le_of_ble_eq_true rfl) rfl ?_
              refine ev_iload rfl ?_
              refine ev_iconst ?_
              refine ev_aload_n rfl ?_
              obtain ⟨v70243, ev70243, lv70243, uv70243⟩ := g.rd ad42 (show 19 < 66 by decide) rf42_19
              refine g_getv (r := 42) (v := v70243) g ad42 (by decide) ft12_19 ev70243 ?_
              refine ev_iconst ?_
              refine ev_isub (r := (v70243 - 1)) (by unfold w32; omega) ?_
              refine ev_in (d := (d + 2)) (a := 0) (b := 0) (cd' := c242_0) (m := 3) (L0 := [(0, (v70228 - 65)), (0, 0), (0, (v70243 - 1))]) (jcall_s (A := [(0, (v70243 - 1)), (0, 0), (0, (v70228 - 65))]) (S' := []) (by decide) rfl (Nat.le_of_ble_eq_true rfl)) (by decide) ml242 pp242 (Nat.le_of_ble_eq_true rfl) rfl (by decide) (by decide) ?_
              refine ev_iload_n rfl ?_
              refine ev_iload_n rfl ?_
              refine ev_icmplt f242_14 (fun c70244 => ?_) (fun c70244 => ?_)
              · refine ev_iconst ?_
                refine ev_ret rfl (by decide) (by decide) ?_
                show jEv _ _ _ _ _ _ _ (_, [(2, 42), (0, a1), (0, a2), (0, a3), (0, 0), (0, v70228), (0, (v70228 - 65))], [(0, 0)], _, _, _)
                refine ev_ifne f272_92 (fun c70245 => absurd c70245 (by omega)) (fun c70245 => ?_)
                refine ev_aload_n rfl ?_
                refine ev_iload_n rfl ?_
                refine ev_in (d := (d + 2)) (a := 0) (b := 0) (cd' := c266_0) (m := 2) (L0 := [(2, 42), (0, a1)]) (jcall_v (A := [(0, a1)]) (S' := []) (r := 42) rfl (g.lt ad42) (g.tg ad42) (Nat.le_of_ble_eq_true rfl)) (by decide) ml266 pp266 (Nat.le_of_ble_eq_true rfl) rfl (by decide) (by decide) ?_
                refine ev_aload_n rfl ?_
                refine ev_iload_n rfl ?_
                refine g_putf (r := 42) g ad42 (by decide) ft12_20 (by decide) (fun e => absurd e nz12_20) rf42_20 (by decide) (by omega) (by omega) (fun h70246 e70246 g70246 => ?_)
                have k70246 := k0.wr e70246 rfl
                refine ev_iconst ?_
                refine ev_ret rfl (by decide) (by decide) ?_
                show jEv _ _ _ _ _ _ _ (_, [(2, 42), (0, a1), (0, a2), (0, a3), (0, 0), (0, v70228), (0, (v70228 - 65))], [(0, (-1))], _, _, _)
                exact ev_ret rfl (by decide) (by decide) ⟨⟨_, rfl, by omega, by omega, g70246, k70246⟩, fun r hr h0 => by cases hr; exfalso; omega⟩
              · refine ev_iload_n rfl ?_
                refine ev_iload_n rfl ?_
                refine ev_icmpgt f242_14 (fun c70247 => ?_) (fun c70247 => ?_)
                · refine ev_iconst ?_
                  refine ev_ret rfl (by decide) (by decide) ?_
                  show jEv _ _ _ _ _ _ _ (_, [(2, 42), (0, a1), (0, a2), (0, a3), (0, 0), (0, v70228), (0, (v70228 - 65))], [(0, 0)], _, _, _)
                  refine ev_ifne f272_92 (fun c70248 => absurd c70248 (by omega)) (fun c70248 => ?_)
                  refine ev_aload_n rfl ?_
                  refine ev_iload_n rfl ?_
                  refine ev_in (d := (d + 2)) (a := 0) (b := 0) (cd' := c266_0) (m := 2) (L0 := [(2, 42), (0, a1)]) (jcall_v (A := [(0, a1)]) (S' := []) (r := 42) rfl (g.lt ad42) (g.tg ad42) (Nat.le_of_ble_eq_true rfl)) (by decide) ml266 pp266 (Nat.le_of_ble_eq_true rfl) rfl (by decide) (by decide) ?_
                  refine ev_aload_n rfl ?_
                  refine ev_iload_n rfl ?_
                  refine g_putf (r := 42) g ad42 (by decide) ft12_20 (by decide) (fun e => absurd e nz12_20) rf42_20 (by decide) (by omega) (by omega) (fun h70249 e70249 g70249 => ?_)
                  have k70249 := k0.wr e70249 rfl
                  refine ev_iconst ?_
                  refine ev_ret rfl (by decide) (by decide) ?_
                  show jEv _ _ _ _ _ _ _ (_, [(2, 42), (0, a1), (0, a2), (0, a3), (0, 0), (0, v70228), (0, (v70228 - 65))], [(0, (-1))], _, _, _)
                  exact ev_ret rfl (by decide) (by decide) ⟨⟨_, rfl, by omega, by omega, g70249, k70249⟩, fun r hr h0 => by cases hr; exfalso; omega⟩
                · refine ev_iconst ?_
                  refine ev_goto f242_15 ?_
                  refine ev_ret rfl (by decide) (by decide) ?_
                  show jEv _ _ _ _ _ _ _ (_, [(2, 42), (0, a1), (0, a2), (0, a3), (0, 0), (0, v70228), (0, (v70228 - 65))], [(0, 1)], _, _, _)
                  refine ev_ifne f272_92 (fun c70250 => ?_) (fun c70250 => absurd c70250 (by omega))
                  have zc70251 := Lv.cap hL (by omega) (ev70228) (ev70243) (by omega) (by omega)
                  refine ev_aload_n rfl ?_
                  refine ev_aload_n rfl ?_
                  refine g_getp (r := 42) (c := 55) g ad42 (by decide) (by decide) rf42_18 ft12_18 ?_
                  refine ev_iload rfl ?_
                  refine g_iald g ad55 rt55 (by omega) (by omega) (fun v70252 ev70252 lv70252 uv70252 => ?_)
                  refine ev_iload_n rfl ?_
                  refine ev_iload_n rfl ?_
                  refine ev_iload rfl ?_
                  refine ev_call (jcall_v (A := [(0, 0), (0, a3), (0, a2), (0, v70252)]) (S' := []) (r := 42) rfl (g.lt ad42) (g.tg ad42) (Nat.le_of_ble_eq_true rfl)) (jOk_le (by omega) (rih g (by omega) (by omega) (by omega) (by omega) (by omega) (by omega) (by omega) (by omega) (l0 := (v70228 - 65)) hI (Iv.lv hI (by omega) (ev70243) (by omega) (by omega) (ev70252)) (by omega))) (by decide) (by decide) (fun w70253 h70253 q70253 => ?_)
                  obtain ⟨q70253, ad70253⟩ := q70253
                  obtain ⟨v70254, rfl, lv70254, uv70254, g70253, kk70253⟩ := q70253
                  have ad70253 := ad70253 _ rfl
                  have k70253 := k0.tr kk70253 (by decide)
                  show jEv _ _ _ _ _ _ _ (_, [(2, 42), (0, a1), (0, a2), (0, a3), (0, 0), (0, v70228), (0, (v70228 - 65))], [(0, v70254)], _, _, _)
                  refine ev_ifge f272_116 (fun c70255 => ?_) (fun c70255 => ?_)
                  · refine ev_iload_n rfl ?_
                    refine ev_iconst ?_
                    refine ev_iadd (r := (a1 + 1)) (by unfold w32; omega) ?_
                    exact ev_ret rfl (by decide) (by decide) ⟨⟨_, rfl, by omega, by omega, g70253, k70253⟩, fun r hr h0 => by cases hr; exact (Ad.step (r' := (a1 + 1)) (Ad.rf _ _ _) (by omega) k70253 (fun _ => rfl) (((kk70253.v rfl).trans ev70228)) (by omega) (by omega) (by omega))⟩
                  · refine ev_aload_n rfl ?_
                    refine ev_iload_n rfl ?_
                    refine ev_in (d := (d + 2)) (a := 0) (b := 0) (cd' := c266_0) (m := 2) (L0 := [(2, 42), (0, a1)]) (jcall_v (A := [(0, a1)]) (S' := []) (r := 42) rfl (g70253.lt ad42) (g70253.tg ad42) (Nat.le_of_ble_eq_true rfl)) (by decide) ml266 pp266 (Nat.le_of_ble_eq_true rfl) rfl (by decide) (by decide) ?_
                    refine ev_aload_n rfl ?_
                    refine ev_iload_n rfl ?_
                    refine g_putf (r := 42) g70253 ad42 (by decide) ft12_20 (by decide) (fun e => absurd e nz12_20) rf42_20 (by decide) (by omega) (by omega) (fun h70256 e70256 g70256 => ?_)
                    have k70256 := k70253.wr e70256 rfl
                    refine ev_iconst ?_
                    refine ev_ret rfl (by decide) (by decide) ?_
                    show jEv _ _ _ _ _ _ _ (_, [(2, 42), (0, a1), (0, a2), (0, a3), (0, 0), (0, v70228), (0, (v70228 - 65))], [(0, (-1))], _, _, _)
                    exact ev_ret rfl (by decide) (by decide) ⟨⟨_, rfl, by omega, by omega, g70256, k70256⟩, fun r hr h0 => by cases hr; exfalso; omega⟩
            · refine ev_iconst ?_
              refine ev_goto f242_15 ?_
              refine ev_ret rfl (by decide) (by decide) ?_
              show jEv _ _ _ _ _ _ _ (_, [(2, 42), (0, a1)], [(0, 1)], _, _, _)
              refine ev_ret rfl (by decide) (by decide) ?_
              show jEv _ _ _ _ _ _ _ (_, [(2, 42), (0, a1), (0, a2), (0, a3), (0, 0), (0, v70228), (9, 0)], [(0, 1)], _, _, _)
              refine ev_ifeq f272_64 (fun c70257 => absurd c70257 (by omega)) (fun c70257 => ?_)
              refine ev_aload_n rfl ?_
              refine ev_iload_n rfl ?_
              refine ev_iload rfl ?_
              refine ev_call (jcall_v (A := [(0, 0), (0, a1)]) (S' := []) (r := 42) rfl (g.lt ad42) (g.tg ad42) (Nat.le_of_ble_eq_true rfl)) (jOk_le (by omega) (s269f g (by omega) (by omega) (by omega) (by omega) (l0 := l0) )) (by decide) (by decide) (fun w70258 h70258 q70258 => ?_)
              obtain ⟨q70258, ad70258⟩ := q70258
              obtain ⟨v70259, rfl, lv70259, uv70259, g70258, kk70258⟩ := q70258
              have ad70258 := ad70258 _ rfl
              have k70258 := k0.tr kk70258 (by decide)
              show jEv _ _ _ _ _ _ _ (_, [(2, 42), (0, a1), (0, a2), (0, a3), (0, 0), (0, v70228), (9, 0)], [(0, v70259)], _, _, _)
              exact ev_ret rfl (by decide) (by decide) ⟨⟨_, rfl, by omega, by omega, g70258, k70258⟩, fun r hr h0 => by cases hr; exact ad70258 h0⟩
      · refine ev_aload_n rfl ?_
        refine ev_iload_n rfl ?_
        refine ev_iload_n rfl ?_
        refine ev_iload_n rfl ?_
        refine ev_iload rfl ?_
        refine ev_call (jcall_v (A := [(0, 0), (0, a3), (0, a2), (0, a1)]) (S' := []) (r := 42) rfl (g.lt ad42) (g.tg ad42) (Nat.le_of_ble_eq_true rfl)) (jOk_le (by omega) (s271f_s g (by omega) (by omega) (by omega) (by omega) (by omega) (by omega) (by omega) (by omega) (l0 := l0) hI hL (by rw [(ev70228)]; omega)  hM (by omega) rih)) (by decide) (by decide) (fun w70260 h70260 q70260 => ?_)
        obtain ⟨q70260, ad70260⟩ := q70260
        obtain ⟨v70261, rfl, lv70261, uv70261, g70260, kk70260⟩ := q70260
        have ad70260 := ad70260 _ rfl
        have k70260 := k0.tr kk70260 (by decide)
        show jEv _ _ _ _ _ _ _ (_, [(2, 42), (0, a1), (0, a2), (0, a3), (0, 0), (0, v70228), (9, 0)], [(0, v70261)], _, _, _)
        exact ev_ret rfl (by decide) (by decide) ⟨⟨_, rfl, by omega, by omega, g70260, k70260⟩, fun r hr h0 => by cases hr; exact ad70260 h0⟩
    · refine ev_aload_n rfl ?_
      refine ev_iload_n rfl ?_
      refine ev_iload_n rfl ?_
      refine ev_iload_n rfl ?_
      refine ev_iload rfl ?_
      refine ev_call (jcall_v (A := [(0, 0), (0, a3), (0, a2), (0, a1)]) (S' := []) (r := 42) rfl (g.lt ad42) (g.tg ad42) (Nat.le_of_ble_eq_true rfl)) (jOk_le (by omega) (s270f_s g (by omega) (by omega) (by omega) (by omega) (by omega) (by omega) (by omega) (by omega) (l0 := l0) hI hL (by rw [(ev70228)]; omega)  hM (by omega) rih)) (by decide) (by decide) (fun w70262 h70262 q70262 => ?_)
      obtain ⟨q70262, ad70262⟩ := q70262
      obtain ⟨v70263, rfl, lv70263, uv70263, g70262, kk70262⟩ := q70262
      have ad70262 := ad70262 _ rfl
      have k70262 := k0.tr kk70262 (by decide)
      show jEv _ _ _ _ _ _ _ (_, [(2, 42), (0, a1), (0, a2), (0, a3), (0, 0), (0, v70228), (9, 0)], [(0, v70263)], _, _, _)
      exact ev_ret rfl (by decide) (by decide) ⟨⟨_, rfl, by omega, by omega, g70262, k70262⟩, fun r hr h0 => by cases hr; exact ad70262 h0⟩
theorem s272f_n (N : Nat) : ∀ {G : GH} {h : JH} (g : Gd G h) {l0 : Int} (ll0 : 0 ≤ l0) (ul0 : l0 ≤ 6) {a1 : Int} (la1 : 0 ≤ a1) (ua1 : a1 ≤ 202) {a2 : Int} (la2 : 0 ≤ a2) (ua2 : a2 ≤ 15) {a3 : Int} (la3 : 0 ≤ a3) (ua3 : a3 ≤ 12) (hI : Iv h) (hL : Lv h l0 a1) (hN : 85 - (7 * a3 - l0) ≤ (N : Int)), jOk (3 + 4 * N) 0 0 272 [(2, 42), (0, a1), (0, a2), (0, a3), (0, 0)] h (fun v h' => PI G [(42, 21)] h 0 (-1) 200 v h' ∧ (∀ r, v = some (0, r) → 0 ≤ r → Ad h l0 a1 r)) := by
  induction N with
  | zero => intro G h g l0 ll0 ul0 a1 la1 ua1 a2 la2 ua2 a3 la3 ua3 hI hL hN; exfalso; omega
  | succ N ih =>
    intro G h g l0 ll0 ul0 a1 la1 ua1 a2 la2 ua2 a3 la3 ua3 hI hL hN
    exact jOk_le (by omega) (s272f_s g ll0 ul0 la1 ua1 la2 ua2 la3 ua3 hI hL (M := (7 * a3 - l0)) rfl (d := 3 + 4 * N) (by omega) (fun {G} {h} g {l0} ll0 ul0 {a1} la1 ua1 {a2} la2 ua2 {a3} la3 ua3 hI hL hm => ih g ll0 ul0 la1 ua1 la2 ua2 la3 ua3 hI hL (by omega)))
theorem s272f {G : GH} {h : JH} (g : Gd G h) {l0 : Int} (ll0 : 0 ≤ l0) (ul0 : l0 ≤ 6) {a1 : Int} (la1 : 0 ≤ a1) (ua1 : a1 ≤ 202) {a2 : Int} (la2 : 0 ≤ a2) (ua2 : a2 ≤ 15) {a3 : Int} (la3 : 0 ≤ a3) (ua3 : a3 ≤ 12) (hI : Iv h) (hL : Lv h l0 a1) : jOk 371 0 0 272 [(2, 42), (0, a1), (0, a2), (0, a3), (0, 0)] h (fun v h' => PI G [(42, 21)] h 0 (-1) 200 v h' ∧ (∀ r, v = some (0, r) → 0 ≤ r → Ad h l0 a1 r)) := jOk_le (by decide) (s272f_n 92 g ll0 ul0 la1 ua1 la2 ua2 la3 ua3 hI hL (by omega))
