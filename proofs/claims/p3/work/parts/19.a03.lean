set_option maxHeartbeats 4000000 in
theorem t269i {G : GH} {h : JH} (g : Gd G h) {l0 : Int} (ll0 : 0 ≤ l0) (ul0 : l0 ≤ 6) {b0 : Int} (lb0 : 1 ≤ b0) (ub0 : b0 ≤ 30000000) {k0 : Int} (lk0 : 0 ≤ k0) (uk0 : k0 ≤ 12) {a1 : Int} (la1 : 0 ≤ a1) (ua1 : a1 ≤ 202) {w0 : Int} (ew0 : h.2.2 42 9 = w0) (lw0 : 0 ≤ w0) (uw0 : w0 ≤ 5) {w1 : Int} (ew1 : h.2.2 42 21 = w1) (lw1 : 0 ≤ w1) (uw1 : w1 ≤ 99) {w2 : Int} (ew2 : h.2.2 42 17 = w2) (lw2 : 0 ≤ w2) (uw2 : w2 ≤ 200) (F0 : (b0 + w1) ≤ 200000000) {S : List Nat} : jOk 3 0 0 269 [(2, 42), (0, a1), (0, 1)] h (fun v h' => PI G [(42, 21), (42, 22), (49, 0), (50, 0), (51, 0), (52, 0), (53, 0)] h 0 (-1) 200 v h' ∧ (∀ r, v = some (0, r) → 0 ≤ r → Ad h l0 a1 r) ∧ (∀ r, v = some (0, r) → RI h h' w0 w1 k0 b0 S r) ∧ (∀ r, v = some (0, r) → RdM (bR h) h' w1 (if bR h a1 = 45 then enR (bR h) (a1 + 1) else enR (bR h) a1) r)) := by
  refine ⟨by decide, by rw [ml269]; exact Nat.le_of_ble_eq_true rfl, ?_⟩
  rw [ml269, pp269]
  show jEv _ none _ c269_0 0 0 _ (c269_0, [(2, 42), (0, a1), (0, 1), (9, 0), (9, 0), (9, 0), (9, 0)], [], h, 0, 0)
  have k0 := Kp.rf [(42, 21), (42, 22), (49, 0), (50, 0), (51, 0), (52, 0), (53, 0)] h
  refine ev_iload_n rfl ?_
  refine ev_istore_n (L' := [(2, 42), (0, a1), (0, 1), (0, a1), (9, 0), (9, 0), (9, 0)]) (Nat.le_of_ble_eq_true rfl) rfl ?_
  refine ev_aload_n rfl ?_
  refine ev_iload_n rfl ?_
  refine ev_in (d := 1) (a := 0) (b := 0) (cd' := c264_0) (m := 2) (L0 := [(2, 42), (0, a1)]) (jcall_v (A := [(0, a1)]) (S' := []) (r := 42) rfl (g.lt ad42) (g.tg ad42) (Nat.le_of_ble_eq_true rfl)) (by decide) ml264 pp264 (Nat.le_of_ble_eq_true rfl) rfl (by decide) (by decide) ?_
  refine ev_iload_n rfl ?_
  refine ev_aload_n rfl ?_
  refine g_getv (r := 42) (v := w2) g ad42 (by decide) ft12_17 (ew2) ?_
  refine ev_icmpge f264_17 (fun c82631 => ?_) (fun c82631 => ?_)
  · refine ev_iconst ?_
    refine ev_ret rfl (by decide) (by decide) ?_
    show jEv _ _ _ _ _ _ _ (_, [(2, 42), (0, a1), (0, 1), (0, a1), (9, 0), (9, 0), (9, 0)], [(0, (-1))], _, _, _)
    refine ev_bipush ?_
    refine ev_icmpne f269_16 (fun c82632 => ?_) (fun c82632 => absurd c82632 (by omega))
    refine ev_iconst ?_
    refine ev_istore (L' := [(2, 42), (0, a1), (0, 1), (0, a1), (0, 0), (9, 0), (9, 0)]) (Nat.le_of_ble_eq_true rfl) rfl ?_
    refine ev_iload rfl ?_
    refine ev_ifeq f269_27 (fun c82633 => ?_) (fun c82633 => absurd c82633 (by omega))
    refine ev_aload_n rfl ?_
    refine ev_iload_n rfl ?_
    refine ev_in (d := 1) (a := 0) (b := 0) (cd' := c265_0) (m := 2) (L0 := [(2, 42), (0, a1)]) (jcall_v (A := [(0, a1)]) (S' := []) (r := 42) rfl (g.lt ad42) (g.tg ad42) (Nat.le_of_ble_eq_true rfl)) (by decide) ml265 pp265 (Nat.le_of_ble_eq_true rfl) rfl (by decide) (by decide) ?_
    refine ev_aload_n rfl ?_
    refine ev_iload_n rfl ?_
    refine ev_in (d := 0) (a := 0) (b := 0) (cd' := c264_0) (m := 2) (L0 := [(2, 42), (0, a1)]) (jcall_v (A := [(0, a1)]) (S' := []) (r := 42) rfl (g.lt ad42) (g.tg ad42) (Nat.le_of_ble_eq_true rfl)) (by decide) ml264 pp264 (Nat.le_of_ble_eq_true rfl) rfl (by decide) (by decide) ?_
    refine ev_iload_n rfl ?_
    refine ev_aload_n rfl ?_
    refine g_getv (r := 42) (v := w2) g ad42 (by decide) ft12_17 (ew2) ?_
    refine ev_icmpge f264_17 (fun c82634 => ?_) (fun c82634 => absurd c82634 (by omega))
    refine ev_iconst ?_
    refine ev_ret rfl (by decide) (by decide) ?_
    show jEv _ _ _ _ _ _ _ (_, [(2, 42), (0, a1)], [(0, (-1))], _, _, _)
    refine ev_bipush ?_
    refine ev_bipush ?_
    refine ev_in (d := 0) (a := 0) (b := 0) (cd' := c242_0) (m := 3) (L0 := [(0, (-1)), (0, 48), (0, 57)]) (jcall_s (A := [(0, 57), (0, 48), (0, (-1))]) (S' := []) (by decide) rfl (Nat.le_of_ble_eq_true rfl)) (by decide) ml242 pp242 (Nat.le_of_ble_eq_true rfl) rfl (by decide) (by decide) ?_
    refine ev_iload_n rfl ?_
    refine ev_iload_n rfl ?_
    refine ev_icmplt f242_14 (fun c82635 => ?_) (fun c82635 => absurd c82635 (by omega))
    refine ev_iconst ?_
    refine ev_ret rfl (by decide) (by decide) ?_
    show jEv _ _ _ _ _ _ _ (_, [(2, 42), (0, a1)], [(0, 0)], _, _, _)
    refine ev_ret rfl (by decide) (by decide) ?_
    show jEv _ _ _ _ _ _ _ (_, [(2, 42), (0, a1), (0, 1), (0, a1), (0, 0), (9, 0), (9, 0)], [(0, 0)], _, _, _)
    refine ev_ifne f269_41 (fun c82636 => absurd c82636 (by omega)) (fun c82636 => ?_)
    refine ev_aload_n rfl ?_
    refine ev_iload_n rfl ?_
    refine ev_in (d := 1) (a := 0) (b := 0) (cd' := c266_0) (m := 2) (L0 := [(2, 42), (0, a1)]) (jcall_v (A := [(0, a1)]) (S' := []) (r := 42) rfl (g.lt ad42) (g.tg ad42) (Nat.le_of_ble_eq_true rfl)) (by decide) ml266 pp266 (Nat.le_of_ble_eq_true rfl) rfl (by decide) (by decide) ?_
    refine ev_aload_n rfl ?_
    refine ev_iload_n rfl ?_
    refine g_putf (r := 42) g ad42 (by decide) ft12_20 (by decide) (fun e => absurd e nz12_20) rf42_20 (by decide) (by omega) (by omega) (fun h82637 e82637 g82637 => ?_)
    have k82637 := k0.wr e82637 rfl
    refine ev_iconst ?_
    refine ev_ret rfl (by decide) (by decide) ?_
    show jEv _ _ _ _ _ _ _ (_, [(2, 42), (0, a1), (0, 1), (0, a1), (0, 0), (9, 0), (9, 0)], [(0, (-1))], _, _, _)
    exact ev_ret rfl (by decide) (by decide) ⟨⟨_, rfl, by omega, by omega, g82637, k82637⟩, fun r hr h0 => by cases hr; exfalso; omega, fun r hr => by cases hr; exact ⟨_, (((jw_ne e82637 (Or.inr (by decide))).trans ew1)), by omega, by omega, (Fr.kp (Fr.rf _ _) ((Kp.rf [(42, 0)] _).wr e82637 rfl) (fun _ => rfl) (fun _ => rfl) (fun _ => rfl) (fun _ => rfl)), fun h0 => by exfalso; omega, fun h0 => by exfalso; omega⟩, fun r hr => by cases hr; exact (Bd.M (bd_rF (p := a1) (by rw [if_neg (fun z => absurd ((bR_end (p := a1) ew2 (by omega)).symm.trans z) (by omega))]; unfold enR; rw [if_pos (by unfold nm3; rw [(bR_end (p := a1) ew2 (by omega))]; (repeat' split) <;> omega)]) (by omega) (by omega)) ((jw_eq e82637)))⟩
  · refine ev_aload_n rfl ?_
    refine g_getp (r := 42) (c := 54) g ad42 (by decide) (by decide) rf42_16 ft12_16 ?_
    refine ev_iload_n rfl ?_
    refine g_bald g ad54 rt54 (by omega) (by omega) (fun v82638 ev82638 lv82638 uv82638 => ?_)
    refine ev_goto f264_18 ?_
    refine ev_ret rfl (by decide) (by decide) ?_
    show jEv _ _ _ _ _ _ _ (_, [(2, 42), (0, a1), (0, 1), (0, a1), (9, 0), (9, 0), (9, 0)], [(0, v82638)], _, _, _)
    refine ev_bipush ?_
    refine ev_icmpne f269_16 (fun c82639 => ?_) (fun c82639 => ?_)
    · refine ev_iconst ?_
      refine ev_istore (L' := [(2, 42), (0, a1), (0, 1), (0, a1), (0, 0), (9, 0), (9, 0)]) (Nat.le_of_ble_eq_true rfl) rfl ?_
      refine ev_iload rfl ?_
      refine ev_ifeq f269_27 (fun c82640 => ?_) (fun c82640 => absurd c82640 (by omega))
      refine ev_aload_n rfl ?_
      refine ev_iload_n rfl ?_
      refine ev_in (d := 1) (a := 0) (b := 0) (cd' := c265_0) (m := 2) (L0 := [(2, 42), (0, a1)]) (jcall_v (A := [(0, a1)]) (S' := []) (r := 42) rfl (g.lt ad42) (g.tg ad42) (Nat.le_of_ble_eq_true rfl)) (by decide) ml265 pp265 (Nat.le_of_ble_eq_true rfl) rfl (by decide) (by decide) ?_
      refine ev_aload_n rfl ?_
      refine ev_iload_n rfl ?_
      refine ev_in (d := 0) (a := 0) (b := 0) (cd' := c264_0) (m := 2) (L0 := [(2, 42), (0, a1)]) (jcall_v (A := [(0, a1)]) (S' := []) (r := 42) rfl (g.lt ad42) (g.tg ad42) (Nat.le_of_ble_eq_true rfl)) (by decide) ml264 pp264 (Nat.le_of_ble_eq_true rfl) rfl (by decide) (by decide) ?_
      refine ev_iload_n rfl ?_
      refine ev_aload_n rfl ?_
      refine g_getv (r := 42) (v := w2) g ad42 (by decide) ft12_17 (ew2) ?_
      refine ev_icmpge f264_17 (fun c82641 => absurd c82641 (by omega)) (fun c82641 => ?_)
      refine ev_aload_n rfl ?_
      refine g_getp (r := 42) (c := 54) g ad42 (by decide) (by decide) rf42_16 ft12_16 ?_
      refine ev_iload_n rfl ?_
      refine g_baldv (v := v82638) g ad54 (by omega) (by omega) (ev82638) ?_
      refine ev_goto f264_18 ?_
      refine ev_ret rfl (by decide) (by decide) ?_
      show jEv _ _ _ _ _ _ _ (_, [(2, 42), (0, a1)], [(0, v82638)], _, _, _)
      refine ev_bipush ?_
      refine ev_bipush ?_
      refine ev_in (d := 0) (a := 0) (b := 0) (cd' := c242_0) (m := 3) (L0 := [(0, v82638), (0, 48), (0, 57)]) (jcall_s (A := [(0, 57), (0, 48), (0, v82638)]) (S' := []) (by decide) rfl (Nat.le_of_ble_eq_true rfl)) (by decide) ml242 pp242 (Nat.le_of_ble_eq_true rfl) rfl (by decide) (by decide) ?_
      refine ev_iload_n rfl ?_
      refine ev_iload_n rfl ?_
      refine ev_icmplt f242_14 (fun c82642 => ?_) (fun c82642 => ?_)
      · refine ev_iconst ?_
        refine ev_ret rfl (by decide) (by decide) ?_
        show jEv _ _ _ _ _ _ _ (_, [(2, 42), (0, a1)], [(0, 0)], _, _, _)
        refine ev_ret rfl (by decide) (by decide) ?_
        show jEv _ _ _ _ _ _ _ (_, [(2, 42), (0, a1), (0, 1), (0, a1), (0, 0), (9, 0), (9, 0)], [(0, 0)], _, _, _)
        refine ev_ifne f269_41 (fun c82643 => absurd c82643 (by omega)) (fun c82643 => ?_)
        refine ev_aload_n rfl ?_
        refine ev_iload_n rfl ?_
        refine ev_in (d := 1) (a := 0) (b := 0) (cd' := c266_0) (m := 2) (L0 := [(2, 42), (0, a1)]) (jcall_v (A := [(0, a1)]) (S' := []) (r := 42) rfl (g.lt ad42) (g.tg ad42) (Nat.le_of_ble_eq_true rfl)) (by decide) ml266 pp266 (Nat.le_of_ble_eq_true rfl) rfl (by decide) (by decide) ?_
        refine ev_aload_n rfl ?_
        refine ev_iload_n rfl ?_
        refine g_putf (r := 42) g ad42 (by decide) ft12_20 (by decide) (fun e => absurd e nz12_20) rf42_20 (by decide) (by omega) (by omega) (fun h82644 e82644 g82644 => ?_)
        have k82644 := k0.wr e82644 rfl
        refine ev_iconst ?_
        refine ev_ret rfl (by decide) (by decide) ?_
        show jEv _ _ _ _ _ _ _ (_, [(2, 42), (0, a1), (0, 1), (0, a1), (0, 0), (9, 0), (9, 0)], [(0, (-1))], _, _, _)
        exact ev_ret rfl (by decide) (by decide) ⟨⟨_, rfl, by omega, by omega, g82644, k82644⟩, fun r hr h0 => by cases hr; exfalso; omega, fun r hr => by cases hr; exact ⟨_, (((jw_ne e82644 (Or.inr (by decide))).trans ew1)), by omega, by omega, (Fr.kp (Fr.rf _ _) ((Kp.rf [(42, 0)] _).wr e82644 rfl) (fun _ => rfl) (fun _ => rfl) (fun _ => rfl) (fun _ => rfl)), fun h0 => by exfalso; omega, fun h0 => by exfalso; omega⟩, fun r hr => by cases hr; exact (Bd.M (bd_rF (p := a1) (by rw [if_neg (fun z => absurd ((bR_at (p := a1) k82644 (fun _ => rfl) ew2 (((jw_ne e82644 (Or.inl (by decide))).trans ev82638)) (by omega) (by omega)).symm.trans z) (by omega))]; unfold enR; rw [if_pos (by unfold nm3; rw [(bR_at (p := a1) k82644 (fun _ => rfl) ew2 (((jw_ne e82644 (Or.inl (by decide))).trans ev82638)) (by omega) (by omega))]; (repeat' split) <;> omega)]) (by omega) (by omega)) ((jw_eq e82644)))⟩
      · refine ev_iload_n rfl ?_
        refine ev_iload_n rfl ?_
        refine ev_icmpgt f242_14 (fun c82645 => ?_) (fun c82645 => ?_)
        · refine ev_iconst ?_
          refine ev_ret rfl (by decide) (by decide) ?_
          show jEv _ _ _ _ _ _ _ (_, [(2, 42), (0, a1)], [(0, 0)], _, _, _)
          refine ev_ret rfl (by decide) (by decide) ?_
          show jEv _ _ _ _ _ _ _ (_, [(2, 42), (0, a1), (0, 1), (0, a1), (0, 0), (9, 0), (9, 0)], [(0, 0)], _, _, _)
          refine ev_ifne f269_41 (fun c82646 => absurd c82646 (by omega)) (fun c82646 => ?_)
          refine ev_aload_n rfl ?_
          refine ev_iload_n rfl ?_
          refine ev_in (d := 1) (a := 0) (b := 0) (cd' := c266_0) (m := 2) (L0 := [(2, 42), (0, a1)]) (jcall_v (A := [(0, a1)]) (S' := []) (r := 42) rfl (g.lt ad42) (g.tg ad42) (Nat.le_of_ble_eq_true rfl)) (by decide) ml266 pp266 (Nat.le_of_ble_eq_true rfl) rfl (by decide) (by decide) ?_
          refine ev_aload_n rfl ?_
          refine ev_iload_n rfl ?_
          refine g_putf (r := 42) g ad42 (by decide) ft12_20 (by decide) (fun e => absurd e nz12_20) rf42_20 (by decide) (by omega) (by omega) (fun h82647 e82647 g82647 => ?_)
          have k82647 := k0.wr e82647 rfl
          refine ev_iconst ?_
          refine ev_ret rfl (by decide) (by decide) ?_
          show jEv _ _ _ _ _ _ _ (_, [(2, 42), (0, a1), (0, 1), (0, a1), (0, 0), (9, 0), (9, 0)], [(0, (-1))], _, _, _)
          exact ev_ret rfl (by decide) (by decide) ⟨⟨_, rfl, by omega, by omega, g82647, k82647⟩, fun r hr h0 => by cases hr; exfalso; omega, fun r hr => by cases hr; exact ⟨_, (((jw_ne e82647 (Or.inr (by decide))).trans ew1)), by omega, by omega, (Fr.kp (Fr.rf _ _) ((Kp.rf [(42, 0)] _).wr e82647 rfl) (fun _ => rfl) (fun _ => rfl) (fun _ => rfl) (fun _ => rfl)), fun h0 => by exfalso; omega, fun h0 => by exfalso; omega⟩, fun r hr => by cases hr; exact (Bd.M (bd_rF (p := a1) (by rw [if_neg (fun z => absurd ((bR_at (p := a1) k82647 (fun _ => rfl) ew2 (((jw_ne e82647 (Or.inl (by decide))).trans ev82638)) (by omega) (by omega)).symm.trans z) (by omega))]; unfold enR; rw [if_pos (by unfold nm3; rw [(bR_at (p := a1) k82647 (fun _ => rfl) ew2 (((jw_ne e82647 (Or.inl (by decide))).trans ev82638)) (by omega) (by omega))]; (repeat' split) <;> omega)]) (by omega) (by omega)) ((jw_eq e82647)))⟩
        · refine ev_iconst ?_
          refine ev_goto f242_15 ?_
          refine ev_ret rfl (by decide) (by decide) ?_
          show jEv _ _ _ _ _ _ _ (_, [(2, 42), (0, a1)], [(0, 1)], _, _, _)
          refine ev_ret rfl (by decide) (by decide) ?_
          show jEv _ _ _ _ _ _ _ (_, [(2, 42), (0, a1), (0, 1), (0, a1), (0, 0), (9, 0), (9, 0)], [(0, 1)], _, _, _)
          refine ev_ifne f269_41 (fun c82648 => ?_) (fun c82648 => absurd c82648 (by omega))
          refine ev_iconst ?_
          refine ev_istore (L' := [(2, 42), (0, a1), (0, 1), (0, a1), (0, 0), (0, 0), (9, 0)]) (Nat.le_of_ble_eq_true rfl) rfl ?_
          refine ev_iconst ?_
          refine ev_istore (L' := [(2, 42), (0, a1), (0, 1), (0, a1), (0, 0), (0, 0), (0, 0)]) (Nat.le_of_ble_eq_true rfl) rfl ?_
          refine ev_iload rfl ?_
          refine ev_iconst ?_
          refine ev_icmpge f269_86 (fun c82649 => absurd c82649 (by omega)) (fun c82649 => ?_)
          refine ev_aload_n rfl ?_
          refine ev_iload_n rfl ?_
          refine ev_in (d := 1) (a := 0) (b := 0) (cd' := c265_0) (m := 2) (L0 := [(2, 42), (0, a1)]) (jcall_v (A := [(0, a1)]) (S' := []) (r := 42) rfl (g.lt ad42) (g.tg ad42) (Nat.le_of_ble_eq_true rfl)) (by decide) ml265 pp265 (Nat.le_of_ble_eq_true rfl) rfl (by decide) (by decide) ?_
          refine ev_aload_n rfl ?_
          refine ev_iload_n rfl ?_
          refine ev_in (d := 0) (a := 0) (b := 0) (cd' := c264_0) (m := 2) (L0 := [(2, 42), (0, a1)]) (jcall_v (A := [(0, a1)]) (S' := []) (r := 42) rfl (g.lt ad42) (g.tg ad42) (Nat.le_of_ble_eq_true rfl)) (by decide) ml264 pp264 (Nat.le_of_ble_eq_true rfl) rfl (by decide) (by decide) ?_
          refine ev_iload_n rfl ?_
          refine ev_aload_n rfl ?_
          refine g_getv (r := 42) (v := w2) g ad42 (by decide) ft12_17 (ew2) ?_
          refine ev_icmpge f264_17 (fun c82650 => absurd c82650 (by omega)) (fun c82650 => ?_)
          refine ev_aload_n rfl ?_
          refine g_getp (r := 42) (c := 54) g ad42 (by decide) (by decide) rf42_16 ft12_16 ?_
          refine ev_iload_n rfl ?_
          refine g_baldv (v := v82638) g ad54 (by omega) (by omega) (ev82638) ?_
          refine ev_goto f264_18 ?_
          refine ev_ret rfl (by decide) (by decide) ?_
          show jEv _ _ _ _ _ _ _ (_, [(2, 42), (0, a1)], [(0, v82638)], _, _, _)
          refine ev_bipush ?_
          refine ev_bipush ?_
          refine ev_in (d := 0) (a := 0) (b := 0) (cd' := c242_0) (m := 3) (L0 := [(0, v82638), (0, 48), (0, 57)]) (jcall_s (A := [(0, 57), (0, 48), (0, v82638)]) (S' := []) (by decide) rfl (Nat.le_of_ble_eq_true rfl)) (by decide) ml242 pp242 (Nat.le_of_ble_eq_true rfl) rfl (by decide) (by decide) ?_
          refine ev_iload_n rfl ?_
          refine ev_iload_n rfl ?_
          refine ev_icmplt f242_14 (fun c82651 => absurd c82651 (by omega)) (fun c82651 => ?_)
          refine ev_iload_n rfl ?_
          refine ev_iload_n rfl ?_
          refine ev_icmpgt f242_14 (fun c82652 => absurd c82652 (by omega)) (fun c82652 => ?_)
          refine ev_iconst ?_
          refine ev_goto f242_15 ?_
          refine ev_ret rfl (by decide) (by decide) ?_
          show jEv _ _ _ _ _ _ _ (_, [(2, 42), (0, a1)], [(0, 1)], _, _, _)
          refine ev_ret rfl (by decide) (by decide) ?_
          show jEv _ _ _ _ _ _ _ (_, [(2, 42), (0, a1), (0, 1), (0, a1), (0, 0), (0, 0), (0, 0)], [(0, 1)], _, _, _)
          refine ev_ifeq f269_86 (fun c82653 => absurd c82653 (by omega)) (fun c82653 => ?_)
          refine ev_bipush ?_
          refine ev_iload rfl ?_
          refine ev_imul (r := 0) (by decide) ?_
          refine ev_aload_n rfl ?_
          refine ev_iload_n rfl ?_
          refine ev_in (d := 1) (a := 0) (b := 0) (cd' := c264_0) (m := 2) (L0 := [(2, 42), (0, a1)]) (jcall_v (A := [(0, a1)]) (S' := [(0, 0)]) (r := 42) rfl (g.lt ad42) (g.tg ad42) (Nat.le_of_ble_eq_true rfl)) (by decide) ml264 pp264 (Nat.le_of_ble_eq_true rfl) rfl (by decide) (by decide) ?_
          refine ev_iload_n rfl ?_
          refine ev_aload_n rfl ?_
          refine g_getv (r := 42) (v := w2) g ad42 (by decide) ft12_17 (ew2) ?_
          refine ev_icmpge f264_17 (fun c82654 => absurd c82654 (by omega)) (fun c82654 => ?_)
          refine ev_aload_n rfl ?_
          refine g_getp (r := 42) (c := 54) g ad42 (by decide) (by decide) rf42_16 ft12_16 ?_
          refine ev_iload_n rfl ?_
          refine g_baldv (v := v82638) g ad54 (by omega) (by omega) (ev82638) ?_
          refine ev_goto f264_18 ?_
          refine ev_ret rfl (by decide) (by decide) ?_
          show jEv _ _ _ _ _ _ _ (_, [(2, 42), (0, a1), (0, 1), (0, a1), (0, 0), (0, 0), (0, 0)], [(0, v82638), (0, 0)], _, _, _)
          refine ev_iadd (r := v82638) (by unfold w32; omega) ?_
          refine ev_bipush ?_
          refine ev_isub (r := (v82638 - 48)) (by unfold w32; omega) ?_
          refine ev_istore (L' := [(2, 42), (0, a1), (0, 1), (0, a1), (0, 0), (0, (v82638 - 48)), (0, 0)]) (Nat.le_of_ble_eq_true rfl) rfl ?_
          refine ev_iinc (w := 1) (L' := [(2, 42), (0, a1), (0, 1), (0, a1), (0, 0), (0, (v82638 - 48)), (0, 1)]) rfl (by decide) rfl ?_
          refine ev_iinc (w := (a1 + 1)) (L' := [(2, 42), (0, a1), (0, 1), (0, (a1 + 1)), (0, 0), (0, (v82638 - 48)), (0, 1)]) rfl (by unfold w32; omega) rfl ?_
          refine ev_goto f269_47 ?_
          refine ev_iload rfl ?_
          refine ev_iconst ?_
          refine ev_icmpge f269_86 (fun c82655 => absurd c82655 (by omega)) (fun c82655 => ?_)
          refine ev_aload_n rfl ?_
          refine ev_iload_n rfl ?_
          refine ev_in (d := 1) (a := 0) (b := 0) (cd' := c265_0) (m := 2) (L0 := [(2, 42), (0, (a1 + 1))]) (jcall_v (A := [(0, (a1 + 1))]) (S' := []) (r := 42) rfl (g.lt ad42) (g.tg ad42) (Nat.le_of_ble_eq_true rfl)) (by decide) ml265 pp265 (Nat.le_of_ble_eq_true rfl) rfl (by decide) (by decide) ?_
          refine ev_aload_n rfl ?_
          refine ev_iload_n rfl ?_
          refine ev_in (d := 0) (a := 0) (b := 0) (cd' := c264_0) (m := 2) (L0 := [(2, 42), (0, (a1 + 1))]) (jcall_v (A := [(0, (a1 + 1))]) (S' := []) (r := 42) rfl (g.lt ad42) (g.tg ad42) (Nat.le_of_ble_eq_true rfl)) (by decide) ml264 pp264 (Nat.le_of_ble_eq_true rfl) rfl (by decide) (by decide) ?_
          refine ev_iload_n rfl ?_
          refine ev_aload_n rfl ?_
          refine g_getv (r := 42) (v := w2) g ad42 (by decide) ft12_17 (ew2) ?_
          refine ev_icmpge f264_17 (fun c82656 => ?_) (fun c82656 => ?_)
          · refine ev_iconst ?_
            refine ev_ret rfl (by decide) (by decide) ?_
            show jEv _ _ _ _ _ _ _ (_, [(2, 42), (0, (a1 + 1))], [(0, (-1))], _, _, _)
            refine ev_bipush ?_
            refine ev_bipush ?_
            refine ev_in (d := 0) (a := 0) (b := 0) (cd' := c242_0) (m := 3) (L0 := [(0, (-1)), (0, 48), (0, 57)]) (jcall_s (A := [(0, 57), (0, 48), (0, (-1))]) (S' := []) (by decide) rfl (Nat.le_of_ble_eq_true rfl)) (by decide) ml242 pp242 (Nat.le_of_ble_eq_true rfl) rfl (by decide) (by decide) ?_
            refine ev_iload_n rfl ?_
            refine ev_iload_n rfl ?_
            refine ev_icmplt f242_14 (fun c82657 => ?_) (fun c82657 => absurd c82657 (by omega))
            refine ev_iconst ?_
            refine ev_ret rfl (by decide) (by decide) ?_
            show jEv _ _ _ _ _ _ _ (_, [(2, 42), (0, (a1 + 1))], [(0, 0)], _, _, _)
            refine ev_ret rfl (by decide) (by decide) ?_
            show jEv _ _ _ _ _ _ _ (_, [(2, 42), (0, a1), (0, 1), (0, (a1 + 1)), (0, 0), (0, (v82638 - 48)), (0, 1)], [(0, 0)], _, _, _)
            refine ev_ifeq f269_86 (fun c82658 => ?_) (fun c82658 => absurd c82658 (by omega))
            refine ev_aload_n rfl ?_
            refine ev_iload_n rfl ?_
            refine ev_in (d := 1) (a := 0) (b := 0) (cd' := c265_0) (m := 2) (L0 := [(2, 42), (0, (a1 + 1))]) (jcall_v (A := [(0, (a1 + 1))]) (S' := []) (r := 42) rfl (g.lt ad42) (g.tg ad42) (Nat.le_of_ble_eq_true rfl)) (by decide) ml265 pp265 (Nat.le_of_ble_eq_true rfl) rfl (by decide) (by decide) ?_
            refine ev_aload_n rfl ?_
            refine ev_iload_n rfl ?_
            refine ev_in (d := 0) (a := 0) (b := 0) (cd' := c264_0) (m := 2) (L0 := [(2, 42), (0, (a1 + 1))]) (jcall_v (A := [(0, (a1 + 1))]) (S' := []) (r := 42) rfl (g.lt ad42) (g.tg ad42) (Nat.le_of_ble_eq_true rfl)) (by decide) ml264 pp264 (Nat.le_of_ble_eq_true rfl) rfl (by decide) (by decide) ?_
            refine ev_iload_n rfl ?_
            refine ev_aload_n rfl ?_
            refine g_getv (r := 42) (v := w2) g ad42 (by decide) ft12_17 (ew2) ?_
            refine ev_icmpge f264_17 (fun c82659 => ?_) (fun c82659 => absurd c82659 (by omega))
            refine ev_iconst ?_
            refine ev_ret rfl (by decide) (by decide) ?_
            show jEv _ _ _ _ _ _ _ (_, [(2, 42), (0, (a1 + 1))], [(0, (-1))], _, _, _)
            refine ev_bipush ?_
            refine ev_bipush ?_
            refine ev_in (d := 0) (a := 0) (b := 0) (cd' := c242_0) (m := 3) (L0 := [(0, (-1)), (0, 48), (0, 57)]) (jcall_s (A := [(0, 57), (0, 48), (0, (-1))]) (S' := []) (by decide) rfl (Nat.le_of_ble_eq_true rfl)) (by decide) ml242 pp242 (Nat.le_of_ble_eq_true rfl) rfl (by decide) (by decide) ?_
            refine ev_iload_n rfl ?_
            refine ev_iload_n rfl ?_
            refine ev_icmplt f242_14 (fun c82660 => ?_) (fun c82660 => absurd c82660 (by omega))
            refine ev_iconst ?_
            refine ev_ret rfl (by decide) (by decide) ?_
            show jEv _ _ _ _ _ _ _ (_, [(2, 42), (0, (a1 + 1))], [(0, 0)], _, _, _)
            refine ev_ret rfl (by decide) (by decide) ?_
            show jEv _ _ _ _ _ _ _ (_, [(2, 42), (0, a1), (0, 1), (0, (a1 + 1)), (0, 0), (0, (v82638 - 48)), (0, 1)], [(0, 0)], _, _, _)
            refine ev_ifeq f269_100 (fun c82661 => ?_) (fun c82661 => absurd c82661 (by omega))
            refine ev_aload_n rfl ?_
            refine ev_iload_n rfl ?_
            refine ev_iconst ?_
            refine ev_iload rfl ?_
            refine ev_ifeq f269_114 (fun c82662 => ?_) (fun c82662 => absurd c82662 (by omega))
            refine ev_iload rfl ?_
            refine ev_in (d := 1) (a := 0) (b := 0) (cd' := c267_0) (m := 6) (L0 := [(2, 42), (0, 1), (0, 0), (0, (v82638 - 48)), (9, 0), (9, 0)]) (jcall_v (A := [(0, (v82638 - 48)), (0, 0), (0, 1)]) (S' := []) (r := 42) rfl (g.lt ad42) (g.tg ad42) (Nat.le_of_ble_eq_true rfl)) (by decide) ml267 pp267 (Nat.le_of_ble_eq_true rfl) rfl (by decide) (by decide) ?_
            refine ev_iload_n rfl ?_
            refine ev_ifne f267_6 (fun c82663 => ?_) (fun c82663 => absurd c82663 (by omega))
            refine ev_aload_n rfl ?_
            refine ev_dup (by decide) ?_
            refine g_getv (r := 42) (v := w1) g ad42 (by decide) ft12_21 (ew1) ?_
            refine ev_iconst ?_
            refine ev_iadd (r := (w1 + 1)) (by unfold w32; omega) ?_
            refine g_putf (r := 42) g ad42 (by decide) ft12_21 (by decide) (fun e => absurd e nz12_21) rf42_21 (by decide) (by omega) (by omega) (fun h82664 e82664 g82664 => ?_)
            have k82664 := k0.wr e82664 rfl
            refine ev_aload_n rfl ?_
            refine g_getv (r := 42) (v := (w1 + 1)) g82664 ad42 (by decide) ft12_21 ((jw_eq e82664)) ?_
            refine ev_bipush ?_
            refine ev_icmple f267_27 (fun c82665 => ?_) (fun c82665 => absurd c82665 (by omega))
            refine ev_bipush ?_
            refine ev_aload_n rfl ?_
            refine g_getv (r := 42) (v := w0) g82664 ad42 (by decide) ft12_9 (((jw_ne e82664 (Or.inr (by decide))).trans ew0)) ?_
            refine ev_imul (r := (100 * w0)) (by unfold w32; omega) ?_
            refine ev_aload_n rfl ?_
            refine g_getv (r := 42) (v := (w1 + 1)) g82664 ad42 (by decide) ft12_21 ((jw_eq e82664)) ?_
            refine ev_iadd (r := (100 * w0 + w1 + 1)) (by unfold w32; omega) ?_
            refine ev_iconst ?_
            refine ev_isub (r := (100 * w0 + w1)) (by unfold w32; omega) ?_
            refine ev_istore (L' := [(2, 42), (0, 1), (0, 0), (0, (v82638 - 48)), (0, (100 * w0 + w1)), (9, 0)]) (Nat.le_of_ble_eq_true rfl) rfl ?_
            refine ev_aload_n rfl ?_
            refine g_getp (r := 42) (c := 49) g82664 ad42 (by decide) (by decide) rf42_11 ft12_11 ?_
            refine ev_iload rfl ?_
            refine ev_iload_n rfl ?_
            refine ev_i2b (r := 0) (by unfold w8; omega) ?_
            refine ev_bastG (r := 49) (j := ((100 * w0 + w1)).toNat) (w := 0) (g82664.lt ad49) (g82664.tg ad49) (by omega) (by rw [g82664.ln ad49]; omega) (by unfold w8; omega) (fun h82666 e82666 => ?_)
            have g82666 := g82664.s49 e82666 (by rw [(((jw_ne e82664 (Or.inr (by decide))).trans ew0))]; omega) (by omega) (by omega)
            have k82666 := k82664.wr e82666 rfl
            refine ev_aload_n rfl ?_
            refine g_getp (r := 42) (c := 50) g82666 ad42 (by decide) (by decide) rf42_12 ft12_12 ?_
            refine ev_iload rfl ?_
            refine ev_iload_n rfl ?_
            refine ev_iastG (r := 50) (j := ((100 * w0 + w1)).toNat) (g82666.lt ad50) (g82666.tg ad50) (by omega) (by rw [g82666.ln ad50]; omega) (fun h82667 e82667 => ?_)
            have g82667 := g82666.s50 e82667 (Or.inl (by rw [(((jw_ne e82666 (Or.inl (by decide))).trans ((jw_ne e82664 (Or.inr (by decide))).trans ew0)))]; omega)) (by omega) (by omega)
            have k82667 := k82666.wr e82667 rfl
            refine ev_aload_n rfl ?_
            refine g_getp (r := 42) (c := 53) g82667 ad42 (by decide) (by decide) rf42_15 ft12_15 ?_
            refine ev_iload rfl ?_
            refine ev_iconst ?_
            refine ev_bastG (r := 53) (j := ((100 * w0 + w1)).toNat) (w := 0) (g82667.lt ad53) (g82667.tg ad53) (by omega) (by rw [g82667.ln ad53]; omega) (by unfold w8; omega) (fun h82668 e82668 => ?_)
            have g82668 := g82667.s53 e82668 (Or.inl (by rw [(((jw_ne e82667 (Or.inl (by decide))).trans ((jw_ne e82666 (Or.inl (by decide))).trans ((jw_ne e82664 (Or.inr (by decide))).trans ew0))))]; omega)) (by omega) (by omega)
            have k82668 := k82667.wr e82668 rfl
            refine ev_iconst ?_
            refine ev_istore (L' := [(2, 42), (0, 1), (0, 0), (0, (v82638 - 48)), (0, (100 * w0 + w1)), (0, 0)]) (Nat.le_of_ble_eq_true rfl) rfl ?_
            refine ev_iload rfl ?_
            refine ev_iconst ?_
            refine ev_icmpge f267_109 (fun c82669 => absurd c82669 (by omega)) (fun c82669 => ?_)
            refine ev_aload_n rfl ?_
            refine g_getp (r := 42) (c := 51) g82668 ad42 (by decide) (by decide) rf42_13 ft12_13 ?_
            refine ev_iconst ?_
            refine ev_iload rfl ?_
            refine ev_imul (r := (400 * w0 + 4 * w1)) (by unfold w32; omega) ?_
            refine ev_iload rfl ?_
            refine ev_iadd (r := (400 * w0 + 4 * w1)) (by unfold w32; omega) ?_
            refine ev_iconst ?_
            refine ev_bastG (r := 51) (j := ((400 * w0 + 4 * w1)).toNat) (w := (-1)) (g82668.lt ad51) (g82668.tg ad51) (by omega) (by rw [g82668.ln ad51]; omega) (by unfold w8; omega) (fun h82670 e82670 => ?_)
            have g82670 := g82668.s51 e82670 (by rw [(((jw_ne e82668 (Or.inl (by decide))).trans ((jw_ne e82667 (Or.inl (by decide))).trans ((jw_ne e82666 (Or.inl (by decide))).trans ((jw_ne e82664 (Or.inr (by decide))).trans ew0)))))]; omega) (by omega) (by omega)
            have k82670 := k82668.wr e82670 rfl
            refine ev_aload_n rfl ?_
            refine g_getp (r := 42) (c := 52) g82670 ad42 (by decide) (by decide) rf42_14 ft12_14 ?_
            refine ev_iconst ?_
            refine ev_iload rfl ?_
            refine ev_imul (r := (400 * w0 + 4 * w1)) (by unfold w32; omega) ?_
            refine ev_iload rfl ?_
            refine ev_iadd (r := (400 * w0 + 4 * w1)) (by unfold w32; omega) ?_
            refine ev_iconst ?_
            refine g_iast g82670 ad52 rt52 (fun _ => rfl) (by omega) (by omega) (by omega) (by omega) (fun h82671 e82671 g82671 => ?_)
            have k82671 := k82670.wr e82671 rfl
            refine ev_iinc (w := 1) (L' := [(2, 42), (0, 1), (0, 0), (0, (v82638 - 48)), (0, (100 * w0 + w1)), (0, 1)]) rfl (by decide) rfl ?_
            refine ev_goto f267_71 ?_
            refine ev_iload rfl ?_
            refine ev_iconst ?_
            refine ev_icmpge f267_109 (fun c82672 => absurd c82672 (by omega)) (fun c82672 => ?_)
            refine ev_aload_n rfl ?_
            refine g_getp (r := 42) (c := 51) g82671 ad42 (by decide) (by decide) rf42_13 ft12_13 ?_
            refine ev_iconst ?_
            refine ev_iload rfl ?_
            refine ev_imul (r := (400 * w0 + 4 * w1)) (by unfold w32; omega) ?_
            refine ev_iload rfl ?_
            refine ev_iadd (r := (400 * w0 + 4 * w1 + 1)) (by unfold w32; omega) ?_
            refine ev_iconst ?_
            refine ev_bastG (r := 51) (j := ((400 * w0 + 4 * w1 + 1)).toNat) (w := (-1)) (g82671.lt ad51) (g82671.tg ad51) (by omega) (by rw [g82671.ln ad51]; omega) (by unfold w8; omega) (fun h82673 e82673 => ?_)
            have g82673 := g82671.s51 e82673 (by rw [(((jw_ne e82671 (Or.inl (by decide))).trans ((jw_ne e82670 (Or.inl (by decide))).trans ((jw_ne e82668 (Or.inl (by decide))).trans ((jw_ne e82667 (Or.inl (by decide))).trans ((jw_ne e82666 (Or.inl (by decide))).trans ((jw_ne e82664 (Or.inr (by decide))).trans ew0)))))))]; omega) (by omega) (by omega)
            have k82673 := k82671.wr e82673 rfl
            refine ev_aload_n rfl ?_
            refine g_getp (r := 42) (c := 52) g82673 ad42 (by decide) (by decide) rf42_14 ft12_14 ?_
            refine ev_iconst ?_
            refine ev_iload rfl ?_
            refine ev_imul (r := (400 * w0 + 4 * w1)) (by unfold w32; omega) ?_
            refine ev_iload rfl ?_
            refine ev_iadd (r := (400 * w0 + 4 * w1 + 1)) (by unfold w32; omega) ?_
            refine ev_iconst ?_
            refine g_iast g82673 ad52 rt52 (fun _ => rfl) (by omega) (by omega) (by omega) (by omega) (fun h82674 e82674 g82674 => ?_)
            have k82674 := k82673.wr e82674 rfl
            refine ev_iinc (w := 2) (L' := [(2, 42), (0, 1), (0, 0), (0, (v82638 - 48)), (0, (100 * w0 + w1)), (0, 2)]) rfl (by decide) rfl ?_
            refine ev_goto f267_71 ?_
            refine ev_iload rfl ?_
            refine ev_iconst ?_
            refine ev_icmpge f267_109 (fun c82675 => absurd c82675 (by omega)) (fun c82675 => ?_)
            refine ev_aload_n rfl ?_
            refine g_getp (r := 42) (c := 51) g82674 ad42 (by decide) (by decide) rf42_13 ft12_13 ?_
            refine ev_iconst ?_
            refine ev_iload rfl ?_
            refine ev_imul (r := (400 * w0 + 4 * w1)) (by unfold w32; omega) ?_
            refine ev_iload rfl ?_
            refine ev_iadd (r := (400 * w0 + 4 * w1 + 2)) (by unfold w32; omega) ?_
            refine ev_iconst ?_
            refine ev_bastG (r := 51) (j := ((400 * w0 + 4 * w1 + 2)).toNat) (w := (-1)) (g82674.lt ad51) (g82674.tg ad51) (by omega) (by rw [g82674.ln ad51]; omega) (by unfold w8; omega) (fun h82676 e82676 => ?_)
            have g82676 := g82674.s51 e82676 (by rw [(((jw_ne e82674 (Or.inl (by decide))).trans ((jw_ne e82673 (Or.inl (by decide))).trans ((jw_ne e82671 (Or.inl (by decide))).trans ((jw_ne e82670 (Or.inl (by decide))).trans ((jw_ne e82668 (Or.inl (by decide))).trans ((jw_ne e82667 (Or.inl (by decide))).trans ((jw_ne e82666 (Or.inl (by decide))).trans ((jw_ne e82664 (Or.inr (by decide))).trans ew0)))))))))]; omega) (by omega) (by omega)
            have k82676 := k82674.wr e82676 rfl
            refine ev_aload_n rfl ?_
            refine g_getp (r := 42) (c := 52) g82676 ad42 (by decide) (by decide) rf42_14 ft12_14 ?_
            refine ev_iconst ?_
            refine ev_iload rfl ?_
            refine ev_imul (r := (400 * w0 + 4 * w1)) (by unfold w32; omega) ?_
            refine ev_iload rfl ?_
            refine ev_iadd (r := (400 * w0 + 4 * w1 + 2)) (by unfold w32; omega) ?_
            refine ev_iconst ?_
            refine g_iast g82676 ad52 rt52 (fun _ => rfl) (by omega) (by omega) (by omega) (by omega) (fun h82677 e82677 g82677 => ?_)
            have k82677 := k82676.wr e82677 rfl
            refine ev_iinc (w := 3) (L' := [(2, 42), (0, 1), (0, 0), (0, (v82638 - 48)), (0, (100 * w0 + w1)), (0, 3)]) rfl (by decide) rfl ?_
            refine ev_goto f267_71 ?_
            refine ev_iload rfl ?_
            refine ev_iconst ?_
            refine ev_icmpge f267_109 (fun c82678 => absurd c82678 (by omega)) (fun c82678 => ?_)
            refine ev_aload_n rfl ?_
            refine g_getp (r := 42) (c := 51) g82677 ad42 (by decide) (by decide) rf42_13 ft12_13 ?_
            refine ev_iconst ?_
            refine ev_iload rfl ?_
            refine ev_imul (r := (400 * w0 + 4 * w1)) (by unfold w32; omega) ?_
            refine ev_iload rfl ?_
            refine ev_iadd (r := (400 * w0 + 4 * w1 + 3)) (by unfold w32; omega) ?_
            refine ev_iconst ?_
            refine ev_bastG (r := 51) (j := ((400 * w0 + 4 * w1 + 3)).toNat) (w := (-1)) (g82677.lt ad51) (g82677.tg ad51) (by omega) (by rw [g82677.ln ad51]; omega) (by unfold w8; omega) (fun h82679 e82679 => ?_)
            have g82679 := g82677.s51 e82679 (by rw [(((jw_ne e82677 (Or.inl (by decide))).trans ((jw_ne e82676 (Or.inl (by decide))).trans ((jw_ne e82674 (Or.inl (by decide))).trans ((jw_ne e82673 (Or.inl (by decide))).trans ((jw_ne e82671 (Or.inl (by decide))).trans ((jw_ne e82670 (Or.inl (by decide))).trans ((jw_ne e82668 (Or.inl (by decide))).trans ((jw_ne e82667 (Or.inl (by decide))).trans ((jw_ne e82666 (Or.inl (by decide))).trans ((jw_ne e82664 (Or.inr (by decide))).trans ew0)))))))))))]; omega) (by omega) (by omega)
            have k82679 := k82677.wr e82679 rfl
            refine ev_aload_n rfl ?_
            refine g_getp (r := 42) (c := 52) g82679 ad42 (by decide) (by decide) rf42_14 ft12_14 ?_
            refine ev_iconst ?_
            refine ev_iload rfl ?_
            refine ev_imul (r := (400 * w0 + 4 * w1)) (by unfold w32; omega) ?_
            refine ev_iload rfl ?_
            refine ev_iadd (r := (400 * w0 + 4 * w1 + 3)) (by unfold w32; omega) ?_
            refine ev_iconst ?_
            refine g_iast g82679 ad52 rt52 (fun _ => rfl) (by omega) (by omega) (by omega) (by omega) (fun h82680 e82680 g82680 => ?_)
            have k82680 := k82679.wr e82680 rfl
            refine ev_iinc (w := 4) (L' := [(2, 42), (0, 1), (0, 0), (0, (v82638 - 48)), (0, (100 * w0 + w1)), (0, 4)]) rfl (by decide) rfl ?_
            refine ev_goto f267_71 ?_
            refine ev_iload rfl ?_
            refine ev_iconst ?_
            refine ev_icmpge f267_109 (fun c82681 => ?_) (fun c82681 => absurd c82681 (by omega))
            refine ev_iload rfl ?_
            refine ev_ret rfl (by decide) (by decide) ?_
            show jEv _ _ _ _ _ _ _ (_, [(2, 42), (0, a1), (0, 1), (0, (a1 + 1)), (0, 0), (0, (v82638 - 48)), (0, 1)], [(0, (100 * w0 + w1))], _, _, _)
            refine ev_pop (by decide) ?_
            refine ev_iload_n rfl ?_
            exact ev_ret rfl (by decide) (by decide) ⟨⟨_, rfl, by omega, by omega, g82680, k82680⟩, fun r hr h0 => by cases hr; exact (Ad.step (r' := (a1 + 1)) (Ad.rf _ _ _) (by omega) k82680 (fun _ => rfl) (((jw_ne e82680 (Or.inl (by decide))).trans ((jw_ne e82679 (Or.inl (by decide))).trans ((jw_ne e82677 (Or.inl (by decide))).trans ((jw_ne e82676 (Or.inl (by decide))).trans ((jw_ne e82674 (Or.inl (by decide))).trans ((jw_ne e82673 (Or.inl (by decide))).trans ((jw_ne e82671 (Or.inl (by decide))).trans ((jw_ne e82670 (Or.inl (by decide))).trans ((jw_ne e82668 (Or.inl (by decide))).trans ((jw_ne e82667 (Or.inl (by decide))).trans ((jw_ne e82666 (Or.inl (by decide))).trans ((jw_ne e82664 (Or.inl (by decide))).trans ev82638))))))))))))) (by omega) (by omega) (by omega)), fun r hr => by cases hr; exact ⟨_, (((jw_ne e82680 (Or.inl (by decide))).trans ((jw_ne e82679 (Or.inl (by decide))).trans ((jw_ne e82677 (Or.inl (by decide))).trans ((jw_ne e82676 (Or.inl (by decide))).trans ((jw_ne e82674 (Or.inl (by decide))).trans ((jw_ne e82673 (Or.inl (by decide))).trans ((jw_ne e82671 (Or.inl (by decide))).trans ((jw_ne e82670 (Or.inl (by decide))).trans ((jw_ne e82668 (Or.inl (by decide))).trans ((jw_ne e82667 (Or.inl (by decide))).trans ((jw_ne e82666 (Or.inl (by decide))).trans (jw_eq e82664))))))))))))), by omega, by omega, (Fr.kp (Fr.w (i := (400 * w0 + 4 * w1 + 3)) (Fr.kp (Fr.w (i := (400 * w0 + 4 * w1 + 2)) (Fr.kp (Fr.w (i := (400 * w0 + 4 * w1 + 1)) (Fr.kp (Fr.w (i := (400 * w0 + 4 * w1)) (Fr.w (i := (100 * w0 + w1)) (Fr.w (i := (100 * w0 + w1)) (Fr.w (i := (100 * w0 + w1)) (Fr.kp (Fr.rf _ _) ((Kp.rf [(42, 0)] _).wr e82664 rfl) (fun _ => rfl) (fun _ => rfl) (fun _ => rfl) (fun _ => rfl)) e82666 (by omega) (by omega)) e82667 (by omega) (by omega)) e82668 (by omega) (by omega)) e82670 (by omega) (by omega)) ((Kp.rf [(52, 0)] _).wr e82671 rfl) (fun _ => rfl) (fun _ => rfl) (fun _ => rfl) (fun _ => rfl)) e82673 (by omega) (by omega)) ((Kp.rf [(52, 0)] _).wr e82674 rfl) (fun _ => rfl) (fun _ => rfl) (fun _ => rfl) (fun _ => rfl)) e82676 (by omega) (by omega)) ((Kp.rf [(52, 0)] _).wr e82677 rfl) (fun _ => rfl) (fun _ => rfl) (fun _ => rfl) (fun _ => rfl)) e82679 (by omega) (by omega)) ((Kp.rf [(52, 0)] _).wr e82680 rfl) (fun _ => rfl) (fun _ => rfl) (fun _ => rfl) (fun _ => rfl)), fun h0 => by omega, fun h0 hm => Tr.end (i := (100 * w0 + w1)) (by omega) (by omega) (by omega) (((jw_ne e82680 (Or.inl (by decide))).trans ((jw_ne e82679 (Or.inl (by decide))).trans ((jw_ne e82677 (Or.inl (by decide))).trans ((jw_ne e82676 (Or.inl (by decide))).trans ((jw_ne e82674 (Or.inl (by decide))).trans ((jw_ne e82673 (Or.inl (by decide))).trans ((jw_ne e82671 (Or.inl (by decide))).trans ((jw_ne e82670 (Or.inl (by decide))).trans ((jw_ne e82668 (Or.inl (by decide))).trans ((jw_ne e82667 (Or.inl (by decide))).trans (jw_eq e82666)))))))))))) (by omega) (by omega)⟩, fun r hr => by cases hr; exact okM (show (if bR h a1 = 45 then enR (bR h) (a1 + 1) else enR (bR h) a1) = ((a1 + 1), 0, 0, 1) by rw [if_neg (fun z => absurd ((bR_at (p := a1) k82680 (fun _ => rfl) ew2 (((jw_ne e82680 (Or.inl (by decide))).trans ((jw_ne e82679 (Or.inl (by decide))).trans ((jw_ne e82677 (Or.inl (by decide))).trans ((jw_ne e82676 (Or.inl (by decide))).trans ((jw_ne e82674 (Or.inl (by decide))).trans ((jw_ne e82673 (Or.inl (by decide))).trans ((jw_ne e82671 (Or.inl (by decide))).trans ((jw_ne e82670 (Or.inl (by decide))).trans ((jw_ne e82668 (Or.inl (by decide))).trans ((jw_ne e82667 (Or.inl (by decide))).trans ((jw_ne e82666 (Or.inl (by decide))).trans ((jw_ne e82664 (Or.inl (by decide))).trans ev82638))))))))))))) (by omega) (by omega)).symm.trans z) (by omega))]; unfold enR; rw [show nm3 (bR h) a1 = (a1 + 1) by unfold nm3; rw [(bR_at (p := a1) k82680 (fun _ => rfl) ew2 (((jw_ne e82680 (Or.inl (by decide))).trans ((jw_ne e82679 (Or.inl (by decide))).trans ((jw_ne e82677 (Or.inl (by decide))).trans ((jw_ne e82676 (Or.inl (by decide))).trans ((jw_ne e82674 (Or.inl (by decide))).trans ((jw_ne e82673 (Or.inl (by decide))).trans ((jw_ne e82671 (Or.inl (by decide))).trans ((jw_ne e82670 (Or.inl (by decide))).trans ((jw_ne e82668 (Or.inl (by decide))).trans ((jw_ne e82667 (Or.inl (by decide))).trans ((jw_ne e82666 (Or.inl (by decide))).trans ((jw_ne e82664 (Or.inl (by decide))).trans ev82638))))))))))))) (by omega) (by omega)), (bR_end (p := (a1 + 1)) ew2 (by omega))]; (repeat' split) <;> omega, if_neg (by omega)]) (by omega) (by omega) (((jw_ne e82680 (Or.inl (by decide))).trans ((jw_ne e82679 (Or.inl (by decide))).trans ((jw_ne e82677 (Or.inl (by decide))).trans ((jw_ne e82676 (Or.inl (by decide))).trans ((jw_ne e82674 (Or.inl (by decide))).trans ((jw_ne e82673 (Or.inl (by decide))).trans ((jw_ne e82671 (Or.inl (by decide))).trans ((jw_ne e82670 (Or.inl (by decide))).trans ((jw_ne e82668 (Or.inl (by decide))).trans ((jw_ne e82667 (Or.inl (by decide))).trans ((jw_ne e82666 (Or.inl (by decide))).trans (jw_eq e82664))))))))))))) (by omega)⟩
          · refine ev_aload_n rfl ?_
            refine g_getp (r := 42) (c := 54) g ad42 (by decide) (by decide) rf42_16 ft12_16 ?_
            refine ev_iload_n rfl ?_
            refine g_bald g ad54 rt54 (by omega) (by omega) (fun v82682 ev82682 lv82682 uv82682 => ?_)
            refine ev_goto f264_18 ?_
            refine ev_ret rfl (by decide) (by decide) ?_
            show jEv _ _ _ _ _ _ _ (_, [(2, 42), (0, (a1 + 1))], [(0, v82682)], _, _, _)
            refine ev_bipush ?_
            refine ev_bipush ?_
            refine ev_in (d := 0) (a := 0) (b := 0) (cd' := c242_0) (m := 3) (L0 := [(0, v82682), (0, 48), (0, 57)]) (jcall_s (A := [(0, 57), (0, 48), (0, v82682)]) (S' := []) (by decide) rfl (Nat.le_of_ble_eq_true rfl)) (by decide) ml242 pp242 (Nat.le_of_ble_eq_true rfl) rfl (by decide) (by decide) ?_
            refine ev_iload_n rfl ?_
            refine ev_iload_n rfl ?_
            refine ev_icmplt f242_14 (fun c82683 => ?_) (fun c82683 => ?_)
            · refine ev_iconst ?_
              refine ev_ret rfl (by decide) (by decide) ?_
              show jEv _ _ _ _ _ _ _ (_, [(2, 42), (0, (a1 + 1))], [(0, 0)], _, _, _)
              refine ev_ret rfl (by decide) (by decide) ?_
              show jEv _ _ _ _ _ _ _ (_, [(2, 42), (0, a1), (0, 1), (0, (a1 + 1)), (0, 0), (0, (v82638 - 48)), (0, 1)], [(0, 0)], _, _, _)
              refine ev_ifeq f269_86 (fun c82684 => ?_) (fun c82684 => absurd c82684 (by omega))
              refine ev_aload_n rfl ?_
              refine ev_iload_n rfl ?_
              refine ev_in (d := 1) (a := 0) (b := 0) (cd' := c265_0) (m := 2) (L0 := [(2, 42), (0, (a1 + 1))]) (jcall_v (A := [(0, (a1 + 1))]) (S' := []) (r := 42) rfl (g.lt ad42) (g.tg ad42) (Nat.le_of_ble_eq_true rfl)) (by decide) ml265 pp265 (Nat.le_of_ble_eq_true rfl) rfl (by decide) (by decide) ?_
              refine ev_aload_n rfl ?_
              refine ev_iload_n rfl ?_
              refine ev_in (d := 0) (a := 0) (b := 0) (cd' := c264_0) (m := 2) (L0 := [(2, 42), (0, (a1 + 1))]) (jcall_v (A := [(0, (a1 + 1))]) (S' := []) (r := 42) rfl (g.lt ad42) (g.tg ad42) (Nat.le_of_ble_eq_true rfl)) (by decide) ml264 pp264 (Nat.le_of_ble_eq_true rfl) rfl (by decide) (by decide) ?_
              refine ev_iload_n rfl ?_
              refine ev_aload_n rfl ?_
              refine g_getv (r := 42) (v := w2) g ad42 (by decide) ft12_17 (ew2) ?_
              refine ev_icmpge f264_17 (fun c82685 => absurd c82685 (by omega)) (fun c82685 => ?_)
              refine ev_aload_n rfl ?_
              refine g_getp (r := 42) (c := 54) g ad42 (by decide) (by decide) rf42_16 ft12_16 ?_
              refine ev_iload_n rfl ?_
              refine g_baldv (v := v82682) g ad54 (by omega) (by omega) (ev82682) ?_
              refine ev_goto f264_18 ?_
              refine ev_ret rfl (by decide) (by decide) ?_
              show jEv _ _ _ _ _ _ _ (_, [(2, 42), (0, (a1 + 1))], [(0, v82682)], _, _, _)
              refine ev_bipush ?_
              refine ev_bipush ?_
              refine ev_in (d := 0) (a := 0) (b := 0) (cd' := c242_0) (m := 3) (L0 := [(0, v82682), (0, 48), (0, 57)]) (jcall_s (A := [(0, 57), (0, 48), (0, v82682)]) (S' := []) (by decide) rfl (Nat.le_of_ble_eq_true rfl)) (by decide) ml242 pp242 (Nat.le_of_ble_eq_true rfl) rfl (by decide) (by decide) ?_
              refine ev_iload_n rfl ?_
              refine ev_iload_n rfl ?_
              refine ev_icmplt f242_14 (fun c82686 => ?_) (fun c82686 => absurd c82686 (by omega))
              refine ev_iconst ?_
              refine ev_ret rfl (by decide) (by decide) ?_
              show jEv _ _ _ _ _ _ _ (_, [(2, 42), (0, (a1 + 1))], [(0, 0)], _, _, _)
              refine ev_ret rfl (by decide) (by decide) ?_
              show jEv _ _ _ _ _ _ _ (_, [(2, 42), (0, a1), (0, 1), (0, (a1 + 1)), (0, 0), (0, (v82638 - 48)), (0, 1)], [(0, 0)], _, _, _)
              refine ev_ifeq f269_100 (fun c82687 => ?_) (fun c82687 => absurd c82687 (by omega))
              refine ev_aload_n rfl ?_
              refine ev_iload_n rfl ?_
              refine ev_iconst ?_
              refine ev_iload rfl ?_
              refine ev_ifeq f269_114 (fun c82688 => ?_) (fun c82688 => absurd c82688 (by omega))
              refine ev_iload rfl ?_
              refine ev_in (d := 1) (a := 0) (b := 0) (cd' := c267_0) (m := 6) (L0 := [(2, 42), (0, 1), (0, 0), (0, (v82638 - 48)), (9, 0), (9, 0)]) (jcall_v (A := [(0, (v82638 - 48)), (0, 0), (0, 1)]) (S' := []) (r := 42) rfl (g.lt ad42) (g.tg ad42) (Nat.le_of_ble_eq_true rfl)) (by decide) ml267 pp267 (Nat.le_of_ble_eq_true rfl) rfl (by decide) (by decide) ?_
              refine ev_iload_n rfl ?_
              refine ev_ifne f267_6 (fun c82689 => ?_) (fun c82689 => absurd c82689 (by omega))
              refine ev_aload_n rfl ?_
              refine ev_dup (by decide) ?_
              refine g_getv (r := 42) (v := w1) g ad42 (by decide) ft12_21 (ew1) ?_
              refine ev_iconst ?_
              refine ev_iadd (r := (w1 + 1)) (by unfold w32; omega) ?_
              refine g_putf (r := 42) g ad42 (by decide) ft12_21 (by decide) (fun e => absurd e nz12_21) rf42_21 (by decide) (by omega) (by omega) (fun h82690 e82690 g82690 => ?_)
              have k82690 := k0.wr e82690 rfl
              refine ev_aload_n rfl ?_
              refine g_getv (r := 42) (v := (w1 + 1)) g82690 ad42 (by decide) ft12_21 ((jw_eq e82690)) ?_
              refine ev_bipush ?_
              refine ev_icmple f267_27 (fun c82691 => ?_) (fun c82691 => absurd c82691 (by omega))
              refine ev_bipush ?_
              refine ev_aload_n rfl ?_
              refine g_getv (r := 42) (v := w0) g82690 ad42 (by decide) ft12_9 (((jw_ne e82690 (Or.inr (by decide))).trans ew0)) ?_
              refine ev_imul (r := (100 * w0)) (by unfold w32; omega) ?_
              refine ev_aload_n rfl ?_
              refine g_getv (r := 42) (v := (w1 + 1)) g82690 ad42 (by decide) ft12_21 ((jw_eq e82690)) ?_
              refine ev_iadd (r := (100 * w0 + w1 + 1)) (by unfold w32; omega) ?_
              refine ev_iconst ?_
              refine ev_isub (r := (100 * w0 + w1)) (by unfold w32; omega) ?_
              refine ev_istore (L' := [(2, 42), (0, 1), (0, 0), (0, (v82638 - 48)), (0, (100 * w0 + w1)), (9, 0)]) (Nat.le_of_ble_eq_true rfl) rfl ?_
              refine ev_aload_n rfl ?_
              refine g_getp (r := 42) (c := 49) g82690 ad42 (by decide) (by decide) rf42_11 ft12_11 ?_
              refine ev_iload rfl ?_
              refine ev_iload_n rfl ?_
              refine ev_i2b (r := 0) (by unfold w8; omega) ?_
              refine ev_bastG (r := 49) (j := ((100 * w0 + w1)).toNat) (w := 0) (g82690.lt ad49) (g82690.tg ad49) (by omega) (by rw [g82690.ln ad49]; omega) (by unfold w8; omega) (fun h82692 e82692 => ?_)
              have g82692 := g82690.s49 e82692 (by rw [(((jw_ne e82690 (Or.inr (by decide))).trans ew0))]; omega) (by omega) (by omega)
              have k82692 := k82690.wr e82692 rfl
              refine ev_aload_n rfl ?_
              refine g_getp (r := 42) (c := 50) g82692 ad42 (by decide) (by decide) rf42_12 ft12_12 ?_
              refine ev_iload rfl ?_
              refine ev_iload_n rfl ?_
              refine ev_iastG (r := 50) (j := ((100 * w0 + w1)).toNat) (g82692.lt ad50) (g82692.tg ad50) (by omega) (by rw [g82692.ln ad50]; omega) (fun h82693 e82693 => ?_)
              have g82693 := g82692.s50 e82693 (Or.inl (by rw [(((jw_ne e82692 (Or.inl (by decide))).trans ((jw_ne e82690 (Or.inr (by decide))).trans ew0)))]; omega)) (by omega) (by omega)
              have k82693 := k82692.wr e82693 rfl
              refine ev_aload_n rfl ?_
              refine g_getp (r := 42) (c := 53) g82693 ad42 (by decide) (by decide) rf42_15 ft12_15 ?_
              refine ev_iload rfl ?_
              refine ev_iconst ?_
              refine ev_bastG (r := 53) (j := ((100 * w0 + w1)).toNat) (w := 0) (g82693.lt ad53) (g82693.tg ad53) (by omega) (by rw [g82693.ln ad53]; omega) (by unfold w8; omega) (fun h82694 e82694 => ?_)
              have g82694 := g82693.s53 e82694 (Or.inl (by rw [(((jw_ne e82693 (Or.inl (by decide))).trans ((jw_ne e82692 (Or.inl (by decide))).trans ((jw_ne e82690 (Or.inr (by decide))).trans ew0))))]; omega)) (by omega) (by omega)
              have k82694 := k82693.wr e82694 rfl
              refine ev_iconst ?_
              refine ev_istore (L' := [(2, 42), (0, 1), (0, 0), (0, (v82638 - 48)), (0, (100 * w0 + w1)), (0, 0)]) (Nat.le_of_ble_eq_true rfl) rfl ?_
              refine ev_iload rfl ?_
              refine ev_iconst ?_
              refine ev_icmpge f267_109 (fun c82695 => absurd c82695 (by omega)) (fun c82695 => ?_)
              refine ev_aload_n rfl ?_
              refine g_getp (r := 42) (c := 51) g82694 ad42 (by decide) (by decide) rf42_13 ft12_13 ?_
              refine ev_iconst ?_
              refine ev_iload rfl ?_
              refine ev_imul (r := (400 * w0 + 4 * w1)) (by unfold w32; omega) ?_
              refine ev_iload rfl ?_
              refine ev_iadd (r := (400 * w0 + 4 * w1)) (by unfold w32; omega) ?_
              refine ev_iconst ?_
              refine ev_bastG (r := 51) (j := ((400 * w0 + 4 * w1)).toNat) (w := (-1)) (g82694.lt ad51) (g82694.tg ad51) (by omega) (by rw [g82694.ln ad51]; omega) (by unfold w8; omega) (fun h82696 e82696 => ?_)
              have g82696 := g82694.s51 e82696 (by rw [(((jw_ne e82694 (Or.inl (by decide))).trans ((jw_ne e82693 (Or.inl (by decide))).trans ((jw_ne e82692 (Or.inl (by decide))).trans ((jw_ne e82690 (Or.inr (by decide))).trans ew0)))))]; omega) (by omega) (by omega)
              have k82696 := k82694.wr e82696 rfl
              refine ev_aload_n rfl ?_
              refine g_getp (r := 42) (c := 52) g82696 ad42 (by decide) (by decide) rf42_14 ft12_14 ?_
              refine ev_iconst ?_
              refine ev_iload rfl ?_
              refine ev_imul (r := (400 * w0 + 4 * w1)) (by unfold w32; omega) ?_
              refine ev_iload rfl ?_
              refine ev_iadd (r := (400 * w0 + 4 * w1)) (by unfold w32; omega) ?_
              refine ev_iconst ?_
              refine g_iast g82696 ad52 rt52 (fun _ => rfl) (by omega) (by omega) (by omega) (by omega) (fun h82697 e82697 g82697 => ?_)
              have k82697 := k82696.wr e82697 rfl
              refine ev_iinc (w := 1) (L' := [(2, 42), (0, 1), (0, 0), (0, (v82638 - 48)), (0, (100 * w0 + w1)), (0, 1)]) rfl (by decide) rfl ?_
              refine ev_goto f267_71 ?_
              refine ev_iload rfl ?_
              refine ev_iconst ?_
              refine ev_icmpge f267_109 (fun c82698 => absurd c82698 (by omega)) (fun c82698 => ?_)
              refine ev_aload_n rfl ?_
              refine g_getp (r := 42) (c := 51) g82697 ad42 (by decide) (by decide) rf42_13 ft12_13 ?_
              refine ev_iconst ?_
              refine ev_iload rfl ?_
              refine ev_imul (r := (400 * w0 + 4 * w1)) (by unfold w32; omega) ?_
              refine ev_iload rfl ?_
              refine ev_iadd (r := (400 * w0 + 4 * w1 + 1)) (by unfold w32; omega) ?_
              refine ev_iconst ?_
              refine ev_bastG (r := 51) (j := ((400 * w0 + 4 * w1 + 1)).toNat) (w := (-1)) (g82697.lt ad51) (g82697.tg ad51) (by omega) (by rw [g82697.ln ad51]; omega) (by unfold w8; omega) (fun h82699 e82699 => ?_)
              have g82699 := g82697.s51 e82699 (by rw [(((jw_ne e82697 (Or.inl (by decide))).trans ((jw_ne e82696 (Or.inl (by decide))).trans ((jw_ne e82694 (Or.inl (by decide))).trans ((jw_ne e82693 (Or.inl (by decide))).trans ((jw_ne e82692 (Or.inl (by decide))).trans ((jw_ne e82690 (Or.inr (by decide))).trans ew0)))))))]; omega) (by omega) (by omega)
              have k82699 := k82697.wr e82699 rfl
              refine ev_aload_n rfl ?_
              refine g_getp (r := 42) (c := 52) g82699 ad42 (by decide) (by decide) rf42_14 ft12_14 ?_
              refine ev_iconst ?_
              refine ev_iload rfl ?_
              refine ev_imul (r := (400 * w0 + 4 * w1)) (by unfold w32; omega) ?_
              refine ev_iload rfl ?_
              refine ev_iadd (r := (400 * w0 + 4 * w1 + 1)) (by unfold w32; omega) ?_
              refine ev_iconst ?_
              refine g_iast g82699 ad52 rt52 (fun _ => rfl) (by omega) (by omega) (by omega) (by omega) (fun h82700 e82700 g82700 => ?_)
              have k82700 := k82699.wr e82700 rfl
              refine ev_iinc (w := 2) (L' := [(2, 42), (0, 1), (0, 0), (0, (v82638 - 48)), (0, (100 * w0 + w1)), (0, 2)]) rfl (by decide) rfl ?_
              refine ev_goto f267_71 ?_
              refine ev_iload rfl ?_
              refine ev_iconst ?_
              refine ev_icmpge f267_109 (fun c82701 => absurd c82701 (by omega)) (fun c82701 => ?_)
              refine ev_aload_n rfl ?_
              refine g_getp (r := 42) (c := 51) g82700 ad42 (by decide) (by decide) rf42_13 ft12_13 ?_
              refine ev_iconst ?_
              refine ev_iload rfl ?_
              refine ev_imul (r := (400 * w0 + 4 * w1)) (by unfold w32; omega) ?_
              refine ev_iload rfl ?_
              refine ev_iadd (r := (400 * w0 + 4 * w1 + 2)) (by unfold w32; omega) ?_
              refine ev_iconst ?_
              refine ev_bastG (r := 51) (j := ((400 * w0 + 4 * w1 + 2)).toNat) (w := (-1)) (g82700.lt ad51) (g82700.tg ad51) (by omega) (by rw [g82700.ln ad51]; omega) (by unfold w8; omega) (fun h82702 e82702 => ?_)
              have g82702 := g82700.s51 e82702 (by rw [(((jw_ne e82700 (Or.inl (by decide))).trans ((jw_ne e82699 (Or.inl (by decide))).trans ((jw_ne e82697 (Or.inl (by decide))).trans ((jw_ne e82696 (Or.inl (by decide))).trans ((jw_ne e82694 (Or.inl (by decide))).trans ((jw_ne e82693 (Or.inl (by decide))).trans ((jw_ne e82692 (Or.inl (by decide))).trans ((jw_ne e82690 (Or.inr (by decide))).trans ew0)))))))))]; omega) (by omega) (by omega)
              have k82702 := k82700.wr e82702 rfl
              refine ev_aload_n rfl ?_
              refine g_getp (r := 42) (c := 52) g82702 ad42 (by decide) (by decide) rf42_14 ft12_14 ?_
              refine ev_iconst ?_
              refine ev_iload rfl ?_
              refine ev_imul (r := (400 * w0 + 4 * w1)) (by unfold w32; omega) ?_
              refine ev_iload rfl ?_
              refine ev_iadd (r := (400 * w0 + 4 * w1 + 2)) (by unfold w32; omega) ?_
              refine ev_iconst ?_
              refine g_iast g82702 ad52 rt52 (fun _ => rfl) (by omega) (by omega) (by omega) (by omega) (fun h82703 e82703 g82703 => ?_)
              have k82703 := k82702.wr e82703 rfl
              refine ev_iinc (w := 3) (L' := [(2, 42), (0, 1), (0, 0), (0, (v82638 - 48)), (0, (100 * w0 + w1)), (0, 3)]) rfl (by decide) rfl ?_
              refine ev_goto f267_71 ?_
              refine ev_iload rfl ?_
              refine ev_iconst ?_
              refine ev_icmpge f267_109 (fun c82704 => absurd c82704 (by omega)) (fun c82704 => ?_)
              refine ev_aload_n rfl ?_
              refine g_getp (r := 42) (c := 51) g82703 ad42 (by decide) (by decide) rf42_13 ft12_13 ?_
              refine ev_iconst ?_
              refine ev_iload rfl ?_
              refine ev_imul (r := (400 * w0 + 4 * w1)) (by unfold w32; omega) ?_
              refine ev_iload rfl ?_
              refine ev_iadd (r := (400 * w0 + 4 * w1 + 3)) (by unfold w32; omega) ?_
              refine ev_iconst ?_
              refine ev_bastG (r := 51) (j := ((400 * w0 + 4 * w1 + 3)).toNat) (w := (-1)) (g82703.lt ad51) (g82703.tg ad51) (by omega) (by rw [g82703.ln ad51]; omega) (by unfold w8; omega) (fun h82705 e82705 => ?_)
              have g82705 := g82703.s51 e82705 (by rw [(((jw_ne e82703 (Or.inl (by decide))).trans ((jw_ne e82702 (Or.inl (by decide))).trans ((jw_ne e82700 (Or.inl (by decide))).trans ((jw_ne e82699 (Or.inl (by decide))).trans ((jw_ne e82697 (Or.inl (by decide))).trans ((jw_ne e82696 (Or.inl (by decide))).trans ((jw_ne e82694 (Or.inl (by decide))).trans ((jw_ne e82693 (Or.inl (by decide))).trans ((jw_ne e82692 (Or.inl (by decide))).trans ((jw_ne e82690 (Or.inr (by decide))).trans ew0)))))))))))]; omega) (by omega) (by omega)
              have k82705 := k82703.wr e82705 rfl
              refine ev_aload_n rfl ?_
              refine g_getp (r := 42) (c := 52) g82705 ad42 (by decide) (by decide) rf42_14 ft12_14 ?_
              refine ev_iconst ?_
              refine ev_iload rfl ?_
              refine ev_imul (r := (400 * w0 + 4 * w1)) (by unfold w32; omega) ?_
              refine ev_iload rfl ?_
              refine ev_iadd (r := (400 * w0 + 4 * w1 + 3)) (by unfold w32; omega) ?_
              refine ev_iconst ?_
              refine g_iast g82705 ad52 rt52 (fun _ => rfl) (by omega) (by omega) (by omega) (by omega) (fun h82706 e82706 g82706 => ?_)
              have k82706 := k82705.wr e82706 rfl
              refine ev_iinc (w := 4) (L' := [(2, 42), (0, 1), (0, 0), (0, (v82638 - 48)), (0, (100 * w0 + w1)), (0, 4)]) rfl (by decide) rfl ?_
              refine ev_goto f267_71 ?_
              refine ev_iload rfl ?_
              refine ev_iconst ?_
              refine ev_icmpge f267_109 (fun c82707 => ?_) (fun c82707 => absurd c82707 (by omega))
              refine ev_iload rfl ?_
              refine ev_ret rfl (by decide) (by decide) ?_
              show jEv _ _ _ _ _ _ _ (_, [(2, 42), (0, a1), (0, 1), (0, (a1 + 1)), (0, 0), (0, (v82638 - 48)), (0, 1)], [(0, (100 * w0 + w1))], _, _, _)
              refine ev_pop (by decide) ?_
              refine ev_iload_n rfl ?_
              exact ev_ret rfl (by decide) (by decide) ⟨⟨_, rfl, by omega, by omega, g82706, k82706⟩, fun r hr h0 => by cases hr; exact (Ad.step (r' := (a1 + 1)) (Ad.rf _ _ _) (by omega) k82706 (fun _ => rfl) (((jw_ne e82706 (Or.inl (by decide))).trans ((jw_ne e82705 (Or.inl (by decide))).trans ((jw_ne e82703 (Or.inl (by decide))).trans ((jw_ne e82702 (Or.inl (by decide))).trans ((jw_ne e82700 (Or.inl (by decide))).trans ((jw_ne e82699 (Or.inl (by decide))).trans ((jw_ne e82697 (Or.inl (by decide))).trans ((jw_ne e82696 (Or.inl (by decide))).trans ((jw_ne e82694 (Or.inl (by decide))).trans ((jw_ne e82693 (Or.inl (by decide))).trans ((jw_ne e82692 (Or.inl (by decide))).trans ((jw_ne e82690 (Or.inl (by decide))).trans ev82638))))))))))))) (by omega) (by omega) (by omega)), fun r hr => by cases hr; exact ⟨_, (((jw_ne e82706 (Or.inl (by decide))).trans ((jw_ne e82705 (Or.inl (by decide))).trans ((jw_ne e82703 (Or.inl (by decide))).trans ((jw_ne e82702 (Or.inl (by decide))).trans ((jw_ne e82700 (Or.inl (by decide))).trans ((jw_ne e82699 (Or.inl (by decide))).trans ((jw_ne e82697 (Or.inl (by decide))).trans ((jw_ne e82696 (Or.inl (by decide))).trans ((jw_ne e82694 (Or.inl (by decide))).trans ((jw_ne e82693 (Or.inl (by decide))).trans ((jw_ne e82692 (Or.inl (by decide))).trans (jw_eq e82690))))))))))))), by omega, by omega, (Fr.kp (Fr.w (i := (400 * w0 + 4 * w1 + 3)) (Fr.kp (Fr.w (i := (400 * w0 + 4 * w1 + 2)) (Fr.kp (Fr.w (i := (400 * w0 + 4 * w1 + 1)) (Fr.kp (Fr.w (i := (400 * w0 + 4 * w1)) (Fr.w (i := (100 * w0 + w1)) (Fr.w (i := (100 * w0 + w1)) (Fr.w (i := (100 * w0 + w1)) (Fr.kp (Fr.rf _ _) ((Kp.rf [(42, 0)] _).wr e82690 rfl) (fun _ => rfl) (fun _ => rfl) (fun _ => rfl) (fun _ => rfl)) e82692 (by omega) (by omega)) e82693 (by omega) (by omega)) e82694 (by omega) (by omega)) e82696 (by omega) (by omega)) ((Kp.rf [(52, 0)] _).wr e82697 rfl) (fun _ => rfl) (fun _ => rfl) (fun _ => rfl) (fun _ => rfl)) e82699 (by omega) (by omega)) ((Kp.rf [(52, 0)] _).wr e82700 rfl) (fun _ => rfl) (fun _ => rfl) (fun _ => rfl) (fun _ => rfl)) e82702 (by omega) (by omega)) ((Kp.rf [(52, 0)] _).wr e82703 rfl) (fun _ => rfl) (fun _ => rfl) (fun _ => rfl) (fun _ => rfl)) e82705 (by omega) (by omega)) ((Kp.rf [(52, 0)] _).wr e82706 rfl) (fun _ => rfl) (fun _ => rfl) (fun _ => rfl) (fun _ => rfl)), fun h0 => by omega, fun h0 hm => Tr.end (i := (100 * w0 + w1)) (by omega) (by omega) (by omega) (((jw_ne e82706 (Or.inl (by decide))).trans ((jw_ne e82705 (Or.inl (by decide))).trans ((jw_ne e82703 (Or.inl (by decide))).trans ((jw_ne e82702 (Or.inl (by decide))).trans ((jw_ne e82700 (Or.inl (by decide))).trans ((jw_ne e82699 (Or.inl (by decide))).trans ((jw_ne e82697 (Or.inl (by decide))).trans ((jw_ne e82696 (Or.inl (by decide))).trans ((jw_ne e82694 (Or.inl (by decide))).trans ((jw_ne e82693 (Or.inl (by decide))).trans (jw_eq e82692)))))))))))) (by omega) (by omega)⟩, fun r hr => by cases hr; exact okM (show (if bR h a1 = 45 then enR (bR h) (a1 + 1) else enR (bR h) a1) = ((a1 + 1), 0, 0, 1) by rw [if_neg (fun z => absurd ((bR_at (p := a1) k82706 (fun _ => rfl) ew2 (((jw_ne e82706 (Or.inl (by decide))).trans ((jw_ne e82705 (Or.inl (by decide))).trans ((jw_ne e82703 (Or.inl (by decide))).trans ((jw_ne e82702 (Or.inl (by decide))).trans ((jw_ne e82700 (Or.inl (by decide))).trans ((jw_ne e82699 (Or.inl (by decide))).trans ((jw_ne e82697 (Or.inl (by decide))).trans ((jw_ne e82696 (Or.inl (by decide))).trans ((jw_ne e82694 (Or.inl (by decide))).trans ((jw_ne e82693 (Or.inl (by decide))).trans ((jw_ne e82692 (Or.inl (by decide))).trans ((jw_ne e82690 (Or.inl (by decide))).trans ev82638))))))))))))) (by omega) (by omega)).symm.trans z) (by omega))]; unfold enR; rw [show nm3 (bR h) a1 = (a1 + 1) by unfold nm3; rw [(bR_at (p := a1) k82706 (fun _ => rfl) ew2 (((jw_ne e82706 (Or.inl (by decide))).trans ((jw_ne e82705 (Or.inl (by decide))).trans ((jw_ne e82703 (Or.inl (by decide))).trans ((jw_ne e82702 (Or.inl (by decide))).trans ((jw_ne e82700 (Or.inl (by decide))).trans ((jw_ne e82699 (Or.inl (by decide))).trans ((jw_ne e82697 (Or.inl (by decide))).trans ((jw_ne e82696 (Or.inl (by decide))).trans ((jw_ne e82694 (Or.inl (by decide))).trans ((jw_ne e82693 (Or.inl (by decide))).trans ((jw_ne e82692 (Or.inl (by decide))).trans ((jw_ne e82690 (Or.inl (by decide))).trans ev82638))))))))))))) (by omega) (by omega)), (bR_at (p := (a1 + 1)) k82706 (fun _ => rfl) ew2 (((jw_ne e82706 (Or.inl (by decide))).trans ((jw_ne e82705 (Or.inl (by decide))).trans ((jw_ne e82703 (Or.inl (by decide))).trans ((jw_ne e82702 (Or.inl (by decide))).trans ((jw_ne e82700 (Or.inl (by decide))).trans ((jw_ne e82699 (Or.inl (by decide))).trans ((jw_ne e82697 (Or.inl (by decide))).trans ((jw_ne e82696 (Or.inl (by decide))).trans ((jw_ne e82694 (Or.inl (by decide))).trans ((jw_ne e82693 (Or.inl (by decide))).trans ((jw_ne e82692 (Or.inl (by decide))).trans ((jw_ne e82690 (Or.inl (by decide))).trans ev82682))))))))))))) (by omega) (by omega))]; (repeat' split) <;> omega, if_neg (by omega)]) (by omega) (by omega) (((jw_ne e82706 (Or.inl (by decide))).trans ((jw_ne e82705 (Or.inl (by decide))).trans ((jw_ne e82703 (Or.inl (by decide))).trans ((jw_ne e82702 (Or.inl (by decide))).trans ((jw_ne e82700 (Or.inl (by decide))).trans ((jw_ne e82699 (Or.inl (by decide))).trans ((jw_ne e82697 (Or.inl (by decide))).trans ((jw_ne e82696 (Or.inl (by decide))).trans ((jw_ne e82694 (Or.inl (by decide))).trans ((jw_ne e82693 (Or.inl (by decide))).trans ((jw_ne e82692 (Or.inl (by decide))).trans (jw_eq e82690))))))))))))) (by omega)⟩
            · refine ev_iload_n rfl ?_
              refine ev_iload_n rfl ?_
              refine ev_icmpgt f242_14 (fun c82708 => ?_) (fun c82708 => ?_)
              · refine ev_iconst ?_
                refine ev_ret rfl (by decide) (by decide) ?_
                show jEv _ _ _ _ _ _ _ (_, [(2, 42), (0, (a1 + 1))], [(0, 0)], _, _, _)
                refine ev_ret rfl (by decide) (by decide) ?_
                show jEv _ _ _ _ _ _ _ (_, [(2, 42), (0, a1), (0, 1), (0, (a1 + 1)), (0, 0), (0, (v82638 - 48)), (0, 1)], [(0, 0)], _, _, _)
                refine ev_ifeq f269_86 (fun c82709 => ?_) (fun c82709 => absurd c82709 (by omega))
                refine ev_aload_n rfl ?_
                refine ev_iload_n rfl ?_
                refine ev_in (d := 1) (a := 0) (b := 0) (cd' := c265_0) (m := 2) (L0 := [(2, 42), (0, (a1 + 1))]) (jcall_v (A := [(0, (a1 + 1))]) (S' := []) (r := 42) rfl (g.lt ad42) (g.tg ad42) (Nat.le_of_ble_eq_true rfl)) (by decide) ml265 pp265 (Nat.le_of_ble_eq_true rfl) rfl (by decide) (by decide) ?_
                refine ev_aload_n rfl ?_
                refine ev_iload_n rfl ?_
                refine ev_in (d := 0) (a := 0) (b := 0) (cd' := c264_0) (m := 2) (L0 := [(2, 42), (0, (a1 + 1))]) (jcall_v (A := [(0, (a1 + 1))]) (S' := []) (r := 42) rfl (g.lt ad42) (g.tg ad42) (Nat.le_of_ble_eq_true rfl)) (by decide) ml264 pp264 (Nat.le_of_ble_eq_true rfl) rfl (by decide) (by decide) ?_
                refine ev_iload_n rfl ?_
                refine ev_aload_n rfl ?_
                refine g_getv (r := 42) (v := w2) g ad42 (by decide) ft12_17 (ew2) ?_
                refine ev_icmpge f264_17 (fun c82710 => absurd c82710 (by omega)) (fun c82710 => ?_)
                refine ev_aload_n rfl ?_
                refine g_getp (r := 42) (c := 54) g ad42 (by decide) (by decide) rf42_16 ft12_16 ?_
                refine ev_iload_n rfl ?_
                refine g_baldv (v := v82682) g ad54 (by omega) (by omega) (ev82682) ?_
                refine ev_goto f264_18 ?_
                refine ev_ret rfl (by decide) (by decide) ?_
                show jEv _ _ _ _ _ _ _ (_, [(2, 42), (0, (a1 + 1))], [(0, v82682)], _, _, _)
                refine ev_bipush ?_
                refine ev_bipush ?_
                refine ev_in (d := 0) (a := 0) (b := 0) (cd' := c242_0) (m := 3) (L0 := [(0, v82682), (0, 48), (0, 57)]) (jcall_s (A := [(0, 57), (0, 48), (0, v82682)]) (S' := []) (by decide) rfl (Nat.le_of_ble_eq_true rfl)) (by decide) ml242 pp242 (Nat.le_of_ble_eq_true rfl) rfl (by decide) (by decide) ?_
                refine ev_iload_n rfl ?_
                refine ev_iload_n rfl ?_
                refine ev_icmplt f242_14 (fun c82711 => absurd c82711 (by omega)) (fun c82711 => ?_)
                refine ev_iload_n rfl ?_
                refine ev_iload_n rfl ?_
                refine ev_icmpgt f242_14 (fun c82712 => ?_) (fun c82712 => absurd c82712 (by omega))
                refine ev_iconst ?_
                refine ev_ret rfl (by decide) (by decide) ?_
                show jEv _ _ _ _ _ _ _ (_, [(2, 42), (0, (a1 + 1))], [(0, 0)], _, _, _)
                refine ev_ret rfl (by decide) (by decide) ?_
                show jEv _ _ _ _ _ _ _ (_, [(2, 42), (0, a1), (0, 1), (0, (a1 + 1)), (0, 0), (0, (v82638 - 48)), (0, 1)], [(0, 0)], _, _, _)
                refine ev_ifeq f269_100 (fun c82713 => ?_) (fun c82713 => absurd c82713 (by omega))
                refine ev_aload_n rfl ?_
                refine ev_iload_n rfl ?_
                refine ev_iconst ?_
                refine ev_iload rfl ?_
                refine ev_ifeq f269_114 (fun c82714 => ?_) (fun c82714 => absurd c82714 (by omega))
                refine ev_iload rfl ?_
                refine ev_in (d := 1) (a := 0) (b := 0) (cd' := c267_0) (m := 6) (L0 := [(2, 42), (0, 1), (0, 0), (0, (v82638 - 48)), (9, 0), (9, 0)]) (jcall_v (A := [(0, (v82638 - 48)), (0, 0), (0, 1)]) (S' := []) (r := 42) rfl (g.lt ad42) (g.tg ad42) (Nat.le_of_ble_eq_true rfl)) (by decide) ml267 pp267 (Nat.le_of_ble_eq_true rfl) rfl (by decide) (by decide) ?_
                refine ev_iload_n rfl ?_
                refine ev_ifne f267_6 (fun c82715 => ?_) (fun c82715 => absurd c82715 (by omega))
                refine ev_aload_n rfl ?_
                refine ev_dup (by decide) ?_
                refine g_getv (r := 42) (v := w1) g ad42 (by decide) ft12_21 (ew1) ?_
                refine ev_iconst ?_
                refine ev_iadd (r := (w1 + 1)) (by unfold w32; omega) ?_
                refine g_putf (r := 42) g ad42 (by decide) ft12_21 (by decide) (fun e => absurd e nz12_21) rf42_21 (by decide) (by omega) (by omega) (fun h82716 e82716 g82716 => ?_)
                have k82716 := k0.wr e82716 rfl
                refine ev_aload_n rfl ?_
                refine g_getv (r := 42) (v := (w1 + 1)) g82716 ad42 (by decide) ft12_21 ((jw_eq e82716)) ?_
                refine ev_bipush ?_
                refine ev_icmple f267_27 (fun c82717 => ?_) (fun c82717 => absurd c82717 (by omega))
                refine ev_bipush ?_
                refine ev_aload_n rfl ?_
                refine g_getv (r := 42) (v := w0) g82716 ad42 (by decide) ft12_9 (((jw_ne e82716 (Or.inr (by decide))).trans ew0)) ?_
                refine ev_imul (r := (100 * w0)) (by unfold w32; omega) ?_
                refine ev_aload_n rfl ?_
                refine g_getv (r := 42) (v := (w1 + 1)) g82716 ad42 (by decide) ft12_21 ((jw_eq e82716)) ?_
                refine ev_iadd (r := (100 * w0 + w1 + 1)) (by unfold w32; omega) ?_
                refine ev_iconst ?_
                refine ev_isub (r := (100 * w0 + w1)) (by unfold w32; omega) ?_
                refine ev_istore (L' := [(2, 42), (0, 1), (0, 0), (0, (v82638 - 48)), (0, (100 * w0 + w1)), (9, 0)]) (Nat.le_of_ble_eq_true rfl) rfl ?_
                refine ev_aload_n rfl ?_
                refine g_getp (r := 42) (c := 49) g82716 ad42 (by decide) (by decide) rf42_11 ft12_11 ?_
                refine ev_iload rfl ?_
                refine ev_iload_n rfl ?_
                refine ev_i2b (r := 0) (by unfold w8; omega) ?_
                refine ev_bastG (r := 49) (j := ((100 * w0 + w1)).toNat) (w := 0) (g82716.lt ad49) (g82716.tg ad49) (by omega) (by rw [g82716.ln ad49]; omega) (by unfold w8; omega) (fun h82718 e82718 => ?_)
                have g82718 := g82716.s49 e82718 (by rw [(((jw_ne e82716 (Or.inr (by decide))).trans ew0))]; omega) (by omega) (by omega)
                have k82718 := k82716.wr e82718 rfl
                refine ev_aload_n rfl ?_
                refine g_getp (r := 42) (c := 50) g82718 ad42 (by decide) (by decide) rf42_12 ft12_12 ?_
                refine ev_iload rfl ?_
                refine ev_iload_n rfl ?_
                refine ev_iastG (r := 50) (j := ((100 * w0 + w1)).toNat) (g82718.lt ad50) (g82718.tg ad50) (by omega) (by rw [g82718.ln ad50]; omega) (fun h82719 e82719 => ?_)
                have g82719 := g82718.s50 e82719 (Or.inl (by rw [(((jw_ne e82718 (Or.inl (by decide))).trans ((jw_ne e82716 (Or.inr (by decide))).trans ew0)))]; omega)) (by omega) (by omega)
                have k82719 := k82718.wr e82719 rfl
                refine ev_aload_n rfl ?_
                refine g_getp (r := 42) (c := 53) g82719 ad42 (by decide) (by decide) rf42_15 ft12_15 ?_
                refine ev_iload rfl ?_
                refine ev_iconst ?_
                refine ev_bastG (r := 53) (j := ((100 * w0 + w1)).toNat) (w := 0) (g82719.lt ad53) (g82719.tg ad53) (by omega) (by rw [g82719.ln ad53]; omega) (by unfold w8; omega) (fun h82720 e82720 => ?_)
                have g82720 := g82719.s53 e82720 (Or.inl (by rw [(((jw_ne e82719 (Or.inl (by decide))).trans ((jw_ne e82718 (Or.inl (by decide))).trans ((jw_ne e82716 (Or.inr (by decide))).trans ew0))))]; omega)) (by omega) (by omega)
                have k82720 := k82719.wr e82720 rfl
                refine ev_iconst ?_
                refine ev_istore (L' := [(2, 42), (0, 1), (0, 0), (0, (v82638 - 48)), (0, (100 * w0 + w1)), (0, 0)]) (Nat.le_of_ble_eq_true rfl) rfl ?_
                refine ev_iload rfl ?_
                refine ev_iconst ?_
                refine ev_icmpge f267_109 (fun c82721 => absurd c82721 (by omega)) (fun c82721 => ?_)
                refine ev_aload_n rfl ?_
                refine g_getp (r := 42) (c := 51) g82720 ad42 (by decide) (by decide) rf42_13 ft12_13 ?_
                refine ev_iconst ?_
                refine ev_iload rfl ?_
                refine ev_imul (r := (400 * w0 + 4 * w1)) (by unfold w32; omega) ?_
                refine ev_iload rfl ?_
                refine ev_iadd (r := (400 * w0 + 4 * w1)) (by unfold w32; omega) ?_
                refine ev_iconst ?_
                refine ev_bastG (r := 51) (j := ((400 * w0 + 4 * w1)).toNat) (w := (-1)) (g82720.lt ad51) (g82720.tg ad51) (by omega) (by rw [g82720.ln ad51]; omega) (by unfold w8; omega) (fun h82722 e82722 => ?_)
                have g82722 := g82720.s51 e82722 (by rw [(((jw_ne e82720 (Or.inl (by decide))).trans ((jw_ne e82719 (Or.inl (by decide))).trans ((jw_ne e82718 (Or.inl (by decide))).trans ((jw_ne e82716 (Or.inr (by decide))).trans ew0)))))]; omega) (by omega) (by omega)
                have k82722 := k82720.wr e82722 rfl
                refine ev_aload_n rfl ?_
                refine g_getp (r := 42) (c := 52) g82722 ad42 (by decide) (by decide) rf42_14 ft12_14 ?_
                refine ev_iconst ?_
                refine ev_iload rfl ?_
                refine ev_imul (r := (400 * w0 + 4 * w1)) (by unfold w32; omega) ?_
                refine ev_iload rfl ?_
                refine ev_iadd (r := (400 * w0 + 4 * w1)) (by unfold w32; omega) ?_
                refine ev_iconst ?_
                refine g_iast g82722 ad52 rt52 (fun _ => rfl) (by omega) (by omega) (by omega) (by omega) (fun h82723 e82723 g82723 => ?_)
                have k82723 := k82722.wr e82723 rfl
                refine ev_iinc (w := 1) (L' := [(2, 42), (0, 1), (0, 0), (0, (v82638 - 48)), (0, (100 * w0 + w1)), (0, 1)]) rfl (by decide) rfl ?_
                refine ev_goto f267_71 ?_
                refine ev_iload rfl ?_
                refine ev_iconst ?_
                refine ev_icmpge f267_109 (fun c82724 => absurd c82724 (by omega)) (fun c82724 => ?_)
                refine ev_aload_n rfl ?_
                refine g_getp (r := 42) (c := 51) g82723 ad42 (by decide) (by decide) rf42_13 ft12_13 ?_
                refine ev_iconst ?_
                refine ev_iload rfl ?_
                refine ev_imul (r := (400 * w0 + 4 * w1)) (by unfold w32; omega) ?_
                refine ev_iload rfl ?_
                refine ev_iadd (r := (400 * w0 + 4 * w1 + 1)) (by unfold w32; omega) ?_
                refine ev_iconst ?_
                refine ev_bastG (r := 51) (j := ((400 * w0 + 4 * w1 + 1)).toNat) (w := (-1)) (g82723.lt ad51) (g82723.tg ad51) (by omega) (by rw [g82723.ln ad51]; omega) (by unfold w8; omega) (fun h82725 e82725 => ?_)
                have g82725 := g82723.s51 e82725 (by rw [(((jw_ne e82723 (Or.inl (by decide))).trans ((jw_ne e82722 (Or.inl (by decide))).trans ((jw_ne e82720 (Or.inl (by decide))).trans ((jw_ne e82719 (Or.inl (by decide))).trans ((jw_ne e82718 (Or.inl (by decide))).trans ((jw_ne e82716 (Or.inr (by decide))).trans ew0)))))))]; omega) (by omega) (by omega)
                have k82725 := k82723.wr e82725 rfl
                refine ev_aload_n rfl ?_
                refine g_getp (r := 42) (c := 52) g82725 ad42 (by decide) (by decide) rf42_14 ft12_14 ?_
                refine ev_iconst ?_
                refine ev_iload rfl ?_
                refine ev_imul (r := (400 * w0 + 4 * w1)) (by unfold w32; omega) ?_
                refine ev_iload rfl ?_
                refine ev_iadd (r := (400 * w0 + 4 * w1 + 1)) (by unfold w32; omega) ?_
                refine ev_iconst ?_
                refine g_iast g82725 ad52 rt52 (fun _ => rfl) (by omega) (by omega) (by omega) (by omega) (fun h82726 e82726 g82726 => ?_)
                have k82726 := k82725.wr e82726 rfl
                refine ev_iinc (w := 2) (L' := [(2, 42), (0, 1), (0, 0), (0, (v82638 - 48)), (0, (100 * w0 + w1)), (0, 2)]) rfl (by decide) rfl ?_
                refine ev_goto f267_71 ?_
                refine ev_iload rfl ?_
                refine ev_iconst ?_
                refine ev_icmpge f267_109 (fun c82727 => absurd c82727 (by omega)) (fun c82727 => ?_)
                refine ev_aload_n rfl ?_
                refine g_getp (r := 42) (c := 51) g82726 ad42 (by decide) (by decide) rf42_13 ft12_13 ?_
                refine ev_iconst ?_
                refine ev_iload rfl ?_
                refine ev_imul (r := (400 * w0 + 4 * w1)) (by unfold w32; omega) ?_
                refine ev_iload rfl ?_
                refine ev_iadd (r := (400 * w0 + 4 * w1 + 2)) (by unfold w32; omega) ?_
                refine ev_iconst ?_
                refine ev_bastG (r := 51) (j := ((400 * w0 + 4 * w1 + 2)).toNat) (w := (-1)) (g82726.lt ad51) (g82726.tg ad51) (by omega) (by rw [g82726.ln ad51]; omega) (by unfold w8; omega) (fun h82728 e82728 => ?_)
                have g82728 := g82726.s51 e82728 (by rw [(((jw_ne e82726 (Or.inl (by decide))).trans ((jw_ne e82725 (Or.inl (by decide))).trans ((jw_ne e82723 (Or.inl (by decide))).trans ((jw_ne e82722 (Or.inl (by decide))).trans ((jw_ne e82720 (Or.inl (by decide))).trans ((jw_ne e82719 (Or.inl (by decide))).trans ((jw_ne e82718 (Or.inl (by decide))).trans ((jw_ne e82716 (Or.inr (by decide))).trans ew0)))))))))]; omega) (by omega) (by omega)
                have k82728 := k82726.wr e82728 rfl
                refine ev_aload_n rfl ?_
                refine g_getp (r := 42) (c := 52) g82728 ad42 (by decide) (by decide) rf42_14 ft12_14 ?_
                refine ev_iconst ?_
                refine ev_iload rfl ?_
                refine ev_imul (r := (400 * w0 + 4 * w1)) (by unfold w32; omega) ?_
                refine ev_iload rfl ?_
                refine ev_iadd (r := (400 * w0 + 4 * w1 + 2)) (by unfold w32; omega) ?_
                refine ev_iconst ?_
                refine g_iast g82728 ad52 rt52 (fun _ => rfl) (by omega) (by omega) (by omega) (by omega) (fun h82729 e82729 g82729 => ?_)
                have k82729 := k82728.wr e82729 rfl
                refine ev_iinc (w := 3) (L' := [(2, 42), (0, 1), (0, 0), (0, (v82638 - 48)), (0, (100 * w0 + w1)), (0, 3)]) rfl (by decide) rfl ?_
                refine ev_goto f267_71 ?_
                refine ev_iload rfl ?_
                refine ev_iconst ?_
                refine ev_icmpge f267_109 (fun c82730 => absurd c82730 (by omega)) (fun c82730 => ?_)
                refine ev_aload_n rfl ?_
                refine g_getp (r := 42) (c := 51) g82729 ad42 (by decide) (by decide) rf42_13 ft12_13 ?_
                refine ev_iconst ?_
                refine ev_iload rfl ?_
                refine ev_imul (r := (400 * w0 + 4 * w1)) (by unfold w32; omega) ?_
                refine ev_iload rfl ?_
                refine ev_iadd (r := (400 * w0 + 4 * w1 + 3)) (by unfold w32; omega) ?_
                refine ev_iconst ?_
                refine ev_bastG (r := 51) (j := ((400 * w0 + 4 * w1 + 3)).toNat) (w := (-1)) (g82729.lt ad51) (g82729.tg ad51) (by omega) (by rw [g82729.ln ad51]; omega) (by unfold w8; omega) (fun h82731 e82731 => ?_)
                have g82731 := g82729.s51 e82731 (by rw [(((jw_ne e82729 (Or.inl (by decide))).trans ((jw_ne e82728 (Or.inl (by decide))).trans ((jw_ne e82726 (Or.inl (by decide))).trans ((jw_ne e82725 (Or.inl (by decide))).trans ((jw_ne e82723 (Or.inl (by decide))).trans ((jw_ne e82722 (Or.inl (by decide))).trans ((jw_ne e82720 (Or.inl (by decide))).trans ((jw_ne e82719 (Or.inl (by decide))).trans ((jw_ne e82718 (Or.inl (by decide))).trans ((jw_ne e82716 (Or.inr (by decide))).trans ew0)))))))))))]; omega) (by omega) (by omega)
                have k82731 := k82729.wr e82731 rfl
                refine ev_aload_n rfl ?_
                refine g_getp (r := 42) (c := 52) g82731 ad42 (by decide) (by decide) rf42_14 ft12_14 ?_
                refine ev_iconst ?_
                refine ev_iload rfl ?_
                refine ev_imul (r := (400 * w0 + 4 * w1)) (by unfold w32; omega) ?_
                refine ev_iload rfl ?_
                refine ev_iadd (r := (400 * w0 + 4 * w1 + 3)) (by unfold w32; omega) ?_
                refine ev_iconst ?_
                refine g_iast g82731 ad52 rt52 (fun _ => rfl) (by omega) (by omega) (by omega) (by omega) (fun h82732 e82732 g82732 => ?_)
                have k82732 := k82731.wr e82732 rfl
                refine ev_iinc (w := 4) (L' := [(2, 42), (0, 1), (0, 0), (0, (v82638 - 48)), (0, (100 * w0 + w1)), (0, 4)]) rfl (by decide) rfl ?_
                refine ev_goto f267_71 ?_
                refine ev_iload rfl ?_
                refine ev_iconst ?_
                refine ev_icmpge f267_109 (fun c82733 => ?_) (fun c82733 => absurd c82733 (by omega))
                refine ev_iload rfl ?_
                refine ev_ret rfl (by decide) (by decide) ?_
                show jEv _ _ _ _ _ _ _ (_, [(2, 42), (0, a1), (0, 1), (0, (a1 + 1)), (0, 0), (0, (v82638 - 48)), (0, 1)], [(0, (100 * w0 + w1))], _, _, _)
                refine ev_pop (by decide) ?_
                refine ev_iload_n rfl ?_
                exact ev_ret rfl (by decide) (by decide) ⟨⟨_, rfl, by omega, by omega, g82732, k82732⟩, fun r hr h0 => by cases hr; exact (Ad.step (r' := (a1 + 1)) (Ad.rf _ _ _) (by omega) k82732 (fun _ => rfl) (((jw_ne e82732 (Or.inl (by decide))).trans ((jw_ne e82731 (Or.inl (by decide))).trans ((jw_ne e82729 (Or.inl (by decide))).trans ((jw_ne e82728 (Or.inl (by decide))).trans ((jw_ne e82726 (Or.inl (by decide))).trans ((jw_ne e82725 (Or.inl (by decide))).trans ((jw_ne e82723 (Or.inl (by decide))).trans ((jw_ne e82722 (Or.inl (by decide))).trans ((jw_ne e82720 (Or.inl (by decide))).trans ((jw_ne e82719 (Or.inl (by decide))).trans ((jw_ne e82718 (Or.inl (by decide))).trans ((jw_ne e82716 (Or.inl (by decide))).trans ev82638))))))))))))) (by omega) (by omega) (by omega)), fun r hr => by cases hr; exact ⟨_, (((jw_ne e82732 (Or.inl (by decide))).trans ((jw_ne e82731 (Or.inl (by decide))).trans ((jw_ne e82729 (Or.inl (by decide))).trans ((jw_ne e82728 (Or.inl (by decide))).trans ((jw_ne e82726 (Or.inl (by decide))).trans ((jw_ne e82725 (Or.inl (by decide))).trans ((jw_ne e82723 (Or.inl (by decide))).trans ((jw_ne e82722 (Or.inl (by decide))).trans ((jw_ne e82720 (Or.inl (by decide))).trans ((jw_ne e82719 (Or.inl (by decide))).trans ((jw_ne e82718 (Or.inl (by decide))).trans (jw_eq e82716))))))))))))), by omega, by omega, (Fr.kp (Fr.w (i := (400 * w0 + 4 * w1 + 3)) (Fr.kp (Fr.w (i := (400 * w0 + 4 * w1 + 2)) (Fr.kp (Fr.w (i := (400 * w0 + 4 * w1 + 1)) (Fr.kp (Fr.w (i := (400 * w0 + 4 * w1)) (Fr.w (i := (100 * w0 + w1)) (Fr.w (i := (100 * w0 + w1)) (Fr.w (i := (100 * w0 + w1)) (Fr.kp (Fr.rf _ _) ((Kp.rf [(42, 0)] _).wr e82716 rfl) (fun _ => rfl) (fun _ => rfl) (fun _ => rfl) (fun _ => rfl)) e82718 (by omega) (by omega)) e82719 (by omega) (by omega)) e82720 (by omega) (by omega)) e82722 (by omega) (by omega)) ((Kp.rf [(52, 0)] _).wr e82723 rfl) (fun _ => rfl) (fun _ => rfl) (fun _ => rfl) (fun _ => rfl)) e82725 (by omega) (by omega)) ((Kp.rf [(52, 0)] _).wr e82726 rfl) (fun _ => rfl) (fun _ => rfl) (fun _ => rfl) (fun _ => rfl)) e82728 (by omega) (by omega)) ((Kp.rf [(52, 0)] _).wr e82729 rfl) (fun _ => rfl) (fun _ => rfl) (fun _ => rfl) (fun _ => rfl)) e82731 (by omega) (by omega)) ((Kp.rf [(52, 0)] _).wr e82732 rfl) (fun _ => rfl) (fun _ => rfl) (fun _ => rfl) (fun _ => rfl)), fun h0 => by omega, fun h0 hm => Tr.end (i := (100 * w0 + w1)) (by omega) (by omega) (by omega) (((jw_ne e82732 (Or.inl (by decide))).trans ((jw_ne e82731 (Or.inl (by decide))).trans ((jw_ne e82729 (Or.inl (by decide))).trans ((jw_ne e82728 (Or.inl (by decide))).trans ((jw_ne e82726 (Or.inl (by decide))).trans ((jw_ne e82725 (Or.inl (by decide))).trans ((jw_ne e82723 (Or.inl (by decide))).trans ((jw_ne e82722 (Or.inl (by decide))).trans ((jw_ne e82720 (Or.inl (by decide))).trans ((jw_ne e82719 (Or.inl (by decide))).trans (jw_eq e82718)))))))))))) (by omega) (by omega)⟩, fun r hr => by cases hr; exact okM (show (if bR h a1 = 45 then enR (bR h) (a1 + 1) else enR (bR h) a1) = ((a1 + 1), 0, 0, 1) by rw [if_neg (fun z => absurd ((bR_at (p := a1) k82732 (fun _ => rfl) ew2 (((jw_ne e82732 (Or.inl (by decide))).trans ((jw_ne e82731 (Or.inl (by decide))).trans ((jw_ne e82729 (Or.inl (by decide))).trans ((jw_ne e82728 (Or.inl (by decide))).trans ((jw_ne e82726 (Or.inl (by decide))).trans ((jw_ne e82725 (Or.inl (by decide))).trans ((jw_ne e82723 (Or.inl (by decide))).trans ((jw_ne e82722 (Or.inl (by decide))).trans ((jw_ne e82720 (Or.inl (by decide))).trans ((jw_ne e82719 (Or.inl (by decide))).trans ((jw_ne e82718 (Or.inl (by decide))).trans ((jw_ne e82716 (Or.inl (by decide))).trans ev82638))))))))))))) (by omega) (by omega)).symm.trans z) (by omega))]; unfold enR; rw [show nm3 (bR h) a1 = (a1 + 1) by unfold nm3; rw [(bR_at (p := a1) k82732 (fun _ => rfl) ew2 (((jw_ne e82732 (Or.inl (by decide))).trans ((jw_ne e82731 (Or.inl (by decide))).trans ((jw_ne e82729 (Or.inl (by decide))).trans ((jw_ne e82728 (Or.inl (by decide))).trans ((jw_ne e82726 (Or.inl (by decide))).trans ((jw_ne e82725 (Or.inl (by decide))).trans ((jw_ne e82723 (Or.inl (by decide))).trans ((jw_ne e82722 (Or.inl (by decide))).trans ((jw_ne e82720 (Or.inl (by decide))).trans ((jw_ne e82719 (Or.inl (by decide))).trans ((jw_ne e82718 (Or.inl (by decide))).trans ((jw_ne e82716 (Or.inl (by decide))).trans ev82638))))))))))))) (by omega) (by omega)), (bR_at (p := (a1 + 1)) k82732 (fun _ => rfl) ew2 (((jw_ne e82732 (Or.inl (by decide))).trans ((jw_ne e82731 (Or.inl (by decide))).trans ((jw_ne e82729 (Or.inl (by decide))).trans ((jw_ne e82728 (Or.inl (by decide))).trans ((jw_ne e82726 (Or.inl (by decide))).trans ((jw_ne e82725 (Or.inl (by decide))).trans ((jw_ne e82723 (Or.inl (by decide))).trans ((jw_ne e82722 (Or.inl (by decide))).trans ((jw_ne e82720 (Or.inl (by decide))).trans ((jw_ne e82719 (Or.inl (by decide))).trans ((jw_ne e82718 (Or.inl (by decide))).trans ((jw_ne e82716 (Or.inl (by decide))).trans ev82682))))))))))))) (by omega) (by omega))]; (repeat' split) <;> omega, if_neg (by omega)]) (by omega) (by omega) (((jw_ne e82732 (Or.inl (by decide))).trans ((jw_ne e82731 (Or.inl (by decide))).trans ((jw_ne e82729 (Or.inl (by decide))).trans ((jw_ne e82728 (Or.inl (by decide))).trans ((jw_ne e82726 (Or.inl (by decide))).trans ((jw_ne e82725 (Or.inl (by decide))).trans ((jw_ne e82723 (Or.inl (by decide))).trans ((jw_ne e82722 (Or.inl (by decide))).trans ((jw_ne e82720 (Or.inl (by decide))).trans ((jw_ne e82719 (Or.inl (by decide))).trans ((jw_ne e82718 (Or.inl (by decide))).trans (jw_eq e82716))))))))))))) (by omega)⟩
              · refine ev_iconst ?_
                refine ev_goto f242_15 ?_
                refine ev_ret rfl (by decide) (by decide) ?_
                show jEv _ _ _ _ _ _ _ (_, [(2, 42), (0, (a1 + 1))], [(0, 1)], _, _, _)
                refine ev_ret rfl (by decide) (by decide) ?_
                show jEv _ _ _ _ _ _ _ (_, [(2, 42), (0, a1), (0, 1), (0, (a1 + 1)), (0, 0), (0, (v82638 - 48)), (0, 1)], [(0, 1)], _, _, _)
                refine ev_ifeq f269_86 (fun c82734 => absurd c82734 (by omega)) (fun c82734 => ?_)
                refine ev_bipush ?_
                refine ev_iload rfl ?_
                refine ev_imul (r := (10 * v82638 - 480)) (by unfold w32; omega) ?_
                refine ev_aload_n rfl ?_
                refine ev_iload_n rfl ?_
                refine ev_in (d := 1) (a := 0) (b := 0) (cd' := c264_0) (m := 2) (L0 := [(2, 42), (0, (a1 + 1))]) (jcall_v (A := [(0, (a1 + 1))]) (S' := [(0, (10 * v82638 - 480))]) (r := 42) rfl (g.lt ad42) (g.tg ad42) (Nat.le_of_ble_eq_true rfl)) (by decide) ml264 pp264 (Nat.le_of_ble_eq_true rfl) rfl (by decide) (by decide) ?_
                refine ev_iload_n rfl ?_
                refine ev_aload_n rfl ?_
                refine g_getv (r := 42) (v := w2) g ad42 (by decide) ft12_17 (ew2) ?_
                refine ev_icmpge f264_17 (fun c82735 => absurd c82735 (by omega)) (fun c82735 => ?_)
                refine ev_aload_n rfl ?_
                refine g_getp (r := 42) (c := 54) g ad42 (by decide) (by decide) rf42_16 ft12_16 ?_
                refine ev_iload_n rfl ?_
                refine g_baldv (v := v82682) g ad54 (by omega) (by omega) (ev82682) ?_
                refine ev_goto f264_18 ?_
                refine ev_ret rfl (by decide) (by decide) ?_
                show jEv _ _ _ _ _ _ _ (_, [(2, 42), (0, a1), (0, 1), (0, (a1 + 1)), (0, 0), (0, (v82638 - 48)), (0, 1)], [(0, v82682), (0, (10 * v82638 - 480))], _, _, _)
                refine ev_iadd (r := (10 * v82638 + v82682 - 480)) (by unfold w32; omega) ?_
                refine ev_bipush ?_
                refine ev_isub (r := (10 * v82638 + v82682 - 528)) (by unfold w32; omega) ?_
                refine ev_istore (L' := [(2, 42), (0, a1), (0, 1), (0, (a1 + 1)), (0, 0), (0, (10 * v82638 + v82682 - 528)), (0, 1)]) (Nat.le_of_ble_eq_true rfl) rfl ?_
                refine ev_iinc (w := 2) (L' := [(2, 42), (0, a1), (0, 1), (0, (a1 + 1)), (0, 0), (0, (10 * v82638 + v82682 - 528)), (0, 2)]) rfl (by decide) rfl ?_
                refine ev_iinc (w := (a1 + 2)) (L' := [(2, 42), (0, a1), (0, 1), (0, (a1 + 2)), (0, 0), (0, (10 * v82638 + v82682 - 528)), (0, 2)]) rfl (by unfold w32; omega) rfl ?_
                refine ev_goto f269_47 ?_
                refine ev_iload rfl ?_
                refine ev_iconst ?_
                refine ev_icmpge f269_86 (fun c82736 => absurd c82736 (by omega)) (fun c82736 => ?_)
                refine ev_aload_n rfl ?_
                refine ev_iload_n rfl ?_
                refine ev_in (d := 1) (a := 0) (b := 0) (cd' := c265_0) (m := 2) (L0 := [(2, 42), (0, (a1 + 2))]) (jcall_v (A := [(0, (a1 + 2))]) (S' := []) (r := 42) rfl (g.lt ad42) (g.tg ad42) (Nat.le_of_ble_eq_true rfl)) (by decide) ml265 pp265 (Nat.le_of_ble_eq_true rfl) rfl (by decide) (by decide) ?_
                refine ev_aload_n rfl ?_
                refine ev_iload_n rfl ?_
                refine ev_in (d := 0) (a := 0) (b := 0) (cd' := c264_0) (m := 2) (L0 := [(2, 42), (0, (a1 + 2))]) (jcall_v (A := [(0, (a1 + 2))]) (S' := []) (r := 42) rfl (g.lt ad42) (g.tg ad42) (Nat.le_of_ble_eq_true rfl)) (by decide) ml264 pp264 (Nat.le_of_ble_eq_true rfl) rfl (by decide) (by decide) ?_
                refine ev_iload_n rfl ?_
                refine ev_aload_n rfl ?_
                refine g_getv (r := 42) (v := w2) g ad42 (by decide) ft12_17 (ew2) ?_
                refine ev_icmpge f264_17 (fun c82737 => ?_) (fun c82737 => ?_)
                · refine ev_iconst ?_
                  refine ev_ret rfl (by decide) (by decide) ?_
                  show jEv _ _ _ _ _ _ _ (_, [(2, 42), (0, (a1 + 2))], [(0, (-1))], _, _, _)
                  refine ev_bipush ?_
                  refine ev_bipush ?_
                  refine ev_in (d := 0) (a := 0) (b := 0) (cd' := c242_0) (m := 3) (L0 := [(0, (-1)), (0, 48), (0, 57)]) (jcall_s (A := [(0, 57), (0, 48), (0, (-1))]) (S' := []) (by decide) rfl (Nat.le_of_ble_eq_true rfl)) (by decide) ml242 pp242 (Nat.le_of_ble_eq_true rfl) rfl (by decide) (by decide) ?_
                  refine ev_iload_n rfl ?_
                  refine ev_iload_n rfl ?_
                  refine ev_icmplt f242_14 (fun c82738 => ?_) (fun c82738 => absurd c82738 (by omega))
                  refine ev_iconst ?_
                  refine ev_ret rfl (by decide) (by decide) ?_
                  show jEv _ _ _ _ _ _ _ (_, [(2, 42), (0, (a1 + 2))], [(0, 0)], _, _, _)
                  refine ev_ret rfl (by decide) (by decide) ?_
                  show jEv _ _ _ _ _ _ _ (_, [(2, 42), (0, a1), (0, 1), (0, (a1 + 2)), (0, 0), (0, (10 * v82638 + v82682 - 528)), (0, 2)], [(0, 0)], _, _, _)
                  refine ev_ifeq f269_86 (fun c82739 => ?_) (fun c82739 => absurd c82739 (by omega))
                  refine ev_aload_n rfl ?_
                  refine ev_iload_n rfl ?_
                  refine ev_in (d := 1) (a := 0) (b := 0) (cd' := c265_0) (m := 2) (L0 := [(2, 42), (0, (a1 + 2))]) (jcall_v (A := [(0, (a1 + 2))]) (S' := []) (r := 42) rfl (g.lt ad42) (g.tg ad42) (Nat.le_of_ble_eq_true rfl)) (by decide) ml265 pp265 (Nat.le_of_ble_eq_true rfl) rfl (by decide) (by decide) ?_
                  refine ev_aload_n rfl ?_
                  refine ev_iload_n rfl ?_
                  refine ev_in (d := 0) (a := 0) (b := 0) (cd' := c264_0) (m := 2) (L0 := [(2, 42), (0, (a1 + 2))]) (jcall_v (A := [(0, (a1 + 2))]) (S' := []) (r := 42) rfl (g.lt ad42) (g.tg ad42) (Nat.le_of_ble_eq_true rfl)) (by decide) ml264 pp264 (Nat.le_of_ble_eq_true rfl) rfl (by decide) (by decide) ?_
                  refine ev_iload_n rfl ?_
                  refine ev_aload_n rfl ?_
                  refine g_getv (r := 42) (v := w2) g ad42 (by decide) ft12_17 (ew2) ?_
                  refine ev_icmpge f264_17 (fun c82740 => ?_) (fun c82740 => absurd c82740 (by omega))
                  refine ev_iconst ?_
                  refine ev_ret rfl (by decide) (by decide) ?_
                  show jEv _ _ _ _ _ _ _ (_, [(2, 42), (0, (a1 + 2))], [(0, (-1))], _, _, _)
                  refine ev_bipush ?_
                  refine ev_bipush ?_
                  refine ev_in (d := 0) (a := 0) (b := 0) (cd' := c242_0) (m := 3) (L0 := [(0, (-1)), (0, 48), (0, 57)]) (jcall_s (A := [(0, 57), (0, 48), (0, (-1))]) (S' := []) (by decide) rfl (Nat.le_of_ble_eq_true rfl)) (by decide) ml242 pp242 (Nat.le_of_ble_eq_true rfl) rfl (by decide) (by decide) ?_
                  refine ev_iload_n rfl ?_
                  refine ev_iload_n rfl ?_
                  refine ev_icmplt f242_14 (fun c82741 => ?_) (fun c82741 => absurd c82741 (by omega))
                  refine ev_iconst ?_
                  refine ev_ret rfl (by decide) (by decide) ?_
                  show jEv _ _ _ _ _ _ _ (_, [(2, 42), (0, (a1 + 2))], [(0, 0)], _, _, _)
                  refine ev_ret rfl (by decide) (by decide) ?_
                  show jEv _ _ _ _ _ _ _ (_, [(2, 42), (0, a1), (0, 1), (0, (a1 + 2)), (0, 0), (0, (10 * v82638 + v82682 - 528)), (0, 2)], [(0, 0)], _, _, _)
                  refine ev_ifeq f269_100 (fun c82742 => ?_) (fun c82742 => absurd c82742 (by omega))
                  refine ev_aload_n rfl ?_
                  refine ev_iload_n rfl ?_
                  refine ev_iconst ?_
                  refine ev_iload rfl ?_
                  refine ev_ifeq f269_114 (fun c82743 => ?_) (fun c82743 => absurd c82743 (by omega))
                  refine ev_iload rfl ?_
                  refine ev_in (d := 1) (a := 0) (b := 0) (cd' := c267_0) (m := 6) (L0 := [(2, 42), (0, 1), (0, 0), (0, (10 * v82638 + v82682 - 528)), (9, 0), (9, 0)]) (jcall_v (A := [(0, (10 * v82638 + v82682 - 528)), (0, 0), (0, 1)]) (S' := []) (r := 42) rfl (g.lt ad42) (g.tg ad42) (Nat.le_of_ble_eq_true rfl)) (by decide) ml267 pp267 (Nat.le_of_ble_eq_true rfl) rfl (by decide) (by decide) ?_
                  refine ev_iload_n rfl ?_
                  refine ev_ifne f267_6 (fun c82744 => ?_) (fun c82744 => absurd c82744 (by omega))
                  refine ev_aload_n rfl ?_
                  refine ev_dup (by decide) ?_
                  refine g_getv (r := 42) (v := w1) g ad42 (by decide) ft12_21 (ew1) ?_
                  refine ev_iconst ?_
                  refine ev_iadd (r := (w1 + 1)) (by unfold w32; omega) ?_
                  refine g_putf (r := 42) g ad42 (by decide) ft12_21 (by decide) (fun e => absurd e nz12_21) rf42_21 (by decide) (by omega) (by omega) (fun h82745 e82745 g82745 => ?_)
                  have k82745 := k0.wr e82745 rfl
                  refine ev_aload_n rfl ?_
                  refine g_getv (r := 42) (v := (w1 + 1)) g82745 ad42 (by decide) ft12_21 ((jw_eq e82745)) ?_
                  refine ev_bipush ?_
                  refine ev_icmple f267_27 (fun c82746 => ?_) (fun c82746 => absurd c82746 (by omega))
                  refine ev_bipush ?_
                  refine ev_aload_n rfl ?_
                  refine g_getv (r := 42) (v := w0) g82745 ad42 (by decide) ft12_9 (((jw_ne e82745 (Or.inr (by decide))).trans ew0)) ?_
                  refine ev_imul (r := (100 * w0)) (by unfold w32; omega) ?_
                  refine ev_aload_n rfl ?_
                  refine g_getv (r := 42) (v := (w1 + 1)) g82745 ad42 (by decide) ft12_21 ((jw_eq e82745)) ?_
                  refine ev_iadd (r := (100 * w0 + w1 + 1)) (by unfold w32; omega) ?_
                  refine ev_iconst ?_
                  refine ev_isub (r := (100 * w0 + w1)) (by unfold w32; omega) ?_
                  refine ev_istore (L' := [(2, 42), (0, 1), (0, 0), (0, (10 * v82638 + v82682 - 528)), (0, (100 * w0 + w1)), (9, 0)]) (Nat.le_of_ble_eq_true rfl) rfl ?_
                  refine ev_aload_n rfl ?_
                  refine g_getp (r := 42) (c := 49) g82745 ad42 (by decide) (by decide) rf42_11 ft12_11 ?_
                  refine ev_iload rfl ?_
                  refine ev_iload_n rfl ?_
                  refine ev_i2b (r := 0) (by unfold w8; omega) ?_
                  refine ev_bastG (r := 49) (j := ((100 * w0 + w1)).toNat) (w := 0) (g82745.lt ad49) (g82745.tg ad49) (by omega) (by rw [g82745.ln ad49]; omega) (by unfold w8; omega) (fun h82747 e82747 => ?_)
                  have g82747 := g82745.s49 e82747 (by rw [(((jw_ne e82745 (Or.inr (by decide))).trans ew0))]; omega) (by omega) (by omega)
                  have k82747 := k82745.wr e82747 rfl
                  refine ev_aload_n rfl ?_
                  refine g_getp (r := 42) (c := 50) g82747 ad42 (by decide) (by decide) rf42_12 ft12_12 ?_
                  refine ev_iload rfl ?_
                  refine ev_iload_n rfl ?_
                  refine ev_iastG (r := 50) (j := ((100 * w0 + w1)).toNat) (g82747.lt ad50) (g82747.tg ad50) (by omega) (by rw [g82747.ln ad50]; omega) (fun h82748 e82748 => ?_)
                  have g82748 := g82747.s50 e82748 (Or.inl (by rw [(((jw_ne e82747 (Or.inl (by decide))).trans ((jw_ne e82745 (Or.inr (by decide))).trans ew0)))]; omega)) (by omega) (by omega)
                  have k82748 := k82747.wr e82748 rfl
                  refine ev_aload_n rfl ?_
                  refine g_getp (r := 42) (c := 53) g82748 ad42 (by decide) (by decide) rf42_15 ft12_15 ?_
                  refine ev_iload rfl ?_
                  refine ev_iconst ?_
                  refine ev_bastG (r := 53) (j := ((100 * w0 + w1)).toNat) (w := 0) (g82748.lt ad53) (g82748.tg ad53) (by omega) (by rw [g82748.ln ad53]; omega) (by unfold w8; omega) (fun h82749 e82749 => ?_)
                  have g82749 := g82748.s53 e82749 (Or.inl (by rw [(((jw_ne e82748 (Or.inl (by decide))).trans ((jw_ne e82747 (Or.inl (by decide))).trans ((jw_ne e82745 (Or.inr (by decide))).trans ew0))))]; omega)) (by omega) (by omega)
                  have k82749 := k82748.wr e82749 rfl
                  refine ev_iconst ?_
                  refine ev_istore (L' := [(2, 42), (0, 1), (0, 0), (0, (10 * v82638 + v82682 - 528)), (0, (100 * w0 + w1)), (0, 0)]) (Nat.le_of_ble_eq_true rfl) rfl ?_
                  refine ev_iload rfl ?_
                  refine ev_iconst ?_
                  refine ev_icmpge f267_109 (fun c82750 => absurd c82750 (by omega)) (fun c82750 => ?_)
                  refine ev_aload_n rfl ?_
                  refine g_getp (r := 42) (c := 51) g82749 ad42 (by decide) (by decide) rf42_13 ft12_13 ?_
                  refine ev_iconst ?_
                  refine ev_iload rfl ?_
                  refine ev_imul (r := (400 * w0 + 4 * w1)) (by unfold w32; omega) ?_
                  refine ev_iload rfl ?_
                  refine ev_iadd (r := (400 * w0 + 4 * w1)) (by unfold w32; omega) ?_
                  refine ev_iconst ?_
                  refine ev_bastG (r := 51) (j := ((400 * w0 + 4 * w1)).toNat) (w := (-1)) (g82749.lt ad51) (g82749.tg ad51) (by omega) (by rw [g82749.ln ad51]; omega) (by unfold w8; omega) (fun h82751 e82751 => ?_)
                  have g82751 := g82749.s51 e82751 (by rw [(((jw_ne e82749 (Or.inl (by decide))).trans ((jw_ne e82748 (Or.inl (by decide))).trans ((jw_ne e82747 (Or.inl (by decide))).trans ((jw_ne e82745 (Or.inr (by decide))).trans ew0)))))]; omega) (by omega) (by omega)
                  have k82751 := k82749.wr e82751 rfl
                  refine ev_aload_n rfl ?_
                  refine g_getp (r := 42) (c := 52) g82751 ad42 (by decide) (by decide) rf42_14 ft12_14 ?_
                  refine ev_iconst ?_
                  refine ev_iload rfl ?_
                  refine ev_imul (r := (400 * w0 + 4 * w1)) (by unfold w32; omega) ?_
                  refine ev_iload rfl ?_
                  refine ev_iadd (r := (400 * w0 + 4 * w1)) (by unfold w32; omega) ?_
                  refine ev_iconst ?_
                  refine g_iast g82751 ad52 rt52 (fun _ => rfl) (by omega) (by omega) (by omega) (by omega) (fun h82752 e82752 g82752 => ?_)
                  have k82752 := k82751.wr e82752 rfl
                  refine ev_iinc (w := 1) (L' := [(2, 42), (0, 1), (0, 0), (0, (10 * v82638 + v82682 - 528)), (0, (100 * w0 + w1)), (0, 1)]) rfl (by decide) rfl ?_
                  refine ev_goto f267_71 ?_
                  refine ev_iload rfl ?_
                  refine ev_iconst ?_
                  refine ev_icmpge f267_109 (fun c82753 => absurd c82753 (by omega)) (fun c82753 => ?_)
                  refine ev_aload_n rfl ?_
                  refine g_getp (r := 42) (c := 51) g82752 ad42 (by decide) (by decide) rf42_13 ft12_13 ?_
                  refine ev_iconst ?_
                  refine ev_iload rfl ?_
                  refine ev_imul (r := (400 * w0 + 4 * w1)) (by unfold w32; omega) ?_
                  refine ev_iload rfl ?_
                  refine ev_iadd (r := (400 * w0 + 4 * w1 + 1)) (by unfold w32; omega) ?_
                  refine ev_iconst ?_
                  refine ev_bastG (r := 51) (j := ((400 * w0 + 4 * w1 + 1)).toNat) (w := (-1)) (g82752.lt ad51) (g82752.tg ad51) (by omega) (by rw [g82752.ln ad51]; omega) (by unfold w8; omega) (fun h82754 e82754 => ?_)
                  have g82754 := g82752.s51 e82754 (by rw [(((jw_ne e82752 (Or.inl (by decide))).trans ((jw_ne e82751 (Or.inl (by decide))).trans ((jw_ne e82749 (Or.inl (by decide))).trans ((jw_ne e82748 (Or.inl (by decide))).trans ((jw_ne e82747 (Or.inl (by decide))).trans ((jw_ne e82745 (Or.inr (by decide))).trans ew0)))))))]; omega) (by omega) (by omega)
                  have k82754 := k82752.wr e82754 rfl
                  refine ev_aload_n rfl ?_
                  refine g_getp (r := 42) (c := 52) g82754 ad42 (by decide) (by decide) rf42_14 ft12_14 ?_
                  refine ev_iconst ?_
                  refine ev_iload rfl ?_
                  refine ev_imul (r := (400 * w0 + 4 * w1)) (by unfold w32; omega) ?_
                  refine ev_iload rfl ?_
                  refine ev_iadd (r := (400 * w0 + 4 * w1 + 1)) (by unfold w32; omega) ?_
                  refine ev_iconst ?_
                  refine g_iast g82754 ad52 rt52 (fun _ => rfl) (by omega) (by omega) (by omega) (by omega) (fun h82755 e82755 g82755 => ?_)
                  have k82755 := k82754.wr e82755 rfl
                  refine ev_iinc (w := 2) (L' := [(2, 42), (0, 1), (0, 0), (0, (10 * v82638 + v82682 - 528)), (0, (100 * w0 + w1)), (0, 2)]) rfl (by decide) rfl ?_
                  refine ev_goto f267_71 ?_
                  refine ev_iload rfl ?_
                  refine ev_iconst ?_
                  refine ev_icmpge f267_109 (fun c82756 => absurd c82756 (by omega)) (fun c82756 => ?_)
                  refine ev_aload_n rfl ?_
                  refine g_getp (r := 42) (c := 51) g82755 ad42 (by decide) (by decide) rf42_13 ft12_13 ?_
                  refine ev_iconst ?_
                  refine ev_iload rfl ?_
                  refine ev_imul (r := (400 * w0 + 4 * w1)) (by unfold w32; omega) ?_
                  refine ev_iload rfl ?_
                  refine ev_iadd (r := (400 * w0 + 4 * w1 + 2)) (by unfold w32; omega) ?_
                  refine ev_iconst ?_
                  refine ev_bastG (r := 51) (j := ((400 * w0 + 4 * w1 + 2)).toNat) (w := (-1)) (g82755.lt ad51) (g82755.tg ad51) (by omega) (by rw [g82755.ln ad51]; omega) (by unfold w8; omega) (fun h82757 e82757 => ?_)
                  have g82757 := g82755.s51 e82757 (by rw [(((jw_ne e82755 (Or.inl (by decide))).trans ((jw_ne e82754 (Or.inl (by decide))).trans ((jw_ne e82752 (Or.inl (by decide))).trans ((jw_ne e82751 (Or.inl (by decide))).trans ((jw_ne e82749 (Or.inl (by decide))).trans ((jw_ne e82748 (Or.inl (by decide))).trans ((jw_ne e82747 (Or.inl (by decide))).trans ((jw_ne e82745 (Or.inr (by decide))).trans ew0)))))))))]; omega) (by omega) (by omega)
                  have k82757 := k82755.wr e82757 rfl
                  refine ev_aload_n rfl ?_
                  refine g_getp (r := 42) (c := 52) g82757 ad42 (by decide) (by decide) rf42_14 ft12_14 ?_
                  refine ev_iconst ?_
                  refine ev_iload rfl ?_
                  refine ev_imul (r := (400 * w0 + 4 * w1)) (by unfold w32; omega) ?_
                  refine ev_iload rfl ?_
                  refine ev_iadd (r := (400 * w0 + 4 * w1 + 2)) (by unfold w32; omega) ?_
                  refine ev_iconst ?_
                  refine g_iast g82757 ad52 rt52 (fun _ => rfl) (by omega) (by omega) (by omega) (by omega) (fun h82758 e82758 g82758 => ?_)
                  have k82758 := k82757.wr e82758 rfl
                  refine ev_iinc (w := 3) (L' := [(2, 42), (0, 1), (0, 0), (0, (10 * v82638 + v82682 - 528)), (0, (100 * w0 + w1)), (0, 3)]) rfl (by decide) rfl ?_
                  refine ev_goto f267_71 ?_
                  refine ev_iload rfl ?_
                  refine ev_iconst ?_
                  refine ev_icmpge f267_109 (fun c82759 => absurd c82759 (by omega)) (fun c82759 => ?_)
                  refine ev_aload_n rfl ?_
                  refine g_getp (r := 42) (c := 51) g82758 ad42 (by decide) (by decide) rf42_13 ft12_13 ?_
                  refine ev_iconst ?_
                  refine ev_iload rfl ?_
                  refine ev_imul (r := (400 * w0 + 4 * w1)) (by unfold w32; omega) ?_
                  refine ev_iload rfl ?_
                  refine ev_iadd (r := (400 * w0 + 4 * w1 + 3)) (by unfold w32; omega) ?_
                  refine ev_iconst ?_
                  refine ev_bastG (r := 51) (j := ((400 * w0 + 4 * w1 + 3)).toNat) (w := (-1)) (g82758.lt ad51) (g82758.tg ad51) (by omega) (by rw [g82758.ln ad51]; omega) (by unfold w8; omega) (fun h82760 e82760 => ?_)
                  have g82760 := g82758.s51 e82760 (by rw [(((jw_ne e82758 (Or.inl (by decide))).trans ((jw_ne e82757 (Or.inl (by decide))).trans ((jw_ne e82755 (Or.inl (by decide))).trans ((jw_ne e82754 (Or.inl (by decide))).trans ((jw_ne e82752 (Or.inl (by decide))).trans ((jw_ne e82751 (Or.inl (by decide))).trans ((jw_ne e82749 (Or.inl (by decide))).trans ((jw_ne e82748 (Or.inl (by decide))).trans ((jw_ne e82747 (Or.inl (by decide))).trans ((jw_ne e82745 (Or.inr (by decide))).trans ew0)))))))))))]; omega) (by omega) (by omega)
                  have k82760 := k82758.wr e82760 rfl
                  refine ev_aload_n rfl ?_
                  refine g_getp (r := 42) (c := 52) g82760 ad42 (by decide) (by decide) rf42_14 ft12_14 ?_
                  refine ev_iconst ?_
                  refine ev_iload rfl ?_
                  refine ev_imul (r := (400 * w0 + 4 * w1)) (by unfold w32; omega) ?_
                  refine ev_iload rfl ?_
                  refine ev_iadd (r := (400 * w0 + 4 * w1 + 3)) (by unfold w32; omega) ?_
                  refine ev_iconst ?_
                  refine g_iast g82760 ad52 rt52 (fun _ => rfl) (by omega) (by omega) (by omega) (by omega) (fun h82761 e82761 g82761 => ?_)
                  have k82761 := k82760.wr e82761 rfl
                  refine ev_iinc (w := 4) (L' := [(2, 42), (0, 1), (0, 0), (0, (10 * v82638 + v82682 - 528)), (0, (100 * w0 + w1)), (0, 4)]) rfl (by decide) rfl ?_
                  refine ev_goto f267_71 ?_
                  refine ev_iload rfl ?_
                  refine ev_iconst ?_
                  refine ev_icmpge f267_109 (fun c82762 => ?_) (fun c82762 => absurd c82762 (by omega))
                  refine ev_iload rfl ?_
                  refine ev_ret rfl (by decide) (by decide) ?_
                  show jEv _ _ _ _ _ _ _ (_, [(2, 42), (0, a1), (0, 1), (0, (a1 + 2)), (0, 0), (0, (10 * v82638 + v82682 - 528)), (0, 2)], [(0, (100 * w0 + w1))], _, _, _)
                  refine ev_pop (by decide) ?_
                  refine ev_iload_n rfl ?_
                  exact ev_ret rfl (by decide) (by decide) ⟨⟨_, rfl, by omega, by omega, g82761, k82761⟩, fun r hr h0 => by cases hr; exact (Ad.step (r' := (a1 + 2)) (Ad.step (r' := (a1 + 1)) (Ad.rf _ _ _) (by omega) k82761 (fun _ => rfl) (((jw_ne e82761 (Or.inl (by decide))).trans ((jw_ne e82760 (Or.inl (by decide))).trans ((jw_ne e82758 (Or.inl (by decide))).trans ((jw_ne e82757 (Or.inl (by decide))).trans ((jw_ne e82755 (Or.inl (by decide))).trans ((jw_ne e82754 (Or.inl (by decide))).trans ((jw_ne e82752 (Or.inl (by decide))).trans ((jw_ne e82751 (Or.inl (by decide))).trans ((jw_ne e82749 (Or.inl (by decide))).trans ((jw_ne e82748 (Or.inl (by decide))).trans ((jw_ne e82747 (Or.inl (by decide))).trans ((jw_ne e82745 (Or.inl (by decide))).trans ev82638))))))))))))) (by omega) (by omega) (by omega)) (by omega) k82761 (fun _ => rfl) (((jw_ne e82761 (Or.inl (by decide))).trans ((jw_ne e82760 (Or.inl (by decide))).trans ((jw_ne e82758 (Or.inl (by decide))).trans ((jw_ne e82757 (Or.inl (by decide))).trans ((jw_ne e82755 (Or.inl (by decide))).trans ((jw_ne e82754 (Or.inl (by decide))).trans ((jw_ne e82752 (Or.inl (by decide))).trans ((jw_ne e82751 (Or.inl (by decide))).trans ((jw_ne e82749 (Or.inl (by decide))).trans ((jw_ne e82748 (Or.inl (by decide))).trans ((jw_ne e82747 (Or.inl (by decide))).trans ((jw_ne e82745 (Or.inl (by decide))).trans ev82682))))))))))))) (by omega) (by omega) (by omega)), fun r hr => by cases hr; exact ⟨_, (((jw_ne e82761 (Or.inl (by decide))).trans ((jw_ne e82760 (Or.inl (by decide))).trans ((jw_ne e82758 (Or.inl (by decide))).trans ((jw_ne e82757 (Or.inl (by decide))).trans ((jw_ne e82755 (Or.inl (by decide))).trans ((jw_ne e82754 (Or.inl (by decide))).trans ((jw_ne e82752 (Or.inl (by decide))).trans ((jw_ne e82751 (Or.inl (by decide))).trans ((jw_ne e82749 (Or.inl (by decide))).trans ((jw_ne e82748 (Or.inl (by decide))).trans ((jw_ne e82747 (Or.inl (by decide))).trans (jw_eq e82745))))))))))))), by omega, by omega, (Fr.kp (Fr.w (i := (400 * w0 + 4 * w1 + 3)) (Fr.kp (Fr.w (i := (400 * w0 + 4 * w1 + 2)) (Fr.kp (Fr.w (i := (400 * w0 + 4 * w1 + 1)) (Fr.kp (Fr.w (i := (400 * w0 + 4 * w1)) (Fr.w (i := (100 * w0 + w1)) (Fr.w (i := (100 * w0 + w1)) (Fr.w (i := (100 * w0 + w1)) (Fr.kp (Fr.rf _ _) ((Kp.rf [(42, 0)] _).wr e82745 rfl) (fun _ => rfl) (fun _ => rfl) (fun _ => rfl) (fun _ => rfl)) e82747 (by omega) (by omega)) e82748 (by omega) (by omega)) e82749 (by omega) (by omega)) e82751 (by omega) (by omega)) ((Kp.rf [(52, 0)] _).wr e82752 rfl) (fun _ => rfl) (fun _ => rfl) (fun _ => rfl) (fun _ => rfl)) e82754 (by omega) (by omega)) ((Kp.rf [(52, 0)] _).wr e82755 rfl) (fun _ => rfl) (fun _ => rfl) (fun _ => rfl) (fun _ => rfl)) e82757 (by omega) (by omega)) ((Kp.rf [(52, 0)] _).wr e82758 rfl) (fun _ => rfl) (fun _ => rfl) (fun _ => rfl) (fun _ => rfl)) e82760 (by omega) (by omega)) ((Kp.rf [(52, 0)] _).wr e82761 rfl) (fun _ => rfl) (fun _ => rfl) (fun _ => rfl) (fun _ => rfl)), fun h0 => by omega, fun h0 hm => Tr.end (i := (100 * w0 + w1)) (by omega) (by omega) (by omega) (((jw_ne e82761 (Or.inl (by decide))).trans ((jw_ne e82760 (Or.inl (by decide))).trans ((jw_ne e82758 (Or.inl (by decide))).trans ((jw_ne e82757 (Or.inl (by decide))).trans ((jw_ne e82755 (Or.inl (by decide))).trans ((jw_ne e82754 (Or.inl (by decide))).trans ((jw_ne e82752 (Or.inl (by decide))).trans ((jw_ne e82751 (Or.inl (by decide))).trans ((jw_ne e82749 (Or.inl (by decide))).trans ((jw_ne e82748 (Or.inl (by decide))).trans (jw_eq e82747)))))))))))) (by omega) (by omega)⟩, fun r hr => by cases hr; exact okM (show (if bR h a1 = 45 then enR (bR h) (a1 + 1) else enR (bR h) a1) = ((a1 + 2), 0, 0, 1) by rw [if_neg (fun z => absurd ((bR_at (p := a1) k82761 (fun _ => rfl) ew2 (((jw_ne e82761 (Or.inl (by decide))).trans ((jw_ne e82760 (Or.inl (by decide))).trans ((jw_ne e82758 (Or.inl (by decide))).trans ((jw_ne e82757 (Or.inl (by decide))).trans ((jw_ne e82755 (Or.inl (by decide))).trans ((jw_ne e82754 (Or.inl (by decide))).trans ((jw_ne e82752 (Or.inl (by decide))).trans ((jw_ne e82751 (Or.inl (by decide))).trans ((jw_ne e82749 (Or.inl (by decide))).trans ((jw_ne e82748 (Or.inl (by decide))).trans ((jw_ne e82747 (Or.inl (by decide))).trans ((jw_ne e82745 (Or.inl (by decide))).trans ev82638))))))))))))) (by omega) (by omega)).symm.trans z) (by omega))]; unfold enR; rw [show nm3 (bR h) a1 = (a1 + 2) by unfold nm3; rw [(bR_at (p := a1) k82761 (fun _ => rfl) ew2 (((jw_ne e82761 (Or.inl (by decide))).trans ((jw_ne e82760 (Or.inl (by decide))).trans ((jw_ne e82758 (Or.inl (by decide))).trans ((jw_ne e82757 (Or.inl (by decide))).trans ((jw_ne e82755 (Or.inl (by decide))).trans ((jw_ne e82754 (Or.inl (by decide))).trans ((jw_ne e82752 (Or.inl (by decide))).trans ((jw_ne e82751 (Or.inl (by decide))).trans ((jw_ne e82749 (Or.inl (by decide))).trans ((jw_ne e82748 (Or.inl (by decide))).trans ((jw_ne e82747 (Or.inl (by decide))).trans ((jw_ne e82745 (Or.inl (by decide))).trans ev82638))))))))))))) (by omega) (by omega)), (bR_at (p := (a1 + 1)) k82761 (fun _ => rfl) ew2 (((jw_ne e82761 (Or.inl (by decide))).trans ((jw_ne e82760 (Or.inl (by decide))).trans ((jw_ne e82758 (Or.inl (by decide))).trans ((jw_ne e82757 (Or.inl (by decide))).trans ((jw_ne e82755 (Or.inl (by decide))).trans ((jw_ne e82754 (Or.inl (by decide))).trans ((jw_ne e82752 (Or.inl (by decide))).trans ((jw_ne e82751 (Or.inl (by decide))).trans ((jw_ne e82749 (Or.inl (by decide))).trans ((jw_ne e82748 (Or.inl (by decide))).trans ((jw_ne e82747 (Or.inl (by decide))).trans ((jw_ne e82745 (Or.inl (by decide))).trans ev82682))))))))))))) (by omega) (by omega)), (bR_end (p := (a1 + 2)) ew2 (by omega))]; (repeat' split) <;> omega, if_neg (by omega)]) (by omega) (by omega) (((jw_ne e82761 (Or.inl (by decide))).trans ((jw_ne e82760 (Or.inl (by decide))).trans ((jw_ne e82758 (Or.inl (by decide))).trans ((jw_ne e82757 (Or.inl (by decide))).trans ((jw_ne e82755 (Or.inl (by decide))).trans ((jw_ne e82754 (Or.inl (by decide))).trans ((jw_ne e82752 (Or.inl (by decide))).trans ((jw_ne e82751 (Or.inl (by decide))).trans ((jw_ne e82749 (Or.inl (by decide))).trans ((jw_ne e82748 (Or.inl (by decide))).trans ((jw_ne e82747 (Or.inl (by decide))).trans (jw_eq e82745))))))))))))) (by omega)⟩
                · refine ev_aload_n rfl ?_
                  refine g_getp (r := 42) (c := 54) g ad42 (by decide) (by decide) rf42_16 ft12_16 ?_
                  refine ev_iload_n rfl ?_
                  refine g_bald g ad54 rt54 (by omega) (by omega) (fun v82763 ev82763 lv82763 uv82763 => ?_)
                  refine ev_goto f264_18 ?_
                  refine ev_ret rfl (by decide) (by decide) ?_
                  show jEv _ _ _ _ _ _ _ (_, [(2, 42), (0, (a1 + 2))], [(0, v82763)], _, _, _)
                  refine ev_bipush ?_
                  refine ev_bipush ?_
                  refine ev_in (d := 0) (a := 0) (b := 0) (cd' := c242_0) (m := 3) (L0 := [(0, v82763), (0, 48), (0, 57)]) (jcall_s (A := [(0, 57), (0, 48), (0, v82763)]) (S' := []) (by decide) rfl (Nat.le_of_ble_eq_true rfl)) (by decide) ml242 pp242 (Nat.le_of_ble_eq_true rfl) rfl (by decide) (by decide) ?_
                  refine ev_iload_n rfl ?_
                  refine ev_iload_n rfl ?_
                  refine ev_icmplt f242_14 (fun c82764 => ?_) (fun c82764 => ?_)
                  · refine ev_iconst ?_
                    refine ev_ret rfl (by decide) (by decide) ?_
                    show jEv _ _ _ _ _ _ _ (_, [(2, 42), (0, (a1 + 2))], [(0, 0)], _, _, _)
                    refine ev_ret rfl (by decide) (by decide) ?_
                    show jEv _ _ _ _ _ _ _ (_, [(2, 42), (0, a1), (0, 1), (0, (a1 + 2)), (0, 0), (0, (10 * v82638 + v82682 - 528)), (0, 2)], [(0, 0)], _, _, _)
                    refine ev_ifeq f269_86 (fun c82765 => ?_) (fun c82765 => absurd c82765 (by omega))
                    refine ev_aload_n rfl ?_
                    refine ev_iload_n rfl ?_
                    refine ev_in (d := 1) (a := 0) (b := 0) (cd' := c265_0) (m := 2) (L0 := [(2, 42), (0, (a1 + 2))]) (jcall_v (A := [(0, (a1 + 2))]) (S' := []) (r := 42) rfl (g.lt ad42) (g.tg ad42) (Nat.le_of_ble_eq_true rfl)) (by decide) ml265 pp265 (Nat.le_of_ble_eq_true rfl) rfl (by decide) (by decide) ?_
                    refine ev_aload_n rfl ?_
                    refine ev_iload_n rfl ?_
                    refine ev_in (d := 0) (a := 0) (b := 0) (cd' := c264_0) (m := 2) (L0 := [(2, 42), (0, (a1 + 2))]) (jcall_v (A := [(0, (a1 + 2))]) (S' := []) (r := 42) rfl (g.lt ad42) (g.tg ad42) (Nat.le_of_ble_eq_true rfl)) (by decide) ml264 pp264 (Nat.le_of_ble_eq_true rfl) rfl (by decide) (by decide) ?_
                    refine ev_iload_n rfl ?_
                    refine ev_aload_n rfl ?_
                    refine g_getv (r := 42) (v := w2) g ad42 (by decide) ft12_17 (ew2) ?_
                    refine ev_icmpge f264_17 (fun c82766 => absurd c82766 (by omega)) (fun c82766 => ?_)
                    refine ev_aload_n rfl ?_
                    refine g_getp (r := 42) (c := 54) g ad42 (by decide) (by decide) rf42_16 ft12_16 ?_
                    refine ev_iload_n rfl ?_
                    refine g_baldv (v := v82763) g ad54 (by omega) (by omega) (ev82763) ?_
                    refine ev_goto f264_18 ?_
                    refine ev_ret rfl (by decide) (by decide) ?_
                    show jEv _ _ _ _ _ _ _ (_, [(2, 42), (0, (a1 + 2))], [(0, v82763)], _, _, _)
                    refine ev_bipush ?_
                    refine ev_bipush ?_
                    refine ev_in (d := 0) (a := 0) (b := 0) (cd' := c242_0) (m := 3) (L0 := [(0, v82763), (0, 48), (0, 57)]) (jcall_s (A := [(0, 57), (0, 48), (0, v82763)]) (S' := []) (by decide) rfl (Nat.le_of_ble_eq_true rfl)) (by decide) ml242 pp242 (Nat.le_of_ble_eq_true rfl) rfl (by decide) (by decide) ?_
                    refine ev_iload_n rfl ?_
                    refine ev_iload_n rfl ?_
                    refine ev_icmplt f242_14 (fun c82767 => ?_) (fun c82767 => absurd c82767 (by omega))
                    refine ev_iconst ?_
                    refine ev_ret rfl (by decide) (by decide) ?_
                    show jEv _ _ _ _ _ _ _ (_, [(2, 42), (0, (a1 + 2))], [(0, 0)], _, _, _)
                    refine ev_ret rfl (by decide) (by decide) ?_
                    show jEv _ _ _ _ _ _ _ (_, [(2, 42), (0, a1), (0, 1), (0, (a1 + 2)), (0, 0), (0, (10 * v82638 + v82682 - 528)), (0, 2)], [(0, 0)], _, _, _)
                    refine ev_ifeq f269_100 (fun c82768 => ?_) (fun c82768 => absurd c82768 (by omega))
                    refine ev_aload_n rfl ?_
                    refine ev_iload_n rfl ?_
                    refine ev_iconst ?_
                    refine ev_iload rfl ?_
                    refine ev_ifeq f269_114 (fun c82769 => ?_) (fun c82769 => absurd c82769 (by omega))
                    refine ev_iload rfl ?_
                    refine ev_in (d := 1) (a := 0) (b := 0) (cd' := c267_0) (m := 6) (L0 := [(2, 42), (0, 1), (0, 0), (0, (10 * v82638 + v82682 - 528)), (9, 0), (9, 0)]) (jcall_v (A := [(0, (10 * v82638 + v82682 - 528)), (0, 0), (0, 1)]) (S' := []) (r := 42) rfl (g.lt ad42) (g.tg ad42) (Nat.le_of_ble_eq_true rfl)) (by decide) ml267 pp267 (Nat.le_of_ble_eq_true rfl) rfl (by decide) (by decide) ?_
                    refine ev_iload_n rfl ?_
                    refine ev_ifne f267_6 (fun c82770 => ?_) (fun c82770 => absurd c82770 (by omega))
                    refine ev_aload_n rfl ?_
                    refine ev_dup (by decide) ?_
                    refine g_getv (r := 42) (v := w1) g ad42 (by decide) ft12_21 (ew1) ?_
                    refine ev_iconst ?_
                    refine ev_iadd (r := (w1 + 1)) (by unfold w32; omega) ?_
                    refine g_putf (r := 42) g ad42 (by decide) ft12_21 (by decide) (fun e => absurd e nz12_21) rf42_21 (by decide) (by omega) (by omega) (fun h82771 e82771 g82771 => ?_)
                    have k82771 := k0.wr e82771 rfl
                    refine ev_aload_n rfl ?_
                    refine g_getv (r := 42) (v := (w1 + 1)) g82771 ad42 (by decide) ft12_21 ((jw_eq e82771)) ?_
                    refine ev_bipush ?_
                    refine ev_icmple f267_27 (fun c82772 => ?_) (fun c82772 => absurd c82772 (by omega))
                    refine ev_bipush ?_
                    refine ev_aload_n rfl ?_
                    refine g_getv (r := 42) (v := w0) g82771 ad42 (by decide) ft12_9 (((jw_ne e82771 (Or.inr (by decide))).trans ew0)) ?_
                    refine ev_imul (r := (100 * w0)) (by unfold w32; omega) ?_
                    refine ev_aload_n rfl ?_
                    refine g_getv (r := 42) (v := (w1 + 1)) g82771 ad42 (by decide) ft12_21 ((jw_eq e82771)) ?_
                    refine ev_iadd (r := (100 * w0 + w1 + 1)) (by unfold w32; omega) ?_
                    refine ev_iconst ?_
                    refine ev_isub (r := (100 * w0 + w1)) (by unfold w32; omega) ?_
                    refine ev_istore (L' := [(2, 42), (0, 1), (0, 0), (0, (10 * v82638 + v82682 - 528)), (0, (100 * w0 + w1)), (9, 0)]) (Nat.le_of_ble_eq_true rfl) rfl ?_
                    refine ev_aload_n rfl ?_
                    refine g_getp (r := 42) (c := 49) g82771 ad42 (by decide) (by decide) rf42_11 ft12_11 ?_
                    refine ev_iload rfl ?_
                    refine ev_iload_n rfl ?_
                    refine ev_i2b (r := 0) (by unfold w8; omega) ?_
                    refine ev_bastG (r := 49) (j := ((100 * w0 + w1)).toNat) (w := 0) (g82771.lt ad49) (g82771.tg ad49) (by omega) (by rw [g82771.ln ad49]; omega) (by unfold w8; omega) (fun h82773 e82773 => ?_)
                    have g82773 := g82771.s49 e82773 (by rw [(((jw_ne e82771 (Or.inr (by decide))).trans ew0))]; omega) (by omega) (by omega)
                    have k82773 := k82771.wr e82773 rfl
                    refine ev_aload_n rfl ?_
                    refine g_getp (r := 42) (c := 50) g82773 ad42 (by decide) (by decide) rf42_12 ft12_12 ?_
                    refine ev_iload rfl ?_
                    refine ev_iload_n rfl ?_
                    refine ev_iastG (r := 50) (j := ((100 * w0 + w1)).toNat) (g82773.lt ad50) (g82773.tg ad50) (by omega) (by rw [g82773.ln ad50]; omega) (fun h82774 e82774 => ?_)
                    have g82774 := g82773.s50 e82774 (Or.inl (by rw [(((jw_ne e82773 (Or.inl (by decide))).trans ((jw_ne e82771 (Or.inr (by decide))).trans ew0)))]; omega)) (by omega) (by omega)
                    have k82774 := k82773.wr e82774 rfl
                    refine ev_aload_n rfl ?_
                    refine g_getp (r := 42) (c := 53) g82774 ad42 (by decide) (by decide) rf42_15 ft12_15 ?_
                    refine ev_iload rfl ?_
                    refine ev_iconst ?_
                    refine ev_bastG (r := 53) (j := ((100 * w0 + w1)).toNat) (w := 0) (g82774.lt ad53) (g82774.tg ad53) (by omega) (by rw [g82774.ln ad53]; omega) (by unfold w8; omega) (fun h82775 e82775 => ?_)
                    have g82775 := g82774.s53 e82775 (Or.inl (by rw [(((jw_ne e82774 (Or.inl (by decide))).trans ((jw_ne e82773 (Or.inl (by decide))).trans ((jw_ne e82771 (Or.inr (by decide))).trans ew0))))]; omega)) (by omega) (by omega)
                    have k82775 := k82774.wr e82775 rfl
                    refine ev_iconst ?_
                    refine ev_istore (L' := [(2, 42), (0, 1), (0, 0), (0, (10 * v82638 + v82682 - 528)), (0, (100 * w0 + w1)), (0, 0)]) (Nat.le_of_ble_eq_true rfl) rfl ?_
                    refine ev_iload rfl ?_
                    refine ev_iconst ?_
                    refine ev_icmpge f267_109 (fun c82776 => absurd c82776 (by omega)) (fun c82776 => ?_)
                    refine ev_aload_n rfl ?_
                    refine g_getp (r := 42) (c := 51) g82775 ad42 (by decide) (by decide) rf42_13 ft12_13 ?_
                    refine ev_iconst ?_
                    refine ev_iload rfl ?_
                    refine ev_imul (r := (400 * w0 + 4 * w1)) (by unfold w32; omega) ?_
                    refine ev_iload rfl ?_
                    refine ev_iadd (r := (400 * w0 + 4 * w1)) (by unfold w32; omega) ?_
                    refine ev_iconst ?_
                    refine ev_bastG (r := 51) (j := ((400 * w0 + 4 * w1)).toNat) (w := (-1)) (g82775.lt ad51) (g82775.tg ad51) (by omega) (by rw [g82775.ln ad51]; omega) (by unfold w8; omega) (fun h82777 e82777 => ?_)
                    have g82777 := g82775.s51 e82777 (by rw [(((jw_ne e82775 (Or.inl (by decide))).trans ((jw_ne e82774 (Or.inl (by decide))).trans ((jw_ne e82773 (Or.inl (by decide))).trans ((jw_ne e82771 (Or.inr (by decide))).trans ew0)))))]; omega) (by omega) (by omega)
                    have k82777 := k82775.wr e82777 rfl
                    refine ev_aload_n rfl ?_
                    refine g_getp (r := 42) (c := 52) g82777 ad42 (by decide) (by decide) rf42_14 ft12_14 ?_
                    refine ev_iconst ?_
                    refine ev_iload rfl ?_
                    refine ev_imul (r := (400 * w0 + 4 * w1)) (by unfold w32; omega) ?_
                    refine ev_iload rfl ?_
                    refine ev_iadd (r := (400 * w0 + 4 * w1)) (by unfold w32; omega) ?_
                    refine ev_iconst ?_
                    refine g_iast g82777 ad52 rt52 (fun _ => rfl) (by omega) (by omega) (by omega) (by omega) (fun h82778 e82778 g82778 => ?_)
                    have k82778 := k82777.wr e82778 rfl
                    refine ev_iinc (w := 1) (L' := [(2, 42), (0, 1), (0, 0), (0, (10 * v82638 + v82682 - 528)), (0, (100 * w0 + w1)), (0, 1)]) rfl (by decide) rfl ?_
                    refine ev_goto f267_71 ?_
                    refine ev_iload rfl ?_
                    refine ev_iconst ?_
                    refine ev_icmpge f267_109 (fun c82779 => absurd c82779 (by omega)) (fun c82779 => ?_)
                    refine ev_aload_n rfl ?_
                    refine g_getp (r := 42) (c := 51) g82778 ad42 (by decide) (by decide) rf42_13 ft12_13 ?_
                    refine ev_iconst ?_
                    refine ev_iload rfl ?_
                    refine ev_imul (r := (400 * w0 + 4 * w1)) (by unfold w32; omega) ?_
                    refine ev_iload rfl ?_
                    refine ev_iadd (r := (400 * w0 + 4 * w1 + 1)) (by unfold w32; omega) ?_
                    refine ev_iconst ?_
                    refine ev_bastG (r := 51) (j := ((400 * w0 + 4 * w1 + 1)).toNat) (w := (-1)) (g82778.lt ad51) (g82778.tg ad51) (by omega) (by rw [g82778.ln ad51]; omega) (by unfold w8; omega) (fun h82780 e82780 => ?_)
                    have g82780 := g82778.s51 e82780 (by rw [(((jw_ne e82778 (Or.inl (by decide))).trans ((jw_ne e82777 (Or.inl (by decide))).trans ((jw_ne e82775 (Or.inl (by decide))).trans ((jw_ne e82774 (Or.inl (by decide))).trans ((jw_ne e82773 (Or.inl (by decide))).trans ((jw_ne e82771 (Or.inr (by decide))).trans ew0)))))))]; omega) (by omega) (by omega)
                    have k82780 := k82778.wr e82780 rfl
                    refine ev_aload_n rfl ?_
                    refine g_getp (r := 42) (c := 52) g82780 ad42 (by decide) (by decide) rf42_14 ft12_14 ?_
                    refine ev_iconst ?_
                    refine ev_iload rfl ?_
                    refine ev_imul (r := (400 * w0 + 4 * w1)) (by unfold w32; omega) ?_
                    refine ev_iload rfl ?_
                    refine ev_iadd (r := (400 * w0 + 4 * w1 + 1)) (by unfold w32; omega) ?_
                    refine ev_iconst ?_
                    refine g_iast g82780 ad52 rt52 (fun _ => rfl) (by omega) (by omega) (by omega) (by omega) (fun h82781 e82781 g82781 => ?_)
                    have k82781 := k82780.wr e82781 rfl
                    refine ev_iinc (w := 2) (L' := [(2, 42), (0, 1), (0, 0), (0, (10 * v82638 + v82682 - 528)), (0, (100 * w0 + w1)), (0, 2)]) rfl (by decide) rfl ?_
                    refine ev_goto f267_71 ?_
                    refine ev_iload rfl ?_
                    refine ev_iconst ?_
                    refine ev_icmpge f267_109 (fun c82782 => absurd c82782 (by omega)) (fun c82782 => ?_)
                    refine ev_aload_n rfl ?_
                    refine g_getp (r := 42) (c := 51) g82781 ad42 (by decide) (by decide) rf42_13 ft12_13 ?_
                    refine ev_iconst ?_
                    refine ev_iload rfl ?_
                    refine ev_imul (r := (400 * w0 + 4 * w1)) (by unfold w32; omega) ?_
                    refine ev_iload rfl ?_
                    refine ev_iadd (r := (400 * w0 + 4 * w1 + 2)) (by unfold w32; omega) ?_
                    refine ev_iconst ?_
                    refine ev_bastG (r := 51) (j := ((400 * w0 + 4 * w1 + 2)).toNat) (w := (-1)) (g82781.lt ad51) (g82781.tg ad51) (by omega) (by rw [g82781.ln ad51]; omega) (by unfold w8; omega) (fun h82783 e82783 => ?_)
                    have g82783 := g82781.s51 e82783 (by rw [(((jw_ne e82781 (Or.inl (by decide))).trans ((jw_ne e82780 (Or.inl (by decide))).trans ((jw_ne e82778 (Or.inl (by decide))).trans ((jw_ne e82777 (Or.inl (by decide))).trans ((jw_ne e82775 (Or.inl (by decide))).trans ((jw_ne e82774 (Or.inl (by decide))).trans ((jw_ne e82773 (Or.inl (by decide))).trans ((jw_ne e82771 (Or.inr (by decide))).trans ew0)))))))))]; omega) (by omega) (by omega)
                    have k82783 := k82781.wr e82783 rfl
                    refine ev_aload_n rfl ?_
                    refine g_getp (r := 42) (c := 52) g82783 ad42 (by decide) (by decide) rf42_14 ft12_14 ?_
                    refine ev_iconst ?_
                    refine ev_iload rfl ?_
                    refine ev_imul (r := (400 * w0 + 4 * w1)) (by unfold w32; omega) ?_
                    refine ev_iload rfl ?_
                    refine ev_iadd (r := (400 * w0 + 4 * w1 + 2)) (by unfold w32; omega) ?_
                    refine ev_iconst ?_
                    refine g_iast g82783 ad52 rt52 (fun _ => rfl) (by omega) (by omega) (by omega) (by omega) (fun h82784 e82784 g82784 => ?_)
                    have k82784 := k82783.wr e82784 rfl
                    refine ev_iinc (w := 3) (L' := [(2, 42), (0, 1), (0, 0), (0, (10 * v82638 + v82682 - 528)), (0, (100 * w0 + w1)), (0, 3)]) rfl (by decide) rfl ?_
                    refine ev_goto f267_71 ?_
                    refine ev_iload rfl ?_
                    refine ev_iconst ?_
                    refine ev_icmpge f267_109 (fun c82785 => absurd c82785 (by omega)) (fun c82785 => ?_)
                    refine ev_aload_n rfl ?_
                    refine g_getp (r := 42) (c := 51) g82784 ad42 (by decide) (by decide) rf42_13 ft12_13 ?_
                    refine ev_iconst ?_
                    refine ev_iload rfl ?_
                    refine ev_imul (r := (400 * w0 + 4 * w1)) (by unfold w32; omega) ?_
                    refine ev_iload rfl ?_
                    refine ev_iadd (r := (400 * w0 + 4 * w1 + 3)) (by unfold w32; omega) ?_
                    refine ev_iconst ?_
                    refine ev_bastG (r := 51) (j := ((400 * w0 + 4 * w1 + 3)).toNat) (w := (-1)) (g82784.lt ad51) (g82784.tg ad51) (by omega) (by rw [g82784.ln ad51]; omega) (by unfold w8; omega) (fun h82786 e82786 => ?_)
                    have g82786 := g82784.s51 e82786 (by rw [(((jw_ne e82784 (Or.inl (by decide))).trans ((jw_ne e82783 (Or.inl (by decide))).trans ((jw_ne e82781 (Or.inl (by decide))).trans ((jw_ne e82780 (Or.inl (by decide))).trans ((jw_ne e82778 (Or.inl (by decide))).trans ((jw_ne e82777 (Or.inl (by decide))).trans ((jw_ne e82775 (Or.inl (by decide))).trans ((jw_ne e82774 (Or.inl (by decide))).trans ((jw_ne e82773 (Or.inl (by decide))).trans ((jw_ne e82771 (Or.inr (by decide))).trans ew0)))))))))))]; omega) (by omega) (by omega)
                    have k82786 := k82784.wr e82786 rfl
                    refine ev_aload_n rfl ?_
                    refine g_getp (r := 42) (c := 52) g82786 ad42 (by decide) (by decide) rf42_14 ft12_14 ?_
                    refine ev_iconst ?_
                    refine ev_iload rfl ?_
                    refine ev_imul (r := (400 * w0 + 4 * w1)) (by unfold w32; omega) ?_
                    refine ev_iload rfl ?_
                    refine ev_iadd (r := (400 * w0 + 4 * w1 + 3)) (by unfold w32; omega) ?_
                    refine ev_iconst ?_
                    refine g_iast g82786 ad52 rt52 (fun _ => rfl) (by omega) (by omega) (by omega) (by omega) (fun h82787 e82787 g82787 => ?_)
                    have k82787 := k82786.wr e82787 rfl
                    refine ev_iinc (w := 4) (L' := [(2, 42), (0, 1), (0, 0), (0, (10 * v82638 + v82682 - 528)), (0, (100 * w0 + w1)), (0, 4)]) rfl (by decide) rfl ?_
                    refine ev_goto f267_71 ?_
                    refine ev_iload rfl ?_
                    refine ev_iconst ?_
                    refine ev_icmpge f267_109 (fun c82788 => ?_) (fun c82788 => absurd c82788 (by omega))
                    refine ev_iload rfl ?_
                    refine ev_ret rfl (by decide) (by decide) ?_
                    show jEv _ _ _ _ _ _ _ (_, [(2, 42), (0, a1), (0, 1), (0, (a1 + 2)), (0, 0), (0, (10 * v82638 + v82682 - 528)), (0, 2)], [(0, (100 * w0 + w1))], _, _, _)
                    refine ev_pop (by decide) ?_
                    refine ev_iload_n rfl ?_
                    exact ev_ret rfl (by decide) (by decide) ⟨⟨_, rfl, by omega, by omega, g82787, k82787⟩, fun r hr h0 => by cases hr; exact (Ad.step (r' := (a1 + 2)) (Ad.step (r' := (a1 + 1)) (Ad.rf _ _ _) (by omega) k82787 (fun _ => rfl) (((jw_ne e82787 (Or.inl (by decide))).trans ((jw_ne e82786 (Or.inl (by decide))).trans ((jw_ne e82784 (Or.inl (by decide))).trans ((jw_ne e82783 (Or.inl (by decide))).trans ((jw_ne e82781 (Or.inl (by decide))).trans ((jw_ne e82780 (Or.inl (by decide))).trans ((jw_ne e82778 (Or.inl (by decide))).trans ((jw_ne e82777 (Or.inl (by decide))).trans ((jw_ne e82775 (Or.inl (by decide))).trans ((jw_ne e82774 (Or.inl (by decide))).trans ((jw_ne e82773 (Or.inl (by decide))).trans ((jw_ne e82771 (Or.inl (by decide))).trans ev82638))))))))))))) (by omega) (by omega) (by omega)) (by omega) k82787 (fun _ => rfl) (((jw_ne e82787 (Or.inl (by decide))).trans ((jw_ne e82786 (Or.inl (by decide))).trans ((jw_ne e82784 (Or.inl (by decide))).trans ((jw_ne e82783 (Or.inl (by decide))).trans ((jw_ne e82781 (Or.inl (by decide))).trans ((jw_ne e82780 (Or.inl (by decide))).trans ((jw_ne e82778 (Or.inl (by decide))).trans ((jw_ne e82777 (Or.inl (by decide))).trans ((jw_ne e82775 (Or.inl (by decide))).trans ((jw_ne e82774 (Or.inl (by decide))).trans ((jw_ne e82773 (Or.inl (by decide))).trans ((jw_ne e82771 (Or.inl (by decide))).trans ev82682))))))))))))) (by omega) (by omega) (by omega)), fun r hr => by cases hr; exact ⟨_, (((jw_ne e82787 (Or.inl (by decide))).trans ((jw_ne e82786 (Or.inl (by decide))).trans ((jw_ne e82784 (Or.inl (by decide))).trans ((jw_ne e82783 (Or.inl (by decide))).trans ((jw_ne e82781 (Or.inl (by decide))).trans ((jw_ne e82780 (Or.inl (by decide))).trans ((jw_ne e82778 (Or.inl (by decide))).trans ((jw_ne e82777 (Or.inl (by decide))).trans ((jw_ne e82775 (Or.inl (by decide))).trans ((jw_ne e82774 (Or.inl (by decide))).trans ((jw_ne e82773 (Or.inl (by decide))).trans (jw_eq e82771))))))))))))), by omega, by omega, (Fr.kp (Fr.w (i := (400 * w0 + 4 * w1 + 3)) (Fr.kp (Fr.w (i := (400 * w0 + 4 * w1 + 2)) (Fr.kp (Fr.w (i := (400 * w0 + 4 * w1 + 1)) (Fr.kp (Fr.w (i := (400 * w0 + 4 * w1)) (Fr.w (i := (100 * w0 + w1)) (Fr.w (i := (100 * w0 + w1)) (Fr.w (i := (100 * w0 + w1)) (Fr.kp (Fr.rf _ _) ((Kp.rf [(42, 0)] _).wr e82771 rfl) (fun _ => rfl) (fun _ => rfl) (fun _ => rfl) (fun _ => rfl)) e82773 (by omega) (by omega)) e82774 (by omega) (by omega)) e82775 (by omega) (by omega)) e82777 (by omega) (by omega)) ((Kp.rf [(52, 0)] _).wr e82778 rfl) (fun _ => rfl) (fun _ => rfl) (fun _ => rfl) (fun _ => rfl)) e82780 (by omega) (by omega)) ((Kp.rf [(52, 0)] _).wr e82781 rfl) (fun _ => rfl) (fun _ => rfl) (fun _ => rfl) (fun _ => rfl)) e82783 (by omega) (by omega)) ((Kp.rf [(52, 0)] _).wr e82784 rfl) (fun _ => rfl) (fun _ => rfl) (fun _ => rfl) (fun _ => rfl)) e82786 (by omega) (by omega)) ((Kp.rf [(52, 0)] _).wr e82787 rfl) (fun _ => rfl) (fun _ => rfl) (fun _ => rfl) (fun _ => rfl)), fun h0 => by omega, fun h0 hm => Tr.end (i := (100 * w0 + w1)) (by omega) (by omega) (by omega) (((jw_ne e82787 (Or.inl (by decide))).trans ((jw_ne e82786 (Or.inl (by decide))).trans ((jw_ne e82784 (Or.inl (by decide))).trans ((jw_ne e82783 (Or.inl (by decide))).trans ((jw_ne e82781 (Or.inl (by decide))).trans ((jw_ne e82780 (Or.inl (by decide))).trans ((jw_ne e82778 (Or.inl (by decide))).trans ((jw_ne e82777 (Or.inl (by decide))).trans ((jw_ne e82775 (Or.inl (by decide))).trans ((jw_ne e82774 (Or.inl (by decide))).trans (jw_eq e82773)))))))))))) (by omega) (by omega)⟩, fun r hr => by cases hr; exact okM (show (if bR h a1 = 45 then enR (bR h) (a1 + 1) else enR (bR h) a1) = ((a1 + 2), 0, 0, 1) by rw [if_neg (fun z => absurd ((bR_at (p := a1) k82787 (fun _ => rfl) ew2 (((jw_ne e82787 (Or.inl (by decide))).trans ((jw_ne e82786 (Or.inl (by decide))).trans ((jw_ne e82784 (Or.inl (by decide))).trans ((jw_ne e82783 (Or.inl (by decide))).trans ((jw_ne e82781 (Or.inl (by decide))).trans ((jw_ne e82780 (Or.inl (by decide))).trans ((jw_ne e82778 (Or.inl (by decide))).trans ((jw_ne e82777 (Or.inl (by decide))).trans ((jw_ne e82775 (Or.inl (by decide))).trans ((jw_ne e82774 (Or.inl (by decide))).trans ((jw_ne e82773 (Or.inl (by decide))).trans ((jw_ne e82771 (Or.inl (by decide))).trans ev82638))))))))))))) (by omega) (by omega)).symm.trans z) (by omega))]; unfold enR; rw [show nm3 (bR h) a1 = (a1 + 2) by unfold nm3; rw [(bR_at (p := a1) k82787 (fun _ => rfl) ew2 (((jw_ne e82787 (Or.inl (by decide))).trans ((jw_ne e82786 (Or.inl (by decide))).trans ((jw_ne e82784 (Or.inl (by decide))).trans ((jw_ne e82783 (Or.inl (by decide))).trans ((jw_ne e82781 (Or.inl (by decide))).trans ((jw_ne e82780 (Or.inl (by decide))).trans ((jw_ne e82778 (Or.inl (by decide))).trans ((jw_ne e82777 (Or.inl (by decide))).trans ((jw_ne e82775 (Or.inl (by decide))).trans ((jw_ne e82774 (Or.inl (by decide))).trans ((jw_ne e82773 (Or.inl (by decide))).trans ((jw_ne e82771 (Or.inl (by decide))).trans ev82638))))))))))))) (by omega) (by omega)), (bR_at (p := (a1 + 1)) k82787 (fun _ => rfl) ew2 (((jw_ne e82787 (Or.inl (by decide))).trans ((jw_ne e82786 (Or.inl (by decide))).trans ((jw_ne e82784 (Or.inl (by decide))).trans ((jw_ne e82783 (Or.inl (by decide))).trans ((jw_ne e82781 (Or.inl (by decide))).trans ((jw_ne e82780 (Or.inl (by decide))).trans ((jw_ne e82778 (Or.inl (by decide))).trans ((jw_ne e82777 (Or.inl (by decide))).trans ((jw_ne e82775 (Or.inl (by decide))).trans ((jw_ne e82774 (Or.inl (by decide))).trans ((jw_ne e82773 (Or.inl (by decide))).trans ((jw_ne e82771 (Or.inl (by decide))).trans ev82682))))))))))))) (by omega) (by omega)), (bR_at (p := (a1 + 2)) k82787 (fun _ => rfl) ew2 (((jw_ne e82787 (Or.inl (by decide))).trans ((jw_ne e82786 (Or.inl (by decide))).trans ((jw_ne e82784 (Or.inl (by decide))).trans ((jw_ne e82783 (Or.inl (by decide))).trans ((jw_ne e82781 (Or.inl (by decide))).trans ((jw_ne e82780 (Or.inl (by decide))).trans ((jw_ne e82778 (Or.inl (by decide))).trans ((jw_ne e82777 (Or.inl (by decide))).trans ((jw_ne e82775 (Or.inl (by decide))).trans ((jw_ne e82774 (Or.inl (by decide))).trans ((jw_ne e82773 (Or.inl (by decide))).trans ((jw_ne e82771 (Or.inl (by decide))).trans ev82763))))))))))))) (by omega) (by omega))]; (repeat' split) <;> omega, if_neg (by omega)]) (by omega) (by omega) (((jw_ne e82787 (Or.inl (by decide))).trans ((jw_ne e82786 (Or.inl (by decide))).trans ((jw_ne e82784 (Or.inl (by decide))).trans ((jw_ne e82783 (Or.inl (by decide))).trans ((jw_ne e82781 (Or.inl (by decide))).trans ((jw_ne e82780 (Or.inl (by decide))).trans ((jw_ne e82778 (Or.inl (by decide))).trans ((jw_ne e82777 (Or.inl (by decide))).trans ((jw_ne e82775 (Or.inl (by decide))).trans ((jw_ne e82774 (Or.inl (by decide))).trans ((jw_ne e82773 (Or.inl (by decide))).trans (jw_eq e82771))))))))))))) (by omega)⟩
                  · refine ev_iload_n rfl ?_
                    refine ev_iload_n rfl ?_
                    refine ev_icmpgt f242_14 (fun c82789 => ?_) (fun c82789 => ?_)
                    · refine ev_iconst ?_
                      refine ev_ret rfl (by decide) (by decide) ?_
                      show jEv _ _ _ _ _ _ _ (_, [(2, 42), (0, (a1 + 2))], [(0, 0)], _, _, _)
                      refine ev_ret rfl (by decide) (by decide) ?_
                      show jEv _ _ _ _ _ _ _ (_, [(2, 42), (0, a1), (0, 1), (0, (a1 + 2)), (0, 0), (0, (10 * v82638 + v82682 - 528)), (0, 2)], [(0, 0)], _, _, _)
                      refine ev_ifeq f269_86 (fun c82790 => ?_) (fun c82790 => absurd c82790 (by omega))
                      refine ev_aload_n rfl ?_
                      refine ev_iload_n rfl ?_
                      refine ev_in (d := 1) (a := 0) (b := 0) (cd' := c265_0) (m := 2) (L0 := [(2, 42), (0, (a1 + 2))]) (jcall_v (A := [(0, (a1 + 2))]) (S' := []) (r := 42) rfl (g.lt ad42) (g.tg ad42) (Nat.le_of_ble_eq_true rfl)) (by decide) ml265 pp265 (Nat.le_of_ble_eq_true rfl) rfl (by decide) (by decide) ?_
                      refine ev_aload_n rfl ?_
                      refine ev_iload_n rfl ?_
                      refine ev_in (d := 0) (a := 0) (b := 0) (cd' := c264_0) (m := 2) (L0 := [(2, 42), (0, (a1 + 2))]) (jcall_v (A := [(0, (a1 + 2))]) (S' := []) (r := 42) rfl (g.lt ad42) (g.tg ad42) (Nat.le_of_ble_eq_true rfl)) (by decide) ml264 pp264 (Nat.le_of_ble_eq_true rfl) rfl (by decide) (by decide) ?_
                      refine ev_iload_n rfl ?_
                      refine ev_aload_n rfl ?_
                      refine g_getv (r := 42) (v := w2) g ad42 (by decide) ft12_17 (ew2) ?_
                      refine ev_icmpge f264_17 (fun c82791 => absurd c82791 (by omega)) (fun c82791 => ?_)
                      refine ev_aload_n rfl ?_
                      refine g_getp (r := 42) (c := 54) g ad42 (by decide) (by decide) rf42_16 ft12_16 ?_
                      refine ev_iload_n rfl ?_
                      refine g_baldv (v := v82763) g ad54 (by omega) (by omega) (ev82763) ?_
                      refine ev_goto f264_18 ?_
                      refine ev_ret rfl (by decide) (by decide) ?_
                      show jEv _ _ _ _ _ _ _ (_, [(2, 42), (0, (a1 + 2))], [(0, v82763)], _, _, _)
                      refine ev_bipush ?_
                      refine ev_bipush ?_
                      refine ev_in (d := 0) (a := 0) (b := 0) (cd' := c242_0) (m := 3) (L0 := [(0, v82763), (0, 48), (0, 57)]) (jcall_s (A := [(0, 57), (0, 48), (0, v82763)]) (S' := []) (by decide) rfl (Nat.le_of_ble_eq_true rfl)) (by decide) ml242 pp242 (Nat.le_of_ble_eq_true rfl) rfl (by decide) (by decide) ?_
                      refine ev_iload_n rfl ?_
                      refine ev_iload_n rfl ?_
                      refine ev_icmplt f242_14 (fun c82792 => absurd c82792 (by omega)) (fun c82792 => ?_)
                      refine ev_iload_n rfl ?_
                      refine ev_iload_n rfl ?_
                      refine ev_icmpgt f242_14 (fun c82793 => ?_) (fun c82793 => absurd c82793 (by omega))
                      refine ev_iconst ?_
                      refine ev_ret rfl (by decide) (by decide) ?_
                      show jEv _ _ _ _ _ _ _ (_, [(2, 42), (0, (a1 + 2))], [(0, 0)], _, _, _)
                      refine ev_ret rfl (by decide) (by decide) ?_
                      show jEv _ _ _ _ _ _ _ (_, [(2, 42), (0, a1), (0, 1), (0, (a1 + 2)), (0, 0), (0, (10 * v82638 + v82682 - 528)), (0, 2)], [(0, 0)], _, _, _)
                      refine ev_ifeq f269_100 (fun c82794 => ?_) (fun c82794 => absurd c82794 (by omega))
                      refine ev_aload_n rfl ?_
                      refine ev_iload_n rfl ?_
                      refine ev_iconst ?_
                      refine ev_iload rfl ?_
                      refine ev_ifeq f269_114 (fun c82795 => ?_) (fun c82795 => absurd c82795 (by omega))
                      refine ev_iload rfl ?_
                      refine ev_in (d := 1) (a := 0) (b := 0) (cd' := c267_0) (m := 6) (L0 := [(2, 42), (0, 1), (0, 0), (0, (10 * v82638 + v82682 - 528)), (9, 0), (9, 0)]) (jcall_v (A := [(0, (10 * v82638 + v82682 - 528)), (0, 0), (0, 1)]) (S' := []) (r := 42) rfl (g.lt ad42) (g.tg ad42) (Nat.le_of_ble_eq_true rfl)) (by decide) ml267 pp267 (Nat.le_of_ble_eq_true rfl) rfl (by decide) (by decide) ?_
                      refine ev_iload_n rfl ?_
                      refine ev_ifne f267_6 (fun c82796 => ?_) (fun c82796 => absurd c82796 (by omega))
                      refine ev_aload_n rfl ?_
                      refine ev_dup (by decide) ?_
                      refine g_getv (r := 42) (v := w1) g ad42 (by decide) ft12_21 (ew1) ?_
                      refine ev_iconst ?_
                      refine ev_iadd (r := (w1 + 1)) (by unfold w32; omega) ?_
                      refine g_putf (r := 42) g ad42 (by decide) ft12_21 (by decide) (fun e => absurd e nz12_21) rf42_21 (by decide) (by omega) (by omega) (fun h82797 e82797 g82797 => ?_)
                      have k82797 := k0.wr e82797 rfl
                      refine ev_aload_n rfl ?_
                      refine g_getv (r := 42) (v := (w1 + 1)) g82797 ad42 (by decide) ft12_21 ((jw_eq e82797)) ?_
                      refine ev_bipush ?_
                      refine ev_icmple f267_27 (fun c82798 => ?_) (fun c82798 => absurd c82798 (by omega))
                      refine ev_bipush ?_
                      refine ev_aload_n rfl ?_
                      refine g_getv (r := 42) (v := w0) g82797 ad42 (by decide) ft12_9 (((jw_ne e82797 (Or.inr (by decide))).trans ew0)) ?_
                      refine ev_imul (r := (100 * w0)) (by unfold w32; omega) ?_
                      refine ev_aload_n rfl ?_
                      refine g_getv (r := 42) (v := (w1 + 1)) g82797 ad42 (by decide) ft12_21 ((jw_eq e82797)) ?_
                      refine ev_iadd (r := (100 * w0 + w1 + 1)) (by unfold w32; omega) ?_
                      refine ev_iconst ?_
                      refine ev_isub (r := (100 * w0 + w1)) (by unfold w32; omega) ?_
                      refine ev_istore (L' := [(2, 42), (0, 1), (0, 0), (0, (10 * v82638 + v82682 - 528)), (0, (100 * w0 + w1)), (9, 0)]) (Nat.le_of_ble_eq_true rfl) rfl ?_
                      refine ev_aload_n rfl ?_
                      refine g_getp (r := 42) (c := 49) g82797 ad42 (by decide) (by decide) rf42_11 ft12_11 ?_
                      refine ev_iload rfl ?_
                      refine ev_iload_n rfl ?_
                      refine ev_i2b (r := 0) (by unfold w8; omega) ?_
                      refine ev_bastG (r := 49) (j := ((100 * w0 + w1)).toNat) (w := 0) (g82797.lt ad49) (g82797.tg ad49) (by omega) (by rw [g82797.ln ad49]; omega) (by unfold w8; omega) (fun h82799 e82799 => ?_)
                      have g82799 := g82797.s49 e82799 (by rw [(((jw_ne e82797 (Or.inr (by decide))).trans ew0))]; omega) (by omega) (by omega)
                      have k82799 := k82797.wr e82799 rfl
                      refine ev_aload_n rfl ?_
                      refine g_getp (r := 42) (c := 50) g82799 ad42 (by decide) (by decide) rf42_12 ft12_12 ?_
                      refine ev_iload rfl ?_
                      refine ev_iload_n rfl ?_
                      refine ev_iastG (r := 50) (j := ((100 * w0 + w1)).toNat) (g82799.lt ad50) (g82799.tg ad50) (by omega) (by rw [g82799.ln ad50]; omega) (fun h82800 e82800 => ?_)
                      have g82800 := g82799.s50 e82800 (Or.inl (by rw [(((jw_ne e82799 (Or.inl (by decide))).trans ((jw_ne e82797 (Or.inr (by decide))).trans ew0)))]; omega)) (by omega) (by omega)
                      have k82800 := k82799.wr e82800 rfl
                      refine ev_aload_n rfl ?_
                      refine g_getp (r := 42) (c := 53) g82800 ad42 (by decide) (by decide) rf42_15 ft12_15 ?_
                      refine ev_iload rfl ?_
                      refine ev_iconst ?_
                      refine ev_bastG (r := 53) (j := ((100 * w0 + w1)).toNat) (w := 0) (g82800.lt ad53) (g82800.tg ad53) (by omega) (by rw [g82800.ln ad53]; omega) (by unfold w8; omega) (fun h82801 e82801 => ?_)
                      have g82801 := g82800.s53 e82801 (Or.inl (by rw [(((jw_ne e82800 (Or.inl (by decide))).trans ((jw_ne e82799 (Or.inl (by decide))).trans ((jw_ne e82797 (Or.inr (by decide))).trans ew0))))]; omega)) (by omega) (by omega)
                      have k82801 := k82800.wr e82801 rfl
                      refine ev_iconst ?_
                      refine ev_istore (L' := [(2, 42), (0, 1), (0, 0), (0, (10 * v82638 + v82682 - 528)), (0, (100 * w0 + w1)), (0, 0)]) (Nat.le_of_ble_eq_true rfl) rfl ?_
                      refine ev_iload rfl ?_
                      refine ev_iconst ?_
                      refine ev_icmpge f267_109 (fun c82802 => absurd c82802 (by omega)) (fun c82802 => ?_)
                      refine ev_aload_n rfl ?_
                      refine g_getp (r := 42) (c := 51) g82801 ad42 (by decide) (by decide) rf42_13 ft12_13 ?_
                      refine ev_iconst ?_
                      refine ev_iload rfl ?_
                      refine ev_imul (r := (400 * w0 + 4 * w1)) (by unfold w32; omega) ?_
                      refine ev_iload rfl ?_
                      refine ev_iadd (r := (400 * w0 + 4 * w1)) (by unfold w32; omega) ?_
                      refine ev_iconst ?_
                      refine ev_bastG (r := 51) (j := ((400 * w0 + 4 * w1)).toNat) (w := (-1)) (g82801.lt ad51) (g82801.tg ad51) (by omega) (by rw [g82801.ln ad51]; omega) (by unfold w8; omega) (fun h82803 e82803 => ?_)
                      have g82803 := g82801.s51 e82803 (by rw [(((jw_ne e82801 (Or.inl (by decide))).trans ((jw_ne e82800 (Or.inl (by decide))).trans ((jw_ne e82799 (Or.inl (by decide))).trans ((jw_ne e82797 (Or.inr (by decide))).trans ew0)))))]; omega) (by omega) (by omega)
                      have k82803 := k82801.wr e82803 rfl
                      refine ev_aload_n rfl ?_
                      refine g_getp (r := 42) (c := 52) g82803 ad42 (by decide) (by decide) rf42_14 ft12_14 ?_
                      refine ev_iconst ?_
                      refine ev_iload rfl ?_
                      refine ev_imul (r := (400 * w0 + 4 * w1)) (by unfold w32; omega) ?_
                      refine ev_iload rfl ?_
                      refine ev_iadd (r := (400 * w0 + 4 * w1)) (by unfold w32; omega) ?_
                      refine ev_iconst ?_
                      refine g_iast g82803 ad52 rt52 (fun _ => rfl) (by omega) (by omega) (by omega) (by omega) (fun h82804 e82804 g82804 => ?_)
                      have k82804 := k82803.wr e82804 rfl
                      refine ev_iinc (w := 1) (L' := [(2, 42), (0, 1), (0, 0), (0, (10 * v82638 + v82682 - 528)), (0, (100 * w0 + w1)), (0, 1)]) rfl (by decide) rfl ?_
                      refine ev_goto f267_71 ?_
                      refine ev_iload rfl ?_
                      refine ev_iconst ?_
                      refine ev_icmpge f267_109 (fun c82805 => absurd c82805 (by omega)) (fun c82805 => ?_)
                      refine ev_aload_n rfl ?_
                      refine g_getp (r := 42) (c := 51) g82804 ad42 (by decide) (by decide) rf42_13 ft12_13 ?_
                      refine ev_iconst ?_
                      refine ev_iload rfl ?_
                      refine ev_imul (r := (400 * w0 + 4 * w1)) (by unfold w32; omega) ?_
                      refine ev_iload rfl ?_
                      refine ev_iadd (r := (400 * w0 + 4 * w1 + 1)) (by unfold w32; omega) ?_
                      refine ev_iconst ?_
                      refine ev_bastG (r := 51) (j := ((400 * w0 + 4 * w1 + 1)).toNat) (w := (-1)) (g82804.lt ad51) (g82804.tg ad51) (by omega) (by rw [g82804.ln ad51]; omega) (by unfold w8; omega) (fun h82806 e82806 => ?_)
                      have g82806 := g82804.s51 e82806 (by rw [(((jw_ne e82804 (Or.inl (by decide))).trans ((jw_ne e82803 (Or.inl (by decide))).trans ((jw_ne e82801 (Or.inl (by decide))).trans ((jw_ne e82800 (Or.inl (by decide))).trans ((jw_ne e82799 (Or.inl (by decide))).trans ((jw_ne e82797 (Or.inr (by decide))).trans ew0)))))))]; omega) (by omega) (by omega)
                      have k82806 := k82804.wr e82806 rfl
                      refine ev_aload_n rfl ?_
                      refine g_getp (r := 42) (c := 52) g82806 ad42 (by decide) (by decide) rf42_14 ft12_14 ?_
                      refine ev_iconst ?_
                      refine ev_iload rfl ?_
                      refine ev_imul (r := (400 * w0 + 4 * w1)) (by unfold w32; omega) ?_
                      refine ev_iload rfl ?_
                      refine ev_iadd (r := (400 * w0 + 4 * w1 + 1)) (by unfold w32; omega) ?_
                      refine ev_iconst ?_
                      refine g_iast g82806 ad52 rt52 (fun _ => rfl) (by omega) (by omega) (by omega) (by omega) (fun h82807 e82807 g82807 => ?_)
                      have k82807 := k82806.wr e82807 rfl
                      refine ev_iinc (w := 2) (L' := [(2, 42), (0, 1), (0, 0), (0, (10 * v82638 + v82682 - 528)), (0, (100 * w0 + w1)), (0, 2)]) rfl (by decide) rfl ?_
                      refine ev_goto f267_71 ?_
                      refine ev_iload rfl ?_
                      refine ev_iconst ?_
                      refine ev_icmpge f267_109 (fun c82808 => absurd c82808 (by omega)) (fun c82808 => ?_)
                      refine ev_aload_n rfl ?_
                      refine g_getp (r := 42) (c := 51) g82807 ad42 (by decide) (by decide) rf42_13 ft12_13 ?_
                      refine ev_iconst ?_
                      refine ev_iload rfl ?_
                      refine ev_imul (r := (400 * w0 + 4 * w1)) (by unfold w32; omega) ?_
                      refine ev_iload rfl ?_
                      refine ev_iadd (r := (400 * w0 + 4 * w1 + 2)) (by unfold w32; omega) ?_
                      refine ev_iconst ?_
                      refine ev_bastG (r := 51) (j := ((400 * w0 + 4 * w1 + 2)).toNat) (w := (-1)) (g82807.lt ad51) (g82807.tg ad51) (by omega) (by rw [g82807.ln ad51]; omega) (by unfold w8; omega) (fun h82809 e82809 => ?_)
                      have g82809 := g82807.s51 e82809 (by rw [(((jw_ne e82807 (Or.inl (by decide))).trans ((jw_ne e82806 (Or.inl (by decide))).trans ((jw_ne e82804 (Or.inl (by decide))).trans ((jw_ne e82803 (Or.inl (by decide))).trans ((jw_ne e82801 (Or.inl (by decide))).trans ((jw_ne e82800 (Or.inl (by decide))).trans ((jw_ne e82799 (Or.inl (by decide))).trans ((jw_ne e82797 (Or.inr (by decide))).trans ew0)))))))))]; omega) (by omega) (by omega)
                      have k82809 := k82807.wr e82809 rfl
                      refine ev_aload_n rfl ?_
                      refine g_getp (r := 42) (c := 52) g82809 ad42 (by decide) (by decide) rf42_14 ft12_14 ?_
                      refine ev_iconst ?_
                      refine ev_iload rfl ?_
                      refine ev_imul (r := (400 * w0 + 4 * w1)) (by unfold w32; omega) ?_
                      refine ev_iload rfl ?_
                      refine ev_iadd (r := (400 * w0 + 4 * w1 + 2)) (by unfold w32; omega) ?_
                      refine ev_iconst ?_
                      refine g_iast g82809 ad52 rt52 (fun _ => rfl) (by omega) (by omega) (by omega) (by omega) (fun h82810 e82810 g82810 => ?_)
                      have k82810 := k82809.wr e82810 rfl
                      refine ev_iinc (w := 3) (L' := [(2, 42), (0, 1), (0, 0), (0, (10 * v82638 + v82682 - 528)), (0, (100 * w0 + w1)), (0, 3)]) rfl (by decide) rfl ?_
                      refine ev_goto f267_71 ?_
                      refine ev_iload rfl ?_
                      refine ev_iconst ?_
                      refine ev_icmpge f267_109 (fun c82811 => absurd c82811 (by omega)) (fun c82811 => ?_)
                      refine ev_aload_n rfl ?_
                      refine g_getp (r := 42) (c := 51) g82810 ad42 (by decide) (by decide) rf42_13 ft12_13 ?_
                      refine ev_iconst ?_
                      refine ev_iload rfl ?_
                      refine ev_imul (r := (400 * w0 + 4 * w1)) (by unfold w32; omega) ?_
                      refine ev_iload rfl ?_
                      refine ev_iadd (r := (400 * w0 + 4 * w1 + 3)) (by unfold w32; omega) ?_
                      refine ev_iconst ?_
                      refine ev_bastG (r := 51) (j := ((400 * w0 + 4 * w1 + 3)).toNat) (w := (-1)) (g82810.lt ad51) (g82810.tg ad51) (by omega) (by rw [g82810.ln ad51]; omega) (by unfold w8; omega) (fun h82812 e82812 => ?_)
                      have g82812 := g82810.s51 e82812 (by rw [(((jw_ne e82810 (Or.inl (by decide))).trans ((jw_ne e82809 (Or.inl (by decide))).trans ((jw_ne e82807 (Or.inl (by decide))).trans ((jw_ne e82806 (Or.inl (by decide))).trans ((jw_ne e82804 (Or.inl (by decide))).trans ((jw_ne e82803 (Or.inl (by decide))).trans ((jw_ne e82801 (Or.inl (by decide))).trans ((jw_ne e82800 (Or.inl (by decide))).trans ((jw_ne e82799 (Or.inl (by decide))).trans ((jw_ne e82797 (Or.inr (by decide))).trans ew0)))))))))))]; omega) (by omega) (by omega)
                      have k82812 := k82810.wr e82812 rfl
                      refine ev_aload_n rfl ?_
                      refine g_getp (r := 42) (c := 52) g82812 ad42 (by decide) (by decide) rf42_14 ft12_14 ?_
                      refine ev_iconst ?_
                      refine ev_iload rfl ?_
                      refine ev_imul (r := (400 * w0 + 4 * w1)) (by unfold w32; omega) ?_
                      refine ev_iload rfl ?_
                      refine ev_iadd (r := (400 * w0 + 4 * w1 + 3)) (by unfold w32; omega) ?_
                      refine ev_iconst ?_
                      refine g_iast g82812 ad52 rt52 (fun _ => rfl) (by omega) (by omega) (by omega) (by omega) (fun h82813 e82813 g82813 => ?_)
                      have k82813 := k82812.wr e82813 rfl
                      refine ev_iinc (w := 4) (L' := [(2, 42), (0, 1), (0, 0), (0, (10 * v82638 + v82682 - 528)), (0, (100 * w0 + w1)), (0, 4)]) rfl (by decide) rfl ?_
                      refine ev_goto f267_71 ?_
                      refine ev_iload rfl ?_
                      refine ev_iconst ?_
                      refine ev_icmpge f267_109 (fun c82814 => ?_) (fun c82814 => absurd c82814 (by omega))
                      refine ev_iload rfl ?_
                      refine ev_ret rfl (by decide) (by decide) ?_
                      show jEv _ _ _ _ _ _ _ (_, [(2, 42), (0, a1), (0, 1), (0, (a1 + 2)), (0, 0), (0, (10 * v82638 + v82682 - 528)), (0, 2)], [(0, (100 * w0 + w1))], _, _, _)
                      refine ev_pop (by decide) ?_
                      refine ev_iload_n rfl ?_
                      exact ev_ret rfl (by decide) (by decide) ⟨⟨_, rfl, by omega, by omega, g82813, k82813⟩, fun r hr h0 => by cases hr; exact (Ad.step (r' := (a1 + 2)) (Ad.step (r' := (a1 + 1)) (Ad.rf _ _ _) (by omega) k82813 (fun _ => rfl) (((jw_ne e82813 (Or.inl (by decide))).trans ((jw_ne e82812 (Or.inl (by decide))).trans ((jw_ne e82810 (Or.inl (by decide))).trans ((jw_ne e82809 (Or.inl (by decide))).trans ((jw_ne e82807 (Or.inl (by decide))).trans ((jw_ne e82806 (Or.inl (by decide))).trans ((jw_ne e82804 (Or.inl (by decide))).trans ((jw_ne e82803 (Or.inl (by decide))).trans ((jw_ne e82801 (Or.inl (by decide))).trans ((jw_ne e82800 (Or.inl (by decide))).trans ((jw_ne e82799 (Or.inl (by decide))).trans ((jw_ne e82797 (Or.inl (by decide))).trans ev82638))))))))))))) (by omega) (by omega) (by omega)) (by omega) k82813 (fun _ => rfl) (((jw_ne e82813 (Or.inl (by decide))).trans ((jw_ne e82812 (Or.inl (by decide))).trans ((jw_ne e82810 (Or.inl (by decide))).trans ((jw_ne e82809 (Or.inl (by decide))).trans ((jw_ne e82807 (Or.inl (by decide))).trans ((jw_ne e82806 (Or.inl (by decide))).trans ((jw_ne e82804 (Or.inl (by decide))).trans ((jw_ne e82803 (Or.inl (by decide))).trans ((jw_ne e82801 (Or.inl (by decide))).trans ((jw_ne e82800 (Or.inl (by decide))).trans ((jw_ne e82799 (Or.inl (by decide))).trans ((jw_ne e82797 (Or.inl (by decide))).trans ev82682))))))))))))) (by omega) (by omega) (by omega)), fun r hr => by cases hr; exact ⟨_, (((jw_ne e82813 (Or.inl (by decide))).trans ((jw_ne e82812 (Or.inl (by decide))).trans ((jw_ne e82810 (Or.inl (by decide))).trans ((jw_ne e82809 (Or.inl (by decide))).trans ((jw_ne e82807 (Or.inl (by decide))).trans ((jw_ne e82806 (Or.inl (by decide))).trans ((jw_ne e82804 (Or.inl (by decide))).trans ((jw_ne e82803 (Or.inl (by decide))).trans ((jw_ne e82801 (Or.inl (by decide))).trans ((jw_ne e82800 (Or.inl (by decide))).trans ((jw_ne e82799 (Or.inl (by decide))).trans (jw_eq e82797))))))))))))), by omega, by omega, (Fr.kp (Fr.w (i := (400 * w0 + 4 * w1 + 3)) (Fr.kp (Fr.w (i := (400 * w0 + 4 * w1 + 2)) (Fr.kp (Fr.w (i := (400 * w0 + 4 * w1 + 1)) (Fr.kp (Fr.w (i := (400 * w0 + 4 * w1)) (Fr.w (i := (100 * w0 + w1)) (Fr.w (i := (100 * w0 + w1)) (Fr.w (i := (100 * w0 + w1)) (Fr.kp (Fr.rf _ _) ((Kp.rf [(42, 0)] _).wr e82797 rfl) (fun _ => rfl) (fun _ => rfl) (fun _ => rfl) (fun _ => rfl)) e82799 (by omega) (by omega)) e82800 (by omega) (by omega)) e82801 (by omega) (by omega)) e82803 (by omega) (by omega)) ((Kp.rf [(52, 0)] _).wr e82804 rfl) (fun _ => rfl) (fun _ => rfl) (fun _ => rfl) (fun _ => rfl)) e82806 (by omega) (by omega)) ((Kp.rf [(52, 0)] _).wr e82807 rfl) (fun _ => rfl) (fun _ => rfl) (fun _ => rfl) (fun _ => rfl)) e82809 (by omega) (by omega)) ((Kp.rf [(52, 0)] _).wr e82810 rfl) (fun _ => rfl) (fun _ => rfl) (fun _ => rfl) (fun _ => rfl)) e82812 (by omega) (by omega)) ((Kp.rf [(52, 0)] _).wr e82813 rfl) (fun _ => rfl) (fun _ => rfl) (fun _ => rfl) (fun _ => rfl)), fun h0 => by omega, fun h0 hm => Tr.end (i := (100 * w0 + w1)) (by omega) (by omega) (by omega) (((jw_ne e82813 (Or.inl (by decide))).trans ((jw_ne e82812 (Or.inl (by decide))).trans ((jw_ne e82810 (Or.inl (by decide))).trans ((jw_ne e82809 (Or.inl (by decide))).trans ((jw_ne e82807 (Or.inl (by decide))).trans ((jw_ne e82806 (Or.inl (by decide))).trans ((jw_ne e82804 (Or.inl (by decide))).trans ((jw_ne e82803 (Or.inl (by decide))).trans ((jw_ne e82801 (Or.inl (by decide))).trans ((jw_ne e82800 (Or.inl (by decide))).trans (jw_eq e82799)))))))))))) (by omega) (by omega)⟩, fun r hr => by cases hr; exact okM (show (if bR h a1 = 45 then enR (bR h) (a1 + 1) else enR (bR h) a1) = ((a1 + 2), 0, 0, 1) by rw [if_neg (fun z => absurd ((bR_at (p := a1) k82813 (fun _ => rfl) ew2 (((jw_ne e82813 (Or.inl (by decide))).trans ((jw_ne e82812 (Or.inl (by decide))).trans ((jw_ne e82810 (Or.inl (by decide))).trans ((jw_ne e82809 (Or.inl (by decide))).trans ((jw_ne e82807 (Or.inl (by decide))).trans ((jw_ne e82806 (Or.inl (by decide))).trans ((jw_ne e82804 (Or.inl (by decide))).trans ((jw_ne e82803 (Or.inl (by decide))).trans ((jw_ne e82801 (Or.inl (by decide))).trans ((jw_ne e82800 (Or.inl (by decide))).trans ((jw_ne e82799 (Or.inl (by decide))).trans ((jw_ne e82797 (Or.inl (by decide))).trans ev82638))))))))))))) (by omega) (by omega)).symm.trans z) (by omega))]; unfold enR; rw [show nm3 (bR h) a1 = (a1 + 2) by unfold nm3; rw [(bR_at (p := a1) k82813 (fun _ => rfl) ew2 (((jw_ne e82813 (Or.inl (by decide))).trans ((jw_ne e82812 (Or.inl (by decide))).trans ((jw_ne e82810 (Or.inl (by decide))).trans ((jw_ne e82809 (Or.inl (by decide))).trans ((jw_ne e82807 (Or.inl (by decide))).trans ((jw_ne e82806 (Or.inl (by decide))).trans ((jw_ne e82804 (Or.inl (by decide))).trans ((jw_ne e82803 (Or.inl (by decide))).trans ((jw_ne e82801 (Or.inl (by decide))).trans ((jw_ne e82800 (Or.inl (by decide))).trans ((jw_ne e82799 (Or.inl (by decide))).trans ((jw_ne e82797 (Or.inl (by decide))).trans ev82638))))))))))))) (by omega) (by omega)), (bR_at (p := (a1 + 1)) k82813 (fun _ => rfl) ew2 (((jw_ne e82813 (Or.inl (by decide))).trans ((jw_ne e82812 (Or.inl (by decide))).trans ((jw_ne e82810 (Or.inl (by decide))).trans ((jw_ne e82809 (Or.inl (by decide))).trans ((jw_ne e82807 (Or.inl (by decide))).trans ((jw_ne e82806 (Or.inl (by decide))).trans ((jw_ne e82804 (Or.inl (by decide))).trans ((jw_ne e82803 (Or.inl (by decide))).trans ((jw_ne e82801 (Or.inl (by decide))).trans ((jw_ne e82800 (Or.inl (by decide))).trans ((jw_ne e82799 (Or.inl (by decide))).trans ((jw_ne e82797 (Or.inl (by decide))).trans ev82682))))))))))))) (by omega) (by omega)), (bR_at (p := (a1 + 2)) k82813 (fun _ => rfl) ew2 (((jw_ne e82813 (Or.inl (by decide))).trans ((jw_ne e82812 (Or.inl (by decide))).trans ((jw_ne e82810 (Or.inl (by decide))).trans ((jw_ne e82809 (Or.inl (by decide))).trans ((jw_ne e82807 (Or.inl (by decide))).trans ((jw_ne e82806 (Or.inl (by decide))).trans ((jw_ne e82804 (Or.inl (by decide))).trans ((jw_ne e82803 (Or.inl (by decide))).trans ((jw_ne e82801 (Or.inl (by decide))).trans ((jw_ne e82800 (Or.inl (by decide))).trans ((jw_ne e82799 (Or.inl (by decide))).trans ((jw_ne e82797 (Or.inl (by decide))).trans ev82763))))))))))))) (by omega) (by omega))]; (repeat' split) <;> omega, if_neg (by omega)]) (by omega) (by omega) (((jw_ne e82813 (Or.inl (by decide))).trans ((jw_ne e82812 (Or.inl (by decide))).trans ((jw_ne e82810 (Or.inl (by decide))).trans ((jw_ne e82809 (Or.inl (by decide))).trans ((jw_ne e82807 (Or.inl (by decide))).trans ((jw_ne e82806 (Or.inl (by decide))).trans ((jw_ne e82804 (Or.inl (by decide))).trans ((jw_ne e82803 (Or.inl (by decide))).trans ((jw_ne e82801 (Or.inl (by decide))).trans ((jw_ne e82800 (Or.inl (by decide))).trans ((jw_ne e82799 (Or.inl (by decide))).trans (jw_eq e82797))))))))))))) (by omega)⟩
                    · refine ev_iconst ?_
                      refine ev_goto f242_15 ?_
                      refine ev_ret rfl (by decide) (by decide) ?_
                      show jEv _ _ _ _ _ _ _ (_, [(2, 42), (0, (a1 + 2))], [(0, 1)], _, _, _)
                      refine ev_ret rfl (by decide) (by decide) ?_
                      show jEv _ _ _ _ _ _ _ (_, [(2, 42), (0, a1), (0, 1), (0, (a1 + 2)), (0, 0), (0, (10 * v82638 + v82682 - 528)), (0, 2)], [(0, 1)], _, _, _)
                      refine ev_ifeq f269_86 (fun c82815 => absurd c82815 (by omega)) (fun c82815 => ?_)
                      refine ev_bipush ?_
                      refine ev_iload rfl ?_
                      refine ev_imul (r := (100 * v82638 + 10 * v82682 - 5280)) (by unfold w32; omega) ?_
                      refine ev_aload_n rfl ?_
                      refine ev_iload_n rfl ?_
                      refine ev_in (d := 1) (a := 0) (b := 0) (cd' := c264_0) (m := 2) (L0 := [(2, 42), (0, (a1 + 2))]) (jcall_v (A := [(0, (a1 + 2))]) (S' := [(0, (100 * v82638 + 10 * v82682 - 5280))]) (r := 42) rfl (g.lt ad42) (g.tg ad42) (Nat.le_of_ble_eq_true rfl)) (by decide) ml264 pp264 (Nat.le_of_ble_eq_true rfl) rfl (by decide) (by decide) ?_
                      refine ev_iload_n rfl ?_
                      refine ev_aload_n rfl ?_
                      refine g_getv (r := 42) (v := w2) g ad42 (by decide) ft12_17 (ew2) ?_
                      refine ev_icmpge f264_17 (fun c82816 => absurd c82816 (by omega)) (fun c82816 => ?_)
                      refine ev_aload_n rfl ?_
                      refine g_getp (r := 42) (c := 54) g ad42 (by decide) (by decide) rf42_16 ft12_16 ?_
                      refine ev_iload_n rfl ?_
                      refine g_baldv (v := v82763) g ad54 (by omega) (by omega) (ev82763) ?_
                      refine ev_goto f264_18 ?_
                      refine ev_ret rfl (by decide) (by decide) ?_
                      show jEv _ _ _ _ _ _ _ (_, [(2, 42), (0, a1), (0, 1), (0, (a1 + 2)), (0, 0), (0, (10 * v82638 + v82682 - 528)), (0, 2)], [(0, v82763), (0, (100 * v82638 + 10 * v82682 - 5280))], _, _, _)
                      refine ev_iadd (r := (100 * v82638 + 10 * v82682 + v82763 - 5280)) (by unfold w32; omega) ?_
                      refine ev_bipush ?_
                      refine ev_isub (r := (100 * v82638 + 10 * v82682 + v82763 - 5328)) (by unfold w32; omega) ?_
                      refine ev_istore (L' := [(2, 42), (0, a1), (0, 1), (0, (a1 + 2)), (0, 0), (0, (100 * v82638 + 10 * v82682 + v82763 - 5328)), (0, 2)]) (Nat.le_of_ble_eq_true rfl) rfl ?_
                      refine ev_iinc (w := 3) (L' := [(2, 42), (0, a1), (0, 1), (0, (a1 + 2)), (0, 0), (0, (100 * v82638 + 10 * v82682 + v82763 - 5328)), (0, 3)]) rfl (by decide) rfl ?_
                      refine ev_iinc (w := (a1 + 3)) (L' := [(2, 42), (0, a1), (0, 1), (0, (a1 + 3)), (0, 0), (0, (100 * v82638 + 10 * v82682 + v82763 - 5328)), (0, 3)]) rfl (by unfold w32; omega) rfl ?_
                      refine ev_goto f269_47 ?_
                      refine ev_iload rfl ?_
                      refine ev_iconst ?_
                      refine ev_icmpge f269_86 (fun c82817 => ?_) (fun c82817 => absurd c82817 (by omega))
                      refine ev_aload_n rfl ?_
                      refine ev_iload_n rfl ?_
                      refine ev_in (d := 1) (a := 0) (b := 0) (cd' := c265_0) (m := 2) (L0 := [(2, 42), (0, (a1 + 3))]) (jcall_v (A := [(0, (a1 + 3))]) (S' := []) (r := 42) rfl (g.lt ad42) (g.tg ad42) (Nat.le_of_ble_eq_true rfl)) (by decide) ml265 pp265 (Nat.le_of_ble_eq_true rfl) rfl (by decide) (by decide) ?_
                      refine ev_aload_n rfl ?_
                      refine ev_iload_n rfl ?_
                      refine ev_in (d := 0) (a := 0) (b := 0) (cd' := c264_0) (m := 2) (L0 := [(2, 42), (0, (a1 + 3))]) (jcall_v (A := [(0, (a1 + 3))]) (S' := []) (r := 42) rfl (g.lt ad42) (g.tg ad42) (Nat.le_of_ble_eq_true rfl)) (by decide) ml264 pp264 (Nat.le_of_ble_eq_true rfl) rfl (by decide) (by decide) ?_
                      refine ev_iload_n rfl ?_
                      refine ev_aload_n rfl ?_
                      refine g_getv (r := 42) (v := w2) g ad42 (by decide) ft12_17 (ew2) ?_
                      refine ev_icmpge f264_17 (fun c82818 => ?_) (fun c82818 => ?_)
                      · refine ev_iconst ?_
                        refine ev_ret rfl (by decide) (by decide) ?_
                        show jEv _ _ _ _ _ _ _ (_, [(2, 42), (0, (a1 + 3))], [(0, (-1))], _, _, _)
                        refine ev_bipush ?_
                        refine ev_bipush ?_
                        refine ev_in (d := 0) (a := 0) (b := 0) (cd' := c242_0) (m := 3) (L0 := [(0, (-1)), (0, 48), (0, 57)]) (jcall_s (A := [(0, 57), (0, 48), (0, (-1))]) (S' := []) (by decide) rfl (Nat.le_of_ble_eq_true rfl)) (by decide) ml242 pp242 (Nat.le_of_ble_eq_true rfl) rfl (by decide) (by decide) ?_
                        refine ev_iload_n rfl ?_
                        refine ev_iload_n rfl ?_
                        refine ev_icmplt f242_14 (fun c82819 => ?_) (fun c82819 => absurd c82819 (by omega))
                        refine ev_iconst ?_
                        refine ev_ret rfl (by decide) (by decide) ?_
                        show jEv _ _ _ _ _ _ _ (_, [(2, 42), (0, (a1 + 3))], [(0, 0)], _, _, _)
                        refine ev_ret rfl (by decide) (by decide) ?_
                        show jEv _ _ _ _ _ _ _ (_, [(2, 42), (0, a1), (0, 1), (0, (a1 + 3)), (0, 0), (0, (100 * v82638 + 10 * v82682 + v82763 - 5328)), (0, 3)], [(0, 0)], _, _, _)
                        refine ev_ifeq f269_100 (fun c82820 => ?_) (fun c82820 => absurd c82820 (by omega))
                        refine ev_aload_n rfl ?_
                        refine ev_iload_n rfl ?_
                        refine ev_iconst ?_
                        refine ev_iload rfl ?_
                        refine ev_ifeq f269_114 (fun c82821 => ?_) (fun c82821 => absurd c82821 (by omega))
                        refine ev_iload rfl ?_
                        refine ev_in (d := 1) (a := 0) (b := 0) (cd' := c267_0) (m := 6) (L0 := [(2, 42), (0, 1), (0, 0), (0, (100 * v82638 + 10 * v82682 + v82763 - 5328)), (9, 0), (9, 0)]) (jcall_v (A := [(0, (100 * v82638 + 10 * v82682 + v82763 - 5328)), (0, 0), (0, 1)]) (S' := []) (r := 42) rfl (g.lt ad42) (g.tg ad42) (Nat.le_of_ble_eq_true rfl)) (by decide) ml267 pp267 (Nat.le_of_ble_eq_true rfl) rfl (by decide) (by decide) ?_
                        refine ev_iload_n rfl ?_
                        refine ev_ifne f267_6 (fun c82822 => ?_) (fun c82822 => absurd c82822 (by omega))
                        refine ev_aload_n rfl ?_
                        refine ev_dup (by decide) ?_
                        refine g_getv (r := 42) (v := w1) g ad42 (by decide) ft12_21 (ew1) ?_
                        refine ev_iconst ?_
                        refine ev_iadd (r := (w1 + 1)) (by unfold w32; omega) ?_
                        refine g_putf (r := 42) g ad42 (by decide) ft12_21 (by decide) (fun e => absurd e nz12_21) rf42_21 (by decide) (by omega) (by omega) (fun h82823 e82823 g82823 => ?_)
                        have k82823 := k0.wr e82823 rfl
                        refine ev_aload_n rfl ?_
                        refine g_getv (r := 42) (v := (w1 + 1)) g82823 ad42 (by decide) ft12_21 ((jw_eq e82823)) ?_
                        refine ev_bipush ?_
                        refine ev_icmple f267_27 (fun c82824 => ?_) (fun c82824 => absurd c82824 (by omega))
                        refine ev_bipush ?_
                        refine ev_aload_n rfl ?_
                        refine g_getv (r := 42) (v := w0) g82823 ad42 (by decide) ft12_9 (((jw_ne e82823 (Or.inr (by decide))).trans ew0)) ?_
                        refine ev_imul (r := (100 * w0)) (by unfold w32; omega) ?_
                        refine ev_aload_n rfl ?_
                        refine g_getv (r := 42) (v := (w1 + 1)) g82823 ad42 (by decide) ft12_21 ((jw_eq e82823)) ?_
                        refine ev_iadd (r := (100 * w0 + w1 + 1)) (by unfold w32; omega) ?_
                        refine ev_iconst ?_
                        refine ev_isub (r := (100 * w0 + w1)) (by unfold w32; omega) ?_
                        refine ev_istore (L' := [(2, 42), (0, 1), (0, 0), (0, (100 * v82638 + 10 * v82682 + v82763 - 5328)), (0, (100 * w0 + w1)), (9, 0)]) (Nat.le_of_ble_eq_true rfl) rfl ?_
                        refine ev_aload_n rfl ?_
                        refine g_getp (r := 42) (c := 49) g82823 ad42 (by decide) (by decide) rf42_11 ft12_11 ?_
                        refine ev_iload rfl ?_
                        refine ev_iload_n rfl ?_
                        refine ev_i2b (r := 0) (by unfold w8; omega) ?_
                        refine ev_bastG (r := 49) (j := ((100 * w0 + w1)).toNat) (w := 0) (g82823.lt ad49) (g82823.tg ad49) (by omega) (by rw [g82823.ln ad49]; omega) (by unfold w8; omega) (fun h82825 e82825 => ?_)
                        have g82825 := g82823.s49 e82825 (by rw [(((jw_ne e82823 (Or.inr (by decide))).trans ew0))]; omega) (by omega) (by omega)
                        have k82825 := k82823.wr e82825 rfl
                        refine ev_aload_n rfl ?_
                        refine g_getp (r := 42) (c := 50) g82825 ad42 (by decide) (by decide) rf42_12 ft12_12 ?_
                        refine ev_iload rfl ?_
                        refine ev_iload_n rfl ?_
                        refine ev_iastG (r := 50) (j := ((100 * w0 + w1)).toNat) (g82825.lt ad50) (g82825.tg ad50) (by omega) (by rw [g82825.ln ad50]; omega) (fun h82826 e82826 => ?_)
                        have g82826 := g82825.s50 e82826 (Or.inl (by rw [(((jw_ne e82825 (Or.inl (by decide))).trans ((jw_ne e82823 (Or.inr (by decide))).trans ew0)))]; omega)) (by omega) (by omega)
                        have k82826 := k82825.wr e82826 rfl
                        refine ev_aload_n rfl ?_
                        refine g_getp (r := 42) (c := 53) g82826 ad42 (by decide) (by decide) rf42_15 ft12_15 ?_
                        refine ev_iload rfl ?_
                        refine ev_iconst ?_
                        refine ev_bastG (r := 53) (j := ((100 * w0 + w1)).toNat) (w := 0) (g82826.lt ad53) (g82826.tg ad53) (by omega) (by rw [g82826.ln ad53]; omega) (by unfold w8; omega) (fun h82827 e82827 => ?_)
                        have g82827 := g82826.s53 e82827 (Or.inl (by rw [(((jw_ne e82826 (Or.inl (by decide))).trans ((jw_ne e82825 (Or.inl (by decide))).trans ((jw_ne e82823 (Or.inr (by decide))).trans ew0))))]; omega)) (by omega) (by omega)
                        have k82827 := k82826.wr e82827 rfl
                        refine ev_iconst ?_
                        refine ev_istore (L' := [(2, 42), (0, 1), (0, 0), (0, (100 * v82638 + 10 * v82682 + v82763 - 5328)), (0, (100 * w0 + w1)), (0, 0)]) (Nat.le_of_ble_eq_true rfl) rfl ?_
                        refine ev_iload rfl ?_
                        refine ev_iconst ?_
                        refine ev_icmpge f267_109 (fun c82828 => absurd c82828 (by omega)) (fun c82828 => ?_)
                        refine ev_aload_n rfl ?_
                        refine g_getp (r := 42) (c := 51) g82827 ad42 (by decide) (by decide) rf42_13 ft12_13 ?_
                        refine ev_iconst ?_
                        refine ev_iload rfl ?_
                        refine ev_imul (r := (400 * w0 + 4 * w1)) (by unfold w32; omega) ?_
                        refine ev_iload rfl ?_
                        refine ev_iadd (r := (400 * w0 + 4 * w1)) (by unfold w32; omega) ?_
                        refine ev_iconst ?_
                        refine ev_bastG (r := 51) (j := ((400 * w0 + 4 * w1)).toNat) (w := (-1)) (g82827.lt ad51) (g82827.tg ad51) (by omega) (by rw [g82827.ln ad51]; omega) (by unfold w8; omega) (fun h82829 e82829 => ?_)
                        have g82829 := g82827.s51 e82829 (by rw [(((jw_ne e82827 (Or.inl (by decide))).trans ((jw_ne e82826 (Or.inl (by decide))).trans ((jw_ne e82825 (Or.inl (by decide))).trans ((jw_ne e82823 (Or.inr (by decide))).trans ew0)))))]; omega) (by omega) (by omega)
                        have k82829 := k82827.wr e82829 rfl
                        refine ev_aload_n rfl ?_
                        refine g_getp (r := 42) (c := 52) g82829 ad42 (by decide) (by decide) rf42_14 ft12_14 ?_
                        refine ev_iconst ?_
                        refine ev_iload rfl ?_
                        refine ev_imul (r := (400 * w0 + 4 * w1)) (by unfold w32; omega) ?_
                        refine ev_iload rfl ?_
                        refine ev_iadd (r := (400 * w0 + 4 * w1)) (by unfold w32; omega) ?_
                        refine ev_iconst ?_
                        refine g_iast g82829 ad52 rt52 (fun _ => rfl) (by omega) (by omega) (by omega) (by omega) (fun h82830 e82830 g82830 => ?_)
                        have k82830 := k82829.wr e82830 rfl
                        refine ev_iinc (w := 1) (L' := [(2, 42), (0, 1), (0, 0), (0, (100 * v82638 + 10 * v82682 + v82763 - 5328)), (0, (100 * w0 + w1)), (0, 1)]) rfl (by decide) rfl ?_
                        refine ev_goto f267_71 ?_
                        refine ev_iload rfl ?_
                        refine ev_iconst ?_
                        refine ev_icmpge f267_109 (fun c82831 => absurd c82831 (by omega)) (fun c82831 => ?_)
                        refine ev_aload_n rfl ?_
                        refine g_getp (r := 42) (c := 51) g82830 ad42 (by decide) (by decide) rf42_13 ft12_13 ?_
                        refine ev_iconst ?_
                        refine ev_iload rfl ?_
                        refine ev_imul (r := (400 * w0 + 4 * w1)) (by unfold w32; omega) ?_
                        refine ev_iload rfl ?_
                        refine ev_iadd (r := (400 * w0 + 4 * w1 + 1)) (by unfold w32; omega) ?_
                        refine ev_iconst ?_
                        refine ev_bastG (r := 51) (j := ((400 * w0 + 4 * w1 + 1)).toNat) (w := (-1)) (g82830.lt ad51) (g82830.tg ad51) (by omega) (by rw [g82830.ln ad51]; omega) (by unfold w8; omega) (fun h82832 e82832 => ?_)
                        have g82832 := g82830.s51 e82832 (by rw [(((jw_ne e82830 (Or.inl (by decide))).trans ((jw_ne e82829 (Or.inl (by decide))).trans ((jw_ne e82827 (Or.inl (by decide))).trans ((jw_ne e82826 (Or.inl (by decide))).trans ((jw_ne e82825 (Or.inl (by decide))).trans ((jw_ne e82823 (Or.inr (by decide))).trans ew0)))))))]; omega) (by omega) (by omega)
                        have k82832 := k82830.wr e82832 rfl
                        refine ev_aload_n rfl ?_
                        refine g_getp (r := 42) (c := 52) g82832 ad42 (by decide) (by decide) rf42_14 ft12_14 ?_
                        refine ev_iconst ?_
                        refine ev_iload rfl ?_
                        refine ev_imul (r := (400 * w0 + 4 * w1)) (by unfold w32; omega) ?_
                        refine ev_iload rfl ?_
                        refine ev_iadd (r := (400 * w0 + 4 * w1 + 1)) (by unfold w32; omega) ?_
                        refine ev_iconst ?_
                        refine g_iast g82832 ad52 rt52 (fun _ => rfl) (by omega) (by omega) (by omega) (by omega) (fun h82833 e82833 g82833 => ?_)
                        have k82833 := k82832.wr e82833 rfl
                        refine ev_iinc (w := 2) (L' := [(2, 42), (0, 1), (0, 0), (0, (100 * v82638 + 10 * v82682 + v82763 - 5328)), (0, (100 * w0 + w1)), (0, 2)]) rfl (by decide) rfl ?_
                        refine ev_goto f267_71 ?_
                        refine ev_iload rfl ?_
                        refine ev_iconst ?_
                        refine ev_icmpge f267_109 (fun c82834 => absurd c82834 (by omega)) (fun c82834 => ?_)
                        refine ev_aload_n rfl ?_
                        refine g_getp (r := 42) (c := 51) g82833 ad42 (by decide) (by decide) rf42_13 ft12_13 ?_
                        refine ev_iconst ?_
                        refine ev_iload rfl ?_
                        refine ev_imul (r := (400 * w0 + 4 * w1)) (by unfold w32; omega) ?_
                        refine ev_iload rfl ?_
                        refine ev_iadd (r := (400 * w0 + 4 * w1 + 2)) (by unfold w32; omega) ?_
                        refine ev_iconst ?_
                        refine ev_bastG (r := 51) (j := ((400 * w0 + 4 * w1 + 2)).toNat) (w := (-1)) (g82833.lt ad51) (g82833.tg ad51) (by omega) (by rw [g82833.ln ad51]; omega) (by unfold w8; omega) (fun h82835 e82835 => ?_)
                        have g82835 := g82833.s51 e82835 (by rw [(((jw_ne e82833 (Or.inl (by decide))).trans ((jw_ne e82832 (Or.inl (by decide))).trans ((jw_ne e82830 (Or.inl (by decide))).trans ((jw_ne e82829 (Or.inl (by decide))).trans ((jw_ne e82827 (Or.inl (by decide))).trans ((jw_ne e82826 (Or.inl (by decide))).trans ((jw_ne e82825 (Or.inl (by decide))).trans ((jw_ne e82823 (Or.inr (by decide))).trans ew0)))))))))]; omega) (by omega) (by omega)
                        have k82835 := k82833.wr e82835 rfl
                        refine ev_aload_n rfl ?_
                        refine g_getp (r := 42) (c := 52) g82835 ad42 (by decide) (by decide) rf42_14 ft12_14 ?_
                        refine ev_iconst ?_
                        refine ev_iload rfl ?_
                        refine ev_imul (r := (400 * w0 + 4 * w1)) (by unfold w32; omega) ?_
                        refine ev_iload rfl ?_
                        refine ev_iadd (r := (400 * w0 + 4 * w1 + 2)) (by unfold w32; omega) ?_
                        refine ev_iconst ?_
                        refine g_iast g82835 ad52 rt52 (fun _ => rfl) (by omega) (by omega) (by omega) (by omega) (fun h82836 e82836 g82836 => ?_)
                        have k82836 := k82835.wr e82836 rfl
                        refine ev_iinc (w := 3) (L' := [(2, 42), (0, 1), (0, 0), (0, (100 * v82638 + 10 * v82682 + v82763 - 5328)), (0, (100 * w0 + w1)), (0, 3)]) rfl (by decide) rfl ?_
                        refine ev_goto f267_71 ?_
                        refine ev_iload rfl ?_
                        refine ev_iconst ?_
                        refine ev_icmpge f267_109 (fun c82837 => absurd c82837 (by omega)) (fun c82837 => ?_)
                        refine ev_aload_n rfl ?_
                        refine g_getp (r := 42) (c := 51) g82836 ad42 (by decide) (by decide) rf42_13 ft12_13 ?_
                        refine ev_iconst ?_
                        refine ev_iload rfl ?_
                        refine ev_imul (r := (400 * w0 + 4 * w1)) (by unfold w32; omega) ?_
                        refine ev_iload rfl ?_
                        refine ev_iadd (r := (400 * w0 + 4 * w1 + 3)) (by unfold w32; omega) ?_
                        refine ev_iconst ?_
                        refine ev_bastG (r := 51) (j := ((400 * w0 + 4 * w1 + 3)).toNat) (w := (-1)) (g82836.lt ad51) (g82836.tg ad51) (by omega) (by rw [g82836.ln ad51]; omega) (by unfold w8; omega) (fun h82838 e82838 => ?_)
                        have g82838 := g82836.s51 e82838 (by rw [(((jw_ne e82836 (Or.inl (by decide))).trans ((jw_ne e82835 (Or.inl (by decide))).trans ((jw_ne e82833 (Or.inl (by decide))).trans ((jw_ne e82832 (Or.inl (by decide))).trans ((jw_ne e82830 (Or.inl (by decide))).trans ((jw_ne e82829 (Or.inl (by decide))).trans ((jw_ne e82827 (Or.inl (by decide))).trans ((jw_ne e82826 (Or.inl (by decide))).trans ((jw_ne e82825 (Or.inl (by decide))).trans ((jw_ne e82823 (Or.inr (by decide))).trans ew0)))))))))))]; omega) (by omega) (by omega)
                        have k82838 := k82836.wr e82838 rfl
                        refine ev_aload_n rfl ?_
                        refine g_getp (r := 42) (c := 52) g82838 ad42 (by decide) (by decide) rf42_14 ft12_14 ?_
                        refine ev_iconst ?_
                        refine ev_iload rfl ?_
                        refine ev_imul (r := (400 * w0 + 4 * w1)) (by unfold w32; omega) ?_
                        refine ev_iload rfl ?_
                        refine ev_iadd (r := (400 * w0 + 4 * w1 + 3)) (by unfold w32; omega) ?_
                        refine ev_iconst ?_
                        refine g_iast g82838 ad52 rt52 (fun _ => rfl) (by omega) (by omega) (by omega) (by omega) (fun h82839 e82839 g82839 => ?_)
                        have k82839 := k82838.wr e82839 rfl
                        refine ev_iinc (w := 4) (L' := [(2, 42), (0, 1), (0, 0), (0, (100 * v82638 + 10 * v82682 + v82763 - 5328)), (0, (100 * w0 + w1)), (0, 4)]) rfl (by decide) rfl ?_
                        refine ev_goto f267_71 ?_
                        refine ev_iload rfl ?_
                        refine ev_iconst ?_
                        refine ev_icmpge f267_109 (fun c82840 => ?_) (fun c82840 => absurd c82840 (by omega))
                        refine ev_iload rfl ?_
                        refine ev_ret rfl (by decide) (by decide) ?_
                        show jEv _ _ _ _ _ _ _ (_, [(2, 42), (0, a1), (0, 1), (0, (a1 + 3)), (0, 0), (0, (100 * v82638 + 10 * v82682 + v82763 - 5328)), (0, 3)], [(0, (100 * w0 + w1))], _, _, _)
                        refine ev_pop (by decide) ?_
                        refine ev_iload_n rfl ?_
                        exact ev_ret rfl (by decide) (by decide) ⟨⟨_, rfl, by omega, by omega, g82839, k82839⟩, fun r hr h0 => by cases hr; exact (Ad.step (r' := (a1 + 3)) (Ad.step (r' := (a1 + 2)) (Ad.step (r' := (a1 + 1)) (Ad.rf _ _ _) (by omega) k82839 (fun _ => rfl) (((jw_ne e82839 (Or.inl (by decide))).trans ((jw_ne e82838 (Or.inl (by decide))).trans ((jw_ne e82836 (Or.inl (by decide))).trans ((jw_ne e82835 (Or.inl (by decide))).trans ((jw_ne e82833 (Or.inl (by decide))).trans ((jw_ne e82832 (Or.inl (by decide))).trans ((jw_ne e82830 (Or.inl (by decide))).trans ((jw_ne e82829 (Or.inl (by decide))).trans ((jw_ne e82827 (Or.inl (by decide))).trans ((jw_ne e82826 (Or.inl (by decide))).trans ((jw_ne e82825 (Or.inl (by decide))).trans ((jw_ne e82823 (Or.inl (by decide))).trans ev82638))))))))))))) (by omega) (by omega) (by omega)) (by omega) k82839 (fun _ => rfl) (((jw_ne e82839 (Or.inl (by decide))).trans ((jw_ne e82838 (Or.inl (by decide))).trans ((jw_ne e82836 (Or.inl (by decide))).trans ((jw_ne e82835 (Or.inl (by decide))).trans ((jw_ne e82833 (Or.inl (by decide))).trans ((jw_ne e82832 (Or.inl (by decide))).trans ((jw_ne e82830 (Or.inl (by decide))).trans ((jw_ne e82829 (Or.inl (by decide))).trans ((jw_ne e82827 (Or.inl (by decide))).trans ((jw_ne e82826 (Or.inl (by decide))).trans ((jw_ne e82825 (Or.inl (by decide))).trans ((jw_ne e82823 (Or.inl (by decide))).trans ev82682))))))))))))) (by omega) (by omega) (by omega)) (by omega) k82839 (fun _ => rfl) (((jw_ne e82839 (Or.inl (by decide))).trans ((jw_ne e82838 (Or.inl (by decide))).trans ((jw_ne e82836 (Or.inl (by decide))).trans ((jw_ne e82835 (Or.inl (by decide))).trans ((jw_ne e82833 (Or.inl (by decide))).trans ((jw_ne e82832 (Or.inl (by decide))).trans ((jw_ne e82830 (Or.inl (by decide))).trans ((jw_ne e82829 (Or.inl (by decide))).trans ((jw_ne e82827 (Or.inl (by decide))).trans ((jw_ne e82826 (Or.inl (by decide))).trans ((jw_ne e82825 (Or.inl (by decide))).trans ((jw_ne e82823 (Or.inl (by decide))).trans ev82763))))))))))))) (by omega) (by omega) (by omega)), fun r hr => by cases hr; exact ⟨_, (((jw_ne e82839 (Or.inl (by decide))).trans ((jw_ne e82838 (Or.inl (by decide))).trans ((jw_ne e82836 (Or.inl (by decide))).trans ((jw_ne e82835 (Or.inl (by decide))).trans ((jw_ne e82833 (Or.inl (by decide))).trans ((jw_ne e82832 (Or.inl (by decide))).trans ((jw_ne e82830 (Or.inl (by decide))).trans ((jw_ne e82829 (Or.inl (by decide))).trans ((jw_ne e82827 (Or.inl (by decide))).trans ((jw_ne e82826 (Or.inl (by decide))).trans ((jw_ne e82825 (Or.inl (by decide))).trans (jw_eq e82823))))))))))))), by omega, by omega, (Fr.kp (Fr.w (i := (400 * w0 + 4 * w1 + 3)) (Fr.kp (Fr.w (i := (400 * w0 + 4 * w1 + 2)) (Fr.kp (Fr.w (i := (400 * w0 + 4 * w1 + 1)) (Fr.kp (Fr.w (i := (400 * w0 + 4 * w1)) (Fr.w (i := (100 * w0 + w1)) (Fr.w (i := (100 * w0 + w1)) (Fr.w (i := (100 * w0 + w1)) (Fr.kp (Fr.rf _ _) ((Kp.rf [(42, 0)] _).wr e82823 rfl) (fun _ => rfl) (fun _ => rfl) (fun _ => rfl) (fun _ => rfl)) e82825 (by omega) (by omega)) e82826 (by omega) (by omega)) e82827 (by omega) (by omega)) e82829 (by omega) (by omega)) ((Kp.rf [(52, 0)] _).wr e82830 rfl) (fun _ => rfl) (fun _ => rfl) (fun _ => rfl) (fun _ => rfl)) e82832 (by omega) (by omega)) ((Kp.rf [(52, 0)] _).wr e82833 rfl) (fun _ => rfl) (fun _ => rfl) (fun _ => rfl) (fun _ => rfl)) e82835 (by omega) (by omega)) ((Kp.rf [(52, 0)] _).wr e82836 rfl) (fun _ => rfl) (fun _ => rfl) (fun _ => rfl) (fun _ => rfl)) e82838 (by omega) (by omega)) ((Kp.rf [(52, 0)] _).wr e82839 rfl) (fun _ => rfl) (fun _ => rfl) (fun _ => rfl) (fun _ => rfl)), fun h0 => by omega, fun h0 hm => Tr.end (i := (100 * w0 + w1)) (by omega) (by omega) (by omega) (((jw_ne e82839 (Or.inl (by decide))).trans ((jw_ne e82838 (Or.inl (by decide))).trans ((jw_ne e82836 (Or.inl (by decide))).trans ((jw_ne e82835 (Or.inl (by decide))).trans ((jw_ne e82833 (Or.inl (by decide))).trans ((jw_ne e82832 (Or.inl (by decide))).trans ((jw_ne e82830 (Or.inl (by decide))).trans ((jw_ne e82829 (Or.inl (by decide))).trans ((jw_ne e82827 (Or.inl (by decide))).trans ((jw_ne e82826 (Or.inl (by decide))).trans (jw_eq e82825)))))))))))) (by omega) (by omega)⟩, fun r hr => by cases hr; exact okM (show (if bR h a1 = 45 then enR (bR h) (a1 + 1) else enR (bR h) a1) = ((a1 + 3), 0, 0, 1) by rw [if_neg (fun z => absurd ((bR_at (p := a1) k82839 (fun _ => rfl) ew2 (((jw_ne e82839 (Or.inl (by decide))).trans ((jw_ne e82838 (Or.inl (by decide))).trans ((jw_ne e82836 (Or.inl (by decide))).trans ((jw_ne e82835 (Or.inl (by decide))).trans ((jw_ne e82833 (Or.inl (by decide))).trans ((jw_ne e82832 (Or.inl (by decide))).trans ((jw_ne e82830 (Or.inl (by decide))).trans ((jw_ne e82829 (Or.inl (by decide))).trans ((jw_ne e82827 (Or.inl (by decide))).trans ((jw_ne e82826 (Or.inl (by decide))).trans ((jw_ne e82825 (Or.inl (by decide))).trans ((jw_ne e82823 (Or.inl (by decide))).trans ev82638))))))))))))) (by omega) (by omega)).symm.trans z) (by omega))]; unfold enR; rw [show nm3 (bR h) a1 = (a1 + 3) by unfold nm3; rw [(bR_at (p := a1) k82839 (fun _ => rfl) ew2 (((jw_ne e82839 (Or.inl (by decide))).trans ((jw_ne e82838 (Or.inl (by decide))).trans ((jw_ne e82836 (Or.inl (by decide))).trans ((jw_ne e82835 (Or.inl (by decide))).trans ((jw_ne e82833 (Or.inl (by decide))).trans ((jw_ne e82832 (Or.inl (by decide))).trans ((jw_ne e82830 (Or.inl (by decide))).trans ((jw_ne e82829 (Or.inl (by decide))).trans ((jw_ne e82827 (Or.inl (by decide))).trans ((jw_ne e82826 (Or.inl (by decide))).trans ((jw_ne e82825 (Or.inl (by decide))).trans ((jw_ne e82823 (Or.inl (by decide))).trans ev82638))))))))))))) (by omega) (by omega)), (bR_at (p := (a1 + 1)) k82839 (fun _ => rfl) ew2 (((jw_ne e82839 (Or.inl (by decide))).trans ((jw_ne e82838 (Or.inl (by decide))).trans ((jw_ne e82836 (Or.inl (by decide))).trans ((jw_ne e82835 (Or.inl (by decide))).trans ((jw_ne e82833 (Or.inl (by decide))).trans ((jw_ne e82832 (Or.inl (by decide))).trans ((jw_ne e82830 (Or.inl (by decide))).trans ((jw_ne e82829 (Or.inl (by decide))).trans ((jw_ne e82827 (Or.inl (by decide))).trans ((jw_ne e82826 (Or.inl (by decide))).trans ((jw_ne e82825 (Or.inl (by decide))).trans ((jw_ne e82823 (Or.inl (by decide))).trans ev82682))))))))))))) (by omega) (by omega)), (bR_at (p := (a1 + 2)) k82839 (fun _ => rfl) ew2 (((jw_ne e82839 (Or.inl (by decide))).trans ((jw_ne e82838 (Or.inl (by decide))).trans ((jw_ne e82836 (Or.inl (by decide))).trans ((jw_ne e82835 (Or.inl (by decide))).trans ((jw_ne e82833 (Or.inl (by decide))).trans ((jw_ne e82832 (Or.inl (by decide))).trans ((jw_ne e82830 (Or.inl (by decide))).trans ((jw_ne e82829 (Or.inl (by decide))).trans ((jw_ne e82827 (Or.inl (by decide))).trans ((jw_ne e82826 (Or.inl (by decide))).trans ((jw_ne e82825 (Or.inl (by decide))).trans ((jw_ne e82823 (Or.inl (by decide))).trans ev82763))))))))))))) (by omega) (by omega))]; (repeat' split) <;> omega, if_neg (by omega)]) (by omega) (by omega) (((jw_ne e82839 (Or.inl (by decide))).trans ((jw_ne e82838 (Or.inl (by decide))).trans ((jw_ne e82836 (Or.inl (by decide))).trans ((jw_ne e82835 (Or.inl (by decide))).trans ((jw_ne e82833 (Or.inl (by decide))).trans ((jw_ne e82832 (Or.inl (by decide))).trans ((jw_ne e82830 (Or.inl (by decide))).trans ((jw_ne e82829 (Or.inl (by decide))).trans ((jw_ne e82827 (Or.inl (by decide))).trans ((jw_ne e82826 (Or.inl (by decide))).trans ((jw_ne e82825 (Or.inl (by decide))).trans (jw_eq e82823))))))))))))) (by omega)⟩
                      · refine ev_aload_n rfl ?_
                        refine g_getp (r := 42) (c := 54) g ad42 (by decide) (by decide) rf42_16 ft12_16 ?_
                        refine ev_iload_n rfl ?_
                        refine g_bald g ad54 rt54 (by omega) (by omega) (fun v82841 ev82841 lv82841 uv82841 => ?_)
                        refine ev_goto f264_18 ?_
                        refine ev_ret rfl (by decide) (by decide) ?_
                        show jEv _ _ _ _ _ _ _ (_, [(2, 42), (0, (a1 + 3))], [(0, v82841)], _, _, _)
                        refine ev_bipush ?_
                        refine ev_bipush ?_
                        refine ev_in (d := 0) (a := 0) (b := 0) (cd' := c242_0) (m := 3) (L0 := [(0, v82841), (0, 48), (0, 57)]) (jcall_s (A := [(0, 57), (0, 48), (0, v82841)]) (S' := []) (by decide) rfl (Nat.le_of_ble_eq_true rfl)) (by decide) ml242 pp242 (Nat.le_of_ble_eq_true rfl) rfl (by decide) (by decide) ?_
                        refine ev_iload_n rfl ?_
                        refine ev_iload_n rfl ?_
                        refine ev_icmplt f242_14 (fun c82842 => ?_) (fun c82842 => ?_)
                        · refine ev_iconst ?_
                          refine ev_ret rfl (by decide) (by decide) ?_
                          show jEv _ _ _ _ _ _ _ (_, [(2, 42), (0, (a1 + 3))], [(0, 0)], _, _, _)
                          refine ev_ret rfl (by decide) (by decide) ?_
                          show jEv _ _ _ _ _ _ _ (_, [(2, 42), (0, a1), (0, 1), (0, (a1 + 3)), (0, 0), (0, (100 * v82638 + 10 * v82682 + v82763 - 5328)), (0, 3)], [(0, 0)], _, _, _)
                          refine ev_ifeq f269_100 (fun c82843 => ?_) (fun c82843 => absurd c82843 (by omega))
                          refine ev_aload_n rfl ?_
                          refine ev_iload_n rfl ?_
                          refine ev_iconst ?_
                          refine ev_iload rfl ?_
                          refine ev_ifeq f269_114 (fun c82844 => ?_) (fun c82844 => absurd c82844 (by omega))
                          refine ev_iload rfl ?_
                          refine ev_in (d := 1) (a := 0) (b := 0) (cd' := c267_0) (m := 6) (L0 := [(2, 42), (0, 1), (0, 0), (0, (100 * v82638 + 10 * v82682 + v82763 - 5328)), (9, 0), (9, 0)]) (jcall_v (A := [(0, (100 * v82638 + 10 * v82682 + v82763 - 5328)), (0, 0), (0, 1)]) (S' := []) (r := 42) rfl (g.lt ad42) (g.tg ad42) (Nat.le_of_ble_eq_true rfl)) (by decide) ml267 pp267 (Nat.le_of_ble_eq_true rfl) rfl (by decide) (by decide) ?_
                          refine ev_iload_n rfl ?_
                          refine ev_ifne f267_6 (fun c82845 => ?_) (fun c82845 => absurd c82845 (by omega))
                          refine ev_aload_n rfl ?_
                          refine ev_dup (by decide) ?_
                          refine g_getv (r := 42) (v := w1) g ad42 (by decide) ft12_21 (ew1) ?_
                          refine ev_iconst ?_
                          refine ev_iadd (r := (w1 + 1)) (by unfold w32; omega) ?_
                          refine g_putf (r := 42) g ad42 (by decide) ft12_21 (by decide) (fun e => absurd e nz12_21) rf42_21 (by decide) (by omega) (by omega) (fun h82846 e82846 g82846 => ?_)
                          have k82846 := k0.wr e82846 rfl
                          refine ev_aload_n rfl ?_
                          refine g_getv (r := 42) (v := (w1 + 1)) g82846 ad42 (by decide) ft12_21 ((jw_eq e82846)) ?_
                          refine ev_bipush ?_
                          refine ev_icmple f267_27 (fun c82847 => ?_) (fun c82847 => absurd c82847 (by omega))
                          refine ev_bipush ?_
                          refine ev_aload_n rfl ?_
                          refine g_getv (r := 42) (v := w0) g82846 ad42 (by decide) ft12_9 (((jw_ne e82846 (Or.inr (by decide))).trans ew0)) ?_
                          refine ev_imul (r := (100 * w0)) (by unfold w32; omega) ?_
                          refine ev_aload_n rfl ?_
                          refine g_getv (r := 42) (v := (w1 + 1)) g82846 ad42 (by decide) ft12_21 ((jw_eq e82846)) ?_
                          refine ev_iadd (r := (100 * w0 + w1 + 1)) (by unfold w32; omega) ?_
                          refine ev_iconst ?_
                          refine ev_isub (r := (100 * w0 + w1)) (by unfold w32; omega) ?_
                          refine ev_istore (L' := [(2, 42), (0, 1), (0, 0), (0, (100 * v82638 + 10 * v82682 + v82763 - 5328)), (0, (100 * w0 + w1)), (9, 0)]) (Nat.le_of_ble_eq_true rfl) rfl ?_
                          refine ev_aload_n rfl ?_
                          refine g_getp (r := 42) (c := 49) g82846 ad42 (by decide) (by decide) rf42_11 ft12_11 ?_
                          refine ev_iload rfl ?_
                          refine ev_iload_n rfl ?_
                          refine ev_i2b (r := 0) (by unfold w8; omega) ?_
                          refine ev_bastG (r := 49) (j := ((100 * w0 + w1)).toNat) (w := 0) (g82846.lt ad49) (g82846.tg ad49) (by omega) (by rw [g82846.ln ad49]; omega) (by unfold w8; omega) (fun h82848 e82848 => ?_)
                          have g82848 := g82846.s49 e82848 (by rw [(((jw_ne e82846 (Or.inr (by decide))).trans ew0))]; omega) (by omega) (by omega)
                          have k82848 := k82846.wr e82848 rfl
                          refine ev_aload_n rfl ?_
                          refine g_getp (r := 42) (c := 50) g82848 ad42 (by decide) (by decide) rf42_12 ft12_12 ?_
                          refine ev_iload rfl ?_
                          refine ev_iload_n rfl ?_
                          refine ev_iastG (r := 50) (j := ((100 * w0 + w1)).toNat) (g82848.lt ad50) (g82848.tg ad50) (by omega) (by rw [g82848.ln ad50]; omega) (fun h82849 e82849 => ?_)
                          have g82849 := g82848.s50 e82849 (Or.inl (by rw [(((jw_ne e82848 (Or.inl (by decide))).trans ((jw_ne e82846 (Or.inr (by decide))).trans ew0)))]; omega)) (by omega) (by omega)
                          have k82849 := k82848.wr e82849 rfl
                          refine ev_aload_n rfl ?_
                          refine g_getp (r := 42) (c := 53) g82849 ad42 (by decide) (by decide) rf42_15 ft12_15 ?_
                          refine ev_iload rfl ?_
                          refine ev_iconst ?_
                          refine ev_bastG (r := 53) (j := ((100 * w0 + w1)).toNat) (w := 0) (g82849.lt ad53) (g82849.tg ad53) (by omega) (by rw [g82849.ln ad53]; omega) (by unfold w8; omega) (fun h82850 e82850 => ?_)
                          have g82850 := g82849.s53 e82850 (Or.inl (by rw [(((jw_ne e82849 (Or.inl (by decide))).trans ((jw_ne e82848 (Or.inl (by decide))).trans ((jw_ne e82846 (Or.inr (by decide))).trans ew0))))]; omega)) (by omega) (by omega)
                          have k82850 := k82849.wr e82850 rfl
                          refine ev_iconst ?_
                          refine ev_istore (L' := [(2, 42), (0, 1), (0, 0), (0, (100 * v82638 + 10 * v82682 + v82763 - 5328)), (0, (100 * w0 + w1)), (0, 0)]) (Nat.le_of_ble_eq_true rfl) rfl ?_
                          refine ev_iload rfl ?_
                          refine ev_iconst ?_
                          refine ev_icmpge f267_109 (fun c82851 => absurd c82851 (by omega)) (fun c82851 => ?_)
                          refine ev_aload_n rfl ?_
                          refine g_getp (r := 42) (c := 51) g82850 ad42 (by decide) (by decide) rf42_13 ft12_13 ?_
                          refine ev_iconst ?_
                          refine ev_iload rfl ?_
                          refine ev_imul (r := (400 * w0 + 4 * w1)) (by unfold w32; omega) ?_
                          refine ev_iload rfl ?_
                          refine ev_iadd (r := (400 * w0 + 4 * w1)) (by unfold w32; omega) ?_
                          refine ev_iconst ?_
                          refine ev_bastG (r := 51) (j := ((400 * w0 + 4 * w1)).toNat) (w := (-1)) (g82850.lt ad51) (g82850.tg ad51) (by omega) (by rw [g82850.ln ad51]; omega) (by unfold w8; omega) (fun h82852 e82852 => ?_)
                          have g82852 := g82850.s51 e82852 (by rw [(((jw_ne e82850 (Or.inl (by decide))).trans ((jw_ne e82849 (Or.inl (by decide))).trans ((jw_ne e82848 (Or.inl (by decide))).trans ((jw_ne e82846 (Or.inr (by decide))).trans ew0)))))]; omega) (by omega) (by omega)
                          have k82852 := k82850.wr e82852 rfl
                          refine ev_aload_n rfl ?_
                          refine g_getp (r := 42) (c := 52) g82852 ad42 (by decide) (by decide) rf42_14 ft12_14 ?_
                          refine ev_iconst ?_
                          refine ev_iload rfl ?_
                          refine ev_imul (r := (400 * w0 + 4 * w1)) (by unfold w32; omega) ?_
                          refine ev_iload rfl ?_
                          refine ev_iadd (r := (400 * w0 + 4 * w1)) (by unfold w32; omega) ?_
                          refine ev_iconst ?_
                          refine g_iast g82852 ad52 rt52 (fun _ => rfl) (by omega) (by omega) (by omega) (by omega) (fun h82853 e82853 g82853 => ?_)
                          have k82853 := k82852.wr e82853 rfl
                          refine ev_iinc (w := 1) (L' := [(2, 42), (0, 1), (0, 0), (0, (100 * v82638 + 10 * v82682 + v82763 - 5328)), (0, (100 * w0 + w1)), (0, 1)]) rfl (by decide) rfl ?_
                          refine ev_goto f267_71 ?_
                          refine ev_iload rfl ?_
                          refine ev_iconst ?_
                          refine ev_icmpge f267_109 (fun c82854 => absurd c82854 (by omega)) (fun c82854 => ?_)
                          refine ev_aload_n rfl ?_
                          refine g_getp (r := 42) (c := 51) g82853 ad42 (by decide) (by decide) rf42_13 ft12_13 ?_
                          refine ev_iconst ?_
                          refine ev_iload rfl ?_
                          refine ev_imul (r := (400 * w0 + 4 * w1)) (by unfold w32; omega) ?_
                          refine ev_iload rfl ?_
                          refine ev_iadd (r := (400 * w0 + 4 * w1 + 1)) (by unfold w32; omega) ?_
                          refine ev_iconst ?_
                          refine ev_bastG (r := 51) (j := ((400 * w0 + 4 * w1 + 1)).toNat) (w := (-1)) (g82853.lt ad51) (g82853.tg ad51) (by omega) (by rw [g82853.ln ad51]; omega) (by unfold w8; omega) (fun h82855 e82855 => ?_)
                          have g82855 := g82853.s51 e82855 (by rw [(((jw_ne e82853 (Or.inl (by decide))).trans ((jw_ne e82852 (Or.inl (by decide))).trans ((jw_ne e82850 (Or.inl (by decide))).trans ((jw_ne e82849 (Or.inl (by decide))).trans ((jw_ne e82848 (Or.inl (by decide))).trans ((jw_ne e82846 (Or.inr (by decide))).trans ew0)))))))]; omega) (by omega) (by omega)
                          have k82855 := k82853.wr e82855 rfl
                          refine ev_aload_n rfl ?_
                          refine g_getp (r := 42) (c := 52) g82855 ad42 (by decide) (by decide) rf42_14 ft12_14 ?_
                          refine ev_iconst ?_
                          refine ev_iload rfl ?_
                          refine ev_imul (r := (400 * w0 + 4 * w1)) (by unfold w32; omega) ?_
                          refine ev_iload rfl ?_
                          refine ev_iadd (r := (400 * w0 + 4 * w1 + 1)) (by unfold w32; omega) ?_
                          refine ev_iconst ?_
                          refine g_iast g82855 ad52 rt52 (fun _ => rfl) (by omega) (by omega) (by omega) (by omega) (fun h82856 e82856 g82856 => ?_)
                          have k82856 := k82855.wr e82856 rfl
                          refine ev_iinc (w := 2) (L' := [(2, 42), (0, 1), (0, 0), (0, (100 * v82638 + 10 * v82682 + v82763 - 5328)), (0, (100 * w0 + w1)), (0, 2)]) rfl (by decide) rfl ?_
                          refine ev_goto f267_71 ?_
                          refine ev_iload rfl ?_
                          refine ev_iconst ?_
                          refine ev_icmpge f267_109 (fun c82857 => absurd c82857 (by omega)) (fun c82857 => ?_)
                          refine ev_aload_n rfl ?_
                          refine g_getp (r := 42) (c := 51) g82856 ad42 (by decide) (by decide) rf42_13 ft12_13 ?_
                          refine ev_iconst ?_
                          refine ev_iload rfl ?_
                          refine ev_imul (r := (400 * w0 + 4 * w1)) (by unfold w32; omega) ?_
                          refine ev_iload rfl ?_
                          refine ev_iadd (r := (400 * w0 + 4 * w1 + 2)) (by unfold w32; omega) ?_
                          refine ev_iconst ?_
                          refine ev_bastG (r := 51) (j := ((400 * w0 + 4 * w1 + 2)).toNat) (w := (-1)) (g82856.lt ad51) (g82856.tg ad51) (by omega) (by rw [g82856.ln ad51]; omega) (by unfold w8; omega) (fun h82858 e82858 => ?_)
                          have g82858 := g82856.s51 e82858 (by rw [(((jw_ne e82856 (Or.inl (by decide))).trans ((jw_ne e82855 (Or.inl (by decide))).trans ((jw_ne e82853 (Or.inl (by decide))).trans ((jw_ne e82852 (Or.inl (by decide))).trans ((jw_ne e82850 (Or.inl (by decide))).trans ((jw_ne e82849 (Or.inl (by decide))).trans ((jw_ne e82848 (Or.inl (by decide))).trans ((jw_ne e82846 (Or.inr (by decide))).trans ew0)))))))))]; omega) (by omega) (by omega)
                          have k82858 := k82856.wr e82858 rfl
                          refine ev_aload_n rfl ?_
                          refine g_getp (r := 42) (c := 52) g82858 ad42 (by decide) (by decide) rf42_14 ft12_14 ?_
                          refine ev_iconst ?_
                          refine ev_iload rfl ?_
                          refine ev_imul (r := (400 * w0 + 4 * w1)) (by unfold w32; omega) ?_
                          refine ev_iload rfl ?_
                          refine ev_iadd (r := (400 * w0 + 4 * w1 + 2)) (by unfold w32; omega) ?_
                          refine ev_iconst ?_
                          refine g_iast g82858 ad52 rt52 (fun _ => rfl) (by omega) (by omega) (by omega) (by omega) (fun h82859 e82859 g82859 => ?_)
                          have k82859 := k82858.wr e82859 rfl
                          refine ev_iinc (w := 3) (L' := [(2, 42), (0, 1), (0, 0), (0, (100 * v82638 + 10 * v82682 + v82763 - 5328)), (0, (100 * w0 + w1)), (0, 3)]) rfl (by decide) rfl ?_
                          refine ev_goto f267_71 ?_
                          refine ev_iload rfl ?_
                          refine ev_iconst ?_
                          refine ev_icmpge f267_109 (fun c82860 => absurd c82860 (by omega)) (fun c82860 => ?_)
                          refine ev_aload_n rfl ?_
                          refine g_getp (r := 42) (c := 51) g82859 ad42 (by decide) (by decide) rf42_13 ft12_13 ?_
                          refine ev_iconst ?_
                          refine ev_iload rfl ?_
                          refine ev_imul (r := (400 * w0 + 4 * w1)) (by unfold w32; omega) ?_
                          refine ev_iload rfl ?_
                          refine ev_iadd (r := (400 * w0 + 4 * w1 + 3)) (by unfold w32; omega) ?_
                          refine ev_iconst ?_
                          refine ev_bastG (r := 51) (j := ((400 * w0 + 4 * w1 + 3)).toNat) (w := (-1)) (g82859.lt ad51) (g82859.tg ad51) (by omega) (by rw [g82859.ln ad51]; omega) (by unfold w8; omega) (fun h82861 e82861 => ?_)
                          have g82861 := g82859.s51 e82861 (by rw [(((jw_ne e82859 (Or.inl (by decide))).trans ((jw_ne e82858 (Or.inl (by decide))).trans ((jw_ne e82856 (Or.inl (by decide))).trans ((jw_ne e82855 (Or.inl (by decide))).trans ((jw_ne e82853 (Or.inl (by decide))).trans ((jw_ne e82852 (Or.inl (by decide))).trans ((jw_ne e82850 (Or.inl (by decide))).trans ((jw_ne e82849 (Or.inl (by decide))).trans ((jw_ne e82848 (Or.inl (by decide))).trans ((jw_ne e82846 (Or.inr (by decide))).trans ew0)))))))))))]; omega) (by omega) (by omega)
                          have k82861 := k82859.wr e82861 rfl
                          refine ev_aload_n rfl ?_
                          refine g_getp (r := 42) (c := 52) g82861 ad42 (by decide) (by decide) rf42_14 ft12_14 ?_
                          refine ev_iconst ?_
                          refine ev_iload rfl ?_
                          refine ev_imul (r := (400 * w0 + 4 * w1)) (by unfold w32; omega) ?_
                          refine ev_iload rfl ?_
                          refine ev_iadd (r := (400 * w0 + 4 * w1 + 3)) (by unfold w32; omega) ?_
                          refine ev_iconst ?_
                          refine g_iast g82861 ad52 rt52 (fun _ => rfl) (by omega) (by omega) (by omega) (by omega) (fun h82862 e82862 g82862 => ?_)
                          have k82862 := k82861.wr e82862 rfl
                          refine ev_iinc (w := 4) (L' := [(2, 42), (0, 1), (0, 0), (0, (100 * v82638 + 10 * v82682 + v82763 - 5328)), (0, (100 * w0 + w1)), (0, 4)]) rfl (by decide) rfl ?_
                          refine ev_goto f267_71 ?_
                          refine ev_iload rfl ?_
                          refine ev_iconst ?_
                          refine ev_icmpge f267_109 (fun c82863 => ?_) (fun c82863 => absurd c82863 (by omega))
                          refine ev_iload rfl ?_
                          refine ev_ret rfl (by decide) (by decide) ?_
                          show jEv _ _ _ _ _ _ _ (_, [(2, 42), (0, a1), (0, 1), (0, (a1 + 3)), (0, 0), (0, (100 * v82638 + 10 * v82682 + v82763 - 5328)), (0, 3)], [(0, (100 * w0 + w1))], _, _, _)
                          refine ev_pop (by decide) ?_
                          refine ev_iload_n rfl ?_
                          exact ev_ret rfl (by decide) (by decide) ⟨⟨_, rfl, by omega, by omega, g82862, k82862⟩, fun r hr h0 => by cases hr; exact (Ad.step (r' := (a1 + 3)) (Ad.step (r' := (a1 + 2)) (Ad.step (r' := (a1 + 1)) (Ad.rf _ _ _) (by omega) k82862 (fun _ => rfl) (((jw_ne e82862 (Or.inl (by decide))).trans ((jw_ne e82861 (Or.inl (by decide))).trans ((jw_ne e82859 (Or.inl (by decide))).trans ((jw_ne e82858 (Or.inl (by decide))).trans ((jw_ne e82856 (Or.inl (by decide))).trans ((jw_ne e82855 (Or.inl (by decide))).trans ((jw_ne e82853 (Or.inl (by decide))).trans ((jw_ne e82852 (Or.inl (by decide))).trans ((jw_ne e82850 (Or.inl (by decide))).trans ((jw_ne e82849 (Or.inl (by decide))).trans ((jw_ne e82848 (Or.inl (by decide))).trans ((jw_ne e82846 (Or.inl (by decide))).trans ev82638))))))))))))) (by omega) (by omega) (by omega)) (by omega) k82862 (fun _ => rfl) (((jw_ne e82862 (Or.inl (by decide))).trans ((jw_ne e82861 (Or.inl (by decide))).trans ((jw_ne e82859 (Or.inl (by decide))).trans ((jw_ne e82858 (Or.inl (by decide))).trans ((jw_ne e82856 (Or.inl (by decide))).trans ((jw_ne e82855 (Or.inl (by decide))).trans ((jw_ne e82853 (Or.inl (by decide))).trans ((jw_ne e82852 (Or.inl (by decide))).trans ((jw_ne e82850 (Or.inl (by decide))).trans ((jw_ne e82849 (Or.inl (by decide))).trans ((jw_ne e82848 (Or.inl (by decide))).trans ((jw_ne e82846 (Or.inl (by decide))).trans ev82682))))))))))))) (by omega) (by omega) (by omega)) (by omega) k82862 (fun _ => rfl) (((jw_ne e82862 (Or.inl (by decide))).trans ((jw_ne e82861 (Or.inl (by decide))).trans ((jw_ne e82859 (Or.inl (by decide))).trans ((jw_ne e82858 (Or.inl (by decide))).trans ((jw_ne e82856 (Or.inl (by decide))).trans ((jw_ne e82855 (Or.inl (by decide))).trans ((jw_ne e82853 (Or.inl (by decide))).trans ((jw_ne e82852 (Or.inl (by decide))).trans ((jw_ne e82850 (Or.inl (by decide))).trans ((jw_ne e82849 (Or.inl (by decide))).trans ((jw_ne e82848 (Or.inl (by decide))).trans ((jw_ne e82846 (Or.inl (by decide))).trans ev82763))))))))))))) (by omega) (by omega) (by omega)), fun r hr => by cases hr; exact ⟨_, (((jw_ne e82862 (Or.inl (by decide))).trans ((jw_ne e82861 (Or.inl (by decide))).trans ((jw_ne e82859 (Or.inl (by decide))).trans ((jw_ne e82858 (Or.inl (by decide))).trans ((jw_ne e82856 (Or.inl (by decide))).trans ((jw_ne e82855 (Or.inl (by decide))).trans ((jw_ne e82853 (Or.inl (by decide))).trans ((jw_ne e82852 (Or.inl (by decide))).trans ((jw_ne e82850 (Or.inl (by decide))).trans ((jw_ne e82849 (Or.inl (by decide))).trans ((jw_ne e82848 (Or.inl (by decide))).trans (jw_eq e82846))))))))))))), by omega, by omega, (Fr.kp (Fr.w (i := (400 * w0 + 4 * w1 + 3)) (Fr.kp (Fr.w (i := (400 * w0 + 4 * w1 + 2)) (Fr.kp (Fr.w (i := (400 * w0 + 4 * w1 + 1)) (Fr.kp (Fr.w (i := (400 * w0 + 4 * w1)) (Fr.w (i := (100 * w0 + w1)) (Fr.w (i := (100 * w0 + w1)) (Fr.w (i := (100 * w0 + w1)) (Fr.kp (Fr.rf _ _) ((Kp.rf [(42, 0)] _).wr e82846 rfl) (fun _ => rfl) (fun _ => rfl) (fun _ => rfl) (fun _ => rfl)) e82848 (by omega) (by omega)) e82849 (by omega) (by omega)) e82850 (by omega) (by omega)) e82852 (by omega) (by omega)) ((Kp.rf [(52, 0)] _).wr e82853 rfl) (fun _ => rfl) (fun _ => rfl) (fun _ => rfl) (fun _ => rfl)) e82855 (by omega) (by omega)) ((Kp.rf [(52, 0)] _).wr e82856 rfl) (fun _ => rfl) (fun _ => rfl) (fun _ => rfl) (fun _ => rfl)) e82858 (by omega) (by omega)) ((Kp.rf [(52, 0)] _).wr e82859 rfl) (fun _ => rfl) (fun _ => rfl) (fun _ => rfl) (fun _ => rfl)) e82861 (by omega) (by omega)) ((Kp.rf [(52, 0)] _).wr e82862 rfl) (fun _ => rfl) (fun _ => rfl) (fun _ => rfl) (fun _ => rfl)), fun h0 => by omega, fun h0 hm => Tr.end (i := (100 * w0 + w1)) (by omega) (by omega) (by omega) (((jw_ne e82862 (Or.inl (by decide))).trans ((jw_ne e82861 (Or.inl (by decide))).trans ((jw_ne e82859 (Or.inl (by decide))).trans ((jw_ne e82858 (Or.inl (by decide))).trans ((jw_ne e82856 (Or.inl (by decide))).trans ((jw_ne e82855 (Or.inl (by decide))).trans ((jw_ne e82853 (Or.inl (by decide))).trans ((jw_ne e82852 (Or.inl (by decide))).trans ((jw_ne e82850 (Or.inl (by decide))).trans ((jw_ne e82849 (Or.inl (by decide))).trans (jw_eq e82848)))))))))))) (by omega) (by omega)⟩, fun r hr => by cases hr; exact okM (show (if bR h a1 = 45 then enR (bR h) (a1 + 1) else enR (bR h) a1) = ((a1 + 3), 0, 0, 1) by rw [if_neg (fun z => absurd ((bR_at (p := a1) k82862 (fun _ => rfl) ew2 (((jw_ne e82862 (Or.inl (by decide))).trans ((jw_ne e82861 (Or.inl (by decide))).trans ((jw_ne e82859 (Or.inl (by decide))).trans ((jw_ne e82858 (Or.inl (by decide))).trans ((jw_ne e82856 (Or.inl (by decide))).trans ((jw_ne e82855 (Or.inl (by decide))).trans ((jw_ne e82853 (Or.inl (by decide))).trans ((jw_ne e82852 (Or.inl (by decide))).trans ((jw_ne e82850 (Or.inl (by decide))).trans ((jw_ne e82849 (Or.inl (by decide))).trans ((jw_ne e82848 (Or.inl (by decide))).trans ((jw_ne e82846 (Or.inl (by decide))).trans ev82638))))))))))))) (by omega) (by omega)).symm.trans z) (by omega))]; unfold enR; rw [show nm3 (bR h) a1 = (a1 + 3) by unfold nm3; rw [(bR_at (p := a1) k82862 (fun _ => rfl) ew2 (((jw_ne e82862 (Or.inl (by decide))).trans ((jw_ne e82861 (Or.inl (by decide))).trans ((jw_ne e82859 (Or.inl (by decide))).trans ((jw_ne e82858 (Or.inl (by decide))).trans ((jw_ne e82856 (Or.inl (by decide))).trans ((jw_ne e82855 (Or.inl (by decide))).trans ((jw_ne e82853 (Or.inl (by decide))).trans ((jw_ne e82852 (Or.inl (by decide))).trans ((jw_ne e82850 (Or.inl (by decide))).trans ((jw_ne e82849 (Or.inl (by decide))).trans ((jw_ne e82848 (Or.inl (by decide))).trans ((jw_ne e82846 (Or.inl (by decide))).trans ev82638))))))))))))) (by omega) (by omega)), (bR_at (p := (a1 + 1)) k82862 (fun _ => rfl) ew2 (((jw_ne e82862 (Or.inl (by decide))).trans ((jw_ne e82861 (Or.inl (by decide))).trans ((jw_ne e82859 (Or.inl (by decide))).trans ((jw_ne e82858 (Or.inl (by decide))).trans ((jw_ne e82856 (Or.inl (by decide))).trans ((jw_ne e82855 (Or.inl (by decide))).trans ((jw_ne e82853 (Or.inl (by decide))).trans ((jw_ne e82852 (Or.inl (by decide))).trans ((jw_ne e82850 (Or.inl (by decide))).trans ((jw_ne e82849 (Or.inl (by decide))).trans ((jw_ne e82848 (Or.inl (by decide))).trans ((jw_ne e82846 (Or.inl (by decide))).trans ev82682))))))))))))) (by omega) (by omega)), (bR_at (p := (a1 + 2)) k82862 (fun _ => rfl) ew2 (((jw_ne e82862 (Or.inl (by decide))).trans ((jw_ne e82861 (Or.inl (by decide))).trans ((jw_ne e82859 (Or.inl (by decide))).trans ((jw_ne e82858 (Or.inl (by decide))).trans ((jw_ne e82856 (Or.inl (by decide))).trans ((jw_ne e82855 (Or.inl (by decide))).trans ((jw_ne e82853 (Or.inl (by decide))).trans ((jw_ne e82852 (Or.inl (by decide))).trans ((jw_ne e82850 (Or.inl (by decide))).trans ((jw_ne e82849 (Or.inl (by decide))).trans ((jw_ne e82848 (Or.inl (by decide))).trans ((jw_ne e82846 (Or.inl (by decide))).trans ev82763))))))))))))) (by omega) (by omega))]; (repeat' split) <;> omega, if_neg (by omega)]) (by omega) (by omega) (((jw_ne e82862 (Or.inl (by decide))).trans ((jw_ne e82861 (Or.inl (by decide))).trans ((jw_ne e82859 (Or.inl (by decide))).trans ((jw_ne e82858 (Or.inl (by decide))).trans ((jw_ne e82856 (Or.inl (by decide))).trans ((jw_ne e82855 (Or.inl (by decide))).trans ((jw_ne e82853 (Or.inl (by decide))).trans ((jw_ne e82852 (Or.inl (by decide))).trans ((jw_ne e82850 (Or.inl (by decide))).trans ((jw_ne e82849 (Or.inl (by decide))).trans ((jw_ne e82848 (Or.inl (by decide))).trans (jw_eq e82846))))))))))))) (by omega)⟩
                        · refine ev_iload_n rfl ?_
                          refine ev_iload_n rfl ?_
                          refine ev_icmpgt f242_14 (fun c82864 => ?_) (fun c82864 => ?_)
                          · refine ev_iconst ?_
                            refine ev_ret rfl (by decide) (by decide) ?_
                            show jEv _ _ _ _ _ _ _ (_, [(2, 42), (0, (a1 + 3))], [(0, 0)], _, _, _)
                            refine ev_ret rfl (by decide) (by decide) ?_
                            show jEv _ _ _ _ _ _ _ (_, [(2, 42), (0, a1), (0, 1), (0, (a1 + 3)), (0, 0), (0, (100 * v82638 + 10 * v82682 + v82763 - 5328)), (0, 3)], [(0, 0)], _, _, _)
                            refine ev_ifeq f269_100 (fun c82865 => ?_) (fun c82865 => absurd c82865 (by omega))
                            refine ev_aload_n rfl ?_
                            refine ev_iload_n rfl ?_
                            refine ev_iconst ?_
                            refine ev_iload rfl ?_
                            refine ev_ifeq f269_114 (fun c82866 => ?_) (fun c82866 => absurd c82866 (by omega))
                            refine ev_iload rfl ?_
                            refine ev_in (d := 1) (a := 0) (b := 0) (cd' := c267_0) (m := 6) (L0 := [(2, 42), (0, 1), (0, 0), (0, (100 * v82638 + 10 * v82682 + v82763 - 5328)), (9, 0), (9, 0)]) (jcall_v (A := [(0, (100 * v82638 + 10 * v82682 + v82763 - 5328)), (0, 0), (0, 1)]) (S' := []) (r := 42) rfl (g.lt ad42) (g.tg ad42) (Nat.le_of_ble_eq_true rfl)) (by decide) ml267 pp267 (Nat.le_of_ble_eq_true rfl) rfl (by decide) (by decide) ?_
                            refine ev_iload_n rfl ?_
                            refine ev_ifne f267_6 (fun c82867 => ?_) (fun c82867 => absurd c82867 (by omega))
                            refine ev_aload_n rfl ?_
                            refine ev_dup (by decide) ?_
                            refine g_getv (r := 42) (v := w1) g ad42 (by decide) ft12_21 (ew1) ?_
                            refine ev_iconst ?_
                            refine ev_iadd (r := (w1 + 1)) (by unfold w32; omega) ?_
                            refine g_putf (r := 42) g ad42 (by decide) ft12_21 (by decide) (fun e => absurd e nz12_21) rf42_21 (by decide) (by omega) (by omega) (fun h82868 e82868 g82868 => ?_)
                            have k82868 := k0.wr e82868 rfl
                            refine ev_aload_n rfl ?_
                            refine g_getv (r := 42) (v := (w1 + 1)) g82868 ad42 (by decide) ft12_21 ((jw_eq e82868)) ?_
                            refine ev_bipush ?_
                            refine ev_icmple f267_27 (fun c82869 => ?_) (fun c82869 => absurd c82869 (by omega))
                            refine ev_bipush ?_
                            refine ev_aload_n rfl ?_
                            refine g_getv (r := 42) (v := w0) g82868 ad42 (by decide) ft12_9 (((jw_ne e82868 (Or.inr (by decide))).trans ew0)) ?_
                            refine ev_imul (r := (100 * w0)) (by unfold w32; omega) ?_
                            refine ev_aload_n rfl ?_
                            refine g_getv (r := 42) (v := (w1 + 1)) g82868 ad42 (by decide) ft12_21 ((jw_eq e82868)) ?_
                            refine ev_iadd (r := (100 * w0 + w1 + 1)) (by unfold w32; omega) ?_
                            refine ev_iconst ?_
                            refine ev_isub (r := (100 * w0 + w1)) (by unfold w32; omega) ?_
                            refine ev_istore (L' := [(2, 42), (0, 1), (0, 0), (0, (100 * v82638 + 10 * v82682 + v82763 - 5328)), (0, (100 * w0 + w1)), (9, 0)]) (Nat.le_of_ble_eq_true rfl) rfl ?_
                            refine ev_aload_n rfl ?_
                            refine g_getp (r := 42) (c := 49) g82868 ad42 (by decide) (by decide) rf42_11 ft12_11 ?_
                            refine ev_iload rfl ?_
                            refine ev_iload_n rfl ?_
                            refine ev_i2b (r := 0) (by unfold w8; omega) ?_
                            refine ev_bastG (r := 49) (j := ((100 * w0 + w1)).toNat) (w := 0) (g82868.lt ad49) (g82868.tg ad49) (by omega) (by rw [g82868.ln ad49]; omega) (by unfold w8; omega) (fun h82870 e82870 => ?_)
                            have g82870 := g82868.s49 e82870 (by rw [(((jw_ne e82868 (Or.inr (by decide))).trans ew0))]; omega) (by omega) (by omega)
                            have k82870 := k82868.wr e82870 rfl
                            refine ev_aload_n rfl ?_
                            refine g_getp (r := 42) (c := 50) g82870 ad42 (by decide) (by decide) rf42_12 ft12_12 ?_
                            refine ev_iload rfl ?_
                            refine ev_iload_n rfl ?_
                            refine ev_iastG (r := 50) (j := ((100 * w0 + w1)).toNat) (g82870.lt ad50) (g82870.tg ad50) (by omega) (by rw [g82870.ln ad50]; omega) (fun h82871 e82871 => ?_)
                            have g82871 := g82870.s50 e82871 (Or.inl (by rw [(((jw_ne e82870 (Or.inl (by decide))).trans ((jw_ne e82868 (Or.inr (by decide))).trans ew0)))]; omega)) (by omega) (by omega)
                            have k82871 := k82870.wr e82871 rfl
                            refine ev_aload_n rfl ?_
                            refine g_getp (r := 42) (c := 53) g82871 ad42 (by decide) (by decide) rf42_15 ft12_15 ?_
                            refine ev_iload rfl ?_
                            refine ev_iconst ?_
                            refine ev_bastG (r := 53) (j := ((100 * w0 + w1)).toNat) (w := 0) (g82871.lt ad53) (g82871.tg ad53) (by omega) (by rw [g82871.ln ad53]; omega) (by unfold w8; omega) (fun h82872 e82872 => ?_)
                            have g82872 := g82871.s53 e82872 (Or.inl (by rw [(((jw_ne e82871 (Or.inl (by decide))).trans ((jw_ne e82870 (Or.inl (by decide))).trans ((jw_ne e82868 (Or.inr (by decide))).trans ew0))))]; omega)) (by omega) (by omega)
                            have k82872 := k82871.wr e82872 rfl
                            refine ev_iconst ?_
                            refine ev_istore (L' := [(2, 42), (0, 1), (0, 0), (0, (100 * v82638 + 10 * v82682 + v82763 - 5328)), (0, (100 * w0 + w1)), (0, 0)]) (Nat.le_of_ble_eq_true rfl) rfl ?_
                            refine ev_iload rfl ?_
                            refine ev_iconst ?_
                            refine ev_icmpge f267_109 (fun c82873 => absurd c82873 (by omega)) (fun c82873 => ?_)
                            refine ev_aload_n rfl ?_
                            refine g_getp (r := 42) (c := 51) g82872 ad42 (by decide) (by decide) rf42_13 ft12_13 ?_
                            refine ev_iconst ?_
                            refine ev_iload rfl ?_
                            refine ev_imul (r := (400 * w0 + 4 * w1)) (by unfold w32; omega) ?_
                            refine ev_iload rfl ?_
                            refine ev_iadd (r := (400 * w0 + 4 * w1)) (by unfold w32; omega) ?_
                            refine ev_iconst ?_
                            refine ev_bastG (r := 51) (j := ((400 * w0 + 4 * w1)).toNat) (w := (-1)) (g82872.lt ad51) (g82872.tg ad51) (by omega) (by rw [g82872.ln ad51]; omega) (by unfold w8; omega) (fun h82874 e82874 => ?_)
                            have g82874 := g82872.s51 e82874 (by rw [(((jw_ne e82872 (Or.inl (by decide))).trans ((jw_ne e82871 (Or.inl (by decide))).trans ((jw_ne e82870 (Or.inl (by decide))).trans ((jw_ne e82868 (Or.inr (by decide))).trans ew0)))))]; omega) (by omega) (by omega)
                            have k82874 := k82872.wr e82874 rfl
                            refine ev_aload_n rfl ?_
                            refine g_getp (r := 42) (c := 52) g82874 ad42 (by decide) (by decide) rf42_14 ft12_14 ?_
                            refine ev_iconst ?_
                            refine ev_iload rfl ?_
                            refine ev_imul (r := (400 * w0 + 4 * w1)) (by unfold w32; omega) ?_
                            refine ev_iload rfl ?_
                            refine ev_iadd (r := (400 * w0 + 4 * w1)) (by unfold w32; omega) ?_
                            refine ev_iconst ?_
                            refine g_iast g82874 ad52 rt52 (fun _ => rfl) (by omega) (by omega) (by omega) (by omega) (fun h82875 e82875 g82875 => ?_)
                            have k82875 := k82874.wr e82875 rfl
                            refine ev_iinc (w := 1) (L' := [(2, 42), (0, 1), (0, 0), (0, (100 * v82638 + 10 * v82682 + v82763 - 5328)), (0, (100 * w0 + w1)), (0, 1)]) rfl (by decide) rfl ?_
                            refine ev_goto f267_71 ?_
                            refine ev_iload rfl ?_
                            refine ev_iconst ?_
                            refine ev_icmpge f267_109 (fun c82876 => absurd c82876 (by omega)) (fun c82876 => ?_)
                            refine ev_aload_n rfl ?_
                            refine g_getp (r := 42) (c := 51) g82875 ad42 (by decide) (by decide) rf42_13 ft12_13 ?_
                            refine ev_iconst ?_
                            refine ev_iload rfl ?_
                            refine ev_imul (r := (400 * w0 + 4 * w1)) (by unfold w32; omega) ?_
                            refine ev_iload rfl ?_
                            refine ev_iadd (r := (400 * w0 + 4 * w1 + 1)) (by unfold w32; omega) ?_
                            refine ev_iconst ?_
                            refine ev_bastG (r := 51) (j := ((400 * w0 + 4 * w1 + 1)).toNat) (w := (-1)) (g82875.lt ad51) (g82875.tg ad51) (by omega) (by rw [g82875.ln ad51]; omega) (by unfold w8; omega) (fun h82877 e82877 => ?_)
                            have g82877 := g82875.s51 e82877 (by rw [(((jw_ne e82875 (Or.inl (by decide))).trans ((jw_ne e82874 (Or.inl (by decide))).trans ((jw_ne e82872 (Or.inl (by decide))).trans ((jw_ne e82871 (Or.inl (by decide))).trans ((jw_ne e82870 (Or.inl (by decide))).trans ((jw_ne e82868 (Or.inr (by decide))).trans ew0)))))))]; omega) (by omega) (by omega)
                            have k82877 := k82875.wr e82877 rfl
                            refine ev_aload_n rfl ?_
                            refine g_getp (r := 42) (c := 52) g82877 ad42 (by decide) (by decide) rf42_14 ft12_14 ?_
                            refine ev_iconst ?_
                            refine ev_iload rfl ?_
                            refine ev_imul (r := (400 * w0 + 4 * w1)) (by unfold w32; omega) ?_
                            refine ev_iload rfl ?_
                            refine ev_iadd (r := (400 * w0 + 4 * w1 + 1)) (by unfold w32; omega) ?_
                            refine ev_iconst ?_
                            refine g_iast g82877 ad52 rt52 (fun _ => rfl) (by omega) (by omega) (by omega) (by omega) (fun h82878 e82878 g82878 => ?_)
                            have k82878 := k82877.wr e82878 rfl
                            refine ev_iinc (w := 2) (L' := [(2, 42), (0, 1), (0, 0), (0, (100 * v82638 + 10 * v82682 + v82763 - 5328)), (0, (100 * w0 + w1)), (0, 2)]) rfl (by decide) rfl ?_
                            refine ev_goto f267_71 ?_
                            refine ev_iload rfl ?_
                            refine ev_iconst ?_
                            refine ev_icmpge f267_109 (fun c82879 => absurd c82879 (by omega)) (fun c82879 => ?_)
                            refine ev_aload_n rfl ?_
                            refine g_getp (r := 42) (c := 51) g82878 ad42 (by decide) (by decide) rf42_13 ft12_13 ?_
                            refine ev_iconst ?_
                            refine ev_iload rfl ?_
                            refine ev_imul (r := (400 * w0 + 4 * w1)) (by unfold w32; omega) ?_
                            refine ev_iload rfl ?_
                            refine ev_iadd (r := (400 * w0 + 4 * w1 + 2)) (by unfold w32; omega) ?_
                            refine ev_iconst ?_
                            refine ev_bastG (r := 51) (j := ((400 * w0 + 4 * w1 + 2)).toNat) (w := (-1)) (g82878.lt ad51) (g82878.tg ad51) (by omega) (by rw [g82878.ln ad51]; omega) (by unfold w8; omega) (fun h82880 e82880 => ?_)
                            have g82880 := g82878.s51 e82880 (by rw [(((jw_ne e82878 (Or.inl (by decide))).trans ((jw_ne e82877 (Or.inl (by decide))).trans ((jw_ne e82875 (Or.inl (by decide))).trans ((jw_ne e82874 (Or.inl (by decide))).trans ((jw_ne e82872 (Or.inl (by decide))).trans ((jw_ne e82871 (Or.inl (by decide))).trans ((jw_ne e82870 (Or.inl (by decide))).trans ((jw_ne e82868 (Or.inr (by decide))).trans ew0)))))))))]; omega) (by omega) (by omega)
                            have k82880 := k82878.wr e82880 rfl
                            refine ev_aload_n rfl ?_
                            refine g_getp (r := 42) (c := 52) g82880 ad42 (by decide) (by decide) rf42_14 ft12_14 ?_
                            refine ev_iconst ?_
                            refine ev_iload rfl ?_
                            refine ev_imul (r := (400 * w0 + 4 * w1)) (by unfold w32; omega) ?_
                            refine ev_iload rfl ?_
                            refine ev_iadd (r := (400 * w0 + 4 * w1 + 2)) (by unfold w32; omega) ?_
                            refine ev_iconst ?_
                            refine g_iast g82880 ad52 rt52 (fun _ => rfl) (by omega) (by omega) (by omega) (by omega) (fun h82881 e82881 g82881 => ?_)
                            have k82881 := k82880.wr e82881 rfl
                            refine ev_iinc (w := 3) (L' := [(2, 42), (0, 1), (0, 0), (0, (100 * v82638 + 10 * v82682 + v82763 - 5328)), (0, (100 * w0 + w1)), (0, 3)]) rfl (by decide) rfl ?_
                            refine ev_goto f267_71 ?_
                            refine ev_iload rfl ?_
                            refine ev_iconst ?_
                            refine ev_icmpge f267_109 (fun c82882 => absurd c82882 (by omega)) (fun c82882 => ?_)
                            refine ev_aload_n rfl ?_
                            refine g_getp (r := 42) (c := 51) g82881 ad42 (by decide) (by decide) rf42_13 ft12_13 ?_
                            refine ev_iconst ?_
                            refine ev_iload rfl ?_
                            refine ev_imul (r := (400 * w0 + 4 * w1)) (by unfold w32; omega) ?_
                            refine ev_iload rfl ?_
                            refine ev_iadd (r := (400 * w0 + 4 * w1 + 3)) (by unfold w32; omega) ?_
                            refine ev_iconst ?_
                            refine ev_bastG (r := 51) (j := ((400 * w0 + 4 * w1 + 3)).toNat) (w := (-1)) (g82881.lt ad51) (g82881.tg ad51) (by omega) (by rw [g82881.ln ad51]; omega) (by unfold w8; omega) (fun h82883 e82883 => ?_)
                            have g82883 := g82881.s51 e82883 (by rw [(((jw_ne e82881 (Or.inl (by decide))).trans ((jw_ne e82880 (Or.inl (by decide))).trans ((jw_ne e82878 (Or.inl (by decide))).trans ((jw_ne e82877 (Or.inl (by decide))).trans ((jw_ne e82875 (Or.inl (by decide))).trans ((jw_ne e82874 (Or.inl (by decide))).trans ((jw_ne e82872 (Or.inl (by decide))).trans ((jw_ne e82871 (Or.inl (by decide))).trans ((jw_ne e82870 (Or.inl (by decide))).trans ((jw_ne e82868 (Or.inr (by decide))).trans ew0)))))))))))]; omega) (by omega) (by omega)
                            have k82883 := k82881.wr e82883 rfl
                            refine ev_aload_n rfl ?_
                            refine g_getp (r := 42) (c := 52) g82883 ad42 (by decide) (by decide) rf42_14 ft12_14 ?_
                            refine ev_iconst ?_
                            refine ev_iload rfl ?_
                            refine ev_imul (r := (400 * w0 + 4 * w1)) (by unfold w32; omega) ?_
                            refine ev_iload rfl ?_
                            refine ev_iadd (r := (400 * w0 + 4 * w1 + 3)) (by unfold w32; omega) ?_
                            refine ev_iconst ?_
                            refine g_iast g82883 ad52 rt52 (fun _ => rfl) (by omega) (by omega) (by omega) (by omega) (fun h82884 e82884 g82884 => ?_)
                            have k82884 := k82883.wr e82884 rfl
                            refine ev_iinc (w := 4) (L' := [(2, 42), (0, 1), (0, 0), (0, (100 * v82638 + 10 * v82682 + v82763 - 5328)), (0, (100 * w0 + w1)), (0, 4)]) rfl (by decide) rfl ?_
                            refine ev_goto f267_71 ?_
                            refine ev_iload rfl ?_
                            refine ev_iconst ?_
                            refine ev_icmpge f267_109 (fun c82885 => ?_) (fun c82885 => absurd c82885 (by omega))
                            refine ev_iload rfl ?_
                            refine ev_ret rfl (by decide) (by decide) ?_
                            show jEv _ _ _ _ _ _ _ (_, [(2, 42), (0, a1), (0, 1), (0, (a1 + 3)), (0, 0), (0, (100 * v82638 + 10 * v82682 + v82763 - 5328)), (0, 3)], [(0, (100 * w0 + w1))], _, _, _)
                            refine ev_pop (by decide) ?_
                            refine ev_iload_n rfl ?_
                            exact ev_ret rfl (by decide) (by decide) ⟨⟨_, rfl, by omega, by omega, g82884, k82884⟩, fun r hr h0 => by cases hr; exact (Ad.step (r' := (a1 + 3)) (Ad.step (r' := (a1 + 2)) (Ad.step (r' := (a1 + 1)) (Ad.rf _ _ _) (by omega) k82884 (fun _ => rfl) (((jw_ne e82884 (Or.inl (by decide))).trans ((jw_ne e82883 (Or.inl (by decide))).trans ((jw_ne e82881 (Or.inl (by decide))).trans ((jw_ne e82880 (Or.inl (by decide))).trans ((jw_ne e82878 (Or.inl (by decide))).trans ((jw_ne e82877 (Or.inl (by decide))).trans ((jw_ne e82875 (Or.inl (by decide))).trans ((jw_ne e82874 (Or.inl (by decide))).trans ((jw_ne e82872 (Or.inl (by decide))).trans ((jw_ne e82871 (Or.inl (by decide))).trans ((jw_ne e82870 (Or.inl (by decide))).trans ((jw_ne e82868 (Or.inl (by decide))).trans ev82638))))))))))))) (by omega) (by omega) (by omega)) (by omega) k82884 (fun _ => rfl) (((jw_ne e82884 (Or.inl (by decide))).trans ((jw_ne e82883 (Or.inl (by decide))).trans ((jw_ne e82881 (Or.inl (by decide))).trans ((jw_ne e82880 (Or.inl (by decide))).trans ((jw_ne e82878 (Or.inl (by decide))).trans ((jw_ne e82877 (Or.inl (by decide))).trans ((jw_ne e82875 (Or.inl (by decide))).trans ((jw_ne e82874 (Or.inl (by decide))).trans ((jw_ne e82872 (Or.inl (by decide))).trans ((jw_ne e82871 (Or.inl (by decide))).trans ((jw_ne e82870 (Or.inl (by decide))).trans ((jw_ne e82868 (Or.inl (by decide))).trans ev82682))))))))))))) (by omega) (by omega) (by omega)) (by omega) k82884 (fun _ => rfl) (((jw_ne e82884 (Or.inl (by decide))).trans ((jw_ne e82883 (Or.inl (by decide))).trans ((jw_ne e82881 (Or.inl (by decide))).trans ((jw_ne e82880 (Or.inl (by decide))).trans ((jw_ne e82878 (Or.inl (by decide))).trans ((jw_ne e82877 (Or.inl (by decide))).trans ((jw_ne e82875 (Or.inl (by decide))).trans ((jw_ne e82874 (Or.inl (by decide))).trans ((jw_ne e82872 (Or.inl (by decide))).trans ((jw_ne e82871 (Or.inl (by decide))).trans ((jw_ne e82870 (Or.inl (by decide))).trans ((jw_ne e82868 (Or.inl (by decide))).trans ev82763))))))))))))) (by omega) (by omega) (by omega)), fun r hr => by cases hr; exact ⟨_, (((jw_ne e82884 (Or.inl (by decide))).trans ((jw_ne e82883 (Or.inl (by decide))).trans ((jw_ne e82881 (Or.inl (by decide))).trans ((jw_ne e82880 (Or.inl (by decide))).trans ((jw_ne e82878 (Or.inl (by decide))).trans ((jw_ne e82877 (Or.inl (by decide))).trans ((jw_ne e82875 (Or.inl (by decide))).trans ((jw_ne e82874 (Or.inl (by decide))).trans ((jw_ne e82872 (Or.inl (by decide))).trans ((jw_ne e82871 (Or.inl (by decide))).trans ((jw_ne e82870 (Or.inl (by decide))).trans (jw_eq e82868))))))))))))), by omega, by omega, (Fr.kp (Fr.w (i := (400 * w0 + 4 * w1 + 3)) (Fr.kp (Fr.w (i := (400 * w0 + 4 * w1 + 2)) (Fr.kp (Fr.w (i := (400 * w0 + 4 * w1 + 1)) (Fr.kp (Fr.w (i := (400 * w0 + 4 * w1)) (Fr.w (i := (100 * w0 + w1)) (Fr.w (i := (100 * w0 + w1)) (Fr.w (i := (100 * w0 + w1)) (Fr.kp (Fr.rf _ _) ((Kp.rf [(42, 0)] _).wr e82868 rfl) (fun _ => rfl) (fun _ => rfl) (fun _ => rfl) (fun _ => rfl)) e82870 (by omega) (by omega)) e82871 (by omega) (by omega)) e82872 (by omega) (by omega)) e82874 (by omega) (by omega)) ((Kp.rf [(52, 0)] _).wr e82875 rfl) (fun _ => rfl) (fun _ => rfl) (fun _ => rfl) (fun _ => rfl)) e82877 (by omega) (by omega)) ((Kp.rf [(52, 0)] _).wr e82878 rfl) (fun _ => rfl) (fun _ => rfl) (fun _ => rfl) (fun _ => rfl)) e82880 (by omega) (by omega)) ((Kp.rf [(52, 0)] _).wr e82881 rfl) (fun _ => rfl) (fun _ => rfl) (fun _ => rfl) (fun _ => rfl)) e82883 (by omega) (by omega)) ((Kp.rf [(52, 0)] _).wr e82884 rfl) (fun _ => rfl) (fun _ => rfl) (fun _ => rfl) (fun _ => rfl)), fun h0 => by omega, fun h0 hm => Tr.end (i := (100 * w0 + w1)) (by omega) (by omega) (by omega) (((jw_ne e82884 (Or.inl (by decide))).trans ((jw_ne e82883 (Or.inl (by decide))).trans ((jw_ne e82881 (Or.inl (by decide))).trans ((jw_ne e82880 (Or.inl (by decide))).trans ((jw_ne e82878 (Or.inl (by decide))).trans ((jw_ne e82877 (Or.inl (by decide))).trans ((jw_ne e82875 (Or.inl (by decide))).trans ((jw_ne e82874 (Or.inl (by decide))).trans ((jw_ne e82872 (Or.inl (by decide))).trans ((jw_ne e82871 (Or.inl (by decide))).trans (jw_eq e82870)))))))))))) (by omega) (by omega)⟩, fun r hr => by cases hr; exact okM (show (if bR h a1 = 45 then enR (bR h) (a1 + 1) else enR (bR h) a1) = ((a1 + 3), 0, 0, 1) by rw [if_neg (fun z => absurd ((bR_at (p := a1) k82884 (fun _ => rfl) ew2 (((jw_ne e82884 (Or.inl (by decide))).trans ((jw_ne e82883 (Or.inl (by decide))).trans ((jw_ne e82881 (Or.inl (by decide))).trans ((jw_ne e82880 (Or.inl (by decide))).trans ((jw_ne e82878 (Or.inl (by decide))).trans ((jw_ne e82877 (Or.inl (by decide))).trans ((jw_ne e82875 (Or.inl (by decide))).trans ((jw_ne e82874 (Or.inl (by decide))).trans ((jw_ne e82872 (Or.inl (by decide))).trans ((jw_ne e82871 (Or.inl (by decide))).trans ((jw_ne e82870 (Or.inl (by decide))).trans ((jw_ne e82868 (Or.inl (by decide))).trans ev82638))))))))))))) (by omega) (by omega)).symm.trans z) (by omega))]; unfold enR; rw [show nm3 (bR h) a1 = (a1 + 3) by unfold nm3; rw [(bR_at (p := a1) k82884 (fun _ => rfl) ew2 (((jw_ne e82884 (Or.inl (by decide))).trans ((jw_ne e82883 (Or.inl (by decide))).trans ((jw_ne e82881 (Or.inl (by decide))).trans ((jw_ne e82880 (Or.inl (by decide))).trans ((jw_ne e82878 (Or.inl (by decide))).trans ((jw_ne e82877 (Or.inl (by decide))).trans ((jw_ne e82875 (Or.inl (by decide))).trans ((jw_ne e82874 (Or.inl (by decide))).trans ((jw_ne e82872 (Or.inl (by decide))).trans ((jw_ne e82871 (Or.inl (by decide))).trans ((jw_ne e82870 (Or.inl (by decide))).trans ((jw_ne e82868 (Or.inl (by decide))).trans ev82638))))))))))))) (by omega) (by omega)), (bR_at (p := (a1 + 1)) k82884 (fun _ => rfl) ew2 (((jw_ne e82884 (Or.inl (by decide))).trans ((jw_ne e82883 (Or.inl (by decide))).trans ((jw_ne e82881 (Or.inl (by decide))).trans ((jw_ne e82880 (Or.inl (by decide))).trans ((jw_ne e82878 (Or.inl (by decide))).trans ((jw_ne e82877 (Or.inl (by decide))).trans ((jw_ne e82875 (Or.inl (by decide))).trans ((jw_ne e82874 (Or.inl (by decide))).trans ((jw_ne e82872 (Or.inl (by decide))).trans ((jw_ne e82871 (Or.inl (by decide))).trans ((jw_ne e82870 (Or.inl (by decide))).trans ((jw_ne e82868 (Or.inl (by decide))).trans ev82682))))))))))))) (by omega) (by omega)), (bR_at (p := (a1 + 2)) k82884 (fun _ => rfl) ew2 (((jw_ne e82884 (Or.inl (by decide))).trans ((jw_ne e82883 (Or.inl (by decide))).trans ((jw_ne e82881 (Or.inl (by decide))).trans ((jw_ne e82880 (Or.inl (by decide))).trans ((jw_ne e82878 (Or.inl (by decide))).trans ((jw_ne e82877 (Or.inl (by decide))).trans ((jw_ne e82875 (Or.inl (by decide))).trans ((jw_ne e82874 (Or.inl (by decide))).trans ((jw_ne e82872 (Or.inl (by decide))).trans ((jw_ne e82871 (Or.inl (by decide))).trans ((jw_ne e82870 (Or.inl (by decide))).trans ((jw_ne e82868 (Or.inl (by decide))).trans ev82763))))))))))))) (by omega) (by omega))]; (repeat' split) <;> omega, if_neg (by omega)]) (by omega) (by omega) (((jw_ne e82884 (Or.inl (by decide))).trans ((jw_ne e82883 (Or.inl (by decide))).trans ((jw_ne e82881 (Or.inl (by decide))).trans ((jw_ne e82880 (Or.inl (by decide))).trans ((jw_ne e82878 (Or.inl (by decide))).trans ((jw_ne e82877 (Or.inl (by decide))).trans ((jw_ne e82875 (Or.inl (by decide))).trans ((jw_ne e82874 (Or.inl (by decide))).trans ((jw_ne e82872 (Or.inl (by decide))).trans ((jw_ne e82871 (Or.inl (by decide))).trans ((jw_ne e82870 (Or.inl (by decide))).trans (jw_eq e82868))))))))))))) (by omega)⟩
                          · refine ev_iconst ?_
                            refine ev_goto f242_15 ?_
                            refine ev_ret rfl (by decide) (by decide) ?_
                            show jEv _ _ _ _ _ _ _ (_, [(2, 42), (0, (a1 + 3))], [(0, 1)], _, _, _)
                            refine ev_ret rfl (by decide) (by decide) ?_
                            show jEv _ _ _ _ _ _ _ (_, [(2, 42), (0, a1), (0, 1), (0, (a1 + 3)), (0, 0), (0, (100 * v82638 + 10 * v82682 + v82763 - 5328)), (0, 3)], [(0, 1)], _, _, _)
                            refine ev_ifeq f269_100 (fun c82886 => absurd c82886 (by omega)) (fun c82886 => ?_)
                            refine ev_aload_n rfl ?_
                            refine ev_iload_n rfl ?_
                            refine ev_in (d := 1) (a := 0) (b := 0) (cd' := c266_0) (m := 2) (L0 := [(2, 42), (0, (a1 + 3))]) (jcall_v (A := [(0, (a1 + 3))]) (S' := []) (r := 42) rfl (g.lt ad42) (g.tg ad42) (Nat.le_of_ble_eq_true rfl)) (by decide) ml266 pp266 (Nat.le_of_ble_eq_true rfl) rfl (by decide) (by decide) ?_
                            refine ev_aload_n rfl ?_
                            refine ev_iload_n rfl ?_
                            refine g_putf (r := 42) g ad42 (by decide) ft12_20 (by decide) (fun e => absurd e nz12_20) rf42_20 (by decide) (by omega) (by omega) (fun h82887 e82887 g82887 => ?_)
                            have k82887 := k0.wr e82887 rfl
                            refine ev_iconst ?_
                            refine ev_ret rfl (by decide) (by decide) ?_
                            show jEv _ _ _ _ _ _ _ (_, [(2, 42), (0, a1), (0, 1), (0, (a1 + 3)), (0, 0), (0, (100 * v82638 + 10 * v82682 + v82763 - 5328)), (0, 3)], [(0, (-1))], _, _, _)
                            exact ev_ret rfl (by decide) (by decide) ⟨⟨_, rfl, by omega, by omega, g82887, k82887⟩, fun r hr h0 => by cases hr; exfalso; omega, fun r hr => by cases hr; exact ⟨_, (((jw_ne e82887 (Or.inr (by decide))).trans ew1)), by omega, by omega, (Fr.kp (Fr.rf _ _) ((Kp.rf [(42, 0)] _).wr e82887 rfl) (fun _ => rfl) (fun _ => rfl) (fun _ => rfl) (fun _ => rfl)), fun h0 => by exfalso; omega, fun h0 => by exfalso; omega⟩, fun r hr => by cases hr; exact (Bd.M (show Bd (bR h) (if bR h a1 = 45 then enR (bR h) (a1 + 1) else enR (bR h) a1) (a1 + 3) from ⟨by omega, Or.inr (by rw [(show (if bR h a1 = 45 then enR (bR h) (a1 + 1) else enR (bR h) a1) = ((a1 + 3), 0, 0, 1) by rw [if_neg (fun z => absurd ((bR_at (p := a1) k82887 (fun _ => rfl) ew2 (((jw_ne e82887 (Or.inl (by decide))).trans ev82638)) (by omega) (by omega)).symm.trans z) (by omega))]; unfold enR; rw [show nm3 (bR h) a1 = (a1 + 3) by unfold nm3; rw [(bR_at (p := a1) k82887 (fun _ => rfl) ew2 (((jw_ne e82887 (Or.inl (by decide))).trans ev82638)) (by omega) (by omega)), (bR_at (p := (a1 + 1)) k82887 (fun _ => rfl) ew2 (((jw_ne e82887 (Or.inl (by decide))).trans ev82682)) (by omega) (by omega)), (bR_at (p := (a1 + 2)) k82887 (fun _ => rfl) ew2 (((jw_ne e82887 (Or.inl (by decide))).trans ev82763)) (by omega) (by omega))]; (repeat' split) <;> omega, if_neg (by omega)])]; exact ⟨rfl, by rw [(bR_at (p := (a1 + 3)) k82887 (fun _ => rfl) ew2 (((jw_ne e82887 (Or.inl (by decide))).trans ev82841)) (by omega) (by omega))]; omega⟩)⟩) ((jw_eq e82887)))⟩
    · refine ev_iconst ?_
      refine ev_goto f269_17 ?_
      refine ev_istore (L' := [(2, 42), (0, a1), (0, 1), (0, a1), (0, 1), (9, 0), (9, 0)]) (Nat.le_of_ble_eq_true rfl) rfl ?_
      refine ev_iload rfl ?_
      refine ev_ifeq f269_27 (fun c82888 => absurd c82888 (by omega)) (fun c82888 => ?_)
      refine ev_iinc (w := (a1 + 1)) (L' := [(2, 42), (0, a1), (0, 1), (0, (a1 + 1)), (0, 1), (9, 0), (9, 0)]) rfl (by unfold w32; omega) rfl ?_
      refine ev_aload_n rfl ?_
      refine ev_iload_n rfl ?_
      refine ev_in (d := 1) (a := 0) (b := 0) (cd' := c265_0) (m := 2) (L0 := [(2, 42), (0, (a1 + 1))]) (jcall_v (A := [(0, (a1 + 1))]) (S' := []) (r := 42) rfl (g.lt ad42) (g.tg ad42) (Nat.le_of_ble_eq_true rfl)) (by decide) ml265 pp265 (Nat.le_of_ble_eq_true rfl) rfl (by decide) (by decide) ?_
      refine ev_aload_n rfl ?_
      refine ev_iload_n rfl ?_
      refine ev_in (d := 0) (a := 0) (b := 0) (cd' := c264_0) (m := 2) (L0 := [(2, 42), (0, (a1 + 1))]) (jcall_v (A := [(0, (a1 + 1))]) (S' := []) (r := 42) rfl (g.lt ad42) (g.tg ad42) (Nat.le_of_ble_eq_true rfl)) (by decide) ml264 pp264 (Nat.le_of_ble_eq_true rfl) rfl (by decide) (by decide) ?_
      refine ev_iload_n rfl ?_
      refine ev_aload_n rfl ?_
      refine g_getv (r := 42) (v := w2) g ad42 (by decide) ft12_17 (ew2) ?_
      refine ev_icmpge f264_17 (fun c82889 => ?_) (fun c82889 => ?_)
      · refine ev_iconst ?_
        refine ev_ret rfl (by decide) (by decide) ?_
        show jEv _ _ _ _ _ _ _ (_, [(2, 42), (0, (a1 + 1))], [(0, (-1))], _, _, _)
        refine ev_bipush ?_
        refine ev_bipush ?_
        refine ev_in (d := 0) (a := 0) (b := 0) (cd' := c242_0) (m := 3) (L0 := [(0, (-1)), (0, 48), (0, 57)]) (jcall_s (A := [(0, 57), (0, 48), (0, (-1))]) (S' := []) (by decide) rfl (Nat.le_of_ble_eq_true rfl)) (by decide) ml242 pp242 (Nat.le_of_ble_eq_true rfl) rfl (by decide) (by decide) ?_
        refine ev_iload_n rfl ?_
        refine ev_iload_n rfl ?_
        refine ev_icmplt f242_14 (fun c82890 => ?_) (fun c82890 => absurd c82890 (by omega))
        refine ev_iconst ?_
        refine ev_ret rfl (by decide) (by decide) ?_
        show jEv _ _ _ _ _ _ _ (_, [(2, 42), (0, (a1 + 1))], [(0, 0)], _, _, _)
        refine ev_ret rfl (by decide) (by decide) ?_
        show jEv _ _ _ _ _ _ _ (_, [(2, 42), (0, a1), (0, 1), (0, (a1 + 1)), (0, 1), (9, 0), (9, 0)], [(0, 0)], _, _, _)
        refine ev_ifne f269_41 (fun c82891 => absurd c82891 (by omega)) (fun c82891 => ?_)
        refine ev_aload_n rfl ?_
        refine ev_iload_n rfl ?_
        refine ev_in (d := 1) (a := 0) (b := 0) (cd' := c266_0) (m := 2) (L0 := [(2, 42), (0, (a1 + 1))]) (jcall_v (A := [(0, (a1 + 1))]) (S' := []) (r := 42) rfl (g.lt ad42) (g.tg ad42) (Nat.le_of_ble_eq_true rfl)) (by decide) ml266 pp266 (Nat.le_of_ble_eq_true rfl) rfl (by decide) (by decide) ?_
        refine ev_aload_n rfl ?_
        refine ev_iload_n rfl ?_
        refine g_putf (r := 42) g ad42 (by decide) ft12_20 (by decide) (fun e => absurd e nz12_20) rf42_20 (by decide) (by omega) (by omega) (fun h82892 e82892 g82892 => ?_)
        have k82892 := k0.wr e82892 rfl
        refine ev_iconst ?_
        refine ev_ret rfl (by decide) (by decide) ?_
        show jEv _ _ _ _ _ _ _ (_, [(2, 42), (0, a1), (0, 1), (0, (a1 + 1)), (0, 1), (9, 0), (9, 0)], [(0, (-1))], _, _, _)
        exact ev_ret rfl (by decide) (by decide) ⟨⟨_, rfl, by omega, by omega, g82892, k82892⟩, fun r hr h0 => by cases hr; exfalso; omega, fun r hr => by cases hr; exact ⟨_, (((jw_ne e82892 (Or.inr (by decide))).trans ew1)), by omega, by omega, (Fr.kp (Fr.rf _ _) ((Kp.rf [(42, 0)] _).wr e82892 rfl) (fun _ => rfl) (fun _ => rfl) (fun _ => rfl) (fun _ => rfl)), fun h0 => by exfalso; omega, fun h0 => by exfalso; omega⟩, fun r hr => by cases hr; exact (Bd.M (bd_rF (p := (a1 + 1)) (by rw [if_pos ((bR_at (p := a1) k82892 (fun _ => rfl) ew2 (((jw_ne e82892 (Or.inl (by decide))).trans ev82638)) (by omega) (by omega)).trans (by omega))]; unfold enR; rw [if_pos (by unfold nm3; rw [show (a1 + 1 + 1 : Int) = a1 + 2 by omega, show (a1 + 1 + 2 : Int) = a1 + 3 by omega, (bR_end (p := (a1 + 1)) ew2 (by omega))]; (repeat' split) <;> omega)]) (by omega) (by omega)) ((jw_eq e82892)))⟩
      · refine ev_aload_n rfl ?_
        refine g_getp (r := 42) (c := 54) g ad42 (by decide) (by decide) rf42_16 ft12_16 ?_
        refine ev_iload_n rfl ?_
        refine g_bald g ad54 rt54 (by omega) (by omega) (fun v82893 ev82893 lv82893 uv82893 => ?_)
        refine ev_goto f264_18 ?_
        refine ev_ret rfl (by decide) (by decide) ?_
        show jEv _ _ _ _ _ _ _ (_, [(2, 42), (0, (a1 + 1))], [(0, v82893)], _, _, _)
        refine ev_bipush ?_
        refine ev_bipush ?_
        refine ev_in (d := 0) (a := 0) (b := 0) (cd' := c242_0) (m := 3) (L0 := [(0, v82893), (0, 48), (0, 57)]) (jcall_s (A := [(0, 57), (0, 48), (0, v82893)]) (S' := []) (by decide) rfl (Nat.le_of_ble_eq_true rfl)) (by decide) ml242 pp242 (Nat.le_of_ble_eq_true rfl) rfl (by decide) (by decide) ?_
        refine ev_iload_n rfl ?_
        refine ev_iload_n rfl ?_
        refine ev_icmplt f242_14 (fun c82894 => ?_) (fun c82894 => ?_)
        · refine ev_iconst ?_
          refine ev_ret rfl (by decide) (by decide) ?_
          show jEv _ _ _ _ _ _ _ (_, [(2, 42), (0, (a1 + 1))], [(0, 0)], _, _, _)
          refine ev_ret rfl (by decide) (by decide) ?_
          show jEv _ _ _ _ _ _ _ (_, [(2, 42), (0, a1), (0, 1), (0, (a1 + 1)), (0, 1), (9, 0), (9, 0)], [(0, 0)], _, _, _)
          refine ev_ifne f269_41 (fun c82895 => absurd c82895 (by omega)) (fun c82895 => ?_)
          refine ev_aload_n rfl ?_
          refine ev_iload_n rfl ?_
          refine ev_in (d := 1) (a := 0) (b := 0) (cd' := c266_0) (m := 2) (L0 := [(2, 42), (0, (a1 + 1))]) (jcall_v (A := [(0, (a1 + 1))]) (S' := []) (r := 42) rfl (g.lt ad42) (g.tg ad42) (Nat.le_of_ble_eq_true rfl)) (by decide) ml266 pp266 (Nat.le_of_ble_eq_true rfl) rfl (by decide) (by decide) ?_
          refine ev_aload_n rfl ?_
          refine ev_iload_n rfl ?_
          refine g_putf (r := 42) g ad42 (by decide) ft12_20 (by decide) (fun e => absurd e nz12_20) rf42_20 (by decide) (by omega) (by omega) (fun h82896 e82896 g82896 => ?_)
          have k82896 := k0.wr e82896 rfl
          refine ev_iconst ?_
          refine ev_ret rfl (by decide) (by decide) ?_
          show jEv _ _ _ _ _ _ _ (_, [(2, 42), (0, a1), (0, 1), (0, (a1 + 1)), (0, 1), (9, 0), (9, 0)], [(0, (-1))], _, _, _)
          exact ev_ret rfl (by decide) (by decide) ⟨⟨_, rfl, by omega, by omega, g82896, k82896⟩, fun r hr h0 => by cases hr; exfalso; omega, fun r hr => by cases hr; exact ⟨_, (((jw_ne e82896 (Or.inr (by decide))).trans ew1)), by omega, by omega, (Fr.kp (Fr.rf _ _) ((Kp.rf [(42, 0)] _).wr e82896 rfl) (fun _ => rfl) (fun _ => rfl) (fun _ => rfl) (fun _ => rfl)), fun h0 => by exfalso; omega, fun h0 => by exfalso; omega⟩, fun r hr => by cases hr; exact (Bd.M (bd_rF (p := (a1 + 1)) (by rw [if_pos ((bR_at (p := a1) k82896 (fun _ => rfl) ew2 (((jw_ne e82896 (Or.inl (by decide))).trans ev82638)) (by omega) (by omega)).trans (by omega))]; unfold enR; rw [if_pos (by unfold nm3; rw [show (a1 + 1 + 1 : Int) = a1 + 2 by omega, show (a1 + 1 + 2 : Int) = a1 + 3 by omega, (bR_at (p := (a1 + 1)) k82896 (fun _ => rfl) ew2 (((jw_ne e82896 (Or.inl (by decide))).trans ev82893)) (by omega) (by omega))]; (repeat' split) <;> omega)]) (by omega) (by omega)) ((jw_eq e82896)))⟩
        · refine ev_iload_n rfl ?_
          refine ev_iload_n rfl ?_
          refine ev_icmpgt f242_14 (fun c82897 => ?_) (fun c82897 => ?_)
          · refine ev_iconst ?_
            refine ev_ret rfl (by decide) (by decide) ?_
            show jEv _ _ _ _ _ _ _ (_, [(2, 42), (0, (a1 + 1))], [(0, 0)], _, _, _)
            refine ev_ret rfl (by decide) (by decide) ?_
            show jEv _ _ _ _ _ _ _ (_, [(2, 42), (0, a1), (0, 1), (0, (a1 + 1)), (0, 1), (9, 0), (9, 0)], [(0, 0)], _, _, _)
            refine ev_ifne f269_41 (fun c82898 => absurd c82898 (by omega)) (fun c82898 => ?_)
            refine ev_aload_n rfl ?_
            refine ev_iload_n rfl ?_
            refine ev_in (d := 1) (a := 0) (b := 0) (cd' := c266_0) (m := 2) (L0 := [(2, 42), (0, (a1 + 1))]) (jcall_v (A := [(0, (a1 + 1))]) (S' := []) (r := 42) rfl (g.lt ad42) (g.tg ad42) (Nat.le_of_ble_eq_true rfl)) (by decide) ml266 pp266 (Nat.le_of_ble_eq_true rfl) rfl (by decide) (by decide) ?_
            refine ev_aload_n rfl ?_
            refine ev_iload_n rfl ?_
            refine g_putf (r := 42) g ad42 (by decide) ft12_20 (by decide) (fun e => absurd e nz12_20) rf42_20 (by decide) (by omega) (by omega) (fun h82899 e82899 g82899 => ?_)
            have k82899 := k0.wr e82899 rfl
            refine ev_iconst ?_
            refine ev_ret rfl (by decide) (by decide) ?_
            show jEv _ _ _ _ _ _ _ (_, [(2, 42), (0, a1), (0, 1), (0, (a1 + 1)), (0, 1), (9, 0), (9, 0)], [(0, (-1))], _, _, _)
            exact ev_ret rfl (by decide) (by decide) ⟨⟨_, rfl, by omega, by omega, g82899, k82899⟩, fun r hr h0 => by cases hr; exfalso; omega, fun r hr => by cases hr; exact ⟨_, (((jw_ne e82899 (Or.inr (by decide))).trans ew1)), by omega, by omega, (Fr.kp (Fr.rf _ _) ((Kp.rf [(42, 0)] _).wr e82899 rfl) (fun _ => rfl) (fun _ => rfl) (fun _ => rfl) (fun _ => rfl)), fun h0 => by exfalso; omega, fun h0 => by exfalso; omega⟩, fun r hr => by cases hr; exact (Bd.M (bd_rF (p := (a1 + 1)) (by rw [if_pos ((bR_at (p := a1) k82899 (fun _ => rfl) ew2 (((jw_ne e82899 (Or.inl (by decide))).trans ev82638)) (by omega) (by omega)).trans (by omega))]; unfold enR; rw [if_pos (by unfold nm3; rw [show (a1 + 1 + 1 : Int) = a1 + 2 by omega, show (a1 + 1 + 2 : Int) = a1 + 3 by omega, (bR_at (p := (a1 + 1)) k82899 (fun _ => rfl) ew2 (((jw_ne e82899 (Or.inl (by decide))).trans ev82893)) (by omega) (by omega))]; (repeat' split) <;> omega)]) (by omega) (by omega)) ((jw_eq e82899)))⟩
          · refine ev_iconst ?_
            refine ev_goto f242_15 ?_
            refine ev_ret rfl (by decide) (by decide) ?_
            show jEv _ _ _ _ _ _ _ (_, [(2, 42), (0, (a1 + 1))], [(0, 1)], _, _, _)
            refine ev_ret rfl (by decide) (by decide) ?_
            show jEv _ _ _ _ _ _ _ (_, [(2, 42), (0, a1), (0, 1), (0, (a1 + 1)), (0, 1), (9, 0), (9, 0)], [(0, 1)], _, _, _)
            refine ev_ifne f269_41 (fun c82900 => ?_) (fun c82900 => absurd c82900 (by omega))
            refine ev_iconst ?_
            refine ev_istore (L' := [(2, 42), (0, a1), (0, 1), (0, (a1 + 1)), (0, 1), (0, 0), (9, 0)]) (Nat.le_of_ble_eq_true rfl) rfl ?_
            refine ev_iconst ?_
            refine ev_istore (L' := [(2, 42), (0, a1), (0, 1), (0, (a1 + 1)), (0, 1), (0, 0), (0, 0)]) (Nat.le_of_ble_eq_true rfl) rfl ?_
            refine ev_iload rfl ?_
            refine ev_iconst ?_
            refine ev_icmpge f269_86 (fun c82901 => absurd c82901 (by omega)) (fun c82901 => ?_)
            refine ev_aload_n rfl ?_
            refine ev_iload_n rfl ?_
            refine ev_in (d := 1) (a := 0) (b := 0) (cd' := c265_0) (m := 2) (L0 := [(2, 42), (0, (a1 + 1))]) (jcall_v (A := [(0, (a1 + 1))]) (S' := []) (r := 42) rfl (g.lt ad42) (g.tg ad42) (Nat.le_of_ble_eq_true rfl)) (by decide) ml265 pp265 (Nat.le_of_ble_eq_true rfl) rfl (by decide) (by decide) ?_
            refine ev_aload_n rfl ?_
            refine ev_iload_n rfl ?_
            refine ev_in (d := 0) (a := 0) (b := 0) (cd' := c264_0) (m := 2) (L0 := [(2, 42), (0, (a1 + 1))]) (jcall_v (A := [(0, (a1 + 1))]) (S' := []) (r := 42) rfl (g.lt ad42) (g.tg ad42) (Nat.le_of_ble_eq_true rfl)) (by decide) ml264 pp264 (Nat.le_of_ble_eq_true rfl) rfl (by decide) (by decide) ?_
            refine ev_iload_n rfl ?_
            refine ev_aload_n rfl ?_
            refine g_getv (r := 42) (v := w2) g ad42 (by decide) ft12_17 (ew2) ?_
            refine ev_icmpge f264_17 (fun c82902 => absurd c82902 (by omega)) (fun c82902 => ?_)
            refine ev_aload_n rfl ?_
            refine g_getp (r := 42) (c := 54) g ad42 (by decide) (by decide) rf42_16 ft12_16 ?_
            refine ev_iload_n rfl ?_
            refine g_baldv (v := v82893) g ad54 (by omega) (by omega) (ev82893) ?_
            refine ev_goto f264_18 ?_
            refine ev_ret rfl (by decide) (by decide) ?_
            show jEv _ _ _ _ _ _ _ (_, [(2, 42), (0, (a1 + 1))], [(0, v82893)], _, _, _)
            refine ev_bipush ?_
            refine ev_bipush ?_
            refine ev_in (d := 0) (a := 0) (b := 0) (cd' := c242_0) (m := 3) (L0 := [(0, v82893), (0, 48), (0, 57)]) (jcall_s (A := [(0, 57), (0, 48), (0, v82893)]) (S' := []) (by decide) rfl (Nat.le_of_ble_eq_true rfl)) (by decide) ml242 pp242 (Nat.le_of_ble_eq_true rfl) rfl (by decide) (by decide) ?_
            refine ev_iload_n rfl ?_
            refine ev_iload_n rfl ?_
            refine ev_icmplt f242_14 (fun c82903 => absurd c82903 (by omega)) (fun c82903 => ?_)
            refine ev_iload_n rfl ?_
            refine ev_iload_n rfl ?_
            refine ev_icmpgt f242_14 (fun c82904 => absurd c82904 (by omega)) (fun c82904 => ?_)
            refine ev_iconst ?_
            refine ev_goto f242_15 ?_
            refine ev_ret rfl (by decide) (by decide) ?_
            show jEv _ _ _ _ _ _ _ (_, [(2, 42), (0, (a1 + 1))], [(0, 1)], _, _, _)
            refine ev_ret rfl (by decide) (by decide) ?_
            show jEv _ _ _ _ _ _ _ (_, [(2, 42), (0, a1), (0, 1), (0, (a1 + 1)), (0, 1), (0, 0), (0, 0)], [(0, 1)], _, _, _)
            refine ev_ifeq f269_86 (fun c82905 => absurd c82905 (by omega)) (fun c82905 => ?_)
            refine ev_bipush ?_
            refine ev_iload rfl ?_
            refine ev_imul (r := 0) (by decide) ?_
            refine ev_aload_n rfl ?_
            refine ev_iload_n rfl ?_
            refine ev_in (d := 1) (a := 0) (b := 0) (cd' := c264_0) (m := 2) (L0 := [(2, 42), (0, (a1 + 1))]) (jcall_v (A := [(0, (a1 + 1))]) (S' := [(0, 0)]) (r := 42) rfl (g.lt ad42) (g.tg ad42) (Nat.le_of_ble_eq_true rfl)) (by decide) ml264 pp264 (Nat.le_of_ble_eq_true rfl) rfl (by decide) (by decide) ?_
            refine ev_iload_n rfl ?_
            refine ev_aload_n rfl ?_
            refine g_getv (r := 42) (v := w2) g ad42 (by decide) ft12_17 (ew2) ?_
            refine ev_icmpge f264_17 (fun c82906 => absurd c82906 (by omega)) (fun c82906 => ?_)
            refine ev_aload_n rfl ?_
            refine g_getp (r := 42) (c := 54) g ad42 (by decide) (by decide) rf42_16 ft12_16 ?_
            refine ev_iload_n rfl ?_
            refine g_baldv (v := v82893) g ad54 (by omega) (by omega) (ev82893) ?_
            refine ev_goto f264_18 ?_
            refine ev_ret rfl (by decide) (by decide) ?_
            show jEv _ _ _ _ _ _ _ (_, [(2, 42), (0, a1), (0, 1), (0, (a1 + 1)), (0, 1), (0, 0), (0, 0)], [(0, v82893), (0, 0)], _, _, _)
            refine ev_iadd (r := v82893) (by unfold w32; omega) ?_
            refine ev_bipush ?_
            refine ev_isub (r := (v82893 - 48)) (by unfold w32; omega) ?_
            refine ev_istore (L' := [(2, 42), (0, a1), (0, 1), (0, (a1 + 1)), (0, 1), (0, (v82893 - 48)), (0, 0)]) (Nat.le_of_ble_eq_true rfl) rfl ?_
            refine ev_iinc (w := 1) (L' := [(2, 42), (0, a1), (0, 1), (0, (a1 + 1)), (0, 1), (0, (v82893 - 48)), (0, 1)]) rfl (by decide) rfl ?_
            refine ev_iinc (w := (a1 + 2)) (L' := [(2, 42), (0, a1), (0, 1), (0, (a1 + 2)), (0, 1), (0, (v82893 - 48)), (0, 1)]) rfl (by unfold w32; omega) rfl ?_
            refine ev_goto f269_47 ?_
            refine ev_iload rfl ?_
            refine ev_iconst ?_
            refine ev_icmpge f269_86 (fun c82907 => absurd c82907 (by omega)) (fun c82907 => ?_)
            refine ev_aload_n rfl ?_
            refine ev_iload_n rfl ?_
            refine ev_in (d := 1) (a := 0) (b := 0) (cd' := c265_0) (m := 2) (L0 := [(2, 42), (0, (a1 + 2))]) (jcall_v (A := [(0, (a1 + 2))]) (S' := []) (r := 42) rfl (g.lt ad42) (g.tg ad42) (Nat.le_of_ble_eq_true rfl)) (by decide) ml265 pp265 (Nat.le_of_ble_eq_true rfl) rfl (by decide) (by decide) ?_
            refine ev_aload_n rfl ?_
            refine ev_iload_n rfl ?_
            refine ev_in (d := 0) (a := 0) (b := 0) (cd' := c264_0) (m := 2) (L0 := [(2, 42), (0, (a1 + 2))]) (jcall_v (A := [(0, (a1 + 2))]) (S' := []) (r := 42) rfl (g.lt ad42) (g.tg ad42) (Nat.le_of_ble_eq_true rfl)) (by decide) ml264 pp264 (Nat.le_of_ble_eq_true rfl) rfl (by decide) (by decide) ?_
            refine ev_iload_n rfl ?_
            refine ev_aload_n rfl ?_
            refine g_getv (r := 42) (v := w2) g ad42 (by decide) ft12_17 (ew2) ?_
            refine ev_icmpge f264_17 (fun c82908 => ?_) (fun c82908 => ?_)
            · refine ev_iconst ?_
              refine ev_ret rfl (by decide) (by decide) ?_
              show jEv _ _ _ _ _ _ _ (_, [(2, 42), (0, (a1 + 2))], [(0, (-1))], _, _, _)
              refine ev_bipush ?_
              refine ev_bipush ?_
              refine ev_in (d := 0) (a := 0) (b := 0) (cd' := c242_0) (m := 3) (L0 := [(0, (-1)), (0, 48), (0, 57)]) (jcall_s (A := [(0, 57), (0, 48), (0, (-1))]) (S' := []) (by decide) rfl (Nat.le_of_ble_eq_true rfl)) (by decide) ml242 pp242 (Nat.le_of_ble_eq_true rfl) rfl (by decide) (by decide) ?_
              refine ev_iload_n rfl ?_
              refine ev_iload_n rfl ?_
              refine ev_icmplt f242_14 (fun c82909 => ?_) (fun c82909 => absurd c82909 (by omega))
              refine ev_iconst ?_
              refine ev_ret rfl (by decide) (by decide) ?_
              show jEv _ _ _ _ _ _ _ (_, [(2, 42), (0, (a1 + 2))], [(0, 0)], _, _, _)
              refine ev_ret rfl (by decide) (by decide) ?_
              show jEv _ _ _ _ _ _ _ (_, [(2, 42), (0, a1), (0, 1), (0, (a1 + 2)), (0, 1), (0, (v82893 - 48)), (0, 1)], [(0, 0)], _, _, _)
              refine ev_ifeq f269_86 (fun c82910 => ?_) (fun c82910 => absurd c82910 (by omega))
              refine ev_aload_n rfl ?_
              refine ev_iload_n rfl ?_
              refine ev_in (d := 1) (a := 0) (b := 0) (cd' := c265_0) (m := 2) (L0 := [(2, 42), (0, (a1 + 2))]) (jcall_v (A := [(0, (a1 + 2))]) (S' := []) (r := 42) rfl (g.lt ad42) (g.tg ad42) (Nat.le_of_ble_eq_true rfl)) (by decide) ml265 pp265 (Nat.le_of_ble_eq_true rfl) rfl (by decide) (by decide) ?_
              refine ev_aload_n rfl ?_
              refine ev_iload_n rfl ?_
              refine ev_in (d := 0) (a := 0) (b := 0) (cd' := c264_0) (m := 2) (L0 := [(2, 42), (0, (a1 + 2))]) (jcall_v (A := [(0, (a1 + 2))]) (S' := []) (r := 42) rfl (g.lt ad42) (g.tg ad42) (Nat.le_of_ble_eq_true rfl)) (by decide) ml264 pp264 (Nat.le_of_ble_eq_true rfl) rfl (by decide) (by decide) ?_
              refine ev_iload_n rfl ?_
              refine ev_aload_n rfl ?_
              refine g_getv (r := 42) (v := w2) g ad42 (by decide) ft12_17 (ew2) ?_
              refine ev_icmpge f264_17 (fun c82911 => ?_) (fun c82911 => absurd c82911 (by omega))
              refine ev_iconst ?_
              refine ev_ret rfl (by decide) (by decide) ?_
              show jEv _ _ _ _ _ _ _ (_, [(2, 42), (0, (a1 + 2))], [(0, (-1))], _, _, _)
              refine ev_bipush ?_
              refine ev_bipush ?_
              refine ev_in (d := 0) (a := 0) (b := 0) (cd' := c242_0) (m := 3) (L0 := [(0, (-1)), (0, 48), (0, 57)]) (jcall_s (A := [(0, 57), (0, 48), (0, (-1))]) (S' := []) (by decide) rfl (Nat.le_of_ble_eq_true rfl)) (by decide) ml242 pp242 (Nat.le_of_ble_eq_true rfl) rfl (by decide) (by decide) ?_
              refine ev_iload_n rfl ?_
              refine ev_iload_n rfl ?_
              refine ev_icmplt f242_14 (fun c82912 => ?_) (fun c82912 => absurd c82912 (by omega))
              refine ev_iconst ?_
              refine ev_ret rfl (by decide) (by decide) ?_
              show jEv _ _ _ _ _ _ _ (_, [(2, 42), (0, (a1 + 2))], [(0, 0)], _, _, _)
              refine ev_ret rfl (by decide) (by decide) ?_
              show jEv _ _ _ _ _ _ _ (_, [(2, 42), (0, a1), (0, 1), (0, (a1 + 2)), (0, 1), (0, (v82893 - 48)), (0, 1)], [(0, 0)], _, _, _)
              refine ev_ifeq f269_100 (fun c82913 => ?_) (fun c82913 => absurd c82913 (by omega))
              refine ev_aload_n rfl ?_
              refine ev_iload_n rfl ?_
              refine ev_iconst ?_
              refine ev_iload rfl ?_
              refine ev_ifeq f269_114 (fun c82914 => absurd c82914 (by omega)) (fun c82914 => ?_)
              refine ev_iload rfl ?_
              refine ev_ineg (r := ((-v82893) + 48)) (by unfold w32; omega) ?_
              refine ev_goto f269_116 ?_
              refine ev_in (d := 1) (a := 0) (b := 0) (cd' := c267_0) (m := 6) (L0 := [(2, 42), (0, 1), (0, 0), (0, ((-v82893) + 48)), (9, 0), (9, 0)]) (jcall_v (A := [(0, ((-v82893) + 48)), (0, 0), (0, 1)]) (S' := []) (r := 42) rfl (g.lt ad42) (g.tg ad42) (Nat.le_of_ble_eq_true rfl)) (by decide) ml267 pp267 (Nat.le_of_ble_eq_true rfl) rfl (by decide) (by decide) ?_
              refine ev_iload_n rfl ?_
              refine ev_ifne f267_6 (fun c82915 => ?_) (fun c82915 => absurd c82915 (by omega))
              refine ev_aload_n rfl ?_
              refine ev_dup (by decide) ?_
              refine g_getv (r := 42) (v := w1) g ad42 (by decide) ft12_21 (ew1) ?_
              refine ev_iconst ?_
              refine ev_iadd (r := (w1 + 1)) (by unfold w32; omega) ?_
              refine g_putf (r := 42) g ad42 (by decide) ft12_21 (by decide) (fun e => absurd e nz12_21) rf42_21 (by decide) (by omega) (by omega) (fun h82916 e82916 g82916 => ?_)
              have k82916 := k0.wr e82916 rfl
              refine ev_aload_n rfl ?_
              refine g_getv (r := 42) (v := (w1 + 1)) g82916 ad42 (by decide) ft12_21 ((jw_eq e82916)) ?_
              refine ev_bipush ?_
              refine ev_icmple f267_27 (fun c82917 => ?_) (fun c82917 => absurd c82917 (by omega))
              refine ev_bipush ?_
              refine ev_aload_n rfl ?_
              refine g_getv (r := 42) (v := w0) g82916 ad42 (by decide) ft12_9 (((jw_ne e82916 (Or.inr (by decide))).trans ew0)) ?_
              refine ev_imul (r := (100 * w0)) (by unfold w32; omega) ?_
              refine ev_aload_n rfl ?_
              refine g_getv (r := 42) (v := (w1 + 1)) g82916 ad42 (by decide) ft12_21 ((jw_eq e82916)) ?_
              refine ev_iadd (r := (100 * w0 + w1 + 1)) (by unfold w32; omega) ?_
              refine ev_iconst ?_
              refine ev_isub (r := (100 * w0 + w1)) (by unfold w32; omega) ?_
              refine ev_istore (L' := [(2, 42), (0, 1), (0, 0), (0, ((-v82893) + 48)), (0, (100 * w0 + w1)), (9, 0)]) (Nat.le_of_ble_eq_true rfl) rfl ?_
              refine ev_aload_n rfl ?_
              refine g_getp (r := 42) (c := 49) g82916 ad42 (by decide) (by decide) rf42_11 ft12_11 ?_
              refine ev_iload rfl ?_
              refine ev_iload_n rfl ?_
              refine ev_i2b (r := 0) (by unfold w8; omega) ?_
              refine ev_bastG (r := 49) (j := ((100 * w0 + w1)).toNat) (w := 0) (g82916.lt ad49) (g82916.tg ad49) (by omega) (by rw [g82916.ln ad49]; omega) (by unfold w8; omega) (fun h82918 e82918 => ?_)
              have g82918 := g82916.s49 e82918 (by rw [(((jw_ne e82916 (Or.inr (by decide))).trans ew0))]; omega) (by omega) (by omega)
              have k82918 := k82916.wr e82918 rfl
              refine ev_aload_n rfl ?_
              refine g_getp (r := 42) (c := 50) g82918 ad42 (by decide) (by decide) rf42_12 ft12_12 ?_
              refine ev_iload rfl ?_
              refine ev_iload_n rfl ?_
              refine ev_iastG (r := 50) (j := ((100 * w0 + w1)).toNat) (g82918.lt ad50) (g82918.tg ad50) (by omega) (by rw [g82918.ln ad50]; omega) (fun h82919 e82919 => ?_)
              have g82919 := g82918.s50 e82919 (Or.inl (by rw [(((jw_ne e82918 (Or.inl (by decide))).trans ((jw_ne e82916 (Or.inr (by decide))).trans ew0)))]; omega)) (by omega) (by omega)
              have k82919 := k82918.wr e82919 rfl
              refine ev_aload_n rfl ?_
              refine g_getp (r := 42) (c := 53) g82919 ad42 (by decide) (by decide) rf42_15 ft12_15 ?_
              refine ev_iload rfl ?_
              refine ev_iconst ?_
              refine ev_bastG (r := 53) (j := ((100 * w0 + w1)).toNat) (w := 0) (g82919.lt ad53) (g82919.tg ad53) (by omega) (by rw [g82919.ln ad53]; omega) (by unfold w8; omega) (fun h82920 e82920 => ?_)
              have g82920 := g82919.s53 e82920 (Or.inl (by rw [(((jw_ne e82919 (Or.inl (by decide))).trans ((jw_ne e82918 (Or.inl (by decide))).trans ((jw_ne e82916 (Or.inr (by decide))).trans ew0))))]; omega)) (by omega) (by omega)
              have k82920 := k82919.wr e82920 rfl
              refine ev_iconst ?_
              refine ev_istore (L' := [(2, 42), (0, 1), (0, 0), (0, ((-v82893) + 48)), (0, (100 * w0 + w1)), (0, 0)]) (Nat.le_of_ble_eq_true rfl) rfl ?_
              refine ev_iload rfl ?_
              refine ev_iconst ?_
              refine ev_icmpge f267_109 (fun c82921 => absurd c82921 (by omega)) (fun c82921 => ?_)
              refine ev_aload_n rfl ?_
              refine g_getp (r := 42) (c := 51) g82920 ad42 (by decide) (by decide) rf42_13 ft12_13 ?_
              refine ev_iconst ?_
              refine ev_iload rfl ?_
              refine ev_imul (r := (400 * w0 + 4 * w1)) (by unfold w32; omega) ?_
              refine ev_iload rfl ?_
              refine ev_iadd (r := (400 * w0 + 4 * w1)) (by unfold w32; omega) ?_
              refine ev_iconst ?_
              refine ev_bastG (r := 51) (j := ((400 * w0 + 4 * w1)).toNat) (w := (-1)) (g82920.lt ad51) (g82920.tg ad51) (by omega) (by rw [g82920.ln ad51]; omega) (by unfold w8; omega) (fun h82922 e82922 => ?_)
              have g82922 := g82920.s51 e82922 (by rw [(((jw_ne e82920 (Or.inl (by decide))).trans ((jw_ne e82919 (Or.inl (by decide))).trans ((jw_ne e82918 (Or.inl (by decide))).trans ((jw_ne e82916 (Or.inr (by decide))).trans ew0)))))]; omega) (by omega) (by omega)
              have k82922 := k82920.wr e82922 rfl
              refine ev_aload_n rfl ?_
              refine g_getp (r := 42) (c := 52) g82922 ad42 (by decide) (by decide) rf42_14 ft12_14 ?_
              refine ev_iconst ?_
              refine ev_iload rfl ?_
              refine ev_imul (r := (400 * w0 + 4 * w1)) (by unfold w32; omega) ?_
              refine ev_iload rfl ?_
              refine ev_iadd (r := (400 * w0 + 4 * w1)) (by unfold w32; omega) ?_
              refine ev_iconst ?_
              refine g_iast g82922 ad52 rt52 (fun _ => rfl) (by omega) (by omega) (by omega) (by omega) (fun h82923 e82923 g82923 => ?_)
              have k82923 := k82922.wr e82923 rfl
              refine ev_iinc (w := 1) (L' := [(2, 42), (0, 1), (0, 0), (0, ((-v82893) + 48)), (0, (100 * w0 + w1)), (0, 1)]) rfl (by decide) rfl ?_
              refine ev_goto f267_71 ?_
              refine ev_iload rfl ?_
              refine ev_iconst ?_
              refine ev_icmpge f267_109 (fun c82924 => absurd c82924 (by omega)) (fun c82924 => ?_)
              refine ev_aload_n rfl ?_
              refine g_getp (r := 42) (c := 51) g82923 ad42 (by decide) (by decide) rf42_13 ft12_13 ?_
              refine ev_iconst ?_
              refine ev_iload rfl ?_
              refine ev_imul (r := (400 * w0 + 4 * w1)) (by unfold w32; omega) ?_
              refine ev_iload rfl ?_
              refine ev_iadd (r := (400 * w0 + 4 * w1 + 1)) (by unfold w32; omega) ?_
              refine ev_iconst ?_
              refine ev_bastG (r := 51) (j := ((400 * w0 + 4 * w1 + 1)).toNat) (w := (-1)) (g82923.lt ad51) (g82923.tg ad51) (by omega) (by rw [g82923.ln ad51]; omega) (by unfold w8; omega) (fun h82925 e82925 => ?_)
              have g82925 := g82923.s51 e82925 (by rw [(((jw_ne e82923 (Or.inl (by decide))).trans ((jw_ne e82922 (Or.inl (by decide))).trans ((jw_ne e82920 (Or.inl (by decide))).trans ((jw_ne e82919 (Or.inl (by decide))).trans ((jw_ne e82918 (Or.inl (by decide))).trans ((jw_ne e82916 (Or.inr (by decide))).trans ew0)))))))]; omega) (by omega) (by omega)
              have k82925 := k82923.wr e82925 rfl
              refine ev_aload_n rfl ?_
              refine g_getp (r := 42) (c := 52) g82925 ad42 (by decide) (by decide) rf42_14 ft12_14 ?_
              refine ev_iconst ?_
              refine ev_iload rfl ?_
              refine ev_imul (r := (400 * w0 + 4 * w1)) (by unfold w32; omega) ?_
              refine ev_iload rfl ?_
              refine ev_iadd (r := (400 * w0 + 4 * w1 + 1)) (by unfold w32; omega) ?_
              refine ev_iconst ?_
              refine g_iast g82925 ad52 rt52 (fun _ => rfl) (by omega) (by omega) (by omega) (by omega) (fun h82926 e82926 g82926 => ?_)
              have k82926 := k82925.wr e82926 rfl
              refine ev_iinc (w := 2) (L' := [(2, 42), (0, 1), (0, 0), (0, ((-v82893) + 48)), (0, (100 * w0 + w1)), (0, 2)]) rfl (by decide) rfl ?_
              refine ev_goto f267_71 ?_
              refine ev_iload rfl ?_
              refine ev_iconst ?_
              refine ev_icmpge f267_109 (fun c82927 => absurd c82927 (by omega)) (fun c82927 => ?_)
              refine ev_aload_n rfl ?_
              refine g_getp (r := 42) (c := 51) g82926 ad42 (by decide) (by decide) rf42_13 ft12_13 ?_
              refine ev_iconst ?_
              refine ev_iload rfl ?_
              refine ev_imul (r := (400 * w0 + 4 * w1)) (by unfold w32; omega) ?_
              refine ev_iload rfl ?_
              refine ev_iadd (r := (400 * w0 + 4 * w1 + 2)) (by unfold w32; omega) ?_
              refine ev_iconst ?_
              refine ev_bastG (r := 51) (j := ((400 * w0 + 4 * w1 + 2)).toNat) (w := (-1)) (g82926.lt ad51) (g82926.tg ad51) (by omega) (by rw [g82926.ln ad51]; omega) (by unfold w8; omega) (fun h82928 e82928 => ?_)
              have g82928 := g82926.s51 e82928 (by rw [(((jw_ne e82926 (Or.inl (by decide))).trans ((jw_ne e82925 (Or.inl (by decide))).trans ((jw_ne e82923 (Or.inl (by decide))).trans ((jw_ne e82922 (Or.inl (by decide))).trans ((jw_ne e82920 (Or.inl (by decide))).trans ((jw_ne e82919 (Or.inl (by decide))).trans ((jw_ne e82918 (Or.inl (by decide))).trans ((jw_ne e82916 (Or.inr (by decide))).trans ew0)))))))))]; omega) (by omega) (by omega)
              have k82928 := k82926.wr e82928 rfl
              refine ev_aload_n rfl ?_
              refine g_getp (r := 42) (c := 52) g82928 ad42 (by decide) (by decide) rf42_14 ft12_14 ?_
              refine ev_iconst ?_
              refine ev_iload rfl ?_
              refine ev_imul (r := (400 * w0 + 4 * w1)) (by unfold w32; omega) ?_
              refine ev_iload rfl ?_
              refine ev_iadd (r := (400 * w0 + 4 * w1 + 2)) (by unfold w32; omega) ?_
              refine ev_iconst ?_
              refine g_iast g82928 ad52 rt52 (fun _ => rfl) (by omega) (by omega) (by omega) (by omega) (fun h82929 e82929 g82929 => ?_)
              have k82929 := k82928.wr e82929 rfl
              refine ev_iinc (w := 3) (L' := [(2, 42), (0, 1), (0, 0), (0, ((-v82893) + 48)), (0, (100 * w0 + w1)), (0, 3)]) rfl (by decide) rfl ?_
              refine ev_goto f267_71 ?_
              refine ev_iload rfl ?_
              refine ev_iconst ?_
              refine ev_icmpge f267_109 (fun c82930 => absurd c82930 (by omega)) (fun c82930 => ?_)
              refine ev_aload_n rfl ?_
              refine g_getp (r := 42) (c := 51) g82929 ad42 (by decide) (by decide) rf42_13 ft12_13 ?_
              refine ev_iconst ?_
              refine ev_iload rfl ?_
              refine ev_imul (r := (400 * w0 + 4 * w1)) (by unfold w32; omega) ?_
              refine ev_iload rfl ?_
              refine ev_iadd (r := (400 * w0 + 4 * w1 + 3)) (by unfold w32; omega) ?_
              refine ev_iconst ?_
              refine ev_bastG (r := 51) (j := ((400 * w0 + 4 * w1 + 3)).toNat) (w := (-1)) (g82929.lt ad51) (g82929.tg ad51) (by omega) (by rw [g82929.ln ad51]; omega) (by unfold w8; omega) (fun h82931 e82931 => ?_)
              have g82931 := g82929.s51 e82931 (by rw [(((jw_ne e82929 (Or.inl (by decide))).trans ((jw_ne e82928 (Or.inl (by decide))).trans ((jw_ne e82926 (Or.inl (by decide))).trans ((jw_ne e82925 (Or.inl (by decide))).trans ((jw_ne e82923 (Or.inl (by decide))).trans ((jw_ne e82922 (Or.inl (by decide))).trans ((jw_ne e82920 (Or.inl (by decide))).trans ((jw_ne e82919 (Or.inl (by decide))).trans ((jw_ne e82918 (Or.inl (by decide))).trans ((jw_ne e82916 (Or.inr (by decide))).trans ew0)))))))))))]; omega) (by omega) (by omega)
              have k82931 := k82929.wr e82931 rfl
              refine ev_aload_n rfl ?_
              refine g_getp (r := 42) (c := 52) g82931 ad42 (by decide) (by decide) rf42_14 ft12_14 ?_
              refine ev_iconst ?_
              refine ev_iload rfl ?_
              refine ev_imul (r := (400 * w0 + 4 * w1)) (by unfold w32; omega) ?_
              refine ev_iload rfl ?_
              refine ev_iadd (r := (400 * w0 + 4 * w1 + 3)) (by unfold w32; omega) ?_
              refine ev_iconst ?_
              refine g_iast g82931 ad52 rt52 (fun _ => rfl) (by omega) (by omega) (by omega) (by omega) (fun h82932 e82932 g82932 => ?_)
              have k82932 := k82931.wr e82932 rfl
              refine ev_iinc (w := 4) (L' := [(2, 42), (0, 1), (0, 0), (0, ((-v82893) + 48)), (0, (100 * w0 + w1)), (0, 4)]) rfl (by decide) rfl ?_
              refine ev_goto f267_71 ?_
              refine ev_iload rfl ?_
              refine ev_iconst ?_
              refine ev_icmpge f267_109 (fun c82933 => ?_) (fun c82933 => absurd c82933 (by omega))
              refine ev_iload rfl ?_
              refine ev_ret rfl (by decide) (by decide) ?_
              show jEv _ _ _ _ _ _ _ (_, [(2, 42), (0, a1), (0, 1), (0, (a1 + 2)), (0, 1), (0, (v82893 - 48)), (0, 1)], [(0, (100 * w0 + w1))], _, _, _)
              refine ev_pop (by decide) ?_
              refine ev_iload_n rfl ?_
              exact ev_ret rfl (by decide) (by decide) ⟨⟨_, rfl, by omega, by omega, g82932, k82932⟩, fun r hr h0 => by cases hr; exact (Ad.step (r' := (a1 + 2)) (Ad.step (r' := (a1 + 1)) (Ad.rf _ _ _) (by omega) k82932 (fun _ => rfl) (((jw_ne e82932 (Or.inl (by decide))).trans ((jw_ne e82931 (Or.inl (by decide))).trans ((jw_ne e82929 (Or.inl (by decide))).trans ((jw_ne e82928 (Or.inl (by decide))).trans ((jw_ne e82926 (Or.inl (by decide))).trans ((jw_ne e82925 (Or.inl (by decide))).trans ((jw_ne e82923 (Or.inl (by decide))).trans ((jw_ne e82922 (Or.inl (by decide))).trans ((jw_ne e82920 (Or.inl (by decide))).trans ((jw_ne e82919 (Or.inl (by decide))).trans ((jw_ne e82918 (Or.inl (by decide))).trans ((jw_ne e82916 (Or.inl (by decide))).trans ev82638))))))))))))) (by omega) (by omega) (by omega)) (by omega) k82932 (fun _ => rfl) (((jw_ne e82932 (Or.inl (by decide))).trans ((jw_ne e82931 (Or.inl (by decide))).trans ((jw_ne e82929 (Or.inl (by decide))).trans ((jw_ne e82928 (Or.inl (by decide))).trans ((jw_ne e82926 (Or.inl (by decide))).trans ((jw_ne e82925 (Or.inl (by decide))).trans ((jw_ne e82923 (Or.inl (by decide))).trans ((jw_ne e82922 (Or.inl (by decide))).trans ((jw_ne e82920 (Or.inl (by decide))).trans ((jw_ne e82919 (Or.inl (by decide))).trans ((jw_ne e82918 (Or.inl (by decide))).trans ((jw_ne e82916 (Or.inl (by decide))).trans ev82893))))))))))))) (by omega) (by omega) (by omega)), fun r hr => by cases hr; exact ⟨_, (((jw_ne e82932 (Or.inl (by decide))).trans ((jw_ne e82931 (Or.inl (by decide))).trans ((jw_ne e82929 (Or.inl (by decide))).trans ((jw_ne e82928 (Or.inl (by decide))).trans ((jw_ne e82926 (Or.inl (by decide))).trans ((jw_ne e82925 (Or.inl (by decide))).trans ((jw_ne e82923 (Or.inl (by decide))).trans ((jw_ne e82922 (Or.inl (by decide))).trans ((jw_ne e82920 (Or.inl (by decide))).trans ((jw_ne e82919 (Or.inl (by decide))).trans ((jw_ne e82918 (Or.inl (by decide))).trans (jw_eq e82916))))))))))))), by omega, by omega, (Fr.kp (Fr.w (i := (400 * w0 + 4 * w1 + 3)) (Fr.kp (Fr.w (i := (400 * w0 + 4 * w1 + 2)) (Fr.kp (Fr.w (i := (400 * w0 + 4 * w1 + 1)) (Fr.kp (Fr.w (i := (400 * w0 + 4 * w1)) (Fr.w (i := (100 * w0 + w1)) (Fr.w (i := (100 * w0 + w1)) (Fr.w (i := (100 * w0 + w1)) (Fr.kp (Fr.rf _ _) ((Kp.rf [(42, 0)] _).wr e82916 rfl) (fun _ => rfl) (fun _ => rfl) (fun _ => rfl) (fun _ => rfl)) e82918 (by omega) (by omega)) e82919 (by omega) (by omega)) e82920 (by omega) (by omega)) e82922 (by omega) (by omega)) ((Kp.rf [(52, 0)] _).wr e82923 rfl) (fun _ => rfl) (fun _ => rfl) (fun _ => rfl) (fun _ => rfl)) e82925 (by omega) (by omega)) ((Kp.rf [(52, 0)] _).wr e82926 rfl) (fun _ => rfl) (fun _ => rfl) (fun _ => rfl) (fun _ => rfl)) e82928 (by omega) (by omega)) ((Kp.rf [(52, 0)] _).wr e82929 rfl) (fun _ => rfl) (fun _ => rfl) (fun _ => rfl) (fun _ => rfl)) e82931 (by omega) (by omega)) ((Kp.rf [(52, 0)] _).wr e82932 rfl) (fun _ => rfl) (fun _ => rfl) (fun _ => rfl) (fun _ => rfl)), fun h0 => by omega, fun h0 hm => Tr.end (i := (100 * w0 + w1)) (by omega) (by omega) (by omega) (((jw_ne e82932 (Or.inl (by decide))).trans ((jw_ne e82931 (Or.inl (by decide))).trans ((jw_ne e82929 (Or.inl (by decide))).trans ((jw_ne e82928 (Or.inl (by decide))).trans ((jw_ne e82926 (Or.inl (by decide))).trans ((jw_ne e82925 (Or.inl (by decide))).trans ((jw_ne e82923 (Or.inl (by decide))).trans ((jw_ne e82922 (Or.inl (by decide))).trans ((jw_ne e82920 (Or.inl (by decide))).trans ((jw_ne e82919 (Or.inl (by decide))).trans (jw_eq e82918)))))))))))) (by omega) (by omega)⟩, fun r hr => by cases hr; exact okM (show (if bR h a1 = 45 then enR (bR h) (a1 + 1) else enR (bR h) a1) = ((a1 + 2), 0, 0, 1) by rw [if_pos ((bR_at (p := a1) k82932 (fun _ => rfl) ew2 (((jw_ne e82932 (Or.inl (by decide))).trans ((jw_ne e82931 (Or.inl (by decide))).trans ((jw_ne e82929 (Or.inl (by decide))).trans ((jw_ne e82928 (Or.inl (by decide))).trans ((jw_ne e82926 (Or.inl (by decide))).trans ((jw_ne e82925 (Or.inl (by decide))).trans ((jw_ne e82923 (Or.inl (by decide))).trans ((jw_ne e82922 (Or.inl (by decide))).trans ((jw_ne e82920 (Or.inl (by decide))).trans ((jw_ne e82919 (Or.inl (by decide))).trans ((jw_ne e82918 (Or.inl (by decide))).trans ((jw_ne e82916 (Or.inl (by decide))).trans ev82638))))))))))))) (by omega) (by omega)).trans (by omega))]; unfold enR; rw [show nm3 (bR h) (a1 + 1) = (a1 + 2) by unfold nm3; rw [show (a1 + 1 + 1 : Int) = a1 + 2 by omega, show (a1 + 1 + 2 : Int) = a1 + 3 by omega, (bR_at (p := (a1 + 1)) k82932 (fun _ => rfl) ew2 (((jw_ne e82932 (Or.inl (by decide))).trans ((jw_ne e82931 (Or.inl (by decide))).trans ((jw_ne e82929 (Or.inl (by decide))).trans ((jw_ne e82928 (Or.inl (by decide))).trans ((jw_ne e82926 (Or.inl (by decide))).trans ((jw_ne e82925 (Or.inl (by decide))).trans ((jw_ne e82923 (Or.inl (by decide))).trans ((jw_ne e82922 (Or.inl (by decide))).trans ((jw_ne e82920 (Or.inl (by decide))).trans ((jw_ne e82919 (Or.inl (by decide))).trans ((jw_ne e82918 (Or.inl (by decide))).trans ((jw_ne e82916 (Or.inl (by decide))).trans ev82893))))))))))))) (by omega) (by omega)), (bR_end (p := (a1 + 2)) ew2 (by omega))]; (repeat' split) <;> omega, if_neg (by omega)]) (by omega) (by omega) (((jw_ne e82932 (Or.inl (by decide))).trans ((jw_ne e82931 (Or.inl (by decide))).trans ((jw_ne e82929 (Or.inl (by decide))).trans ((jw_ne e82928 (Or.inl (by decide))).trans ((jw_ne e82926 (Or.inl (by decide))).trans ((jw_ne e82925 (Or.inl (by decide))).trans ((jw_ne e82923 (Or.inl (by decide))).trans ((jw_ne e82922 (Or.inl (by decide))).trans ((jw_ne e82920 (Or.inl (by decide))).trans ((jw_ne e82919 (Or.inl (by decide))).trans ((jw_ne e82918 (Or.inl (by decide))).trans (jw_eq e82916))))))))))))) (by omega)⟩
            · refine ev_aload_n rfl ?_
              refine g_getp (r := 42) (c := 54) g ad42 (by decide) (by decide) rf42_16 ft12_16 ?_
              refine ev_iload_n rfl ?_
              refine g_bald g ad54 rt54 (by omega) (by omega) (fun v82934 ev82934 lv82934 uv82934 => ?_)
              refine ev_goto f264_18 ?_
              refine ev_ret rfl (by decide) (by decide) ?_
              show jEv _ _ _ _ _ _ _ (_, [(2, 42), (0, (a1 + 2))], [(0, v82934)], _, _, _)
              refine ev_bipush ?_
              refine ev_bipush ?_
              refine ev_in (d := 0) (a := 0) (b := 0) (cd' := c242_0) (m := 3) (L0 := [(0, v82934), (0, 48), (0, 57)]) (jcall_s (A := [(0, 57), (0, 48), (0, v82934)]) (S' := []) (by decide) rfl (Nat.le_of_ble_eq_true rfl)) (by decide) ml242 pp242 (Nat.le_of_ble_eq_true rfl) rfl (by decide) (by decide) ?_
              refine ev_iload_n rfl ?_
              refine ev_iload_n rfl ?_
              refine ev_icmplt f242_14 (fun c82935 => ?_) (fun c82935 => ?_)
              · refine ev_iconst ?_
                refine ev_ret rfl (by decide) (by decide) ?_
                show jEv _ _ _ _ _ _ _ (_, [(2, 42), (0, (a1 + 2))], [(0, 0)], _, _, _)
                refine ev_ret rfl (by decide) (by decide) ?_
                show jEv _ _ _ _ _ _ _ (_, [(2, 42), (0, a1), (0, 1), (0, (a1 + 2)), (0, 1), (0, (v82893 - 48)), (0, 1)], [(0, 0)], _, _, _)
                refine ev_ifeq f269_86 (fun c82936 => ?_) (fun c82936 => absurd c82936 (by omega))
                refine ev_aload_n rfl ?_
                refine ev_iload_n rfl ?_
                refine ev_in (d := 1) (a := 0) (b := 0) (cd' := c265_0) (m := 2) (L0 := [(2, 42), (0, (a1 + 2))]) (jcall_v (A := [(0, (a1 + 2))]) (S' := []) (r := 42) rfl (g.lt ad42) (g.tg ad42) (Nat.le_of_ble_eq_true rfl)) (by decide) ml265 pp265 (Nat.le_of_ble_eq_true rfl) rfl (by decide) (by decide) ?_
                refine ev_aload_n rfl ?_
                refine ev_iload_n rfl ?_
                refine ev_in (d := 0) (a := 0) (b := 0) (cd' := c264_0) (m := 2) (L0 := [(2, 42), (0, (a1 + 2))]) (jcall_v (A := [(0, (a1 + 2))]) (S' := []) (r := 42) rfl (g.lt ad42) (g.tg ad42) (Nat.le_of_ble_eq_true rfl)) (by decide) ml264 pp264 (Nat.le_of_ble_eq_true rfl) rfl (by decide) (by decide) ?_
                refine ev_iload_n rfl ?_
                refine ev_aload_n rfl ?_
                refine g_getv (r := 42) (v := w2) g ad42 (by decide) ft12_17 (ew2) ?_
                refine ev_icmpge f264_17 (fun c82937 => absurd c82937 (by omega)) (fun c82937 => ?_)
                refine ev_aload_n rfl ?_
                refine g_getp (r := 42) (c := 54) g ad42 (by decide) (by decide) rf42_16 ft12_16 ?_
                refine ev_iload_n rfl ?_
                refine g_baldv (v := v82934) g ad54 (by omega) (by omega) (ev82934) ?_
                refine ev_goto f264_18 ?_
                refine ev_ret rfl (by decide) (by decide) ?_
                show jEv _ _ _ _ _ _ _ (_, [(2, 42), (0, (a1 + 2))], [(0, v82934)], _, _, _)
                refine ev_bipush ?_
                refine ev_bipush ?_
                refine ev_in (d := 0) (a := 0) (b := 0) (cd' := c242_0) (m := 3) (L0 := [(0, v82934), (0, 48), (0, 57)]) (jcall_s (A := [(0, 57), (0, 48), (0, v82934)]) (S' := []) (by decide) rfl (Nat.le_of_ble_eq_true rfl)) (by decide) ml242 pp242 (Nat.le_of_ble_eq_true rfl) rfl (by decide) (by decide) ?_
                refine ev_iload_n rfl ?_
                refine ev_iload_n rfl ?_
                refine ev_icmplt f242_14 (fun c82938 => ?_) (fun c82938 => absurd c82938 (by omega))
                refine ev_iconst ?_
                refine ev_ret rfl (by decide) (by decide) ?_
                show jEv _ _ _ _ _ _ _ (_, [(2, 42), (0, (a1 + 2))], [(0, 0)], _, _, _)
                refine ev_ret rfl (by decide) (by decide) ?_
                show jEv _ _ _ _ _ _ _ (_, [(2, 42), (0, a1), (0, 1), (0, (a1 + 2)), (0, 1), (0, (v82893 - 48)), (0, 1)], [(0, 0)], _, _, _)
                refine ev_ifeq f269_100 (fun c82939 => ?_) (fun c82939 => absurd c82939 (by omega))
                refine ev_aload_n rfl ?_
                refine ev_iload_n rfl ?_
                refine ev_iconst ?_
                refine ev_iload rfl ?_
                refine ev_ifeq f269_114 (fun c82940 => absurd c82940 (by omega)) (fun c82940 => ?_)
                refine ev_iload rfl ?_
                refine ev_ineg (r := ((-v82893) + 48)) (by unfold w32; omega) ?_
                refine ev_goto f269_116 ?_
                refine ev_in (d := 1) (a := 0) (b := 0) (cd' := c267_0) (m := 6) (L0 := [(2, 42), (0, 1), (0, 0), (0, ((-v82893) + 48)), (9, 0), (9, 0)]) (jcall_v (A := [(0, ((-v82893) + 48)), (0, 0), (0, 1)]) (S' := []) (r := 42) rfl (g.lt ad42) (g.tg ad42) (Nat.le_of_ble_eq_true rfl)) (by decide) ml267 pp267 (Nat.le_of_ble_eq_true rfl) rfl (by decide) (by decide) ?_
                refine ev_iload_n rfl ?_
                refine ev_ifne f267_6 (fun c82941 => ?_) (fun c82941 => absurd c82941 (by omega))
                refine ev_aload_n rfl ?_
                refine ev_dup (by decide) ?_
                refine g_getv (r := 42) (v := w1) g ad42 (by decide) ft12_21 (ew1) ?_
                refine ev_iconst ?_
                refine ev_iadd (r := (w1 + 1)) (by unfold w32; omega) ?_
                refine g_putf (r := 42) g ad42 (by decide) ft12_21 (by decide) (fun e => absurd e nz12_21) rf42_21 (by decide) (by omega) (by omega) (fun h82942 e82942 g82942 => ?_)
                have k82942 := k0.wr e82942 rfl
                refine ev_aload_n rfl ?_
                refine g_getv (r := 42) (v := (w1 + 1)) g82942 ad42 (by decide) ft12_21 ((jw_eq e82942)) ?_
                refine ev_bipush ?_
                refine ev_icmple f267_27 (fun c82943 => ?_) (fun c82943 => absurd c82943 (by omega))
                refine ev_bipush ?_
                refine ev_aload_n rfl ?_
                refine g_getv (r := 42) (v := w0) g82942 ad42 (by decide) ft12_9 (((jw_ne e82942 (Or.inr (by decide))).trans ew0)) ?_
                refine ev_imul (r := (100 * w0)) (by unfold w32; omega) ?_
                refine ev_aload_n rfl ?_
                refine g_getv (r := 42) (v := (w1 + 1)) g82942 ad42 (by decide) ft12_21 ((jw_eq e82942)) ?_
                refine ev_iadd (r := (100 * w0 + w1 + 1)) (by unfold w32; omega) ?_
                refine ev_iconst ?_
                refine ev_isub (r := (100 * w0 + w1)) (by unfold w32; omega) ?_
                refine ev_istore (L' := [(2, 42), (0, 1), (0, 0), (0, ((-v82893) + 48)), (0, (100 * w0 + w1)), (9, 0)]) (Nat.le_of_ble_eq_true rfl) rfl ?_
                refine ev_aload_n rfl ?_
                refine g_getp (r := 42) (c := 49) g82942 ad42 (by decide) (by decide) rf42_11 ft12_11 ?_
                refine ev_iload rfl ?_
                refine ev_iload_n rfl ?_
                refine ev_i2b (r := 0) (by unfold w8; omega) ?_
                refine ev_bastG (r := 49) (j := ((100 * w0 + w1)).toNat) (w := 0) (g82942.lt ad49) (g82942.tg ad49) (by omega) (by rw [g82942.ln ad49]; omega) (by unfold w8; omega) (fun h82944 e82944 => ?_)
                have g82944 := g82942.s49 e82944 (by rw [(((jw_ne e82942 (Or.inr (by decide))).trans ew0))]; omega) (by omega) (by omega)
                have k82944 := k82942.wr e82944 rfl
                refine ev_aload_n rfl ?_
                refine g_getp (r := 42) (c := 50) g82944 ad42 (by decide) (by decide) rf42_12 ft12_12 ?_
                refine ev_iload rfl ?_
                refine ev_iload_n rfl ?_
                refine ev_iastG (r := 50) (j := ((100 * w0 + w1)).toNat) (g82944.lt ad50) (g82944.tg ad50) (by omega) (by rw [g82944.ln ad50]; omega) (fun h82945 e82945 => ?_)
                have g82945 := g82944.s50 e82945 (Or.inl (by rw [(((jw_ne e82944 (Or.inl (by decide))).trans ((jw_ne e82942 (Or.inr (by decide))).trans ew0)))]; omega)) (by omega) (by omega)
                have k82945 := k82944.wr e82945 rfl
                refine ev_aload_n rfl ?_
                refine g_getp (r := 42) (c := 53) g82945 ad42 (by decide) (by decide) rf42_15 ft12_15 ?_
                refine ev_iload rfl ?_
                refine ev_iconst ?_
                refine ev_bastG (r := 53) (j := ((100 * w0 + w1)).toNat) (w := 0) (g82945.lt ad53) (g82945.tg ad53) (by omega) (by rw [g82945.ln ad53]; omega) (by unfold w8; omega) (fun h82946 e82946 => ?_)
                have g82946 := g82945.s53 e82946 (Or.inl (by rw [(((jw_ne e82945 (Or.inl (by decide))).trans ((jw_ne e82944 (Or.inl (by decide))).trans ((jw_ne e82942 (Or.inr (by decide))).trans ew0))))]; omega)) (by omega) (by omega)
                have k82946 := k82945.wr e82946 rfl
                refine ev_iconst ?_
                refine ev_istore (L' := [(2, 42), (0, 1), (0, 0), (0, ((-v82893) + 48)), (0, (100 * w0 + w1)), (0, 0)]) (Nat.le_of_ble_eq_true rfl) rfl ?_
                refine ev_iload rfl ?_
                refine ev_iconst ?_
                refine ev_icmpge f267_109 (fun c82947 => absurd c82947 (by omega)) (fun c82947 => ?_)
                refine ev_aload_n rfl ?_
                refine g_getp (r := 42) (c := 51) g82946 ad42 (by decide) (by decide) rf42_13 ft12_13 ?_
                refine ev_iconst ?_
                refine ev_iload rfl ?_
                refine ev_imul (r := (400 * w0 + 4 * w1)) (by unfold w32; omega) ?_
                refine ev_iload rfl ?_
                refine ev_iadd (r := (400 * w0 + 4 * w1)) (by unfold w32; omega) ?_
                refine ev_iconst ?_
                refine ev_bastG (r := 51) (j := ((400 * w0 + 4 * w1)).toNat) (w := (-1)) (g82946.lt ad51) (g82946.tg ad51) (by omega) (by rw [g82946.ln ad51]; omega) (by unfold w8; omega) (fun h82948 e82948 => ?_)
                have g82948 := g82946.s51 e82948 (by rw [(((jw_ne e82946 (Or.inl (by decide))).trans ((jw_ne e82945 (Or.inl (by decide))).trans ((jw_ne e82944 (Or.inl (by decide))).trans ((jw_ne e82942 (Or.inr (by decide))).trans ew0)))))]; omega) (by omega) (by omega)
                have k82948 := k82946.wr e82948 rfl
                refine ev_aload_n rfl ?_
                refine g_getp (r := 42) (c := 52) g82948 ad42 (by decide) (by decide) rf42_14 ft12_14 ?_
                refine ev_iconst ?_
                refine ev_iload rfl ?_
                refine ev_imul (r := (400 * w0 + 4 * w1)) (by unfold w32; omega) ?_
                refine ev_iload rfl ?_
                refine ev_iadd (r := (400 * w0 + 4 * w1)) (by unfold w32; omega) ?_
                refine ev_iconst ?_
                refine g_iast g82948 ad52 rt52 (fun _ => rfl) (by omega) (by omega) (by omega) (by omega) (fun h82949 e82949 g82949 => ?_)
                have k82949 := k82948.wr e82949 rfl
                refine ev_iinc (w := 1) (L' := [(2, 42), (0, 1), (0, 0), (0, ((-v82893) + 48)), (0, (100 * w0 + w1)), (0, 1)]) rfl (by decide) rfl ?_
                refine ev_goto f267_71 ?_
                refine ev_iload rfl ?_
                refine ev_iconst ?_
                refine ev_icmpge f267_109 (fun c82950 => absurd c82950 (by omega)) (fun c82950 => ?_)
                refine ev_aload_n rfl ?_
                refine g_getp (r := 42) (c := 51) g82949 ad42 (by decide) (by decide) rf42_13 ft12_13 ?_
                refine ev_iconst ?_
                refine ev_iload rfl ?_
                refine ev_imul (r := (400 * w0 + 4 * w1)) (by unfold w32; omega) ?_
                refine ev_iload rfl ?_
                refine ev_iadd (r := (400 * w0 + 4 * w1 + 1)) (by unfold w32; omega) ?_
                refine ev_iconst ?_
                refine ev_bastG (r := 51) (j := ((400 * w0 + 4 * w1 + 1)).toNat) (w := (-1)) (g82949.lt ad51) (g82949.tg ad51) (by omega) (by rw [g82949.ln ad51]; omega) (by unfold w8; omega) (fun h82951 e82951 => ?_)
                have g82951 := g82949.s51 e82951 (by rw [(((jw_ne e82949 (Or.inl (by decide))).trans ((jw_ne e82948 (Or.inl (by decide))).trans ((jw_ne e82946 (Or.inl (by decide))).trans ((jw_ne e82945 (Or.inl (by decide))).trans ((jw_ne e82944 (Or.inl (by decide))).trans ((jw_ne e82942 (Or.inr (by decide))).trans ew0)))))))]; omega) (by omega) (by omega)
                have k82951 := k82949.wr e82951 rfl
                refine ev_aload_n rfl ?_
                refine g_getp (r := 42) (c := 52) g82951 ad42 (by decide) (by decide) rf42_14 ft12_14 ?_
                refine ev_iconst ?_
                refine ev_iload rfl ?_
                refine ev_imul (r := (400 * w0 + 4 * w1)) (by unfold w32; omega) ?_
                refine ev_iload rfl ?_
                refine ev_iadd (r := (400 * w0 + 4 * w1 + 1)) (by unfold w32; omega) ?_
                refine ev_iconst ?_
                refine g_iast g82951 ad52 rt52 (fun _ => rfl) (by omega) (by omega) (by omega) (by omega) (fun h82952 e82952 g82952 => ?_)
                have k82952 := k82951.wr e82952 rfl
                refine ev_iinc (w := 2) (L' := [(2, 42), (0, 1), (0, 0), (0, ((-v82893) + 48)), (0, (100 * w0 + w1)), (0, 2)]) rfl (by decide) rfl ?_
                refine ev_goto f267_71 ?_
                refine ev_iload rfl ?_
                refine ev_iconst ?_
                refine ev_icmpge f267_109 (fun c82953 => absurd c82953 (by omega)) (fun c82953 => ?_)
                refine ev_aload_n rfl ?_
                refine g_getp (r := 42) (c := 51) g82952 ad42 (by decide) (by decide) rf42_13 ft12_13 ?_
                refine ev_iconst ?_
                refine ev_iload rfl ?_
                refine ev_imul (r := (400 * w0 + 4 * w1)) (by unfold w32; omega) ?_
                refine ev_iload rfl ?_
                refine ev_iadd (r := (400 * w0 + 4 * w1 + 2)) (by unfold w32; omega) ?_
                refine ev_iconst ?_
                refine ev_bastG (r := 51) (j := ((400 * w0 + 4 * w1 + 2)).toNat) (w := (-1)) (g82952.lt ad51) (g82952.tg ad51) (by omega) (by rw [g82952.ln ad51]; omega) (by unfold w8; omega) (fun h82954 e82954 => ?_)
                have g82954 := g82952.s51 e82954 (by rw [(((jw_ne e82952 (Or.inl (by decide))).trans ((jw_ne e82951 (Or.inl (by decide))).trans ((jw_ne e82949 (Or.inl (by decide))).trans ((jw_ne e82948 (Or.inl (by decide))).trans ((jw_ne e82946 (Or.inl (by decide))).trans ((jw_ne e82945 (Or.inl (by decide))).trans ((jw_ne e82944 (Or.inl (by decide))).trans ((jw_ne e82942 (Or.inr (by decide))).trans ew0)))))))))]; omega) (by omega) (by omega)
                have k82954 := k82952.wr e82954 rfl
                refine ev_aload_n rfl ?_
                refine g_getp (r := 42) (c := 52) g82954 ad42 (by decide) (by decide) rf42_14 ft12_14 ?_
                refine ev_iconst ?_
                refine ev_iload rfl ?_
                refine ev_imul (r := (400 * w0 + 4 * w1)) (by unfold w32; omega) ?_
                refine ev_iload rfl ?_
                refine ev_iadd (r := (400 * w0 + 4 * w1 + 2)) (by unfold w32; omega) ?_
                refine ev_iconst ?_
                refine g_iast g82954 ad52 rt52 (fun _ => rfl) (by omega) (by omega) (by omega) (by omega) (fun h82955 e82955 g82955 => ?_)
                have k82955 := k82954.wr e82955 rfl
                refine ev_iinc (w := 3) (L' := [(2, 42), (0, 1), (0, 0), (0, ((-v82893) + 48)), (0, (100 * w0 + w1)), (0, 3)]) rfl (by decide) rfl ?_
                refine ev_goto f267_71 ?_
                refine ev_iload rfl ?_
                refine ev_iconst ?_
                refine ev_icmpge f267_109 (fun c82956 => absurd c82956 (by omega)) (fun c82956 => ?_)
                refine ev_aload_n rfl ?_
                refine g_getp (r := 42) (c := 51) g82955 ad42 (by decide) (by decide) rf42_13 ft12_13 ?_
                refine ev_iconst ?_
                refine ev_iload rfl ?_
                refine ev_imul (r := (400 * w0 + 4 * w1)) (by unfold w32; omega) ?_
                refine ev_iload rfl ?_
                refine ev_iadd (r := (400 * w0 + 4 * w1 + 3)) (by unfold w32; omega) ?_
                refine ev_iconst ?_
                refine ev_bastG (r := 51) (j := ((400 * w0 + 4 * w1 + 3)).toNat) (w := (-1)) (g82955.lt ad51) (g82955.tg ad51) (by omega) (by rw [g82955.ln ad51]; omega) (by unfold w8; omega) (fun h82957 e82957 => ?_)
                have g82957 := g82955.s51 e82957 (by rw [(((jw_ne e82955 (Or.inl (by decide))).trans ((jw_ne e82954 (Or.inl (by decide))).trans ((jw_ne e82952 (Or.inl (by decide))).trans ((jw_ne e82951 (Or.inl (by decide))).trans ((jw_ne e82949 (Or.inl (by decide))).trans ((jw_ne e82948 (Or.inl (by decide))).trans ((jw_ne e82946 (Or.inl (by decide))).trans ((jw_ne e82945 (Or.inl (by decide))).trans ((jw_ne e82944 (Or.inl (by decide))).trans ((jw_ne e82942 (Or.inr (by decide))).trans ew0)))))))))))]; omega) (by omega) (by omega)
                have k82957 := k82955.wr e82957 rfl
                refine ev_aload_n rfl ?_
                refine g_getp (r := 42) (c := 52) g82957 ad42 (by decide) (by decide) rf42_14 ft12_14 ?_
                refine ev_iconst ?_
                refine ev_iload rfl ?_
                refine ev_imul (r := (400 * w0 + 4 * w1)) (by unfold w32; omega) ?_
                refine ev_iload rfl ?_
                refine ev_iadd (r := (400 * w0 + 4 * w1 + 3)) (by unfold w32; omega) ?_
                refine ev_iconst ?_
                refine g_iast g82957 ad52 rt52 (fun _ => rfl) (by omega) (by omega) (by omega) (by omega) (fun h82958 e82958 g82958 => ?_)
                have k82958 := k82957.wr e82958 rfl
                refine ev_iinc (w := 4) (L' := [(2, 42), (0, 1), (0, 0), (0, ((-v82893) + 48)), (0, (100 * w0 + w1)), (0, 4)]) rfl (by decide) rfl ?_
                refine ev_goto f267_71 ?_
                refine ev_iload rfl ?_
                refine ev_iconst ?_
                refine ev_icmpge f267_109 (fun c82959 => ?_) (fun c82959 => absurd c82959 (by omega))
                refine ev_iload rfl ?_
                refine ev_ret rfl (by decide) (by decide) ?_
                show jEv _ _ _ _ _ _ _ (_, [(2, 42), (0, a1), (0, 1), (0, (a1 + 2)), (0, 1), (0, (v82893 - 48)), (0, 1)], [(0, (100 * w0 + w1))], _, _, _)
                refine ev_pop (by decide) ?_
                refine ev_iload_n rfl ?_
                exact ev_ret rfl (by decide) (by decide) ⟨⟨_, rfl, by omega, by omega, g82958, k82958⟩, fun r hr h0 => by cases hr; exact (Ad.step (r' := (a1 + 2)) (Ad.step (r' := (a1 + 1)) (Ad.rf _ _ _) (by omega) k82958 (fun _ => rfl) (((jw_ne e82958 (Or.inl (by decide))).trans ((jw_ne e82957 (Or.inl (by decide))).trans ((jw_ne e82955 (Or.inl (by decide))).trans ((jw_ne e82954 (Or.inl (by decide))).trans ((jw_ne e82952 (Or.inl (by decide))).trans ((jw_ne e82951 (Or.inl (by decide))).trans ((jw_ne e82949 (Or.inl (by decide))).trans ((jw_ne e82948 (Or.inl (by decide))).trans ((jw_ne e82946 (Or.inl (by decide))).trans ((jw_ne e82945 (Or.inl (by decide))).trans ((jw_ne e82944 (Or.inl (by decide))).trans ((jw_ne e82942 (Or.inl (by decide))).trans ev82638))))))))))))) (by omega) (by omega) (by omega)) (by omega) k82958 (fun _ => rfl) (((jw_ne e82958 (Or.inl (by decide))).trans ((jw_ne e82957 (Or.inl (by decide))).trans ((jw_ne e82955 (Or.inl (by decide))).trans ((jw_ne e82954 (Or.inl (by decide))).trans ((jw_ne e82952 (Or.inl (by decide))).trans ((jw_ne e82951 (Or.inl (by decide))).trans ((jw_ne e82949 (Or.inl (by decide))).trans ((jw_ne e82948 (Or.inl (by decide))).trans ((jw_ne e82946 (Or.inl (by decide))).trans ((jw_ne e82945 (Or.inl (by decide))).trans ((jw_ne e82944 (Or.inl (by decide))).trans ((jw_ne e82942 (Or.inl (by decide))).trans ev82893))))))))))))) (by omega) (by omega) (by omega)), fun r hr => by cases hr; exact ⟨_, (((jw_ne e82958 (Or.inl (by decide))).trans ((jw_ne e82957 (Or.inl (by decide))).trans ((jw_ne e82955 (Or.inl (by decide))).trans ((jw_ne e82954 (Or.inl (by decide))).trans ((jw_ne e82952 (Or.inl (by decide))).trans ((jw_ne e82951 (Or.inl (by decide))).trans ((jw_ne e82949 (Or.inl (by decide))).trans ((jw_ne e82948 (Or.inl (by decide))).trans ((jw_ne e82946 (Or.inl (by decide))).trans ((jw_ne e82945 (Or.inl (by decide))).trans ((jw_ne e82944 (Or.inl (by decide))).trans (jw_eq e82942))))))))))))), by omega, by omega, (Fr.kp (Fr.w (i := (400 * w0 + 4 * w1 + 3)) (Fr.kp (Fr.w (i := (400 * w0 + 4 * w1 + 2)) (Fr.kp (Fr.w (i := (400 * w0 + 4 * w1 + 1)) (Fr.kp (Fr.w (i := (400 * w0 + 4 * w1)) (Fr.w (i := (100 * w0 + w1)) (Fr.w (i := (100 * w0 + w1)) (Fr.w (i := (100 * w0 + w1)) (Fr.kp (Fr.rf _ _) ((Kp.rf [(42, 0)] _).wr e82942 rfl) (fun _ => rfl) (fun _ => rfl) (fun _ => rfl) (fun _ => rfl)) e82944 (by omega) (by omega)) e82945 (by omega) (by omega)) e82946 (by omega) (by omega)) e82948 (by omega) (by omega)) ((Kp.rf [(52, 0)] _).wr e82949 rfl) (fun _ => rfl) (fun _ => rfl) (fun _ => rfl) (fun _ => rfl)) e82951 (by omega) (by omega)) ((Kp.rf [(52, 0)] _).wr e82952 rfl) (fun _ => rfl) (fun _ => rfl) (fun _ => rfl) (fun _ => rfl)) e82954 (by omega) (by omega)) ((Kp.rf [(52, 0)] _).wr e82955 rfl) (fun _ => rfl) (fun _ => rfl) (fun _ => rfl) (fun _ => rfl)) e82957 (by omega) (by omega)) ((Kp.rf [(52, 0)] _).wr e82958 rfl) (fun _ => rfl) (fun _ => rfl) (fun _ => rfl) (fun _ => rfl)), fun h0 => by omega, fun h0 hm => Tr.end (i := (100 * w0 + w1)) (by omega) (by omega) (by omega) (((jw_ne e82958 (Or.inl (by decide))).trans ((jw_ne e82957 (Or.inl (by decide))).trans ((jw_ne e82955 (Or.inl (by decide))).trans ((jw_ne e82954 (Or.inl (by decide))).trans ((jw_ne e82952 (Or.inl (by decide))).trans ((jw_ne e82951 (Or.inl (by decide))).trans ((jw_ne e82949 (Or.inl (by decide))).trans ((jw_ne e82948 (Or.inl (by decide))).trans ((jw_ne e82946 (Or.inl (by decide))).trans ((jw_ne e82945 (Or.inl (by decide))).trans (jw_eq e82944)))))))))))) (by omega) (by omega)⟩, fun r hr => by cases hr; exact okM (show (if bR h a1 = 45 then enR (bR h) (a1 + 1) else enR (bR h) a1) = ((a1 + 2), 0, 0, 1) by rw [if_pos ((bR_at (p := a1) k82958 (fun _ => rfl) ew2 (((jw_ne e82958 (Or.inl (by decide))).trans ((jw_ne e82957 (Or.inl (by decide))).trans ((jw_ne e82955 (Or.inl (by decide))).trans ((jw_ne e82954 (Or.inl (by decide))).trans ((jw_ne e82952 (Or.inl (by decide))).trans ((jw_ne e82951 (Or.inl (by decide))).trans ((jw_ne e82949 (Or.inl (by decide))).trans ((jw_ne e82948 (Or.inl (by decide))).trans ((jw_ne e82946 (Or.inl (by decide))).trans ((jw_ne e82945 (Or.inl (by decide))).trans ((jw_ne e82944 (Or.inl (by decide))).trans ((jw_ne e82942 (Or.inl (by decide))).trans ev82638))))))))))))) (by omega) (by omega)).trans (by omega))]; unfold enR; rw [show nm3 (bR h) (a1 + 1) = (a1 + 2) by unfold nm3; rw [show (a1 + 1 + 1 : Int) = a1 + 2 by omega, show (a1 + 1 + 2 : Int) = a1 + 3 by omega, (bR_at (p := (a1 + 1)) k82958 (fun _ => rfl) ew2 (((jw_ne e82958 (Or.inl (by decide))).trans ((jw_ne e82957 (Or.inl (by decide))).trans ((jw_ne e82955 (Or.inl (by decide))).trans ((jw_ne e82954 (Or.inl (by decide))).trans ((jw_ne e82952 (Or.inl (by decide))).trans ((jw_ne e82951 (Or.inl (by decide))).trans ((jw_ne e82949 (Or.inl (by decide))).trans ((jw_ne e82948 (Or.inl (by decide))).trans ((jw_ne e82946 (Or.inl (by decide))).trans ((jw_ne e82945 (Or.inl (by decide))).trans ((jw_ne e82944 (Or.inl (by decide))).trans ((jw_ne e82942 (Or.inl (by decide))).trans ev82893))))))))))))) (by omega) (by omega)), (bR_at (p := (a1 + 2)) k82958 (fun _ => rfl) ew2 (((jw_ne e82958 (Or.inl (by decide))).trans ((jw_ne e82957 (Or.inl (by decide))).trans ((jw_ne e82955 (Or.inl (by decide))).trans ((jw_ne e82954 (Or.inl (by decide))).trans ((jw_ne e82952 (Or.inl (by decide))).trans ((jw_ne e82951 (Or.inl (by decide))).trans ((jw_ne e82949 (Or.inl (by decide))).trans ((jw_ne e82948 (Or.inl (by decide))).trans ((jw_ne e82946 (Or.inl (by decide))).trans ((jw_ne e82945 (Or.inl (by decide))).trans ((jw_ne e82944 (Or.inl (by decide))).trans ((jw_ne e82942 (Or.inl (by decide))).trans ev82934))))))))))))) (by omega) (by omega))]; (repeat' split) <;> omega, if_neg (by omega)]) (by omega) (by omega) (((jw_ne e82958 (Or.inl (by decide))).trans ((jw_ne e82957 (Or.inl (by decide))).trans ((jw_ne e82955 (Or.inl (by decide))).trans ((jw_ne e82954 (Or.inl (by decide))).trans ((jw_ne e82952 (Or.inl (by decide))).trans ((jw_ne e82951 (Or.inl (by decide))).trans ((jw_ne e82949 (Or.inl (by decide))).trans ((jw_ne e82948 (Or.inl (by decide))).trans ((jw_ne e82946 (Or.inl (by decide))).trans ((jw_ne e82945 (Or.inl (by decide))).trans ((jw_ne e82944 (Or.inl (by decide))).trans (jw_eq e82942))))))))))))) (by omega)⟩
              · refine ev_iload_n rfl ?_
                refine ev_iload_n rfl ?_
                refine ev_icmpgt f242_14 (fun c82960 => ?_) (fun c82960 => ?_)
                · refine ev_iconst ?_
                  refine ev_ret rfl (by decide) (by decide) ?_
                  show jEv _ _ _ _ _ _ _ (_, [(2, 42), (0, (a1 + 2))], [(0, 0)], _, _, _)
                  refine ev_ret rfl (by decide) (by decide) ?_
                  show jEv _ _ _ _ _ _ _ (_, [(2, 42), (0, a1), (0, 1), (0, (a1 + 2)), (0, 1), (0, (v82893 - 48)), (0, 1)], [(0, 0)], _, _, _)
                  refine ev_ifeq f269_86 (fun c82961 => ?_) (fun c82961 => absurd c82961 (by omega))
                  refine ev_aload_n rfl ?_
                  refine ev_iload_n rfl ?_
                  refine ev_in (d := 1) (a := 0) (b := 0) (cd' := c265_0) (m := 2) (L0 := [(2, 42), (0, (a1 + 2))]) (jcall_v (A := [(0, (a1 + 2))]) (S' := []) (r := 42) rfl (g.lt ad42) (g.tg ad42) (Nat.le_of_ble_eq_true rfl)) (by decide) ml265 pp265 (Nat.le_of_ble_eq_true rfl) rfl (by decide) (by decide) ?_
                  refine ev_aload_n rfl ?_
                  refine ev_iload_n rfl ?_
                  refine ev_in (d := 0) (a := 0) (b := 0) (cd' := c264_0) (m := 2) (L0 := [(2, 42), (0, (a1 + 2))]) (jcall_v (A := [(0, (a1 + 2))]) (S' := []) (r := 42) rfl (g.lt ad42) (g.tg ad42) (Nat.le_of_ble_eq_true rfl)) (by decide) ml264 pp264 (Nat.le_of_ble_eq_true rfl) rfl (by decide) (by decide) ?_
                  refine ev_iload_n rfl ?_
                  refine ev_aload_n rfl ?_
                  refine g_getv (r := 42) (v := w2) g ad42 (by decide) ft12_17 (ew2) ?_
                  refine ev_icmpge f264_17 (fun c82962 => absurd c82962 (by omega)) (fun c82962 => ?_)
                  refine ev_aload_n rfl ?_
                  refine g_getp (r := 42) (c := 54) g ad42 (by decide) (by decide) rf42_16 ft12_16 ?_
                  refine ev_iload_n rfl ?_
                  refine g_baldv (v := v82934) g ad54 (by omega) (by omega) (ev82934) ?_
                  refine ev_goto f264_18 ?_
                  refine ev_ret rfl (by decide) (by decide) ?_
                  show jEv _ _ _ _ _ _ _ (_, [(2, 42), (0, (a1 + 2))], [(0, v82934)], _, _, _)
                  refine ev_bipush ?_
                  refine ev_bipush ?_
                  refine ev_in (d := 0) (a := 0) (b := 0) (cd' := c242_0) (m := 3) (L0 := [(0, v82934), (0, 48), (0, 57)]) (jcall_s (A := [(0, 57), (0, 48), (0, v82934)]) (S' := []) (by decide) rfl (Nat.le_of_ble_eq_true rfl)) (by decide) ml242 pp242 (Nat.le_of_ble_eq_true rfl) rfl (by decide) (by decide) ?_
                  refine ev_iload_n rfl ?_
                  refine ev_iload_n rfl ?_
                  refine ev_icmplt f242_14 (fun c82963 => absurd c82963 (by omega)) (fun c82963 => ?_)
                  refine ev_iload_n rfl ?_
                  refine ev_iload_n rfl ?_
                  refine ev_icmpgt f242_14 (fun c82964 => ?_) (fun c82964 => absurd c82964 (by omega))
                  refine ev_iconst ?_
                  refine ev_ret rfl (by decide) (by decide) ?_
                  show jEv _ _ _ _ _ _ _ (_, [(2, 42), (0, (a1 + 2))], [(0, 0)], _, _, _)
                  refine ev_ret rfl (by decide) (by decide) ?_
                  show jEv _ _ _ _ _ _ _ (_, [(2, 42), (0, a1), (0, 1), (0, (a1 + 2)), (0, 1), (0, (v82893 - 48)), (0, 1)], [(0, 0)], _, _, _)
                  refine ev_ifeq f269_100 (fun c82965 => ?_) (fun c82965 => absurd c82965 (by omega))
                  refine ev_aload_n rfl ?_
                  refine ev_iload_n rfl ?_
                  refine ev_iconst ?_
                  refine ev_iload rfl ?_
                  refine ev_ifeq f269_114 (fun c82966 => absurd c82966 (by omega)) (fun c82966 => ?_)
                  refine ev_iload rfl ?_
                  refine ev_ineg (r := ((-v82893) + 48)) (by unfold w32; omega) ?_
                  refine ev_goto f269_116 ?_
                  refine ev_in (d := 1) (a := 0) (b := 0) (cd' := c267_0) (m := 6) (L0 := [(2, 42), (0, 1), (0, 0), (0, ((-v82893) + 48)), (9, 0), (9, 0)]) (jcall_v (A := [(0, ((-v82893) + 48)), (0, 0), (0, 1)]) (S' := []) (r := 42) rfl (g.lt ad42) (g.tg ad42) (Nat.le_of_ble_eq_true rfl)) (by decide) ml267 pp267 (Nat.le_of_ble_eq_true rfl) rfl (by decide) (by decide) ?_
                  refine ev_iload_n rfl ?_
                  refine ev_ifne f267_6 (fun c82967 => ?_) (fun c82967 => absurd c82967 (by omega))
                  refine ev_aload_n rfl ?_
                  refine ev_dup (by decide) ?_
                  refine g_getv (r := 42) (v := w1) g ad42 (by decide) ft12_21 (ew1) ?_
                  refine ev_iconst ?_
                  refine ev_iadd (r := (w1 + 1)) (by unfold w32; omega) ?_
                  refine g_putf (r := 42) g ad42 (by decide) ft12_21 (by decide) (fun e => absurd e nz12_21) rf42_21 (by decide) (by omega) (by omega) (fun h82968 e82968 g82968 => ?_)
                  have k82968 := k0.wr e82968 rfl
                  refine ev_aload_n rfl ?_
                  refine g_getv (r := 42) (v := (w1 + 1)) g82968 ad42 (by decide) ft12_21 ((jw_eq e82968)) ?_
                  refine ev_bipush ?_
                  refine ev_icmple f267_27 (fun c82969 => ?_) (fun c82969 => absurd c82969 (by omega))
                  refine ev_bipush ?_
                  refine ev_aload_n rfl ?_
                  refine g_getv (r := 42) (v := w0) g82968 ad42 (by decide) ft12_9 (((jw_ne e82968 (Or.inr (by decide))).trans ew0)) ?_
                  refine ev_imul (r := (100 * w0)) (by unfold w32; omega) ?_
                  refine ev_aload_n rfl ?_
                  refine g_getv (r := 42) (v := (w1 + 1)) g82968 ad42 (by decide) ft12_21 ((jw_eq e82968)) ?_
                  refine ev_iadd (r := (100 * w0 + w1 + 1)) (by unfold w32; omega) ?_
                  refine ev_iconst ?_
                  refine ev_isub (r := (100 * w0 + w1)) (by unfold w32; omega) ?_
                  refine ev_istore (L' := [(2, 42), (0, 1), (0, 0), (0, ((-v82893) + 48)), (0, (100 * w0 + w1)), (9, 0)]) (Nat.le_of_ble_eq_true rfl) rfl ?_
                  refine ev_aload_n rfl ?_
                  refine g_getp (r := 42) (c := 49) g82968 ad42 (by decide) (by decide) rf42_11 ft12_11 ?_
                  refine ev_iload rfl ?_
                  refine ev_iload_n rfl ?_
                  refine ev_i2b (r := 0) (by unfold w8; omega) ?_
                  refine ev_bastG (r := 49) (j := ((100 * w0 + w1)).toNat) (w := 0) (g82968.lt ad49) (g82968.tg ad49) (by omega) (by rw [g82968.ln ad49]; omega) (by unfold w8; omega) (fun h82970 e82970 => ?_)
                  have g82970 := g82968.s49 e82970 (by rw [(((jw_ne e82968 (Or.inr (by decide))).trans ew0))]; omega) (by omega) (by omega)
                  have k82970 := k82968.wr e82970 rfl
                  refine ev_aload_n rfl ?_
                  refine g_getp (r := 42) (c := 50) g82970 ad42 (by decide) (by decide) rf42_12 ft12_12 ?_
                  refine ev_iload rfl ?_
                  refine ev_iload_n rfl ?_
                  refine ev_iastG (r := 50) (j := ((100 * w0 + w1)).toNat) (g82970.lt ad50) (g82970.tg ad50) (by omega) (by rw [g82970.ln ad50]; omega) (fun h82971 e82971 => ?_)
                  have g82971 := g82970.s50 e82971 (Or.inl (by rw [(((jw_ne e82970 (Or.inl (by decide))).trans ((jw_ne e82968 (Or.inr (by decide))).trans ew0)))]; omega)) (by omega) (by omega)
                  have k82971 := k82970.wr e82971 rfl
                  refine ev_aload_n rfl ?_
                  refine g_getp (r := 42) (c := 53) g82971 ad42 (by decide) (by decide) rf42_15 ft12_15 ?_
                  refine ev_iload rfl ?_
                  refine ev_iconst ?_
                  refine ev_bastG (r := 53) (j := ((100 * w0 + w1)).toNat) (w := 0) (g82971.lt ad53) (g82971.tg ad53) (by omega) (by rw [g82971.ln ad53]; omega) (by unfold w8; omega) (fun h82972 e82972 => ?_)
                  have g82972 := g82971.s53 e82972 (Or.inl (by rw [(((jw_ne e82971 (Or.inl (by decide))).trans ((jw_ne e82970 (Or.inl (by decide))).trans ((jw_ne e82968 (Or.inr (by decide))).trans ew0))))]; omega)) (by omega) (by omega)
                  have k82972 := k82971.wr e82972 rfl
                  refine ev_iconst ?_
                  refine ev_istore (L' := [(2, 42), (0, 1), (0, 0), (0, ((-v82893) + 48)), (0, (100 * w0 + w1)), (0, 0)]) (Nat.le_of_ble_eq_true rfl) rfl ?_
                  refine ev_iload rfl ?_
                  refine ev_iconst ?_
                  refine ev_icmpge f267_109 (fun c82973 => absurd c82973 (by omega)) (fun c82973 => ?_)
                  refine ev_aload_n rfl ?_
                  refine g_getp (r := 42) (c := 51) g82972 ad42 (by decide) (by decide) rf42_13 ft12_13 ?_
                  refine ev_iconst ?_
                  refine ev_iload rfl ?_
                  refine ev_imul (r := (400 * w0 + 4 * w1)) (by unfold w32; omega) ?_
                  refine ev_iload rfl ?_
                  refine ev_iadd (r := (400 * w0 + 4 * w1)) (by unfold w32; omega) ?_
                  refine ev_iconst ?_
                  refine ev_bastG (r := 51) (j := ((400 * w0 + 4 * w1)).toNat) (w := (-1)) (g82972.lt ad51) (g82972.tg ad51) (by omega) (by rw [g82972.ln ad51]; omega) (by unfold w8; omega) (fun h82974 e82974 => ?_)
                  have g82974 := g82972.s51 e82974 (by rw [(((jw_ne e82972 (Or.inl (by decide))).trans ((jw_ne e82971 (Or.inl (by decide))).trans ((jw_ne e82970 (Or.inl (by decide))).trans ((jw_ne e82968 (Or.inr (by decide))).trans ew0)))))]; omega) (by omega) (by omega)
                  have k82974 := k82972.wr e82974 rfl
                  refine ev_aload_n rfl ?_
                  refine g_getp (r := 42) (c := 52) g82974 ad42 (by decide) (by decide) rf42_14 ft12_14 ?_
                  refine ev_iconst ?_
                  refine ev_iload rfl ?_
                  refine ev_imul (r := (400 * w0 + 4 * w1)) (by unfold w32; omega) ?_
                  refine ev_iload rfl ?_
                  refine ev_iadd (r := (400 * w0 + 4 * w1)) (by unfold w32; omega) ?_
                  refine ev_iconst ?_
                  refine g_iast g82974 ad52 rt52 (fun _ => rfl) (by omega) (by omega) (by omega) (by omega) (fun h82975 e82975 g82975 => ?_)
                  have k82975 := k82974.wr e82975 rfl
                  refine ev_iinc (w := 1) (L' := [(2, 42), (0, 1), (0, 0), (0, ((-v82893) + 48)), (0, (100 * w0 + w1)), (0, 1)]) rfl (by decide) rfl ?_
                  refine ev_goto f267_71 ?_
                  refine ev_iload rfl ?_
                  refine ev_iconst ?_
                  refine ev_icmpge f267_109 (fun c82976 => absurd c82976 (by omega)) (fun c82976 => ?_)
                  refine ev_aload_n rfl ?_
                  refine g_getp (r := 42) (c := 51) g82975 ad42 (by decide) (by decide) rf42_13 ft12_13 ?_
                  refine ev_iconst ?_
                  refine ev_iload rfl ?_
                  refine ev_imul (r := (400 * w0 + 4 * w1)) (by unfold w32; omega) ?_
                  refine ev_iload rfl ?_
                  refine ev_iadd (r := (400 * w0 + 4 * w1 + 1)) (by unfold w32; omega) ?_
                  refine ev_iconst ?_
                  refine ev_bastG (r := 51) (j := ((400 * w0 + 4 * w1 + 1)).toNat) (w := (-1)) (g82975.lt ad51) (g82975.tg ad51) (by omega) (by rw [g82975.ln ad51]; omega) (by unfold w8; omega) (fun h82977 e82977 => ?_)
                  have g82977 := g82975.s51 e82977 (by rw [(((jw_ne e82975 (Or.inl (by decide))).trans ((jw_ne e82974 (Or.inl (by decide))).trans ((jw_ne e82972 (Or.inl (by decide))).trans ((jw_ne e82971 (Or.inl (by decide))).trans ((jw_ne e82970 (Or.inl (by decide))).trans ((jw_ne e82968 (Or.inr (by decide))).trans ew0)))))))]; omega) (by omega) (by omega)
                  have k82977 := k82975.wr e82977 rfl
                  refine ev_aload_n rfl ?_
                  refine g_getp (r := 42) (c := 52) g82977 ad42 (by decide) (by decide) rf42_14 ft12_14 ?_
                  refine ev_iconst ?_
                  refine ev_iload rfl ?_
                  refine ev_imul (r := (400 * w0 + 4 * w1)) (by unfold w32; omega) ?_
                  refine ev_iload rfl ?_
                  refine ev_iadd (r := (400 * w0 + 4 * w1 + 1)) (by unfold w32; omega) ?_
                  refine ev_iconst ?_
                  refine g_iast g82977 ad52 rt52 (fun _ => rfl) (by omega) (by omega) (by omega) (by omega) (fun h82978 e82978 g82978 => ?_)
                  have k82978 := k82977.wr e82978 rfl
                  refine ev_iinc (w := 2) (L' := [(2, 42), (0, 1), (0, 0), (0, ((-v82893) + 48)), (0, (100 * w0 + w1)), (0, 2)]) rfl (by decide) rfl ?_
                  refine ev_goto f267_71 ?_
                  refine ev_iload rfl ?_
                  refine ev_iconst ?_
                  refine ev_icmpge f267_109 (fun c82979 => absurd c82979 (by omega)) (fun c82979 => ?_)
                  refine ev_aload_n rfl ?_
                  refine g_getp (r := 42) (c := 51) g82978 ad42 (by decide) (by decide) rf42_13 ft12_13 ?_
                  refine ev_iconst ?_
                  refine ev_iload rfl ?_
                  refine ev_imul (r := (400 * w0 + 4 * w1)) (by unfold w32; omega) ?_
                  refine ev_iload rfl ?_
                  refine ev_iadd (r := (400 * w0 + 4 * w1 + 2)) (by unfold w32; omega) ?_
                  refine ev_iconst ?_
                  refine ev_bastG (r := 51) (j := ((400 * w0 + 4 * w1 + 2)).toNat) (w := (-1)) (g82978.lt ad51) (g82978.tg ad51) (by omega) (by rw [g82978.ln ad51]; omega) (by unfold w8; omega) (fun h82980 e82980 => ?_)
                  have g82980 := g82978.s51 e82980 (by rw [(((jw_ne e82978 (Or.inl (by decide))).trans ((jw_ne e82977 (Or.inl (by decide))).trans ((jw_ne e82975 (Or.inl (by decide))).trans ((jw_ne e82974 (Or.inl (by decide))).trans ((jw_ne e82972 (Or.inl (by decide))).trans ((jw_ne e82971 (Or.inl (by decide))).trans ((jw_ne e82970 (Or.inl (by decide))).trans ((jw_ne e82968 (Or.inr (by decide))).trans ew0)))))))))]; omega) (by omega) (by omega)
                  have k82980 := k82978.wr e82980 rfl
                  refine ev_aload_n rfl ?_
                  refine g_getp (r := 42) (c := 52) g82980 ad42 (by decide) (by decide) rf42_14 ft12_14 ?_
                  refine ev_iconst ?_
                  refine ev_iload rfl ?_
                  refine ev_imul (r := (400 * w0 + 4 * w1)) (by unfold w32; omega) ?_
                  refine ev_iload rfl ?_
                  refine ev_iadd (r := (400 * w0 + 4 * w1 + 2)) (by unfold w32; omega) ?_
                  refine ev_iconst ?_
                  refine g_iast g82980 ad52 rt52 (fun _ => rfl) (by omega) (by omega) (by omega) (by omega) (fun h82981 e82981 g82981 => ?_)
                  have k82981 := k82980.wr e82981 rfl
                  refine ev_iinc (w := 3) (L' := [(2, 42), (0, 1), (0, 0), (0, ((-v82893) + 48)), (0, (100 * w0 + w1)), (0, 3)]) rfl (by decide) rfl ?_
                  refine ev_goto f267_71 ?_
                  refine ev_iload rfl ?_
                  refine ev_iconst ?_
                  refine ev_icmpge f267_109 (fun c82982 => absurd c82982 (by omega)) (fun c82982 => ?_)
                  refine ev_aload_n rfl ?_
                  refine g_getp (r := 42) (c := 51) g82981 ad42 (by decide) (by decide) rf42_13 ft12_13 ?_
                  refine ev_iconst ?_
                  refine ev_iload rfl ?_
                  refine ev_imul (r := (400 * w0 + 4 * w1)) (by unfold w32; omega) ?_
                  refine ev_iload rfl ?_
                  refine ev_iadd (r := (400 * w0 + 4 * w1 + 3)) (by unfold w32; omega) ?_
                  refine ev_iconst ?_
                  refine ev_bastG (r := 51) (j := ((400 * w0 + 4 * w1 + 3)).toNat) (w := (-1)) (g82981.lt ad51) (g82981.tg ad51) (by omega) (by rw [g82981.ln ad51]; omega) (by unfold w8; omega) (fun h82983 e82983 => ?_)
                  have g82983 := g82981.s51 e82983 (by rw [(((jw_ne e82981 (Or.inl (by decide))).trans ((jw_ne e82980 (Or.inl (by decide))).trans ((jw_ne e82978 (Or.inl (by decide))).trans ((jw_ne e82977 (Or.inl (by decide))).trans ((jw_ne e82975 (Or.inl (by decide))).trans ((jw_ne e82974 (Or.inl (by decide))).trans ((jw_ne e82972 (Or.inl (by decide))).trans ((jw_ne e82971 (Or.inl (by decide))).trans ((jw_ne e82970 (Or.inl (by decide))).trans ((jw_ne e82968 (Or.inr (by decide))).trans ew0)))))))))))]; omega) (by omega) (by omega)
                  have k82983 := k82981.wr e82983 rfl
                  refine ev_aload_n rfl ?_
                  refine g_getp (r := 42) (c := 52) g82983 ad42 (by decide) (by decide) rf42_14 ft12_14 ?_
                  refine ev_iconst ?_
                  refine ev_iload rfl ?_
                  refine ev_imul (r := (400 * w0 + 4 * w1)) (by unfold w32; omega) ?_
                  refine ev_iload rfl ?_
                  refine ev_iadd (r := (400 * w0 + 4 * w1 + 3)) (by unfold w32; omega) ?_
                  refine ev_iconst ?_
                  refine g_iast g82983 ad52 rt52 (fun _ => rfl) (by omega) (by omega) (by omega) (by omega) (fun h82984 e82984 g82984 => ?_)
                  have k82984 := k82983.wr e82984 rfl
                  refine ev_iinc (w := 4) (L' := [(2, 42), (0, 1), (0, 0), (0, ((-v82893) + 48)), (0, (100 * w0 + w1)), (0, 4)]) rfl (by decide) rfl ?_
                  refine ev_goto f267_71 ?_
                  refine ev_iload rfl ?_
                  refine ev_iconst ?_
                  refine ev_icmpge f267_109 (fun c82985 => ?_) (fun c82985 => absurd c82985 (by omega))
                  refine ev_iload rfl ?_
                  refine ev_ret rfl (by decide) (by decide) ?_
                  show jEv _ _ _ _ _ _ _ (_, [(2, 42), (0, a1), (0, 1), (0, (a1 + 2)), (0, 1), (0, (v82893 - 48)), (0, 1)], [(0, (100 * w0 + w1))], _, _, _)
                  refine ev_pop (by decide) ?_
                  refine ev_iload_n rfl ?_
                  exact ev_ret rfl (by decide) (by decide) ⟨⟨_, rfl, by omega, by omega, g82984, k82984⟩, fun r hr h0 => by cases hr; exact (Ad.step (r' := (a1 + 2)) (Ad.step (r' := (a1 + 1)) (Ad.rf _ _ _) (by omega) k82984 (fun _ => rfl) (((jw_ne e82984 (Or.inl (by decide))).trans ((jw_ne e82983 (Or.inl (by decide))).trans ((jw_ne e82981 (Or.inl (by decide))).trans ((jw_ne e82980 (Or.inl (by decide))).trans ((jw_ne e82978 (Or.inl (by decide))).trans ((jw_ne e82977 (Or.inl (by decide))).trans ((jw_ne e82975 (Or.inl (by decide))).trans ((jw_ne e82974 (Or.inl (by decide))).trans ((jw_ne e82972 (Or.inl (by decide))).trans ((jw_ne e82971 (Or.inl (by decide))).trans ((jw_ne e82970 (Or.inl (by decide))).trans ((jw_ne e82968 (Or.inl (by decide))).trans ev82638))))))))))))) (by omega) (by omega) (by omega)) (by omega) k82984 (fun _ => rfl) (((jw_ne e82984 (Or.inl (by decide))).trans ((jw_ne e82983 (Or.inl (by decide))).trans ((jw_ne e82981 (Or.inl (by decide))).trans ((jw_ne e82980 (Or.inl (by decide))).trans ((jw_ne e82978 (Or.inl (by decide))).trans ((jw_ne e82977 (Or.inl (by decide))).trans ((jw_ne e82975 (Or.inl (by decide))).trans ((jw_ne e82974 (Or.inl (by decide))).trans ((jw_ne e82972 (Or.inl (by decide))).trans ((jw_ne e82971 (Or.inl (by decide))).trans ((jw_ne e82970 (Or.inl (by decide))).trans ((jw_ne e82968 (Or.inl (by decide))).trans ev82893))))))))))))) (by omega) (by omega) (by omega)), fun r hr => by cases hr; exact ⟨_, (((jw_ne e82984 (Or.inl (by decide))).trans ((jw_ne e82983 (Or.inl (by decide))).trans ((jw_ne e82981 (Or.inl (by decide))).trans ((jw_ne e82980 (Or.inl (by decide))).trans ((jw_ne e82978 (Or.inl (by decide))).trans ((jw_ne e82977 (Or.inl (by decide))).trans ((jw_ne e82975 (Or.inl (by decide))).trans ((jw_ne e82974 (Or.inl (by decide))).trans ((jw_ne e82972 (Or.inl (by decide))).trans ((jw_ne e82971 (Or.inl (by decide))).trans ((jw_ne e82970 (Or.inl (by decide))).trans (jw_eq e82968))))))))))))), by omega, by omega, (Fr.kp (Fr.w (i := (400 * w0 + 4 * w1 + 3)) (Fr.kp (Fr.w (i := (400 * w0 + 4 * w1 + 2)) (Fr.kp (Fr.w (i := (400 * w0 + 4 * w1 + 1)) (Fr.kp (Fr.w (i := (400 * w0 + 4 * w1)) (Fr.w (i := (100 * w0 + w1)) (Fr.w (i := (100 * w0 + w1)) (Fr.w (i := (100 * w0 + w1)) (Fr.kp (Fr.rf _ _) ((Kp.rf [(42, 0)] _).wr e82968 rfl) (fun _ => rfl) (fun _ => rfl) (fun _ => rfl) (fun _ => rfl)) e82970 (by omega) (by omega)) e82971 (by omega) (by omega)) e82972 (by omega) (by omega)) e82974 (by omega) (by omega)) ((Kp.rf [(52, 0)] _).wr e82975 rfl) (fun _ => rfl) (fun _ => rfl) (fun _ => rfl) (fun _ => rfl)) e82977 (by omega) (by omega)) ((Kp.rf [(52, 0)] _).wr e82978 rfl) (fun _ => rfl) (fun _ => rfl) (fun _ => rfl) (fun _ => rfl)) e82980 (by omega) (by omega)) ((Kp.rf [(52, 0)] _).wr e82981 rfl) (fun _ => rfl) (fun _ => rfl) (fun _ => rfl) (fun _ => rfl)) e82983 (by omega) (by omega)) ((Kp.rf [(52, 0)] _).wr e82984 rfl) (fun _ => rfl) (fun _ => rfl) (fun _ => rfl) (fun _ => rfl)), fun h0 => by omega, fun h0 hm => Tr.end (i := (100 * w0 + w1)) (by omega) (by omega) (by omega) (((jw_ne e82984 (Or.inl (by decide))).trans ((jw_ne e82983 (Or.inl (by decide))).trans ((jw_ne e82981 (Or.inl (by decide))).trans ((jw_ne e82980 (Or.inl (by decide))).trans ((jw_ne e82978 (Or.inl (by decide))).trans ((jw_ne e82977 (Or.inl (by decide))).trans ((jw_ne e82975 (Or.inl (by decide))).trans ((jw_ne e82974 (Or.inl (by decide))).trans ((jw_ne e82972 (Or.inl (by decide))).trans ((jw_ne e82971 (Or.inl (by decide))).trans (jw_eq e82970)))))))))))) (by omega) (by omega)⟩, fun r hr => by cases hr; exact okM (show (if bR h a1 = 45 then enR (bR h) (a1 + 1) else enR (bR h) a1) = ((a1 + 2), 0, 0, 1) by rw [if_pos ((bR_at (p := a1) k82984 (fun _ => rfl) ew2 (((jw_ne e82984 (Or.inl (by decide))).trans ((jw_ne e82983 (Or.inl (by decide))).trans ((jw_ne e82981 (Or.inl (by decide))).trans ((jw_ne e82980 (Or.inl (by decide))).trans ((jw_ne e82978 (Or.inl (by decide))).trans ((jw_ne e82977 (Or.inl (by decide))).trans ((jw_ne e82975 (Or.inl (by decide))).trans ((jw_ne e82974 (Or.inl (by decide))).trans ((jw_ne e82972 (Or.inl (by decide))).trans ((jw_ne e82971 (Or.inl (by decide))).trans ((jw_ne e82970 (Or.inl (by decide))).trans ((jw_ne e82968 (Or.inl (by decide))).trans ev82638))))))))))))) (by omega) (by omega)).trans (by omega))]; unfold enR; rw [show nm3 (bR h) (a1 + 1) = (a1 + 2) by unfold nm3; rw [show (a1 + 1 + 1 : Int) = a1 + 2 by omega, show (a1 + 1 + 2 : Int) = a1 + 3 by omega, (bR_at (p := (a1 + 1)) k82984 (fun _ => rfl) ew2 (((jw_ne e82984 (Or.inl (by decide))).trans ((jw_ne e82983 (Or.inl (by decide))).trans ((jw_ne e82981 (Or.inl (by decide))).trans ((jw_ne e82980 (Or.inl (by decide))).trans ((jw_ne e82978 (Or.inl (by decide))).trans ((jw_ne e82977 (Or.inl (by decide))).trans ((jw_ne e82975 (Or.inl (by decide))).trans ((jw_ne e82974 (Or.inl (by decide))).trans ((jw_ne e82972 (Or.inl (by decide))).trans ((jw_ne e82971 (Or.inl (by decide))).trans ((jw_ne e82970 (Or.inl (by decide))).trans ((jw_ne e82968 (Or.inl (by decide))).trans ev82893))))))))))))) (by omega) (by omega)), (bR_at (p := (a1 + 2)) k82984 (fun _ => rfl) ew2 (((jw_ne e82984 (Or.inl (by decide))).trans ((jw_ne e82983 (Or.inl (by decide))).trans ((jw_ne e82981 (Or.inl (by decide))).trans ((jw_ne e82980 (Or.inl (by decide))).trans ((jw_ne e82978 (Or.inl (by decide))).trans ((jw_ne e82977 (Or.inl (by decide))).trans ((jw_ne e82975 (Or.inl (by decide))).trans ((jw_ne e82974 (Or.inl (by decide))).trans ((jw_ne e82972 (Or.inl (by decide))).trans ((jw_ne e82971 (Or.inl (by decide))).trans ((jw_ne e82970 (Or.inl (by decide))).trans ((jw_ne e82968 (Or.inl (by decide))).trans ev82934))))))))))))) (by omega) (by omega))]; (repeat' split) <;> omega, if_neg (by omega)]) (by omega) (by omega) (((jw_ne e82984 (Or.inl (by decide))).trans ((jw_ne e82983 (Or.inl (by decide))).trans ((jw_ne e82981 (Or.inl (by decide))).trans ((jw_ne e82980 (Or.inl (by decide))).trans ((jw_ne e82978 (Or.inl (by decide))).trans ((jw_ne e82977 (Or.inl (by decide))).trans ((jw_ne e82975 (Or.inl (by decide))).trans ((jw_ne e82974 (Or.inl (by decide))).trans ((jw_ne e82972 (Or.inl (by decide))).trans ((jw_ne e82971 (Or.inl (by decide))).trans ((jw_ne e82970 (Or.inl (by decide))).trans (jw_eq e82968))))))))))))) (by omega)⟩
                · refine ev_iconst ?_
                  refine ev_goto f242_15 ?_
                  refine ev_ret rfl (by decide) (by decide) ?_
                  show jEv _ _ _ _ _ _ _ (_, [(2, 42), (0, (a1 + 2))], [(0, 1)], _, _, _)
                  refine ev_ret rfl (by decide) (by decide) ?_
                  show jEv _ _ _ _ _ _ _ (_, [(2, 42), (0, a1), (0, 1), (0, (a1 + 2)), (0, 1), (0, (v82893 - 48)), (0, 1)], [(0, 1)], _, _, _)
                  refine ev_ifeq f269_86 (fun c82986 => absurd c82986 (by omega)) (fun c82986 => ?_)
                  refine ev_bipush ?_
                  refine ev_iload rfl ?_
                  refine ev_imul (r := (10 * v82893 - 480)) (by unfold w32; omega) ?_
                  refine ev_aload_n rfl ?_
                  refine ev_iload_n rfl ?_
                  refine ev_in (d := 1) (a := 0) (b := 0) (cd' := c264_0) (m := 2) (L0 := [(2, 42), (0, (a1 + 2))]) (jcall_v (A := [(0, (a1 + 2))]) (S' := [(0, (10 * v82893 - 480))]) (r := 42) rfl (g.lt ad42) (g.tg ad42) (Nat.le_of_ble_eq_true rfl)) (by decide) ml264 pp264 (Nat.le_of_ble_eq_true rfl) rfl (by decide) (by decide) ?_
                  refine ev_iload_n rfl ?_
                  refine ev_aload_n rfl ?_
                  refine g_getv (r := 42) (v := w2) g ad42 (by decide) ft12_17 (ew2) ?_
                  refine ev_icmpge f264_17 (fun c82987 => absurd c82987 (by omega)) (fun c82987 => ?_)
                  refine ev_aload_n rfl ?_
                  refine g_getp (r := 42) (c := 54) g ad42 (by decide) (by decide) rf42_16 ft12_16 ?_
                  refine ev_iload_n rfl ?_
                  refine g_baldv (v := v82934) g ad54 (by omega) (by omega) (ev82934) ?_
                  refine ev_goto f264_18 ?_
                  refine ev_ret rfl (by decide) (by decide) ?_
                  show jEv _ _ _ _ _ _ _ (_, [(2, 42), (0, a1), (0, 1), (0, (a1 + 2)), (0, 1), (0, (v82893 - 48)), (0, 1)], [(0, v82934), (0, (10 * v82893 - 480))], _, _, _)
                  refine ev_iadd (r := (10 * v82893 + v82934 - 480)) (by unfold w32; omega) ?_
                  refine ev_bipush ?_
                  refine ev_isub (r := (10 * v82893 + v82934 - 528)) (by unfold w32; omega) ?_
                  refine ev_istore (L' := [(2, 42), (0, a1), (0, 1), (0, (a1 + 2)), (0, 1), (0, (10 * v82893 + v82934 - 528)), (0, 1)]) (Nat.le_of_ble_eq_true rfl) rfl ?_
                  refine ev_iinc (w := 2) (L' := [(2, 42), (0, a1), (0, 1), (0, (a1 + 2)), (0, 1), (0, (10 * v82893 + v82934 - 528)), (0, 2)]) rfl (by decide) rfl ?_
                  refine ev_iinc (w := (a1 + 3)) (L' := [(2, 42), (0, a1), (0, 1), (0, (a1 + 3)), (0, 1), (0, (10 * v82893 + v82934 - 528)), (0, 2)]) rfl (by unfold w32; omega) rfl ?_
                  refine ev_goto f269_47 ?_
                  refine ev_iload rfl ?_
                  refine ev_iconst ?_
                  refine ev_icmpge f269_86 (fun c82988 => absurd c82988 (by omega)) (fun c82988 => ?_)
                  refine ev_aload_n rfl ?_
                  refine ev_iload_n rfl ?_
                  refine ev_in (d := 1) (a := 0) (b := 0) (cd' := c265_0) (m := 2) (L0 := [(2, 42), (0, (a1 + 3))]) (jcall_v (A := [(0, (a1 + 3))]) (S' := []) (r := 42) rfl (g.lt ad42) (g.tg ad42) (Nat.le_of_ble_eq_true rfl)) (by decide) ml265 pp265 (Nat.le_of_ble_eq_true rfl) rfl (by decide) (by decide) ?_
                  refine ev_aload_n rfl ?_
                  refine ev_iload_n rfl ?_
                  refine ev_in (d := 0) (a := 0) (b := 0) (cd' := c264_0) (m := 2) (L0 := [(2, 42), (0, (a1 + 3))]) (jcall_v (A := [(0, (a1 + 3))]) (S' := []) (r := 42) rfl (g.lt ad42) (g.tg ad42) (Nat.le_of_ble_eq_true rfl)) (by decide) ml264 pp264 (Nat.le_of_ble_eq_true rfl) rfl (by decide) (by decide) ?_
                  refine ev_iload_n rfl ?_
                  refine ev_aload_n rfl ?_
                  refine g_getv (r := 42) (v := w2) g ad42 (by decide) ft12_17 (ew2) ?_
                  refine ev_icmpge f264_17 (fun c82989 => ?_) (fun c82989 => ?_)
                  · refine ev_iconst ?_
                    refine ev_ret rfl (by decide) (by decide) ?_
                    show jEv _ _ _ _ _ _ _ (_, [(2, 42), (0, (a1 + 3))], [(0, (-1))], _, _, _)
                    refine ev_bipush ?_
                    refine ev_bipush ?_
                    refine ev_in (d := 0) (a := 0) (b := 0) (cd' := c242_0) (m := 3) (L0 := [(0, (-1)), (0, 48), (0, 57)]) (jcall_s (A := [(0, 57), (0, 48), (0, (-1))]) (S' := []) (by decide) rfl (Nat.le_of_ble_eq_true rfl)) (by decide) ml242 pp242 (Nat.le_of_ble_eq_true rfl) rfl (by decide) (by decide) ?_
                    refine ev_iload_n rfl ?_
                    refine ev_iload_n rfl ?_
                    refine ev_icmplt f242_14 (fun c82990 => ?_) (fun c82990 => absurd c82990 (by omega))
                    refine ev_iconst ?_
                    refine ev_ret rfl (by decide) (by decide) ?_
                    show jEv _ _ _ _ _ _ _ (_, [(2, 42), (0, (a1 + 3))], [(0, 0)], _, _, _)
                    refine ev_ret rfl (by decide) (by decide) ?_
                    show jEv _ _ _ _ _ _ _ (_, [(2, 42), (0, a1), (0, 1), (0, (a1 + 3)), (0, 1), (0, (10 * v82893 + v82934 - 528)), (0, 2)], [(0, 0)], _, _, _)
                    refine ev_ifeq f269_86 (fun c82991 => ?_) (fun c82991 => absurd c82991 (by omega))
                    refine ev_aload_n rfl ?_
                    refine ev_iload_n rfl ?_
                    refine ev_in (d := 1) (a := 0) (b := 0) (cd' := c265_0) (m := 2) (L0 := [(2, 42), (0, (a1 + 3))]) (jcall_v (A := [(0, (a1 + 3))]) (S' := []) (r := 42) rfl (g.lt ad42) (g.tg ad42) (Nat.le_of_ble_eq_true rfl)) (by decide) ml265 pp265 (Nat.le_of_ble_eq_true rfl) rfl (by decide) (by decide) ?_
                    refine ev_aload_n rfl ?_
                    refine ev_iload_n rfl ?_
                    refine ev_in (d := 0) (a := 0) (b := 0) (cd' := c264_0) (m := 2) (L0 := [(2, 42), (0, (a1 + 3))]) (jcall_v (A := [(0, (a1 + 3))]) (S' := []) (r := 42) rfl (g.lt ad42) (g.tg ad42) (Nat.le_of_ble_eq_true rfl)) (by decide) ml264 pp264 (Nat.le_of_ble_eq_true rfl) rfl (by decide) (by decide) ?_
                    refine ev_iload_n rfl ?_
                    refine ev_aload_n rfl ?_
                    refine g_getv (r := 42) (v := w2) g ad42 (by decide) ft12_17 (ew2) ?_
                    refine ev_icmpge f264_17 (fun c82992 => ?_) (fun c82992 => absurd c82992 (by omega))
                    refine ev_iconst ?_
                    refine ev_ret rfl (by decide) (by decide) ?_
                    show jEv _ _ _ _ _ _ _ (_, [(2, 42), (0, (a1 + 3))], [(0, (-1))], _, _, _)
                    refine ev_bipush ?_
                    refine ev_bipush ?_
                    refine ev_in (d := 0) (a := 0) (b := 0) (cd' := c242_0) (m := 3) (L0 := [(0, (-1)), (0, 48), (0, 57)]) (jcall_s (A := [(0, 57), (0, 48), (0, (-1))]) (S' := []) (by decide) rfl (Nat.le_of_ble_eq_true rfl)) (by decide) ml242 pp242 (Nat.le_of_ble_eq_true rfl) rfl (by decide) (by decide) ?_
                    refine ev_iload_n rfl ?_
                    refine ev_iload_n rfl ?_
                    refine ev_icmplt f242_14 (fun c82993 => ?_) (fun c82993 => absurd c82993 (by omega))
                    refine ev_iconst ?_
                    refine ev_ret rfl (by decide) (by decide) ?_
                    show jEv _ _ _ _ _ _ _ (_, [(2, 42), (0, (a1 + 3))], [(0, 0)], _, _, _)
                    refine ev_ret rfl (by decide) (by decide) ?_
                    show jEv _ _ _ _ _ _ _ (_, [(2, 42), (0, a1), (0, 1), (0, (a1 + 3)), (0, 1), (0, (10 * v82893 + v82934 - 528)), (0, 2)], [(0, 0)], _, _, _)
                    refine ev_ifeq f269_100 (fun c82994 => ?_) (fun c82994 => absurd c82994 (by omega))
                    refine ev_aload_n rfl ?_
                    refine ev_iload_n rfl ?_
                    refine ev_iconst ?_
                    refine ev_iload rfl ?_
                    refine ev_ifeq f269_114 (fun c82995 => absurd c82995 (by omega)) (fun c82995 => ?_)
                    refine ev_iload rfl ?_
                    refine ev_ineg (r := ((-10) * v82893 + (-v82934) + 528)) (by unfold w32; omega) ?_
                    refine ev_goto f269_116 ?_
                    refine ev_in (d := 1) (a := 0) (b := 0) (cd' := c267_0) (m := 6) (L0 := [(2, 42), (0, 1), (0, 0), (0, ((-10) * v82893 + (-v82934) + 528)), (9, 0), (9, 0)]) (jcall_v (A := [(0, ((-10) * v82893 + (-v82934) + 528)), (0, 0), (0, 1)]) (S' := []) (r := 42) rfl (g.lt ad42) (g.tg ad42) (Nat.le_of_ble_eq_true rfl)) (by decide) ml267 pp267 (Nat.le_of_ble_eq_true rfl) rfl (by decide) (by decide) ?_
                    refine ev_iload_n rfl ?_
                    refine ev_ifne f267_6 (fun c82996 => ?_) (fun c82996 => absurd c82996 (by omega))
                    refine ev_aload_n rfl ?_
                    refine ev_dup (by decide) ?_
                    refine g_getv (r := 42) (v := w1) g ad42 (by decide) ft12_21 (ew1) ?_
                    refine ev_iconst ?_
                    refine ev_iadd (r := (w1 + 1)) (by unfold w32; omega) ?_
                    refine g_putf (r := 42) g ad42 (by decide) ft12_21 (by decide) (fun e => absurd e nz12_21) rf42_21 (by decide) (by omega) (by omega) (fun h82997 e82997 g82997 => ?_)
                    have k82997 := k0.wr e82997 rfl
                    refine ev_aload_n rfl ?_
                    refine g_getv (r := 42) (v := (w1 + 1)) g82997 ad42 (by decide) ft12_21 ((jw_eq e82997)) ?_
                    refine ev_bipush ?_
                    refine ev_icmple f267_27 (fun c82998 => ?_) (fun c82998 => absurd c82998 (by omega))
                    refine ev_bipush ?_
                    refine ev_aload_n rfl ?_
                    refine g_getv (r := 42) (v := w0) g82997 ad42 (by decide) ft12_9 (((jw_ne e82997 (Or.inr (by decide))).trans ew0)) ?_
                    refine ev_imul (r := (100 * w0)) (by unfold w32; omega) ?_
                    refine ev_aload_n rfl ?_
                    refine g_getv (r := 42) (v := (w1 + 1)) g82997 ad42 (by decide) ft12_21 ((jw_eq e82997)) ?_
                    refine ev_iadd (r := (100 * w0 + w1 + 1)) (by unfold w32; omega) ?_
                    refine ev_iconst ?_
                    refine ev_isub (r := (100 * w0 + w1)) (by unfold w32; omega) ?_
                    refine ev_istore (L' := [(2, 42), (0, 1), (0, 0), (0, ((-10) * v82893 + (-v82934) + 528)), (0, (100 * w0 + w1)), (9, 0)]) (Nat.le_of_ble_eq_true rfl) rfl ?_
                    refine ev_aload_n rfl ?_
                    refine g_getp (r := 42) (c := 49) g82997 ad42 (by decide) (by decide) rf42_11 ft12_11 ?_
                    refine ev_iload rfl ?_
                    refine ev_iload_n rfl ?_
                    refine ev_i2b (r := 0) (by unfold w8; omega) ?_
                    refine ev_bastG (r := 49) (j := ((100 * w0 + w1)).toNat) (w := 0) (g82997.lt ad49) (g82997.tg ad49) (by omega) (by rw [g82997.ln ad49]; omega) (by unfold w8; omega) (fun h82999 e82999 => ?_)
                    have g82999 := g82997.s49 e82999 (by rw [(((jw_ne e82997 (Or.inr (by decide))).trans ew0))]; omega) (by omega) (by omega)
                    have k82999 := k82997.wr e82999 rfl
                    refine ev_aload_n rfl ?_
                    refine g_getp (r := 42) (c := 50) g82999 ad42 (by decide) (by decide) rf42_12 ft12_12 ?_
                    refine ev_iload rfl ?_
                    refine ev_iload_n rfl ?_
                    refine ev_iastG (r := 50) (j := ((100 * w0 + w1)).toNat) (g82999.lt ad50) (g82999.tg ad50) (by omega) (by rw [g82999.ln ad50]; omega) (fun h83000 e83000 => ?_)
                    have g83000 := g82999.s50 e83000 (Or.inl (by rw [(((jw_ne e82999 (Or.inl (by decide))).trans ((jw_ne e82997 (Or.inr (by decide))).trans ew0)))]; omega)) (by omega) (by omega)
                    have k83000 := k82999.wr e83000 rfl
                    refine ev_aload_n rfl ?_
                    refine g_getp (r := 42) (c := 53) g83000 ad42 (by decide) (by decide) rf42_15 ft12_15 ?_
                    refine ev_iload rfl ?_
                    refine ev_iconst ?_
                    refine ev_bastG (r := 53) (j := ((100 * w0 + w1)).toNat) (w := 0) (g83000.lt ad53) (g83000.tg ad53) (by omega) (by rw [g83000.ln ad53]; omega) (by unfold w8; omega) (fun h83001 e83001 => ?_)
                    have g83001 := g83000.s53 e83001 (Or.inl (by rw [(((jw_ne e83000 (Or.inl (by decide))).trans ((jw_ne e82999 (Or.inl (by decide))).trans ((jw_ne e82997 (Or.inr (by decide))).trans ew0))))]; omega)) (by omega) (by omega)
                    have k83001 := k83000.wr e83001 rfl
                    refine ev_iconst ?_
                    refine ev_istore (L' := [(2, 42), (0, 1), (0, 0), (0, ((-10) * v82893 + (-v82934) + 528)), (0, (100 * w0 + w1)), (0, 0)]) (Nat.le_of_ble_eq_true rfl) rfl ?_
                    refine ev_iload rfl ?_
                    refine ev_iconst ?_
                    refine ev_icmpge f267_109 (fun c83002 => absurd c83002 (by omega)) (fun c83002 => ?_)
                    refine ev_aload_n rfl ?_
                    refine g_getp (r := 42) (c := 51) g83001 ad42 (by decide) (by decide) rf42_13 ft12_13 ?_
                    refine ev_iconst ?_
                    refine ev_iload rfl ?_
                    refine ev_imul (r := (400 * w0 + 4 * w1)) (by unfold w32; omega) ?_
                    refine ev_iload rfl ?_
                    refine ev_iadd (r := (400 * w0 + 4 * w1)) (by unfold w32; omega) ?_
                    refine ev_iconst ?_
                    refine ev_bastG (r := 51) (j := ((400 * w0 + 4 * w1)).toNat) (w := (-1)) (g83001.lt ad51) (g83001.tg ad51) (by omega) (by rw [g83001.ln ad51]; omega) (by unfold w8; omega) (fun h83003 e83003 => ?_)
                    have g83003 := g83001.s51 e83003 (by rw [(((jw_ne e83001 (Or.inl (by decide))).trans ((jw_ne e83000 (Or.inl (by decide))).trans ((jw_ne e82999 (Or.inl (by decide))).trans ((jw_ne e82997 (Or.inr (by decide))).trans ew0)))))]; omega) (by omega) (by omega)
                    have k83003 := k83001.wr e83003 rfl
                    refine ev_aload_n rfl ?_
                    refine g_getp (r := 42) (c := 52) g83003 ad42 (by decide) (by decide) rf42_14 ft12_14 ?_
                    refine ev_iconst ?_
                    refine ev_iload rfl ?_
                    refine ev_imul (r := (400 * w0 + 4 * w1)) (by unfold w32; omega) ?_
                    refine ev_iload rfl ?_
                    refine ev_iadd (r := (400 * w0 + 4 * w1)) (by unfold w32; omega) ?_
                    refine ev_iconst ?_
                    refine g_iast g83003 ad52 rt52 (fun _ => rfl) (by omega) (by omega) (by omega) (by omega) (fun h83004 e83004 g83004 => ?_)
                    have k83004 := k83003.wr e83004 rfl
                    refine ev_iinc (w := 1) (L' := [(2, 42), (0, 1), (0, 0), (0, ((-10) * v82893 + (-v82934) + 528)), (0, (100 * w0 + w1)), (0, 1)]) rfl (by decide) rfl ?_
                    refine ev_goto f267_71 ?_
                    refine ev_iload rfl ?_
                    refine ev_iconst ?_
                    refine ev_icmpge f267_109 (fun c83005 => absurd c83005 (by omega)) (fun c83005 => ?_)
                    refine ev_aload_n rfl ?_
                    refine g_getp (r := 42) (c := 51) g83004 ad42 (by decide) (by decide) rf42_13 ft12_13 ?_
                    refine ev_iconst ?_
                    refine ev_iload rfl ?_
                    refine ev_imul (r := (400 * w0 + 4 * w1)) (by unfold w32; omega) ?_
                    refine ev_iload rfl ?_
                    refine ev_iadd (r := (400 * w0 + 4 * w1 + 1)) (by unfold w32; omega) ?_
                    refine ev_iconst ?_
                    refine ev_bastG (r := 51) (j := ((400 * w0 + 4 * w1 + 1)).toNat) (w := (-1)) (g83004.lt ad51) (g83004.tg ad51) (by omega) (by rw [g83004.ln ad51]; omega) (by unfold w8; omega) (fun h83006 e83006 => ?_)
                    have g83006 := g83004.s51 e83006 (by rw [(((jw_ne e83004 (Or.inl (by decide))).trans ((jw_ne e83003 (Or.inl (by decide))).trans ((jw_ne e83001 (Or.inl (by decide))).trans ((jw_ne e83000 (Or.inl (by decide))).trans ((jw_ne e82999 (Or.inl (by decide))).trans ((jw_ne e82997 (Or.inr (by decide))).trans ew0)))))))]; omega) (by omega) (by omega)
                    have k83006 := k83004.wr e83006 rfl
                    refine ev_aload_n rfl ?_
                    refine g_getp (r := 42) (c := 52) g83006 ad42 (by decide) (by decide) rf42_14 ft12_14 ?_
                    refine ev_iconst ?_
                    refine ev_iload rfl ?_
                    refine ev_imul (r := (400 * w0 + 4 * w1)) (by unfold w32; omega) ?_
                    refine ev_iload rfl ?_
                    refine ev_iadd (r := (400 * w0 + 4 * w1 + 1)) (by unfold w32; omega) ?_
                    refine ev_iconst ?_
                    refine g_iast g83006 ad52 rt52 (fun _ => rfl) (by omega) (by omega) (by omega) (by omega) (fun h83007 e83007 g83007 => ?_)
                    have k83007 := k83006.wr e83007 rfl
                    refine ev_iinc (w := 2) (L' := [(2, 42), (0, 1), (0, 0), (0, ((-10) * v82893 + (-v82934) + 528)), (0, (100 * w0 + w1)), (0, 2)]) rfl (by decide) rfl ?_
                    refine ev_goto f267_71 ?_
                    refine ev_iload rfl ?_
                    refine ev_iconst ?_
                    refine ev_icmpge f267_109 (fun c83008 => absurd c83008 (by omega)) (fun c83008 => ?_)
                    refine ev_aload_n rfl ?_
                    refine g_getp (r := 42) (c := 51) g83007 ad42 (by decide) (by decide) rf42_13 ft12_13 ?_
                    refine ev_iconst ?_
                    refine ev_iload rfl ?_
                    refine ev_imul (r := (400 * w0 + 4 * w1)) (by unfold w32; omega) ?_
                    refine ev_iload rfl ?_
                    refine ev_iadd (r := (400 * w0 + 4 * w1 + 2)) (by unfold w32; omega) ?_
                    refine ev_iconst ?_
                    refine ev_bastG (r := 51) (j := ((400 * w0 + 4 * w1 + 2)).toNat) (w := (-1)) (g83007.lt ad51) (g83007.tg ad51) (by omega) (by rw [g83007.ln ad51]; omega) (by unfold w8; omega) (fun h83009 e83009 => ?_)
                    have g83009 := g83007.s51 e83009 (by rw [(((jw_ne e83007 (Or.inl (by decide))).trans ((jw_ne e83006 (Or.inl (by decide))).trans ((jw_ne e83004 (Or.inl (by decide))).trans ((jw_ne e83003 (Or.inl (by decide))).trans ((jw_ne e83001 (Or.inl (by decide))).trans ((jw_ne e83000 (Or.inl (by decide))).trans ((jw_ne e82999 (Or.inl (by decide))).trans ((jw_ne e82997 (Or.inr (by decide))).trans ew0)))))))))]; omega) (by omega) (by omega)
                    have k83009 := k83007.wr e83009 rfl
                    refine ev_aload_n rfl ?_
                    refine g_getp (r := 42) (c := 52) g83009 ad42 (by decide) (by decide) rf42_14 ft12_14 ?_
                    refine ev_iconst ?_
                    refine ev_iload rfl ?_
                    refine ev_imul (r := (400 * w0 + 4 * w1)) (by unfold w32; omega) ?_
                    refine ev_iload rfl ?_
                    refine ev_iadd (r := (400 * w0 + 4 * w1 + 2)) (by unfold w32; omega) ?_
                    refine ev_iconst ?_
                    refine g_iast g83009 ad52 rt52 (fun _ => rfl) (by omega) (by omega) (by omega) (by omega) (fun h83010 e83010 g83010 => ?_)
                    have k83010 := k83009.wr e83010 rfl
                    refine ev_iinc (w := 3) (L' := [(2, 42), (0, 1), (0, 0), (0, ((-10) * v82893 + (-v82934) + 528)), (0, (100 * w0 + w1)), (0, 3)]) rfl (by decide) rfl ?_
                    refine ev_goto f267_71 ?_
                    refine ev_iload rfl ?_
                    refine ev_iconst ?_
                    refine ev_icmpge f267_109 (fun c83011 => absurd c83011 (by omega)) (fun c83011 => ?_)
                    refine ev_aload_n rfl ?_
                    refine g_getp (r := 42) (c := 51) g83010 ad42 (by decide) (by decide) rf42_13 ft12_13 ?_
                    refine ev_iconst ?_
                    refine ev_iload rfl ?_
                    refine ev_imul (r := (400 * w0 + 4 * w1)) (by unfold w32; omega) ?_
                    refine ev_iload rfl ?_
                    refine ev_iadd (r := (400 * w0 + 4 * w1 + 3)) (by unfold w32; omega) ?_
                    refine ev_iconst ?_
                    refine ev_bastG (r := 51) (j := ((400 * w0 + 4 * w1 + 3)).toNat) (w := (-1)) (g83010.lt ad51) (g83010.tg ad51) (by omega) (by rw [g83010.ln ad51]; omega) (by unfold w8; omega) (fun h83012 e83012 => ?_)
                    have g83012 := g83010.s51 e83012 (by rw [(((jw_ne e83010 (Or.inl (by decide))).trans ((jw_ne e83009 (Or.inl (by decide))).trans ((jw_ne e83007 (Or.inl (by decide))).trans ((jw_ne e83006 (Or.inl (by decide))).trans ((jw_ne e83004 (Or.inl (by decide))).trans ((jw_ne e83003 (Or.inl (by decide))).trans ((jw_ne e83001 (Or.inl (by decide))).trans ((jw_ne e83000 (Or.inl (by decide))).trans ((jw_ne e82999 (Or.inl (by decide))).trans ((jw_ne e82997 (Or.inr (by decide))).trans ew0)))))))))))]; omega) (by omega) (by omega)
                    have k83012 := k83010.wr e83012 rfl
                    refine ev_aload_n rfl ?_
                    refine g_getp (r := 42) (c := 52) g83012 ad42 (by decide) (by decide) rf42_14 ft12_14 ?_
                    refine ev_iconst ?_
                    refine ev_iload rfl ?_
                    refine ev_imul (r := (400 * w0 + 4 * w1)) (by unfold w32; omega) ?_
                    refine ev_iload rfl ?_
                    refine ev_iadd (r := (400 * w0 + 4 * w1 + 3)) (by unfold w32; omega) ?_
                    refine ev_iconst ?_
                    refine g_iast g83012 ad52 rt52 (fun _ => rfl) (by omega) (by omega) (by omega) (by omega) (fun h83013 e83013 g83013 => ?_)
                    have k83013 := k83012.wr e83013 rfl
                    refine ev_iinc (w := 4) (L' := [(2, 42), (0, 1), (0, 0), (0, ((-10) * v82893 + (-v82934) + 528)), (0, (100 * w0 + w1)), (0, 4)]) rfl (by decide) rfl ?_
                    refine ev_goto f267_71 ?_
                    refine ev_iload rfl ?_
                    refine ev_iconst ?_
                    refine ev_icmpge f267_109 (fun c83014 => ?_) (fun c83014 => absurd c83014 (by omega))
                    refine ev_iload rfl ?_
                    refine ev_ret rfl (by decide) (by decide) ?_
                    show jEv _ _ _ _ _ _ _ (_, [(2, 42), (0, a1), (0, 1), (0, (a1 + 3)), (0, 1), (0, (10 * v82893 + v82934 - 528)), (0, 2)], [(0, (100 * w0 + w1))], _, _, _)
                    refine ev_pop (by decide) ?_
                    refine ev_iload_n rfl ?_
                    exact ev_ret rfl (by decide) (by decide) ⟨⟨_, rfl, by omega, by omega, g83013, k83013⟩, fun r hr h0 => by cases hr; exact (Ad.step (r' := (a1 + 3)) (Ad.step (r' := (a1 + 2)) (Ad.step (r' := (a1 + 1)) (Ad.rf _ _ _) (by omega) k83013 (fun _ => rfl) (((jw_ne e83013 (Or.inl (by decide))).trans ((jw_ne e83012 (Or.inl (by decide))).trans ((jw_ne e83010 (Or.inl (by decide))).trans ((jw_ne e83009 (Or.inl (by decide))).trans ((jw_ne e83007 (Or.inl (by decide))).trans ((jw_ne e83006 (Or.inl (by decide))).trans ((jw_ne e83004 (Or.inl (by decide))).trans ((jw_ne e83003 (Or.inl (by decide))).trans ((jw_ne e83001 (Or.inl (by decide))).trans ((jw_ne e83000 (Or.inl (by decide))).trans ((jw_ne e82999 (Or.inl (by decide))).trans ((jw_ne e82997 (Or.inl (by decide))).trans ev82638))))))))))))) (by omega) (by omega) (by omega)) (by omega) k83013 (fun _ => rfl) (((jw_ne e83013 (Or.inl (by decide))).trans ((jw_ne e83012 (Or.inl (by decide))).trans ((jw_ne e83010 (Or.inl (by decide))).trans ((jw_ne e83009 (Or.inl (by decide))).trans ((jw_ne e83007 (Or.inl (by decide))).trans ((jw_ne e83006 (Or.inl (by decide))).trans ((jw_ne e83004 (Or.inl (by decide))).trans ((jw_ne e83003 (Or.inl (by decide))).trans ((jw_ne e83001 (Or.inl (by decide))).trans ((jw_ne e83000 (Or.inl (by decide))).trans ((jw_ne e82999 (Or.inl (by decide))).trans ((jw_ne e82997 (Or.inl (by decide))).trans ev82893))))))))))))) (by omega) (by omega) (by omega)) (by omega) k83013 (fun _ => rfl) (((jw_ne e83013 (Or.inl (by decide))).trans ((jw_ne e83012 (Or.inl (by decide))).trans ((jw_ne e83010 (Or.inl (by decide))).trans ((jw_ne e83009 (Or.inl (by decide))).trans ((jw_ne e83007 (Or.inl (by decide))).trans ((jw_ne e83006 (Or.inl (by decide))).trans ((jw_ne e83004 (Or.inl (by decide))).trans ((jw_ne e83003 (Or.inl (by decide))).trans ((jw_ne e83001 (Or.inl (by decide))).trans ((jw_ne e83000 (Or.inl (by decide))).trans ((jw_ne e82999 (Or.inl (by decide))).trans ((jw_ne e82997 (Or.inl (by decide))).trans ev82934))))))))))))) (by omega) (by omega) (by omega)), fun r hr => by cases hr; exact ⟨_, (((jw_ne e83013 (Or.inl (by decide))).trans ((jw_ne e83012 (Or.inl (by decide))).trans ((jw_ne e83010 (Or.inl (by decide))).trans ((jw_ne e83009 (Or.inl (by decide))).trans ((jw_ne e83007 (Or.inl (by decide))).trans ((jw_ne e83006 (Or.inl (by decide))).trans ((jw_ne e83004 (Or.inl (by decide))).trans ((jw_ne e83003 (Or.inl (by decide))).trans ((jw_ne e83001 (Or.inl (by decide))).trans ((jw_ne e83000 (Or.inl (by decide))).trans ((jw_ne e82999 (Or.inl (by decide))).trans (jw_eq e82997))))))))))))), by omega, by omega, (Fr.kp (Fr.w (i := (400 * w0 + 4 * w1 + 3)) (Fr.kp (Fr.w (i := (400 * w0 + 4 * w1 + 2)) (Fr.kp (Fr.w (i := (400 * w0 + 4 * w1 + 1)) (Fr.kp (Fr.w (i := (400 * w0 + 4 * w1)) (Fr.w (i := (100 * w0 + w1)) (Fr.w (i := (100 * w0 + w1)) (Fr.w (i := (100 * w0 + w1)) (Fr.kp (Fr.rf _ _) ((Kp.rf [(42, 0)] _).wr e82997 rfl) (fun _ => rfl) (fun _ => rfl) (fun _ => rfl) (fun _ => rfl)) e82999 (by omega) (by omega)) e83000 (by omega) (by omega)) e83001 (by omega) (by omega)) e83003 (by omega) (by omega)) ((Kp.rf [(52, 0)] _).wr e83004 rfl) (fun _ => rfl) (fun _ => rfl) (fun _ => rfl) (fun _ => rfl)) e83006 (by omega) (by omega)) ((Kp.rf [(52, 0)] _).wr e83007 rfl) (fun _ => rfl) (fun _ => rfl) (fun _ => rfl) (fun _ => rfl)) e83009 (by omega) (by omega)) ((Kp.rf [(52, 0)] _).wr e83010 rfl) (fun _ => rfl) (fun _ => rfl) (fun _ => rfl) (fun _ => rfl)) e83012 (by omega) (by omega)) ((Kp.rf [(52, 0)] _).wr e83013 rfl) (fun _ => rfl) (fun _ => rfl) (fun _ => rfl) (fun _ => rfl)), fun h0 => by omega, fun h0 hm => Tr.end (i := (100 * w0 + w1)) (by omega) (by omega) (by omega) (((jw_ne e83013 (Or.inl (by decide))).trans ((jw_ne e83012 (Or.inl (by decide))).trans ((jw_ne e83010 (Or.inl (by decide))).trans ((jw_ne e83009 (Or.inl (by decide))).trans ((jw_ne e83007 (Or.inl (by decide))).trans ((jw_ne e83006 (Or.inl (by decide))).trans ((jw_ne e83004 (Or.inl (by decide))).trans ((jw_ne e83003 (Or.inl (by decide))).trans ((jw_ne e83001 (Or.inl (by decide))).trans ((jw_ne e83000 (Or.inl (by decide))).trans (jw_eq e82999)))))))))))) (by omega) (by omega)⟩, fun r hr => by cases hr; exact okM (show (if bR h a1 = 45 then enR (bR h) (a1 + 1) else enR (bR h) a1) = ((a1 + 3), 0, 0, 1) by rw [if_pos ((bR_at (p := a1) k83013 (fun _ => rfl) ew2 (((jw_ne e83013 (Or.inl (by decide))).trans ((jw_ne e83012 (Or.inl (by decide))).trans ((jw_ne e83010 (Or.inl (by decide))).trans ((jw_ne e83009 (Or.inl (by decide))).trans ((jw_ne e83007 (Or.inl (by decide))).trans ((jw_ne e83006 (Or.inl (by decide))).trans ((jw_ne e83004 (Or.inl (by decide))).trans ((jw_ne e83003 (Or.inl (by decide))).trans ((jw_ne e83001 (Or.inl (by decide))).trans ((jw_ne e83000 (Or.inl (by decide))).trans ((jw_ne e82999 (Or.inl (by decide))).trans ((jw_ne e82997 (Or.inl (by decide))).trans ev82638))))))))))))) (by omega) (by omega)).trans (by omega))]; unfold enR; rw [show nm3 (bR h) (a1 + 1) = (a1 + 3) by unfold nm3; rw [show (a1 + 1 + 1 : Int) = a1 + 2 by omega, show (a1 + 1 + 2 : Int) = a1 + 3 by omega, (bR_at (p := (a1 + 1)) k83013 (fun _ => rfl) ew2 (((jw_ne e83013 (Or.inl (by decide))).trans ((jw_ne e83012 (Or.inl (by decide))).trans ((jw_ne e83010 (Or.inl (by decide))).trans ((jw_ne e83009 (Or.inl (by decide))).trans ((jw_ne e83007 (Or.inl (by decide))).trans ((jw_ne e83006 (Or.inl (by decide))).trans ((jw_ne e83004 (Or.inl (by decide))).trans ((jw_ne e83003 (Or.inl (by decide))).trans ((jw_ne e83001 (Or.inl (by decide))).trans ((jw_ne e83000 (Or.inl (by decide))).trans ((jw_ne e82999 (Or.inl (by decide))).trans ((jw_ne e82997 (Or.inl (by decide))).trans ev82893))))))))))))) (by omega) (by omega)), (bR_at (p := (a1 + 2)) k83013 (fun _ => rfl) ew2 (((jw_ne e83013 (Or.inl (by decide))).trans ((jw_ne e83012 (Or.inl (by decide))).trans ((jw_ne e83010 (Or.inl (by decide))).trans ((jw_ne e83009 (Or.inl (by decide))).trans ((jw_ne e83007 (Or.inl (by decide))).trans ((jw_ne e83006 (Or.inl (by decide))).trans ((jw_ne e83004 (Or.inl (by decide))).trans ((jw_ne e83003 (Or.inl (by decide))).trans ((jw_ne e83001 (Or.inl (by decide))).trans ((jw_ne e83000 (Or.inl (by decide))).trans ((jw_ne e82999 (Or.inl (by decide))).trans ((jw_ne e82997 (Or.inl (by decide))).trans ev82934))))))))))))) (by omega) (by omega)), (bR_end (p := (a1 + 3)) ew2 (by omega))]; (repeat' split) <;> omega, if_neg (by omega)]) (by omega) (by omega) (((jw_ne e83013 (Or.inl (by decide))).trans ((jw_ne e83012 (Or.inl (by decide))).trans ((jw_ne e83010 (Or.inl (by decide))).trans ((jw_ne e83009 (Or.inl (by decide))).trans ((jw_ne e83007 (Or.inl (by decide))).trans ((jw_ne e83006 (Or.inl (by decide))).trans ((jw_ne e83004 (Or.inl (by decide))).trans ((jw_ne e83003 (Or.inl (by decide))).trans ((jw_ne e83001 (Or.inl (by decide))).trans ((jw_ne e83000 (Or.inl (by decide))).trans ((jw_ne e82999 (Or.inl (by decide))).trans (jw_eq e82997))))))))))))) (by omega)⟩
                  · refine ev_aload_n rfl ?_
                    refine g_getp (r := 42) (c := 54) g ad42 (by decide) (by decide) rf42_16 ft12_16 ?_
                    refine ev_iload_n rfl ?_
                    refine g_bald g ad54 rt54 (by omega) (by omega) (fun v83015 ev83015 lv83015 uv83015 => ?_)
                    refine ev_goto f264_18 ?_
                    refine ev_ret rfl (by decide) (by decide) ?_
                    show jEv _ _ _ _ _ _ _ (_, [(2, 42), (0, (a1 + 3))], [(0, v83015)], _, _, _)
                    refine ev_bipush ?_
                    refine ev_bipush ?_
                    refine ev_in (d := 0) (a := 0) (b := 0) (cd' := c242_0) (m := 3) (L0 := [(0, v83015), (0, 48), (0, 57)]) (jcall_s (A := [(0, 57), (0, 48), (0, v83015)]) (S' := []) (by decide) rfl (Nat.le_of_ble_eq_true rfl)) (by decide) ml242 pp242 (Nat.le_of_ble_eq_true rfl) rfl (by decide) (by decide) ?_
                    refine ev_iload_n rfl ?_
                    refine ev_iload_n rfl ?_
                    refine ev_icmplt f242_14 (fun c83016 => ?_) (fun c83016 => ?_)
                    · refine ev_iconst ?_
                      refine ev_ret rfl (by decide) (by decide) ?_
                      show jEv _ _ _ _ _ _ _ (_, [(2, 42), (0, (a1 + 3))], [(0, 0)], _, _, _)
                      refine ev_ret rfl (by decide) (by decide) ?_
                      show jEv _ _ _ _ _ _ _ (_, [(2, 42), (0, a1), (0, 1), (0, (a1 + 3)), (0, 1), (0, (10 * v82893 + v82934 - 528)), (0, 2)], [(0, 0)], _, _, _)
                      refine ev_ifeq f269_86 (fun c83017 => ?_) (fun c83017 => absurd c83017 (by omega))
                      refine ev_aload_n rfl ?_
                      refine ev_iload_n rfl ?_
                      refine ev_in (d := 1) (a := 0) (b := 0) (cd' := c265_0) (m := 2) (L0 := [(2, 42), (0, (a1 + 3))]) (jcall_v (A := [(0, (a1 + 3))]) (S' := []) (r := 42) rfl (g.lt ad42) (g.tg ad42) (Nat.le_of_ble_eq_true rfl)) (by decide) ml265 pp265 (Nat.le_of_ble_eq_true rfl) rfl (by decide) (by decide) ?_
                      refine ev_aload_n rfl ?_
                      refine ev_iload_n rfl ?_
                      refine ev_in (d := 0) (a := 0) (b := 0) (cd' := c264_0) (m := 2) (L0 := [(2, 42), (0, (a1 + 3))]) (jcall_v (A := [(0, (a1 + 3))]) (S' := []) (r := 42) rfl (g.lt ad42) (g.tg ad42) (Nat.le_of_ble_eq_true rfl)) (by decide) ml264 pp264 (Nat.le_of_ble_eq_true rfl) rfl (by decide) (by decide) ?_
                      refine ev_iload_n rfl ?_
                      refine ev_aload_n rfl ?_
                      refine g_getv (r := 42) (v := w2) g ad42 (by decide) ft12_17 (ew2) ?_
                      refine ev_icmpge f264_17 (fun c83018 => absurd c83018 (by omega)) (fun c83018 => ?_)
                      refine ev_aload_n rfl ?_
                      refine g_getp (r := 42) (c := 54) g ad42 (by decide) (by decide) rf42_16 ft12_16 ?_
                      refine ev_iload_n rfl ?_
                      refine g_baldv (v := v83015) g ad54 (by omega) (by omega) (ev83015) ?_
                      refine ev_goto f264_18 ?_
                      refine ev_ret rfl (by decide) (by decide) ?_
                      show jEv _ _ _ _ _ _ _ (_, [(2, 42), (0, (a1 + 3))], [(0, v83015)], _, _, _)
                      refine ev_bipush ?_
                      refine ev_bipush ?_
                      refine ev_in (d := 0) (a := 0) (b := 0) (cd' := c242_0) (m := 3) (L0 := [(0, v83015), (0, 48), (0, 57)]) (jcall_s (A := [(0, 57), (0, 48), (0, v83015)]) (S' := []) (by decide) rfl (Nat.le_of_ble_eq_true rfl)) (by decide) ml242 pp242 (Nat.le_of_ble_eq_true rfl) rfl (by decide) (by decide) ?_
                      refine ev_iload_n rfl ?_
                      refine ev_iload_n rfl ?_
                      refine ev_icmplt f242_14 (fun c83019 => ?_) (fun c83019 => absurd c83019 (by omega))
                      refine ev_iconst ?_
                      refine ev_ret rfl (by decide) (by decide) ?_
                      show jEv _ _ _ _ _ _ _ (_, [(2, 42), (0, (a1 + 3))], [(0, 0)], _, _, _)
                      refine ev_ret rfl (by decide) (by decide) ?_
                      show jEv _ _ _ _ _ _ _ (_, [(2, 42), (0, a1), (0, 1), (0, (a1 + 3)), (0, 1), (0, (10 * v82893 + v82934 - 528)), (0, 2)], [(0, 0)], _, _, _)
                      refine ev_ifeq f269_100 (fun c83020 => ?_) (fun c83020 => absurd c83020 (by omega))
                      refine ev_aload_n rfl ?_
                      refine ev_iload_n rfl ?_
                      refine ev_iconst ?_
                      refine ev_iload rfl ?_
                      refine ev_ifeq f269_114 (fun c83021 => absurd c83021 (by omega)) (fun c83021 => ?_)
                      refine ev_iload rfl ?_
                      refine ev_ineg (r := ((-10) * v82893 + (-v82934) + 528)) (by unfold w32; omega) ?_
                      refine ev_goto f269_116 ?_
                      refine ev_in (d := 1) (a := 0) (b := 0) (cd' := c267_0) (m := 6) (L0 := [(2, 42), (0, 1), (0, 0), (0, ((-10) * v82893 + (-v82934) + 528)), (9, 0), (9, 0)]) (jcall_v (A := [(0, ((-10) * v82893 + (-v82934) + 528)), (0, 0), (0, 1)]) (S' := []) (r := 42) rfl (g.lt ad42) (g.tg ad42) (Nat.le_of_ble_eq_true rfl)) (by decide) ml267 pp267 (Nat.le_of_ble_eq_true rfl) rfl (by decide) (by decide) ?_
                      refine ev_iload_n rfl ?_
                      refine ev_ifne f267_6 (fun c83022 => ?_) (fun c83022 => absurd c83022 (by omega))
                      refine ev_aload_n rfl ?_
                      refine ev_dup (by decide) ?_
                      refine g_getv (r := 42) (v := w1) g ad42 (by decide) ft12_21 (ew1) ?_
                      refine ev_iconst ?_
                      refine ev_iadd (r := (w1 + 1)) (by unfold w32; omega) ?_
                      refine g_putf (r := 42) g ad42 (by decide) ft12_21 (by decide) (fun e => absurd e nz12_21) rf42_21 (by decide) (by omega) (by omega) (fun h83023 e83023 g83023 => ?_)
                      have k83023 := k0.wr e83023 rfl
                      refine ev_aload_n rfl ?_
                      refine g_getv (r := 42) (v := (w1 + 1)) g83023 ad42 (by decide) ft12_21 ((jw_eq e83023)) ?_
                      refine ev_bipush ?_
                      refine ev_icmple f267_27 (fun c83024 => ?_) (fun c83024 => absurd c83024 (by omega))
                      refine ev_bipush ?_
                      refine ev_aload_n rfl ?_
                      refine g_getv (r := 42) (v := w0) g83023 ad42 (by decide) ft12_9 (((jw_ne e83023 (Or.inr (by decide))).trans ew0)) ?_
                      refine ev_imul (r := (100 * w0)) (by unfold w32; omega) ?_
                      refine ev_aload_n rfl ?_
                      refine g_getv (r := 42) (v := (w1 + 1)) g83023 ad42 (by decide) ft12_21 ((jw_eq e83023)) ?_
                      refine ev_iadd (r := (100 * w0 + w1 + 1)) (by unfold w32; omega) ?_
                      refine ev_iconst ?_
                      refine ev_isub (r := (100 * w0 + w1)) (by unfold w32; omega) ?_
                      refine ev_istore (L' := [(2, 42), (0, 1), (0, 0), (0, ((-10) * v82893 + (-v82934) + 528)), (0, (100 * w0 + w1)), (9, 0)]) (Nat.le_of_ble_eq_true rfl) rfl ?_
                      refine ev_aload_n rfl ?_
                      refine g_getp (r := 42) (c := 49) g83023 ad42 (by decide) (by decide) rf42_11 ft12_11 ?_
                      refine ev_iload rfl ?_
                      refine ev_iload_n rfl ?_
                      refine ev_i2b (r := 0) (by unfold w8; omega) ?_
                      refine ev_bastG (r := 49) (j := ((100 * w0 + w1)).toNat) (w := 0) (g83023.lt ad49) (g83023.tg ad49) (by omega) (by rw [g83023.ln ad49]; omega) (by unfold w8; omega) (fun h83025 e83025 => ?_)
                      have g83025 := g83023.s49 e83025 (by rw [(((jw_ne e83023 (Or.inr (by decide))).trans ew0))]; omega) (by omega) (by omega)
                      have k83025 := k83023.wr e83025 rfl
                      refine ev_aload_n rfl ?_
                      refine g_getp (r := 42) (c := 50) g83025 ad42 (by decide) (by decide) rf42_12 ft12_12 ?_
                      refine ev_iload rfl ?_
                      refine ev_iload_n rfl ?_
                      refine ev_iastG (r := 50) (j := ((100 * w0 + w1)).toNat) (g83025.lt ad50) (g83025.tg ad50) (by omega) (by rw [g83025.ln ad50]; omega) (fun h83026 e83026 => ?_)
                      have g83026 := g83025.s50 e83026 (Or.inl (by rw [(((jw_ne e83025 (Or.inl (by decide))).trans ((jw_ne e83023 (Or.inr (by decide))).trans ew0)))]; omega)) (by omega) (by omega)
                      have k83026 := k83025.wr e83026 rfl
                      refine ev_aload_n rfl ?_
                      refine g_getp (r := 42) (c := 53) g83026 ad42 (by decide) (by decide) rf42_15 ft12_15 ?_
                      refine ev_iload rfl ?_
                      refine ev_iconst ?_
                      refine ev_bastG (r := 53) (j := ((100 * w0 + w1)).toNat) (w := 0) (g83026.lt ad53) (g83026.tg ad53) (by omega) (by rw [g83026.ln ad53]; omega) (by unfold w8; omega) (fun h83027 e83027 => ?_)
                      have g83027 := g83026.s53 e83027 (Or.inl (by rw [(((jw_ne e83026 (Or.inl (by decide))).trans ((jw_ne e83025 (Or.inl (by decide))).trans ((jw_ne e83023 (Or.inr (by decide))).trans ew0))))]; omega)) (by omega) (by omega)
                      have k83027 := k83026.wr e83027 rfl
                      refine ev_iconst ?_
                      refine ev_istore (L' := [(2, 42), (0, 1), (0, 0), (0, ((-10) * v82893 + (-v82934) + 528)), (0, (100 * w0 + w1)), (0, 0)]) (Nat.le_of_ble_eq_true rfl) rfl ?_
                      refine ev_iload rfl ?_
                      refine ev_iconst ?_
                      refine ev_icmpge f267_109 (fun c83028 => absurd c83028 (by omega)) (fun c83028 => ?_)
                      refine ev_aload_n rfl ?_
                      refine g_getp (r := 42) (c := 51) g83027 ad42 (by decide) (by decide) rf42_13 ft12_13 ?_
                      refine ev_iconst ?_
                      refine ev_iload rfl ?_
                      refine ev_imul (r := (400 * w0 + 4 * w1)) (by unfold w32; omega) ?_
                      refine ev_iload rfl ?_
                      refine ev_iadd (r := (400 * w0 + 4 * w1)) (by unfold w32; omega) ?_
                      refine ev_iconst ?_
                      refine ev_bastG (r := 51) (j := ((400 * w0 + 4 * w1)).toNat) (w := (-1)) (g83027.lt ad51) (g83027.tg ad51) (by omega) (by rw [g83027.ln ad51]; omega) (by unfold w8; omega) (fun h83029 e83029 => ?_)
                      have g83029 := g83027.s51 e83029 (by rw [(((jw_ne e83027 (Or.inl (by decide))).trans ((jw_ne e83026 (Or.inl (by decide))).trans ((jw_ne e83025 (Or.inl (by decide))).trans ((jw_ne e83023 (Or.inr (by decide))).trans ew0)))))]; omega) (by omega) (by omega)
                      have k83029 := k83027.wr e83029 rfl
                      refine ev_aload_n rfl ?_
                      refine g_getp (r := 42) (c := 52) g83029 ad42 (by decide) (by decide) rf42_14 ft12_14 ?_
                      refine ev_iconst ?_
                      refine ev_iload rfl ?_
                      refine ev_imul (r := (400 * w0 + 4 * w1)) (by unfold w32; omega) ?_
                      refine ev_iload rfl ?_
                      refine ev_iadd (r := (400 * w0 + 4 * w1)) (by unfold w32; omega) ?_
                      refine ev_iconst ?_
                      refine g_iast g83029 ad52 rt52 (fun _ => rfl) (by omega) (by omega) (by omega) (by omega) (fun h83030 e83030 g83030 => ?_)
                      have k83030 := k83029.wr e83030 rfl
                      refine ev_iinc (w := 1) (L' := [(2, 42), (0, 1), (0, 0), (0, ((-10) * v82893 + (-v82934) + 528)), (0, (100 * w0 + w1)), (0, 1)]) rfl (by decide) rfl ?_
                      refine ev_goto f267_71 ?_
                      refine ev_iload rfl ?_
                      refine ev_iconst ?_
                      refine ev_icmpge f267_109 (fun c83031 => absurd c83031 (by omega)) (fun c83031 => ?_)
                      refine ev_aload_n rfl ?_
                      refine g_getp (r := 42) (c := 51) g83030 ad42 (by decide) (by decide) rf42_13 ft12_13 ?_
                      refine ev_iconst ?_
                      refine ev_iload rfl ?_
                      refine ev_imul (r := (400 * w0 + 4 * w1)) (by unfold w32; omega) ?_
                      refine ev_iload rfl ?_
                      refine ev_iadd (r := (400 * w0 + 4 * w1 + 1)) (by unfold w32; omega) ?_
                      refine ev_iconst ?_
                      refine ev_bastG (r := 51) (j := ((400 * w0 + 4 * w1 + 1)).toNat) (w := (-1)) (g83030.lt ad51) (g83030.tg ad51) (by omega) (by rw [g83030.ln ad51]; omega) (by unfold w8; omega) (fun h83032 e83032 => ?_)
                      have g83032 := g83030.s51 e83032 (by rw [(((jw_ne e83030 (Or.inl (by decide))).trans ((jw_ne e83029 (Or.inl (by decide))).trans ((jw_ne e83027 (Or.inl (by decide))).trans ((jw_ne e83026 (Or.inl (by decide))).trans ((jw_ne e83025 (Or.inl (by decide))).trans ((jw_ne e83023 (Or.inr (by decide))).trans ew0)))))))]; omega) (by omega) (by omega)
                      have k83032 := k83030.wr e83032 rfl
                      refine ev_aload_n rfl ?_
                      refine g_getp (r := 42) (c := 52) g83032 ad42 (by decide) (by decide) rf42_14 ft12_14 ?_
                      refine ev_iconst ?_
                      refine ev_iload rfl ?_
                      refine ev_imul (r := (400 * w0 + 4 * w1)) (by unfold w32; omega) ?_
                      refine ev_iload rfl ?_
                      refine ev_iadd (r := (400 * w0 + 4 * w1 + 1)) (by unfold w32; omega) ?_
                      refine ev_iconst ?_
                      refine g_iast g83032 ad52 rt52 (fun _ => rfl) (by omega) (by omega) (by omega) (by omega) (fun h83033 e83033 g83033 => ?_)
                      have k83033 := k83032.wr e83033 rfl
                      refine ev_iinc (w := 2) (L' := [(2, 42), (0, 1), (0, 0), (0, ((-10) * v82893 + (-v82934) + 528)), (0, (100 * w0 + w1)), (0, 2)]) rfl (by decide) rfl ?_
                      refine ev_goto f267_71 ?_
                      refine ev_iload rfl ?_
                      refine ev_iconst ?_
                      refine ev_icmpge f267_109 (fun c83034 => absurd c83034 (by omega)) (fun c83034 => ?_)
                      refine ev_aload_n rfl ?_
                      refine g_getp (r := 42) (c := 51) g83033 ad42 (by decide) (by decide) rf42_13 ft12_13 ?_
                      refine ev_iconst ?_
                      refine ev_iload rfl ?_
                      refine ev_imul (r := (400 * w0 + 4 * w1)) (by unfold w32; omega) ?_
                      refine ev_iload rfl ?_
                      refine ev_iadd (r := (400 * w0 + 4 * w1 + 2)) (by unfold w32; omega) ?_
                      refine ev_iconst ?_
                      refine ev_bastG (r := 51) (j := ((400 * w0 + 4 * w1 + 2)).toNat) (w := (-1)) (g83033.lt ad51) (g83033.tg ad51) (by omega) (by rw [g83033.ln ad51]; omega) (by unfold w8; omega) (fun h83035 e83035 => ?_)
                      have g83035 := g83033.s51 e83035 (by rw [(((jw_ne e83033 (Or.inl (by decide))).trans ((jw_ne e83032 (Or.inl (by decide))).trans ((jw_ne e83030 (Or.inl (by decide))).trans ((jw_ne e83029 (Or.inl (by decide))).trans ((jw_ne e83027 (Or.inl (by decide))).trans ((jw_ne e83026 (Or.inl (by decide))).trans ((jw_ne e83025 (Or.inl (by decide))).trans ((jw_ne e83023 (Or.inr (by decide))).trans ew0)))))))))]; omega) (by omega) (by omega)
                      have k83035 := k83033.wr e83035 rfl
                      refine ev_aload_n rfl ?_
                      refine g_getp (r := 42) (c := 52) g83035 ad42 (by decide) (by decide) rf42_14 ft12_14 ?_
                      refine ev_iconst ?_
                      refine ev_iload rfl ?_
                      refine ev_imul (r := (400 * w0 + 4 * w1)) (by unfold w32; omega) ?_
                      refine ev_iload rfl ?_
                      refine ev_iadd (r := (400 * w0 + 4 * w1 + 2)) (by unfold w32; omega) ?_
                      refine ev_iconst ?_
                      refine g_iast g83035 ad52 rt52 (fun _ => rfl) (by omega) (by omega) (by omega) (by omega) (fun h83036 e83036 g83036 => ?_)
                      have k83036 := k83035.wr e83036 rfl
                      refine ev_iinc (w := 3) (L' := [(2, 42), (0, 1), (0, 0), (0, ((-10) * v82893 + (-v82934) + 528)), (0, (100 * w0 + w1)), (0, 3)]) rfl (by decide) rfl ?_
                      refine ev_goto f267_71 ?_
                      refine ev_iload rfl ?_
                      refine ev_iconst ?_
                      refine ev_icmpge f267_109 (fun c83037 => absurd c83037 (by omega)) (fun c83037 => ?_)
                      refine ev_aload_n rfl ?_
                      refine g_getp (r := 42) (c := 51) g83036 ad42 (by decide) (by decide) rf42_13 ft12_13 ?_
                      refine ev_iconst ?_
                      refine ev_iload rfl ?_
                      refine ev_imul (r := (400 * w0 + 4 * w1)) (by unfold w32; omega) ?_
                      refine ev_iload rfl ?_
                      refine ev_iadd (r := (400 * w0 + 4 * w1 + 3)) (by unfold w32; omega) ?_
                      refine ev_iconst ?_
                      refine ev_bastG (r := 51) (j := ((400 * w0 + 4 * w1 + 3)).toNat) (w := (-1)) (g83036.lt ad51) (g83036.tg ad51) (by omega) (by rw [g83036.ln ad51]; omega) (by unfold w8; omega) (fun h83038 e83038 => ?_)
                      have g83038 := g83036.s51 e83038 (by rw [(((jw_ne e83036 (Or.inl (by decide))).trans ((jw_ne e83035 (Or.inl (by decide))).trans ((jw_ne e83033 (Or.inl (by decide))).trans ((jw_ne e83032 (Or.inl (by decide))).trans ((jw_ne e83030 (Or.inl (by decide))).trans ((jw_ne e83029 (Or.inl (by decide))).trans ((jw_ne e83027 (Or.inl (by decide))).trans ((jw_ne e83026 (Or.inl (by decide))).trans ((jw_ne e83025 (Or.inl (by decide))).trans ((jw_ne e83023 (Or.inr (by decide))).trans ew0)))))))))))]; omega) (by omega) (by omega)
                      have k83038 := k83036.wr e83038 rfl
                      refine ev_aload_n rfl ?_
                      refine g_getp (r := 42) (c := 52) g83038 ad42 (by decide) (by decide) rf42_14 ft12_14 ?_
                      refine ev_iconst ?_
                      refine ev_iload rfl ?_
                      refine ev_imul (r := (400 * w0 + 4 * w1)) (by unfold w32; omega) ?_
                      refine ev_iload rfl ?_
                      refine ev_iadd (r := (400 * w0 + 4 * w1 + 3)) (by unfold w32; omega) ?_
                      refine ev_iconst ?_
                      refine g_iast g83038 ad52 rt52 (fun _ => rfl) (by omega) (by omega) (by omega) (by omega) (fun h83039 e83039 g83039 => ?_)
                      have k83039 := k83038.wr e83039 rfl
                      refine ev_iinc (w := 4) (L' := [(2, 42), (0, 1), (0, 0), (0, ((-10) * v82893 + (-v82934) + 528)), (0, (100 * w0 + w1)), (0, 4)]) rfl (by decide) rfl ?_
                      refine ev_goto f267_71 ?_
                      refine ev_iload rfl ?_
                      refine ev_iconst ?_
                      refine ev_icmpge f267_109 (fun c83040 => ?_) (fun c83040 => absurd c83040 (by omega))
                      refine ev_iload rfl ?_
                      refine ev_ret rfl (by decide) (by decide) ?_
                      show jEv _ _ _ _ _ _ _ (_, [(2, 42), (0, a1), (0, 1), (0, (a1 + 3)), (0, 1), (0, (10 * v82893 + v82934 - 528)), (0, 2)], [(0, (100 * w0 + w1))], _, _, _)
                      refine ev_pop (by decide) ?_
                      refine ev_iload_n rfl ?_
                      exact ev_ret rfl (by decide) (by decide) ⟨⟨_, rfl, by omega, by omega, g83039, k83039⟩, fun r hr h0 => by cases hr; exact (Ad.step (r' := (a1 + 3)) (Ad.step (r' := (a1 + 2)) (Ad.step (r' := (a1 + 1)) (Ad.rf _ _ _) (by omega) k83039 (fun _ => rfl) (((jw_ne e83039 (Or.inl (by decide))).trans ((jw_ne e83038 (Or.inl (by decide))).trans ((jw_ne e83036 (Or.inl (by decide))).trans ((jw_ne e83035 (Or.inl (by decide))).trans ((jw_ne e83033 (Or.inl (by decide))).trans ((jw_ne e83032 (Or.inl (by decide))).trans ((jw_ne e83030 (Or.inl (by decide))).trans ((jw_ne e83029 (Or.inl (by decide))).trans ((jw_ne e83027 (Or.inl (by decide))).trans ((jw_ne e83026 (Or.inl (by decide))).trans ((jw_ne e83025 (Or.inl (by decide))).trans ((jw_ne e83023 (Or.inl (by decide))).trans ev82638))))))))))))) (by omega) (by omega) (by omega)) (by omega) k83039 (fun _ => rfl) (((jw_ne e83039 (Or.inl (by decide))).trans ((jw_ne e83038 (Or.inl (by decide))).trans ((jw_ne e83036 (Or.inl (by decide))).trans ((jw_ne e83035 (Or.inl (by decide))).trans ((jw_ne e83033 (Or.inl (by decide))).trans ((jw_ne e83032 (Or.inl (by decide))).trans ((jw_ne e83030 (Or.inl (by decide))).trans ((jw_ne e83029 (Or.inl (by decide))).trans ((jw_ne e83027 (Or.inl (by decide))).trans ((jw_ne e83026 (Or.inl (by decide))).trans ((jw_ne e83025 (Or.inl (by decide))).trans ((jw_ne e83023 (Or.inl (by decide))).trans ev82893))))))))))))) (by omega) (by omega) (by omega)) (by omega) k83039 (fun _ => rfl) (((jw_ne e83039 (Or.inl (by decide))).trans ((jw_ne e83038 (Or.inl (by decide))).trans ((jw_ne e83036 (Or.inl (by decide))).trans ((jw_ne e83035 (Or.inl (by decide))).trans ((jw_ne e83033 (Or.inl (by decide))).trans ((jw_ne e83032 (Or.inl (by decide))).trans ((jw_ne e83030 (Or.inl (by decide))).trans ((jw_ne e83029 (Or.inl (by decide))).trans ((jw_ne e83027 (Or.inl (by decide))).trans ((jw_ne e83026 (Or.inl (by decide))).trans ((jw_ne e83025 (Or.inl (by decide))).trans ((jw_ne e83023 (Or.inl (by decide))).trans ev82934))))))))))))) (by omega) (by omega) (by omega)), fun r hr => by cases hr; exact ⟨_, (((jw_ne e83039 (Or.inl (by decide))).trans ((jw_ne e83038 (Or.inl (by decide))).trans ((jw_ne e83036 (Or.inl (by decide))).trans ((jw_ne e83035 (Or.inl (by decide))).trans ((jw_ne e83033 (Or.inl (by decide))).trans ((jw_ne e83032 (Or.inl (by decide))).trans ((jw_ne e83030 (Or.inl (by decide))).trans ((jw_ne e83029 (Or.inl (by decide))).trans ((jw_ne e83027 (Or.inl (by decide))).trans ((jw_ne e83026 (Or.inl (by decide))).trans ((jw_ne e83025 (Or.inl (by decide))).trans (jw_eq e83023))))))))))))), by omega, by omega, (Fr.kp (Fr.w (i := (400 * w0 + 4 * w1 + 3)) (Fr.kp (Fr.w (i := (400 * w0 + 4 * w1 + 2)) (Fr.kp (Fr.w (i := (400 * w0 + 4 * w1 + 1)) (Fr.kp (Fr.w (i := (400 * w0 + 4 * w1)) (Fr.w (i := (100 * w0 + w1)) (Fr.w (i := (100 * w0 + w1)) (Fr.w (i := (100 * w0 + w1)) (Fr.kp (Fr.rf _ _) ((Kp.rf [(42, 0)] _).wr e83023 rfl) (fun _ => rfl) (fun _ => rfl) (fun _ => rfl) (fun _ => rfl)) e83025 (by omega) (by omega)) e83026 (by omega) (by omega)) e83027 (by omega) (by omega)) e83029 (by omega) (by omega)) ((Kp.rf [(52, 0)] _).wr e83030 rfl) (fun _ => rfl) (fun _ => rfl) (fun _ => rfl) (fun _ => rfl)) e83032 (by omega) (by omega)) ((Kp.rf [(52, 0)] _).wr e83033 rfl) (fun _ => rfl) (fun _ => rfl) (fun _ => rfl) (fun _ => rfl)) e83035 (by omega) (by omega)) ((Kp.rf [(52, 0)] _).wr e83036 rfl) (fun _ => rfl) (fun _ => rfl) (fun _ => rfl) (fun _ => rfl)) e83038 (by omega) (by omega)) ((Kp.rf [(52, 0)] _).wr e83039 rfl) (fun _ => rfl) (fun _ => rfl) (fun _ => rfl) (fun _ => rfl)), fun h0 => by omega, fun h0 hm => Tr.end (i := (100 * w0 + w1)) (by omega) (by omega) (by omega) (((jw_ne e83039 (Or.inl (by decide))).trans ((jw_ne e83038 (Or.inl (by decide))).trans ((jw_ne e83036 (Or.inl (by decide))).trans ((jw_ne e83035 (Or.inl (by decide))).trans ((jw_ne e83033 (Or.inl (by decide))).trans ((jw_ne e83032 (Or.inl (by decide))).trans ((jw_ne e83030 (Or.inl (by decide))).trans ((jw_ne e83029 (Or.inl (by decide))).trans ((jw_ne e83027 (Or.inl (by decide))).trans ((jw_ne e83026 (Or.inl (by decide))).trans (jw_eq e83025)))))))))))) (by omega) (by omega)⟩, fun r hr => by cases hr; exact okM (show (if bR h a1 = 45 then enR (bR h) (a1 + 1) else enR (bR h) a1) = ((a1 + 3), 0, 0, 1) by rw [if_pos ((bR_at (p := a1) k83039 (fun _ => rfl) ew2 (((jw_ne e83039 (Or.inl (by decide))).trans ((jw_ne e83038 (Or.inl (by decide))).trans ((jw_ne e83036 (Or.inl (by decide))).trans ((jw_ne e83035 (Or.inl (by decide))).trans ((jw_ne e83033 (Or.inl (by decide))).trans ((jw_ne e83032 (Or.inl (by decide))).trans ((jw_ne e83030 (Or.inl (by decide))).trans ((jw_ne e83029 (Or.inl (by decide))).trans ((jw_ne e83027 (Or.inl (by decide))).trans ((jw_ne e83026 (Or.inl (by decide))).trans ((jw_ne e83025 (Or.inl (by decide))).trans ((jw_ne e83023 (Or.inl (by decide))).trans ev82638))))))))))))) (by omega) (by omega)).trans (by omega))]; unfold enR; rw [show nm3 (bR h) (a1 + 1) = (a1 + 3) by unfold nm3; rw [show (a1 + 1 + 1 : Int) = a1 + 2 by omega, show (a1 + 1 + 2 : Int) = a1 + 3 by omega, (bR_at (p := (a1 + 1)) k83039 (fun _ => rfl) ew2 (((jw_ne e83039 (Or.inl (by decide))).trans ((jw_ne e83038 (Or.inl (by decide))).trans ((jw_ne e83036 (Or.inl (by decide))).trans ((jw_ne e83035 (Or.inl (by decide))).trans ((jw_ne e83033 (Or.inl (by decide))).trans ((jw_ne e83032 (Or.inl (by decide))).trans ((jw_ne e83030 (Or.inl (by decide))).trans ((jw_ne e83029 (Or.inl (by decide))).trans ((jw_ne e83027 (Or.inl (by decide))).trans ((jw_ne e83026 (Or.inl (by decide))).trans ((jw_ne e83025 (Or.inl (by decide))).trans ((jw_ne e83023 (Or.inl (by decide))).trans ev82893))))))))))))) (by omega) (by omega)), (bR_at (p := (a1 + 2)) k83039 (fun _ => rfl) ew2 (((jw_ne e83039 (Or.inl (by decide))).trans ((jw_ne e83038 (Or.inl (by decide))).trans ((jw_ne e83036 (Or.inl (by decide))).trans ((jw_ne e83035 (Or.inl (by decide))).trans ((jw_ne e83033 (Or.inl (by decide))).trans ((jw_ne e83032 (Or.inl (by decide))).trans ((jw_ne e83030 (Or.inl (by decide))).trans ((jw_ne e83029 (Or.inl (by decide))).trans ((jw_ne e83027 (Or.inl (by decide))).trans ((jw_ne e83026 (Or.inl (by decide))).trans ((jw_ne e83025 (Or.inl (by decide))).trans ((jw_ne e83023 (Or.inl (by decide))).trans ev82934))))))))))))) (by omega) (by omega)), (bR_at (p := (a1 + 3)) k83039 (fun _ => rfl) ew2 (((jw_ne e83039 (Or.inl (by decide))).trans ((jw_ne e83038 (Or.inl (by decide))).trans ((jw_ne e83036 (Or.inl (by decide))).trans ((jw_ne e83035 (Or.inl (by decide))).trans ((jw_ne e83033 (Or.inl (by decide))).trans ((jw_ne e83032 (Or.inl (by decide))).trans ((jw_ne e83030 (Or.inl (by decide))).trans ((jw_ne e83029 (Or.inl (by decide))).trans ((jw_ne e83027 (Or.inl (by decide))).trans ((jw_ne e83026 (Or.inl (by decide))).trans ((jw_ne e83025 (Or.inl (by decide))).trans ((jw_ne e83023 (Or.inl (by decide))).trans ev83015))))))))))))) (by omega) (by omega))]; (repeat' split) <;> omega, if_neg (by omega)]) (by omega) (by omega) (((jw_ne e83039 (Or.inl (by decide))).trans ((jw_ne e83038 (Or.inl (by decide))).trans ((jw_ne e83036 (Or.inl (by decide))).trans ((jw_ne e83035 (Or.inl (by decide))).trans ((jw_ne e83033 (Or.inl (by decide))).trans ((jw_ne e83032 (Or.inl (by decide))).trans ((jw_ne e83030 (Or.inl (by decide))).trans ((jw_ne e83029 (Or.inl (by decide))).trans ((jw_ne e83027 (Or.inl (by decide))).trans ((jw_ne e83026 (Or.inl (by decide))).trans ((jw_ne e83025 (Or.inl (by decide))).trans (jw_eq e83023))))))))))))) (by omega)⟩
                    · refine ev_iload_n rfl ?_
                      refine ev_iload_n rfl ?_
                      refine ev_icmpgt f242_14 (fun c83041 => ?_) (fun c83041 => ?_)
                      · refine ev_iconst ?_
                        refine ev_ret rfl (by decide) (by decide) ?_
                        show jEv _ _ _ _ _ _ _ (_, [(2, 42), (0, (a1 + 3))], [(0, 0)], _, _, _)
                        refine ev_ret rfl (by decide) (by decide) ?_
                        show jEv _ _ _ _ _ _ _ (_, [(2, 42), (0, a1), (0, 1), (0, (a1 + 3)), (0, 1), (0, (10 * v82893 + v82934 - 528)), (0, 2)], [(0, 0)], _, _, _)
                        refine ev_ifeq f269_86 (fun c83042 => ?_) (fun c83042 => absurd c83042 (by omega))
                        refine ev_aload_n rfl ?_
                        refine ev_iload_n rfl ?_
                        refine ev_in (d := 1) (a := 0) (b := 0) (cd' := c265_0) (m := 2) (L0 := [(2, 42), (0, (a1 + 3))]) (jcall_v (A := [(0, (a1 + 3))]) (S' := []) (r := 42) rfl (g.lt ad42) (g.tg ad42) (Nat.le_of_ble_eq_true rfl)) (by decide) ml265 pp265 (Nat.le_of_ble_eq_true rfl) rfl (by decide) (by decide) ?_
                        refine ev_aload_n rfl ?_
                        refine ev_iload_n rfl ?_
                        refine ev_in (d := 0) (a := 0) (b := 0) (cd' := c264_0) (m := 2) (L0 := [(2, 42), (0, (a1 + 3))]) (jcall_v (A := [(0, (a1 + 3))]) (S' := []) (r := 42) rfl (g.lt ad42) (g.tg ad42) (Nat.le_of_ble_eq_true rfl)) (by decide) ml264 pp264 (Nat.le_of_ble_eq_true rfl) rfl (by decide) (by decide) ?_
                        refine ev_iload_n rfl ?_
                        refine ev_aload_n rfl ?_
                        refine g_getv (r := 42) (v := w2) g ad42 (by decide) ft12_17 (ew2) ?_
                        refine ev_icmpge f264_17 (fun c83043 => absurd c83043 (by omega)) (fun c83043 => ?_)
                        refine ev_aload_n rfl ?_
                        refine g_getp (r := 42) (c := 54) g ad42 (by decide) (by decide) rf42_16 ft12_16 ?_
                        refine ev_iload_n rfl ?_
                        refine g_baldv (v := v83015) g ad54 (by omega) (by omega) (ev83015) ?_
                        refine ev_goto f264_18 ?_
                        refine ev_ret rfl (by decide) (by decide) ?_
                        show jEv _ _ _ _ _ _ _ (_, [(2, 42), (0, (a1 + 3))], [(0, v83015)], _, _, _)
                        refine ev_bipush ?_
                        refine ev_bipush ?_
                        refine ev_in (d := 0) (a := 0) (b := 0) (cd' := c242_0) (m := 3) (L0 := [(0, v83015), (0, 48), (0, 57)]) (jcall_s (A := [(0, 57), (0, 48), (0, v83015)]) (S' := []) (by decide) rfl (Nat.le_of_ble_eq_true rfl)) (by decide) ml242 pp242 (Nat.le_of_ble_eq_true rfl) rfl (by decide) (by decide) ?_
                        refine ev_iload_n rfl ?_
                        refine ev_iload_n rfl ?_
                        refine ev_icmplt f242_14 (fun c83044 => absurd c83044 (by omega)) (fun c83044 => ?_)
                        refine ev_iload_n rfl ?_
                        refine ev_iload_n rfl ?_
                        refine ev_icmpgt f242_14 (fun c83045 => ?_) (fun c83045 => absurd c83045 (by omega))
                        refine ev_iconst ?_
                        refine ev_ret rfl (by decide) (by decide) ?_
                        show jEv _ _ _ _ _ _ _ (_, [(2, 42), (0, (a1 + 3))], [(0, 0)], _, _, _)
                        refine ev_ret rfl (by decide) (by decide) ?_
                        show jEv _ _ _ _ _ _ _ (_, [(2, 42), (0, a1), (0, 1), (0, (a1 + 3)), (0, 1), (0, (10 * v82893 + v82934 - 528)), (0, 2)], [(0, 0)], _, _, _)
                        refine ev_ifeq f269_100 (fun c83046 => ?_) (fun c83046 => absurd c83046 (by omega))
                        refine ev_aload_n rfl ?_
                        refine ev_iload_n rfl ?_
                        refine ev_iconst ?_
                        refine ev_iload rfl ?_
                        refine ev_ifeq f269_114 (fun c83047 => absurd c83047 (by omega)) (fun c83047 => ?_)
                        refine ev_iload rfl ?_
                        refine ev_ineg (r := ((-10) * v82893 + (-v82934) + 528)) (by unfold w32; omega) ?_
                        refine ev_goto f269_116 ?_
                        refine ev_in (d := 1) (a := 0) (b := 0) (cd' := c267_0) (m := 6) (L0 := [(2, 42), (0, 1), (0, 0), (0, ((-10) * v82893 + (-v82934) + 528)), (9, 0), (9, 0)]) (jcall_v (A := [(0, ((-10) * v82893 + (-v82934) + 528)), (0, 0), (0, 1)]) (S' := []) (r := 42) rfl (g.lt ad42) (g.tg ad42) (Nat.le_of_ble_eq_true rfl)) (by decide) ml267 pp267 (Nat.le_of_ble_eq_true rfl) rfl (by decide) (by decide) ?_
                        refine ev_iload_n rfl ?_
                        refine ev_ifne f267_6 (fun c83048 => ?_) (fun c83048 => absurd c83048 (by omega))
                        refine ev_aload_n rfl ?_
                        refine ev_dup (by decide) ?_
                        refine g_getv (r := 42) (v := w1) g ad42 (by decide) ft12_21 (ew1) ?_
                        refine ev_iconst ?_
                        refine ev_iadd (r := (w1 + 1)) (by unfold w32; omega) ?_
                        refine g_putf (r := 42) g ad42 (by decide) ft12_21 (by decide) (fun e => absurd e nz12_21) rf42_21 (by decide) (by omega) (by omega) (fun h83049 e83049 g83049 => ?_)
                        have k83049 := k0.wr e83049 rfl
                        refine ev_aload_n rfl ?_
                        refine g_getv (r := 42) (v := (w1 + 1)) g83049 ad42 (by decide) ft12_21 ((jw_eq e83049)) ?_
                        refine ev_bipush ?_
                        refine ev_icmple f267_27 (fun c83050 => ?_) (fun c83050 => absurd c83050 (by omega))
                        refine ev_bipush ?_
                        refine ev_aload_n rfl ?_
                        refine g_getv (r := 42) (v := w0) g83049 ad42 (by decide) ft12_9 (((jw_ne e83049 (Or.inr (by decide))).trans ew0)) ?_
                        refine ev_imul (r := (100 * w0)) (by unfold w32; omega) ?_
                        refine ev_aload_n rfl ?_
                        refine g_getv (r := 42) (v := (w1 + 1)) g83049 ad42 (by decide) ft12_21 ((jw_eq e83049)) ?_
                        refine ev_iadd (r := (100 * w0 + w1 + 1)) (by unfold w32; omega) ?_
                        refine ev_iconst ?_
                        refine ev_isub (r := (100 * w0 + w1)) (by unfold w32; omega) ?_
                        refine ev_istore (L' := [(2, 42), (0, 1), (0, 0), (0, ((-10) * v82893 + (-v82934) + 528)), (0, (100 * w0 + w1)), (9, 0)]) (Nat.le_of_ble_eq_true rfl) rfl ?_
                        refine ev_aload_n rfl ?_
                        refine g_getp (r := 42) (c := 49) g83049 ad42 (by decide) (by decide) rf42_11 ft12_11 ?_
                        refine ev_iload rfl ?_
                        refine ev_iload_n rfl ?_
                        refine ev_i2b (r := 0) (by unfold w8; omega) ?_
                        refine ev_bastG (r := 49) (j := ((100 * w0 + w1)).toNat) (w := 0) (g83049.lt ad49) (g83049.tg ad49) (by omega) (by rw [g83049.ln ad49]; omega) (by unfold w8; omega) (fun h83051 e83051 => ?_)
                        have g83051 := g83049.s49 e83051 (by rw [(((jw_ne e83049 (Or.inr (by decide))).trans ew0))]; omega) (by omega) (by omega)
                        have k83051 := k83049.wr e83051 rfl
                        refine ev_aload_n rfl ?_
                        refine g_getp (r := 42) (c := 50) g83051 ad42 (by decide) (by decide) rf42_12 ft12_12 ?_
                        refine ev_iload rfl ?_
                        refine ev_iload_n rfl ?_
                        refine ev_iastG (r := 50) (j := ((100 * w0 + w1)).toNat) (g83051.lt ad50) (g83051.tg ad50) (by omega) (by rw [g83051.ln ad50]; omega) (fun h83052 e83052 => ?_)
                        have g83052 := g83051.s50 e83052 (Or.inl (by rw [(((jw_ne e83051 (Or.inl (by decide))).trans ((jw_ne e83049 (Or.inr (by decide))).trans ew0)))]; omega)) (by omega) (by omega)
                        have k83052 := k83051.wr e83052 rfl
                        refine ev_aload_n rfl ?_
                        refine g_getp (r := 42) (c := 53) g83052 ad42 (by decide) (by decide) rf42_15 ft12_15 ?_
                        refine ev_iload rfl ?_
                        refine ev_iconst ?_
                        refine ev_bastG (r := 53) (j := ((100 * w0 + w1)).toNat) (w := 0) (g83052.lt ad53) (g83052.tg ad53) (by omega) (by rw [g83052.ln ad53]; omega) (by unfold w8; omega) (fun h83053 e83053 => ?_)
                        have g83053 := g83052.s53 e83053 (Or.inl (by rw [(((jw_ne e83052 (Or.inl (by decide))).trans ((jw_ne e83051 (Or.inl (by decide))).trans ((jw_ne e83049 (Or.inr (by decide))).trans ew0))))]; omega)) (by omega) (by omega)
                        have k83053 := k83052.wr e83053 rfl
                        refine ev_iconst ?_
                        refine ev_istore (L' := [(2, 42), (0, 1), (0, 0), (0, ((-10) * v82893 + (-v82934) + 528)), (0, (100 * w0 + w1)), (0, 0)]) (Nat.le_of_ble_eq_true rfl) rfl ?_
                        refine ev_iload rfl ?_
                        refine ev_iconst ?_
                        refine ev_icmpge f267_109 (fun c83054 => absurd c83054 (by omega)) (fun c83054 => ?_)
                        refine ev_aload_n rfl ?_
                        refine g_getp (r := 42) (c := 51) g83053 ad42 (by decide) (by decide) rf42_13 ft12_13 ?_
                        refine ev_iconst ?_
                        refine ev_iload rfl ?_
                        refine ev_imul (r := (400 * w0 + 4 * w1)) (by unfold w32; omega) ?_
                        refine ev_iload rfl ?_
                        refine ev_iadd (r := (400 * w0 + 4 * w1)) (by unfold w32; omega) ?_
                        refine ev_iconst ?_
                        refine ev_bastG (r := 51) (j := ((400 * w0 + 4 * w1)).toNat) (w := (-1)) (g83053.lt ad51) (g83053.tg ad51) (by omega) (by rw [g83053.ln ad51]; omega) (by unfold w8; omega) (fun h83055 e83055 => ?_)
                        have g83055 := g83053.s51 e83055 (by rw [(((jw_ne e83053 (Or.inl (by decide))).trans ((jw_ne e83052 (Or.inl (by decide))).trans ((jw_ne e83051 (Or.inl (by decide))).trans ((jw_ne e83049 (Or.inr (by decide))).trans ew0)))))]; omega) (by omega) (by omega)
                        have k83055 := k83053.wr e83055 rfl
                        refine ev_aload_n rfl ?_
                        refine g_getp (r := 42) (c := 52) g83055 ad42 (by decide) (by decide) rf42_14 ft12_14 ?_
                        refine ev_iconst ?_
                        refine ev_iload rfl ?_
                        refine ev_imul (r := (400 * w0 + 4 * w1)) (by unfold w32; omega) ?_
                        refine ev_iload rfl ?_
                        refine ev_iadd (r := (400 * w0 + 4 * w1)) (by unfold w32; omega) ?_
                        refine ev_iconst ?_
                        refine g_iast g83055 ad52 rt52 (fun _ => rfl) (by omega) (by omega) (by omega) (by omega) (fun h83056 e83056 g83056 => ?_)
                        have k83056 := k83055.wr e83056 rfl
                        refine ev_iinc (w := 1) (L' := [(2, 42), (0, 1), (0, 0), (0, ((-10) * v82893 + (-v82934) + 528)), (0, (100 * w0 + w1)), (0, 1)]) rfl (by decide) rfl ?_
                        refine ev_goto f267_71 ?_
                        refine ev_iload rfl ?_
                        refine ev_iconst ?_
                        refine ev_icmpge f267_109 (fun c83057 => absurd c83057 (by omega)) (fun c83057 => ?_)
                        refine ev_aload_n rfl ?_
                        refine g_getp (r := 42) (c := 51) g83056 ad42 (by decide) (by decide) rf42_13 ft12_13 ?_
                        refine ev_iconst ?_
                        refine ev_iload rfl ?_
                        refine ev_imul (r := (400 * w0 + 4 * w1)) (by unfold w32; omega) ?_
                        refine ev_iload rfl ?_
                        refine ev_iadd (r := (400 * w0 + 4 * w1 + 1)) (by unfold w32; omega) ?_
                        refine ev_iconst ?_
                        refine ev_bastG (r := 51) (j := ((400 * w0 + 4 * w1 + 1)).toNat) (w := (-1)) (g83056.lt ad51) (g83056.tg ad51) (by omega) (by rw [g83056.ln ad51]; omega) (by unfold w8; omega) (fun h83058 e83058 => ?_)
                        have g83058 := g83056.s51 e83058 (by rw [(((jw_ne e83056 (Or.inl (by decide))).trans ((jw_ne e83055 (Or.inl (by decide))).trans ((jw_ne e83053 (Or.inl (by decide))).trans ((jw_ne e83052 (Or.inl (by decide))).trans ((jw_ne e83051 (Or.inl (by decide))).trans ((jw_ne e83049 (Or.inr (by decide))).trans ew0)))))))]; omega) (by omega) (by omega)
                        have k83058 := k83056.wr e83058 rfl
                        refine ev_aload_n rfl ?_
                        refine g_getp (r := 42) (c := 52) g83058 ad42 (by decide) (by decide) rf42_14 ft12_14 ?_
                        refine ev_iconst ?_
                        refine ev_iload rfl ?_
                        refine ev_imul (r := (400 * w0 + 4 * w1)) (by unfold w32; omega) ?_
                        refine ev_iload rfl ?_
                        refine ev_iadd (r := (400 * w0 + 4 * w1 + 1)) (by unfold w32; omega) ?_
                        refine ev_iconst ?_
                        refine g_iast g83058 ad52 rt52 (fun _ => rfl) (by omega) (by omega) (by omega) (by omega) (fun h83059 e83059 g83059 => ?_)
                        have k83059 := k83058.wr e83059 rfl
                        refine ev_iinc (w := 2) (L' := [(2, 42), (0, 1), (0, 0), (0, ((-10) * v82893 + (-v82934) + 528)), (0, (100 * w0 + w1)), (0, 2)]) rfl (by decide) rfl ?_
                        refine ev_goto f267_71 ?_
                        refine ev_iload rfl ?_
                        refine ev_iconst ?_
                        refine ev_icmpge f267_109 (fun c83060 => absurd c83060 (by omega)) (fun c83060 => ?_)
                        refine ev_aload_n rfl ?_
                        refine g_getp (r := 42) (c := 51) g83059 ad42 (by decide) (by decide) rf42_13 ft12_13 ?_
                        refine ev_iconst ?_
                        refine ev_iload rfl ?_
                        refine ev_imul (r := (400 * w0 + 4 * w1)) (by unfold w32; omega) ?_
                        refine ev_iload rfl ?_
                        refine ev_iadd (r := (400 * w0 + 4 * w1 + 2)) (by unfold w32; omega) ?_
                        refine ev_iconst ?_
                        refine ev_bastG (r := 51) (j := ((400 * w0 + 4 * w1 + 2)).toNat) (w := (-1)) (g83059.lt ad51) (g83059.tg ad51) (by omega) (by rw [g83059.ln ad51]; omega) (by unfold w8; omega) (fun h83061 e83061 => ?_)
                        have g83061 := g83059.s51 e83061 (by rw [(((jw_ne e83059 (Or.inl (by decide))).trans ((jw_ne e83058 (Or.inl (by decide))).trans ((jw_ne e83056 (Or.inl (by decide))).trans ((jw_ne e83055 (Or.inl (by decide))).trans ((jw_ne e83053 (Or.inl (by decide))).trans ((jw_ne e83052 (Or.inl (by decide))).trans ((jw_ne e83051 (Or.inl (by decide))).trans ((jw_ne e83049 (Or.inr (by decide))).trans ew0)))))))))]; omega) (by omega) (by omega)
                        have k83061 := k83059.wr e83061 rfl
                        refine ev_aload_n rfl ?_
                        refine g_getp (r := 42) (c := 52) g83061 ad42 (by decide) (by decide) rf42_14 ft12_14 ?_
                        refine ev_iconst ?_
                        refine ev_iload rfl ?_
                        refine ev_imul (r := (400 * w0 + 4 * w1)) (by unfold w32; omega) ?_
                        refine ev_iload rfl ?_
                        refine ev_iadd (r := (400 * w0 + 4 * w1 + 2)) (by unfold w32; omega) ?_
                        refine ev_iconst ?_
                        refine g_iast g83061 ad52 rt52 (fun _ => rfl) (by omega) (by omega) (by omega) (by omega) (fun h83062 e83062 g83062 => ?_)
                        have k83062 := k83061.wr e83062 rfl
                        refine ev_iinc (w := 3) (L' := [(2, 42), (0, 1), (0, 0), (0, ((-10) * v82893 + (-v82934) + 528)), (0, (100 * w0 + w1)), (0, 3)]) rfl (by decide) rfl ?_
                        refine ev_goto f267_71 ?_
                        refine ev_iload rfl ?_
                        refine ev_iconst ?_
                        refine ev_icmpge f267_109 (fun c83063 => absurd c83063 (by omega)) (fun c83063 => ?_)
                        refine ev_aload_n rfl ?_
                        refine g_getp (r := 42) (c := 51) g83062 ad42 (by decide) (by decide) rf42_13 ft12_13 ?_
                        refine ev_iconst ?_
                        refine ev_iload rfl ?_
                        refine ev_imul (r := (400 * w0 + 4 * w1)) (by unfold w32; omega) ?_
                        refine ev_iload rfl ?_
                        refine ev_iadd (r := (400 * w0 + 4 * w1 + 3)) (by unfold w32; omega) ?_
                        refine ev_iconst ?_
                        refine ev_bastG (r := 51) (j := ((400 * w0 + 4 * w1 + 3)).toNat) (w := (-1)) (g83062.lt ad51) (g83062.tg ad51) (by omega) (by rw [g83062.ln ad51]; omega) (by unfold w8; omega) (fun h83064 e83064 => ?_)
                        have g83064 := g83062.s51 e83064 (by rw [(((jw_ne e83062 (Or.inl (by decide))).trans ((jw_ne e83061 (Or.inl (by decide))).trans ((jw_ne e83059 (Or.inl (by decide))).trans ((jw_ne e83058 (Or.inl (by decide))).trans ((jw_ne e83056 (Or.inl (by decide))).trans ((jw_ne e83055 (Or.inl (by decide))).trans ((jw_ne e83053 (Or.inl (by decide))).trans ((jw_ne e83052 (Or.inl (by decide))).trans ((jw_ne e83051 (Or.inl (by decide))).trans ((jw_ne e83049 (Or.inr (by decide))).trans ew0)))))))))))]; omega) (by omega) (by omega)
                        have k83064 := k83062.wr e83064 rfl
                        refine ev_aload_n rfl ?_
                        refine g_getp (r := 42) (c := 52) g83064 ad42 (by decide) (by decide) rf42_14 ft12_14 ?_
                        refine ev_iconst ?_
                        refine ev_iload rfl ?_
                        refine ev_imul (r := (400 * w0 + 4 * w1)) (by unfold w32; omega) ?_
                        refine ev_iload rfl ?_
                        refine ev_iadd (r := (400 * w0 + 4 * w1 + 3)) (by unfold w32; omega) ?_
                        refine ev_iconst ?_
                        refine g_iast g83064 ad52 rt52 (fun _ => rfl) (by omega) (by omega) (by omega) (by omega) (fun h83065 e83065 g83065 => ?_)
                        have k83065 := k83064.wr e83065 rfl
                        refine ev_iinc (w := 4) (L' := [(2, 42), (0, 1), (0, 0), (0, ((-10) * v82893 + (-v82934) + 528)), (0, (100 * w0 + w1)), (0, 4)]) rfl (by decide) rfl ?_
                        refine ev_goto f267_71 ?_
                        refine ev_iload rfl ?_
                        refine ev_iconst ?_
                        refine ev_icmpge f267_109 (fun c83066 => ?_) (fun c83066 => absurd c83066 (by omega))
                        refine ev_iload rfl ?_
                        refine ev_ret rfl (by decide) (by decide) ?_
                        show jEv _ _ _ _ _ _ _ (_, [(2, 42), (0, a1), (0, 1), (0, (a1 + 3)), (0, 1), (0, (10 * v82893 + v82934 - 528)), (0, 2)], [(0, (100 * w0 + w1))], _, _, _)
                        refine ev_pop (by decide) ?_
                        refine ev_iload_n rfl ?_
                        exact ev_ret rfl (by decide) (by decide) ⟨⟨_, rfl, by omega, by omega, g83065, k83065⟩, fun r hr h0 => by cases hr; exact (Ad.step (r' := (a1 + 3)) (Ad.step (r' := (a1 + 2)) (Ad.step (r' := (a1 + 1)) (Ad.rf _ _ _) (by omega) k83065 (fun _ => rfl) (((jw_ne e83065 (Or.inl (by decide))).trans ((jw_ne e83064 (Or.inl (by decide))).trans ((jw_ne e83062 (Or.inl (by decide))).trans ((jw_ne e83061 (Or.inl (by decide))).trans ((jw_ne e83059 (Or.inl (by decide))).trans ((jw_ne e83058 (Or.inl (by decide))).trans ((jw_ne e83056 (Or.inl (by decide))).trans ((jw_ne e83055 (Or.inl (by decide))).trans ((jw_ne e83053 (Or.inl (by decide))).trans ((jw_ne e83052 (Or.inl (by decide))).trans ((jw_ne e83051 (Or.inl (by decide))).trans ((jw_ne e83049 (Or.inl (by decide))).trans ev82638))))))))))))) (by omega) (by omega) (by omega)) (by omega) k83065 (fun _ => rfl) (((jw_ne e83065 (Or.inl (by decide))).trans ((jw_ne e83064 (Or.inl (by decide))).trans ((jw_ne e83062 (Or.inl (by decide))).trans ((jw_ne e83061 (Or.inl (by decide))).trans ((jw_ne e83059 (Or.inl (by decide))).trans ((jw_ne e83058 (Or.inl (by decide))).trans ((jw_ne e83056 (Or.inl (by decide))).trans ((jw_ne e83055 (Or.inl (by decide))).trans ((jw_ne e83053 (Or.inl (by decide))).trans ((jw_ne e83052 (Or.inl (by decide))).trans ((jw_ne e83051 (Or.inl (by decide))).trans ((jw_ne e83049 (Or.inl (by decide))).trans ev82893))))))))))))) (by omega) (by omega) (by omega)) (by omega) k83065 (fun _ => rfl) (((jw_ne e83065 (Or.inl (by decide))).trans ((jw_ne e83064 (Or.inl (by decide))).trans ((jw_ne e83062 (Or.inl (by decide))).trans ((jw_ne e83061 (Or.inl (by decide))).trans ((jw_ne e83059 (Or.inl (by decide))).trans ((jw_ne e83058 (Or.inl (by decide))).trans ((jw_ne e83056 (Or.inl (by decide))).trans ((jw_ne e83055 (Or.inl (by decide))).trans ((jw_ne e83053 (Or.inl (by decide))).trans ((jw_ne e83052 (Or.inl (by decide))).trans ((jw_ne e83051 (Or.inl (by decide))).trans ((jw_ne e83049 (Or.inl (by decide))).trans ev82934))))))))))))) (by omega) (by omega) (by omega)), fun r hr => by cases hr; exact ⟨_, (((jw_ne e83065 (Or.inl (by decide))).trans ((jw_ne e83064 (Or.inl (by decide))).trans ((jw_ne e83062 (Or.inl (by decide))).trans ((jw_ne e83061 (Or.inl (by decide))).trans ((jw_ne e83059 (Or.inl (by decide))).trans ((jw_ne e83058 (Or.inl (by decide))).trans ((jw_ne e83056 (Or.inl (by decide))).trans ((jw_ne e83055 (Or.inl (by decide))).trans ((jw_ne e83053 (Or.inl (by decide))).trans ((jw_ne e83052 (Or.inl (by decide))).trans ((jw_ne e83051 (Or.inl (by decide))).trans (jw_eq e83049))))))))))))), by omega, by omega, (Fr.kp (Fr.w (i := (400 * w0 + 4 * w1 + 3)) (Fr.kp (Fr.w (i := (400 * w0 + 4 * w1 + 2)) (Fr.kp (Fr.w (i := (400 * w0 + 4 * w1 + 1)) (Fr.kp (Fr.w (i := (400 * w0 + 4 * w1)) (Fr.w (i := (100 * w0 + w1)) (Fr.w (i := (100 * w0 + w1)) (Fr.w (i := (100 * w0 + w1)) (Fr.kp (Fr.rf _ _) ((Kp.rf [(42, 0)] _).wr e83049 rfl) (fun _ => rfl) (fun _ => rfl) (fun _ => rfl) (fun _ => rfl)) e83051 (by omega) (by omega)) e83052 (by omega) (by omega)) e83053 (by omega) (by omega)) e83055 (by omega) (by omega)) ((Kp.rf [(52, 0)] _).wr e83056 rfl) (fun _ => rfl) (fun _ => rfl) (fun _ => rfl) (fun _ => rfl)) e83058 (by omega) (by omega)) ((Kp.rf [(52, 0)] _).wr e83059 rfl) (fun _ => rfl) (fun _ => rfl) (fun _ => rfl) (fun _ => rfl)) e83061 (by omega) (by omega)) ((Kp.rf [(52, 0)] _).wr e83062 rfl) (fun _ => rfl) (fun _ => rfl) (fun _ => rfl) (fun _ => rfl)) e83064 (by omega) (by omega)) ((Kp.rf [(52, 0)] _).wr e83065 rfl) (fun _ => rfl) (fun _ => rfl) (fun _ => rfl) (fun _ => rfl)), fun h0 => by omega, fun h0 hm => Tr.end (i := (100 * w0 + w1)) (by omega) (by omega) (by omega) (((jw_ne e83065 (Or.inl (by decide))).trans ((jw_ne e83064 (Or.inl (by decide))).trans ((jw_ne e83062 (Or.inl (by decide))).trans ((jw_ne e83061 (Or.inl (by decide))).trans ((jw_ne e83059 (Or.inl (by decide))).trans ((jw_ne e83058 (Or.inl (by decide))).trans ((jw_ne e83056 (Or.inl (by decide))).trans ((jw_ne e83055 (Or.inl (by decide))).trans ((jw_ne e83053 (Or.inl (by decide))).trans ((jw_ne e83052 (Or.inl (by decide))).trans (jw_eq e83051)))))))))))) (by omega) (by omega)⟩, fun r hr => by cases hr; exact okM (show (if bR h a1 = 45 then enR (bR h) (a1 + 1) else enR (bR h) a1) = ((a1 + 3), 0, 0, 1) by rw [if_pos ((bR_at (p := a1) k83065 (fun _ => rfl) ew2 (((jw_ne e83065 (Or.inl (by decide))).trans ((jw_ne e83064 (Or.inl (by decide))).trans ((jw_ne e83062 (Or.inl (by decide))).trans ((jw_ne e83061 (Or.inl (by decide))).trans ((jw_ne e83059 (Or.inl (by decide))).trans ((jw_ne e83058 (Or.inl (by decide))).trans ((jw_ne e83056 (Or.inl (by decide))).trans ((jw_ne e83055 (Or.inl (by decide))).trans ((jw_ne e83053 (Or.inl (by decide))).trans ((jw_ne e83052 (Or.inl (by decide))).trans ((jw_ne e83051 (Or.inl (by decide))).trans ((jw_ne e83049 (Or.inl (by decide))).trans ev82638))))))))))))) (by omega) (by omega)).trans (by omega))]; unfold enR; rw [show nm3 (bR h) (a1 + 1) = (a1 + 3) by unfold nm3; rw [show (a1 + 1 + 1 : Int) = a1 + 2 by omega, show (a1 + 1 + 2 : Int) = a1 + 3 by omega, (bR_at (p := (a1 + 1)) k83065 (fun _ => rfl) ew2 (((jw_ne e83065 (Or.inl (by decide))).trans ((jw_ne e83064 (Or.inl (by decide))).trans ((jw_ne e83062 (Or.inl (by decide))).trans ((jw_ne e83061 (Or.inl (by decide))).trans ((jw_ne e83059 (Or.inl (by decide))).trans ((jw_ne e83058 (Or.inl (by decide))).trans ((jw_ne e83056 (Or.inl (by decide))).trans ((jw_ne e83055 (Or.inl (by decide))).trans ((jw_ne e83053 (Or.inl (by decide))).trans ((jw_ne e83052 (Or.inl (by decide))).trans ((jw_ne e83051 (Or.inl (by decide))).trans ((jw_ne e83049 (Or.inl (by decide))).trans ev82893))))))))))))) (by omega) (by omega)), (bR_at (p := (a1 + 2)) k83065 (fun _ => rfl) ew2 (((jw_ne e83065 (Or.inl (by decide))).trans ((jw_ne e83064 (Or.inl (by decide))).trans ((jw_ne e83062 (Or.inl (by decide))).trans ((jw_ne e83061 (Or.inl (by decide))).trans ((jw_ne e83059 (Or.inl (by decide))).trans ((jw_ne e83058 (Or.inl (by decide))).trans ((jw_ne e83056 (Or.inl (by decide))).trans ((jw_ne e83055 (Or.inl (by decide))).trans ((jw_ne e83053 (Or.inl (by decide))).trans ((jw_ne e83052 (Or.inl (by decide))).trans ((jw_ne e83051 (Or.inl (by decide))).trans ((jw_ne e83049 (Or.inl (by decide))).trans ev82934))))))))))))) (by omega) (by omega)), (bR_at (p := (a1 + 3)) k83065 (fun _ => rfl) ew2 (((jw_ne e83065 (Or.inl (by decide))).trans ((jw_ne e83064 (Or.inl (by decide))).trans ((jw_ne e83062 (Or.inl (by decide))).trans ((jw_ne e83061 (Or.inl (by decide))).trans ((jw_ne e83059 (Or.inl (by decide))).trans ((jw_ne e83058 (Or.inl (by decide))).trans ((jw_ne e83056 (Or.inl (by decide))).trans ((jw_ne e83055 (Or.inl (by decide))).trans ((jw_ne e83053 (Or.inl (by decide))).trans ((jw_ne e83052 (Or.inl (by decide))).trans ((jw_ne e83051 (Or.inl (by decide))).trans ((jw_ne e83049 (Or.inl (by decide))).trans ev83015))))))))))))) (by omega) (by omega))]; (repeat' split) <;> omega, if_neg (by omega)]) (by omega) (by omega) (((jw_ne e83065 (Or.inl (by decide))).trans ((jw_ne e83064 (Or.inl (by decide))).trans ((jw_ne e83062 (Or.inl (by decide))).trans ((jw_ne e83061 (Or.inl (by decide))).trans ((jw_ne e83059 (Or.inl (by decide))).trans ((jw_ne e83058 (Or.inl (by decide))).trans ((jw_ne e83056 (Or.inl (by decide))).trans ((jw_ne e83055 (Or.inl (by decide))).trans ((jw_ne e83053 (Or.inl (by decide))).trans ((jw_ne e83052 (Or.inl (by decide))).trans ((jw_ne e83051 (Or.inl (by decide))).trans (jw_eq e83049))))))))))))) (by omega)⟩
                      · refine ev_iconst ?_
                        refine ev_goto f242_15 ?_
                        refine ev_ret rfl (by decide) (by decide) ?_
                        show jEv _ _ _ _ _ _ _ (_, [(2, 42), (0, (a1 + 3))], [(0, 1)], _, _, _)
                        refine ev_ret rfl (by decide) (by decide) ?_
                        show jEv _ _ _ _ _ _ _ (_, [(2, 42), (0, a1), (0, 1), (0, (a1 + 3)), (0, 1), (0, (10 * v82893 + v82934 - 528)), (0, 2)], [(0, 1)], _, _, _)
                        refine ev_ifeq f269_86 (fun c83067 => absurd c83067 (by omega)) (fun c83067 => ?_)
                        refine ev_bipush ?_
                        refine ev_iload rfl ?_
                        refine ev_imul (r := (100 * v82893 + 10 * v82934 - 5280)) (by unfold w32; omega) ?_
                        refine ev_aload_n rfl ?_
                        refine ev_iload_n rfl ?_
                        refine ev_in (d := 1) (a := 0) (b := 0) (cd' := c264_0) (m := 2) (L0 := [(2, 42), (0, (a1 + 3))]) (jcall_v (A := [(0, (a1 + 3))]) (S' := [(0, (100 * v82893 + 10 * v82934 - 5280))]) (r := 42) rfl (g.lt ad42) (g.tg ad42) (Nat.le_of_ble_eq_true rfl)) (by decide) ml264 pp264 (Nat.le_of_ble_eq_true rfl) rfl (by decide) (by decide) ?_
                        refine ev_iload_n rfl ?_
                        refine ev_aload_n rfl ?_
                        refine g_getv (r := 42) (v := w2) g ad42 (by decide) ft12_17 (ew2) ?_
                        refine ev_icmpge f264_17 (fun c83068 => absurd c83068 (by omega)) (fun c83068 => ?_)
                        refine ev_aload_n rfl ?_
                        refine g_getp (r := 42) (c := 54) g ad42 (by decide) (by decide) rf42_16 ft12_16 ?_
                        refine ev_iload_n rfl ?_
                        refine g_baldv (v := v83015) g ad54 (by omega) (by omega) (ev83015) ?_
                        refine ev_goto f264_18 ?_
                        refine ev_ret rfl (by decide) (by decide) ?_
                        show jEv _ _ _ _ _ _ _ (_, [(2, 42), (0, a1), (0, 1), (0, (a1 + 3)), (0, 1), (0, (10 * v82893 + v82934 - 528)), (0, 2)], [(0, v83015), (0, (100 * v82893 + 10 * v82934 - 5280))], _, _, _)
                        refine ev_iadd (r := (100 * v82893 + 10 * v82934 + v83015 - 5280)) (by unfold w32; omega) ?_
                        refine ev_bipush ?_
                        refine ev_isub (r := (100 * v82893 + 10 * v82934 + v83015 - 5328)) (by unfold w32; omega) ?_
                        refine ev_istore (L' := [(2, 42), (0, a1), (0, 1), (0, (a1 + 3)), (0, 1), (0, (100 * v82893 + 10 * v82934 + v83015 - 5328)), (0, 2)]) (Nat.le_of_ble_eq_true rfl) rfl ?_
                        refine ev_iinc (w := 3) (L' := [(2, 42), (0, a1), (0, 1), (0, (a1 + 3)), (0, 1), (0, (100 * v82893 + 10 * v82934 + v83015 - 5328)), (0, 3)]) rfl (by decide) rfl ?_
                        refine ev_iinc (w := (a1 + 4)) (L' := [(2, 42), (0, a1), (0, 1), (0, (a1 + 4)), (0, 1), (0, (100 * v82893 + 10 * v82934 + v83015 - 5328)), (0, 3)]) rfl (by unfold w32; omega) rfl ?_
                        refine ev_goto f269_47 ?_
                        refine ev_iload rfl ?_
                        refine ev_iconst ?_
                        refine ev_icmpge f269_86 (fun c83069 => ?_) (fun c83069 => absurd c83069 (by omega))
                        refine ev_aload_n rfl ?_
                        refine ev_iload_n rfl ?_
                        refine ev_in (d := 1) (a := 0) (b := 0) (cd' := c265_0) (m := 2) (L0 := [(2, 42), (0, (a1 + 4))]) (jcall_v (A := [(0, (a1 + 4))]) (S' := []) (r := 42) rfl (g.lt ad42) (g.tg ad42) (Nat.le_of_ble_eq_true rfl)) (by decide) ml265 pp265 (Nat.le_of_ble_eq_true rfl) rfl (by decide) (by decide) ?_
                        refine ev_aload_n rfl ?_
                        refine ev_iload_n rfl ?_
                        refine ev_in (d := 0) (a := 0) (b := 0) (cd' := c264_0) (m := 2) (L0 := [(2, 42), (0, (a1 + 4))]) (jcall_v (A := [(0, (a1 + 4))]) (S' := []) (r := 42) rfl (g.lt ad42) (g.tg ad42) (Nat.le_of_ble_eq_true rfl)) (by decide) ml264 pp264 (Nat.le_of_ble_eq_true rfl) rfl (by decide) (by decide) ?_
                        refine ev_iload_n rfl ?_
                        refine ev_aload_n rfl ?_
                        refine g_getv (r := 42) (v := w2) g ad42 (by decide) ft12_17 (ew2) ?_
                        refine ev_icmpge f264_17 (fun c83070 => ?_) (fun c83070 => ?_)
                        · refine ev_iconst ?_
                          refine ev_ret rfl (by decide) (by decide) ?_
                          show jEv _ _ _ _ _ _ _ (_, [(2, 42), (0, (a1 + 4))], [(0, (-1))], _, _, _)
                          refine ev_bipush ?_
                          refine ev_bipush ?_
                          refine ev_in (d := 0) (a := 0) (b := 0) (cd' := c242_0) (m := 3) (L0 := [(0, (-1)), (0, 48), (0, 57)]) (jcall_s (A := [(0, 57), (0, 48), (0, (-1))]) (S' := []) (by decide) rfl (Nat.le_of_ble_eq_true rfl)) (by decide) ml242 pp242 (Nat.le_of_ble_eq_true rfl) rfl (by decide) (by decide) ?_
                          refine ev_iload_n rfl ?_
                          refine ev_iload_n rfl ?_
                          refine ev_icmplt f242_14 (fun c83071 => ?_) (fun c83071 => absurd c83071 (by omega))
                          refine ev_iconst ?_
                          refine ev_ret rfl (by decide) (by decide) ?_
                          show jEv _ _ _ _ _ _ _ (_, [(2, 42), (0, (a1 + 4))], [(0, 0)], _, _, _)
                          refine ev_ret rfl (by decide) (by decide) ?_
                          show jEv _ _ _ _ _ _ _ (_, [(2, 42), (0, a1), (0, 1), (0, (a1 + 4)), (0, 1), (0, (100 * v82893 + 10 * v82934 + v83015 - 5328)), (0, 3)], [(0, 0)], _, _, _)
                          refine ev_ifeq f269_100 (fun c83072 => ?_) (fun c83072 => absurd c83072 (by omega))
                          refine ev_aload_n rfl ?_
                          refine ev_iload_n rfl ?_
                          refine ev_iconst ?_
                          refine ev_iload rfl ?_
                          refine ev_ifeq f269_114 (fun c83073 => absurd c83073 (by omega)) (fun c83073 => ?_)
                          refine ev_iload rfl ?_
                          refine ev_ineg (r := ((-100) * v82893 + (-10) * v82934 + (-v83015) + 5328)) (by unfold w32; omega) ?_
                          refine ev_goto f269_116 ?_
                          refine ev_in (d := 1) (a := 0) (b := 0) (cd' := c267_0) (m := 6) (L0 := [(2, 42), (0, 1), (0, 0), (0, ((-100) * v82893 + (-10) * v82934 + (-v83015) + 5328)), (9, 0), (9, 0)]) (jcall_v (A := [(0, ((-100) * v82893 + (-10) * v82934 + (-v83015) + 5328)), (0, 0), (0, 1)]) (S' := []) (r := 42) rfl (g.lt ad42) (g.tg ad42) (Nat.le_of_ble_eq_true rfl)) (by decide) ml267 pp267 (Nat.le_of_ble_eq_true rfl) rfl (by decide) (by decide) ?_
                          refine ev_iload_n rfl ?_
                          refine ev_ifne f267_6 (fun c83074 => ?_) (fun c83074 => absurd c83074 (by omega))
                          refine ev_aload_n rfl ?_
                          refine ev_dup (by decide) ?_
                          refine g_getv (r := 42) (v := w1) g ad42 (by decide) ft12_21 (ew1) ?_
                          refine ev_iconst ?_
                          refine ev_iadd (r := (w1 + 1)) (by unfold w32; omega) ?_
                          refine g_putf (r := 42) g ad42 (by decide) ft12_21 (by decide) (fun e => absurd e nz12_21) rf42_21 (by decide) (by omega) (by omega) (fun h83075 e83075 g83075 => ?_)
                          have k83075 := k0.wr e83075 rfl
                          refine ev_aload_n rfl ?_
                          refine g_getv (r := 42) (v := (w1 + 1)) g83075 ad42 (by decide) ft12_21 ((jw_eq e83075)) ?_
                          refine ev_bipush ?_
                          refine ev_icmple f267_27 (fun c83076 => ?_) (fun c83076 => absurd c83076 (by omega))
                          refine ev_bipush ?_
                          refine ev_aload_n rfl ?_
                          refine g_getv (r := 42) (v := w0) g83075 ad42 (by decide) ft12_9 (((jw_ne e83075 (Or.inr (by decide))).trans ew0)) ?_
                          refine ev_imul (r := (100 * w0)) (by unfold w32; omega) ?_
                          refine ev_aload_n rfl ?_
                          refine g_getv (r := 42) (v := (w1 + 1)) g83075 ad42 (by decide) ft12_21 ((jw_eq e83075)) ?_
                          refine ev_iadd (r := (100 * w0 + w1 + 1)) (by unfold w32; omega) ?_
                          refine ev_iconst ?_
                          refine ev_isub (r := (100 * w0 + w1)) (by unfold w32; omega) ?_
                          refine ev_istore (L' := [(2, 42), (0, 1), (0, 0), (0, ((-100) * v82893 + (-10) * v82934 + (-v83015) + 5328)), (0, (100 * w0 + w1)), (9, 0)]) (Nat.le_of_ble_eq_true rfl) rfl ?_
                          refine ev_aload_n rfl ?_
                          refine g_getp (r := 42) (c := 49) g83075 ad42 (by decide) (by decide) rf42_11 ft12_11 ?_
                          refine ev_iload rfl ?_
                          refine ev_iload_n rfl ?_
                          refine ev_i2b (r := 0) (by unfold w8; omega) ?_
                          refine ev_bastG (r := 49) (j := ((100 * w0 + w1)).toNat) (w := 0) (g83075.lt ad49) (g83075.tg ad49) (by omega) (by rw [g83075.ln ad49]; omega) (by unfold w8; omega) (fun h83077 e83077 => ?_)
                          have g83077 := g83075.s49 e83077 (by rw [(((jw_ne e83075 (Or.inr (by decide))).trans ew0))]; omega) (by omega) (by omega)
                          have k83077 := k83075.wr e83077 rfl
                          refine ev_aload_n rfl ?_
                          refine g_getp (r := 42) (c := 50) g83077 ad42 (by decide) (by decide) rf42_12 ft12_12 ?_
                          refine ev_iload rfl ?_
                          refine ev_iload_n rfl ?_
                          refine ev_iastG (r := 50) (j := ((100 * w0 + w1)).toNat) (g83077.lt ad50) (g83077.tg ad50) (by omega) (by rw [g83077.ln ad50]; omega) (fun h83078 e83078 => ?_)
                          have g83078 := g83077.s50 e83078 (Or.inl (by rw [(((jw_ne e83077 (Or.inl (by decide))).trans ((jw_ne e83075 (Or.inr (by decide))).trans ew0)))]; omega)) (by omega) (by omega)
                          have k83078 := k83077.wr e83078 rfl
                          refine ev_aload_n rfl ?_
                          refine g_getp (r := 42) (c := 53) g83078 ad42 (by decide) (by decide) rf42_15 ft12_15 ?_
                          refine ev_iload rfl ?_
                          refine ev_iconst ?_
                          refine ev_bastG (r := 53) (j := ((100 * w0 + w1)).toNat) (w := 0) (g83078.lt ad53) (g83078.tg ad53) (by omega) (by rw [g83078.ln ad53]; omega) (by unfold w8; omega) (fun h83079 e83079 => ?_)
                          have g83079 := g83078.s53 e83079 (Or.inl (by rw [(((jw_ne e83078 (Or.inl (by decide))).trans ((jw_ne e83077 (Or.inl (by decide))).trans ((jw_ne e83075 (Or.inr (by decide))).trans ew0))))]; omega)) (by omega) (by omega)
                          have k83079 := k83078.wr e83079 rfl
                          refine ev_iconst ?_
                          refine ev_istore (L' := [(2, 42), (0, 1), (0, 0), (0, ((-100) * v82893 + (-10) * v82934 + (-v83015) + 5328)), (0, (100 * w0 + w1)), (0, 0)]) (Nat.le_of_ble_eq_true rfl) rfl ?_
                          refine ev_iload rfl ?_
                          refine ev_iconst ?_
                          refine ev_icmpge f267_109 (fun c83080 => absurd c83080 (by omega)) (fun c83080 => ?_)
                          refine ev_aload_n rfl ?_
                          refine g_getp (r := 42) (c := 51) g83079 ad42 (by decide) (by decide) rf42_13 ft12_13 ?_
                          refine ev_iconst ?_
                          refine ev_iload rfl ?_
                          refine ev_imul (r := (400 * w0 + 4 * w1)) (by unfold w32; omega) ?_
                          refine ev_iload rfl ?_
                          refine ev_iadd (r := (400 * w0 + 4 * w1)) (by unfold w32; omega) ?_
                          refine ev_iconst ?_
                          refine ev_bastG (r := 51) (j := ((400 * w0 + 4 * w1)).toNat) (w := (-1)) (g83079.lt ad51) (g83079.tg ad51) (by omega) (by rw [g83079.ln ad51]; omega) (by unfold w8; omega) (fun h83081 e83081 => ?_)
                          have g83081 := g83079.s51 e83081 (by rw [(((jw_ne e83079 (Or.inl (by decide))).trans ((jw_ne e83078 (Or.inl (by decide))).trans ((jw_ne e83077 (Or.inl (by decide))).trans ((jw_ne e83075 (Or.inr (by decide))).trans ew0)))))]; omega) (by omega) (by omega)
                          have k83081 := k83079.wr e83081 rfl
                          refine ev_aload_n rfl ?_
                          refine g_getp (r := 42) (c := 52) g83081 ad42 (by decide) (by decide) rf42_14 ft12_14 ?_
                          refine ev_iconst ?_
                          refine ev_iload rfl ?_
                          refine ev_imul (r := (400 * w0 + 4 * w1)) (by unfold w32; omega) ?_
                          refine ev_iload rfl ?_
                          refine ev_iadd (r := (400 * w0 + 4 * w1)) (by unfold w32; omega) ?_
                          refine ev_iconst ?_
                          refine g_iast g83081 ad52 rt52 (fun _ => rfl) (by omega) (by omega) (by omega) (by omega) (fun h83082 e83082 g83082 => ?_)
                          have k83082 := k83081.wr e83082 rfl
                          refine ev_iinc (w := 1) (L' := [(2, 42), (0, 1), (0, 0), (0, ((-100) * v82893 + (-10) * v82934 + (-v83015) + 5328)), (0, (100 * w0 + w1)), (0, 1)]) rfl (by decide) rfl ?_
                          refine ev_goto f267_71 ?_
                          refine ev_iload rfl ?_
                          refine ev_iconst ?_
                          refine ev_icmpge f267_109 (fun c83083 => absurd c83083 (by omega)) (fun c83083 => ?_)
                          refine ev_aload_n rfl ?_
                          refine g_getp (r := 42) (c := 51) g83082 ad42 (by decide) (by decide) rf42_13 ft12_13 ?_
                          refine ev_iconst ?_
                          refine ev_iload rfl ?_
                          refine ev_imul (r := (400 * w0 + 4 * w1)) (by unfold w32; omega) ?_
                          refine ev_iload rfl ?_
                          refine ev_iadd (r := (400 * w0 + 4 * w1 + 1)) (by unfold w32; omega) ?_
                          refine ev_iconst ?_
                          refine ev_bastG (r := 51) (j := ((400 * w0 + 4 * w1 + 1)).toNat) (w := (-1)) (g83082.lt ad51) (g83082.tg ad51) (by omega) (by rw [g83082.ln ad51]; omega) (by unfold w8; omega) (fun h83084 e83084 => ?_)
                          have g83084 := g83082.s51 e83084 (by rw [(((jw_ne e83082 (Or.inl (by decide))).trans ((jw_ne e83081 (Or.inl (by decide))).trans ((jw_ne e83079 (Or.inl (by decide))).trans ((jw_ne e83078 (Or.inl (by decide))).trans ((jw_ne e83077 (Or.inl (by decide))).trans ((jw_ne e83075 (Or.inr (by decide))).trans ew0)))))))]; omega) (by omega) (by omega)
                          have k83084 := k83082.wr e83084 rfl
                          refine ev_aload_n rfl ?_
                          refine g_getp (r := 42) (c := 52) g83084 ad42 (by decide) (by decide) rf42_14 ft12_14 ?_
                          refine ev_iconst ?_
                          refine ev_iload rfl ?_
                          refine ev_imul (r := (400 * w0 + 4 * w1)) (by unfold w32; omega) ?_
                          refine ev_iload rfl ?_
                          refine ev_iadd (r := (400 * w0 + 4 * w1 + 1)) (by unfold w32; omega) ?_
                          refine ev_iconst ?_
                          refine g_iast g83084 ad52 rt52 (fun _ => rfl) (by omega) (by omega) (by omega) (by omega) (fun h83085 e83085 g83085 => ?_)
                          have k83085 := k83084.wr e83085 rfl
                          refine ev_iinc (w := 2) (L' := [(2, 42), (0, 1), (0, 0), (0, ((-100) * v82893 + (-10) * v82934 + (-v83015) + 5328)), (0, (100 * w0 + w1)), (0, 2)]) rfl (by decide) rfl ?_
                          refine ev_goto f267_71 ?_
                          refine ev_iload rfl ?_
                          refine ev_iconst ?_
                          refine ev_icmpge f267_109 (fun c83086 => absurd c83086 (by omega)) (fun c83086 => ?_)
                          refine ev_aload_n rfl ?_
                          refine g_getp (r := 42) (c := 51) g83085 ad42 (by decide) (by decide) rf42_13 ft12_13 ?_
                          refine ev_iconst ?_
                          refine ev_iload rfl ?_
                          refine ev_imul (r := (400 * w0 + 4 * w1)) (by unfold w32; omega) ?_
                          refine ev_iload rfl ?_
                          refine ev_iadd (r := (400 * w0 + 4 * w1 + 2)) (by unfold w32; omega) ?_
                          refine ev_iconst ?_
                          refine ev_bastG (r := 51) (j := ((400 * w0 + 4 * w1 + 2)).toNat) (w := (-1)) (g83085.lt ad51) (g83085.tg ad51) (by omega) (by rw [g83085.ln ad51]; omega) (by unfold w8; omega) (fun h83087 e83087 => ?_)
                          have g83087 := g83085.s51 e83087 (by rw [(((jw_ne e83085 (Or.inl (by decide))).trans ((jw_ne e83084 (Or.inl (by decide))).trans ((jw_ne e83082 (Or.inl (by decide))).trans ((jw_ne e83081 (Or.inl (by decide))).trans ((jw_ne e83079 (Or.inl (by decide))).trans ((jw_ne e83078 (Or.inl (by decide))).trans ((jw_ne e83077 (Or.inl (by decide))).trans ((jw_ne e83075 (Or.inr (by decide))).trans ew0)))))))))]; omega) (by omega) (by omega)
                          have k83087 := k83085.wr e83087 rfl
                          refine ev_aload_n rfl ?_
                          refine g_getp (r := 42) (c := 52) g83087 ad42 (by decide) (by decide) rf42_14 ft12_14 ?_
                          refine ev_iconst ?_
                          refine ev_iload rfl ?_
                          refine ev_imul (r := (400 * w0 + 4 * w1)) (by unfold w32; omega) ?_
                          refine ev_iload rfl ?_
                          refine ev_iadd (r := (400 * w0 + 4 * w1 + 2)) (by unfold w32; omega) ?_
                          refine ev_iconst ?_
                          refine g_iast g83087 ad52 rt52 (fun _ => rfl) (by omega) (by omega) (by omega) (by omega) (fun h83088 e83088 g83088 => ?_)
                          have k83088 := k83087.wr e83088 rfl
                          refine ev_iinc (w := 3) (L' := [(2, 42), (0, 1), (0, 0), (0, ((-100) * v82893 + (-10) * v82934 + (-v83015) + 5328)), (0, (100 * w0 + w1)), (0, 3)]) rfl (by decide) rfl ?_
                          refine ev_goto f267_71 ?_
                          refine ev_iload rfl ?_
                          refine ev_iconst ?_
                          refine ev_icmpge f267_109 (fun c83089 => absurd c83089 (by omega)) (fun c83089 => ?_)
                          refine ev_aload_n rfl ?_
                          refine g_getp (r := 42) (c := 51) g83088 ad42 (by decide) (by decide) rf42_13 ft12_13 ?_
                          refine ev_iconst ?_
                          refine ev_iload rfl ?_
                          refine ev_imul (r := (400 * w0 + 4 * w1)) (by unfold w32; omega) ?_
                          refine ev_iload rfl ?_
                          refine ev_iadd (r := (400 * w0 + 4 * w1 + 3)) (by unfold w32; omega) ?_
                          refine ev_iconst ?_
                          refine ev_bastG (r := 51) (j := ((400 * w0 + 4 * w1 + 3)).toNat) (w := (-1)) (g83088.lt ad51) (g83088.tg ad51) (by omega) (by rw [g83088.ln ad51]; omega) (by unfold w8; omega) (fun h83090 e83090 => ?_)
                          have g83090 := g83088.s51 e83090 (by rw [(((jw_ne e83088 (Or.inl (by decide))).trans ((jw_ne e83087 (Or.inl (by decide))).trans ((jw_ne e83085 (Or.inl (by decide))).trans ((jw_ne e83084 (Or.inl (by decide))).trans ((jw_ne e83082 (Or.inl (by decide))).trans ((jw_ne e83081 (Or.inl (by decide))).trans ((jw_ne e83079 (Or.inl (by decide))).trans ((jw_ne e83078 (Or.inl (by decide))).trans ((jw_ne e83077 (Or.inl (by decide))).trans ((jw_ne e83075 (Or.inr (by decide))).trans ew0)))))))))))]; omega) (by omega) (by omega)
                          have k83090 := k83088.wr e83090 rfl
                          refine ev_aload_n rfl ?_
                          refine g_getp (r := 42) (c := 52) g83090 ad42 (by decide) (by decide) rf42_14 ft12_14 ?_
                          refine ev_iconst ?_
                          refine ev_iload rfl ?_
                          refine ev_imul (r := (400 * w0 + 4 * w1)) (by unfold w32; omega) ?_
                          refine ev_iload rfl ?_
                          refine ev_iadd (r := (400 * w0 + 4 * w1 + 3)) (by unfold w32; omega) ?_
                          refine ev_iconst ?_
                          refine g_iast g83090 ad52 rt52 (fun _ => rfl) (by omega) (by omega) (by omega) (by omega) (fun h83091 e83091 g83091 => ?_)
                          have k83091 := k83090.wr e83091 rfl
                          refine ev_iinc (w := 4) (L' := [(2, 42), (0, 1), (0, 0), (0, ((-100) * v82893 + (-10) * v82934 + (-v83015) + 5328)), (0, (100 * w0 + w1)), (0, 4)]) rfl (by decide) rfl ?_
                          refine ev_goto f267_71 ?_
                          refine ev_iload rfl ?_
                          refine ev_iconst ?_
                          refine ev_icmpge f267_109 (fun c83092 => ?_) (fun c83092 => absurd c83092 (by omega))
                          refine ev_iload rfl ?_
                          refine ev_ret rfl (by decide) (by decide) ?_
                          show jEv _ _ _ _ _ _ _ (_, [(2, 42), (0, a1), (0, 1), (0, (a1 + 4)), (0, 1), (0, (100 * v82893 + 10 * v82934 + v83015 - 5328)), (0, 3)], [(0, (100 * w0 + w1))], _, _, _)
                          refine ev_pop (by decide) ?_
                          refine ev_iload_n rfl ?_
                          exact ev_ret rfl (by decide) (by decide) ⟨⟨_, rfl, by omega, by omega, g83091, k83091⟩, fun r hr h0 => by cases hr; exact (Ad.step (r' := (a1 + 4)) (Ad.step (r' := (a1 + 3)) (Ad.step (r' := (a1 + 2)) (Ad.step (r' := (a1 + 1)) (Ad.rf _ _ _) (by omega) k83091 (fun _ => rfl) (((jw_ne e83091 (Or.inl (by decide))).trans ((jw_ne e83090 (Or.inl (by decide))).trans ((jw_ne e83088 (Or.inl (by decide))).trans ((jw_ne e83087 (Or.inl (by decide))).trans ((jw_ne e83085 (Or.inl (by decide))).trans ((jw_ne e83084 (Or.inl (by decide))).trans ((jw_ne e83082 (Or.inl (by decide))).trans ((jw_ne e83081 (Or.inl (by decide))).trans ((jw_ne e83079 (Or.inl (by decide))).trans ((jw_ne e83078 (Or.inl (by decide))).trans ((jw_ne e83077 (Or.inl (by decide))).trans ((jw_ne e83075 (Or.inl (by decide))).trans ev82638))))))))))))) (by omega) (by omega) (by omega)) (by omega) k83091 (fun _ => rfl) (((jw_ne e83091 (Or.inl (by decide))).trans ((jw_ne e83090 (Or.inl (by decide))).trans ((jw_ne e83088 (Or.inl (by decide))).trans ((jw_ne e83087 (Or.inl (by decide))).trans ((jw_ne e83085 (Or.inl (by decide))).trans ((jw_ne e83084 (Or.inl (by decide))).trans ((jw_ne e83082 (Or.inl (by decide))).trans ((jw_ne e83081 (Or.inl (by decide))).trans ((jw_ne e83079 (Or.inl (by decide))).trans ((jw_ne e83078 (Or.inl (by decide))).trans ((jw_ne e83077 (Or.inl (by decide))).trans ((jw_ne e83075 (Or.inl (by decide))).trans ev82893))))))))))))) (by omega) (by omega) (by omega)) (by omega) k83091 (fun _ => rfl) (((jw_ne e83091 (Or.inl (by decide))).trans ((jw_ne e83090 (Or.inl (by decide))).trans ((jw_ne e83088 (Or.inl (by decide))).trans ((jw_ne e83087 (Or.inl (by decide))).trans ((jw_ne e83085 (Or.inl (by decide))).trans ((jw_ne e83084 (Or.inl (by decide))).trans ((jw_ne e83082 (Or.inl (by decide))).trans ((jw_ne e83081 (Or.inl (by decide))).trans ((jw_ne e83079 (Or.inl (by decide))).trans ((jw_ne e83078 (Or.inl (by decide))).trans ((jw_ne e83077 (Or.inl (by decide))).trans ((jw_ne e83075 (Or.inl (by decide))).trans ev82934))))))))))))) (by omega) (by omega) (by omega)) (by omega) k83091 (fun _ => rfl) (((jw_ne e83091 (Or.inl (by decide))).trans ((jw_ne e83090 (Or.inl (by decide))).trans ((jw_ne e83088 (Or.inl (by decide))).trans ((jw_ne e83087 (Or.inl (by decide))).trans ((jw_ne e83085 (Or.inl (by decide))).trans ((jw_ne e83084 (Or.inl (by decide))).trans ((jw_ne e83082 (Or.inl (by decide))).trans ((jw_ne e83081 (Or.inl (by decide))).trans ((jw_ne e83079 (Or.inl (by decide))).trans ((jw_ne e83078 (Or.inl (by decide))).trans ((jw_ne e83077 (Or.inl (by decide))).trans ((jw_ne e83075 (Or.inl (by decide))).trans ev83015))))))))))))) (by omega) (by omega) (by omega)), fun r hr => by cases hr; exact ⟨_, (((jw_ne e83091 (Or.inl (by decide))).trans ((jw_ne e83090 (Or.inl (by decide))).trans ((jw_ne e83088 (Or.inl (by decide))).trans ((jw_ne e83087 (Or.inl (by decide))).trans ((jw_ne e83085 (Or.inl (by decide))).trans ((jw_ne e83084 (Or.inl (by decide))).trans ((jw_ne e83082 (Or.inl (by decide))).trans ((jw_ne e83081 (Or.inl (by decide))).trans ((jw_ne e83079 (Or.inl (by decide))).trans ((jw_ne e83078 (Or.inl (by decide))).trans ((jw_ne e83077 (Or.inl (by decide))).trans (jw_eq e83075))))))))))))), by omega, by omega, (Fr.kp (Fr.w (i := (400 * w0 + 4 * w1 + 3)) (Fr.kp (Fr.w (i := (400 * w0 + 4 * w1 + 2)) (Fr.kp (Fr.w (i := (400 * w0 + 4 * w1 + 1)) (Fr.kp (Fr.w (i := (400 * w0 + 4 * w1)) (Fr.w (i := (100 * w0 + w1)) (Fr.w (i := (100 * w0 + w1)) (Fr.w (i := (100 * w0 + w1)) (Fr.kp (Fr.rf _ _) ((Kp.rf [(42, 0)] _).wr e83075 rfl) (fun _ => rfl) (fun _ => rfl) (fun _ => rfl) (fun _ => rfl)) e83077 (by omega) (by omega)) e83078 (by omega) (by omega)) e83079 (by omega) (by omega)) e83081 (by omega) (by omega)) ((Kp.rf [(52, 0)] _).wr e83082 rfl) (fun _ => rfl) (fun _ => rfl) (fun _ => rfl) (fun _ => rfl)) e83084 (by omega) (by omega)) ((Kp.rf [(52, 0)] _).wr e83085 rfl) (fun _ => rfl) (fun _ => rfl) (fun _ => rfl) (fun _ => rfl)) e83087 (by omega) (by omega)) ((Kp.rf [(52, 0)] _).wr e83088 rfl) (fun _ => rfl) (fun _ => rfl) (fun _ => rfl) (fun _ => rfl)) e83090 (by omega) (by omega)) ((Kp.rf [(52, 0)] _).wr e83091 rfl) (fun _ => rfl) (fun _ => rfl) (fun _ => rfl) (fun _ => rfl)), fun h0 => by omega, fun h0 hm => Tr.end (i := (100 * w0 + w1)) (by omega) (by omega) (by omega) (((jw_ne e83091 (Or.inl (by decide))).trans ((jw_ne e83090 (Or.inl (by decide))).trans ((jw_ne e83088 (Or.inl (by decide))).trans ((jw_ne e83087 (Or.inl (by decide))).trans ((jw_ne e83085 (Or.inl (by decide))).trans ((jw_ne e83084 (Or.inl (by decide))).trans ((jw_ne e83082 (Or.inl (by decide))).trans ((jw_ne e83081 (Or.inl (by decide))).trans ((jw_ne e83079 (Or.inl (by decide))).trans ((jw_ne e83078 (Or.inl (by decide))).trans (jw_eq e83077)))))))))))) (by omega) (by omega)⟩, fun r hr => by cases hr; exact okM (show (if bR h a1 = 45 then enR (bR h) (a1 + 1) else enR (bR h) a1) = ((a1 + 4), 0, 0, 1) by rw [if_pos ((bR_at (p := a1) k83091 (fun _ => rfl) ew2 (((jw_ne e83091 (Or.inl (by decide))).trans ((jw_ne e83090 (Or.inl (by decide))).trans ((jw_ne e83088 (Or.inl (by decide))).trans ((jw_ne e83087 (Or.inl (by decide))).trans ((jw_ne e83085 (Or.inl (by decide))).trans ((jw_ne e83084 (Or.inl (by decide))).trans ((jw_ne e83082 (Or.inl (by decide))).trans ((jw_ne e83081 (Or.inl (by decide))).trans ((jw_ne e83079 (Or.inl (by decide))).trans ((jw_ne e83078 (Or.inl (by decide))).trans ((jw_ne e83077 (Or.inl (by decide))).trans ((jw_ne e83075 (Or.inl (by decide))).trans ev82638))))))))))))) (by omega) (by omega)).trans (by omega))]; unfold enR; rw [show nm3 (bR h) (a1 + 1) = (a1 + 4) by unfold nm3; rw [show (a1 + 1 + 1 : Int) = a1 + 2 by omega, show (a1 + 1 + 2 : Int) = a1 + 3 by omega, (bR_at (p := (a1 + 1)) k83091 (fun _ => rfl) ew2 (((jw_ne e83091 (Or.inl (by decide))).trans ((jw_ne e83090 (Or.inl (by decide))).trans ((jw_ne e83088 (Or.inl (by decide))).trans ((jw_ne e83087 (Or.inl (by decide))).trans ((jw_ne e83085 (Or.inl (by decide))).trans ((jw_ne e83084 (Or.inl (by decide))).trans ((jw_ne e83082 (Or.inl (by decide))).trans ((jw_ne e83081 (Or.inl (by decide))).trans ((jw_ne e83079 (Or.inl (by decide))).trans ((jw_ne e83078 (Or.inl (by decide))).trans ((jw_ne e83077 (Or.inl (by decide))).trans ((jw_ne e83075 (Or.inl (by decide))).trans ev82893))))))))))))) (by omega) (by omega)), (bR_at (p := (a1 + 2)) k83091 (fun _ => rfl) ew2 (((jw_ne e83091 (Or.inl (by decide))).trans ((jw_ne e83090 (Or.inl (by decide))).trans ((jw_ne e83088 (Or.inl (by decide))).trans ((jw_ne e83087 (Or.inl (by decide))).trans ((jw_ne e83085 (Or.inl (by decide))).trans ((jw_ne e83084 (Or.inl (by decide))).trans ((jw_ne e83082 (Or.inl (by decide))).trans ((jw_ne e83081 (Or.inl (by decide))).trans ((jw_ne e83079 (Or.inl (by decide))).trans ((jw_ne e83078 (Or.inl (by decide))).trans ((jw_ne e83077 (Or.inl (by decide))).trans ((jw_ne e83075 (Or.inl (by decide))).trans ev82934))))))))))))) (by omega) (by omega)), (bR_at (p := (a1 + 3)) k83091 (fun _ => rfl) ew2 (((jw_ne e83091 (Or.inl (by decide))).trans ((jw_ne e83090 (Or.inl (by decide))).trans ((jw_ne e83088 (Or.inl (by decide))).trans ((jw_ne e83087 (Or.inl (by decide))).trans ((jw_ne e83085 (Or.inl (by decide))).trans ((jw_ne e83084 (Or.inl (by decide))).trans ((jw_ne e83082 (Or.inl (by decide))).trans ((jw_ne e83081 (Or.inl (by decide))).trans ((jw_ne e83079 (Or.inl (by decide))).trans ((jw_ne e83078 (Or.inl (by decide))).trans ((jw_ne e83077 (Or.inl (by decide))).trans ((jw_ne e83075 (Or.inl (by decide))).trans ev83015))))))))))))) (by omega) (by omega))]; (repeat' split) <;> omega, if_neg (by omega)]) (by omega) (by omega) (((jw_ne e83091 (Or.inl (by decide))).trans ((jw_ne e83090 (Or.inl (by decide))).trans ((jw_ne e83088 (Or.inl (by decide))).trans ((jw_ne e83087 (Or.inl (by decide))).trans ((jw_ne e83085 (Or.inl (by decide))).trans ((jw_ne e83084 (Or.inl (by decide))).trans ((jw_ne e83082 (Or.inl (by decide))).trans ((jw_ne e83081 (Or.inl (by decide))).trans ((jw_ne e83079 (Or.inl (by decide))).trans ((jw_ne e83078 (Or.inl (by decide))).trans ((jw_ne e83077 (Or.inl (by decide))).trans (jw_eq e83075))))))))))))) (by omega)⟩
                        · refine ev_aload_n rfl ?_
                          refine g_getp (r := 42) (c := 54) g ad42 (by decide) (by decide) rf42_16 ft12_16 ?_
                          refine ev_iload_n rfl ?_
                          refine g_bald g ad54 rt54 (by omega) (by omega) (fun v83093 ev83093 lv83093 uv83093 => ?_)
                          refine ev_goto f264_18 ?_
                          refine ev_ret rfl (by decide) (by decide) ?_
                          show jEv _ _ _ _ _ _ _ (_, [(2, 42), (0, (a1 + 4))], [(0, v83093)], _, _, _)
                          refine ev_bipush ?_
                          refine ev_bipush ?_
                          refine ev_in (d := 0) (a := 0) (b := 0) (cd' := c242_0) (m := 3) (L0 := [(0, v83093), (0, 48), (0, 57)]) (jcall_s (A := [(0, 57), (0, 48), (0, v83093)]) (S' := []) (by decide) rfl (Nat.le_of_ble_eq_true rfl)) (by decide) ml242 pp242 (Nat.le_of_ble_eq_true rfl) rfl (by decide) (by decide) ?_
                          refine ev_iload_n rfl ?_
                          refine ev_iload_n rfl ?_
                          refine ev_icmplt f242_14 (fun c83094 => ?_) (fun c83094 => ?_)
                          · refine ev_iconst ?_
                            refine ev_ret rfl (by decide) (by decide) ?_
                            show jEv _ _ _ _ _ _ _ (_, [(2, 42), (0, (a1 + 4))], [(0, 0)], _, _, _)
                            refine ev_ret rfl (by decide) (by decide) ?_
                            show jEv _ _ _ _ _ _ _ (_, [(2, 42), (0, a1), (0, 1), (0, (a1 + 4)), (0, 1), (0, (100 * v82893 + 10 * v82934 + v83015 - 5328)), (0, 3)], [(0, 0)], _, _, _)
                            refine ev_ifeq f269_100 (fun c83095 => ?_) (fun c83095 => absurd c83095 (by omega))
                            refine ev_aload_n rfl ?_
                            refine ev_iload_n rfl ?_
                            refine ev_iconst ?_
                            refine ev_iload rfl ?_
                            refine ev_ifeq f269_114 (fun c83096 => absurd c83096 (by omega)) (fun c83096 => ?_)
                            refine ev_iload rfl ?_
                            refine ev_ineg (r := ((-100) * v82893 + (-10) * v82934 + (-v83015) + 5328)) (by unfold w32; omega) ?_
                            refine ev_goto f269_116 ?_
                            refine ev_in (d := 1) (a := 0) (b := 0) (cd' := c267_0) (m := 6) (L0 := [(2, 42), (0, 1), (0, 0), (0, ((-100) * v82893 + (-10) * v82934 + (-v83015) + 5328)), (9, 0), (9, 0)]) (jcall_v (A := [(0, ((-100) * v82893 + (-10) * v82934 + (-v83015) + 5328)), (0, 0), (0, 1)]) (S' := []) (r := 42) rfl (g.lt ad42) (g.tg ad42) (Nat.le_of_ble_eq_true rfl)) (by decide) ml267 pp267 (Nat.le_of_ble_eq_true rfl) rfl (by decide) (by decide) ?_
                            refine ev_iload_n rfl ?_
                            refine ev_ifne f267_6 (fun c83097 => ?_) (fun c83097 => absurd c83097 (by omega))
                            refine ev_aload_n rfl ?_
                            refine ev_dup (by decide) ?_
                            refine g_getv (r := 42) (v := w1) g ad42 (by decide) ft12_21 (ew1) ?_
                            refine ev_iconst ?_
                            refine ev_iadd (r := (w1 + 1)) (by unfold w32; omega) ?_
                            refine g_putf (r := 42) g ad42 (by decide) ft12_21 (by decide) (fun e => absurd e nz12_21) rf42_21 (by decide) (by omega) (by omega) (fun h83098 e83098 g83098 => ?_)
                            have k83098 := k0.wr e83098 rfl
                            refine ev_aload_n rfl ?_
                            refine g_getv (r := 42) (v := (w1 + 1)) g83098 ad42 (by decide) ft12_21 ((jw_eq e83098)) ?_
                            refine ev_bipush ?_
                            refine ev_icmple f267_27 (fun c83099 => ?_) (fun c83099 => absurd c83099 (by omega))
                            refine ev_bipush ?_
                            refine ev_aload_n rfl ?_
                            refine g_getv (r := 42) (v := w0) g83098 ad42 (by decide) ft12_9 (((jw_ne e83098 (Or.inr (by decide))).trans ew0)) ?_
                            refine ev_imul (r := (100 * w0)) (by unfold w32; omega) ?_
                            refine ev_aload_n rfl ?_
                            refine g_getv (r := 42) (v := (w1 + 1)) g83098 ad42 (by decide) ft12_21 ((jw_eq e83098)) ?_
                            refine ev_iadd (r := (100 * w0 + w1 + 1)) (by unfold w32; omega) ?_
                            refine ev_iconst ?_
                            refine ev_isub (r := (100 * w0 + w1)) (by unfold w32; omega) ?_
                            refine ev_istore (L' := [(2, 42), (0, 1), (0, 0), (0, ((-100) * v82893 + (-10) * v82934 + (-v83015) + 5328)), (0, (100 * w0 + w1)), (9, 0)]) (Nat.le_of_ble_eq_true rfl) rfl ?_
                            refine ev_aload_n rfl ?_
                            refine g_getp (r := 42) (c := 49) g83098 ad42 (by decide) (by decide) rf42_11 ft12_11 ?_
                            refine ev_iload rfl ?_
                            refine ev_iload_n rfl ?_
                            refine ev_i2b (r := 0) (by unfold w8; omega) ?_
                            refine ev_bastG (r := 49) (j := ((100 * w0 + w1)).toNat) (w := 0) (g83098.lt ad49) (g83098.tg ad49) (by omega) (by rw [g83098.ln ad49]; omega) (by unfold w8; omega) (fun h83100 e83100 => ?_)
                            have g83100 := g83098.s49 e83100 (by rw [(((jw_ne e83098 (Or.inr (by decide))).trans ew0))]; omega) (by omega) (by omega)
                            have k83100 := k83098.wr e83100 rfl
                            refine ev_aload_n rfl ?_
                            refine g_getp (r := 42) (c := 50) g83100 ad42 (by decide) (by decide) rf42_12 ft12_12 ?_
                            refine ev_iload rfl ?_
                            refine ev_iload_n rfl ?_
                            refine ev_iastG (r := 50) (j := ((100 * w0 + w1)).toNat) (g83100.lt ad50) (g83100.tg ad50) (by omega) (by rw [g83100.ln ad50]; omega) (fun h83101 e83101 => ?_)
                            have g83101 := g83100.s50 e83101 (Or.inl (by rw [(((jw_ne e83100 (Or.inl (by decide))).trans ((jw_ne e83098 (Or.inr (by decide))).trans ew0)))]; omega)) (by omega) (by omega)
                            have k83101 := k83100.wr e83101 rfl
                            refine ev_aload_n rfl ?_
                            refine g_getp (r := 42) (c := 53) g83101 ad42 (by decide) (by decide) rf42_15 ft12_15 ?_
                            refine ev_iload rfl ?_
                            refine ev_iconst ?_
                            refine ev_bastG (r := 53) (j := ((100 * w0 + w1)).toNat) (w := 0) (g83101.lt ad53) (g83101.tg ad53) (by omega) (by rw [g83101.ln ad53]; omega) (by unfold w8; omega) (fun h83102 e83102 => ?_)
                            have g83102 := g83101.s53 e83102 (Or.inl (by rw [(((jw_ne e83101 (Or.inl (by decide))).trans ((jw_ne e83100 (Or.inl (by decide))).trans ((jw_ne e83098 (Or.inr (by decide))).trans ew0))))]; omega)) (by omega) (by omega)
                            have k83102 := k83101.wr e83102 rfl
                            refine ev_iconst ?_
                            refine ev_istore (L' := [(2, 42), (0, 1), (0, 0), (0, ((-100) * v82893 + (-10) * v82934 + (-v83015) + 5328)), (0, (100 * w0 + w1)), (0, 0)]) (Nat.le_of_ble_eq_true rfl) rfl ?_
                            refine ev_iload rfl ?_
                            refine ev_iconst ?_
                            refine ev_icmpge f267_109 (fun c83103 => absurd c83103 (by omega)) (fun c83103 => ?_)
                            refine ev_aload_n rfl ?_
                            refine g_getp (r := 42) (c := 51) g83102 ad42 (by decide) (by decide) rf42_13 ft12_13 ?_
                            refine ev_iconst ?_
                            refine ev_iload rfl ?_
                            refine ev_imul (r := (400 * w0 + 4 * w1)) (by unfold w32; omega) ?_
                            refine ev_iload rfl ?_
                            refine ev_iadd (r := (400 * w0 + 4 * w1)) (by unfold w32; omega) ?_
                            refine ev_iconst ?_
                            refine ev_bastG (r := 51) (j := ((400 * w0 + 4 * w1)).toNat) (w := (-1)) (g83102.lt ad51) (g83102.tg ad51) (by omega) (by rw [g83102.ln ad51]; omega) (by unfold w8; omega) (fun h83104 e83104 => ?_)
                            have g83104 := g83102.s51 e83104 (by rw [(((jw_ne e83102 (Or.inl (by decide))).trans ((jw_ne e83101 (Or.inl (by decide))).trans ((jw_ne e83100 (Or.inl (by decide))).trans ((jw_ne e83098 (Or.inr (by decide))).trans ew0)))))]; omega) (by omega) (by omega)
                            have k83104 := k83102.wr e83104 rfl
                            refine ev_aload_n rfl ?_
                            refine g_getp (r := 42) (c := 52) g83104 ad42 (by decide) (by decide) rf42_14 ft12_14 ?_
                            refine ev_iconst ?_
                            refine ev_iload rfl ?_
                            refine ev_imul (r := (400 * w0 + 4 * w1)) (by unfold w32; omega) ?_
                            refine ev_iload rfl ?_
                            refine ev_iadd (r := (400 * w0 + 4 * w1)) (by unfold w32; omega) ?_
                            refine ev_iconst ?_
                            refine g_iast g83104 ad52 rt52 (fun _ => rfl) (by omega) (by omega) (by omega) (by omega) (fun h83105 e83105 g83105 => ?_)
                            have k83105 := k83104.wr e83105 rfl
                            refine ev_iinc (w := 1) (L' := [(2, 42), (0, 1), (0, 0), (0, ((-100) * v82893 + (-10) * v82934 + (-v83015) + 5328)), (0, (100 * w0 + w1)), (0, 1)]) rfl (by decide) rfl ?_
                            refine ev_goto f267_71 ?_
                            refine ev_iload rfl ?_
                            refine ev_iconst ?_
                            refine ev_icmpge f267_109 (fun c83106 => absurd c83106 (by omega)) (fun c83106 => ?_)
                            refine ev_aload_n rfl ?_
                            refine g_getp (r := 42) (c := 51) g83105 ad42 (by decide) (by decide) rf42_13 ft12_13 ?_
                            refine ev_iconst ?_
                            refine ev_iload rfl ?_
                            refine ev_imul (r := (400 * w0 + 4 * w1)) (by unfold w32; omega) ?_
                            refine ev_iload rfl ?_
                            refine ev_iadd (r := (400 * w0 + 4 * w1 + 1)) (by unfold w32; omega) ?_
                            refine ev_iconst ?_
                            refine ev_bastG (r := 51) (j := ((400 * w0 + 4 * w1 + 1)).toNat) (w := (-1)) (g83105.lt ad51) (g83105.tg ad51) (by omega) (by rw [g83105.ln ad51]; omega) (by unfold w8; omega) (fun h83107 e83107 => ?_)
                            have g83107 := g83105.s51 e83107 (by rw [(((jw_ne e83105 (Or.inl (by decide))).trans ((jw_ne e83104 (Or.inl (by decide))).trans ((jw_ne e83102 (Or.inl (by decide))).trans ((jw_ne e83101 (Or.inl (by decide))).trans ((jw_ne e83100 (Or.inl (by decide))).trans ((jw_ne e83098 (Or.inr (by decide))).trans ew0)))))))]; omega) (by omega) (by omega)
                            have k83107 := k83105.wr e83107 rfl
                            refine ev_aload_n rfl ?_
                            refine g_getp (r := 42) (c := 52) g83107 ad42 (by decide) (by decide) rf42_14 ft12_14 ?_
                            refine ev_iconst ?_
                            refine ev_iload rfl ?_
                            refine ev_imul (r := (400 * w0 + 4 * w1)) (by unfold w32; omega) ?_
                            refine ev_iload rfl ?_
                            refine ev_iadd (r := (400 * w0 + 4 * w1 + 1)) (by unfold w32; omega) ?_
                            refine ev_iconst ?_
                            refine g_iast g83107 ad52 rt52 (fun _ => rfl) (by omega) (by omega) (by omega) (by omega) (fun h83108 e83108 g83108 => ?_)
                            have k83108 := k83107.wr e83108 rfl
                            refine ev_iinc (w := 2) (L' := [(2, 42), (0, 1), (0, 0), (0, ((-100) * v82893 + (-10) * v82934 + (-v83015) + 5328)), (0, (100 * w0 + w1)), (0, 2)]) rfl (by decide) rfl ?_
                            refine ev_goto f267_71 ?_
                            refine ev_iload rfl ?_
                            refine ev_iconst ?_
                            refine ev_icmpge f267_109 (fun c83109 => absurd c83109 (by omega)) (fun c83109 => ?_)
                            refine ev_aload_n rfl ?_
                            refine g_getp (r := 42) (c := 51) g83108 ad42 (by decide) (by decide) rf42_13 ft12_13 ?_
                            refine ev_iconst ?_
                            refine ev_iload rfl ?_
                            refine ev_imul (r := (400 * w0 + 4 * w1)) (by unfold w32; omega) ?_
                            refine ev_iload rfl ?_
                            refine ev_iadd (r := (400 * w0 + 4 * w1 + 2)) (by unfold w32; omega) ?_
                            refine ev_iconst ?_
                            refine ev_bastG (r := 51) (j := ((400 * w0 + 4 * w1 + 2)).toNat) (w := (-1)) (g83108.lt ad51) (g83108.tg ad51) (by omega) (by rw [g83108.ln ad51]; omega) (by unfold w8; omega) (fun h83110 e83110 => ?_)
                            have g83110 := g83108.s51 e83110 (by rw [(((jw_ne e83108 (Or.inl (by decide))).trans ((jw_ne e83107 (Or.inl (by decide))).trans ((jw_ne e83105 (Or.inl (by decide))).trans ((jw_ne e83104 (Or.inl (by decide))).trans ((jw_ne e83102 (Or.inl (by decide))).trans ((jw_ne e83101 (Or.inl (by decide))).trans ((jw_ne e83100 (Or.inl (by decide))).trans ((jw_ne e83098 (Or.inr (by decide))).trans ew0)))))))))]; omega) (by omega) (by omega)
                            have k83110 := k83108.wr e83110 rfl
                            refine ev_aload_n rfl ?_
                            refine g_getp (r := 42) (c := 52) g83110 ad42 (by decide) (by decide) rf42_14 ft12_14 ?_
                            refine ev_iconst ?_
                            refine ev_iload rfl ?_
                            refine ev_imul (r := (400 * w0 + 4 * w1)) (by unfold w32; omega) ?_
                            refine ev_iload rfl ?_
                            refine ev_iadd (r := (400 * w0 + 4 * w1 + 2)) (by unfold w32; omega) ?_
                            refine ev_iconst ?_
                            refine g_iast g83110 ad52 rt52 (fun _ => rfl) (by omega) (by omega) (by omega) (by omega) (fun h83111 e83111 g83111 => ?_)
                            have k83111 := k83110.wr e83111 rfl
                            refine ev_iinc (w := 3) (L' := [(2, 42), (0, 1), (0, 0), (0, ((-100) * v82893 + (-10) * v82934 + (-v83015) + 5328)), (0, (100 * w0 + w1)), (0, 3)]) rfl (by decide) rfl ?_
                            refine ev_goto f267_71 ?_
                            refine ev_iload rfl ?_
                            refine ev_iconst ?_
                            refine ev_icmpge f267_109 (fun c83112 => absurd c83112 (by omega)) (fun c83112 => ?_)
                            refine ev_aload_n rfl ?_
                            refine g_getp (r := 42) (c := 51) g83111 ad42 (by decide) (by decide) rf42_13 ft12_13 ?_
                            refine ev_iconst ?_
                            refine ev_iload rfl ?_
                            refine ev_imul (r := (400 * w0 + 4 * w1)) (by unfold w32; omega) ?_
                            refine ev_iload rfl ?_
                            refine ev_iadd (r := (400 * w0 + 4 * w1 + 3)) (by unfold w32; omega) ?_
                            refine ev_iconst ?_
                            refine ev_bastG (r := 51) (j := ((400 * w0 + 4 * w1 + 3)).toNat) (w := (-1)) (g83111.lt ad51) (g83111.tg ad51) (by omega) (by rw [g83111.ln ad51]; omega) (by unfold w8; omega) (fun h83113 e83113 => ?_)
                            have g83113 := g83111.s51 e83113 (by rw [(((jw_ne e83111 (Or.inl (by decide))).trans ((jw_ne e83110 (Or.inl (by decide))).trans ((jw_ne e83108 (Or.inl (by decide))).trans ((jw_ne e83107 (Or.inl (by decide))).trans ((jw_ne e83105 (Or.inl (by decide))).trans ((jw_ne e83104 (Or.inl (by decide))).trans ((jw_ne e83102 (Or.inl (by decide))).trans ((jw_ne e83101 (Or.inl (by decide))).trans ((jw_ne e83100 (Or.inl (by decide))).trans ((jw_ne e83098 (Or.inr (by decide))).trans ew0)))))))))))]; omega) (by omega) (by omega)
                            have k83113 := k83111.wr e83113 rfl
                            refine ev_aload_n rfl ?_
                            refine g_getp (r := 42) (c := 52) g83113 ad42 (by decide) (by decide) rf42_14 ft12_14 ?_
                            refine ev_iconst ?_
                            refine ev_iload rfl ?_
                            refine ev_imul (r := (400 * w0 + 4 * w1)) (by unfold w32; omega) ?_
                            refine ev_iload rfl ?_
                            refine ev_iadd (r := (400 * w0 + 4 * w1 + 3)) (by unfold w32; omega) ?_
                            refine ev_iconst ?_
                            refine g_iast g83113 ad52 rt52 (fun _ => rfl) (by omega) (by omega) (by omega) (by omega) (fun h83114 e83114 g83114 => ?_)
                            have k83114 := k83113.wr e83114 rfl
                            refine ev_iinc (w := 4) (L' := [(2, 42), (0, 1), (0, 0), (0, ((-100) * v82893 + (-10) * v82934 + (-v83015) + 5328)), (0, (100 * w0 + w1)), (0, 4)]) rfl (by decide) rfl ?_
                            refine ev_goto f267_71 ?_
                            refine ev_iload rfl ?_
                            refine ev_iconst ?_
                            refine ev_icmpge f267_109 (fun c83115 => ?_) (fun c83115 => absurd c83115 (by omega))
                            refine ev_iload rfl ?_
                            refine ev_ret rfl (by decide) (by decide) ?_
                            show jEv _ _ _ _ _ _ _ (_, [(2, 42), (0, a1), (0, 1), (0, (a1 + 4)), (0, 1), (0, (100 * v82893 + 10 * v82934 + v83015 - 5328)), (0, 3)], [(0, (100 * w0 + w1))], _, _, _)
                            refine ev_pop (by decide) ?_
                            refine ev_iload_n rfl ?_
                            exact ev_ret rfl (by decide) (by decide) ⟨⟨_, rfl, by omega, by omega, g83114, k83114⟩, fun r hr h0 => by cases hr; exact (Ad.step (r' := (a1 + 4)) (Ad.step (r' := (a1 + 3)) (Ad.step (r' := (a1 + 2)) (Ad.step (r' := (a1 + 1)) (Ad.rf _ _ _) (by omega) k83114 (fun _ => rfl) (((jw_ne e83114 (Or.inl (by decide))).trans ((jw_ne e83113 (Or.inl (by decide))).trans ((jw_ne e83111 (Or.inl (by decide))).trans ((jw_ne e83110 (Or.inl (by decide))).trans ((jw_ne e83108 (Or.inl (by decide))).trans ((jw_ne e83107 (Or.inl (by decide))).trans ((jw_ne e83105 (Or.inl (by decide))).trans ((jw_ne e83104 (Or.inl (by decide))).trans ((jw_ne e83102 (Or.inl (by decide))).trans ((jw_ne e83101 (Or.inl (by decide))).trans ((jw_ne e83100 (Or.inl (by decide))).trans ((jw_ne e83098 (Or.inl (by decide))).trans ev82638))))))))))))) (by omega) (by omega) (by omega)) (by omega) k83114 (fun _ => rfl) (((jw_ne e83114 (Or.inl (by decide))).trans ((jw_ne e83113 (Or.inl (by decide))).trans ((jw_ne e83111 (Or.inl (by decide))).trans ((jw_ne e83110 (Or.inl (by decide))).trans ((jw_ne e83108 (Or.inl (by decide))).trans ((jw_ne e83107 (Or.inl (by decide))).trans ((jw_ne e83105 (Or.inl (by decide))).trans ((jw_ne e83104 (Or.inl (by decide))).trans ((jw_ne e83102 (Or.inl (by decide))).trans ((jw_ne e83101 (Or.inl (by decide))).trans ((jw_ne e83100 (Or.inl (by decide))).trans ((jw_ne e83098 (Or.inl (by decide))).trans ev82893))))))))))))) (by omega) (by omega) (by omega)) (by omega) k83114 (fun _ => rfl) (((jw_ne e83114 (Or.inl (by decide))).trans ((jw_ne e83113 (Or.inl (by decide))).trans ((jw_ne e83111 (Or.inl (by decide))).trans ((jw_ne e83110 (Or.inl (by decide))).trans ((jw_ne e83108 (Or.inl (by decide))).trans ((jw_ne e83107 (Or.inl (by decide))).trans ((jw_ne e83105 (Or.inl (by decide))).trans ((jw_ne e83104 (Or.inl (by decide))).trans ((jw_ne e83102 (Or.inl (by decide))).trans ((jw_ne e83101 (Or.inl (by decide))).trans ((jw_ne e83100 (Or.inl (by decide))).trans ((jw_ne e83098 (Or.inl (by decide))).trans ev82934))))))))))))) (by omega) (by omega) (by omega)) (by omega) k83114 (fun _ => rfl) (((jw_ne e83114 (Or.inl (by decide))).trans ((jw_ne e83113 (Or.inl (by decide))).trans ((jw_ne e83111 (Or.inl (by decide))).trans ((jw_ne e83110 (Or.inl (by decide))).trans ((jw_ne e83108 (Or.inl (by decide))).trans ((jw_ne e83107 (Or.inl (by decide))).trans ((jw_ne e83105 (Or.inl (by decide))).trans ((jw_ne e83104 (Or.inl (by decide))).trans ((jw_ne e83102 (Or.inl (by decide))).trans ((jw_ne e83101 (Or.inl (by decide))).trans ((jw_ne e83100 (Or.inl (by decide))).trans ((jw_ne e83098 (Or.inl (by decide))).trans ev83015))))))))))))) (by omega) (by omega) (by omega)), fun r hr => by cases hr; exact ⟨_, (((jw_ne e83114 (Or.inl (by decide))).trans ((jw_ne e83113 (Or.inl (by decide))).trans ((jw_ne e83111 (Or.inl (by decide))).trans ((jw_ne e83110 (Or.inl (by decide))).trans ((jw_ne e83108 (Or.inl (by decide))).trans ((jw_ne e83107 (Or.inl (by decide))).trans ((jw_ne e83105 (Or.inl (by decide))).trans ((jw_ne e83104 (Or.inl (by decide))).trans ((jw_ne e83102 (Or.inl (by decide))).trans ((jw_ne e83101 (Or.inl (by decide))).trans ((jw_ne e83100 (Or.inl (by decide))).trans (jw_eq e83098))))))))))))), by omega, by omega, (Fr.kp (Fr.w (i := (400 * w0 + 4 * w1 + 3)) (Fr.kp (Fr.w (i := (400 * w0 + 4 * w1 + 2)) (Fr.kp (Fr.w (i := (400 * w0 + 4 * w1 + 1)) (Fr.kp (Fr.w (i := (400 * w0 + 4 * w1)) (Fr.w (i := (100 * w0 + w1)) (Fr.w (i := (100 * w0 + w1)) (Fr.w (i := (100 * w0 + w1)) (Fr.kp (Fr.rf _ _) ((Kp.rf [(42, 0)] _).wr e83098 rfl) (fun _ => rfl) (fun _ => rfl) (fun _ => rfl) (fun _ => rfl)) e83100 (by omega) (by omega)) e83101 (by omega) (by omega)) e83102 (by omega) (by omega)) e83104 (by omega) (by omega)) ((Kp.rf [(52, 0)] _).wr e83105 rfl) (fun _ => rfl) (fun _ => rfl) (fun _ => rfl) (fun _ => rfl)) e83107 (by omega) (by omega)) ((Kp.rf [(52, 0)] _).wr e83108 rfl) (fun _ => rfl) (fun _ => rfl) (fun _ => rfl) (fun _ => rfl)) e83110 (by omega) (by omega)) ((Kp.rf [(52, 0)] _).wr e83111 rfl) (fun _ => rfl) (fun _ => rfl) (fun _ => rfl) (fun _ => rfl)) e83113 (by omega) (by omega)) ((Kp.rf [(52, 0)] _).wr e83114 rfl) (fun _ => rfl) (fun _ => rfl) (fun _ => rfl) (fun _ => rfl)), fun h0 => by omega, fun h0 hm => Tr.end (i := (100 * w0 + w1)) (by omega) (by omega) (by omega) (((jw_ne e83114 (Or.inl (by decide))).trans ((jw_ne e83113 (Or.inl (by decide))).trans ((jw_ne e83111 (Or.inl (by decide))).trans ((jw_ne e83110 (Or.inl (by decide))).trans ((jw_ne e83108 (Or.inl (by decide))).trans ((jw_ne e83107 (Or.inl (by decide))).trans ((jw_ne e83105 (Or.inl (by decide))).trans ((jw_ne e83104 (Or.inl (by decide))).trans ((jw_ne e83102 (Or.inl (by decide))).trans ((jw_ne e83101 (Or.inl (by decide))).trans (jw_eq e83100)))))))))))) (by omega) (by omega)⟩, fun r hr => by cases hr; exact okM (show (if bR h a1 = 45 then enR (bR h) (a1 + 1) else enR (bR h) a1) = ((a1 + 4), 0, 0, 1) by rw [if_pos ((bR_at (p := a1) k83114 (fun _ => rfl) ew2 (((jw_ne e83114 (Or.inl (by decide))).trans ((jw_ne e83113 (Or.inl (by decide))).trans ((jw_ne e83111 (Or.inl (by decide))).trans ((jw_ne e83110 (Or.inl (by decide))).trans ((jw_ne e83108 (Or.inl (by decide))).trans ((jw_ne e83107 (Or.inl (by decide))).trans ((jw_ne e83105 (Or.inl (by decide))).trans ((jw_ne e83104 (Or.inl (by decide))).trans ((jw_ne e83102 (Or.inl (by decide))).trans ((jw_ne e83101 (Or.inl (by decide))).trans ((jw_ne e83100 (Or.inl (by decide))).trans ((jw_ne e83098 (Or.inl (by decide))).trans ev82638))))))))))))) (by omega) (by omega)).trans (by omega))]; unfold enR; rw [show nm3 (bR h) (a1 + 1) = (a1 + 4) by unfold nm3; rw [show (a1 + 1 + 1 : Int) = a1 + 2 by omega, show (a1 + 1 + 2 : Int) = a1 + 3 by omega, (bR_at (p := (a1 + 1)) k83114 (fun _ => rfl) ew2 (((jw_ne e83114 (Or.inl (by decide))).trans ((jw_ne e83113 (Or.inl (by decide))).trans ((jw_ne e83111 (Or.inl (by decide))).trans ((jw_ne e83110 (Or.inl (by decide))).trans ((jw_ne e83108 (Or.inl (by decide))).trans ((jw_ne e83107 (Or.inl (by decide))).trans ((jw_ne e83105 (Or.inl (by decide))).trans ((jw_ne e83104 (Or.inl (by decide))).trans ((jw_ne e83102 (Or.inl (by decide))).trans ((jw_ne e83101 (Or.inl (by decide))).trans ((jw_ne e83100 (Or.inl (by decide))).trans ((jw_ne e83098 (Or.inl (by decide))).trans ev82893))))))))))))) (by omega) (by omega)), (bR_at (p := (a1 + 2)) k83114 (fun _ => rfl) ew2 (((jw_ne e83114 (Or.inl (by decide))).trans ((jw_ne e83113 (Or.inl (by decide))).trans ((jw_ne e83111 (Or.inl (by decide))).trans ((jw_ne e83110 (Or.inl (by decide))).trans ((jw_ne e83108 (Or.inl (by decide))).trans ((jw_ne e83107 (Or.inl (by decide))).trans ((jw_ne e83105 (Or.inl (by decide))).trans ((jw_ne e83104 (Or.inl (by decide))).trans ((jw_ne e83102 (Or.inl (by decide))).trans ((jw_ne e83101 (Or.inl (by decide))).trans ((jw_ne e83100 (Or.inl (by decide))).trans ((jw_ne e83098 (Or.inl (by decide))).trans ev82934))))))))))))) (by omega) (by omega)), (bR_at (p := (a1 + 3)) k83114 (fun _ => rfl) ew2 (((jw_ne e83114 (Or.inl (by decide))).trans ((jw_ne e83113 (Or.inl (by decide))).trans ((jw_ne e83111 (Or.inl (by decide))).trans ((jw_ne e83110 (Or.inl (by decide))).trans ((jw_ne e83108 (Or.inl (by decide))).trans ((jw_ne e83107 (Or.inl (by decide))).trans ((jw_ne e83105 (Or.inl (by decide))).trans ((jw_ne e83104 (Or.inl (by decide))).trans ((jw_ne e83102 (Or.inl (by decide))).trans ((jw_ne e83101 (Or.inl (by decide))).trans ((jw_ne e83100 (Or.inl (by decide))).trans ((jw_ne e83098 (Or.inl (by decide))).trans ev83015))))))))))))) (by omega) (by omega))]; (repeat' split) <;> omega, if_neg (by omega)]) (by omega) (by omega) (((jw_ne e83114 (Or.inl (by decide))).trans ((jw_ne e83113 (Or.inl (by decide))).trans ((jw_ne e83111 (Or.inl (by decide))).trans ((jw_ne e83110 (Or.inl (by decide))).trans ((jw_ne e83108 (Or.inl (by decide))).trans ((jw_ne e83107 (Or.inl (by decide))).trans ((jw_ne e83105 (Or.inl (by decide))).trans ((jw_ne e83104 (Or.inl (by decide))).trans ((jw_ne e83102 (Or.inl (by decide))).trans ((jw_ne e83101 (Or.inl (by decide))).trans ((jw_ne e83100 (Or.inl (by decide))).trans (jw_eq e83098))))))))))))) (by omega)⟩
                          · refine ev_iload_n rfl ?_
                            refine ev_iload_n rfl ?_
                            refine ev_icmpgt f242_14 (fun c83116 => ?_) (fun c83116 => ?_)
                            · refine ev_iconst ?_
                              refine ev_ret rfl (by decide) (by decide) ?_
                              show jEv _ _ _ _ _ _ _ (_, [(2, 42), (0, (a1 + 4))], [(0, 0)], _, _, _)
                              refine ev_ret rfl (by decide) (by decide) ?_
                              show jEv _ _ _ _ _ _ _ (_, [(2, 42), (0, a1), (0, 1), (0, (a1 + 4)), (0, 1), (0, (100 * v82893 + 10 * v82934 + v83015 - 5328)), (0, 3)], [(0, 0)], _, _, _)
                              refine ev_ifeq f269_100 (fun c83117 => ?_) (fun c83117 => absurd c83117 (by omega))
                              refine ev_aload_n rfl ?_
                              refine ev_iload_n rfl ?_
                              refine ev_iconst ?_
                              refine ev_iload rfl ?_
                              refine ev_ifeq f269_114 (fun c83118 => absurd c83118 (by omega)) (fun c83118 => ?_)
                              refine ev_iload rfl ?_
                              refine ev_ineg (r := ((-100) * v82893 + (-10) * v82934 + (-v83015) + 5328)) (by unfold w32; omega) ?_
                              refine ev_goto f269_116 ?_
                              refine ev_in (d := 1) (a := 0) (b := 0) (cd' := c267_0) (m := 6) (L0 := [(2, 42), (0, 1), (0, 0), (0, ((-100) * v82893 + (-10) * v82934 + (-v83015) + 5328)), (9, 0), (9, 0)]) (jcall_v (A := [(0, ((-100) * v82893 + (-10) * v82934 + (-v83015) + 5328)), (0, 0), (0, 1)]) (S' := []) (r := 42) rfl (g.lt ad42) (g.tg ad42) (Nat.le_of_ble_eq_true rfl)) (by decide) ml267 pp267 (Nat.le_of_ble_eq_true rfl) rfl (by decide) (by decide) ?_
                              refine ev_iload_n rfl ?_
                              refine ev_ifne f267_6 (fun c83119 => ?_) (fun c83119 => absurd c83119 (by omega))
                              refine ev_aload_n rfl ?_
                              refine ev_dup (by decide) ?_
                              refine g_getv (r := 42) (v := w1) g ad42 (by decide) ft12_21 (ew1) ?_
                              refine ev_iconst ?_
                              refine ev_iadd (r := (w1 + 1)) (by unfold w32; omega) ?_
                              refine g_putf (r := 42) g ad42 (by decide) ft12_21 (by decide) (fun e => absurd e nz12_21) rf42_21 (by decide) (by omega) (by omega) (fun h83120 e83120 g83120 => ?_)
                              have k83120 := k0.wr e83120 rfl
                              refine ev_aload_n rfl ?_
                              refine g_getv (r := 42) (v := (w1 + 1)) g83120 ad42 (by decide) ft12_21 ((jw_eq e83120)) ?_
                              refine ev_bipush ?_
                              refine ev_icmple f267_27 (fun c83121 => ?_) (fun c83121 => absurd c83121 (by omega))
                              refine ev_bipush ?_
                              refine ev_aload_n rfl ?_
                              refine g_getv (r := 42) (v := w0) g83120 ad42 (by decide) ft12_9 (((jw_ne e83120 (Or.inr (by decide))).trans ew0)) ?_
                              refine ev_imul (r := (100 * w0)) (by unfold w32; omega) ?_
                              refine ev_aload_n rfl ?_
                              refine g_getv (r := 42) (v := (w1 + 1)) g83120 ad42 (by decide) ft12_21 ((jw_eq e83120)) ?_
                              refine ev_iadd (r := (100 * w0 + w1 + 1)) (by unfold w32; omega) ?_
                              refine ev_iconst ?_
                              refine ev_isub (r := (100 * w0 + w1)) (by unfold w32; omega) ?_
                              refine ev_istore (L' := [(2, 42), (0, 1), (0, 0), (0, ((-100) * v82893 + (-10) * v82934 + (-v83015) + 5328)), (0, (100 * w0 + w1)), (9, 0)]) (Nat.le_of_ble_eq_true rfl) rfl ?_
                              refine ev_aload_n rfl ?_
                              refine g_getp (r := 42) (c := 49) g83120 ad42 (by decide) (by decide) rf42_11 ft12_11 ?_
                              refine ev_iload rfl ?_
                              refine ev_iload_n rfl ?_
                              refine ev_i2b (r := 0) (by unfold w8; omega) ?_
                              refine ev_bastG (r := 49) (j := ((100 * w0 + w1)).toNat) (w := 0) (g83120.lt ad49) (g83120.tg ad49) (by omega) (by rw [g83120.ln ad49]; omega) (by unfold w8; omega) (fun h83122 e83122 => ?_)
                              have g83122 := g83120.s49 e83122 (by rw [(((jw_ne e83120 (Or.inr (by decide))).trans ew0))]; omega) (by omega) (by omega)
                              have k83122 := k83120.wr e83122 rfl
                              refine ev_aload_n rfl ?_
                              refine g_getp (r := 42) (c := 50) g83122 ad42 (by decide) (by decide) rf42_12 ft12_12 ?_
                              refine ev_iload rfl ?_
                              refine ev_iload_n rfl ?_
                              refine ev_iastG (r := 50) (j := ((100 * w0 + w1)).toNat) (g83122.lt ad50) (g83122.tg ad50) (by omega) (by rw [g83122.ln ad50]; omega) (fun h83123 e83123 => ?_)
                              have g83123 := g83122.s50 e83123 (Or.inl (by rw [(((jw_ne e83122 (Or.inl (by decide))).trans ((jw_ne e83120 (Or.inr (by decide))).trans ew0)))]; omega)) (by omega) (by omega)
                              have k83123 := k83122.wr e83123 rfl
                              refine ev_aload_n rfl ?_
                              refine g_getp (r := 42) (c := 53) g83123 ad42 (by decide) (by decide) rf42_15 ft12_15 ?_
                              refine ev_iload rfl ?_
                              refine ev_iconst ?_
                              refine ev_bastG (r := 53) (j := ((100 * w0 + w1)).toNat) (w := 0) (g83123.lt ad53) (g83123.tg ad53) (by omega) (by rw [g83123.ln ad53]; omega) (by unfold w8; omega) (fun h83124 e83124 => ?_)
                              have g83124 := g83123.s53 e83124 (Or.inl (by rw [(((jw_ne e83123 (Or.inl (by decide))).trans ((jw_ne e83122 (Or.inl (by decide))).trans ((jw_ne e83120 (Or.inr (by decide))).trans ew0))))]; omega)) (by omega) (by omega)
                              have k83124 := k83123.wr e83124 rfl
                              refine ev_iconst ?_
                              refine ev_istore (L' := [(2, 42), (0, 1), (0, 0), (0, ((-100) * v82893 + (-10) * v82934 + (-v83015) + 5328)), (0, (100 * w0 + w1)), (0, 0)]) (Nat.le_of_ble_eq_true rfl) rfl ?_
                              refine ev_iload rfl ?_
                              refine ev_iconst ?_
                              refine ev_icmpge f267_109 (fun c83125 => absurd c83125 (by omega)) (fun c83125 => ?_)
                              refine ev_aload_n rfl ?_
                              refine g_getp (r := 42) (c := 51) g83124 ad42 (by decide) (by decide) rf42_13 ft12_13 ?_
                              refine ev_iconst ?_
                              refine ev_iload rfl ?_
                              refine ev_imul (r := (400 * w0 + 4 * w1)) (by unfold w32; omega) ?_
                              refine ev_iload rfl ?_
                              refine ev_iadd (r := (400 * w0 + 4 * w1)) (by unfold w32; omega) ?_
                              refine ev_iconst ?_
                              refine ev_bastG (r := 51) (j := ((400 * w0 + 4 * w1)).toNat) (w := (-1)) (g83124.lt ad51) (g83124.tg ad51) (by omega) (by rw [g83124.ln ad51]; omega) (by unfold w8; omega) (fun h83126 e83126 => ?_)
                              have g83126 := g83124.s51 e83126 (by rw [(((jw_ne e83124 (Or.inl (by decide))).trans ((jw_ne e83123 (Or.inl (by decide))).trans ((jw_ne e83122 (Or.inl (by decide))).trans ((jw_ne e83120 (Or.inr (by decide))).trans ew0)))))]; omega) (by omega) (by omega)
                              have k83126 := k83124.wr e83126 rfl
                              refine ev_aload_n rfl ?_
                              refine g_getp (r := 42) (c := 52) g83126 ad42 (by decide) (by decide) rf42_14 ft12_14 ?_
                              refine ev_iconst ?_
                              refine ev_iload rfl ?_
                              refine ev_imul (r := (400 * w0 + 4 * w1)) (by unfold w32; omega) ?_
                              refine ev_iload rfl ?_
                              refine ev_iadd (r := (400 * w0 + 4 * w1)) (by unfold w32; omega) ?_
                              refine ev_iconst ?_
                              refine g_iast g83126 ad52 rt52 (fun _ => rfl) (by omega) (by omega) (by omega) (by omega) (fun h83127 e83127 g83127 => ?_)
                              have k83127 := k83126.wr e83127 rfl
                              refine ev_iinc (w := 1) (L' := [(2, 42), (0, 1), (0, 0), (0, ((-100) * v82893 + (-10) * v82934 + (-v83015) + 5328)), (0, (100 * w0 + w1)), (0, 1)]) rfl (by decide) rfl ?_
                              refine ev_goto f267_71 ?_
                              refine ev_iload rfl ?_
                              refine ev_iconst ?_
                              refine ev_icmpge f267_109 (fun c83128 => absurd c83128 (by omega)) (fun c83128 => ?_)
                              refine ev_aload_n rfl ?_
                              refine g_getp (r := 42) (c := 51) g83127 ad42 (by decide) (by decide) rf42_13 ft12_13 ?_
                              refine ev_iconst ?_
                              refine ev_iload rfl ?_
                              refine ev_imul (r := (400 * w0 + 4 * w1)) (by unfold w32; omega) ?_
                              refine ev_iload rfl ?_
                              refine ev_iadd (r := (400 * w0 + 4 * w1 + 1)) (by unfold w32; omega) ?_
                              refine ev_iconst ?_
                              refine ev_bastG (r := 51) (j := ((400 * w0 + 4 * w1 + 1)).toNat) (w := (-1)) (g83127.lt ad51) (g83127.tg ad51) (by omega) (by rw [g83127.ln ad51]; omega) (by unfold w8; omega) (fun h83129 e83129 => ?_)
                              have g83129 := g83127.s51 e83129 (by rw [(((jw_ne e83127 (Or.inl (by decide))).trans ((jw_ne e83126 (Or.inl (by decide))).trans ((jw_ne e83124 (Or.inl (by decide))).trans ((jw_ne e83123 (Or.inl (by decide))).trans ((jw_ne e83122 (Or.inl (by decide))).trans ((jw_ne e83120 (Or.inr (by decide))).trans ew0)))))))]; omega) (by omega) (by omega)
                              have k83129 := k83127.wr e83129 rfl
                              refine ev_aload_n rfl ?_
                              refine g_getp (r := 42) (c := 52) g83129 ad42 (by decide) (by decide) rf42_14 ft12_14 ?_
                              refine ev_iconst ?_
                              refine ev_iload rfl ?_
                              refine ev_imul (r := (400 * w0 + 4 * w1)) (by unfold w32; omega) ?_
                              refine ev_iload rfl ?_
                              refine ev_iadd (r := (400 * w0 + 4 * w1 + 1)) (by unfold w32; omega) ?_
                              refine ev_iconst ?_
                              refine g_iast g83129 ad52 rt52 (fun _ => rfl) (by omega) (by omega) (by omega) (by omega) (fun h83130 e83130 g83130 => ?_)
                              have k83130 := k83129.wr e83130 rfl
                              refine ev_iinc (w := 2) (L' := [(2, 42), (0, 1), (0, 0), (0, ((-100) * v82893 + (-10) * v82934 + (-v83015) + 5328)), (0, (100 * w0 + w1)), (0, 2)]) rfl (by decide) rfl ?_
                              refine ev_goto f267_71 ?_
                              refine ev_iload rfl ?_
                              refine ev_iconst ?_
                              refine ev_icmpge f267_109 (fun c83131 => absurd c83131 (by omega)) (fun c83131 => ?_)
                              refine ev_aload_n rfl ?_
                              refine g_getp (r := 42) (c := 51) g83130 ad42 (by decide) (by decide) rf42_13 ft12_13 ?_
                              refine ev_iconst ?_
                              refine ev_iload rfl ?_
                              refine ev_imul (r := (400 * w0 + 4 * w1)) (by unfold w32; omega) ?_
                              refine ev_iload rfl ?_
                              refine ev_iadd (r := (400 * w0 + 4 * w1 + 2)) (by unfold w32; omega) ?_
                              refine ev_iconst ?_
                              refine ev_bastG (r := 51) (j := ((400 * w0 + 4 * w1 + 2)).toNat) (w := (-1)) (g83130.lt ad51) (g83130.tg ad51) (by omega) (by rw [g83130.ln ad51]; omega) (by unfold w8; omega) (fun h83132 e83132 => ?_)
                              have g83132 := g83130.s51 e83132 (by rw [(((jw_ne e83130 (Or.inl (by decide))).trans ((jw_ne e83129 (Or.inl (by decide))).trans ((jw_ne e83127 (Or.inl (by decide))).trans ((jw_ne e83126 (Or.inl (by decide))).trans ((jw_ne e83124 (Or.inl (by decide))).trans ((jw_ne e83123 (Or.inl (by decide))).trans ((jw_ne e83122 (Or.inl (by decide))).trans ((jw_ne e83120 (Or.inr (by decide))).trans ew0)))))))))]; omega) (by omega) (by omega)
                              have k83132 := k83130.wr e83132 rfl
                              refine ev_aload_n rfl ?_
                              refine g_getp (r := 42) (c := 52) g83132 ad42 (by decide) (by decide) rf42_14 ft12_14 ?_
                              refine ev_iconst ?_
                              refine ev_iload rfl ?_
                              refine ev_imul (r := (400 * w0 + 4 * w1)) (by unfold w32; omega) ?_
                              refine ev_iload rfl ?_
                              refine ev_iadd (r := (400 * w0 + 4 * w1 + 2)) (by unfold w32; omega) ?_
                              refine ev_iconst ?_
                              refine g_iast g83132 ad52 rt52 (fun _ => rfl) (by omega) (by omega) (by omega) (by omega) (fun h83133 e83133 g83133 => ?_)
                              have k83133 := k83132.wr e83133 rfl
                              refine ev_iinc (w := 3) (L' := [(2, 42), (0, 1), (0, 0), (0, ((-100) * v82893 + (-10) * v82934 + (-v83015) + 5328)), (0, (100 * w0 + w1)), (0, 3)]) rfl (by decide) rfl ?_
                              refine ev_goto f267_71 ?_
                              refine ev_iload rfl ?_
                              refine ev_iconst ?_
                              refine ev_icmpge f267_109 (fun c83134 => absurd c83134 (by omega)) (fun c83134 => ?_)
                              refine ev_aload_n rfl ?_
                              refine g_getp (r := 42) (c := 51) g83133 ad42 (by decide) (by decide) rf42_13 ft12_13 ?_
                              refine ev_iconst ?_
                              refine ev_iload rfl ?_
                              refine ev_imul (r := (400 * w0 + 4 * w1)) (by unfold w32; omega) ?_
                              refine ev_iload rfl ?_
                              refine ev_iadd (r := (400 * w0 + 4 * w1 + 3)) (by unfold w32; omega) ?_
                              refine ev_iconst ?_
                              refine ev_bastG (r := 51) (j := ((400 * w0 + 4 * w1 + 3)).toNat) (w := (-1)) (g83133.lt ad51) (g83133.tg ad51) (by omega) (by rw [g83133.ln ad51]; omega) (by unfold w8; omega) (fun h83135 e83135 => ?_)
                              have g83135 := g83133.s51 e83135 (by rw [(((jw_ne e83133 (Or.inl (by decide))).trans ((jw_ne e83132 (Or.inl (by decide))).trans ((jw_ne e83130 (Or.inl (by decide))).trans ((jw_ne e83129 (Or.inl (by decide))).trans ((jw_ne e83127 (Or.inl (by decide))).trans ((jw_ne e83126 (Or.inl (by decide))).trans ((jw_ne e83124 (Or.inl (by decide))).trans ((jw_ne e83123 (Or.inl (by decide))).trans ((jw_ne e83122 (Or.inl (by decide))).trans ((jw_ne e83120 (Or.inr (by decide))).trans ew0)))))))))))]; omega) (by omega) (by omega)
                              have k83135 := k83133.wr e83135 rfl
                              refine ev_aload_n rfl ?_
                              refine g_getp (r := 42) (c := 52) g83135 ad42 (by decide) (by decide) rf42_14 ft12_14 ?_
                              refine ev_iconst ?_
                              refine ev_iload rfl ?_
                              refine ev_imul (r := (400 * w0 + 4 * w1)) (by unfold w32; omega) ?_
                              refine ev_iload rfl ?_
                              refine ev_iadd (r := (400 * w0 + 4 * w1 + 3)) (by unfold w32; omega) ?_
                              refine ev_iconst ?_
                              refine g_iast g83135 ad52 rt52 (fun _ => rfl) (by omega) (by omega) (by omega) (by omega) (fun h83136 e83136 g83136 => ?_)
                              have k83136 := k83135.wr e83136 rfl
                              refine ev_iinc (w := 4) (L' := [(2, 42), (0, 1), (0, 0), (0, ((-100) * v82893 + (-10) * v82934 + (-v83015) + 5328)), (0, (100 * w0 + w1)), (0, 4)]) rfl (by decide) rfl ?_
                              refine ev_goto f267_71 ?_
                              refine ev_iload rfl ?_
                              refine ev_iconst ?_
                              refine ev_icmpge f267_109 (fun c83137 => ?_) (fun c83137 => absurd c83137 (by omega))
                              refine ev_iload rfl ?_
                              refine ev_ret rfl (by decide) (by decide) ?_
                              show jEv _ _ _ _ _ _ _ (_, [(2, 42), (0, a1), (0, 1), (0, (a1 + 4)), (0, 1), (0, (100 * v82893 + 10 * v82934 + v83015 - 5328)), (0, 3)], [(0, (100 * w0 + w1))], _, _, _)
                              refine ev_pop (by decide) ?_
                              refine ev_iload_n rfl ?_
                              exact ev_ret rfl (by decide) (by decide) ⟨⟨_, rfl, by omega, by omega, g83136, k83136⟩, fun r hr h0 => by cases hr; exact (Ad.step (r' := (a1 + 4)) (Ad.step (r' := (a1 + 3)) (Ad.step (r' := (a1 + 2)) (Ad.step (r' := (a1 + 1)) (Ad.rf _ _ _) (by omega) k83136 (fun _ => rfl) (((jw_ne e83136 (Or.inl (by decide))).trans ((jw_ne e83135 (Or.inl (by decide))).trans ((jw_ne e83133 (Or.inl (by decide))).trans ((jw_ne e83132 (Or.inl (by decide))).trans ((jw_ne e83130 (Or.inl (by decide))).trans ((jw_ne e83129 (Or.inl (by decide))).trans ((jw_ne e83127 (Or.inl (by decide))).trans ((jw_ne e83126 (Or.inl (by decide))).trans ((jw_ne e83124 (Or.inl (by decide))).trans ((jw_ne e83123 (Or.inl (by decide))).trans ((jw_ne e83122 (Or.inl (by decide))).trans ((jw_ne e83120 (Or.inl (by decide))).trans ev82638))))))))))))) (by omega) (by omega) (by omega)) (by omega) k83136 (fun _ => rfl) (((jw_ne e83136 (Or.inl (by decide))).trans ((jw_ne e83135 (Or.inl (by decide))).trans ((jw_ne e83133 (Or.inl (by decide))).trans ((jw_ne e83132 (Or.inl (by decide))).trans ((jw_ne e83130 (Or.inl (by decide))).trans ((jw_ne e83129 (Or.inl (by decide))).trans ((jw_ne e83127 (Or.inl (by decide))).trans ((jw_ne e83126 (Or.inl (by decide))).trans ((jw_ne e83124 (Or.inl (by decide))).trans ((jw_ne e83123 (Or.inl (by decide))).trans ((jw_ne e83122 (Or.inl (by decide))).trans ((jw_ne e83120 (Or.inl (by decide))).trans ev82893))))))))))))) (by omega) (by omega) (by omega)) (by omega) k83136 (fun _ => rfl) (((jw_ne e83136 (Or.inl (by decide))).trans ((jw_ne e83135 (Or.inl (by decide))).trans ((jw_ne e83133 (Or.inl (by decide))).trans ((jw_ne e83132 (Or.inl (by decide))).trans ((jw_ne e83130 (Or.inl (by decide))).trans ((jw_ne e83129 (Or.inl (by decide))).trans ((jw_ne e83127 (Or.inl (by decide))).trans ((jw_ne e83126 (Or.inl (by decide))).trans ((jw_ne e83124 (Or.inl (by decide))).trans ((jw_ne e83123 (Or.inl (by decide))).trans ((jw_ne e83122 (Or.inl (by decide))).trans ((jw_ne e83120 (Or.inl (by decide))).trans ev82934))))))))))))) (by omega) (by omega) (by omega)) (by omega) k83136 (fun _ => rfl) (((jw_ne e83136 (Or.inl (by decide))).trans ((jw_ne e83135 (Or.inl (by decide))).trans ((jw_ne e83133 (Or.inl (by decide))).trans ((jw_ne e83132 (Or.inl (by decide))).trans ((jw_ne e83130 (Or.inl (by decide))).trans ((jw_ne e83129 (Or.inl (by decide))).trans ((jw_ne e83127 (Or.inl (by decide))).trans ((jw_ne e83126 (Or.inl (by decide))).trans ((jw_ne e83124 (Or.inl (by decide))).trans ((jw_ne e83123 (Or.inl (by decide))).trans ((jw_ne e83122 (Or.inl (by decide))).trans ((jw_ne e83120 (Or.inl (by decide))).trans ev83015))))))))))))) (by omega) (by omega) (by omega)), fun r hr => by cases hr; exact ⟨_, (((jw_ne e83136 (Or.inl (by decide))).trans ((jw_ne e83135 (Or.inl (by decide))).trans ((jw_ne e83133 (Or.inl (by decide))).trans ((jw_ne e83132 (Or.inl (by decide))).trans ((jw_ne e83130 (Or.inl (by decide))).trans ((jw_ne e83129 (Or.inl (by decide))).trans ((jw_ne e83127 (Or.inl (by decide))).trans ((jw_ne e83126 (Or.inl (by decide))).trans ((jw_ne e83124 (Or.inl (by decide))).trans ((jw_ne e83123 (Or.inl (by decide))).trans ((jw_ne e83122 (Or.inl (by decide))).trans (jw_eq e83120))))))))))))), by omega, by omega, (Fr.kp (Fr.w (i := (400 * w0 + 4 * w1 + 3)) (Fr.kp (Fr.w (i := (400 * w0 + 4 * w1 + 2)) (Fr.kp (Fr.w (i := (400 * w0 + 4 * w1 + 1)) (Fr.kp (Fr.w (i := (400 * w0 + 4 * w1)) (Fr.w (i := (100 * w0 + w1)) (Fr.w (i := (100 * w0 + w1)) (Fr.w (i := (100 * w0 + w1)) (Fr.kp (Fr.rf _ _) ((Kp.rf [(42, 0)] _).wr e83120 rfl) (fun _ => rfl) (fun _ => rfl) (fun _ => rfl) (fun _ => rfl)) e83122 (by omega) (by omega)) e83123 (by omega) (by omega)) e83124 (by omega) (by omega)) e83126 (by omega) (by omega)) ((Kp.rf [(52, 0)] _).wr e83127 rfl) (fun _ => rfl) (fun _ => rfl) (fun _ => rfl) (fun _ => rfl)) e83129 (by omega) (by omega)) ((Kp.rf [(52, 0)] _).wr e83130 rfl) (fun _ => rfl) (fun _ => rfl) (fun _ => rfl) (fun _ => rfl)) e83132 (by omega) (by omega)) ((Kp.rf [(52, 0)] _).wr e83133 rfl) (fun _ => rfl) (fun _ => rfl) (fun _ => rfl) (fun _ => rfl)) e83135 (by omega) (by omega)) ((Kp.rf [(52, 0)] _).wr e83136 rfl) (fun _ => rfl) (fun _ => rfl) (fun _ => rfl) (fun _ => rfl)), fun h0 => by omega, fun h0 hm => Tr.end (i := (100 * w0 + w1)) (by omega) (by omega) (by omega) (((jw_ne e83136 (Or.inl (by decide))).trans ((jw_ne e83135 (Or.inl (by decide))).trans ((jw_ne e83133 (Or.inl (by decide))).trans ((jw_ne e83132 (Or.inl (by decide))).trans ((jw_ne e83130 (Or.inl (by decide))).trans ((jw_ne e83129 (Or.inl (by decide))).trans ((jw_ne e83127 (Or.inl (by decide))).trans ((jw_ne e83126 (Or.inl (by decide))).trans ((jw_ne e83124 (Or.inl (by decide))).trans ((jw_ne e83123 (Or.inl (by decide))).trans (jw_eq e83122)))))))))))) (by omega) (by omega)⟩, fun r hr => by cases hr; exact okM (show (if bR h a1 = 45 then enR (bR h) (a1 + 1) else enR (bR h) a1) = ((a1 + 4), 0, 0, 1) by rw [if_pos ((bR_at (p := a1) k83136 (fun _ => rfl) ew2 (((jw_ne e83136 (Or.inl (by decide))).trans ((jw_ne e83135 (Or.inl (by decide))).trans ((jw_ne e83133 (Or.inl (by decide))).trans ((jw_ne e83132 (Or.inl (by decide))).trans ((jw_ne e83130 (Or.inl (by decide))).trans ((jw_ne e83129 (Or.inl (by decide))).trans ((jw_ne e83127 (Or.inl (by decide))).trans ((jw_ne e83126 (Or.inl (by decide))).trans ((jw_ne e83124 (Or.inl (by decide))).trans ((jw_ne e83123 (Or.inl (by decide))).trans ((jw_ne e83122 (Or.inl (by decide))).trans ((jw_ne e83120 (Or.inl (by decide))).trans ev82638))))))))))))) (by omega) (by omega)).trans (by omega))]; unfold enR; rw [show nm3 (bR h) (a1 + 1) = (a1 + 4) by unfold nm3; rw [show (a1 + 1 + 1 : Int) = a1 + 2 by omega, show (a1 + 1 + 2 : Int) = a1 + 3 by omega, (bR_at (p := (a1 + 1)) k83136 (fun _ => rfl) ew2 (((jw_ne e83136 (Or.inl (by decide))).trans ((jw_ne e83135 (Or.inl (by decide))).trans ((jw_ne e83133 (Or.inl (by decide))).trans ((jw_ne e83132 (Or.inl (by decide))).trans ((jw_ne e83130 (Or.inl (by decide))).trans ((jw_ne e83129 (Or.inl (by decide))).trans ((jw_ne e83127 (Or.inl (by decide))).trans ((jw_ne e83126 (Or.inl (by decide))).trans ((jw_ne e83124 (Or.inl (by decide))).trans ((jw_ne e83123 (Or.inl (by decide))).trans ((jw_ne e83122 (Or.inl (by decide))).trans ((jw_ne e83120 (Or.inl (by decide))).trans ev82893))))))))))))) (by omega) (by omega)), (bR_at (p := (a1 + 2)) k83136 (fun _ => rfl) ew2 (((jw_ne e83136 (Or.inl (by decide))).trans ((jw_ne e83135 (Or.inl (by decide))).trans ((jw_ne e83133 (Or.inl (by decide))).trans ((jw_ne e83132 (Or.inl (by decide))).trans ((jw_ne e83130 (Or.inl (by decide))).trans ((jw_ne e83129 (Or.inl (by decide))).trans ((jw_ne e83127 (Or.inl (by decide))).trans ((jw_ne e83126 (Or.inl (by decide))).trans ((jw_ne e83124 (Or.inl (by decide))).trans ((jw_ne e83123 (Or.inl (by decide))).trans ((jw_ne e83122 (Or.inl (by decide))).trans ((jw_ne e83120 (Or.inl (by decide))).trans ev82934))))))))))))) (by omega) (by omega)), (bR_at (p := (a1 + 3)) k83136 (fun _ => rfl) ew2 (((jw_ne e83136 (Or.inl (by decide))).trans ((jw_ne e83135 (Or.inl (by decide))).trans ((jw_ne e83133 (Or.inl (by decide))).trans ((jw_ne e83132 (Or.inl (by decide))).trans ((jw_ne e83130 (Or.inl (by decide))).trans ((jw_ne e83129 (Or.inl (by decide))).trans ((jw_ne e83127 (Or.inl (by decide))).trans ((jw_ne e83126 (Or.inl (by decide))).trans ((jw_ne e83124 (Or.inl (by decide))).trans ((jw_ne e83123 (Or.inl (by decide))).trans ((jw_ne e83122 (Or.inl (by decide))).trans ((jw_ne e83120 (Or.inl (by decide))).trans ev83015))))))))))))) (by omega) (by omega))]; (repeat' split) <;> omega, if_neg (by omega)]) (by omega) (by omega) (((jw_ne e83136 (Or.inl (by decide))).trans ((jw_ne e83135 (Or.inl (by decide))).trans ((jw_ne e83133 (Or.inl (by decide))).trans ((jw_ne e83132 (Or.inl (by decide))).trans ((jw_ne e83130 (Or.inl (by decide))).trans ((jw_ne e83129 (Or.inl (by decide))).trans ((jw_ne e83127 (Or.inl (by decide))).trans ((jw_ne e83126 (Or.inl (by decide))).trans ((jw_ne e83124 (Or.inl (by decide))).trans ((jw_ne e83123 (Or.inl (by decide))).trans ((jw_ne e83122 (Or.inl (by decide))).trans (jw_eq e83120))))))))))))) (by omega)⟩
                            · refine ev_iconst ?_
                              refine ev_goto f242_15 ?_
                              refine ev_ret rfl (by decide) (by decide) ?_
                              show jEv _ _ _ _ _ _ _ (_, [(2, 42), (0, (a1 + 4))], [(0, 1)], _, _, _)
                              refine ev_ret rfl (by decide) (by decide) ?_
                              show jEv _ _ _ _ _ _ _ (_, [(2, 42), (0, a1), (0, 1), (0, (a1 + 4)), (0, 1), (0, (100 * v82893 + 10 * v82934 + v83015 - 5328)), (0, 3)], [(0, 1)], _, _, _)
                              refine ev_ifeq f269_100 (fun c83138 => absurd c83138 (by omega)) (fun c83138 => ?_)
                              refine ev_aload_n rfl ?_
                              refine ev_iload_n rfl ?_
                              refine ev_in (d := 1) (a := 0) (b := 0) (cd' := c266_0) (m := 2) (L0 := [(2, 42), (0, (a1 + 4))]) (jcall_v (A := [(0, (a1 + 4))]) (S' := []) (r := 42) rfl (g.lt ad42) (g.tg ad42) (Nat.le_of_ble_eq_true rfl)) (by decide) ml266 pp266 (Nat.le_of_ble_eq_true rfl) rfl (by decide) (by decide) ?_
                              refine ev_aload_n rfl ?_
                              refine ev_iload_n rfl ?_
                              refine g_putf (r := 42) g ad42 (by decide) ft12_20 (by decide) (fun e => absurd e nz12_20) rf42_20 (by decide) (by omega) (by omega) (fun h83139 e83139 g83139 => ?_)
                              have k83139 := k0.wr e83139 rfl
                              refine ev_iconst ?_
                              refine ev_ret rfl (by decide) (by decide) ?_
                              show jEv _ _ _ _ _ _ _ (_, [(2, 42), (0, a1), (0, 1), (0, (a1 + 4)), (0, 1), (0, (100 * v82893 + 10 * v82934 + v83015 - 5328)), (0, 3)], [(0, (-1))], _, _, _)
                              exact ev_ret rfl (by decide) (by decide) ⟨⟨_, rfl, by omega, by omega, g83139, k83139⟩, fun r hr h0 => by cases hr; exfalso; omega, fun r hr => by cases hr; exact ⟨_, (((jw_ne e83139 (Or.inr (by decide))).trans ew1)), by omega, by omega, (Fr.kp (Fr.rf _ _) ((Kp.rf [(42, 0)] _).wr e83139 rfl) (fun _ => rfl) (fun _ => rfl) (fun _ => rfl) (fun _ => rfl)), fun h0 => by exfalso; omega, fun h0 => by exfalso; omega⟩, fun r hr => by cases hr; exact (Bd.M (show Bd (bR h) (if bR h a1 = 45 then enR (bR h) (a1 + 1) else enR (bR h) a1) (a1 + 4) from ⟨by omega, Or.inr (by rw [(show (if bR h a1 = 45 then enR (bR h) (a1 + 1) else enR (bR h) a1) = ((a1 + 4), 0, 0, 1) by rw [if_pos ((bR_at (p := a1) k83139 (fun _ => rfl) ew2 (((jw_ne e83139 (Or.inl (by decide))).trans ev82638)) (by omega) (by omega)).trans (by omega))]; unfold enR; rw [show nm3 (bR h) (a1 + 1) = (a1 + 4) by unfold nm3; rw [show (a1 + 1 + 1 : Int) = a1 + 2 by omega, show (a1 + 1 + 2 : Int) = a1 + 3 by omega, (bR_at (p := (a1 + 1)) k83139 (fun _ => rfl) ew2 (((jw_ne e83139 (Or.inl (by decide))).trans ev82893)) (by omega) (by omega)), (bR_at (p := (a1 + 2)) k83139 (fun _ => rfl) ew2 (((jw_ne e83139 (Or.inl (by decide))).trans ev82934)) (by omega) (by omega)), (bR_at (p := (a1 + 3)) k83139 (fun _ => rfl) ew2 (((jw_ne e83139 (Or.inl (by decide))).trans ev83015)) (by omega) (by omega))]; (repeat' split) <;> omega, if_neg (by omega)])]; exact ⟨rfl, by rw [(bR_at (p := (a1 + 4)) k83139 (fun _ => rfl) ew2 (((jw_ne e83139 (Or.inl (by decide))).trans ev83093)) (by omega) (by omega))]; omega⟩)⟩) ((jw_eq e83139)))⟩
