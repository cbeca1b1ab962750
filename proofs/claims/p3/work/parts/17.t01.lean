set_option maxHeartbeats 4000000 in
theorem s256z_3_l {G : GH} {h : JH} (ew0 : h.2.2 42 1 = 3) : ∀ N : Nat, (∀ (h1 : JH) (x1 y0 y1 y2 : Int) (j2 j3 : AV), Gd G h1 → Kp [(46, 0), (47, 0), (42, 6), (42, 9)] h h1 → 0 ≤ x1 → x1 ≤ 27 → h1.2.2 42 1 = y0 → 3 ≤ y0 → y0 ≤ 3 → h1.2.2 42 5 = y1 → 0 ≤ y1 → y1 ≤ 27 → h1.2.2 42 8 = y2 → 1 ≤ y2 → y2 ≤ 1000000000000 → ((-x1) + 27) < N → jEv (jOk 3) none (fun _ => 0) c256_0 0 0 (fun v h' => ∃ r F : Int, v = some (0, r) ∧ 0 ≤ r ∧ r ≤ 1 ∧ Gd G h' ∧ Kp [(46, 0), (47, 0), (42, 6), (42, 9)] h h' ∧ h'.2.2 42 8 = F ∧ ((-F) + 5 * r) ≤ 4 ∧ (F + (-1000000000001) * r) ≤ (-1)) (c256_57, [(2, 42), (0, x1), j2, j3], [], h1, 0, 0)) := by
  intro N
  induction N with
  | zero => exact fun h1 x1 y0 y1 y2 j2 j3 g1 k1 b0 b1 b2 b3 b4 b5 b6 b7 b8 b9 b10 hm => absurd hm (by omega)
  | succ N ih =>
    show _
    intro h1 x1 y0 y1 y2 j2 j3 g1 k1 b0 b1 ey0 ly0 uy0 ey1 ly1 uy1 ey2 ly2 uy2 hm
    refine ev_iload_n rfl ?_
    refine ev_aload_n rfl ?_
    refine g_getv (r := 42) (v := y1) g1 ad42 (by decide) ft12_5 (ey1) ?_
    refine ev_icmpge f256_127 (fun c64102 => ?_) (fun c64102 => ?_)
    · refine ev_iconst ?_
      exact ev_ret rfl (by decide) (by decide) ⟨_, _, rfl, by omega, by omega, g1, k1, (ey2), by omega, by omega⟩
    · refine ev_iload_n rfl ?_
      refine ev_istore_n (L' := [(2, 42), (0, x1), (0, x1), j3]) (Nat.le_of_ble_eq_true rfl) rfl ?_
      refine ev_iconst ?_
      refine ev_istore_n (L' := [(2, 42), (0, x1), (0, x1), (0, 0)]) (Nat.le_of_ble_eq_true rfl) rfl ?_
      refine ev_iload_n rfl ?_
      refine ev_aload_n rfl ?_
      refine g_getv (r := 42) (v := y0) g1 ad42 (by decide) ft12_1 (ey0) ?_
      refine ev_icmpge f256_110 (fun c64103 => absurd c64103 (by omega)) (fun c64103 => ?_)
      refine ev_aload_n rfl ?_
      refine g_getp (r := 42) (c := 46) g1 ad42 (by decide) (by decide) rf42_6 ft12_6 ?_
      refine ev_iconst ?_
      refine ev_iload_n rfl ?_
      refine ev_imul (r := (4 * x1)) (by unfold w32; omega) ?_
      refine ev_iload_n rfl ?_
      refine ev_iadd (r := (4 * x1)) (by unfold w32; omega) ?_
      refine ev_iload_n rfl ?_
      refine ev_aload_n rfl ?_
      refine g_getp (r := 42) (c := 43) g1 ad42 (by decide) (by decide) rf42_2 ft12_2 ?_
      refine ev_iload_n rfl ?_
      refine g_iald g1 ad43 rt43 (by omega) (by omega) (fun v64104 ev64104 lv64104 uv64104 => ?_)
      have xv64104 := (g1.ex.2.1 (0 : Int).toNat (by rw [(ey0)]; omega))
      rw [ev64104] at xv64104
      refine g_iremQ (by omega) (by omega) (fun v64105 ev64105 lv64105 uv64105 wv64105 => ?_)
      refine ev_iastG (r := 46) (j := ((4 * x1)).toNat) (g1.lt ad46) (g1.tg ad46) (by omega) (by rw [g1.ln ad46]; omega) (fun h64106 e64106 => ?_)
      have g64106 := g1.s46 (s := (x1).toNat) (t := 0) e64106 (by omega) (by decide) (lt_r (show ((0 : Nat) : Int) < y0 by omega) (ey0)) (lt_r (show v64105 < v64104 by omega) (ev64104)) (by omega) (by omega)
      have k64106 := k1.wr e64106 rfl
      refine ev_iload_n rfl ?_
      refine ev_aload_n rfl ?_
      refine g_getp (r := 42) (c := 43) g64106 ad42 (by decide) (by decide) rf42_2 ft12_2 ?_
      refine ev_iload_n rfl ?_
      refine g_ialdv (v := v64104) g64106 ad43 (by omega) (by omega) (((jw_ne e64106 (Or.inl (by decide))).trans ev64104)) ?_
      refine g_idivM (by omega) (by omega) (by omega) (fun v64107 ev64107 lv64107 uv64107 => ?_)
      refine ev_istore_n (L' := [(2, 42), (0, x1), (0, v64107), (0, 0)]) (Nat.le_of_ble_eq_true rfl) rfl ?_
      refine ev_iinc (w := 1) (L' := [(2, 42), (0, x1), (0, v64107), (0, 1)]) rfl (by decide) rfl ?_
      refine ev_goto f256_69 ?_
      refine ev_iload_n rfl ?_
      refine ev_aload_n rfl ?_
      refine g_getv (r := 42) (v := y0) g64106 ad42 (by decide) ft12_1 (((jw_ne e64106 (Or.inl (by decide))).trans ey0)) ?_
      refine ev_icmpge f256_110 (fun c64108 => absurd c64108 (by omega)) (fun c64108 => ?_)
      refine ev_aload_n rfl ?_
      refine g_getp (r := 42) (c := 46) g64106 ad42 (by decide) (by decide) rf42_6 ft12_6 ?_
      refine ev_iconst ?_
      refine ev_iload_n rfl ?_
      refine ev_imul (r := (4 * x1)) (by unfold w32; omega) ?_
      refine ev_iload_n rfl ?_
      refine ev_iadd (r := (4 * x1 + 1)) (by unfold w32; omega) ?_
      refine ev_iload_n rfl ?_
      refine ev_aload_n rfl ?_
      refine g_getp (r := 42) (c := 43) g64106 ad42 (by decide) (by decide) rf42_2 ft12_2 ?_
      refine ev_iload_n rfl ?_
      refine g_iald g64106 ad43 rt43 (by omega) (by omega) (fun v64109 ev64109 lv64109 uv64109 => ?_)
      have xv64109 := (g64106.ex.2.1 (1 : Int).toNat (by rw [(((jw_ne e64106 (Or.inl (by decide))).trans ey0))]; omega))
      rw [ev64109] at xv64109
      refine g_iremQ (by omega) (by omega) (fun v64110 ev64110 lv64110 uv64110 wv64110 => ?_)
      refine ev_iastG (r := 46) (j := ((4 * x1 + 1)).toNat) (g64106.lt ad46) (g64106.tg ad46) (by omega) (by rw [g64106.ln ad46]; omega) (fun h64111 e64111 => ?_)
      have g64111 := g64106.s46 (s := (x1).toNat) (t := 1) e64111 (by omega) (by decide) (lt_r (show ((1 : Nat) : Int) < y0 by omega) (((jw_ne e64106 (Or.inl (by decide))).trans ey0))) (lt_r (show v64110 < v64109 by omega) (ev64109)) (by omega) (by omega)
      have k64111 := k64106.wr e64111 rfl
      refine ev_iload_n rfl ?_
      refine ev_aload_n rfl ?_
      refine g_getp (r := 42) (c := 43) g64111 ad42 (by decide) (by decide) rf42_2 ft12_2 ?_
      refine ev_iload_n rfl ?_
      refine g_ialdv (v := v64109) g64111 ad43 (by omega) (by omega) (((jw_ne e64111 (Or.inl (by decide))).trans ev64109)) ?_
      refine g_idivM (by omega) (by omega) (by omega) (fun v64112 ev64112 lv64112 uv64112 => ?_)
      refine ev_istore_n (L' := [(2, 42), (0, x1), (0, v64112), (0, 1)]) (Nat.le_of_ble_eq_true rfl) rfl ?_
      refine ev_iinc (w := 2) (L' := [(2, 42), (0, x1), (0, v64112), (0, 2)]) rfl (by decide) rfl ?_
      refine ev_goto f256_69 ?_
      refine ev_iload_n rfl ?_
      refine ev_aload_n rfl ?_
      refine g_getv (r := 42) (v := y0) g64111 ad42 (by decide) ft12_1 (((jw_ne e64111 (Or.inl (by decide))).trans ((jw_ne e64106 (Or.inl (by decide))).trans ey0))) ?_
      refine ev_icmpge f256_110 (fun c64113 => absurd c64113 (by omega)) (fun c64113 => ?_)
      refine ev_aload_n rfl ?_
      refine g_getp (r := 42) (c := 46) g64111 ad42 (by decide) (by decide) rf42_6 ft12_6 ?_
      refine ev_iconst ?_
      refine ev_iload_n rfl ?_
      refine ev_imul (r := (4 * x1)) (by unfold w32; omega) ?_
      refine ev_iload_n rfl ?_
      refine ev_iadd (r := (4 * x1 + 2)) (by unfold w32; omega) ?_
      refine ev_iload_n rfl ?_
      refine ev_aload_n rfl ?_
      refine g_getp (r := 42) (c := 43) g64111 ad42 (by decide) (by decide) rf42_2 ft12_2 ?_
      refine ev_iload_n rfl ?_
      refine g_iald g64111 ad43 rt43 (by omega) (by omega) (fun v64114 ev64114 lv64114 uv64114 => ?_)
      have xv64114 := (g64111.ex.2.1 (2 : Int).toNat (by rw [(((jw_ne e64111 (Or.inl (by decide))).trans ((jw_ne e64106 (Or.inl (by decide))).trans ey0)))]; omega))
      rw [ev64114] at xv64114
      refine g_iremQ (by omega) (by omega) (fun v64115 ev64115 lv64115 uv64115 wv64115 => ?_)
      refine ev_iastG (r := 46) (j := ((4 * x1 + 2)).toNat) (g64111.lt ad46) (g64111.tg ad46) (by omega) (by rw [g64111.ln ad46]; omega) (fun h64116 e64116 => ?_)
      have g64116 := g64111.s46 (s := (x1).toNat) (t := 2) e64116 (by omega) (by decide) (lt_r (show ((2 : Nat) : Int) < y0 by omega) (((jw_ne e64111 (Or.inl (by decide))).trans ((jw_ne e64106 (Or.inl (by decide))).trans ey0)))) (lt_r (show v64115 < v64114 by omega) (ev64114)) (by omega) (by omega)
      have k64116 := k64111.wr e64116 rfl
      refine ev_iload_n rfl ?_
      refine ev_aload_n rfl ?_
      refine g_getp (r := 42) (c := 43) g64116 ad42 (by decide) (by decide) rf42_2 ft12_2 ?_
      refine ev_iload_n rfl ?_
      refine g_ialdv (v := v64114) g64116 ad43 (by omega) (by omega) (((jw_ne e64116 (Or.inl (by decide))).trans ev64114)) ?_
      refine g_idivM (by omega) (by omega) (by omega) (fun v64117 ev64117 lv64117 uv64117 => ?_)
      refine ev_istore_n (L' := [(2, 42), (0, x1), (0, v64117), (0, 2)]) (Nat.le_of_ble_eq_true rfl) rfl ?_
      refine ev_iinc (w := 3) (L' := [(2, 42), (0, x1), (0, v64117), (0, 3)]) rfl (by decide) rfl ?_
      refine ev_goto f256_69 ?_
      refine ev_iload_n rfl ?_
      refine ev_aload_n rfl ?_
      refine g_getv (r := 42) (v := y0) g64116 ad42 (by decide) ft12_1 (((jw_ne e64116 (Or.inl (by decide))).trans ((jw_ne e64111 (Or.inl (by decide))).trans ((jw_ne e64106 (Or.inl (by decide))).trans ey0)))) ?_
      refine ev_icmpge f256_110 (fun c64118 => ?_) (fun c64118 => absurd c64118 (by omega))
      refine ev_aload_n rfl ?_
      refine g_getp (r := 42) (c := 47) g64116 ad42 (by decide) (by decide) rf42_7 ft12_7 ?_
      refine ev_iload_n rfl ?_
      refine ev_aload_n rfl ?_
      refine ev_iload_n rfl ?_
      refine ev_call (jcall_v (A := [(0, x1)]) (S' := [(0, x1), (2, 47)]) (r := 42) rfl (g64116.lt ad42) (g64116.tg ad42) (Nat.le_of_ble_eq_true rfl)) (jOk_le (by decide) (s255 g64116 (by omega) (by omega))) (by decide) (by decide) (fun w64119 h64119 q64119 => ?_)
      obtain ⟨v64120, rfl, lv64120, uv64120, g64119, kk64119⟩ := q64119
      have k64119 := k64116.tr kk64119 (by decide)
      show jEv _ _ _ _ _ _ _ (_, [(2, 42), (0, x1), (0, v64117), (0, 3)], [(1, v64120), (0, x1), (2, 47)], _, _, _)
      refine g_last g64119 ad47 rt47 (fun _ => rfl) (by omega) (by omega) (by omega) (by omega) (fun h64121 e64121 g64121 => ?_)
      have k64121 := k64119.wr e64121 rfl
      refine ev_iinc (w := (x1 + 1)) (L' := [(2, 42), (0, (x1 + 1)), (0, v64117), (0, 3)]) rfl (by unfold w32; omega) rfl ?_
      refine ev_goto f256_57 ?_
      exact ih _ _ _ _ _ _ _ g64121 k64121 (by omega) (by omega) (((jw_ne e64121 (Or.inl (by decide))).trans ((kk64119.v (by decide)).trans ((jw_ne e64116 (Or.inl (by decide))).trans ((jw_ne e64111 (Or.inl (by decide))).trans ((jw_ne e64106 (Or.inl (by decide))).trans ey0)))))) (by omega) (by omega) (((jw_ne e64121 (Or.inl (by decide))).trans ((kk64119.v (by decide)).trans ((jw_ne e64116 (Or.inl (by decide))).trans ((jw_ne e64111 (Or.inl (by decide))).trans ((jw_ne e64106 (Or.inl (by decide))).trans ey1)))))) (by omega) (by omega) (((jw_ne e64121 (Or.inl (by decide))).trans ((kk64119.v (by decide)).trans ((jw_ne e64116 (Or.inl (by decide))).trans ((jw_ne e64111 (Or.inl (by decide))).trans ((jw_ne e64106 (Or.inl (by decide))).trans ey2)))))) (by omega) (by omega) (by omega)
set_option maxHeartbeats 4000000 in
theorem s256z_3 {G : GH} {h : JH} (g : Gd G h) (ew0 : h.2.2 42 1 = 3) : jOk 4 0 0 256 [(2, 42)] h (fun v h' => ∃ r F : Int, v = some (0, r) ∧ 0 ≤ r ∧ r ≤ 1 ∧ Gd G h' ∧ Kp [(46, 0), (47, 0), (42, 6), (42, 9)] h h' ∧ h'.2.2 42 8 = F ∧ ((-F) + 5 * r) ≤ 4 ∧ (F + (-1000000000001) * r) ≤ (-1)) := by
  refine ⟨by decide, by rw [ml256]; exact Nat.le_of_ble_eq_true rfl, ?_⟩
  rw [ml256, pp256]
  show jEv _ none _ c256_0 0 0 _ (c256_0, [(2, 42), (9, 0), (9, 0), (9, 0)], [], h, 0, 0)
  have k0 := Kp.rf [(46, 0), (47, 0), (42, 6), (42, 9)] h
  refine ev_aload_n rfl ?_
  refine ev_aload_n rfl ?_
  refine ev_call (jcall_v (A := []) (S' := [(2, 42)]) (r := 42) rfl (g.lt ad42) (g.tg ad42) (Nat.le_of_ble_eq_true rfl)) (jOk_le (by decide) (s253z g )) (by decide) (by decide) (fun w64122 h64122 q64122 => ?_)
  obtain ⟨q64122, nz64122⟩ := q64122
  obtain ⟨v64123, rfl, lv64123, uv64123, g64122, kk64122⟩ := q64122
  have nz64122 := nz64122 _ rfl
  have k64122 := k0.tr kk64122 (by decide)
  show jEv _ _ _ _ _ _ _ (_, [(2, 42), (9, 0), (9, 0), (9, 0)], [(1, v64123), (2, 42)], _, _, _)
  refine g_putf (r := 42) g64122 ad42 (by decide) ft12_8 (by decide) (fun e => absurd e nz12_8) rf42_8 (by decide) (by omega) (by omega) (fun h64124 e64124 g64124 => ?_)
  have k64124 := k64122.wr e64124 rfl
  refine ev_aload_n rfl ?_
  refine g_getv (r := 42) (v := v64123) g64124 ad42 (by decide) ft12_8 ((jw_eq e64124)) ?_
  refine ev_lconst ?_
  refine ev_lcmp ?_
  refine ev_ifge f256_19 (fun c64125 => ?_) (fun c64125 => ?_)
  · have c64125b := jcmpL_ge c64125
    refine ev_aload_n rfl ?_
    refine ev_iconst ?_
    refine g_putf (r := 42) g64124 ad42 (by decide) ft12_5 (by decide) (fun e => absurd e nz12_5) rf42_5 (by decide) (by omega) (by omega) (fun h64126 e64126 g64126 => ?_)
    have k64126 := k64124.wr e64126 rfl
    refine ev_iconst ?_
    refine ev_istore_n (L' := [(2, 42), (0, 0), (9, 0), (9, 0)]) (Nat.le_of_ble_eq_true rfl) rfl ?_
    refine ev_iload_n rfl ?_
    refine ev_aload_n rfl ?_
    refine g_getv (r := 42) (v := 3) g64126 ad42 (by decide) ft12_1 (((jw_ne e64126 (Or.inr (by decide))).trans ((jw_ne e64124 (Or.inr (by decide))).trans ((kk64122.v (by decide)).trans ew0)))) ?_
    refine ev_icmpge f256_55 (fun c64127 => absurd c64127 (by omega)) (fun c64127 => ?_)
    refine ev_aload_n rfl ?_
    refine ev_dup (by decide) ?_
    refine g_getv (r := 42) (v := 1) g64126 ad42 (by decide) ft12_5 ((jw_eq e64126)) ?_
    refine ev_aload_n rfl ?_
    refine g_getp (r := 42) (c := 43) g64126 ad42 (by decide) (by decide) rf42_2 ft12_2 ?_
    refine ev_iload_n rfl ?_
    refine g_iald g64126 ad43 rt43 (by omega) (by omega) (fun v64128 ev64128 lv64128 uv64128 => ?_)
    have xv64128 := (g64126.ex.2.1 (0 : Int).toNat (by rw [(((jw_ne e64126 (Or.inr (by decide))).trans ((jw_ne e64124 (Or.inr (by decide))).trans ((kk64122.v (by decide)).trans ew0))))]; omega))
    rw [ev64128] at xv64128
    refine ev_imul (r := v64128) (by unfold w32; omega) ?_
    refine g_putf (r := 42) g64126 ad42 (by decide) ft12_5 (by decide) (fun e => absurd e nz12_5) rf42_5 (by decide) (by omega) (by omega) (fun h64129 e64129 g64129 => ?_)
    have k64129 := k64126.wr e64129 rfl
    refine ev_iinc (w := 1) (L' := [(2, 42), (0, 1), (9, 0), (9, 0)]) rfl (by decide) rfl ?_
    refine ev_goto f256_26 ?_
    refine ev_iload_n rfl ?_
    refine ev_aload_n rfl ?_
    refine g_getv (r := 42) (v := 3) g64129 ad42 (by decide) ft12_1 (((jw_ne e64129 (Or.inr (by decide))).trans ((jw_ne e64126 (Or.inr (by decide))).trans ((jw_ne e64124 (Or.inr (by decide))).trans ((kk64122.v (by decide)).trans ew0))))) ?_
    refine ev_icmpge f256_55 (fun c64130 => absurd c64130 (by omega)) (fun c64130 => ?_)
    refine ev_aload_n rfl ?_
    refine ev_dup (by decide) ?_
    refine g_getv (r := 42) (v := v64128) g64129 ad42 (by decide) ft12_5 ((jw_eq e64129)) ?_
    refine ev_aload_n rfl ?_
    refine g_getp (r := 42) (c := 43) g64129 ad42 (by decide) (by decide) rf42_2 ft12_2 ?_
    refine ev_iload_n rfl ?_
    refine g_iald g64129 ad43 rt43 (by omega) (by omega) (fun v64131 ev64131 lv64131 uv64131 => ?_)
    have xv64131 := (g64129.ex.2.1 (1 : Int).toNat (by rw [(((jw_ne e64129 (Or.inr (by decide))).trans ((jw_ne e64126 (Or.inr (by decide))).trans ((jw_ne e64124 (Or.inr (by decide))).trans ((kk64122.v (by decide)).trans ew0)))))]; omega))
    rw [ev64131] at xv64131
    refine g_imulB (a := 3) (b := 3) (a' := 2) (b' := 2) (by omega) (by omega) (by omega) (by omega) (by decide) (lo := 4) (hi := 9) (by decide) (by decide) (fun v64132 ev64132 lv64132 uv64132 => ?_)
    refine g_putf (r := 42) g64129 ad42 (by decide) ft12_5 (by decide) (fun e => absurd e nz12_5) rf42_5 (by decide) (by omega) (by omega) (fun h64133 e64133 g64133 => ?_)
    have k64133 := k64129.wr e64133 rfl
    refine ev_iinc (w := 2) (L' := [(2, 42), (0, 2), (9, 0), (9, 0)]) rfl (by decide) rfl ?_
    refine ev_goto f256_26 ?_
    refine ev_iload_n rfl ?_
    refine ev_aload_n rfl ?_
    refine g_getv (r := 42) (v := 3) g64133 ad42 (by decide) ft12_1 (((jw_ne e64133 (Or.inr (by decide))).trans ((jw_ne e64129 (Or.inr (by decide))).trans ((jw_ne e64126 (Or.inr (by decide))).trans ((jw_ne e64124 (Or.inr (by decide))).trans ((kk64122.v (by decide)).trans ew0)))))) ?_
    refine ev_icmpge f256_55 (fun c64134 => absurd c64134 (by omega)) (fun c64134 => ?_)
    refine ev_aload_n rfl ?_
    refine ev_dup (by decide) ?_
    refine g_getv (r := 42) (v := v64132) g64133 ad42 (by decide) ft12_5 ((jw_eq e64133)) ?_
    refine ev_aload_n rfl ?_
    refine g_getp (r := 42) (c := 43) g64133 ad42 (by decide) (by decide) rf42_2 ft12_2 ?_
    refine ev_iload_n rfl ?_
    refine g_iald g64133 ad43 rt43 (by omega) (by omega) (fun v64135 ev64135 lv64135 uv64135 => ?_)
    have xv64135 := (g64133.ex.2.1 (2 : Int).toNat (by rw [(((jw_ne e64133 (Or.inr (by decide))).trans ((jw_ne e64129 (Or.inr (by decide))).trans ((jw_ne e64126 (Or.inr (by decide))).trans ((jw_ne e64124 (Or.inr (by decide))).trans ((kk64122.v (by decide)).trans ew0))))))]; omega))
    rw [ev64135] at xv64135
    refine g_imulB (a := 9) (b := 3) (a' := 4) (b' := 2) (by omega) (by omega) (by omega) (by omega) (by decide) (lo := 8) (hi := 27) (by decide) (by decide) (fun v64136 ev64136 lv64136 uv64136 => ?_)
    refine g_putf (r := 42) g64133 ad42 (by decide) ft12_5 (by decide) (fun e => absurd e nz12_5) rf42_5 (by decide) (by omega) (by omega) (fun h64137 e64137 g64137 => ?_)
    have k64137 := k64133.wr e64137 rfl
    refine ev_iinc (w := 3) (L' := [(2, 42), (0, 3), (9, 0), (9, 0)]) rfl (by decide) rfl ?_
    refine ev_goto f256_26 ?_
    refine ev_iload_n rfl ?_
    refine ev_aload_n rfl ?_
    refine g_getv (r := 42) (v := 3) g64137 ad42 (by decide) ft12_1 (((jw_ne e64137 (Or.inr (by decide))).trans ((jw_ne e64133 (Or.inr (by decide))).trans ((jw_ne e64129 (Or.inr (by decide))).trans ((jw_ne e64126 (Or.inr (by decide))).trans ((jw_ne e64124 (Or.inr (by decide))).trans ((kk64122.v (by decide)).trans ew0))))))) ?_
    refine ev_icmpge f256_55 (fun c64138 => ?_) (fun c64138 => absurd c64138 (by omega))
    refine ev_iconst ?_
    refine ev_istore_n (L' := [(2, 42), (0, 0), (9, 0), (9, 0)]) (Nat.le_of_ble_eq_true rfl) rfl ?_
    exact (s256z_3_l ew0 56) _ _ _ _ _ _ _ g64137 k64137 (by omega) (by omega) (((jw_ne e64137 (Or.inr (by decide))).trans ((jw_ne e64133 (Or.inr (by decide))).trans ((jw_ne e64129 (Or.inr (by decide))).trans ((jw_ne e64126 (Or.inr (by decide))).trans ((jw_ne e64124 (Or.inr (by decide))).trans ((kk64122.v (by decide)).trans ew0))))))) (by omega) (by omega) ((jw_eq e64137)) (by omega) (by omega) (((jw_ne e64137 (Or.inr (by decide))).trans ((jw_ne e64133 (Or.inr (by decide))).trans ((jw_ne e64129 (Or.inr (by decide))).trans ((jw_ne e64126 (Or.inr (by decide))).trans (jw_eq e64124)))))) (by omega) (by omega) (by omega)
  · have c64125b := jcmpL_geN c64125
    refine ev_iconst ?_
    exact ev_ret rfl (by decide) (by decide) ⟨_, _, rfl, by omega, by omega, g64124, k64124, ((jw_eq e64124)), by omega, by omega⟩
set_option maxHeartbeats 4000000 in
theorem s256z_4_l {G : GH} {h : JH} (ew0 : h.2.2 42 1 = 4) : ∀ N : Nat, (∀ (h1 : JH) (x1 y0 y1 y2 : Int) (j2 j3 : AV), Gd G h1 → Kp [(46, 0), (47, 0), (42, 6), (42, 9)] h h1 → 0 ≤ x1 → x1 ≤ 81 → h1.2.2 42 1 = y0 → 4 ≤ y0 → y0 ≤ 4 → h1.2.2 42 5 = y1 → 0 ≤ y1 → y1 ≤ 81 → h1.2.2 42 8 = y2 → 1 ≤ y2 → y2 ≤ 1000000000000 → ((-x1) + 81) < N → jEv (jOk 3) none (fun _ => 0) c256_0 0 0 (fun v h' => ∃ r F : Int, v = some (0, r) ∧ 0 ≤ r ∧ r ≤ 1 ∧ Gd G h' ∧ Kp [(46, 0), (47, 0), (42, 6), (42, 9)] h h' ∧ h'.2.2 42 8 = F ∧ ((-F) + 5 * r) ≤ 4 ∧ (F + (-1000000000001) * r) ≤ (-1)) (c256_57, [(2, 42), (0, x1), j2, j3], [], h1, 0, 0)) := by
  intro N
  induction N with
  | zero => exact fun h1 x1 y0 y1 y2 j2 j3 g1 k1 b0 b1 b2 b3 b4 b5 b6 b7 b8 b9 b10 hm => absurd hm (by omega)
  | succ N ih =>
    show _
    intro h1 x1 y0 y1 y2 j2 j3 g1 k1 b0 b1 ey0 ly0 uy0 ey1 ly1 uy1 ey2 ly2 uy2 hm
    refine ev_iload_n rfl ?_
    refine ev_aload_n rfl ?_
    refine g_getv (r := 42) (v := y1) g1 ad42 (by decide) ft12_5 (ey1) ?_
    refine ev_icmpge f256_127 (fun c65031 => ?_) (fun c65031 => ?_)
    · refine ev_iconst ?_
      exact ev_ret rfl (by decide) (by decide) ⟨_, _, rfl, by omega, by omega, g1, k1, (ey2), by omega, by omega⟩
    · refine ev_iload_n rfl ?_
      refine ev_istore_n (L' := [(2, 42), (0, x1), (0, x1), j3]) (Nat.le_of_ble_eq_true rfl) rfl ?_
      refine ev_iconst ?_
      refine ev_istore_n (L' := [(2, 42), (0, x1), (0, x1), (0, 0)]) (Nat.le_of_ble_eq_true rfl) rfl ?_
      refine ev_iload_n rfl ?_
      refine ev_aload_n rfl ?_
      refine g_getv (r := 42) (v := y0) g1 ad42 (by decide) ft12_1 (ey0) ?_
      refine ev_icmpge f256_110 (fun c65032 => absurd c65032 (by omega)) (fun c65032 => ?_)
      refine ev_aload_n rfl ?_
      refine g_getp (r := 42) (c := 46) g1 ad42 (by decide) (by decide) rf42_6 ft12_6 ?_
      refine ev_iconst ?_
      refine ev_iload_n rfl ?_
      refine ev_imul (r := (4 * x1)) (by unfold w32; omega) ?_
      refine ev_iload_n rfl ?_
      refine ev_iadd (r := (4 * x1)) (by unfold w32; omega) ?_
      refine ev_iload_n rfl ?_
      refine ev_aload_n rfl ?_
      refine g_getp (r := 42) (c := 43) g1 ad42 (by decide) (by decide) rf42_2 ft12_2 ?_
      refine ev_iload_n rfl ?_
      refine g_iald g1 ad43 rt43 (by omega) (by omega) (fun v65033 ev65033 lv65033 uv65033 => ?_)
      have xv65033 := (g1.ex.2.1 (0 : Int).toNat (by rw [(ey0)]; omega))
      rw [ev65033] at xv65033
      refine g_iremQ (by omega) (by omega) (fun v65034 ev65034 lv65034 uv65034 wv65034 => ?_)
      refine ev_iastG (r := 46) (j := ((4 * x1)).toNat) (g1.lt ad46) (g1.tg ad46) (by omega) (by rw [g1.ln ad46]; omega) (fun h65035 e65035 => ?_)
      have g65035 := g1.s46 (s := (x1).toNat) (t := 0) e65035 (by omega) (by decide) (lt_r (show ((0 : Nat) : Int) < y0 by omega) (ey0)) (lt_r (show v65034 < v65033 by omega) (ev65033)) (by omega) (by omega)
      have k65035 := k1.wr e65035 rfl
      refine ev_iload_n rfl ?_
      refine ev_aload_n rfl ?_
      refine g_getp (r := 42) (c := 43) g65035 ad42 (by decide) (by decide) rf42_2 ft12_2 ?_
      refine ev_iload_n rfl ?_
      refine g_ialdv (v := v65033) g65035 ad43 (by omega) (by omega) (((jw_ne e65035 (Or.inl (by decide))).trans ev65033)) ?_
      refine g_idivM (by omega) (by omega) (by omega) (fun v65036 ev65036 lv65036 uv65036 => ?_)
      refine ev_istore_n (L' := [(2, 42), (0, x1), (0, v65036), (0, 0)]) (Nat.le_of_ble_eq_true rfl) rfl ?_
      refine ev_iinc (w := 1) (L' := [(2, 42), (0, x1), (0, v65036), (0, 1)]) rfl (by decide) rfl ?_
      refine ev_goto f256_69 ?_
      refine ev_iload_n rfl ?_
      refine ev_aload_n rfl ?_
      refine g_getv (r := 42) (v := y0) g65035 ad42 (by decide) ft12_1 (((jw_ne e65035 (Or.inl (by decide))).trans ey0)) ?_
      refine ev_icmpge f256_110 (fun c65037 => absurd c65037 (by omega)) (fun c65037 => ?_)
      refine ev_aload_n rfl ?_
      refine g_getp (r := 42) (c := 46) g65035 ad42 (by decide) (by decide) rf42_6 ft12_6 ?_
      refine ev_iconst ?_
      refine ev_iload_n rfl ?_
      refine ev_imul (r := (4 * x1)) (by unfold w32; omega) ?_
      refine ev_iload_n rfl ?_
      refine ev_iadd (r := (4 * x1 + 1)) (by unfold w32; omega) ?_
      refine ev_iload_n rfl ?_
      refine ev_aload_n rfl ?_
      refine g_getp (r := 42) (c := 43) g65035 ad42 (by decide) (by decide) rf42_2 ft12_2 ?_
      refine ev_iload_n rfl ?_
      refine g_iald g65035 ad43 rt43 (by omega) (by omega) (fun v65038 ev65038 lv65038 uv65038 => ?_)
      have xv65038 := (g65035.ex.2.1 (1 : Int).toNat (by rw [(((jw_ne e65035 (Or.inl (by decide))).trans ey0))]; omega))
      rw [ev65038] at xv65038
      refine g_iremQ (by omega) (by omega) (fun v65039 ev65039 lv65039 uv65039 wv65039 => ?_)
      refine ev_iastG (r := 46) (j := ((4 * x1 + 1)).toNat) (g65035.lt ad46) (g65035.tg ad46) (by omega) (by rw [g65035.ln ad46]; omega) (fun h65040 e65040 => ?_)
      have g65040 := g65035.s46 (s := (x1).toNat) (t := 1) e65040 (by omega) (by decide) (lt_r (show ((1 : Nat) : Int) < y0 by omega) (((jw_ne e65035 (Or.inl (by decide))).trans ey0))) (lt_r (show v65039 < v65038 by omega) (ev65038)) (by omega) (by omega)
      have k65040 := k65035.wr e65040 rfl
      refine ev_iload_n rfl ?_
      refine ev_aload_n rfl ?_
      refine g_getp (r := 42) (c := 43) g65040 ad42 (by decide) (by decide) rf42_2 ft12_2 ?_
      refine ev_iload_n rfl ?_
      refine g_ialdv (v := v65038) g65040 ad43 (by omega) (by omega) (((jw_ne e65040 (Or.inl (by decide))).trans ev65038)) ?_
      refine g_idivM (by omega) (by omega) (by omega) (fun v65041 ev65041 lv65041 uv65041 => ?_)
      refine ev_istore_n (L' := [(2, 42), (0, x1), (0, v65041), (0, 1)]) (Nat.le_of_ble_eq_true rfl) rfl ?_
      refine ev_iinc (w := 2) (L' := [(2, 42), (0, x1), (0, v65041), (0, 2)]) rfl (by decide) rfl ?_
      refine ev_goto f256_69 ?_
      refine ev_iload_n rfl ?_
      refine ev_aload_n rfl ?_
      refine g_getv (r := 42) (v := y0) g65040 ad42 (by decide) ft12_1 (((jw_ne e65040 (Or.inl (by decide))).trans ((jw_ne e65035 (Or.inl (by decide))).trans ey0))) ?_
      refine ev_icmpge f256_110 (fun c65042 => absurd c65042 (by omega)) (fun c65042 => ?_)
      refine ev_aload_n rfl ?_
      refine g_getp (r := 42) (c := 46) g65040 ad42 (by decide) (by decide) rf42_6 ft12_6 ?_
      refine ev_iconst ?_
      refine ev_iload_n rfl ?_
      refine ev_imul (r := (4 * x1)) (by unfold w32; omega) ?_
      refine ev_iload_n rfl ?_
      refine ev_iadd (r := (4 * x1 + 2)) (by unfold w32; omega) ?_
      refine ev_iload_n rfl ?_
      refine ev_aload_n rfl ?_
      refine g_getp (r := 42) (c := 43) g65040 ad42 (by decide) (by decide) rf42_2 ft12_2 ?_
      refine ev_iload_n rfl ?_
      refine g_iald g65040 ad43 rt43 (by omega) (by omega) (fun v65043 ev65043 lv65043 uv65043 => ?_)
      have xv65043 := (g65040.ex.2.1 (2 : Int).toNat (by rw [(((jw_ne e65040 (Or.inl (by decide))).trans ((jw_ne e65035 (Or.inl (by decide))).trans ey0)))]; omega))
      rw [ev65043] at xv65043
      refine g_iremQ (by omega) (by omega) (fun v65044 ev65044 lv65044 uv65044 wv65044 => ?_)
      refine ev_iastG (r := 46) (j := ((4 * x1 + 2)).toNat) (g65040.lt ad46) (g65040.tg ad46) (by omega) (by rw [g65040.ln ad46]; omega) (fun h65045 e65045 => ?_)
      have g65045 := g65040.s46 (s := (x1).toNat) (t := 2) e65045 (by omega) (by decide) (lt_r (show ((2 : Nat) : Int) < y0 by omega) (((jw_ne e65040 (Or.inl (by decide))).trans ((jw_ne e65035 (Or.inl (by decide))).trans ey0)))) (lt_r (show v65044 < v65043 by omega) (ev65043)) (by omega) (by omega)
      have k65045 := k65040.wr e65045 rfl
      refine ev_iload_n rfl ?_
      refine ev_aload_n rfl ?_
      refine g_getp (r := 42) (c := 43) g65045 ad42 (by decide) (by decide) rf42_2 ft12_2 ?_
      refine ev_iload_n rfl ?_
      refine g_ialdv (v := v65043) g65045 ad43 (by omega) (by omega) (((jw_ne e65045 (Or.inl (by decide))).trans ev65043)) ?_
      refine g_idivM (by omega) (by omega) (by omega) (fun v65046 ev65046 lv65046 uv65046 => ?_)
      refine ev_istore_n (L' := [(2, 42), (0, x1), (0, v65046), (0, 2)]) (Nat.le_of_ble_eq_true rfl) rfl ?_
      refine ev_iinc (w := 3) (L' := [(2, 42), (0, x1), (0, v65046), (0, 3)]) rfl (by decide) rfl ?_
      refine ev_goto f256_69 ?_
      refine ev_iload_n rfl ?_
      refine ev_aload_n rfl ?_
      refine g_getv (r := 42) (v := y0) g65045 ad42 (by decide) ft12_1 (((jw_ne e65045 (Or.inl (by decide))).trans ((jw_ne e65040 (Or.inl (by decide))).trans ((jw_ne e65035 (Or.inl (by decide))).trans ey0)))) ?_
      refine ev_icmpge f256_110 (fun c65047 => absurd c65047 (by omega)) (fun c65047 => ?_)
      refine ev_aload_n rfl ?_
      refine g_getp (r := 42) (c := 46) g65045 ad42 (by decide) (by decide) rf42_6 ft12_6 ?_
      refine ev_iconst ?_
      refine ev_iload_n rfl ?_
      refine ev_imul (r := (4 * x1)) (by unfold w32; omega) ?_
      refine ev_iload_n rfl ?_
      refine ev_iadd (r := (4 * x1 + 3)) (by unfold w32; omega) ?_
      refine ev_iload_n rfl ?_
      refine ev_aload_n rfl ?_
      refine g_getp (r := 42) (c := 43) g65045 ad42 (by decide) (by decide) rf42_2 ft12_2 ?_
      refine ev_iload_n rfl ?_
      refine g_iald g65045 ad43 rt43 (by omega) (by omega) (fun v65048 ev65048 lv65048 uv65048 => ?_)
      have xv65048 := (g65045.ex.2.1 (3 : Int).toNat (by rw [(((jw_ne e65045 (Or.inl (by decide))).trans ((jw_ne e65040 (Or.inl (by decide))).trans ((jw_ne e65035 (Or.inl (by decide))).trans ey0))))]; omega))
      rw [ev65048] at xv65048
      refine g_iremQ (by omega) (by omega) (fun v65049 ev65049 lv65049 uv65049 wv65049 => ?_)
      refine ev_iastG (r := 46) (j := ((4 * x1 + 3)).toNat) (g65045.lt ad46) (g65045.tg ad46) (by omega) (by rw [g65045.ln ad46]; omega) (fun h65050 e65050 => ?_)
      have g65050 := g65045.s46 (s := (x1).toNat) (t := 3) e65050 (by omega) (by decide) (lt_r (show ((3 : Nat) : Int) < y0 by omega) (((jw_ne e65045 (Or.inl (by decide))).trans ((jw_ne e65040 (Or.inl (by decide))).trans ((jw_ne e65035 (Or.inl (by decide))).trans ey0))))) (lt_r (show v65049 < v65048 by omega) (ev65048)) (by omega) (by omega)
      have k65050 := k65045.wr e65050 rfl
      refine ev_iload_n rfl ?_
      refine ev_aload_n rfl ?_
      refine g_getp (r := 42) (c := 43) g65050 ad42 (by decide) (by decide) rf42_2 ft12_2 ?_
      refine ev_iload_n rfl ?_
      refine g_ialdv (v := v65048) g65050 ad43 (by omega) (by omega) (((jw_ne e65050 (Or.inl (by decide))).trans ev65048)) ?_
      refine g_idivM (by omega) (by omega) (by omega) (fun v65051 ev65051 lv65051 uv65051 => ?_)
      refine ev_istore_n (L' := [(2, 42), (0, x1), (0, v65051), (0, 3)]) (Nat.le_of_ble_eq_true rfl) rfl ?_
      refine ev_iinc (w := 4) (L' := [(2, 42), (0, x1), (0, v65051), (0, 4)]) rfl (by decide) rfl ?_
      refine ev_goto f256_69 ?_
      refine ev_iload_n rfl ?_
      refine ev_aload_n rfl ?_
      refine g_getv (r := 42) (v := y0) g65050 ad42 (by decide) ft12_1 (((jw_ne e65050 (Or.inl (by decide))).trans ((jw_ne e65045 (Or.inl (by decide))).trans ((jw_ne e65040 (Or.inl (by decide))).trans ((jw_ne e65035 (Or.inl (by decide))).trans ey0))))) ?_
      refine ev_icmpge f256_110 (fun c65052 => ?_) (fun c65052 => absurd c65052 (by omega))
      refine ev_aload_n rfl ?_
      refine g_getp (r := 42) (c := 47) g65050 ad42 (by decide) (by decide) rf42_7 ft12_7 ?_
      refine ev_iload_n rfl ?_
      refine ev_aload_n rfl ?_
      refine ev_iload_n rfl ?_
      refine ev_call (jcall_v (A := [(0, x1)]) (S' := [(0, x1), (2, 47)]) (r := 42) rfl (g65050.lt ad42) (g65050.tg ad42) (Nat.le_of_ble_eq_true rfl)) (jOk_le (by decide) (s255 g65050 (by omega) (by omega))) (by decide) (by decide) (fun w65053 h65053 q65053 => ?_)
      obtain ⟨v65054, rfl, lv65054, uv65054, g65053, kk65053⟩ := q65053
      have k65053 := k65050.tr kk65053 (by decide)
      show jEv _ _ _ _ _ _ _ (_, [(2, 42), (0, x1), (0, v65051), (0, 4)], [(1, v65054), (0, x1), (2, 47)], _, _, _)
      refine g_last g65053 ad47 rt47 (fun _ => rfl) (by omega) (by omega) (by omega) (by omega) (fun h65055 e65055 g65055 => ?_)
      have k65055 := k65053.wr e65055 rfl
      refine ev_iinc (w := (x1 + 1)) (L' := [(2, 42), (0, (x1 + 1)), (0, v65051), (0, 4)]) rfl (by unfold w32; omega) rfl ?_
      refine ev_goto f256_57 ?_
      exact ih _ _ _ _ _ _ _ g65055 k65055 (by omega) (by omega) (((jw_ne e65055 (Or.inl (by decide))).trans ((kk65053.v (by decide)).trans ((jw_ne e65050 (Or.inl (by decide))).trans ((jw_ne e65045 (Or.inl (by decide))).trans ((jw_ne e65040 (Or.inl (by decide))).trans ((jw_ne e65035 (Or.inl (by decide))).trans ey0))))))) (by omega) (by omega) (((jw_ne e65055 (Or.inl (by decide))).trans ((kk65053.v (by decide)).trans ((jw_ne e65050 (Or.inl (by decide))).trans ((jw_ne e65045 (Or.inl (by decide))).trans ((jw_ne e65040 (Or.inl (by decide))).trans ((jw_ne e65035 (Or.inl (by decide))).trans ey1))))))) (by omega) (by omega) (((jw_ne e65055 (Or.inl (by decide))).trans ((kk65053.v (by decide)).trans ((jw_ne e65050 (Or.inl (by decide))).trans ((jw_ne e65045 (Or.inl (by decide))).trans ((jw_ne e65040 (Or.inl (by decide))).trans ((jw_ne e65035 (Or.inl (by decide))).trans ey2))))))) (by omega) (by omega) (by omega)
set_option maxHeartbeats 4000000 in
theorem s256z_4 {G : GH} {h : JH} (g : Gd G h) (ew0 : h.2.2 42 1 = 4) : jOk 4 0 0 256 [(2, 42)] h (fun v h' => ∃ r F : Int, v = some (0, r) ∧ 0 ≤ r ∧ r ≤ 1 ∧ Gd G h' ∧ Kp [(46, 0), (47, 0), (42, 6), (42, 9)] h h' ∧ h'.2.2 42 8 = F ∧ ((-F) + 5 * r) ≤ 4 ∧ (F + (-1000000000001) * r) ≤ (-1)) := by
  refine ⟨by decide, by rw [ml256]; exact Nat.le_of_ble_eq_true rfl, ?_⟩
  rw [ml256, pp256]
  show jEv _ none _ c256_0 0 0 _ (c256_0, [(2, 42), (9, 0), (9, 0), (9, 0)], [], h, 0, 0)
  have k0 := Kp.rf [(46, 0), (47, 0), (42, 6), (42, 9)] h
  refine ev_aload_n rfl ?_
  refine ev_aload_n rfl ?_
  refine ev_call (jcall_v (A := []) (S' := [(2, 42)]) (r := 42) rfl (g.lt ad42) (g.tg ad42) (Nat.le_of_ble_eq_true rfl)) (jOk_le (by decide) (s253z g )) (by decide) (by decide) (fun w65056 h65056 q65056 => ?_)
  obtain ⟨q65056, nz65056⟩ := q65056
  obtain ⟨v65057, rfl, lv65057, uv65057, g65056, kk65056⟩ := q65056
  have nz65056 := nz65056 _ rfl
  have k65056 := k0.tr kk65056 (by decide)
  show jEv _ _ _ _ _ _ _ (_, [(2, 42), (9, 0), (9, 0), (9, 0)], [(1, v65057), (2, 42)], _, _, _)
  refine g_putf (r := 42) g65056 ad42 (by decide) ft12_8 (by decide) (fun e => absurd e nz12_8) rf42_8 (by decide) (by omega) (by omega) (fun h65058 e65058 g65058 => ?_)
  have k65058 := k65056.wr e65058 rfl
  refine ev_aload_n rfl ?_
  refine g_getv (r := 42) (v := v65057) g65058 ad42 (by decide) ft12_8 ((jw_eq e65058)) ?_
  refine ev_lconst ?_
  refine ev_lcmp ?_
  refine ev_ifge f256_19 (fun c65059 => ?_) (fun c65059 => ?_)
  · have c65059b := jcmpL_ge c65059
    refine ev_aload_n rfl ?_
    refine ev_iconst ?_
    refine g_putf (r := 42) g65058 ad42 (by decide) ft12_5 (by decide) (fun e => absurd e nz12_5) rf42_5 (by decide) (by omega) (by omega) (fun h65060 e65060 g65060 => ?_)
    have k65060 := k65058.wr e65060 rfl
    refine ev_iconst ?_
    refine ev_istore_n (L' := [(2, 42), (0, 0), (9, 0), (9, 0)]) (Nat.le_of_ble_eq_true rfl) rfl ?_
    refine ev_iload_n rfl ?_
    refine ev_aload_n rfl ?_
    refine g_getv (r := 42) (v := 4) g65060 ad42 (by decide) ft12_1 (((jw_ne e65060 (Or.inr (by decide))).trans ((jw_ne e65058 (Or.inr (by decide))).trans ((kk65056.v (by decide)).trans ew0)))) ?_
    refine ev_icmpge f256_55 (fun c65061 => absurd c65061 (by omega)) (fun c65061 => ?_)
    refine ev_aload_n rfl ?_
    refine ev_dup (by decide) ?_
    refine g_getv (r := 42) (v := 1) g65060 ad42 (by decide) ft12_5 ((jw_eq e65060)) ?_
    refine ev_aload_n rfl ?_
    refine g_getp (r := 42) (c := 43) g65060 ad42 (by decide) (by decide) rf42_2 ft12_2 ?_
    refine ev_iload_n rfl ?_
    refine g_iald g65060 ad43 rt43 (by omega) (by omega) (fun v65062 ev65062 lv65062 uv65062 => ?_)
    have xv65062 := (g65060.ex.2.1 (0 : Int).toNat (by rw [(((jw_ne e65060 (Or.inr (by decide))).trans ((jw_ne e65058 (Or.inr (by decide))).trans ((kk65056.v (by decide)).trans ew0))))]; omega))
    rw [ev65062] at xv65062
    refine ev_imul (r := v65062) (by unfold w32; omega) ?_
    refine g_putf (r := 42) g65060 ad42 (by decide) ft12_5 (by decide) (fun e => absurd e nz12_5) rf42_5 (by decide) (by omega) (by omega) (fun h65063 e65063 g65063 => ?_)
    have k65063 := k65060.wr e65063 rfl
    refine ev_iinc (w := 1) (L' := [(2, 42), (0, 1), (9, 0), (9, 0)]) rfl (by decide) rfl ?_
    refine ev_goto f256_26 ?_
    refine ev_iload_n rfl ?_
    refine ev_aload_n rfl ?_
    refine g_getv (r := 42) (v := 4) g65063 ad42 (by decide) ft12_1 (((jw_ne e65063 (Or.inr (by decide))).trans ((jw_ne e65060 (Or.inr (by decide))).trans ((jw_ne e65058 (Or.inr (by decide))).trans ((kk65056.v (by decide)).trans ew0))))) ?_
    refine ev_icmpge f256_55 (fun c65064 => absurd c65064 (by omega)) (fun c65064 => ?_)
    refine ev_aload_n rfl ?_
    refine ev_dup (by decide) ?_
    refine g_getv (r := 42) (v := v65062) g65063 ad42 (by decide) ft12_5 ((jw_eq e65063)) ?_
    refine ev_aload_n rfl ?_
    refine g_getp (r := 42) (c := 43) g65063 ad42 (by decide) (by decide) rf42_2 ft12_2 ?_
    refine ev_iload_n rfl ?_
    refine g_iald g65063 ad43 rt43 (by omega) (by omega) (fun v65065 ev65065 lv65065 uv65065 => ?_)
    have xv65065 := (g65063.ex.2.1 (1 : Int).toNat (by rw [(((jw_ne e65063 (Or.inr (by decide))).trans ((jw_ne e65060 (Or.inr (by decide))).trans ((jw_ne e65058 (Or.inr (by decide))).trans ((kk65056.v (by decide)).trans ew0)))))]; omega))
    rw [ev65065] at xv65065
    refine g_imulB (a := 3) (b := 3) (a' := 2) (b' := 2) (by omega) (by omega) (by omega) (by omega) (by decide) (lo := 4) (hi := 9) (by decide) (by decide) (fun v65066 ev65066 lv65066 uv65066 => ?_)
    refine g_putf (r := 42) g65063 ad42 (by decide) ft12_5 (by decide) (fun e => absurd e nz12_5) rf42_5 (by decide) (by omega) (by omega) (fun h65067 e65067 g65067 => ?_)
    have k65067 := k65063.wr e65067 rfl
    refine ev_iinc (w := 2) (L' := [(2, 42), (0, 2), (9, 0), (9, 0)]) rfl (by decide) rfl ?_
    refine ev_goto f256_26 ?_
    refine ev_iload_n rfl ?_
    refine ev_aload_n rfl ?_
    refine g_getv (r := 42) (v := 4) g65067 ad42 (by decide) ft12_1 (((jw_ne e65067 (Or.inr (by decide))).trans ((jw_ne e65063 (Or.inr (by decide))).trans ((jw_ne e65060 (Or.inr (by decide))).trans ((jw_ne e65058 (Or.inr (by decide))).trans ((kk65056.v (by decide)).trans ew0)))))) ?_
    refine ev_icmpge f256_55 (fun c65068 => absurd c65068 (by omega)) (fun c65068 => ?_)
    refine ev_aload_n rfl ?_
    refine ev_dup (by decide) ?_
    refine g_getv (r := 42) (v := v65066) g65067 ad42 (by decide) ft12_5 ((jw_eq e65067)) ?_
    refine ev_aload_n rfl ?_
    refine g_getp (r := 42) (c := 43) g65067 ad42 (by decide) (by decide) rf42_2 ft12_2 ?_
    refine ev_iload_n rfl ?_
    refine g_iald g65067 ad43 rt43 (by omega) (by omega) (fun v65069 ev65069 lv65069 uv65069 => ?_)
    have xv65069 := (g65067.ex.2.1 (2 : Int).toNat (by rw [(((jw_ne e65067 (Or.inr (by decide))).trans ((jw_ne e65063 (Or.inr (by decide))).trans ((jw_ne e65060 (Or.inr (by decide))).trans ((jw_ne e65058 (Or.inr (by decide))).trans ((kk65056.v (by decide)).trans ew0))))))]; omega))
    rw [ev65069] at xv65069
    refine g_imulB (a := 9) (b := 3) (a' := 4) (b' := 2) (by omega) (by omega) (by omega) (by omega) (by decide) (lo := 8) (hi := 27) (by decide) (by decide) (fun v65070 ev65070 lv65070 uv65070 => ?_)
    refine g_putf (r := 42) g65067 ad42 (by decide) ft12_5 (by decide) (fun e => absurd e nz12_5) rf42_5 (by decide) (by omega) (by omega) (fun h65071 e65071 g65071 => ?_)
    have k65071 := k65067.wr e65071 rfl
    refine ev_iinc (w := 3) (L' := [(2, 42), (0, 3), (9, 0), (9, 0)]) rfl (by decide) rfl ?_
    refine ev_goto f256_26 ?_
    refine ev_iload_n rfl ?_
    refine ev_aload_n rfl ?_
    refine g_getv (r := 42) (v := 4) g65071 ad42 (by decide) ft12_1 (((jw_ne e65071 (Or.inr (by decide))).trans ((jw_ne e65067 (Or.inr (by decide))).trans ((jw_ne e65063 (Or.inr (by decide))).trans ((jw_ne e65060 (Or.inr (by decide))).trans ((jw_ne e65058 (Or.inr (by decide))).trans ((kk65056.v (by decide)).trans ew0))))))) ?_
    refine ev_icmpge f256_55 (fun c65072 => absurd c65072 (by omega)) (fun c65072 => ?_)
    refine ev_aload_n rfl ?_
    refine ev_dup (by decide) ?_
    refine g_getv (r := 42) (v := v65070) g65071 ad42 (by decide) ft12_5 ((jw_eq e65071)) ?_
    refine ev_aload_n rfl ?_
    refine g_getp (r := 42) (c := 43) g65071 ad42 (by decide) (by decide) rf42_2 ft12_2 ?_
    refine ev_iload_n rfl ?_
    refine g_iald g65071 ad43 rt43 (by omega) (by omega) (fun v65073 ev65073 lv65073 uv65073 => ?_)
    have xv65073 := (g65071.ex.2.1 (3 : Int).toNat (by rw [(((jw_ne e65071 (Or.inr (by decide))).trans ((jw_ne e65067 (Or.inr (by decide))).trans ((jw_ne e65063 (Or.inr (by decide))).trans ((jw_ne e65060 (Or.inr (by decide))).trans ((jw_ne e65058 (Or.inr (by decide))).trans ((kk65056.v (by decide)).trans ew0)))))))]; omega))
    rw [ev65073] at xv65073
    refine g_imulB (a := 27) (b := 3) (a' := 8) (b' := 2) (by omega) (by omega) (by omega) (by omega) (by decide) (lo := 16) (hi := 81) (by decide) (by decide) (fun v65074 ev65074 lv65074 uv65074 => ?_)
    refine g_putf (r := 42) g65071 ad42 (by decide) ft12_5 (by decide) (fun e => absurd e nz12_5) rf42_5 (by decide) (by omega) (by omega) (fun h65075 e65075 g65075 => ?_)
    have k65075 := k65071.wr e65075 rfl
    refine ev_iinc (w := 4) (L' := [(2, 42), (0, 4), (9, 0), (9, 0)]) rfl (by decide) rfl ?_
    refine ev_goto f256_26 ?_
    refine ev_iload_n rfl ?_
    refine ev_aload_n rfl ?_
    refine g_getv (r := 42) (v := 4) g65075 ad42 (by decide) ft12_1 (((jw_ne e65075 (Or.inr (by decide))).trans ((jw_ne e65071 (Or.inr (by decide))).trans ((jw_ne e65067 (Or.inr (by decide))).trans ((jw_ne e65063 (Or.inr (by decide))).trans ((jw_ne e65060 (Or.inr (by decide))).trans ((jw_ne e65058 (Or.inr (by decide))).trans ((kk65056.v (by decide)).trans ew0)))))))) ?_
    refine ev_icmpge f256_55 (fun c65076 => ?_) (fun c65076 => absurd c65076 (by omega))
    refine ev_iconst ?_
    refine ev_istore_n (L' := [(2, 42), (0, 0), (9, 0), (9, 0)]) (Nat.le_of_ble_eq_true rfl) rfl ?_
    exact (s256z_4_l ew0 164) _ _ _ _ _ _ _ g65075 k65075 (by omega) (by omega) (((jw_ne e65075 (Or.inr (by decide))).trans ((jw_ne e65071 (Or.inr (by decide))).trans ((jw_ne e65067 (Or.inr (by decide))).trans ((jw_ne e65063 (Or.inr (by decide))).trans ((jw_ne e65060 (Or.inr (by decide))).trans ((jw_ne e65058 (Or.inr (by decide))).trans ((kk65056.v (by decide)).trans ew0)))))))) (by omega) (by omega) ((jw_eq e65075)) (by omega) (by omega) (((jw_ne e65075 (Or.inr (by decide))).trans ((jw_ne e65071 (Or.inr (by decide))).trans ((jw_ne e65067 (Or.inr (by decide))).trans ((jw_ne e65063 (Or.inr (by decide))).trans ((jw_ne e65060 (Or.inr (by decide))).trans (jw_eq e65058))))))) (by omega) (by omega) (by omega)
  · have c65059b := jcmpL_geN c65059
    refine ev_iconst ?_
    exact ev_ret rfl (by decide) (by decide) ⟨_, _, rfl, by omega, by omega, g65058, k65058, ((jw_eq e65058)), by omega, by omega⟩
theorem s256z {G : GH} {h : JH} (g : Gd G h) : jOk 4 0 0 256 [(2, 42)] h (fun v h' => ∃ r F : Int, v = some (0, r) ∧ 0 ≤ r ∧ r ≤ 1 ∧ Gd G h' ∧ Kp [(46, 0), (47, 0), (42, 6), (42, 9)] h h' ∧ h'.2.2 42 8 = F ∧ ((-F) + 5 * r) ≤ 4 ∧ (F + (-1000000000001) * r) ≤ (-1)) := by
  obtain ⟨w, e, l, u⟩ := g.rd ad42 (show 1 < 66 by decide) rf42_1
  rcases (show w = 0 ∨ w = 1 ∨ w = 2 ∨ w = 3 ∨ w = 4 by omega) with f | f | f | f | f <;> subst f
  · exact jOk_le (by decide) (s256z_0 g e)
  · exact jOk_le (by decide) (s256z_1 g e)
  · exact jOk_le (by decide) (s256z_2 g e)
  · exact jOk_le (by decide) (s256z_3 g e)
  · exact jOk_le (by decide) (s256z_4 g e)
set_option maxHeartbeats 4000000 in
theorem s329_l {G : GH} {h : JH} {a1 : Int} (la1 : (-2147483648) ≤ a1) (ua1 : a1 ≤ 2147483647) {a2 : Int} (la2 : (-2147483648) ≤ a2) (ua2 : a2 ≤ 2147483647) {a3 : Int} (la3 : (-2147483648) ≤ a3) (ua3 : a3 ≤ 2147483647) {a4 : Int} (la4 : (-2147483648) ≤ a4) (ua4 : a4 ≤ 2147483647) : ∀ N : Nat, (∀ (h1 : JH) (x5 x6 x8 x10 y0 y1 y2 : Int) (j11 : AV), Gd G h1 → Kp [(46, 0), (47, 0), (42, 6), (42, 9), (42, 37), (42, 38), (42, 39), (42, 40), (64, 0), (65, 0), (45, 0)] h h1 → 0 ≤ a1 → a1 ≤ 5 → 0 ≤ a2 → a2 ≤ 3 → 100 ≤ a3 → a3 ≤ 9999 → 0 ≤ a4 → a4 ≤ 1 → 1 ≤ x5 → x5 ≤ 99 → (-9223372036854775808) ≤ x6 → x6 ≤ 9223372036854775807 → (-400) ≤ x8 → x8 ≤ 100000000000000 → 1 ≤ x10 → x10 ≤ 100 → (a1 + (-y0)) ≤ (-1) → (a2 + (-y2)) ≤ (-1) → h1.2.2 42 9 = y0 → 0 ≤ y0 → y0 ≤ 6 → h1.2.2 48 (a1).toNat = y1 → 1 ≤ y1 → y1 ≤ 100 → h1.2.2 42 1 = y2 → 0 ≤ y2 → y2 ≤ 4 → ((-x10) + 100) < N → jEv (jOk 204) none (fun _ => 0) c329_0 0 0 (PI G [(46, 0), (47, 0), (42, 6), (42, 9), (42, 37), (42, 38), (42, 39), (42, 40), (64, 0), (65, 0), (45, 0)] h 1 (-9223372036854775808) 9223372036854775807) (c329_67, [(2, 42), (0, a1), (0, a2), (0, a3), (0, a4), (0, x5), (1, x6), (9, 0), (1, x8), (9, 0), (0, x10), j11, (9, 0)], [], h1, 0, 0)) := by
  intro N
  induction N with
  | zero => exact fun h1 x5 x6 x8 x10 y0 y1 y2 j11 g1 k1 b0 b1 b2 b3 b4 b5 b6 b7 b8 b9 b10 b11 b12 b13 b14 b15 b16 b17 b18 b19 b20 b21 b22 b23 b24 b25 b26 hm => absurd hm (by omega)
  | succ N ih =>
    show _
    intro h1 x5 x6 x8 x10 y0 y1 y2 j11 g1 k1 b0 b1 b2 b3 b4 b5 b6 b7 b8 b9 b10 b11 b12 b13 b14 b15 b16 b17 ey0 ly0 uy0 ey1 ly1 uy1 ey2 ly2 uy2 hm
    refine ev_iload rfl ?_
    refine ev_iload_n rfl ?_
    refine ev_bipush ?_
    refine g_iremP (c := 100) rfl (by decide) (by omega) (fun v65219 ev65219 lv65219 uv65219 wv65219 => ?_)
    refine ev_icmpgt f329_152 (fun c65220 => ?_) (fun c65220 => ?_)
    · refine ev_aload_n rfl ?_
      refine g_getp (r := 42) (c := 45) g1 ad42 (by decide) (by decide) rf42_4 ft12_4 ?_
      refine ev_bipush ?_
      refine ev_iload_n rfl ?_
      refine ev_imul (r := (9 * a2)) (by unfold w32; omega) ?_
      refine ev_iload rfl ?_
      refine ev_iastG (r := 45) (j := ((9 * a2)).toNat) (g1.lt ad45) (g1.tg ad45) (by omega) (by rw [g1.ln ad45]; omega) (fun h65221 e65221 => ?_)
      have g65221 := g1.s45 e65221 (by omega) (by omega)
      have k65221 := k1.wr e65221 rfl
      refine ev_lload rfl ?_
      refine ev_lload rfl ?_
      refine ev_iload rfl ?_
      refine ev_call (jcall_s (A := [(0, a4), (1, x8), (1, x6)]) (S' := []) (by decide) rfl (Nat.le_of_ble_eq_true rfl)) (jOk_le (by decide) (s244 g65221 (by omega) (by omega) (by omega) (by omega) (by omega) (by omega))) (by decide) (by decide) (fun w65222 h65222 q65222 => ?_)
      obtain ⟨v65223, rfl, lv65223, uv65223, g65222, kk65222⟩ := q65222
      have k65222 := k65221.tr kk65222 (by decide)
      show jEv _ _ _ _ _ _ _ (_, [(2, 42), (0, a1), (0, a2), (0, a3), (0, a4), (0, x5), (1, x6), (9, 0), (1, x8), (9, 0), (0, x10), j11, (9, 0)], [(1, v65223)], _, _, _)
      exact ev_ret rfl (by decide) (by decide) ⟨_, rfl, by omega, by omega, g65222, k65222⟩
    · refine ev_aload_n rfl ?_
      refine g_getp (r := 42) (c := 45) g1 ad42 (by decide) (by decide) rf42_4 ft12_4 ?_
      refine ev_bipush ?_
      refine ev_iload_n rfl ?_
      refine ev_imul (r := (9 * a2)) (by unfold w32; omega) ?_
      refine ev_iload rfl ?_
      refine ev_iastG (r := 45) (j := ((9 * a2)).toNat) (g1.lt ad45) (g1.tg ad45) (by omega) (by rw [g1.ln ad45]; omega) (fun h65224 e65224 => ?_)
      have g65224 := g1.s45 e65224 (by omega) (by omega)
      have k65224 := k1.wr e65224 rfl
      refine ev_aload_n rfl ?_
      refine ev_call (jcall_v (A := []) (S' := []) (r := 42) rfl (g65224.lt ad42) (g65224.tg ad42) (Nat.le_of_ble_eq_true rfl)) (jOk_le (by decide) (s256z g65224 )) (by decide) (by decide) (fun w65225 h65225 q65225 => ?_)
      obtain ⟨v65227, v65226, rfl, lv65227, uv65227, g65225, kk65225, ev65226, p65225_0, p65225_1⟩ := q65225
      have bv65226 := g65225.rg ad42 (i := 8) (by decide) rf42_8
      rw [ev65226] at bv65226
      have k65225 := k65224.tr kk65225 (by decide)
      show jEv _ _ _ _ _ _ _ (_, [(2, 42), (0, a1), (0, a2), (0, a3), (0, a4), (0, x5), (1, x6), (9, 0), (1, x8), (9, 0), (0, x10), j11, (9, 0)], [(0, v65227)], _, _, _)
      refine ev_pop (by decide) ?_
      refine ev_aload_n rfl ?_
      refine ev_iload_n rfl ?_
      refine ev_iconst ?_
      refine ev_iconst ?_
      refine ev_iconst ?_
      refine ev_call (jcall_v (A := [(0, 1), (0, 0), (0, 0), (0, a1)]) (S' := []) (r := 42) rfl (g65225.lt ad42) (g65225.tg ad42) (Nat.le_of_ble_eq_true rfl)) (jOk_le (by decide) (s298 g65225 (by omega) (by omega) (by omega) (by omega) (by omega) (by omega) (by omega) (by omega) (((kk65225.v (by decide)).trans ((jw_ne e65224 (Or.inl (by decide))).trans ey0))) (by omega) (by omega) (((kk65225.v rfl).trans ((jw_ne e65224 (Or.inl (by decide))).trans ey1))) (by omega) (by omega) (by omega))) (by decide) (by decide) (fun w65228 h65228 q65228 => ?_)
      obtain ⟨q65228, qn65228, bk65228⟩ := q65228
      obtain ⟨v65229, rfl, lv65229, uv65229, g65228, kk65228⟩ := q65228
      have k65228 := k65225.tr kk65228 (by decide)
      show jEv _ _ _ _ _ _ _ (_, [(2, 42), (0, a1), (0, a2), (0, a3), (0, a4), (0, x5), (1, x6), (9, 0), (1, x8), (9, 0), (0, x10), j11, (9, 0)], [(1, v65229)], _, _, _)
      refine ev_lstore (L' := [(2, 42), (0, a1), (0, a2), (0, a3), (0, a4), (0, x5), (1, x6), (9, 0), (1, x8), (9, 0), (0, x10), (1, v65229), (9, 0)]) (Nat.le_of_ble_eq_true rfl) rfl ?_
      refine ev_lload rfl ?_
      refine ev_lconst ?_
      refine ev_lcmp ?_
      refine ev_ifeq f329_132 (fun c65230 => ?_) (fun c65230 => ?_)
      · have c65230b := jcmpL_eq c65230
        refine ev_lload rfl ?_
        refine ev_lstore (L' := [(2, 42), (0, a1), (0, a2), (0, a3), (0, a4), (0, x5), (1, v65229), (9, 0), (1, x8), (9, 0), (0, x10), (1, v65229), (9, 0)]) (Nat.le_of_ble_eq_true rfl) rfl ?_
        refine ev_ldc2_w ?_
        refine ev_aload_n rfl ?_
        refine g_getv (r := 42) (v := v65226) g65228 ad42 (by decide) ft12_8 (((kk65228.v (by decide)).trans ev65226)) ?_
        refine ev_lmul (r := (100 * v65226)) (by unfold w64; omega) ?_
        refine ev_lstore (L' := [(2, 42), (0, a1), (0, a2), (0, a3), (0, a4), (0, x5), (1, v65229), (9, 0), (1, (100 * v65226)), (9, 0), (0, x10), (1, v65229), (9, 0)]) (Nat.le_of_ble_eq_true rfl) rfl ?_
        refine ev_iinc (w := (x10 + 1)) (L' := [(2, 42), (0, a1), (0, a2), (0, a3), (0, a4), (0, x5), (1, v65229), (9, 0), (1, (100 * v65226)), (9, 0), (0, (x10 + 1)), (1, v65229), (9, 0)]) rfl (by unfold w32; omega) rfl ?_
        refine ev_goto f329_67 ?_
        exact ih _ _ _ _ _ _ _ _ _ g65228 k65228 (by omega) (by omega) (by omega) (by omega) (by omega) (by omega) (by omega) (by omega) (by omega) (by omega) (by omega) (by omega) (by omega) (by omega) (by omega) (by omega) (by omega) (by omega) (((kk65228.v (by decide)).trans ((kk65225.v (by decide)).trans ((jw_ne e65224 (Or.inl (by decide))).trans ey0)))) (by omega) (by omega) (((kk65228.v rfl).trans ((kk65225.v rfl).trans ((jw_ne e65224 (Or.inl (by decide))).trans ey1)))) (by omega) (by omega) (((kk65228.v (by decide)).trans ((kk65225.v (by decide)).trans ((jw_ne e65224 (Or.inl (by decide))).trans ey2)))) (by omega) (by omega) (by omega)
      · have c65230b := jcmpL_eqN c65230
        refine ev_lload rfl ?_
        refine ev_ldc2_w ?_
        refine ev_aload_n rfl ?_
        refine g_getv (r := 42) (v := v65226) g65228 ad42 (by decide) ft12_8 (((kk65228.v (by decide)).trans ev65226)) ?_
        refine ev_lmul (r := (100 * v65226)) (by unfold w64; omega) ?_
        refine ev_lload rfl ?_
        refine ev_lload rfl ?_
        refine ev_call (jcall_s (A := [(1, x8), (1, x6), (1, (100 * v65226)), (1, v65229)]) (S' := []) (by decide) rfl (Nat.le_of_ble_eq_true rfl)) (jOk_le (by decide) (s328 g65228 (by omega) (by omega) (by omega) (by omega) (by omega) (by omega) (by omega) (by omega) (by omega) (by omega))) (by decide) (by decide) (fun w65231 h65231 q65231 => ?_)
        obtain ⟨v65232, rfl, lv65232, uv65232, g65231, kk65231⟩ := q65231
        have k65231 := k65228.tr kk65231 (by decide)
        show jEv _ _ _ _ _ _ _ (_, [(2, 42), (0, a1), (0, a2), (0, a3), (0, a4), (0, x5), (1, x6), (9, 0), (1, x8), (9, 0), (0, x10), (1, v65229), (9, 0)], [(0, v65232)], _, _, _)
        refine ev_ifne f329_132 (fun c65233 => ?_) (fun c65233 => ?_)
        · refine ev_lload rfl ?_
          refine ev_lstore (L' := [(2, 42), (0, a1), (0, a2), (0, a3), (0, a4), (0, x5), (1, v65229), (9, 0), (1, x8), (9, 0), (0, x10), (1, v65229), (9, 0)]) (Nat.le_of_ble_eq_true rfl) rfl ?_
          refine ev_ldc2_w ?_
          refine ev_aload_n rfl ?_
          refine g_getv (r := 42) (v := v65226) g65231 ad42 (by decide) ft12_8 (((kk65231.v (by decide)).trans ((kk65228.v (by decide)).trans ev65226))) ?_
          refine ev_lmul (r := (100 * v65226)) (by unfold w64; omega) ?_
          refine ev_lstore (L' := [(2, 42), (0, a1), (0, a2), (0, a3), (0, a4), (0, x5), (1, v65229), (9, 0), (1, (100 * v65226)), (9, 0), (0, x10), (1, v65229), (9, 0)]) (Nat.le_of_ble_eq_true rfl) rfl ?_
          refine ev_iinc (w := (x10 + 1)) (L' := [(2, 42), (0, a1), (0, a2), (0, a3), (0, a4), (0, x5), (1, v65229), (9, 0), (1, (100 * v65226)), (9, 0), (0, (x10 + 1)), (1, v65229), (9, 0)]) rfl (by unfold w32; omega) rfl ?_
          refine ev_goto f329_67 ?_
          exact ih _ _ _ _ _ _ _ _ _ g65231 k65231 (by omega) (by omega) (by omega) (by omega) (by omega) (by omega) (by omega) (by omega) (by omega) (by omega) (by omega) (by omega) (by omega) (by omega) (by omega) (by omega) (by omega) (by omega) (((kk65231.v (by decide)).trans ((kk65228.v (by decide)).trans ((kk65225.v (by decide)).trans ((jw_ne e65224 (Or.inl (by decide))).trans ey0))))) (by omega) (by omega) (((kk65231.v rfl).trans ((kk65228.v rfl).trans ((kk65225.v rfl).trans ((jw_ne e65224 (Or.inl (by decide))).trans ey1))))) (by omega) (by omega) (((kk65231.v (by decide)).trans ((kk65228.v (by decide)).trans ((kk65225.v (by decide)).trans ((jw_ne e65224 (Or.inl (by decide))).trans ey2))))) (by omega) (by omega) (by omega)
        · refine ev_goto f329_146 ?_
          refine ev_iinc (w := (x10 + 1)) (L' := [(2, 42), (0, a1), (0, a2), (0, a3), (0, a4), (0, x5), (1, x6), (9, 0), (1, x8), (9, 0), (0, (x10 + 1)), (1, v65229), (9, 0)]) rfl (by unfold w32; omega) rfl ?_
          refine ev_goto f329_67 ?_
          exact ih _ _ _ _ _ _ _ _ _ g65231 k65231 (by omega) (by omega) (by omega) (by omega) (by omega) (by omega) (by omega) (by omega) (by omega) (by omega) (by omega) (by omega) (by omega) (by omega) (by omega) (by omega) (by omega) (by omega) (((kk65231.v (by decide)).trans ((kk65228.v (by decide)).trans ((kk65225.v (by decide)).trans ((jw_ne e65224 (Or.inl (by decide))).trans ey0))))) (by omega) (by omega) (((kk65231.v rfl).trans ((kk65228.v rfl).trans ((kk65225.v rfl).trans ((jw_ne e65224 (Or.inl (by decide))).trans ey1))))) (by omega) (by omega) (((kk65231.v (by decide)).trans ((kk65228.v (by decide)).trans ((kk65225.v (by decide)).trans ((jw_ne e65224 (Or.inl (by decide))).trans ey2))))) (by omega) (by omega) (by omega)
set_option maxHeartbeats 4000000 in
theorem s329 {G : GH} {h : JH} (g : Gd G h) {a1 : Int} (la1 : (-2147483648) ≤ a1) (ua1 : a1 ≤ 2147483647) {a2 : Int} (la2 : (-2147483648) ≤ a2) (ua2 : a2 ≤ 2147483647) {a3 : Int} (la3 : (-2147483648) ≤ a3) (ua3 : a3 ≤ 2147483647) {a4 : Int} (la4 : (-2147483648) ≤ a4) (ua4 : a4 ≤ 2147483647) : jOk 205 0 0 329 [(2, 42), (0, a1), (0, a2), (0, a3), (0, a4)] h (PI G [(46, 0), (47, 0), (42, 6), (42, 9), (42, 37), (42, 38), (42, 39), (42, 40), (64, 0), (65, 0), (45, 0)] h 1 (-9223372036854775808) 9223372036854775807) := by
  refine ⟨by decide, by rw [ml329]; exact Nat.le_of_ble_eq_true rfl, ?_⟩
  rw [ml329, pp329]
  show jEv _ none _ c329_0 0 0 _ (c329_0, [(2, 42), (0, a1), (0, a2), (0, a3), (0, a4), (9, 0), (9, 0), (9, 0), (9, 0), (9, 0), (9, 0), (9, 0), (9, 0)], [], h, 0, 0)
  have k0 := Kp.rf [(46, 0), (47, 0), (42, 6), (42, 9), (42, 37), (42, 38), (42, 39), (42, 40), (64, 0), (65, 0), (45, 0)] h
  refine ev_aload_n rfl ?_
  refine ev_iload_n rfl ?_
  refine ev_iload_n rfl ?_
  refine ev_iload_n rfl ?_
  refine ev_in (d := 203) (a := 0) (b := 0) (cd' := c322_0) (m := 4) (L0 := [(2, 42), (0, a1), (0, a2), (0, a3)]) (jcall_v (A := [(0, a3), (0, a2), (0, a1)]) (S' := []) (r := 42) rfl (g.lt ad42) (g.tg ad42) (Nat.le_of_ble_eq_true rfl)) (by decide) ml322 pp322 (Nat.le_of_ble_eq_true rfl) rfl (by decide) (by decide) ?_
  refine ev_aload_n rfl ?_
  refine ev_iload_n rfl ?_
  refine ev_in (d := 202) (a := 0) (b := 0) (cd' := c261_0) (m := 2) (L0 := [(2, 42), (0, a1)]) (jcall_v (A := [(0, a1)]) (S' := []) (r := 42) rfl (g.lt ad42) (g.tg ad42) (Nat.le_of_ble_eq_true rfl)) (by decide) ml261 pp261 (Nat.le_of_ble_eq_true rfl) rfl (by decide) (by decide) ?_
  refine ev_iload_n rfl ?_
  refine ev_iconst ?_
  refine ev_aload_n rfl ?_
  obtain ⟨v65234, ev65234, lv65234, uv65234⟩ := g.rd ad42 (show 9 < 66 by decide) rf42_9
  refine g_getv (r := 42) (v := v65234) g ad42 (by decide) ft12_9 ev65234 ?_
  refine ev_iconst ?_
  refine ev_isub (r := (v65234 - 1)) (by unfold w32; omega) ?_
  refine ev_in (d := 201) (a := 0) (b := 0) (cd' := c242_0) (m := 3) (L0 := [(0, a1), (0, 0), (0, (v65234 - 1))]) (jcall_s (A := [(0, (v65234 - 1)), (0, 0), (0, a1)]) (S' := []) (by decide) rfl (Nat.le_of_ble_eq_true rfl)) (by decide) ml242 pp242 (Nat.le_of_ble_eq_true rfl) rfl (by decide) (by decide) ?_
  refine ev_iload_n rfl ?_
  refine ev_iload_n rfl ?_
  refine ev_icmplt f242_14 (fun c65235 => ?_) (fun c65235 => ?_)
  · refine ev_iconst ?_
    refine ev_ret rfl (by decide) (by decide) ?_
    show jEv _ _ _ _ _ _ _ (_, [(2, 42), (0, a1)], [(0, 0)], _, _, _)
    refine ev_ret rfl (by decide) (by decide) ?_
    show jEv _ _ _ _ _ _ _ (_, [(2, 42), (0, a1), (0, a2), (0, a3)], [(0, 0)], _, _, _)
    refine ev_ifeq f322_62 (fun c65236 => ?_) (fun c65236 => absurd c65236 (by omega))
    refine ev_iconst ?_
    refine ev_ret rfl (by decide) (by decide) ?_
    show jEv _ _ _ _ _ _ _ (_, [(2, 42), (0, a1), (0, a2), (0, a3), (0, a4), (9, 0), (9, 0), (9, 0), (9, 0), (9, 0), (9, 0), (9, 0), (9, 0)], [(0, 0)], _, _, _)
    refine ev_ifeq f329_20 (fun c65237 => ?_) (fun c65237 => absurd c65237 (by omega))
    refine ev_ldc2_w ?_
    exact ev_ret rfl (by decide) (by decide) ⟨_, rfl, by omega, by omega, g, k0⟩
  · refine ev_iload_n rfl ?_
    refine ev_iload_n rfl ?_
    refine ev_icmpgt f242_14 (fun c65238 => ?_) (fun c65238 => ?_)
    · refine ev_iconst ?_
      refine ev_ret rfl (by decide) (by decide) ?_
      show jEv _ _ _ _ _ _ _ (_, [(2, 42), (0, a1)], [(0, 0)], _, _, _)
      refine ev_ret rfl (by decide) (by decide) ?_
      show jEv _ _ _ _ _ _ _ (_, [(2, 42), (0, a1), (0, a2), (0, a3)], [(0, 0)], _, _, _)
      refine ev_ifeq f322_62 (fun c65239 => ?_) (fun c65239 => absurd c65239 (by omega))
      refine ev_iconst ?_
      refine ev_ret rfl (by decide) (by decide) ?_
      show jEv _ _ _ _ _ _ _ (_, [(2, 42), (0, a1), (0, a2), (0, a3), (0, a4), (9, 0), (9, 0), (9, 0), (9, 0), (9, 0), (9, 0), (9, 0), (9, 0)], [(0, 0)], _, _, _)
      refine ev_ifeq f329_20 (fun c65240 => ?_) (fun c65240 => absurd c65240 (by omega))
      refine ev_ldc2_w ?_
      exact ev_ret rfl (by decide) (by decide) ⟨_, rfl, by omega, by omega, g, k0⟩
    · refine ev_iconst ?_
      refine ev_goto f242_15 ?_
      refine ev_ret rfl (by decide) (by decide) ?_
      show jEv _ _ _ _ _ _ _ (_, [(2, 42), (0, a1)], [(0, 1)], _, _, _)
      refine ev_ret rfl (by decide) (by decide) ?_
      show jEv _ _ _ _ _ _ _ (_, [(2, 42), (0, a1), (0, a2), (0, a3)], [(0, 1)], _, _, _)
      refine ev_ifeq f322_62 (fun c65241 => absurd c65241 (by omega)) (fun c65241 => ?_)
      refine ev_aload_n rfl ?_
      refine ev_iload_n rfl ?_
      refine ev_in (d := 202) (a := 0) (b := 0) (cd' := c245_0) (m := 2) (L0 := [(2, 42), (0, a2)]) (jcall_v (A := [(0, a2)]) (S' := []) (r := 42) rfl (g.lt ad42) (g.tg ad42) (Nat.le_of_ble_eq_true rfl)) (by decide) ml245 pp245 (Nat.le_of_ble_eq_true rfl) rfl (by decide) (by decide) ?_
      refine ev_iload_n rfl ?_
      refine ev_iconst ?_
      refine ev_aload_n rfl ?_
      obtain ⟨v65242, ev65242, lv65242, uv65242⟩ := g.rd ad42 (show 1 < 66 by decide) rf42_1
      refine g_getv (r := 42) (v := v65242) g ad42 (by decide) ft12_1 ev65242 ?_
      refine ev_iconst ?_
      refine ev_isub (r := (v65242 - 1)) (by unfold w32; omega) ?_
      refine ev_in (d := 201) (a := 0) (b := 0) (cd' := c242_0) (m := 3) (L0 := [(0, a2), (0, 0), (0, (v65242 - 1))]) (jcall_s (A := [(0, (v65242 - 1)), (0, 0), (0, a2)]) (S' := []) (by decide) rfl (Nat.le_of_ble_eq_true rfl)) (by decide) ml242 pp242 (Nat.le_of_ble_eq_true rfl) rfl (by decide) (by decide) ?_
      refine ev_iload_n rfl ?_
      refine ev_iload_n rfl ?_
      refine ev_icmplt f242_14 (fun c65243 => ?_) (fun c65243 => ?_)
      · refine ev_iconst ?_
        refine ev_ret rfl (by decide) (by decide) ?_
        show jEv _ _ _ _ _ _ _ (_, [(2, 42), (0, a2)], [(0, 0)], _, _, _)
        refine ev_ret rfl (by decide) (by decide) ?_
        show jEv _ _ _ _ _ _ _ (_, [(2, 42), (0, a1), (0, a2), (0, a3)], [(0, 0)], _, _, _)
        refine ev_ifeq f322_62 (fun c65244 => ?_) (fun c65244 => absurd c65244 (by omega))
        refine ev_iconst ?_
        refine ev_ret rfl (by decide) (by decide) ?_
        show jEv _ _ _ _ _ _ _ (_, [(2, 42), (0, a1), (0, a2), (0, a3), (0, a4), (9, 0), (9, 0), (9, 0), (9, 0), (9, 0), (9, 0), (9, 0), (9, 0)], [(0, 0)], _, _, _)
        refine ev_ifeq f329_20 (fun c65245 => ?_) (fun c65245 => absurd c65245 (by omega))
        refine ev_ldc2_w ?_
        exact ev_ret rfl (by decide) (by decide) ⟨_, rfl, by omega, by omega, g, k0⟩
      · refine ev_iload_n rfl ?_
        refine ev_iload_n rfl ?_
        refine ev_icmpgt f242_14 (fun c65246 => ?_) (fun c65246 => ?_)
        · refine ev_iconst ?_
          refine ev_ret rfl (by decide) (by decide) ?_
          show jEv _ _ _ _ _ _ _ (_, [(2, 42), (0, a2)], [(0, 0)], _, _, _)
          refine ev_ret rfl (by decide) (by decide) ?_
          show jEv _ _ _ _ _ _ _ (_, [(2, 42), (0, a1), (0, a2), (0, a3)], [(0, 0)], _, _, _)
          refine ev_ifeq f322_62 (fun c65247 => ?_) (fun c65247 => absurd c65247 (by omega))
          refine ev_iconst ?_
          refine ev_ret rfl (by decide) (by decide) ?_
          show jEv _ _ _ _ _ _ _ (_, [(2, 42), (0, a1), (0, a2), (0, a3), (0, a4), (9, 0), (9, 0), (9, 0), (9, 0), (9, 0), (9, 0), (9, 0), (9, 0)], [(0, 0)], _, _, _)
          refine ev_ifeq f329_20 (fun c65248 => ?_) (fun c65248 => absurd c65248 (by omega))
          refine ev_ldc2_w ?_
          exact ev_ret rfl (by decide) (by decide) ⟨_, rfl, by omega, by omega, g, k0⟩
        · refine ev_iconst ?_
          refine ev_goto f242_15 ?_
          refine ev_ret rfl (by decide) (by decide) ?_
          show jEv _ _ _ _ _ _ _ (_, [(2, 42), (0, a2)], [(0, 1)], _, _, _)
          refine ev_ret rfl (by decide) (by decide) ?_
          show jEv _ _ _ _ _ _ _ (_, [(2, 42), (0, a1), (0, a2), (0, a3)], [(0, 1)], _, _, _)
          refine ev_ifeq f322_62 (fun c65249 => absurd c65249 (by omega)) (fun c65249 => ?_)
          refine ev_aload_n rfl ?_
          refine g_getp (r := 42) (c := 44) g ad42 (by decide) (by decide) rf42_3 ft12_3 ?_
          refine ev_iload_n rfl ?_
          refine g_iald g ad44 rt44 (by omega) (by omega) (fun v65250 ev65250 lv65250 uv65250 => ?_)
          refine ev_ifge f322_62 (fun c65251 => ?_) (fun c65251 => ?_)
          · refine ev_iconst ?_
            refine ev_ret rfl (by decide) (by decide) ?_
            show jEv _ _ _ _ _ _ _ (_, [(2, 42), (0, a1), (0, a2), (0, a3), (0, a4), (9, 0), (9, 0), (9, 0), (9, 0), (9, 0), (9, 0), (9, 0), (9, 0)], [(0, 0)], _, _, _)
            refine ev_ifeq f329_20 (fun c65252 => ?_) (fun c65252 => absurd c65252 (by omega))
            refine ev_ldc2_w ?_
            exact ev_ret rfl (by decide) (by decide) ⟨_, rfl, by omega, by omega, g, k0⟩
          · refine ev_iload_n rfl ?_
            refine ev_iflt f322_62 (fun c65253 => ?_) (fun c65253 => ?_)
            · refine ev_iconst ?_
              refine ev_ret rfl (by decide) (by decide) ?_
              show jEv _ _ _ _ _ _ _ (_, [(2, 42), (0, a1), (0, a2), (0, a3), (0, a4), (9, 0), (9, 0), (9, 0), (9, 0), (9, 0), (9, 0), (9, 0), (9, 0)], [(0, 0)], _, _, _)
              refine ev_ifeq f329_20 (fun c65254 => ?_) (fun c65254 => absurd c65254 (by omega))
              refine ev_ldc2_w ?_
              exact ev_ret rfl (by decide) (by decide) ⟨_, rfl, by omega, by omega, g, k0⟩
            · refine ev_iload_n rfl ?_
              refine ev_bipush ?_
              refine g_idivP (c := 100) rfl (by decide) (by omega) (by omega) (fun v65255 ev65255 lv65255 uv65255 => ?_)
              refine ev_iconst ?_
              refine ev_bipush ?_
              refine ev_in (d := 202) (a := 0) (b := 0) (cd' := c242_0) (m := 3) (L0 := [(0, v65255), (0, 1), (0, 99)]) (jcall_s (A := [(0, 99), (0, 1), (0, v65255)]) (S' := []) (by decide) rfl (Nat.le_of_ble_eq_true rfl)) (by decide) ml242 pp242 (Nat.le_of_ble_eq_true rfl) rfl (by decide) (by decide) ?_
              refine ev_iload_n rfl ?_
              refine ev_iload_n rfl ?_
              refine ev_icmplt f242_14 (fun c65256 => ?_) (fun c65256 => ?_)
              · refine ev_iconst ?_
                refine ev_ret rfl (by decide) (by decide) ?_
                show jEv _ _ _ _ _ _ _ (_, [(2, 42), (0, a1), (0, a2), (0, a3)], [(0, 0)], _, _, _)
                refine ev_ifeq f322_62 (fun c65257 => ?_) (fun c65257 => absurd c65257 (by omega))
                refine ev_iconst ?_
                refine ev_ret rfl (by decide) (by decide) ?_
                show jEv _ _ _ _ _ _ _ (_, [(2, 42), (0, a1), (0, a2), (0, a3), (0, a4), (9, 0), (9, 0), (9, 0), (9, 0), (9, 0), (9, 0), (9, 0), (9, 0)], [(0, 0)], _, _, _)
                refine ev_ifeq f329_20 (fun c65258 => ?_) (fun c65258 => absurd c65258 (by omega))
                refine ev_ldc2_w ?_
                exact ev_ret rfl (by decide) (by decide) ⟨_, rfl, by omega, by omega, g, k0⟩
              · refine ev_iload_n rfl ?_
                refine ev_iload_n rfl ?_
                refine ev_icmpgt f242_14 (fun c65259 => ?_) (fun c65259 => ?_)
                · refine ev_iconst ?_
                  refine ev_ret rfl (by decide) (by decide) ?_
                  show jEv _ _ _ _ _ _ _ (_, [(2, 42), (0, a1), (0, a2), (0, a3)], [(0, 0)], _, _, _)
                  refine ev_ifeq f322_62 (fun c65260 => ?_) (fun c65260 => absurd c65260 (by omega))
                  refine ev_iconst ?_
                  refine ev_ret rfl (by decide) (by decide) ?_
                  show jEv _ _ _ _ _ _ _ (_, [(2, 42), (0, a1), (0, a2), (0, a3), (0, a4), (9, 0), (9, 0), (9, 0), (9, 0), (9, 0), (9, 0), (9, 0), (9, 0)], [(0, 0)], _, _, _)
                  refine ev_ifeq f329_20 (fun c65261 => ?_) (fun c65261 => absurd c65261 (by omega))
                  refine ev_ldc2_w ?_
                  exact ev_ret rfl (by decide) (by decide) ⟨_, rfl, by omega, by omega, g, k0⟩
                · refine ev_iconst ?_
                  refine ev_goto f242_15 ?_
                  refine ev_ret rfl (by decide) (by decide) ?_
                  show jEv _ _ _ _ _ _ _ (_, [(2, 42), (0, a1), (0, a2), (0, a3)], [(0, 1)], _, _, _)
                  refine ev_ifeq f322_62 (fun c65262 => absurd c65262 (by omega)) (fun c65262 => ?_)
                  refine ev_iload_n rfl ?_
                  refine ev_bipush ?_
                  refine g_iremP (c := 100) rfl (by decide) (by omega) (fun v65263 ev65263 lv65263 uv65263 wv65263 => ?_)
                  refine ev_iload_n rfl ?_
                  refine ev_bipush ?_
                  refine g_idivP (c := 100) rfl (by decide) (by omega) (by omega) (fun v65264 ev65264 lv65264 uv65264 => ?_)
                  obtain rfl : v65255 = v65264 := by omega
                  refine ev_bipush ?_
                  refine ev_in (d := 202) (a := 0) (b := 0) (cd' := c242_0) (m := 3) (L0 := [(0, v65263), (0, v65255), (0, 99)]) (jcall_s (A := [(0, 99), (0, v65255), (0, v65263)]) (S' := []) (by decide) rfl (Nat.le_of_ble_eq_true rfl)) (by decide) ml242 pp242 (Nat.le_of_ble_eq_true rfl) rfl (by decide) (by decide) ?_
                  refine ev_iload_n rfl ?_
                  refine ev_iload_n rfl ?_
                  refine ev_icmplt f242_14 (fun c65265 => ?_) (fun c65265 => ?_)
                  · refine ev_iconst ?_
                    refine ev_ret rfl (by decide) (by decide) ?_
                    show jEv _ _ _ _ _ _ _ (_, [(2, 42), (0, a1), (0, a2), (0, a3)], [(0, 0)], _, _, _)
                    refine ev_ifeq f322_62 (fun c65266 => ?_) (fun c65266 => absurd c65266 (by omega))
                    refine ev_iconst ?_
                    refine ev_ret rfl (by decide) (by decide) ?_
                    show jEv _ _ _ _ _ _ _ (_, [(2, 42), (0, a1), (0, a2), (0, a3), (0, a4), (9, 0), (9, 0), (9, 0), (9, 0), (9, 0), (9, 0), (9, 0), (9, 0)], [(0, 0)], _, _, _)
                    refine ev_ifeq f329_20 (fun c65267 => ?_) (fun c65267 => absurd c65267 (by omega))
                    refine ev_ldc2_w ?_
                    exact ev_ret rfl (by decide) (by decide) ⟨_, rfl, by omega, by omega, g, k0⟩
                  · refine ev_iload_n rfl ?_
                    refine ev_iload_n rfl ?_
                    refine ev_icmpgt f242_14 (fun c65268 => absurd c65268 (by omega)) (fun c65268 => ?_)
                    refine ev_iconst ?_
                    refine ev_goto f242_15 ?_
                    refine ev_ret rfl (by decide) (by decide) ?_
                    show jEv _ _ _ _ _ _ _ (_, [(2, 42), (0, a1), (0, a2), (0, a3)], [(0, 1)], _, _, _)
                    refine ev_ifeq f322_62 (fun c65269 => absurd c65269 (by omega)) (fun c65269 => ?_)
                    refine ev_iconst ?_
                    refine ev_goto f322_63 ?_
                    refine ev_ret rfl (by decide) (by decide) ?_
                    show jEv _ _ _ _ _ _ _ (_, [(2, 42), (0, a1), (0, a2), (0, a3), (0, a4), (9, 0), (9, 0), (9, 0), (9, 0), (9, 0), (9, 0), (9, 0), (9, 0)], [(0, 1)], _, _, _)
                    refine ev_ifeq f329_20 (fun c65270 => absurd c65270 (by omega)) (fun c65270 => ?_)
                    refine ev_iload rfl ?_
                    refine ev_iconst ?_
                    refine ev_iconst ?_
                    refine ev_in (d := 203) (a := 0) (b := 0) (cd' := c242_0) (m := 3) (L0 := [(0, a4), (0, 0), (0, 1)]) (jcall_s (A := [(0, 1), (0, 0), (0, a4)]) (S' := []) (by decide) rfl (Nat.le_of_ble_eq_true rfl)) (by decide) ml242 pp242 (Nat.le_of_ble_eq_true rfl) rfl (by decide) (by decide) ?_
                    refine ev_iload_n rfl ?_
                    refine ev_iload_n rfl ?_
                    refine ev_icmplt f242_14 (fun c65271 => ?_) (fun c65271 => ?_)
                    · refine ev_iconst ?_
                      refine ev_ret rfl (by decide) (by decide) ?_
                      show jEv _ _ _ _ _ _ _ (_, [(2, 42), (0, a1), (0, a2), (0, a3), (0, a4), (9, 0), (9, 0), (9, 0), (9, 0), (9, 0), (9, 0), (9, 0), (9, 0)], [(0, 0)], _, _, _)
                      refine ev_ifne f329_24 (fun c65272 => absurd c65272 (by omega)) (fun c65272 => ?_)
                      refine ev_ldc2_w ?_
                      exact ev_ret rfl (by decide) (by decide) ⟨_, rfl, by omega, by omega, g, k0⟩
                    · refine ev_iload_n rfl ?_
                      refine ev_iload_n rfl ?_
                      refine ev_icmpgt f242_14 (fun c65273 => ?_) (fun c65273 => ?_)
                      · refine ev_iconst ?_
                        refine ev_ret rfl (by decide) (by decide) ?_
                        show jEv _ _ _ _ _ _ _ (_, [(2, 42), (0, a1), (0, a2), (0, a3), (0, a4), (9, 0), (9, 0), (9, 0), (9, 0), (9, 0), (9, 0), (9, 0), (9, 0)], [(0, 0)], _, _, _)
                        refine ev_ifne f329_24 (fun c65274 => absurd c65274 (by omega)) (fun c65274 => ?_)
                        refine ev_ldc2_w ?_
                        exact ev_ret rfl (by decide) (by decide) ⟨_, rfl, by omega, by omega, g, k0⟩
                      · refine ev_iconst ?_
                        refine ev_goto f242_15 ?_
                        refine ev_ret rfl (by decide) (by decide) ?_
                        show jEv _ _ _ _ _ _ _ (_, [(2, 42), (0, a1), (0, a2), (0, a3), (0, a4), (9, 0), (9, 0), (9, 0), (9, 0), (9, 0), (9, 0), (9, 0), (9, 0)], [(0, 1)], _, _, _)
                        refine ev_ifne f329_24 (fun c65275 => ?_) (fun c65275 => absurd c65275 (by omega))
                        refine ev_aload_n rfl ?_
                        refine ev_iload_n rfl ?_
                        refine ev_iload_n rfl ?_
                        refine ev_bipush ?_
                        refine g_idivP (c := 100) rfl (by decide) (by omega) (by omega) (fun v65276 ev65276 lv65276 uv65276 => ?_)
                        obtain rfl : v65255 = v65276 := by omega
                        refine ev_iload_n rfl ?_
                        refine ev_bipush ?_
                        refine g_iremP (c := 100) rfl (by decide) (by omega) (fun v65277 ev65277 lv65277 uv65277 wv65277 => ?_)
                        obtain rfl : v65263 = v65277 := by omega
                        refine ev_call (jcall_v (A := [(0, v65263), (0, v65255), (0, a2)]) (S' := []) (r := 42) rfl (g.lt ad42) (g.tg ad42) (Nat.le_of_ble_eq_true rfl)) (jOk_le (by decide) (s323 g (by omega) (by omega) (by omega) (by omega) (by omega) (by omega) (ev65242) (by omega) (by omega) (by omega))) (by decide) (by decide) (fun w65278 h65278 q65278 => ?_)
                        obtain ⟨v65279, rfl, lv65279, uv65279, g65278, kk65278⟩ := q65278
                        have k65278 := k0.tr kk65278 (by decide)
                        show jEv _ _ _ _ _ _ _ (_, [(2, 42), (0, a1), (0, a2), (0, a3), (0, a4), (9, 0), (9, 0), (9, 0), (9, 0), (9, 0), (9, 0), (9, 0), (9, 0)], [(0, v65279)], _, _, _)
                        refine ev_ifne f329_44 (fun c65280 => ?_) (fun c65280 => ?_)
                        · refine ev_aload_n rfl ?_
                          refine g_getp (r := 42) (c := 45) g65278 ad42 (by decide) (by decide) rf42_4 ft12_4 ?_
                          refine ev_bipush ?_
                          refine ev_iload_n rfl ?_
                          refine ev_imul (r := (9 * a2)) (by unfold w32; omega) ?_
                          refine g_iald g65278 ad45 rt45 (by omega) (by omega) (fun v65281 ev65281 lv65281 uv65281 => ?_)
                          have xv65281 := (g65278.ex.2.2.1 ((9 * a2) : Int).toNat (by rw [(((kk65278.v (by decide)).trans ev65242))]; omega))
                          rw [ev65281] at xv65281
                          refine ev_istore (L' := [(2, 42), (0, a1), (0, a2), (0, a3), (0, a4), (0, v65281), (9, 0), (9, 0), (9, 0), (9, 0), (9, 0), (9, 0), (9, 0)]) (Nat.le_of_ble_eq_true rfl) rfl ?_
                          refine ev_lconst ?_
                          refine ev_lstore (L' := [(2, 42), (0, a1), (0, a2), (0, a3), (0, a4), (0, v65281), (1, 0), (9, 0), (9, 0), (9, 0), (9, 0), (9, 0), (9, 0)]) (Nat.le_of_ble_eq_true rfl) rfl ?_
                          refine ev_lconst ?_
                          refine ev_lstore (L' := [(2, 42), (0, a1), (0, a2), (0, a3), (0, a4), (0, v65281), (1, 0), (9, 0), (1, 0), (9, 0), (9, 0), (9, 0), (9, 0)]) (Nat.le_of_ble_eq_true rfl) rfl ?_
                          refine ev_iload_n rfl ?_
                          refine ev_bipush ?_
                          refine g_idivP (c := 100) rfl (by decide) (by omega) (by omega) (fun v65282 ev65282 lv65282 uv65282 => ?_)
                          obtain rfl : v65255 = v65282 := by omega
                          refine ev_istore (L' := [(2, 42), (0, a1), (0, a2), (0, a3), (0, a4), (0, v65281), (1, 0), (9, 0), (1, 0), (9, 0), (0, v65255), (9, 0), (9, 0)]) (Nat.le_of_ble_eq_true rfl) rfl ?_
                          obtain ⟨v65283, ev65283, lv65283, uv65283⟩ := g65278.rd ad48 (show (a1).toNat < 7 by omega) (rt48 _)
                          have zv65283 := g65278.n48 (q := a1) (by omega) (by rw [(((kk65278.v (by decide)).trans ev65234))]; omega) ev65283
                          exact (s329_l la1 ua1 la2 ua2 la3 ua3 la4 ua4 200) _ _ _ _ _ _ _ _ _ g65278 k65278 (by omega) (by omega) (by omega) (by omega) (by omega) (by omega) (by omega) (by omega) (by omega) (by omega) (by omega) (by omega) (by omega) (by omega) (by omega) (by omega) (by omega) (by omega) (((kk65278.v (by decide)).trans ev65234)) (by omega) (by omega) ev65283 (by omega) (by omega) (((kk65278.v (by decide)).trans ev65242)) (by omega) (by omega) (by omega)
                        · refine ev_ldc2_w ?_
                          exact ev_ret rfl (by decide) (by decide) ⟨_, rfl, by omega, by omega, g65278, k65278⟩
set_option maxHeartbeats 4000000 in
theorem s338_l {G : GH} {h : JH} {a1 : Int} (la1 : (-2147483648) ≤ a1) (ua1 : a1 ≤ 2147483647) : ∀ N : Nat, (∀ (h1 : JH) (x2 x3 x4 : Int) (j5 : AV), Gd G h1 → Kp [] h h1 → 0 ≤ a1 → a1 ≤ 1 → 0 ≤ x2 → x2 ≤ 15 → 0 ≤ x3 → x3 ≤ 15 → 0 ≤ x4 → x4 ≤ 1 → (15 * x2 + 15 * x3 + 15 * x4 + 10) < N → jEv (jOk 1) none (fun _ => 0) c338_0 0 0 (PI G [] h 0 (-1) 15) (c338_39, [(2, 42), (0, a1), (0, x2), (0, x3), (0, x4), j5], [], h1, 0, 0)) ∧ (∀ (h1 : JH) (x2 x3 x4 x5 : Int), Gd G h1 → Kp [] h h1 → 0 ≤ a1 → a1 ≤ 1 → 0 ≤ x2 → x2 ≤ 15 → 0 ≤ x3 → x3 ≤ 15 → 0 ≤ x4 → x4 ≤ 1 → 0 ≤ x5 → x5 ≤ 4 → (15 * x2 + 15 * x3 + 15 * x4 + (-x5) + 24) < N → jEv (jOk 1) none (fun _ => 0) c338_0 0 0 (PI G [] h 0 (-1) 15) (c338_50, [(2, 42), (0, a1), (0, x2), (0, x3), (0, x4), (0, x5)], [], h1, 0, 0)) ∧ (∀ (h1 : JH) (x2 x3 x4 x5 : Int), Gd G h1 → Kp [] h h1 → 0 ≤ a1 → a1 ≤ 1 → 0 ≤ x2 → x2 ≤ 15 → 0 ≤ x3 → x3 ≤ 15 → 0 ≤ x4 → x4 ≤ 1 → 0 ≤ x5 → x5 ≤ 4 → (15 * x2 + 15 * x3 + 15 * x4 + (-x5) + 19) < N → jEv (jOk 1) none (fun _ => 0) c338_0 0 0 (PI G [] h 0 (-1) 15) (c338_109, [(2, 42), (0, a1), (0, x2), (0, x3), (0, x4), (0, x5)], [], h1, 0, 0)) := by
  intro N
  induction N with
  | zero => exact ⟨fun h1 x2 x3 x4 j5 g1 k1 b0 b1 b2 b3 b4 b5 b6 b7 hm => absurd hm (by omega), fun h1 x2 x3 x4 x5 g1 k1 b0 b1 b2 b3 b4 b5 b6 b7 b8 b9 hm => absurd hm (by omega), fun h1 x2 x3 x4 x5 g1 k1 b0 b1 b2 b3 b4 b5 b6 b7 b8 b9 hm => absurd hm (by omega)⟩
  | succ N ih =>
    refine ⟨?_, ?_, ?_⟩
    · intro h1 x2 x3 x4 j5 g1 k1 b0 b1 b2 b3 b4 b5 b6 b7 hm
      refine ev_iload rfl ?_
      refine ev_ifeq f338_168 (fun c65447 => ?_) (fun c65447 => ?_)
      · refine ev_iload_n rfl ?_
        refine ev_ifne f338_176 (fun c65448 => ?_) (fun c65448 => ?_)
        · refine ev_iload_n rfl ?_
          exact ev_ret rfl (by decide) (by decide) ⟨_, rfl, by omega, by omega, g1, k1⟩
        · refine ev_iload_n rfl ?_
          refine ev_goto f338_177 ?_
          exact ev_ret rfl (by decide) (by decide) ⟨_, rfl, by omega, by omega, g1, k1⟩
      · refine ev_iconst ?_
        refine ev_istore (L' := [(2, 42), (0, a1), (0, x2), (0, x3), (0, 0), j5]) (Nat.le_of_ble_eq_true rfl) rfl ?_
        refine ev_iconst ?_
        refine ev_istore (L' := [(2, 42), (0, a1), (0, x2), (0, x3), (0, 0), (0, 0)]) (Nat.le_of_ble_eq_true rfl) rfl ?_
        exact ih.2.1 _ _ _ _ _ g1 k1 (by omega) (by omega) (by omega) (by omega) (by omega) (by omega) (by omega) (by omega) (by omega) (by omega) (by omega)
    · intro h1 x2 x3 x4 x5 g1 k1 b0 b1 b2 b3 b4 b5 b6 b7 b8 b9 hm
      refine ev_iload rfl ?_
      refine ev_aload_n rfl ?_
      obtain ⟨v65449, ev65449, lv65449, uv65449⟩ := g1.rd ad42 (show 44 < 66 by decide) rf42_44
      refine g_getv (r := 42) (v := v65449) g1 ad42 (by decide) ft12_44 ev65449 ?_
      refine ev_icmpge f338_106 (fun c65450 => ?_) (fun c65450 => ?_)
      · refine ev_iconst ?_
        refine ev_istore (L' := [(2, 42), (0, a1), (0, x2), (0, x3), (0, x4), (0, 0)]) (Nat.le_of_ble_eq_true rfl) rfl ?_
        exact ih.2.2 _ _ _ _ _ g1 k1 (by omega) (by omega) (by omega) (by omega) (by omega) (by omega) (by omega) (by omega) (by omega) (by omega) (by omega)
      · refine ev_iload rfl ?_
        refine ev_ifne f338_106 (fun c65451 => ?_) (fun c65451 => ?_)
        · refine ev_iconst ?_
          refine ev_istore (L' := [(2, 42), (0, a1), (0, x2), (0, x3), (0, x4), (0, 0)]) (Nat.le_of_ble_eq_true rfl) rfl ?_
          exact ih.2.2 _ _ _ _ _ g1 k1 (by omega) (by omega) (by omega) (by omega) (by omega) (by omega) (by omega) (by omega) (by omega) (by omega) (by omega)
        · refine ev_iload_n rfl ?_
          refine ev_iload rfl ?_
          refine g_ishrB (a := 15) (by omega) (by omega) (by decide) (fun v65452 ev65452 lv65452 uv65452 => ?_)
          refine ev_iconst ?_
          refine g_iandB (b := 1) (by omega) (by omega) (by decide) (fun v65453 ev65453 lv65453 uv65453 => ?_)
          refine ev_ifeq f338_100 (fun c65454 => ?_) (fun c65454 => ?_)
          · refine ev_iinc (w := (x5 + 1)) (L' := [(2, 42), (0, a1), (0, x2), (0, x3), (0, x4), (0, (x5 + 1))]) rfl (by unfold w32; omega) rfl ?_
            refine ev_goto f338_50 ?_
            exact ih.2.1 _ _ _ _ _ g1 k1 (by omega) (by omega) (by omega) (by omega) (by omega) (by omega) (by omega) (by omega) (by omega) (by omega) (by omega)
          · refine ev_aload_n rfl ?_
            refine ev_iconst ?_
            refine ev_iload rfl ?_
            refine ev_iload_n rfl ?_
            refine ev_iload_n rfl ?_
            refine ev_call (jcall_v (A := [(0, x3), (0, x2), (0, x5), (0, 1)]) (S' := []) (r := 42) rfl (g1.lt ad42) (g1.tg ad42) (Nat.le_of_ble_eq_true rfl)) (jOk_le (by decide) (s337 g1 (by omega) (by omega) (by omega) (by omega) (by omega) (by omega) (by omega) (by omega))) (by decide) (by decide) (fun w65455 h65455 q65455 => ?_)
            obtain ⟨v65456, rfl, lv65456, uv65456, g65455, kk65455⟩ := q65455
            have k65455 := k1.tr kk65455 (by decide)
            show jEv _ _ _ _ _ _ _ (_, [(2, 42), (0, a1), (0, x2), (0, x3), (0, x4), (0, x5)], [(0, v65456)], _, _, _)
            refine ev_ifne f338_88 (fun c65457 => ?_) (fun c65457 => ?_)
            · refine ev_iload_n rfl ?_
              refine ev_iconst ?_
              refine ev_iload rfl ?_
              refine g_ishlB (a' := 1) (a := 1) (b := 3) (hi := 8) (by omega) (by omega) (by omega) (by omega) (by decide) (by decide) (fun v65458 ev65458 lv65458 uv65458 => ?_)
              refine ev_iconst ?_
              refine g_ixorG (fun v65459 ev65459 lv65459 uv65459 => ?_)
              refine g_iandA (b := 15) (by omega) (by omega) (by decide) (fun v65460 ev65460 lv65460 uv65460 => ?_)
              have zv65460 := bits_off (x := x2) (k := x5) (by omega) (by omega) (by omega) (by omega) ev65452 ev65453 (by omega) ev65458 ev65459 ev65460
              refine ev_istore_n (L' := [(2, 42), (0, a1), (0, v65460), (0, x3), (0, x4), (0, x5)]) (Nat.le_of_ble_eq_true rfl) rfl ?_
              refine ev_iconst ?_
              refine ev_istore (L' := [(2, 42), (0, a1), (0, v65460), (0, x3), (0, 1), (0, x5)]) (Nat.le_of_ble_eq_true rfl) rfl ?_
              refine ev_iinc (w := (x5 + 1)) (L' := [(2, 42), (0, a1), (0, v65460), (0, x3), (0, 1), (0, (x5 + 1))]) rfl (by unfold w32; omega) rfl ?_
              refine ev_goto f338_50 ?_
              exact ih.2.1 _ _ _ _ _ g65455 k65455 (by omega) (by omega) (by omega) (by omega) (by omega) (by omega) (by omega) (by omega) (by omega) (by omega) (by omega)
            · refine ev_goto f338_100 ?_
              refine ev_iinc (w := (x5 + 1)) (L' := [(2, 42), (0, a1), (0, x2), (0, x3), (0, x4), (0, (x5 + 1))]) rfl (by unfold w32; omega) rfl ?_
              refine ev_goto f338_50 ?_
              exact ih.2.1 _ _ _ _ _ g65455 k65455 (by omega) (by omega) (by omega) (by omega) (by omega) (by omega) (by omega) (by omega) (by omega) (by omega) (by omega)
    · intro h1 x2 x3 x4 x5 g1 k1 b0 b1 b2 b3 b4 b5 b6 b7 b8 b9 hm
      refine ev_iload rfl ?_
      refine ev_aload_n rfl ?_
      obtain ⟨v65461, ev65461, lv65461, uv65461⟩ := g1.rd ad42 (show 45 < 66 by decide) rf42_45
      refine g_getv (r := 42) (v := v65461) g1 ad42 (by decide) ft12_45 ev65461 ?_
      refine ev_icmpge f338_165 (fun c65462 => ?_) (fun c65462 => ?_)
      · refine ev_goto f338_39 ?_
        exact ih.1 _ _ _ _ _ g1 k1 (by omega) (by omega) (by omega) (by omega) (by omega) (by omega) (by omega) (by omega) (by omega)
      · refine ev_iload rfl ?_
        refine ev_ifne f338_165 (fun c65463 => ?_) (fun c65463 => ?_)
        · refine ev_goto f338_39 ?_
          exact ih.1 _ _ _ _ _ g1 k1 (by omega) (by omega) (by omega) (by omega) (by omega) (by omega) (by omega) (by omega) (by omega)
        · refine ev_iload_n rfl ?_
          refine ev_iload rfl ?_
          refine g_ishrB (a := 15) (by omega) (by omega) (by decide) (fun v65464 ev65464 lv65464 uv65464 => ?_)
          refine ev_iconst ?_
          refine g_iandB (b := 1) (by omega) (by omega) (by decide) (fun v65465 ev65465 lv65465 uv65465 => ?_)
          refine ev_ifeq f338_159 (fun c65466 => ?_) (fun c65466 => ?_)
          · refine ev_iinc (w := (x5 + 1)) (L' := [(2, 42), (0, a1), (0, x2), (0, x3), (0, x4), (0, (x5 + 1))]) rfl (by unfold w32; omega) rfl ?_
            refine ev_goto f338_109 ?_
            exact ih.2.2 _ _ _ _ _ g1 k1 (by omega) (by omega) (by omega) (by omega) (by omega) (by omega) (by omega) (by omega) (by omega) (by omega) (by omega)
          · refine ev_aload_n rfl ?_
            refine ev_iconst ?_
            refine ev_iload rfl ?_
            refine ev_iload_n rfl ?_
            refine ev_iload_n rfl ?_
            refine ev_call (jcall_v (A := [(0, x3), (0, x2), (0, x5), (0, 0)]) (S' := []) (r := 42) rfl (g1.lt ad42) (g1.tg ad42) (Nat.le_of_ble_eq_true rfl)) (jOk_le (by decide) (s337 g1 (by omega) (by omega) (by omega) (by omega) (by omega) (by omega) (by omega) (by omega))) (by decide) (by decide) (fun w65467 h65467 q65467 => ?_)
            obtain ⟨v65468, rfl, lv65468, uv65468, g65467, kk65467⟩ := q65467
            have k65467 := k1.tr kk65467 (by decide)
            show jEv _ _ _ _ _ _ _ (_, [(2, 42), (0, a1), (0, x2), (0, x3), (0, x4), (0, x5)], [(0, v65468)], _, _, _)
            refine ev_ifne f338_147 (fun c65469 => ?_) (fun c65469 => ?_)
            · refine ev_iload_n rfl ?_
              refine ev_iconst ?_
              refine ev_iload rfl ?_
              refine g_ishlB (a' := 1) (a := 1) (b := 3) (hi := 8) (by omega) (by omega) (by omega) (by omega) (by decide) (by decide) (fun v65470 ev65470 lv65470 uv65470 => ?_)
              refine ev_iconst ?_
              refine g_ixorG (fun v65471 ev65471 lv65471 uv65471 => ?_)
              refine g_iandA (b := 15) (by omega) (by omega) (by decide) (fun v65472 ev65472 lv65472 uv65472 => ?_)
              have zv65472 := bits_off (x := x3) (k := x5) (by omega) (by omega) (by omega) (by omega) ev65464 ev65465 (by omega) ev65470 ev65471 ev65472
              refine ev_istore_n (L' := [(2, 42), (0, a1), (0, x2), (0, v65472), (0, x4), (0, x5)]) (Nat.le_of_ble_eq_true rfl) rfl ?_
              refine ev_iconst ?_
              refine ev_istore (L' := [(2, 42), (0, a1), (0, x2), (0, v65472), (0, 1), (0, x5)]) (Nat.le_of_ble_eq_true rfl) rfl ?_
              refine ev_iinc (w := (x5 + 1)) (L' := [(2, 42), (0, a1), (0, x2), (0, v65472), (0, 1), (0, (x5 + 1))]) rfl (by unfold w32; omega) rfl ?_
              refine ev_goto f338_109 ?_
              exact ih.2.2 _ _ _ _ _ g65467 k65467 (by omega) (by omega) (by omega) (by omega) (by omega) (by omega) (by omega) (by omega) (by omega) (by omega) (by omega)
            · refine ev_goto f338_159 ?_
              refine ev_iinc (w := (x5 + 1)) (L' := [(2, 42), (0, a1), (0, x2), (0, x3), (0, x4), (0, (x5 + 1))]) rfl (by unfold w32; omega) rfl ?_
              refine ev_goto f338_109 ?_
              exact ih.2.2 _ _ _ _ _ g65467 k65467 (by omega) (by omega) (by omega) (by omega) (by omega) (by omega) (by omega) (by omega) (by omega) (by omega) (by omega)
set_option maxHeartbeats 4000000 in
theorem s338 {G : GH} {h : JH} (g : Gd G h) {a1 : Int} (la1 : (-2147483648) ≤ a1) (ua1 : a1 ≤ 2147483647) : jOk 2 0 0 338 [(2, 42), (0, a1)] h (PI G [] h 0 (-1) 15) := by
  refine ⟨by decide, by rw [ml338]; exact Nat.le_of_ble_eq_true rfl, ?_⟩
  rw [ml338, pp338]
  show jEv _ none _ c338_0 0 0 _ (c338_0, [(2, 42), (0, a1), (9, 0), (9, 0), (9, 0), (9, 0)], [], h, 0, 0)
  have k0 := Kp.rf [] h
  refine ev_aload_n rfl ?_
  obtain ⟨v65473, ev65473, lv65473, uv65473⟩ := g.rd ad42 (show 44 < 66 by decide) rf42_44
  refine g_getv (r := 42) (v := v65473) g ad42 (by decide) ft12_44 ev65473 ?_
  refine ev_ifeq f338_16 (fun c65474 => ?_) (fun c65474 => ?_)
  · refine ev_iconst ?_
    exact ev_ret rfl (by decide) (by decide) ⟨_, rfl, by omega, by omega, g, k0⟩
  · refine ev_iload_n rfl ?_
    refine ev_iconst ?_
    refine ev_iconst ?_
    refine ev_in (d := 0) (a := 0) (b := 0) (cd' := c242_0) (m := 3) (L0 := [(0, a1), (0, 0), (0, 1)]) (jcall_s (A := [(0, 1), (0, 0), (0, a1)]) (S' := []) (by decide) rfl (Nat.le_of_ble_eq_true rfl)) (by decide) ml242 pp242 (Nat.le_of_ble_eq_true rfl) rfl (by decide) (by decide) ?_
    refine ev_iload_n rfl ?_
    refine ev_iload_n rfl ?_
    refine ev_icmplt f242_14 (fun c65475 => ?_) (fun c65475 => ?_)
    · refine ev_iconst ?_
      refine ev_ret rfl (by decide) (by decide) ?_
      show jEv _ _ _ _ _ _ _ (_, [(2, 42), (0, a1), (9, 0), (9, 0), (9, 0), (9, 0)], [(0, 0)], _, _, _)
      refine ev_ifne f338_18 (fun c65476 => absurd c65476 (by omega)) (fun c65476 => ?_)
      refine ev_iconst ?_
      exact ev_ret rfl (by decide) (by decide) ⟨_, rfl, by omega, by omega, g, k0⟩
    · refine ev_iload_n rfl ?_
      refine ev_iload_n rfl ?_
      refine ev_icmpgt f242_14 (fun c65477 => ?_) (fun c65477 => ?_)
      · refine ev_iconst ?_
        refine ev_ret rfl (by decide) (by decide) ?_
        show jEv _ _ _ _ _ _ _ (_, [(2, 42), (0, a1), (9, 0), (9, 0), (9, 0), (9, 0)], [(0, 0)], _, _, _)
        refine ev_ifne f338_18 (fun c65478 => absurd c65478 (by omega)) (fun c65478 => ?_)
        refine ev_iconst ?_
        exact ev_ret rfl (by decide) (by decide) ⟨_, rfl, by omega, by omega, g, k0⟩
      · refine ev_iconst ?_
        refine ev_goto f242_15 ?_
        refine ev_ret rfl (by decide) (by decide) ?_
        show jEv _ _ _ _ _ _ _ (_, [(2, 42), (0, a1), (9, 0), (9, 0), (9, 0), (9, 0)], [(0, 1)], _, _, _)
        refine ev_ifne f338_18 (fun c65479 => ?_) (fun c65479 => absurd c65479 (by omega))
        refine ev_iconst ?_
        refine ev_aload_n rfl ?_
        refine g_getv (r := 42) (v := v65473) g ad42 (by decide) ft12_44 (ev65473) ?_
        refine g_ishlB (a' := 1) (a := 1) (b := 4) (hi := 16) (by omega) (by omega) (by omega) (by omega) (by decide) (by decide) (fun v65480 ev65480 lv65480 uv65480 => ?_)
        refine ev_iconst ?_
        refine ev_isub (r := (v65480 - 1)) (by unfold w32; omega) ?_
        refine ev_istore_n (L' := [(2, 42), (0, a1), (0, (v65480 - 1)), (9, 0), (9, 0), (9, 0)]) (Nat.le_of_ble_eq_true rfl) rfl ?_
        refine ev_iconst ?_
        refine ev_aload_n rfl ?_
        obtain ⟨v65481, ev65481, lv65481, uv65481⟩ := g.rd ad42 (show 45 < 66 by decide) rf42_45
        refine g_getv (r := 42) (v := v65481) g ad42 (by decide) ft12_45 ev65481 ?_
        refine g_ishlB (a' := 1) (a := 1) (b := 4) (hi := 16) (by omega) (by omega) (by omega) (by omega) (by decide) (by decide) (fun v65482 ev65482 lv65482 uv65482 => ?_)
        refine ev_iconst ?_
        refine ev_isub (r := (v65482 - 1)) (by unfold w32; omega) ?_
        refine ev_istore_n (L' := [(2, 42), (0, a1), (0, (v65480 - 1)), (0, (v65482 - 1)), (9, 0), (9, 0)]) (Nat.le_of_ble_eq_true rfl) rfl ?_
        refine ev_iconst ?_
        refine ev_istore (L' := [(2, 42), (0, a1), (0, (v65480 - 1)), (0, (v65482 - 1)), (0, 1), (9, 0)]) (Nat.le_of_ble_eq_true rfl) rfl ?_
        exact (s338_l la1 ua1 1230).1 _ _ _ _ _ g k0 (by omega) (by omega) (by omega) (by omega) (by omega) (by omega) (by omega) (by omega) (by omega)
set_option maxHeartbeats 4000000 in
theorem s354_l {G : GH} {h : JH} {a1 : Int} (la1 : (-2147483648) ≤ a1) (ua1 : a1 ≤ 2147483647) {a2 : Int} (la2 : (-2147483648) ≤ a2) (ua2 : a2 ≤ 2147483647) {a3 : Int} (la3 : (-2147483648) ≤ a3) (ua3 : a3 ≤ 2147483647) : ∀ N : Nat, (∀ (h1 : JH) (x4 x5 x6 y0 y1 y2 : Int) (j7 j8 j9 j10 : AV), Gd G h1 → Kp [(77, 0)] h h1 → 0 ≤ a1 → a1 ≤ 5 → (-2147483648) ≤ a2 → a2 ≤ 2147483647 → 1 ≤ a3 → a3 ≤ 200 → (-2147483648) ≤ x4 → x4 ≤ 2147483647 → (-2147483648) ≤ x5 → x5 ≤ 2147483647 → 0 ≤ x6 → x6 ≤ 200 → (a1 + (-y0)) ≤ (-1) → h1.2.2 42 9 = y0 → 0 ≤ y0 → y0 ≤ 6 → h1.2.2 48 (a1).toNat = y1 → 1 ≤ y1 → y1 ≤ 100 → h1.2.2 42 1 = y2 → 0 ≤ y2 → y2 ≤ 4 → ((-300) * x6 + 60200) < N → jEv (jOk 2) none (fun _ => 0) c354_0 0 0 (PI G [(77, 0)] h 0 (-2147483648) 2147483647) (c354_32, [(2, 42), (0, a1), (0, a2), (0, a3), (0, x4), (0, x5), (0, x6), j7, j8, j9, j10], [], h1, 0, 0)) ∧ (∀ (h1 : JH) (x4 x5 x6 x7 y0 y1 y2 : Int) (j8 j9 j10 : AV), Gd G h1 → Kp [(77, 0)] h h1 → 0 ≤ a1 → a1 ≤ 5 → (-2147483648) ≤ a2 → a2 ≤ 2147483647 → 1 ≤ a3 → a3 ≤ 200 → (-2147483648) ≤ x4 → x4 ≤ 2147483647 → (-2147483648) ≤ x5 → x5 ≤ 2147483647 → 0 ≤ x6 → x6 ≤ 199 → 0 ≤ x7 → x7 ≤ 4 → (a1 + (-y0)) ≤ (-1) → h1.2.2 42 9 = y0 → 0 ≤ y0 → y0 ≤ 6 → h1.2.2 48 (a1).toNat = y1 → 1 ≤ y1 → y1 ≤ 100 → h1.2.2 42 1 = y2 → 0 ≤ y2 → y2 ≤ 4 → Pw h1 x7 → ((-300) * x6 + (-x7) + 60104) < N → jEv (jOk 2) none (fun _ => 0) c354_0 0 0 (PI G [(77, 0)] h 0 (-2147483648) 2147483647) (c354_41, [(2, 42), (0, a1), (0, a2), (0, a3), (0, x4), (0, x5), (0, x6), (0, x7), j8, j9, j10], [], h1, 0, 0)) ∧ (∀ (h1 : JH) (x4 x5 x6 y0 y1 y2 z0 : Int) (j8 j9 j10 : AV), Gd G h1 → Kp [(77, 0)] h h1 → 0 ≤ a1 → a1 ≤ 5 → (-2147483648) ≤ a2 → a2 ≤ 2147483647 → 1 ≤ a3 → a3 ≤ 200 → (-2147483648) ≤ x4 → x4 ≤ 2147483647 → (-2147483648) ≤ x5 → x5 ≤ 2147483647 → 0 ≤ x6 → x6 ≤ 199 → 0 ≤ z0 → z0 ≤ 99 → (a1 + (-y0)) ≤ (-1) → ((-y1) + z0) ≤ (-1) → h1.2.2 42 9 = y0 → 0 ≤ y0 → y0 ≤ 6 → h1.2.2 48 (a1).toNat = y1 → 1 ≤ y1 → y1 ≤ 100 → h1.2.2 42 1 = y2 → 0 ≤ y2 → y2 ≤ 4 → Pw h1 y2 → ((-300) * x6 + (-z0) + 60099) < N → jEv (jOk 2) none (fun _ => 0) c354_0 0 0 (PI G [(77, 0)] h 0 (-2147483648) 2147483647) (c354_182, [(2, 42), (0, a1), (0, a2), (0, a3), (0, x4), (0, x5), (0, x6), (0, (100 * a1 + z0)), j8, j9, j10], [], h1, 0, 0)) := by
  intro N
  induction N with
  | zero => exact ⟨fun h1 x4 x5 x6 y0 y1 y2 j7 j8 j9 j10 g1 k1 b0 b1 b2 b3 b4 b5 b6 b7 b8 b9 b10 b11 b12 b13 b14 b15 b16 b17 b18 b19 b20 b21 hm => absurd hm (by omega), fun h1 x4 x5 x6 x7 y0 y1 y2 j8 j9 j10 g1 k1 b0 b1 b2 b3 b4 b5 b6 b7 b8 b9 b10 b11 b12 b13 b14 b15 b16 b17 b18 b19 b20 b21 b22 b23 b24 hm => absurd hm (by omega), fun h1 x4 x5 x6 y0 y1 y2 z0 j8 j9 j10 g1 k1 b0 b1 b2 b3 b4 b5 b6 b7 b8 b9 b10 b11 b12 b13 b14 b15 b16 b17 b18 b19 b20 b21 b22 b23 b24 b25 hm => absurd hm (by omega)⟩
  | succ N ih =>
    refine ⟨?_, ?_, ?_⟩
    · intro h1 x4 x5 x6 y0 y1 y2 j7 j8 j9 j10 g1 k1 b0 b1 b2 b3 b4 b5 b6 b7 b8 b9 b10 b11 b12 ey0 ly0 uy0 ey1 ly1 uy1 ey2 ly2 uy2 hm
      refine ev_iload rfl ?_
      refine ev_iload_n rfl ?_
      refine ev_icmpge f354_284 (fun c68756 => ?_) (fun c68756 => ?_)
      · refine ev_iload rfl ?_
        exact ev_ret rfl (by decide) (by decide) ⟨_, rfl, by omega, by omega, g1, k1⟩
      · refine ev_iconst ?_
        refine ev_istore (L' := [(2, 42), (0, a1), (0, a2), (0, a3), (0, x4), (0, x5), (0, x6), (0, 0), j8, j9, j10]) (Nat.le_of_ble_eq_true rfl) rfl ?_
        exact ih.2.1 _ _ _ _ _ _ _ _ _ _ _ g1 k1 (by omega) (by omega) (by omega) (by omega) (by omega) (by omega) (by omega) (by omega) (by omega) (by omega) (by omega) (by omega) (by omega) (by omega) (by omega) (ey0) (by omega) (by omega) (ey1) (by omega) (by omega) (ey2) (by omega) (by omega) (Pw.start _) (by omega)
    · intro h1 x4 x5 x6 x7 y0 y1 y2 j8 j9 j10 g1 k1 b0 b1 b2 b3 b4 b5 b6 b7 b8 b9 b10 b11 b12 b13 b14 ey0 ly0 uy0 ey1 ly1 uy1 ey2 ly2 uy2 H0 hm
      refine ev_iload rfl ?_
      refine ev_aload_n rfl ?_
      refine g_getv (r := 42) (v := y2) g1 ad42 (by decide) ft12_1 (ey2) ?_
      refine ev_icmpge f354_176 (fun c68757 => ?_) (fun c68757 => ?_)
      · refine ev_bipush ?_
        refine ev_iload_n rfl ?_
        refine ev_imul (r := (100 * a1)) (by unfold w32; omega) ?_
        obtain ⟨z68758, lz68758, uz68758⟩ : ∃ z : Int, 0 ≤ z ∧ z ≤ 0 := ⟨0, by omega, by omega⟩
        rw [show (100 * a1 : Int) = 100 * a1 + z68758 by omega]
        refine ev_istore (L' := [(2, 42), (0, a1), (0, a2), (0, a3), (0, x4), (0, x5), (0, x6), (0, (100 * a1 + z68758)), j8, j9, j10]) (Nat.le_of_ble_eq_true rfl) rfl ?_
        exact ih.2.2 _ _ _ _ _ _ _ z68758 _ _ _ g1 k1 (by omega) (by omega) (by omega) (by omega) (by omega) (by omega) (by omega) (by omega) (by omega) (by omega) (by omega) (by omega) (by omega) (by omega) (by omega) (by omega) (ey0) (by omega) (by omega) (ey1) (by omega) (by omega) (ey2) (by omega) (by omega) (fun t ht => H0 t (by omega)) (by omega)
      · refine ev_aload_n rfl ?_
        refine g_getp (r := 42) (c := 44) g1 ad42 (by decide) (by decide) rf42_3 ft12_3 ?_
        refine ev_iload rfl ?_
        refine g_iald g1 ad44 rt44 (by omega) (by omega) (fun v68759 ev68759 lv68759 uv68759 => ?_)
        refine ev_ifge f354_64 (fun c68760 => ?_) (fun c68760 => ?_)
        · refine ev_aload_n rfl ?_
          refine g_getp (r := 42) (c := 77) g1 ad42 (by decide) (by decide) rf42_59 ft12_59 ?_
          refine ev_aload_n rfl ?_
          refine g_getp (r := 42) (c := 44) g1 ad42 (by decide) (by decide) rf42_3 ft12_3 ?_
          refine ev_iload rfl ?_
          refine g_ialdv (v := v68759) g1 ad44 (by omega) (by omega) (ev68759) ?_
          refine g_iald g1 ad77 rt77 (by omega) (by omega) (fun v68761 ev68761 lv68761 uv68761 => ?_)
          refine ev_istore (L' := [(2, 42), (0, a1), (0, a2), (0, a3), (0, x4), (0, x5), (0, x6), (0, x7), (0, v68761), j9, j10]) (Nat.le_of_ble_eq_true rfl) rfl ?_
          refine ev_iload rfl ?_
          refine ev_ldc_w ?_
          refine g_imulG (fun v68762 ev68762 lv68762 uv68762 => ?_)
          refine ev_sipush ?_
          refine g_iaddG (fun v68763 ev68763 lv68763 uv68763 => ?_)
          refine ev_istore (L' := [(2, 42), (0, a1), (0, a2), (0, a3), (0, v68763), (0, x5), (0, x6), (0, x7), (0, v68761), j9, j10]) (Nat.le_of_ble_eq_true rfl) rfl ?_
          refine ev_iload rfl ?_
          refine ev_bipush ?_
          refine g_iushrB (s := 8) (hi := 16777215) (by decide) (by decide) (by decide) (fun v68764 ev68764 lv68764 uv68764 => ?_)
          refine ev_aload_n rfl ?_
          refine ev_iload rfl ?_
          refine ev_iload rfl ?_
          refine ev_in (d := 1) (a := 0) (b := 0) (cd' := c251_0) (m := 5) (L0 := [(2, 42), (0, x7), (0, v68761), (9, 0), (9, 0)]) (jcall_v (A := [(0, v68761), (0, x7)]) (S' := [(0, v68764)]) (r := 42) rfl (g1.lt ad42) (g1.tg ad42) (Nat.le_of_ble_eq_true rfl)) (by decide) ml251 pp251 (Nat.le_of_ble_eq_true rfl) rfl (by decide) (by decide) ?_
          refine ev_iconst ?_
          refine ev_istore_n (L' := [(2, 42), (0, x7), (0, v68761), (0, 0), (9, 0)]) (Nat.le_of_ble_eq_true rfl) rfl ?_
          refine ev_iconst ?_
          refine ev_istore (L' := [(2, 42), (0, x7), (0, v68761), (0, 0), (0, 0)]) (Nat.le_of_ble_eq_true rfl) rfl ?_
          refine ev_iload rfl ?_
          refine ev_aload_n rfl ?_
          refine g_getp (r := 42) (c := 43) g1 ad42 (by decide) (by decide) rf42_2 ft12_2 ?_
          refine ev_iload_n rfl ?_
          refine g_iald g1 ad43 rt43 (by omega) (by omega) (fun v68765 ev68765 lv68765 uv68765 => ?_)
          have xv68765 := (g1.ex.2.1 (x7 : Int).toNat (by rw [(ey2)]; omega))
          rw [ev68765] at xv68765
          refine ev_icmpge f251_41 (fun c68766 => absurd c68766 (by omega)) (fun c68766 => ?_)
          refine ev_iload_n rfl ?_
          refine ev_aload_n rfl ?_
          refine g_getp (r := 42) (c := 45) g1 ad42 (by decide) (by decide) rf42_4 ft12_4 ?_
          refine ev_bipush ?_
          refine ev_iload_n rfl ?_
          refine ev_imul (r := (9 * x7)) (by unfold w32; omega) ?_
          refine ev_iconst ?_
          refine ev_iload_n rfl ?_
          refine ev_imul (r := (3 * v68761)) (by unfold w32; omega) ?_
          refine ev_iadd (r := (3 * v68761 + 9 * x7)) (by unfold w32; omega) ?_
          refine ev_iload rfl ?_
          refine ev_iadd (r := (3 * v68761 + 9 * x7)) (by unfold w32; omega) ?_
          refine g_iald g1 ad45 rt45 (by omega) (by omega) (fun v68767 ev68767 lv68767 uv68767 => ?_)
          have xv68767 := (g1.ex.2.2.1 ((3 * v68761 + 9 * x7) : Int).toNat (by rw [(ey2)]; omega))
          rw [ev68767] at xv68767
          refine ev_iadd (r := v68767) (by unfold w32; omega) ?_
          refine ev_istore_n (L' := [(2, 42), (0, x7), (0, v68761), (0, v68767), (0, 0)]) (Nat.le_of_ble_eq_true rfl) rfl ?_
          refine ev_iinc (w := 1) (L' := [(2, 42), (0, x7), (0, v68761), (0, v68767), (0, 1)]) rfl (by decide) rfl ?_
          refine ev_goto f251_5 ?_
          refine ev_iload rfl ?_
          refine ev_aload_n rfl ?_
          refine g_getp (r := 42) (c := 43) g1 ad42 (by decide) (by decide) rf42_2 ft12_2 ?_
          refine ev_iload_n rfl ?_
          refine g_ialdv (v := v68765) g1 ad43 (by omega) (by omega) (ev68765) ?_
          refine ev_icmpge f251_41 (fun c68768 => absurd c68768 (by omega)) (fun c68768 => ?_)
          refine ev_iload_n rfl ?_
          refine ev_aload_n rfl ?_
          refine g_getp (r := 42) (c := 45) g1 ad42 (by decide) (by decide) rf42_4 ft12_4 ?_
          refine ev_bipush ?_
          refine ev_iload_n rfl ?_
          refine ev_imul (r := (9 * x7)) (by unfold w32; omega) ?_
          refine ev_iconst ?_
          refine ev_iload_n rfl ?_
          refine ev_imul (r := (3 * v68761)) (by unfold w32; omega) ?_
          refine ev_iadd (r := (3 * v68761 + 9 * x7)) (by unfold w32; omega) ?_
          refine ev_iload rfl ?_
          refine ev_iadd (r := (3 * v68761 + 9 * x7 + 1)) (by unfold w32; omega) ?_
          refine g_iald g1 ad45 rt45 (by omega) (by omega) (fun v68769 ev68769 lv68769 uv68769 => ?_)
          have xv68769 := (g1.ex.2.2.1 ((3 * v68761 + 9 * x7 + 1) : Int).toNat (by rw [(ey2)]; omega))
          rw [ev68769] at xv68769
          refine ev_iadd (r := (v68767 + v68769)) (by unfold w32; omega) ?_
          refine ev_istore_n (L' := [(2, 42), (0, x7), (0, v68761), (0, (v68767 + v68769)), (0, 1)]) (Nat.le_of_ble_eq_true rfl) rfl ?_
          refine ev_iinc (w := 2) (L' := [(2, 42), (0, x7), (0, v68761), (0, (v68767 + v68769)), (0, 2)]) rfl (by decide) rfl ?_
          refine ev_goto f251_5 ?_
          refine ev_iload rfl ?_
          refine ev_aload_n rfl ?_
          refine g_getp (r := 42) (c := 43) g1 ad42 (by decide) (by decide) rf42_2 ft12_2 ?_
          refine ev_iload_n rfl ?_
          refine g_ialdv (v := v68765) g1 ad43 (by omega) (by omega) (ev68765) ?_
          refine ev_icmpge f251_41 (fun c68770 => ?_) (fun c68770 => ?_)
          · refine ev_iload_n rfl ?_
            refine ev_ret rfl (by decide) (by decide) ?_
            show jEv _ _ _ _ _ _ _ (_, [(2, 42), (0, a1), (0, a2), (0, a3), (0, v68763), (0, x5), (0, x6), (0, x7), (0, v68761), j9, j10], [(0, (v68767 + v68769)), (0, v68764)], _, _, _)
            refine g_iremQ (by omega) (by omega) (fun v68771 ev68771 lv68771 uv68771 wv68771 => ?_)
            refine ev_istore (L' := [(2, 42), (0, a1), (0, a2), (0, a3), (0, v68763), (0, x5), (0, x6), (0, x7), (0, v68761), (0, v68771), j10]) (Nat.le_of_ble_eq_true rfl) rfl ?_
            refine ev_iconst ?_
            refine ev_istore (L' := [(2, 42), (0, a1), (0, a2), (0, a3), (0, v68763), (0, x5), (0, x6), (0, x7), (0, v68761), (0, v68771), (0, 0)]) (Nat.le_of_ble_eq_true rfl) rfl ?_
            refine ev_iload rfl ?_
            refine ev_aload_n rfl ?_
            refine g_getp (r := 42) (c := 45) g1 ad42 (by decide) (by decide) rf42_4 ft12_4 ?_
            refine ev_bipush ?_
            refine ev_iload rfl ?_
            refine ev_imul (r := (9 * x7)) (by unfold w32; omega) ?_
            refine ev_iconst ?_
            refine ev_iload rfl ?_
            refine ev_imul (r := (3 * v68761)) (by unfold w32; omega) ?_
            refine ev_iadd (r := (3 * v68761 + 9 * x7)) (by unfold w32; omega) ?_
            refine ev_iload rfl ?_
            refine ev_iadd (r := (3 * v68761 + 9 * x7)) (by unfold w32; omega) ?_
            refine g_ialdv (v := v68767) g1 ad45 (by omega) (by omega) (ev68767) ?_
            refine ev_icmplt f354_161 (fun c68772 => ?_) (fun c68772 => ?_)
            · refine ev_aload_n rfl ?_
              refine g_getp (r := 42) (c := 77) g1 ad42 (by decide) (by decide) rf42_59 ft12_59 ?_
              refine ev_iload rfl ?_
              refine ev_iload rfl ?_
              refine g_iast g1 ad77 rt77 (fun _ => rfl) (by omega) (by omega) (by omega) (by omega) (fun h68773 e68773 g68773 => ?_)
              have k68773 := k1.wr e68773 rfl
              refine ev_iinc (w := (x7 + 1)) (L' := [(2, 42), (0, a1), (0, a2), (0, a3), (0, v68763), (0, x5), (0, x6), (0, (x7 + 1)), (0, v68761), (0, v68771), (0, 0)]) rfl (by unfold w32; omega) rfl ?_
              refine ev_goto f354_41 ?_
              exact ih.2.1 _ _ _ _ _ _ _ _ _ _ _ g68773 k68773 (by omega) (by omega) (by omega) (by omega) (by omega) (by omega) (by omega) (by omega) (by omega) (by omega) (by omega) (by omega) (by omega) (by omega) (by omega) (((jw_ne e68773 (Or.inl (by decide))).trans ey0)) (by omega) (by omega) (((jw_ne e68773 (Or.inl (by decide))).trans ey1)) (by omega) (by omega) (((jw_ne e68773 (Or.inl (by decide))).trans ey2)) (by omega) (by omega) (Pw.step H0 (by omega) e68773 (ev68765) (by omega)) (by omega)
            · refine ev_iload rfl ?_
              refine ev_aload_n rfl ?_
              refine g_getp (r := 42) (c := 45) g1 ad42 (by decide) (by decide) rf42_4 ft12_4 ?_
              refine ev_bipush ?_
              refine ev_iload rfl ?_
              refine ev_imul (r := (9 * x7)) (by unfold w32; omega) ?_
              refine ev_iconst ?_
              refine ev_iload rfl ?_
              refine ev_imul (r := (3 * v68761)) (by unfold w32; omega) ?_
              refine ev_iadd (r := (3 * v68761 + 9 * x7)) (by unfold w32; omega) ?_
              refine ev_iload rfl ?_
              refine ev_iadd (r := (3 * v68761 + 9 * x7)) (by unfold w32; omega) ?_
              refine g_ialdv (v := v68767) g1 ad45 (by omega) (by omega) (ev68767) ?_
              refine ev_isub (r := ((-v68767) + v68771)) (by unfold w32; omega) ?_
              refine ev_istore (L' := [(2, 42), (0, a1), (0, a2), (0, a3), (0, v68763), (0, x5), (0, x6), (0, x7), (0, v68761), (0, ((-v68767) + v68771)), (0, 0)]) (Nat.le_of_ble_eq_true rfl) rfl ?_
              refine ev_iinc (w := 1) (L' := [(2, 42), (0, a1), (0, a2), (0, a3), (0, v68763), (0, x5), (0, x6), (0, x7), (0, v68761), (0, ((-v68767) + v68771)), (0, 1)]) rfl (by decide) rfl ?_
              refine ev_goto f354_109 ?_
              refine ev_iload rfl ?_
              refine ev_aload_n rfl ?_
              refine g_getp (r := 42) (c := 45) g1 ad42 (by decide) (by decide) rf42_4 ft12_4 ?_
              refine ev_bipush ?_
              refine ev_iload rfl ?_
              refine ev_imul (r := (9 * x7)) (by unfold w32; omega) ?_
              refine ev_iconst ?_
              refine ev_iload rfl ?_
              refine ev_imul (r := (3 * v68761)) (by unfold w32; omega) ?_
              refine ev_iadd (r := (3 * v68761 + 9 * x7)) (by unfold w32; omega) ?_
              refine ev_iload rfl ?_
              refine ev_iadd (r := (3 * v68761 + 9 * x7 + 1)) (by unfold w32; omega) ?_
              refine g_ialdv (v := v68769) g1 ad45 (by omega) (by omega) (ev68769) ?_
              refine ev_icmplt f354_161 (fun c68774 => ?_) (fun c68774 => absurd c68774 (by omega))
              refine ev_aload_n rfl ?_
              refine g_getp (r := 42) (c := 77) g1 ad42 (by decide) (by decide) rf42_59 ft12_59 ?_
              refine ev_iload rfl ?_
              refine ev_iload rfl ?_
              refine g_iast g1 ad77 rt77 (fun _ => rfl) (by omega) (by omega) (by omega) (by omega) (fun h68775 e68775 g68775 => ?_)
              have k68775 := k1.wr e68775 rfl
              refine ev_iinc (w := (x7 + 1)) (L' := [(2, 42), (0, a1), (0, a2), (0, a3), (0, v68763), (0, x5), (0, x6), (0, (x7 + 1)), (0, v68761), (0, ((-v68767) + v68771)), (0, 1)]) rfl (by unfold w32; omega) rfl ?_
              refine ev_goto f354_41 ?_
              exact ih.2.1 _ _ _ _ _ _ _ _ _ _ _ g68775 k68775 (by omega) (by omega) (by omega) (by omega) (by omega) (by omega) (by omega) (by omega) (by omega) (by omega) (by omega) (by omega) (by omega) (by omega) (by omega) (((jw_ne e68775 (Or.inl (by decide))).trans ey0)) (by omega) (by omega) (((jw_ne e68775 (Or.inl (by decide))).trans ey1)) (by omega) (by omega) (((jw_ne e68775 (Or.inl (by decide))).trans ey2)) (by omega) (by omega) (Pw.step H0 (by omega) e68775 (ev68765) (by omega)) (by omega)
          · refine ev_iload_n rfl ?_
            refine ev_aload_n rfl ?_
            refine g_getp (r := 42) (c := 45) g1 ad42 (by decide) (by decide) rf42_4 ft12_4 ?_
            refine ev_bipush ?_
            refine ev_iload_n rfl ?_
            refine ev_imul (r := (9 * x7)) (by unfold w32; omega) ?_
            refine ev_iconst ?_
            refine ev_iload_n rfl ?_
            refine ev_imul (r := (3 * v68761)) (by unfold w32; omega) ?_
            refine ev_iadd (r := (3 * v68761 + 9 * x7)) (by unfold w32; omega) ?_
            refine ev_iload rfl ?_
            refine ev_iadd (r := (3 * v68761 + 9 * x7 + 2)) (by unfold w32; omega) ?_
            refine g_iald g1 ad45 rt45 (by omega) (by omega) (fun v68776 ev68776 lv68776 uv68776 => ?_)
            have xv68776 := (g1.ex.2.2.1 ((3 * v68761 + 9 * x7 + 2) : Int).toNat (by rw [(ey2)]; omega))
            rw [ev68776] at xv68776
            refine ev_iadd (r := (v68767 + v68769 + v68776)) (by unfold w32; omega) ?_
            refine ev_istore_n (L' := [(2, 42), (0, x7), (0, v68761), (0, (v68767 + v68769 + v68776)), (0, 2)]) (Nat.le_of_ble_eq_true rfl) rfl ?_
            refine ev_iinc (w := 3) (L' := [(2, 42), (0, x7), (0, v68761), (0, (v68767 + v68769 + v68776)), (0, 3)]) rfl (by decide) rfl ?_
            refine ev_goto f251_5 ?_
            refine ev_iload rfl ?_
            refine ev_aload_n rfl ?_
            refine g_getp (r := 42) (c := 43) g1 ad42 (by decide) (by decide) rf42_2 ft12_2 ?_
            refine ev_iload_n rfl ?_
            refine g_ialdv (v := v68765) g1 ad43 (by omega) (by omega) (ev68765) ?_
            refine ev_icmpge f251_41 (fun c68777 => ?_) (fun c68777 => absurd c68777 (by omega))
            refine ev_iload_n rfl ?_
            refine ev_ret rfl (by decide) (by decide) ?_
            show jEv _ _ _ _ _ _ _ (_, [(2, 42), (0, a1), (0, a2), (0, a3), (0, v68763), (0, x5), (0, x6), (0, x7), (0, v68761), j9, j10], [(0, (v68767 + v68769 + v68776)), (0, v68764)], _, _, _)
            refine g_iremQ (by omega) (by omega) (fun v68778 ev68778 lv68778 uv68778 wv68778 => ?_)
            refine ev_istore (L' := [(2, 42), (0, a1), (0, a2), (0, a3), (0, v68763), (0, x5), (0, x6), (0, x7), (0, v68761), (0, v68778), j10]) (Nat.le_of_ble_eq_true rfl) rfl ?_
            refine ev_iconst ?_
            refine ev_istore (L' := [(2, 42), (0, a1), (0, a2), (0, a3), (0, v68763), (0, x5), (0, x6), (0, x7), (0, v68761), (0, v68778), (0, 0)]) (Nat.le_of_ble_eq_true rfl) rfl ?_
            refine ev_iload rfl ?_
            refine ev_aload_n rfl ?_
            refine g_getp (r := 42) (c := 45) g1 ad42 (by decide) (by decide) rf42_4 ft12_4 ?_
            refine ev_bipush ?_
            refine ev_iload rfl ?_
            refine ev_imul (r := (9 * x7)) (by unfold w32; omega) ?_
            refine ev_iconst ?_
            refine ev_iload rfl ?_
            refine ev_imul (r := (3 * v68761)) (by unfold w32; omega) ?_
            refine ev_iadd (r := (3 * v68761 + 9 * x7)) (by unfold w32; omega) ?_
            refine ev_iload rfl ?_
            refine ev_iadd (r := (3 * v68761 + 9 * x7)) (by unfold w32; omega) ?_
            refine g_ialdv (v := v68767) g1 ad45 (by omega) (by omega) (ev68767) ?_
            refine ev_icmplt f354_161 (fun c68779 => ?_) (fun c68779 => ?_)
            · refine ev_aload_n rfl ?_
              refine g_getp (r := 42) (c := 77) g1 ad42 (by decide) (by decide) rf42_59 ft12_59 ?_
              refine ev_iload rfl ?_
              refine ev_iload rfl ?_
              refine g_iast g1 ad77 rt77 (fun _ => rfl) (by omega) (by omega) (by omega) (by omega) (fun h68780 e68780 g68780 => ?_)
              have k68780 := k1.wr e68780 rfl
              refine ev_iinc (w := (x7 + 1)) (L' := [(2, 42), (0, a1), (0, a2), (0, a3), (0, v68763), (0, x5), (0, x6), (0, (x7 + 1)), (0, v68761), (0, v68778), (0, 0)]) rfl (by unfold w32; omega) rfl ?_
              refine ev_goto f354_41 ?_
              exact ih.2.1 _ _ _ _ _ _ _ _ _ _ _ g68780 k68780 (by omega) (by omega) (by omega) (by omega) (by omega) (by omega) (by omega) (by omega) (by omega) (by omega) (by omega) (by omega) (by omega) (by omega) (by omega) (((jw_ne e68780 (Or.inl (by decide))).trans ey0)) (by omega) (by omega) (((jw_ne e68780 (Or.inl (by decide))).trans ey1)) (by omega) (by omega) (((jw_ne e68780 (Or.inl (by decide))).trans ey2)) (by omega) (by omega) (Pw.step H0 (by omega) e68780 (ev68765) (by omega)) (by omega)
            · refine ev_iload rfl ?_
              refine ev_aload_n rfl ?_
              refine g_getp (r := 42) (c := 45) g1 ad42 (by decide) (by decide) rf42_4 ft12_4 ?_
              refine ev_bipush ?_
              refine ev_iload rfl ?_
              refine ev_imul (r := (9 * x7)) (by unfold w32; omega) ?_
              refine ev_iconst ?_
              refine ev_iload rfl ?_
              refine ev_imul (r := (3 * v68761)) (by unfold w32; omega) ?_
              refine ev_iadd (r := (3 * v68761 + 9 * x7)) (by unfold w32; omega) ?_
              refine ev_iload rfl ?_
              refine ev_iadd (r := (3 * v68761 + 9 * x7)) (by unfold w32; omega) ?_
              refine g_ialdv (v := v68767) g1 ad45 (by omega) (by omega) (ev68767) ?_
              refine ev_isub (r := ((-v68767) + v68778)) (by unfold w32; omega) ?_
              refine ev_istore (L' := [(2, 42), (0, a1), (0, a2), (0, a3), (0, v68763), (0, x5), (0, x6), (0, x7), (0, v68761), (0, ((-v68767) + v68778)), (0, 0)]) (Nat.le_of_ble_eq_true rfl) rfl ?_
              refine ev_iinc (w := 1) (L' := [(2, 42), (0, a1), (0, a2), (0, a3), (0, v68763), (0, x5), (0, x6), (0, x7), (0, v68761), (0, ((-v68767) + v68778)), (0, 1)]) rfl (by decide) rfl ?_
              refine ev_goto f354_109 ?_
              refine ev_iload rfl ?_
              refine ev_aload_n rfl ?_
              refine g_getp (r := 42) (c := 45) g1 ad42 (by decide) (by decide) rf42_4 ft12_4 ?_
              refine ev_bipush ?_
              refine ev_iload rfl ?_
              refine ev_imul (r := (9 * x7)) (by unfold w32; omega) ?_
              refine ev_iconst ?_
              refine ev_iload rfl ?_
              refine ev_imul (r := (3 * v68761)) (by unfold w32; omega) ?_
              refine ev_iadd (r := (3 * v68761 + 9 * x7)) (by unfold w32; omega) ?_
              refine ev_iload rfl ?_
              refine ev_iadd (r := (3 * v68761 + 9 * x7 + 1)) (by unfold w32; omega) ?_
              refine g_ialdv (v := v68769) g1 ad45 (by omega) (by omega) (ev68769) ?_
              refine ev_icmplt f354_161 (fun c68781 => ?_) (fun c68781 => ?_)
              · refine ev_aload_n rfl ?_
                refine g_getp (r := 42) (c := 77) g1 ad42 (by decide) (by decide) rf42_59 ft12_59 ?_
                refine ev_iload rfl ?_
                refine ev_iload rfl ?_
                refine g_iast g1 ad77 rt77 (fun _ => rfl) (by omega) (by omega) (by omega) (by omega) (fun h68782 e68782 g68782 => ?_)
                have k68782 := k1.wr e68782 rfl
                refine ev_iinc (w := (x7 + 1)) (L' := [(2, 42), (0, a1), (0, a2), (0, a3), (0, v68763), (0, x5), (0, x6), (0, (x7 + 1)), (0, v68761), (0, ((-v68767) + v68778)), (0, 1)]) rfl (by unfold w32; omega) rfl ?_
                refine ev_goto f354_41 ?_
                exact ih.2.1 _ _ _ _ _ _ _ _ _ _ _ g68782 k68782 (by omega) (by omega) (by omega) (by omega) (by omega) (by omega) (by omega) (by omega) (by omega) (by omega) (by omega) (by omega) (by omega) (by omega) (by omega) (((jw_ne e68782 (Or.inl (by decide))).trans ey0)) (by omega) (by omega) (((jw_ne e68782 (Or.inl (by decide))).trans ey1)) (by omega) (by omega) (((jw_ne e68782 (Or.inl (by decide))).trans ey2)) (by omega) (by omega) (Pw.step H0 (by omega) e68782 (ev68765) (by omega)) (by omega)
              · refine ev_iload rfl ?_
                refine ev_aload_n rfl ?_
                refine g_getp (r := 42) (c := 45) g1 ad42 (by decide) (by decide) rf42_4 ft12_4 ?_
                refine ev_bipush ?_
                refine ev_iload rfl ?_
                refine ev_imul (r := (9 * x7)) (by unfold w32; omega) ?_
                refine ev_iconst ?_
                refine ev_iload rfl ?_
                refine ev_imul (r := (3 * v68761)) (by unfold w32; omega) ?_
                refine ev_iadd (r := (3 * v68761 + 9 * x7)) (by unfold w32; omega) ?_
                refine ev_iload rfl ?_
                refine ev_iadd (r := (3 * v68761 + 9 * x7 + 1)) (by unfold w32; omega) ?_
                refine g_ialdv (v := v68769) g1 ad45 (by omega) (by omega) (ev68769) ?_
                refine ev_isub (r := ((-v68767) + (-v68769) + v68778)) (by unfold w32; omega) ?_
                refine ev_istore (L' := [(2, 42), (0, a1), (0, a2), (0, a3), (0, v68763), (0, x5), (0, x6), (0, x7), (0, v68761), (0, ((-v68767) + (-v68769) + v68778)), (0, 1)]) (Nat.le_of_ble_eq_true rfl) rfl ?_
                refine ev_iinc (w := 2) (L' := [(2, 42), (0, a1), (0, a2), (0, a3), (0, v68763), (0, x5), (0, x6), (0, x7), (0, v68761), (0, ((-v68767) + (-v68769) + v68778)), (0, 2)]) rfl (by decide) rfl ?_
                refine ev_goto f354_109 ?_
                refine ev_iload rfl ?_
                refine ev_aload_n rfl ?_
                refine g_getp (r := 42) (c := 45) g1 ad42 (by decide) (by decide) rf42_4 ft12_4 ?_
                refine ev_bipush ?_
                refine ev_iload rfl ?_
                refine ev_imul (r := (9 * x7)) (by unfold w32; omega) ?_
                refine ev_iconst ?_
                refine ev_iload rfl ?_
                refine ev_imul (r := (3 * v68761)) (by unfold w32; omega) ?_
                refine ev_iadd (r := (3 * v68761 + 9 * x7)) (by unfold w32; omega) ?_
                refine ev_iload rfl ?_
                refine ev_iadd (r := (3 * v68761 + 9 * x7 + 2)) (by unfold w32; omega) ?_
                refine g_ialdv (v := v68776) g1 ad45 (by omega) (by omega) (ev68776) ?_
                refine ev_icmplt f354_161 (fun c68783 => ?_) (fun c68783 => absurd c68783 (by omega))
                refine ev_aload_n rfl ?_
                refine g_getp (r := 42) (c := 77) g1 ad42 (by decide) (by decide) rf42_59 ft12_59 ?_
                refine ev_iload rfl ?_
                refine ev_iload rfl ?_
                refine g_iast g1 ad77 rt77 (fun _ => rfl) (by omega) (by omega) (by omega) (by omega) (fun h68784 e68784 g68784 => ?_)
                have k68784 := k1.wr e68784 rfl
                refine ev_iinc (w := (x7 + 1)) (L' := [(2, 42), (0, a1), (0, a2), (0, a3), (0, v68763), (0, x5), (0, x6), (0, (x7 + 1)), (0, v68761), (0, ((-v68767) + (-v68769) + v68778)), (0, 2)]) rfl (by unfold w32; omega) rfl ?_
                refine ev_goto f354_41 ?_
                exact ih.2.1 _ _ _ _ _ _ _ _ _ _ _ g68784 k68784 (by omega) (by omega) (by omega) (by omega) (by omega) (by omega) (by omega) (by omega) (by omega) (by omega) (by omega) (by omega) (by omega) (by omega) (by omega) (((jw_ne e68784 (Or.inl (by decide))).trans ey0)) (by omega) (by omega) (((jw_ne e68784 (Or.inl (by decide))).trans ey1)) (by omega) (by omega) (((jw_ne e68784 (Or.inl (by decide))).trans ey2)) (by omega) (by omega) (Pw.step H0 (by omega) e68784 (ev68765) (by omega)) (by omega)
        · refine ev_iconst ?_
          refine ev_goto f354_76 ?_
          refine ev_istore (L' := [(2, 42), (0, a1), (0, a2), (0, a3), (0, x4), (0, x5), (0, x6), (0, x7), (0, 0), j9, j10]) (Nat.le_of_ble_eq_true rfl) rfl ?_
          refine ev_iload rfl ?_
          refine ev_ldc_w ?_
          refine g_imulG (fun v68785 ev68785 lv68785 uv68785 => ?_)
          refine ev_sipush ?_
          refine g_iaddG (fun v68786 ev68786 lv68786 uv68786 => ?_)
          refine ev_istore (L' := [(2, 42), (0, a1), (0, a2), (0, a3), (0, v68786), (0, x5), (0, x6), (0, x7), (0, 0), j9, j10]) (Nat.le_of_ble_eq_true rfl) rfl ?_
          refine ev_iload rfl ?_
          refine ev_bipush ?_
          refine g_iushrB (s := 8) (hi := 16777215) (by decide) (by decide) (by decide) (fun v68787 ev68787 lv68787 uv68787 => ?_)
          refine ev_aload_n rfl ?_
          refine ev_iload rfl ?_
          refine ev_iload rfl ?_
          refine ev_in (d := 1) (a := 0) (b := 0) (cd' := c251_0) (m := 5) (L0 := [(2, 42), (0, x7), (0, 0), (9, 0), (9, 0)]) (jcall_v (A := [(0, 0), (0, x7)]) (S' := [(0, v68787)]) (r := 42) rfl (g1.lt ad42) (g1.tg ad42) (Nat.le_of_ble_eq_true rfl)) (by decide) ml251 pp251 (Nat.le_of_ble_eq_true rfl) rfl (by decide) (by decide) ?_
          refine ev_iconst ?_
          refine ev_istore_n (L' := [(2, 42), (0, x7), (0, 0), (0, 0), (9, 0)]) (Nat.le_of_ble_eq_true rfl) rfl ?_
          refine ev_iconst ?_
          refine ev_istore (L' := [(2, 42), (0, x7), (0, 0), (0, 0), (0, 0)]) (Nat.le_of_ble_eq_true rfl) rfl ?_
          refine ev_iload rfl ?_
          refine ev_aload_n rfl ?_
          refine g_getp (r := 42) (c := 43) g1 ad42 (by decide) (by decide) rf42_2 ft12_2 ?_
          refine ev_iload_n rfl ?_
          refine g_iald g1 ad43 rt43 (by omega) (by omega) (fun v68788 ev68788 lv68788 uv68788 => ?_)
          have xv68788 := (g1.ex.2.1 (x7 : Int).toNat (by rw [(ey2)]; omega))
          rw [ev68788] at xv68788
          refine ev_icmpge f251_41 (fun c68789 => absurd c68789 (by omega)) (fun c68789 => ?_)
          refine ev_iload_n rfl ?_
          refine ev_aload_n rfl ?_
          refine g_getp (r := 42) (c := 45) g1 ad42 (by decide) (by decide) rf42_4 ft12_4 ?_
          refine ev_bipush ?_
          refine ev_iload_n rfl ?_
          refine ev_imul (r := (9 * x7)) (by unfold w32; omega) ?_
          refine ev_iconst ?_
          refine ev_iload_n rfl ?_
          refine ev_imul (r := 0) (by decide) ?_
          refine ev_iadd (r := (9 * x7)) (by unfold w32; omega) ?_
          refine ev_iload rfl ?_
          refine ev_iadd (r := (9 * x7)) (by unfold w32; omega) ?_
          refine g_iald g1 ad45 rt45 (by omega) (by omega) (fun v68790 ev68790 lv68790 uv68790 => ?_)
          have xv68790 := (g1.ex.2.2.1 ((9 * x7) : Int).toNat (by rw [(ey2)]; omega))
          rw [ev68790] at xv68790
          refine ev_iadd (r := v68790) (by unfold w32; omega) ?_
          refine ev_istore_n (L' := [(2, 42), (0, x7), (0, 0), (0, v68790), (0, 0)]) (Nat.le_of_ble_eq_true rfl) rfl ?_
          refine ev_iinc (w := 1) (L' := [(2, 42), (0, x7), (0, 0), (0, v68790), (0, 1)]) rfl (by decide) rfl ?_
          refine ev_goto f251_5 ?_
          refine ev_iload rfl ?_
          refine ev_aload_n rfl ?_
          refine g_getp (r := 42) (c := 43) g1 ad42 (by decide) (by decide) rf42_2 ft12_2 ?_
          refine ev_iload_n rfl ?_
          refine g_ialdv (v := v68788) g1 ad43 (by omega) (by omega) (ev68788) ?_
          refine ev_icmpge f251_41 (fun c68791 => absurd c68791 (by omega)) (fun c68791 => ?_)
          refine ev_iload_n rfl ?_
          refine ev_aload_n rfl ?_
          refine g_getp (r := 42) (c := 45) g1 ad42 (by decide) (by decide) rf42_4 ft12_4 ?_
          refine ev_bipush ?_
          refine ev_iload_n rfl ?_
          refine ev_imul (r := (9 * x7)) (by unfold w32; omega) ?_
          refine ev_iconst ?_
          refine ev_iload_n rfl ?_
          refine ev_imul (r := 0) (by decide) ?_
          refine ev_iadd (r := (9 * x7)) (by unfold w32; omega) ?_
          refine ev_iload rfl ?_
          refine ev_iadd (r := (9 * x7 + 1)) (by unfold w32; omega) ?_
          refine g_iald g1 ad45 rt45 (by omega) (by omega) (fun v68792 ev68792 lv68792 uv68792 => ?_)
          have xv68792 := (g1.ex.2.2.1 ((9 * x7 + 1) : Int).toNat (by rw [(ey2)]; omega))
          rw [ev68792] at xv68792
          refine ev_iadd (r := (v68790 + v68792)) (by unfold w32; omega) ?_
          refine ev_istore_n (L' := [(2, 42), (0, x7), (0, 0), (0, (v68790 + v68792)), (0, 1)]) (Nat.le_of_ble_eq_true rfl) rfl ?_
          refine ev_iinc (w := 2) (L' := [(2, 42), (0, x7), (0, 0), (0, (v68790 + v68792)), (0, 2)]) rfl (by decide) rfl ?_
          refine ev_goto f251_5 ?_
          refine ev_iload rfl ?_
          refine ev_aload_n rfl ?_
          refine g_getp (r := 42) (c := 43) g1 ad42 (by decide) (by decide) rf42_2 ft12_2 ?_
          refine ev_iload_n rfl ?_
          refine g_ialdv (v := v68788) g1 ad43 (by omega) (by omega) (ev68788) ?_
          refine ev_icmpge f251_41 (fun c68793 => ?_) (fun c68793 => ?_)
          · refine ev_iload_n rfl ?_
            refine ev_ret rfl (by decide) (by decide) ?_
            show jEv _ _ _ _ _ _ _ (_, [(2, 42), (0, a1), (0, a2), (0, a3), (0, v68786), (0, x5), (0, x6), (0, x7), (0, 0), j9, j10], [(0, (v68790 + v68792)), (0, v68787)], _, _, _)
            refine g_iremQ (by omega) (by omega) (fun v68794 ev68794 lv68794 uv68794 wv68794 => ?_)
            refine ev_istore (L' := [(2, 42), (0, a1), (0, a2), (0, a3), (0, v68786), (0, x5), (0, x6), (0, x7), (0, 0), (0, v68794), j10]) (Nat.le_of_ble_eq_true rfl) rfl ?_
            refine ev_iconst ?_
            refine ev_istore (L' := [(2, 42), (0, a1), (0, a2), (0, a3), (0, v68786), (0, x5), (0, x6), (0, x7), (0, 0), (0, v68794), (0, 0)]) (Nat.le_of_ble_eq_true rfl) rfl ?_
            refine ev_iload rfl ?_
            refine ev_aload_n rfl ?_
            refine g_getp (r := 42) (c := 45) g1 ad42 (by decide) (by decide) rf42_4 ft12_4 ?_
            refine ev_bipush ?_
            refine ev_iload rfl ?_
            refine ev_imul (r := (9 * x7)) (by unfold w32; omega) ?_
            refine ev_iconst ?_
            refine ev_iload rfl ?_
            refine ev_imul (r := 0) (by decide) ?_
            refine ev_iadd (r := (9 * x7)) (by unfold w32; omega) ?_
            refine ev_iload rfl ?_
            refine ev_iadd (r := (9 * x7)) (by unfold w32; omega) ?_
            refine g_ialdv (v := v68790) g1 ad45 (by omega) (by omega) (ev68790) ?_
            refine ev_icmplt f354_161 (fun c68795 => ?_) (fun c68795 => ?_)
            · refine ev_aload_n rfl ?_
              refine g_getp (r := 42) (c := 77) g1 ad42 (by decide) (by decide) rf42_59 ft12_59 ?_
              refine ev_iload rfl ?_
              refine ev_iload rfl ?_
              refine g_iast g1 ad77 rt77 (fun _ => rfl) (by omega) (by omega) (by omega) (by omega) (fun h68796 e68796 g68796 => ?_)
              have k68796 := k1.wr e68796 rfl
              refine ev_iinc (w := (x7 + 1)) (L' := [(2, 42), (0, a1), (0, a2), (0, a3), (0, v68786), (0, x5), (0, x6), (0, (x7 + 1)), (0, 0), (0, v68794), (0, 0)]) rfl (by unfold w32; omega) rfl ?_
              refine ev_goto f354_41 ?_
              exact ih.2.1 _ _ _ _ _ _ _ _ _ _ _ g68796 k68796 (by omega) (by omega) (by omega) (by omega) (by omega) (by omega) (by omega) (by omega) (by omega) (by omega) (by omega) (by omega) (by omega) (by omega) (by omega) (((jw_ne e68796 (Or.inl (by decide))).trans ey0)) (by omega) (by omega) (((jw_ne e68796 (Or.inl (by decide))).trans ey1)) (by omega) (by omega) (((jw_ne e68796 (Or.inl (by decide))).trans ey2)) (by omega) (by omega) (Pw.step H0 (by omega) e68796 (ev68788) (by omega)) (by omega)
            · refine ev_iload rfl ?_
              refine ev_aload_n rfl ?_
              refine g_getp (r := 42) (c := 45) g1 ad42 (by decide) (by decide) rf42_4 ft12_4 ?_
              refine ev_bipush ?_
              refine ev_iload rfl ?_
              refine ev_imul (r := (9 * x7)) (by unfold w32; omega) ?_
              refine ev_iconst ?_
              refine ev_iload rfl ?_
              refine ev_imul (r := 0) (by decide) ?_
              refine ev_iadd (r := (9 * x7)) (by unfold w32; omega) ?_
              refine ev_iload rfl ?_
              refine ev_iadd (r := (9 * x7)) (by unfold w32; omega) ?_
              refine g_ialdv (v := v68790) g1 ad45 (by omega) (by omega) (ev68790) ?_
              refine ev_isub (r := ((-v68790) + v68794)) (by unfold w32; omega) ?_
              refine ev_istore (L' := [(2, 42), (0, a1), (0, a2), (0, a3), (0, v68786), (0, x5), (0, x6), (0, x7), (0, 0), (0, ((-v68790) + v68794)), (0, 0)]) (Nat.le_of_ble_eq_true rfl) rfl ?_
              refine ev_iinc (w := 1) (L' := [(2, 42), (0, a1), (0, a2), (0, a3), (0, v68786), (0, x5), (0, x6), (0, x7), (0, 0), (0, ((-v68790) + v68794)), (0, 1)]) rfl (by decide) rfl ?_
              refine ev_goto f354_109 ?_
              refine ev_iload rfl ?_
              refine ev_aload_n rfl ?_
              refine g_getp (r := 42) (c := 45) g1 ad42 (by decide) (by decide) rf42_4 ft12_4 ?_
              refine ev_bipush ?_
              refine ev_iload rfl ?_
              refine ev_imul (r := (9 * x7)) (by unfold w32; omega) ?_
              refine ev_iconst ?_
              refine ev_iload rfl ?_
              refine ev_imul (r := 0) (by decide) ?_
              refine ev_iadd (r := (9 * x7)) (by unfold w32; omega) ?_
              refine ev_iload rfl ?_
              refine ev_iadd (r := (9 * x7 + 1)) (by unfold w32; omega) ?_
              refine g_ialdv (v := v68792) g1 ad45 (by omega) (by omega) (ev68792) ?_
              refine ev_icmplt f354_161 (fun c68797 => ?_) (fun c68797 => absurd c68797 (by omega))
              refine ev_aload_n rfl ?_
              refine g_getp (r := 42) (c := 77) g1 ad42 (by decide) (by decide) rf42_59 ft12_59 ?_
              refine ev_iload rfl ?_
              refine ev_iload rfl ?_
              refine g_iast g1 ad77 rt77 (fun _ => rfl) (by omega) (by omega) (by omega) (by omega) (fun h68798 e68798 g68798 => ?_)
              have k68798 := k1.wr e68798 rfl
              refine ev_iinc (w := (x7 + 1)) (L' := [(2, 42), (0, a1), (0, a2), (0, a3), (0, v68786), (0, x5), (0, x6), (0, (x7 + 1)), (0, 0), (0, ((-v68790) + v68794)), (0, 1)]) rfl (by unfold w32; omega) rfl ?_
              refine ev_goto f354_41 ?_
              exact ih.2.1 _ _ _ _ _ _ _ _ _ _ _ g68798 k68798 (by omega) (by omega) (by omega) (by omega) (by omega) (by omega) (by omega) (by omega) (by omega) (by omega) (by omega) (by omega) (by omega) (by omega) (by omega) (((jw_ne e68798 (Or.inl (by decide))).trans ey0)) (by omega) (by omega) (((jw_ne e68798 (Or.inl (by decide))).trans ey1)) (by omega) (by omega) (((jw_ne e68798 (Or.inl (by decide))).trans ey2)) (by omega) (by omega) (Pw.step H0 (by omega) e68798 (ev68788) (by omega)) (by omega)
          · refine ev_iload_n rfl ?_
            refine ev_aload_n rfl ?_
            refine g_getp (r := 42) (c := 45) g1 ad42 (by decide) (by decide) rf42_4 ft12_4 ?_
            refine ev_bipush ?_
            refine ev_iload_n rfl ?_
            refine ev_imul (r := (9 * x7)) (by unfold w32; omega) ?_
            refine ev_iconst ?_
            refine ev_iload_n rfl ?_
            refine ev_imul (r := 0) (by decide) ?_
            refine ev_iadd (r := (9 * x7)) (by unfold w32; omega) ?_
            refine ev_iload rfl ?_
            refine ev_iadd (r := (9 * x7 + 2)) (by unfold w32; omega) ?_
            refine g_iald g1 ad45 rt45 (by omega) (by omega) (fun v68799 ev68799 lv68799 uv68799 => ?_)
            have xv68799 := (g1.ex.2.2.1 ((9 * x7 + 2) : Int).toNat (by rw [(ey2)]; omega))
            rw [ev68799] at xv68799
            refine ev_iadd (r := (v68790 + v68792 + v68799)) (by unfold w32; omega) ?_
            refine ev_istore_n (L' := [(2, 42), (0, x7), (0, 0), (0, (v68790 + v68792 + v68799)), (0, 2)]) (Nat.le_of_ble_eq_true rfl) rfl ?_
            refine ev_iinc (w := 3) (L' := [(2, 42), (0, x7), (0, 0), (0, (v68790 + v68792 + v68799)), (0, 3)]) rfl (by decide) rfl ?_
            refine ev_goto f251_5 ?_
            refine ev_iload rfl ?_
            refine ev_aload_n rfl ?_
            refine g_getp (r := 42) (c := 43) g1 ad42 (by decide) (by decide) rf42_2 ft12_2 ?_
            refine ev_iload_n rfl ?_
            refine g_ialdv (v := v68788) g1 ad43 (by omega) (by omega) (ev68788) ?_
            refine ev_icmpge f251_41 (fun c68800 => ?_) (fun c68800 => absurd c68800 (by omega))
            refine ev_iload_n rfl ?_
            refine ev_ret rfl (by decide) (by decide) ?_
            show jEv _ _ _ _ _ _ _ (_, [(2, 42), (0, a1), (0, a2), (0, a3), (0, v68786), (0, x5), (0, x6), (0, x7), (0, 0), j9, j10], [(0, (v68790 + v68792 + v68799)), (0, v68787)], _, _, _)
            refine g_iremQ (by omega) (by omega) (fun v68801 ev68801 lv68801 uv68801 wv68801 => ?_)
            refine ev_istore (L' := [(2, 42), (0, a1), (0, a2), (0, a3), (0, v68786), (0, x5), (0, x6), (0, x7), (0, 0), (0, v68801), j10]) (Nat.le_of_ble_eq_true rfl) rfl ?_
            refine ev_iconst ?_
            refine ev_istore (L' := [(2, 42), (0, a1), (0, a2), (0, a3), (0, v68786), (0, x5), (0, x6), (0, x7), (0, 0), (0, v68801), (0, 0)]) (Nat.le_of_ble_eq_true rfl) rfl ?_
            refine ev_iload rfl ?_
            refine ev_aload_n rfl ?_
            refine g_getp (r := 42) (c := 45) g1 ad42 (by decide) (by decide) rf42_4 ft12_4 ?_
            refine ev_bipush ?_
            refine ev_iload rfl ?_
            refine ev_imul (r := (9 * x7)) (by unfold w32; omega) ?_
            refine ev_iconst ?_
            refine ev_iload rfl ?_
            refine ev_imul (r := 0) (by decide) ?_
            refine ev_iadd (r := (9 * x7)) (by unfold w32; omega) ?_
            refine ev_iload rfl ?_
            refine ev_iadd (r := (9 * x7)) (by unfold w32; omega) ?_
            refine g_ialdv (v := v68790) g1 ad45 (by omega) (by omega) (ev68790) ?_
            refine ev_icmplt f354_161 (fun c68802 => ?_) (fun c68802 => ?_)
            · refine ev_aload_n rfl ?_
              refine g_getp (r := 42) (c := 77) g1 ad42 (by decide) (by decide) rf42_59 ft12_59 ?_
              refine ev_iload rfl ?_
              refine ev_iload rfl ?_
              refine g_iast g1 ad77 rt77 (fun _ => rfl) (by omega) (by omega) (by omega) (by omega) (fun h68803 e68803 g68803 => ?_)
              have k68803 := k1.wr e68803 rfl
              refine ev_iinc (w := (x7 + 1)) (L' := [(2, 42), (0, a1), (0, a2), (0, a3), (0, v68786), (0, x5), (0, x6), (0, (x7 + 1)), (0, 0), (0, v68801), (0, 0)]) rfl (by unfold w32; omega) rfl ?_
              refine ev_goto f354_41 ?_
              exact ih.2.1 _ _ _ _ _ _ _ _ _ _ _ g68803 k68803 (by omega) (by omega) (by omega) (by omega) (by omega) (by omega) (by omega) (by omega) (by omega) (by omega) (by omega) (by omega) (by omega) (by omega) (by omega) (((jw_ne e68803 (Or.inl (by decide))).trans ey0)) (by omega) (by omega) (((jw_ne e68803 (Or.inl (by decide))).trans ey1)) (by omega) (by omega) (((jw_ne e68803 (Or.inl (by decide))).trans ey2)) (by omega) (by omega) (Pw.step H0 (by omega) e68803 (ev68788) (by omega)) (by omega)
            · refine ev_iload rfl ?_
              refine ev_aload_n rfl ?_
              refine g_getp (r := 42) (c := 45) g1 ad42 (by decide) (by decide) rf42_4 ft12_4 ?_
              refine ev_bipush ?_
              refine ev_iload rfl ?_
              refine ev_imul (r := (9 * x7)) (by unfold w32; omega) ?_
              refine ev_iconst ?_
              refine ev_iload rfl ?_
              refine ev_imul (r := 0) (by decide) ?_
              refine ev_iadd (r := (9 * x7)) (by unfold w32; omega) ?_
              refine ev_iload rfl ?_
              refine ev_iadd (r := (9 * x7)) (by unfold w32; omega) ?_
              refine g_ialdv (v := v68790) g1 ad45 (by omega) (by omega) (ev68790) ?_
              refine ev_isub (r := ((-v68790) + v68801)) (by unfold w32; omega) ?_
              refine ev_istore (L' := [(2, 42), (0, a1), (0, a2), (0, a3), (0, v68786), (0, x5), (0, x6), (0, x7), (0, 0), (0, ((-v68790) + v68801)), (0, 0)]) (Nat.le_of_ble_eq_true rfl) rfl ?_
              refine ev_iinc (w := 1) (L' := [(2, 42), (0, a1), (0, a2), (0, a3), (0, v68786), (0, x5), (0, x6), (0, x7), (0, 0), (0, ((-v68790) + v68801)), (0, 1)]) rfl (by decide) rfl ?_
              refine ev_goto f354_109 ?_
              refine ev_iload rfl ?_
              refine ev_aload_n rfl ?_
              refine g_getp (r := 42) (c := 45) g1 ad42 (by decide) (by decide) rf42_4 ft12_4 ?_
              refine ev_bipush ?_
              refine ev_iload rfl ?_
              refine ev_imul (r := (9 * x7)) (by unfold w32; omega) ?_
              refine ev_iconst ?_
              refine ev_iload rfl ?_
              refine ev_imul (r := 0) (by decide) ?_
              refine ev_iadd (r := (9 * x7)) (by unfold w32; omega) ?_
              refine ev_iload rfl ?_
              refine ev_iadd (r := (9 * x7 + 1)) (by unfold w32; omega) ?_
              refine g_ialdv (v := v68792) g1 ad45 (by omega) (by omega) (ev68792) ?_
              refine ev_icmplt f354_161 (fun c68804 => ?_) (fun c68804 => ?_)
              · refine ev_aload_n rfl ?_
                refine g_getp (r := 42) (c := 77) g1 ad42 (by decide) (by decide) rf42_59 ft12_59 ?_
                refine ev_iload rfl ?_
                refine ev_iload rfl ?_
                refine g_iast g1 ad77 rt77 (fun _ => rfl) (by omega) (by omega) (by omega) (by omega) (fun h68805 e68805 g68805 => ?_)
                have k68805 := k1.wr e68805 rfl
                refine ev_iinc (w := (x7 + 1)) (L' := [(2, 42), (0, a1), (0, a2), (0, a3), (0, v68786), (0, x5), (0, x6), (0, (x7 + 1)), (0, 0), (0, ((-v68790) + v68801)), (0, 1)]) rfl (by unfold w32; omega) rfl ?_
                refine ev_goto f354_41 ?_
                exact ih.2.1 _ _ _ _ _ _ _ _ _ _ _ g68805 k68805 (by omega) (by omega) (by omega) (by omega) (by omega) (by omega) (by omega) (by omega) (by omega) (by omega) (by omega) (by omega) (by omega) (by omega) (by omega) (((jw_ne e68805 (Or.inl (by decide))).trans ey0)) (by omega) (by omega) (((jw_ne e68805 (Or.inl (by decide))).trans ey1)) (by omega) (by omega) (((jw_ne e68805 (Or.inl (by decide))).trans ey2)) (by omega) (by omega) (Pw.step H0 (by omega) e68805 (ev68788) (by omega)) (by omega)
              · refine ev_iload rfl ?_
                refine ev_aload_n rfl ?_
                refine g_getp (r := 42) (c := 45) g1 ad42 (by decide) (by decide) rf42_4 ft12_4 ?_
                refine ev_bipush ?_
                refine ev_iload rfl ?_
                refine ev_imul (r := (9 * x7)) (by unfold w32; omega) ?_
                refine ev_iconst ?_
                refine ev_iload rfl ?_
                refine ev_imul (r := 0) (by decide) ?_
                refine ev_iadd (r := (9 * x7)) (by unfold w32; omega) ?_
                refine ev_iload rfl ?_
                refine ev_iadd (r := (9 * x7 + 1)) (by unfold w32; omega) ?_
                refine g_ialdv (v := v68792) g1 ad45 (by omega) (by omega) (ev68792) ?_
                refine ev_isub (r := ((-v68790) + (-v68792) + v68801)) (by unfold w32; omega) ?_
                refine ev_istore (L' := [(2, 42), (0, a1), (0, a2), (0, a3), (0, v68786), (0, x5), (0, x6), (0, x7), (0, 0), (0, ((-v68790) + (-v68792) + v68801)), (0, 1)]) (Nat.le_of_ble_eq_true rfl) rfl ?_
                refine ev_iinc (w := 2) (L' := [(2, 42), (0, a1), (0, a2), (0, a3), (0, v68786), (0, x5), (0, x6), (0, x7), (0, 0), (0, ((-v68790) + (-v68792) + v68801)), (0, 2)]) rfl (by decide) rfl ?_
                refine ev_goto f354_109 ?_
                refine ev_iload rfl ?_
                refine ev_aload_n rfl ?_
                refine g_getp (r := 42) (c := 45) g1 ad42 (by decide) (by decide) rf42_4 ft12_4 ?_
                refine ev_bipush ?_
                refine ev_iload rfl ?_
                refine ev_imul (r := (9 * x7)) (by unfold w32; omega) ?_
                refine ev_iconst ?_
                refine ev_iload rfl ?_
                refine ev_imul (r := 0) (by decide) ?_
                refine ev_iadd (r := (9 * x7)) (by unfold w32; omega) ?_
                refine ev_iload rfl ?_
                refine ev_iadd (r := (9 * x7 + 2)) (by unfold w32; omega) ?_
                refine g_ialdv (v := v68799) g1 ad45 (by omega) (by omega) (ev68799) ?_
                refine ev_icmplt f354_161 (fun c68806 => ?_) (fun c68806 => absurd c68806 (by omega))
                refine ev_aload_n rfl ?_
                refine g_getp (r := 42) (c := 77) g1 ad42 (by decide) (by decide) rf42_59 ft12_59 ?_
                refine ev_iload rfl ?_
                refine ev_iload rfl ?_
                refine g_iast g1 ad77 rt77 (fun _ => rfl) (by omega) (by omega) (by omega) (by omega) (fun h68807 e68807 g68807 => ?_)
                have k68807 := k1.wr e68807 rfl
                refine ev_iinc (w := (x7 + 1)) (L' := [(2, 42), (0, a1), (0, a2), (0, a3), (0, v68786), (0, x5), (0, x6), (0, (x7 + 1)), (0, 0), (0, ((-v68790) + (-v68792) + v68801)), (0, 2)]) rfl (by unfold w32; omega) rfl ?_
                refine ev_goto f354_41 ?_
                exact ih.2.1 _ _ _ _ _ _ _ _ _ _ _ g68807 k68807 (by omega) (by omega) (by omega) (by omega) (by omega) (by omega) (by omega) (by omega) (by omega) (by omega) (by omega) (by omega) (by omega) (by omega) (by omega) (((jw_ne e68807 (Or.inl (by decide))).trans ey0)) (by omega) (by omega) (((jw_ne e68807 (Or.inl (by decide))).trans ey1)) (by omega) (by omega) (((jw_ne e68807 (Or.inl (by decide))).trans ey2)) (by omega) (by omega) (Pw.step H0 (by omega) e68807 (ev68788) (by omega)) (by omega)
    · intro h1 x4 x5 x6 y0 y1 y2 z0 j8 j9 j10 g1 k1 b0 b1 b2 b3 b4 b5 b6 b7 b8 b9 b10 b11 b12 b13 b14 b15 ey0 ly0 uy0 ey1 ly1 uy1 ey2 ly2 uy2 H0 hm
      refine ev_aload_n rfl ?_
      refine g_getp (r := 42) (c := 49) g1 ad42 (by decide) (by decide) rf42_11 ft12_11 ?_
      refine ev_iload rfl ?_
      refine g_bald g1 ad49 rt49 (by omega) (by omega) (fun v68808 ev68808 lv68808 uv68808 => ?_)
      refine ev_ifeq f354_266 (fun c68809 => ?_) (fun c68809 => ?_)
      · refine ev_iload rfl ?_
        refine ev_aload_n rfl ?_
        refine g_getp (r := 42) (c := 50) g1 ad42 (by decide) (by decide) rf42_12 ft12_12 ?_
        refine ev_iload rfl ?_
        refine g_iald g1 ad50 rt50 (by omega) (by omega) (fun v68810 ev68810 lv68810 uv68810 => ?_)
        refine g_iaddG (fun v68811 ev68811 lv68811 uv68811 => ?_)
        refine ev_istore (L' := [(2, 42), (0, a1), (0, a2), (0, a3), (0, x4), (0, v68811), (0, x6), (0, (100 * a1 + z0)), j8, j9, j10]) (Nat.le_of_ble_eq_true rfl) rfl ?_
        refine ev_iinc (w := (x6 + 1)) (L' := [(2, 42), (0, a1), (0, a2), (0, a3), (0, x4), (0, v68811), (0, (x6 + 1)), (0, (100 * a1 + z0)), j8, j9, j10]) rfl (by unfold w32; omega) rfl ?_
        refine ev_goto f354_32 ?_
        exact ih.1 _ _ _ _ _ _ _ _ _ _ _ g1 k1 (by omega) (by omega) (by omega) (by omega) (by omega) (by omega) (by omega) (by omega) (by omega) (by omega) (by omega) (by omega) (by omega) (ey0) (by omega) (by omega) (ey1) (by omega) (by omega) (ey2) (by omega) (by omega) (by omega)
      · refine ev_aload_n rfl ?_
        refine g_getp (r := 42) (c := 49) g1 ad42 (by decide) (by decide) rf42_11 ft12_11 ?_
        refine ev_iload rfl ?_
        refine g_baldv (v := v68808) g1 ad49 (by omega) (by omega) (ev68808) ?_
        refine ev_iconst ?_
        refine ev_icmpne f354_213 (fun c68812 => ?_) (fun c68812 => ?_)
        · refine ev_aload_n rfl ?_
          refine g_getp (r := 42) (c := 77) g1 ad42 (by decide) (by decide) rf42_59 ft12_59 ?_
          refine ev_aload_n rfl ?_
          refine g_getp (r := 42) (c := 50) g1 ad42 (by decide) (by decide) rf42_12 ft12_12 ?_
          refine ev_iload rfl ?_
          refine g_iald g1 ad50 rt50 (by omega) (by omega) (fun v68813 ev68813 lv68813 uv68813 => ?_)
          have xv68813 := g1.nd2 (q := a1) (n := z0) (by omega) (by rw [(ey0)]; omega) (by omega) (by rw [(ey1)]; omega) (i := (100 * a1 + z0)) (by omega) (by rw [(ev68808)]; omega) ev68813
          rw [(ey2)] at xv68813
          refine g_iald g1 ad77 rt77 (by omega) (by omega) (fun v68814 ev68814 lv68814 uv68814 => ?_)
          obtain ⟨v68815, ev68815, lv68815, uv68815⟩ := g1.rd ad43 (show (v68813).toNat < 4 by omega) (rt43 _)
          have zv68814 := Pw.at H0 (by omega) (by omega) (ev68814) ev68815
          refine ev_istore (L' := [(2, 42), (0, a1), (0, a2), (0, a3), (0, x4), (0, x5), (0, x6), (0, (100 * a1 + z0)), (0, v68814), j9, j10]) (Nat.le_of_ble_eq_true rfl) rfl ?_
          refine ev_iload rfl ?_
          refine ev_aload_n rfl ?_
          refine g_getp (r := 42) (c := 52) g1 ad42 (by decide) (by decide) rf42_14 ft12_14 ?_
          refine ev_iconst ?_
          refine ev_iload rfl ?_
          refine ev_imul (r := (400 * a1 + 4 * z0)) (by unfold w32; omega) ?_
          refine ev_iload rfl ?_
          refine ev_iadd (r := (400 * a1 + v68814 + 4 * z0)) (by unfold w32; omega) ?_
          refine g_iald g1 ad52 rt52 (by omega) (by omega) (fun v68816 ev68816 lv68816 uv68816 => ?_)
          refine g_isubG (fun v68817 ev68817 lv68817 uv68817 => ?_)
          refine ev_istore (L' := [(2, 42), (0, a1), (0, a2), (0, a3), (0, x4), (0, v68817), (0, x6), (0, (100 * a1 + z0)), (0, v68814), j9, j10]) (Nat.le_of_ble_eq_true rfl) rfl ?_
          refine ev_bipush ?_
          refine ev_iload_n rfl ?_
          refine ev_imul (r := (100 * a1)) (by unfold w32; omega) ?_
          refine ev_aload_n rfl ?_
          refine g_getp (r := 42) (c := 51) g1 ad42 (by decide) (by decide) rf42_13 ft12_13 ?_
          refine ev_iconst ?_
          refine ev_iload rfl ?_
          refine ev_imul (r := (400 * a1 + 4 * z0)) (by unfold w32; omega) ?_
          refine ev_iload rfl ?_
          refine ev_iadd (r := (400 * a1 + v68814 + 4 * z0)) (by unfold w32; omega) ?_
          refine g_bald g1 ad51 rt51 (by omega) (by omega) (fun v68818 ev68818 lv68818 uv68818 => ?_)
          have xv68818 := g1.nd2c (q := a1) (n := z0) (by omega) (by rw [(ey0)]; omega) (by omega) (by rw [(ey1)]; omega) (i := (100 * a1 + z0)) (by omega) (by rw [(ev68808)]; omega) (ev68813) (t := v68813) (by omega) (ev68815) (w := v68814) (by omega) (by omega) (j := (400 * a1 + v68814 + 4 * z0)) (by omega) ev68818
          rw [(ey1)] at xv68818
          refine ev_iadd (r := (100 * a1 + v68818)) (by unfold w32; omega) ?_
          refine ev_istore (L' := [(2, 42), (0, a1), (0, a2), (0, a3), (0, x4), (0, v68817), (0, x6), (0, (100 * a1 + v68818)), (0, v68814), j9, j10]) (Nat.le_of_ble_eq_true rfl) rfl ?_
          refine ev_goto f354_182 ?_
          exact ih.2.2 _ _ _ _ _ _ _ v68818 _ _ _ g1 k1 (by omega) (by omega) (by omega) (by omega) (by omega) (by omega) (by omega) (by omega) (by omega) (by omega) (by omega) (by omega) (by omega) (by omega) (by omega) (by omega) (ey0) (by omega) (by omega) (ey1) (by omega) (by omega) (ey2) (by omega) (by omega) H0 (by omega)
        · refine ev_aload_n rfl ?_
          refine g_getp (r := 42) (c := 53) g1 ad42 (by decide) (by decide) rf42_15 ft12_15 ?_
          refine ev_iload rfl ?_
          refine g_bald g1 ad53 rt53 (by omega) (by omega) (fun v68819 ev68819 lv68819 uv68819 => ?_)
          obtain ⟨v68820, ev68820, lv68820, uv68820⟩ := g1.rd ad50 (show ((100 * a1 + z0)).toNat < 700 by omega) (rt50 _)
          have xv68820 := g1.nd1 (q := a1) (n := z0) (by omega) (by rw [(ey0)]; omega) (by omega) (by rw [(ey1)]; omega) (i := (100 * a1 + z0)) (by omega) (by rw [(ev68808)]; omega) ev68820
          have xv68819 := g1.nd1p (q := a1) (n := z0) (by omega) (by rw [(ey0)]; omega) (by omega) (by rw [(ey1)]; omega) (i := (100 * a1 + z0)) (by omega) (by rw [(ev68808)]; omega) ev68820 ev68819
          refine ev_goto f354_225 ?_
          refine ev_istore (L' := [(2, 42), (0, a1), (0, a2), (0, a3), (0, x4), (0, x5), (0, x6), (0, (100 * a1 + z0)), (0, v68819), j9, j10]) (Nat.le_of_ble_eq_true rfl) rfl ?_
          refine ev_iload rfl ?_
          refine ev_aload_n rfl ?_
          refine g_getp (r := 42) (c := 52) g1 ad42 (by decide) (by decide) rf42_14 ft12_14 ?_
          refine ev_iconst ?_
          refine ev_iload rfl ?_
          refine ev_imul (r := (400 * a1 + 4 * z0)) (by unfold w32; omega) ?_
          refine ev_iload rfl ?_
          refine ev_iadd (r := (400 * a1 + v68819 + 4 * z0)) (by unfold w32; omega) ?_
          refine g_iald g1 ad52 rt52 (by omega) (by omega) (fun v68821 ev68821 lv68821 uv68821 => ?_)
          refine g_isubG (fun v68822 ev68822 lv68822 uv68822 => ?_)
          refine ev_istore (L' := [(2, 42), (0, a1), (0, a2), (0, a3), (0, x4), (0, v68822), (0, x6), (0, (100 * a1 + z0)), (0, v68819), j9, j10]) (Nat.le_of_ble_eq_true rfl) rfl ?_
          refine ev_bipush ?_
          refine ev_iload_n rfl ?_
          refine ev_imul (r := (100 * a1)) (by unfold w32; omega) ?_
          refine ev_aload_n rfl ?_
          refine g_getp (r := 42) (c := 51) g1 ad42 (by decide) (by decide) rf42_13 ft12_13 ?_
          refine ev_iconst ?_
          refine ev_iload rfl ?_
          refine ev_imul (r := (400 * a1 + 4 * z0)) (by unfold w32; omega) ?_
          refine ev_iload rfl ?_
          refine ev_iadd (r := (400 * a1 + v68819 + 4 * z0)) (by unfold w32; omega) ?_
          refine g_bald g1 ad51 rt51 (by omega) (by omega) (fun v68823 ev68823 lv68823 uv68823 => ?_)
          have xv68823 := g1.nd1c (q := a1) (n := z0) (by omega) (by rw [(ey0)]; omega) (by omega) (by rw [(ey1)]; omega) (i := (100 * a1 + z0)) (by omega) (by rw [(ev68808)]; omega) (ev68820) (w := v68819) (by omega) (by omega) (j := (400 * a1 + v68819 + 4 * z0)) (by omega) ev68823
          rw [(ey1)] at xv68823
          refine ev_iadd (r := (100 * a1 + v68823)) (by unfold w32; omega) ?_
          refine ev_istore (L' := [(2, 42), (0, a1), (0, a2), (0, a3), (0, x4), (0, v68822), (0, x6), (0, (100 * a1 + v68823)), (0, v68819), j9, j10]) (Nat.le_of_ble_eq_true rfl) rfl ?_
          refine ev_goto f354_182 ?_
          exact ih.2.2 _ _ _ _ _ _ _ v68823 _ _ _ g1 k1 (by omega) (by omega) (by omega) (by omega) (by omega) (by omega) (by omega) (by omega) (by omega) (by omega) (by omega) (by omega) (by omega) (by omega) (by omega) (by omega) (ey0) (by omega) (by omega) (ey1) (by omega) (by omega) (ey2) (by omega) (by omega) H0 (by omega)
set_option maxHeartbeats 4000000 in
theorem s354 {G : GH} {h : JH} (g : Gd G h) {a1 : Int} (la1 : (-2147483648) ≤ a1) (ua1 : a1 ≤ 2147483647) {a2 : Int} (la2 : (-2147483648) ≤ a2) (ua2 : a2 ≤ 2147483647) {a3 : Int} (la3 : (-2147483648) ≤ a3) (ua3 : a3 ≤ 2147483647) : jOk 3 0 0 354 [(2, 42), (0, a1), (0, a2), (0, a3)] h (PI G [(77, 0)] h 0 (-2147483648) 2147483647) := by
  refine ⟨by decide, by rw [ml354]; exact Nat.le_of_ble_eq_true rfl, ?_⟩
  rw [ml354, pp354]
  show jEv _ none _ c354_0 0 0 _ (c354_0, [(2, 42), (0, a1), (0, a2), (0, a3), (9, 0), (9, 0), (9, 0), (9, 0), (9, 0), (9, 0), (9, 0)], [], h, 0, 0)
  have k0 := Kp.rf [(77, 0)] h
  refine ev_aload_n rfl ?_
  refine ev_iload_n rfl ?_
  refine ev_in (d := 1) (a := 0) (b := 0) (cd' := c261_0) (m := 2) (L0 := [(2, 42), (0, a1)]) (jcall_v (A := [(0, a1)]) (S' := []) (r := 42) rfl (g.lt ad42) (g.tg ad42) (Nat.le_of_ble_eq_true rfl)) (by decide) ml261 pp261 (Nat.le_of_ble_eq_true rfl) rfl (by decide) (by decide) ?_
  refine ev_iload_n rfl ?_
  refine ev_iconst ?_
  refine ev_aload_n rfl ?_
  obtain ⟨v68824, ev68824, lv68824, uv68824⟩ := g.rd ad42 (show 9 < 66 by decide) rf42_9
  refine g_getv (r := 42) (v := v68824) g ad42 (by decide) ft12_9 ev68824 ?_
  refine ev_iconst ?_
  refine ev_isub (r := (v68824 - 1)) (by unfold w32; omega) ?_
  refine ev_in (d := 0) (a := 0) (b := 0) (cd' := c242_0) (m := 3) (L0 := [(0, a1), (0, 0), (0, (v68824 - 1))]) (jcall_s (A := [(0, (v68824 - 1)), (0, 0), (0, a1)]) (S' := []) (by decide) rfl (Nat.le_of_ble_eq_true rfl)) (by decide) ml242 pp242 (Nat.le_of_ble_eq_true rfl) rfl (by decide) (by decide) ?_
  refine ev_iload_n rfl ?_
  refine ev_iload_n rfl ?_
  refine ev_icmplt f242_14 (fun c68825 => ?_) (fun c68825 => ?_)
  · refine ev_iconst ?_
    refine ev_ret rfl (by decide) (by decide) ?_
    show jEv _ _ _ _ _ _ _ (_, [(2, 42), (0, a1)], [(0, 0)], _, _, _)
    refine ev_ret rfl (by decide) (by decide) ?_
    show jEv _ _ _ _ _ _ _ (_, [(2, 42), (0, a1), (0, a2), (0, a3), (9, 0), (9, 0), (9, 0), (9, 0), (9, 0), (9, 0), (9, 0)], [(0, 0)], _, _, _)
    refine ev_ifeq f354_19 (fun c68826 => ?_) (fun c68826 => absurd c68826 (by omega))
    refine ev_ldc_w ?_
    exact ev_ret rfl (by decide) (by decide) ⟨_, rfl, by omega, by omega, g, k0⟩
  · refine ev_iload_n rfl ?_
    refine ev_iload_n rfl ?_
    refine ev_icmpgt f242_14 (fun c68827 => ?_) (fun c68827 => ?_)
    · refine ev_iconst ?_
      refine ev_ret rfl (by decide) (by decide) ?_
      show jEv _ _ _ _ _ _ _ (_, [(2, 42), (0, a1)], [(0, 0)], _, _, _)
      refine ev_ret rfl (by decide) (by decide) ?_
      show jEv _ _ _ _ _ _ _ (_, [(2, 42), (0, a1), (0, a2), (0, a3), (9, 0), (9, 0), (9, 0), (9, 0), (9, 0), (9, 0), (9, 0)], [(0, 0)], _, _, _)
      refine ev_ifeq f354_19 (fun c68828 => ?_) (fun c68828 => absurd c68828 (by omega))
      refine ev_ldc_w ?_
      exact ev_ret rfl (by decide) (by decide) ⟨_, rfl, by omega, by omega, g, k0⟩
    · refine ev_iconst ?_
      refine ev_goto f242_15 ?_
      refine ev_ret rfl (by decide) (by decide) ?_
      show jEv _ _ _ _ _ _ _ (_, [(2, 42), (0, a1)], [(0, 1)], _, _, _)
      refine ev_ret rfl (by decide) (by decide) ?_
      show jEv _ _ _ _ _ _ _ (_, [(2, 42), (0, a1), (0, a2), (0, a3), (9, 0), (9, 0), (9, 0), (9, 0), (9, 0), (9, 0), (9, 0)], [(0, 1)], _, _, _)
      refine ev_ifeq f354_19 (fun c68829 => absurd c68829 (by omega)) (fun c68829 => ?_)
      refine ev_iload_n rfl ?_
      refine ev_iconst ?_
      refine ev_sipush ?_
      refine ev_in (d := 1) (a := 0) (b := 0) (cd' := c242_0) (m := 3) (L0 := [(0, a3), (0, 1), (0, 200)]) (jcall_s (A := [(0, 200), (0, 1), (0, a3)]) (S' := []) (by decide) rfl (Nat.le_of_ble_eq_true rfl)) (by decide) ml242 pp242 (Nat.le_of_ble_eq_true rfl) rfl (by decide) (by decide) ?_
      refine ev_iload_n rfl ?_
      refine ev_iload_n rfl ?_
      refine ev_icmplt f242_14 (fun c68830 => ?_) (fun c68830 => ?_)
      · refine ev_iconst ?_
        refine ev_ret rfl (by decide) (by decide) ?_
        show jEv _ _ _ _ _ _ _ (_, [(2, 42), (0, a1), (0, a2), (0, a3), (9, 0), (9, 0), (9, 0), (9, 0), (9, 0), (9, 0), (9, 0)], [(0, 0)], _, _, _)
        refine ev_ifne f354_23 (fun c68831 => absurd c68831 (by omega)) (fun c68831 => ?_)
        refine ev_ldc_w ?_
        exact ev_ret rfl (by decide) (by decide) ⟨_, rfl, by omega, by omega, g, k0⟩
      · refine ev_iload_n rfl ?_
        refine ev_iload_n rfl ?_
        refine ev_icmpgt f242_14 (fun c68832 => ?_) (fun c68832 => ?_)
        · refine ev_iconst ?_
          refine ev_ret rfl (by decide) (by decide) ?_
          show jEv _ _ _ _ _ _ _ (_, [(2, 42), (0, a1), (0, a2), (0, a3), (9, 0), (9, 0), (9, 0), (9, 0), (9, 0), (9, 0), (9, 0)], [(0, 0)], _, _, _)
          refine ev_ifne f354_23 (fun c68833 => absurd c68833 (by omega)) (fun c68833 => ?_)
          refine ev_ldc_w ?_
          exact ev_ret rfl (by decide) (by decide) ⟨_, rfl, by omega, by omega, g, k0⟩
        · refine ev_iconst ?_
          refine ev_goto f242_15 ?_
          refine ev_ret rfl (by decide) (by decide) ?_
          show jEv _ _ _ _ _ _ _ (_, [(2, 42), (0, a1), (0, a2), (0, a3), (9, 0), (9, 0), (9, 0), (9, 0), (9, 0), (9, 0), (9, 0)], [(0, 1)], _, _, _)
          refine ev_ifne f354_23 (fun c68834 => ?_) (fun c68834 => absurd c68834 (by omega))
          refine ev_iload_n rfl ?_
          refine ev_istore (L' := [(2, 42), (0, a1), (0, a2), (0, a3), (0, a2), (9, 0), (9, 0), (9, 0), (9, 0), (9, 0), (9, 0)]) (Nat.le_of_ble_eq_true rfl) rfl ?_
          refine ev_iconst ?_
          refine ev_istore (L' := [(2, 42), (0, a1), (0, a2), (0, a3), (0, a2), (0, 0), (9, 0), (9, 0), (9, 0), (9, 0), (9, 0)]) (Nat.le_of_ble_eq_true rfl) rfl ?_
          refine ev_iconst ?_
          refine ev_istore (L' := [(2, 42), (0, a1), (0, a2), (0, a3), (0, a2), (0, 0), (0, 0), (9, 0), (9, 0), (9, 0), (9, 0)]) (Nat.le_of_ble_eq_true rfl) rfl ?_
          obtain ⟨v68835, ev68835, lv68835, uv68835⟩ := g.rd ad48 (show (a1).toNat < 7 by omega) (rt48 _)
          have zv68835 := g.n48 (q := a1) (by omega) (by rw [(ev68824)]; omega) ev68835
          obtain ⟨v68836, ev68836, lv68836, uv68836⟩ := g.rd ad42 (show 1 < 66 by decide) rf42_1
          exact (s354_l la1 ua1 la2 ua2 la3 ua3 120600).1 _ _ _ _ _ _ _ _ _ _ _ g k0 (by omega) (by omega) (by omega) (by omega) (by omega) (by omega) (by omega) (by omega) (by omega) (by omega) (by omega) (by omega) (by omega) (ev68824) (by omega) (by omega) ev68835 (by omega) (by omega) ev68836 (by omega) (by omega) (by omega)
