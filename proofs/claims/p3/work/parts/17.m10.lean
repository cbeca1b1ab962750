/-! 258 areWays -/
set_option maxHeartbeats 4000000 in
theorem s258_l {G : GH} {h : JH} {a1 : Int} (la1 : (-2147483648) ≤ a1) (ua1 : a1 ≤ 2147483647) : ∀ N : Nat, (∀ (h1 : JH) (x2 : Int), Gd G h1 → Kp [] h h1 → 0 ≤ a1 → a1 ≤ 2147483647 → 0 ≤ x2 → x2 ≤ 4 → ((-x2) + 4) < N → jEv (jOk 0) none (fun _ => 0) c258_0 0 0 (PI G [] h 0 0 1) (c258_19, [(2, 42), (0, a1), (0, x2)], [], h1, 0, 0)) := by
  intro N
  induction N with
  | zero => exact fun h1 x2 g1 k1 b0 b1 b2 b3 hm => absurd hm (by omega)
  | succ N ih =>
    show _
    intro h1 x2 g1 k1 b0 b1 b2 b3 hm
    refine ev_iload_n rfl ?_
    refine ev_aload_n rfl ?_
    obtain ⟨v42347, ev42347, lv42347, uv42347⟩ := g1.rd ad42 (show 1 < 66 by decide) rf42_1
    refine g_getv (r := 42) (v := v42347) g1 ad42 (by decide) ft12_1 ev42347 ?_
    refine ev_icmpge f258_51 (fun c42348 => ?_) (fun c42348 => ?_)
    · refine ev_iconst ?_
      exact ev_ret rfl (by decide) (by decide) ⟨_, rfl, by omega, by omega, g1, k1⟩
    · refine ev_iload_n rfl ?_
      refine ev_iconst ?_
      refine ev_iload_n rfl ?_
      refine ev_imul (r := (2 * x2)) (by unfold w32; omega) ?_
      refine g_ishrB (a := 2147483647) (by omega) (by omega) (by decide) (fun v42349 ev42349 lv42349 uv42349 => ?_)
      refine ev_iconst ?_
      refine g_iandB (b := 3) (by omega) (by omega) (by decide) (fun v42350 ev42350 lv42350 uv42350 => ?_)
      refine ev_aload_n rfl ?_
      refine g_getp (r := 42) (c := 43) g1 ad42 (by decide) (by decide) rf42_2 ft12_2 ?_
      refine ev_iload_n rfl ?_
      refine g_iald g1 ad43 rt43 (by omega) (by omega) (fun v42351 ev42351 lv42351 uv42351 => ?_)
      have xv42351 := (g1.ex.2.1 (x2 : Int).toNat (by rw [(ev42347)]; omega))
      rw [ev42351] at xv42351
      refine ev_icmple f258_45 (fun c42352 => ?_) (fun c42352 => ?_)
      · refine ev_iinc (w := (x2 + 1)) (L' := [(2, 42), (0, a1), (0, (x2 + 1))]) rfl (by unfold w32; omega) rfl ?_
        refine ev_goto f258_19 ?_
        exact ih _ _ g1 k1 (by omega) (by omega) (by omega) (by omega) (by omega)
      · refine ev_iconst ?_
        exact ev_ret rfl (by decide) (by decide) ⟨_, rfl, by omega, by omega, g1, k1⟩
set_option maxHeartbeats 4000000 in
theorem s258 {G : GH} {h : JH} (g : Gd G h) {a1 : Int} (la1 : (-2147483648) ≤ a1) (ua1 : a1 ≤ 2147483647) : jOk 1 0 0 258 [(2, 42), (0, a1)] h (PI G [] h 0 0 1) := by
  refine ⟨by decide, by rw [ml258]; exact Nat.le_of_ble_eq_true rfl, ?_⟩
  rw [ml258, pp258]
  show jEv _ none _ c258_0 0 0 _ (c258_0, [(2, 42), (0, a1), (9, 0)], [], h, 0, 0)
  have k0 := Kp.rf [] h
  refine ev_iload_n rfl ?_
  refine ev_iflt f258_15 (fun c42353 => ?_) (fun c42353 => ?_)
  · refine ev_iconst ?_
    exact ev_ret rfl (by decide) (by decide) ⟨_, rfl, by omega, by omega, g, k0⟩
  · refine ev_iload_n rfl ?_
    refine ev_iconst ?_
    refine ev_aload_n rfl ?_
    obtain ⟨v42354, ev42354, lv42354, uv42354⟩ := g.rd ad42 (show 1 < 66 by decide) rf42_1
    refine g_getv (r := 42) (v := v42354) g ad42 (by decide) ft12_1 ev42354 ?_
    refine ev_imul (r := (2 * v42354)) (by unfold w32; omega) ?_
    refine g_ishrB (a := 2147483647) (by omega) (by omega) (by decide) (fun v42355 ev42355 lv42355 uv42355 => ?_)
    refine ev_ifeq f258_17 (fun c42356 => ?_) (fun c42356 => ?_)
    · refine ev_iconst ?_
      refine ev_istore_n (L' := [(2, 42), (0, a1), (0, 0)]) (Nat.le_of_ble_eq_true rfl) rfl ?_
      exact (s258_l la1 ua1 10) _ _ g k0 (by omega) (by omega) (by omega) (by omega) (by omega)
    · refine ev_iconst ?_
      exact ev_ret rfl (by decide) (by decide) ⟨_, rfl, by omega, by omega, g, k0⟩
/-! 259 agrees -/
set_option maxHeartbeats 4000000 in
theorem s259_l {G : GH} {h : JH} {a1 : Int} (la1 : 0 ≤ a1) (ua1 : a1 ≤ 80) {a2 : Int} (la2 : (-2147483648) ≤ a2) (ua2 : a2 ≤ 2147483647) : ∀ N : Nat, (∀ (h1 : JH) (x3 : Int) (j4 : AV), Gd G h1 → Kp [] h h1 → 0 ≤ a1 → a1 ≤ 80 → (-2147483648) ≤ a2 → a2 ≤ 2147483647 → 0 ≤ x3 → x3 ≤ 4 → ((-x3) + 4) < N → jEv (jOk 0) none (fun _ => 0) c259_0 0 0 (PI G [] h 0 0 1) (c259_2, [(2, 42), (0, a1), (0, a2), (0, x3), j4], [], h1, 0, 0)) := by
  intro N
  induction N with
  | zero => exact fun h1 x3 j4 g1 k1 b0 b1 b2 b3 b4 b5 hm => absurd hm (by omega)
  | succ N ih =>
    show _
    intro h1 x3 j4 g1 k1 b0 b1 b2 b3 b4 b5 hm
    refine ev_iload_n rfl ?_
    refine ev_aload_n rfl ?_
    obtain ⟨v42398, ev42398, lv42398, uv42398⟩ := g1.rd ad42 (show 1 < 66 by decide) rf42_1
    refine g_getv (r := 42) (v := v42398) g1 ad42 (by decide) ft12_1 ev42398 ?_
    refine ev_icmpge f259_49 (fun c42399 => ?_) (fun c42399 => ?_)
    · refine ev_iconst ?_
      exact ev_ret rfl (by decide) (by decide) ⟨_, rfl, by omega, by omega, g1, k1⟩
    · refine ev_iload_n rfl ?_
      refine ev_iconst ?_
      refine ev_iload_n rfl ?_
      refine ev_imul (r := (2 * x3)) (by unfold w32; omega) ?_
      refine g_ishrG (fun v42400 ev42400 lv42400 uv42400 => ?_)
      refine ev_iconst ?_
      refine g_iandB (b := 3) (by omega) (by omega) (by decide) (fun v42401 ev42401 lv42401 uv42401 => ?_)
      refine ev_istore (L' := [(2, 42), (0, a1), (0, a2), (0, x3), (0, v42401)]) (Nat.le_of_ble_eq_true rfl) rfl ?_
      refine ev_iload rfl ?_
      refine ev_ifle f259_43 (fun c42402 => ?_) (fun c42402 => ?_)
      · refine ev_iinc (w := (x3 + 1)) (L' := [(2, 42), (0, a1), (0, a2), (0, (x3 + 1)), (0, v42401)]) rfl (by unfold w32; omega) rfl ?_
        refine ev_goto f259_2 ?_
        exact ih _ _ _ g1 k1 (by omega) (by omega) (by omega) (by omega) (by omega) (by omega) (by omega)
      · refine ev_aload_n rfl ?_
        refine g_getp (r := 42) (c := 46) g1 ad42 (by decide) (by decide) rf42_6 ft12_6 ?_
        refine ev_iconst ?_
        refine ev_iload_n rfl ?_
        refine ev_imul (r := (4 * a1)) (by unfold w32; omega) ?_
        refine ev_iload_n rfl ?_
        refine ev_iadd (r := (4 * a1 + x3)) (by unfold w32; omega) ?_
        refine g_iald g1 ad46 rt46 (by omega) (by omega) (fun v42403 ev42403 lv42403 uv42403 => ?_)
        refine ev_iload rfl ?_
        refine ev_iconst ?_
        refine ev_isub (r := (v42401 - 1)) (by unfold w32; omega) ?_
        refine ev_icmpeq f259_43 (fun c42404 => ?_) (fun c42404 => ?_)
        · refine ev_iinc (w := (x3 + 1)) (L' := [(2, 42), (0, a1), (0, a2), (0, (x3 + 1)), (0, v42401)]) rfl (by unfold w32; omega) rfl ?_
          refine ev_goto f259_2 ?_
          exact ih _ _ _ g1 k1 (by omega) (by omega) (by omega) (by omega) (by omega) (by omega) (by omega)
        · refine ev_iconst ?_
          exact ev_ret rfl (by decide) (by decide) ⟨_, rfl, by omega, by omega, g1, k1⟩
set_option maxHeartbeats 4000000 in
theorem s259 {G : GH} {h : JH} (g : Gd G h) {a1 : Int} (la1 : 0 ≤ a1) (ua1 : a1 ≤ 80) {a2 : Int} (la2 : (-2147483648) ≤ a2) (ua2 : a2 ≤ 2147483647) : jOk 1 0 0 259 [(2, 42), (0, a1), (0, a2)] h (PI G [] h 0 0 1) := by
  refine ⟨by decide, by rw [ml259]; exact Nat.le_of_ble_eq_true rfl, ?_⟩
  rw [ml259, pp259]
  show jEv _ none _ c259_0 0 0 _ (c259_0, [(2, 42), (0, a1), (0, a2), (9, 0), (9, 0)], [], h, 0, 0)
  have k0 := Kp.rf [] h
  refine ev_iconst ?_
  refine ev_istore_n (L' := [(2, 42), (0, a1), (0, a2), (0, 0), (9, 0)]) (Nat.le_of_ble_eq_true rfl) rfl ?_
  exact (s259_l la1 ua1 la2 ua2 10) _ _ _ g k0 (by omega) (by omega) (by omega) (by omega) (by omega) (by omega) (by omega)
/-! s256_0  -/
set_option maxHeartbeats 4000000 in
theorem s256_0_l {G : GH} {h : JH} (ew0 : h.2.2 42 1 = 0) : ∀ N : Nat, (∀ (h1 : JH) (x1 y0 y1 : Int) (j2 j3 : AV), Gd G h1 → Kp [(46, 0), (47, 0), (42, 6), (42, 9)] h h1 → 0 ≤ x1 → x1 ≤ 1 → h1.2.2 42 1 = y0 → 0 ≤ y0 → y0 ≤ 0 → h1.2.2 42 5 = y1 → 0 ≤ y1 → y1 ≤ 1 → ((-x1) + 1) < N → jEv (jOk 3) none (fun _ => 0) c256_0 0 0 (PI G [(46, 0), (47, 0), (42, 6), (42, 9)] h 0 0 1) (c256_57, [(2, 42), (0, x1), j2, j3], [], h1, 0, 0)) := by
  intro N
  induction N with
  | zero => exact fun h1 x1 y0 y1 j2 j3 g1 k1 b0 b1 b2 b3 b4 b5 b6 b7 hm => absurd hm (by omega)
  | succ N ih =>
    show _
    intro h1 x1 y0 y1 j2 j3 g1 k1 b0 b1 ey0 ly0 uy0 ey1 ly1 uy1 hm
    refine ev_iload_n rfl ?_
    refine ev_aload_n rfl ?_
    refine g_getv (r := 42) (v := y1) g1 ad42 (by decide) ft12_5 (ey1) ?_
    refine ev_icmpge f256_127 (fun c42432 => ?_) (fun c42432 => ?_)
    · refine ev_iconst ?_
      exact ev_ret rfl (by decide) (by decide) ⟨_, rfl, by omega, by omega, g1, k1⟩
    · refine ev_iload_n rfl ?_
      refine ev_istore_n (L' := [(2, 42), (0, x1), (0, x1), j3]) (Nat.le_of_ble_eq_true rfl) rfl ?_
      refine ev_iconst ?_
      refine ev_istore_n (L' := [(2, 42), (0, x1), (0, x1), (0, 0)]) (Nat.le_of_ble_eq_true rfl) rfl ?_
      refine ev_iload_n rfl ?_
      refine ev_aload_n rfl ?_
      refine g_getv (r := 42) (v := y0) g1 ad42 (by decide) ft12_1 (ey0) ?_
      refine ev_icmpge f256_110 (fun c42433 => ?_) (fun c42433 => absurd c42433 (by omega))
      refine ev_aload_n rfl ?_
      refine g_getp (r := 42) (c := 47) g1 ad42 (by decide) (by decide) rf42_7 ft12_7 ?_
      refine ev_iload_n rfl ?_
      refine ev_aload_n rfl ?_
      refine ev_iload_n rfl ?_
      refine ev_call (jcall_v (A := [(0, x1)]) (S' := [(0, x1), (2, 47)]) (r := 42) rfl (g1.lt ad42) (g1.tg ad42) (Nat.le_of_ble_eq_true rfl)) (jOk_le (by decide) (s255 g1 (by omega) (by omega))) (by decide) (by decide) (fun w42434 h42434 q42434 => ?_)
      obtain ⟨v42435, rfl, lv42435, uv42435, g42434, kk42434⟩ := q42434
      have k42434 := k1.tr kk42434 (by decide)
      show jEv _ _ _ _ _ _ _ (_, [(2, 42), (0, x1), (0, x1), (0, 0)], [(1, v42435), (0, x1), (2, 47)], _, _, _)
      refine g_last g42434 ad47 rt47 (fun _ => rfl) (by omega) (by omega) (by omega) (by omega) (fun h42436 e42436 g42436 => ?_)
      have k42436 := k42434.wr e42436 rfl
      refine ev_iinc (w := (x1 + 1)) (L' := [(2, 42), (0, (x1 + 1)), (0, x1), (0, 0)]) rfl (by unfold w32; omega) rfl ?_
      refine ev_goto f256_57 ?_
      exact ih _ _ _ _ _ _ g42436 k42436 (by omega) (by omega) (((jw_ne e42436 (Or.inl (by decide))).trans ((kk42434.v (by decide)).trans ey0))) (by omega) (by omega) (((jw_ne e42436 (Or.inl (by decide))).trans ((kk42434.v (by decide)).trans ey1))) (by omega) (by omega) (by omega)
set_option maxHeartbeats 4000000 in
theorem s256_0 {G : GH} {h : JH} (g : Gd G h) (ew0 : h.2.2 42 1 = 0) : jOk 4 0 0 256 [(2, 42)] h (PI G [(46, 0), (47, 0), (42, 6), (42, 9)] h 0 0 1) := by
  refine ⟨by decide, by rw [ml256]; exact Nat.le_of_ble_eq_true rfl, ?_⟩
  rw [ml256, pp256]
  show jEv _ none _ c256_0 0 0 _ (c256_0, [(2, 42), (9, 0), (9, 0), (9, 0)], [], h, 0, 0)
  have k0 := Kp.rf [(46, 0), (47, 0), (42, 6), (42, 9)] h
  refine ev_aload_n rfl ?_
  refine ev_aload_n rfl ?_
  refine ev_call (jcall_v (A := []) (S' := [(2, 42)]) (r := 42) rfl (g.lt ad42) (g.tg ad42) (Nat.le_of_ble_eq_true rfl)) (jOk_le (by decide) (s253 g )) (by decide) (by decide) (fun w42437 h42437 q42437 => ?_)
  obtain ⟨v42438, rfl, lv42438, uv42438, g42437, kk42437⟩ := q42437
  have k42437 := k0.tr kk42437 (by decide)
  show jEv _ _ _ _ _ _ _ (_, [(2, 42), (9, 0), (9, 0), (9, 0)], [(1, v42438), (2, 42)], _, _, _)
  refine g_putf (r := 42) g42437 ad42 (by decide) ft12_8 (by decide) (fun e => absurd e nz12_8) rf42_8 (by decide) (by omega) (by omega) (fun h42439 e42439 g42439 => ?_)
  have k42439 := k42437.wr e42439 rfl
  refine ev_aload_n rfl ?_
  refine g_getv (r := 42) (v := v42438) g42439 ad42 (by decide) ft12_8 ((jw_eq e42439)) ?_
  refine ev_lconst ?_
  refine ev_lcmp ?_
  refine ev_ifge f256_19 (fun c42440 => ?_) (fun c42440 => ?_)
  · have c42440b := jcmpL_ge c42440
    refine ev_aload_n rfl ?_
    refine ev_iconst ?_
    refine g_putf (r := 42) g42439 ad42 (by decide) ft12_5 (by decide) (fun e => absurd e nz12_5) rf42_5 (by decide) (by omega) (by omega) (fun h42441 e42441 g42441 => ?_)
    have k42441 := k42439.wr e42441 rfl
    refine ev_iconst ?_
    refine ev_istore_n (L' := [(2, 42), (0, 0), (9, 0), (9, 0)]) (Nat.le_of_ble_eq_true rfl) rfl ?_
    refine ev_iload_n rfl ?_
    refine ev_aload_n rfl ?_
    refine g_getv (r := 42) (v := 0) g42441 ad42 (by decide) ft12_1 (((jw_ne e42441 (Or.inr (by decide))).trans ((jw_ne e42439 (Or.inr (by decide))).trans ((kk42437.v (by decide)).trans ew0)))) ?_
    refine ev_icmpge f256_55 (fun c42442 => ?_) (fun c42442 => absurd c42442 (by omega))
    refine ev_iconst ?_
    refine ev_istore_n (L' := [(2, 42), (0, 0), (9, 0), (9, 0)]) (Nat.le_of_ble_eq_true rfl) rfl ?_
    exact (s256_0_l ew0 4) _ _ _ _ _ _ g42441 k42441 (by omega) (by omega) (((jw_ne e42441 (Or.inr (by decide))).trans ((jw_ne e42439 (Or.inr (by decide))).trans ((kk42437.v (by decide)).trans ew0)))) (by omega) (by omega) ((jw_eq e42441)) (by omega) (by omega) (by omega)
  · have c42440b := jcmpL_geN c42440
    refine ev_iconst ?_
    exact ev_ret rfl (by decide) (by decide) ⟨_, rfl, by omega, by omega, g42439, k42439⟩
/-! s256_1  -/
set_option maxHeartbeats 4000000 in
theorem s256_1_l {G : GH} {h : JH} (ew0 : h.2.2 42 1 = 1) : ∀ N : Nat, (∀ (h1 : JH) (x1 y0 y1 : Int) (j2 j3 : AV), Gd G h1 → Kp [(46, 0), (47, 0), (42, 6), (42, 9)] h h1 → 0 ≤ x1 → x1 ≤ 3 → h1.2.2 42 1 = y0 → 1 ≤ y0 → y0 ≤ 1 → h1.2.2 42 5 = y1 → 0 ≤ y1 → y1 ≤ 3 → ((-x1) + 3) < N → jEv (jOk 3) none (fun _ => 0) c256_0 0 0 (PI G [(46, 0), (47, 0), (42, 6), (42, 9)] h 0 0 1) (c256_57, [(2, 42), (0, x1), j2, j3], [], h1, 0, 0)) := by
  intro N
  induction N with
  | zero => exact fun h1 x1 y0 y1 j2 j3 g1 k1 b0 b1 b2 b3 b4 b5 b6 b7 hm => absurd hm (by omega)
  | succ N ih =>
    show _
    intro h1 x1 y0 y1 j2 j3 g1 k1 b0 b1 ey0 ly0 uy0 ey1 ly1 uy1 hm
    refine ev_iload_n rfl ?_
    refine ev_aload_n rfl ?_
    refine g_getv (r := 42) (v := y1) g1 ad42 (by decide) ft12_5 (ey1) ?_
    refine ev_icmpge f256_127 (fun c42511 => ?_) (fun c42511 => ?_)
    · refine ev_iconst ?_
      exact ev_ret rfl (by decide) (by decide) ⟨_, rfl, by omega, by omega, g1, k1⟩
    · refine ev_iload_n rfl ?_
      refine ev_istore_n (L' := [(2, 42), (0, x1), (0, x1), j3]) (Nat.le_of_ble_eq_true rfl) rfl ?_
      refine ev_iconst ?_
      refine ev_istore_n (L' := [(2, 42), (0, x1), (0, x1), (0, 0)]) (Nat.le_of_ble_eq_true rfl) rfl ?_
      refine ev_iload_n rfl ?_
      refine ev_aload_n rfl ?_
      refine g_getv (r := 42) (v := y0) g1 ad42 (by decide) ft12_1 (ey0) ?_
      refine ev_icmpge f256_110 (fun c42512 => absurd c42512 (by omega)) (fun c42512 => ?_)
      refine ev_aload_n rfl ?_
      refine g_getp (r := 42) (c := 46) g1 ad42 (by decide) (by decide) rf42_6 ft12_6 ?_
      refine ev_iconst ?_
      refine ev_iload_n rfl ?_
      refine ev_imul (r := (4 * x1)) (by unfold w32; omega) ?_
      refine ev_iload_n rfl ?_
      refine ev_iadd (r := (4 * x1)) (by unfold w32; omega) ?_
      refine ev_iload_n rfl ?_
      refine ev_aload_n rfl ?_
      refine g_getp (r := 42) (c := 43) g1 ad42 (by decide) (by decide) rf42_2 ft12_2 ?_
      refine ev_iload_n rfl ?_
      refine g_iald g1 ad43 rt43 (by omega) (by omega) (fun v42513 ev42513 lv42513 uv42513 => ?_)
      have xv42513 := (g1.ex.2.1 (0 : Int).toNat (by rw [(ey0)]; omega))
      rw [ev42513] at xv42513
      refine g_iremQ (by omega) (by omega) (fun v42514 ev42514 lv42514 uv42514 wv42514 => ?_)
      refine ev_iastG (r := 46) (j := ((4 * x1)).toNat) (g1.lt ad46) (g1.tg ad46) (by omega) (by rw [g1.ln ad46]; omega) (fun h42515 e42515 => ?_)
      have g42515 := g1.s46 (s := (x1).toNat) (t := 0) e42515 (by omega) (by decide) (lt_r (show ((0 : Nat) : Int) < y0 by omega) (ey0)) (lt_r (show v42514 < v42513 by omega) (ev42513)) (by omega) (by omega)
      have k42515 := k1.wr e42515 rfl
      refine ev_iload_n rfl ?_
      refine ev_aload_n rfl ?_
      refine g_getp (r := 42) (c := 43) g42515 ad42 (by decide) (by decide) rf42_2 ft12_2 ?_
      refine ev_iload_n rfl ?_
      refine g_ialdv (v := v42513) g42515 ad43 (by omega) (by omega) (((jw_ne e42515 (Or.inl (by decide))).trans ev42513)) ?_
      refine g_idivM (by omega) (by omega) (by omega) (fun v42516 ev42516 lv42516 uv42516 => ?_)
      refine ev_istore_n (L' := [(2, 42), (0, x1), (0, v42516), (0, 0)]) (Nat.le_of_ble_eq_true rfl) rfl ?_
      refine ev_iinc (w := 1) (L' := [(2, 42), (0, x1), (0, v42516), (0, 1)]) rfl (by decide) rfl ?_
      refine ev_goto f256_69 ?_
      refine ev_iload_n rfl ?_
      refine ev_aload_n rfl ?_
      refine g_getv (r := 42) (v := y0) g42515 ad42 (by decide) ft12_1 (((jw_ne e42515 (Or.inl (by decide))).trans ey0)) ?_
      refine ev_icmpge f256_110 (fun c42517 => ?_) (fun c42517 => absurd c42517 (by omega))
      refine ev_aload_n rfl ?_
      refine g_getp (r := 42) (c := 47) g42515 ad42 (by decide) (by decide) rf42_7 ft12_7 ?_
      refine ev_iload_n rfl ?_
      refine ev_aload_n rfl ?_
      refine ev_iload_n rfl ?_
      refine ev_call (jcall_v (A := [(0, x1)]) (S' := [(0, x1), (2, 47)]) (r := 42) rfl (g42515.lt ad42) (g42515.tg ad42) (Nat.le_of_ble_eq_true rfl)) (jOk_le (by decide) (s255 g42515 (by omega) (by omega))) (by decide) (by decide) (fun w42518 h42518 q42518 => ?_)
      obtain ⟨v42519, rfl, lv42519, uv42519, g42518, kk42518⟩ := q42518
      have k42518 := k42515.tr kk42518 (by decide)
      show jEv _ _ _ _ _ _ _ (_, [(2, 42), (0, x1), (0, v42516), (0, 1)], [(1, v42519), (0, x1), (2, 47)], _, _, _)
      refine g_last g42518 ad47 rt47 (fun _ => rfl) (by omega) (by omega) (by omega) (by omega) (fun h42520 e42520 g42520 => ?_)
      have k42520 := k42518.wr e42520 rfl
      refine ev_iinc (w := (x1 + 1)) (L' := [(2, 42), (0, (x1 + 1)), (0, v42516), (0, 1)]) rfl (by unfold w32; omega) rfl ?_
      refine ev_goto f256_57 ?_
      exact ih _ _ _ _ _ _ g42520 k42520 (by omega) (by omega) (((jw_ne e42520 (Or.inl (by decide))).trans ((kk42518.v (by decide)).trans ((jw_ne e42515 (Or.inl (by decide))).trans ey0)))) (by omega) (by omega) (((jw_ne e42520 (Or.inl (by decide))).trans ((kk42518.v (by decide)).trans ((jw_ne e42515 (Or.inl (by decide))).trans ey1)))) (by omega) (by omega) (by omega)
set_option maxHeartbeats 4000000 in
theorem s256_1 {G : GH} {h : JH} (g : Gd G h) (ew0 : h.2.2 42 1 = 1) : jOk 4 0 0 256 [(2, 42)] h (PI G [(46, 0), (47, 0), (42, 6), (42, 9)] h 0 0 1) := by
  refine ⟨by decide, by rw [ml256]; exact Nat.le_of_ble_eq_true rfl, ?_⟩
  rw [ml256, pp256]
  show jEv _ none _ c256_0 0 0 _ (c256_0, [(2, 42), (9, 0), (9, 0), (9, 0)], [], h, 0, 0)
  have k0 := Kp.rf [(46, 0), (47, 0), (42, 6), (42, 9)] h
  refine ev_aload_n rfl ?_
  refine ev_aload_n rfl ?_
  refine ev_call (jcall_v (A := []) (S' := [(2, 42)]) (r := 42) rfl (g.lt ad42) (g.tg ad42) (Nat.le_of_ble_eq_true rfl)) (jOk_le (by decide) (s253 g )) (by decide) (by decide) (fun w42521 h42521 q42521 => ?_)
  obtain ⟨v42522, rfl, lv42522, uv42522, g42521, kk42521⟩ := q42521
  have k42521 := k0.tr kk42521 (by decide)
  show jEv _ _ _ _ _ _ _ (_, [(2, 42), (9, 0), (9, 0), (9, 0)], [(1, v42522), (2, 42)], _, _, _)
  refine g_putf (r := 42) g42521 ad42 (by decide) ft12_8 (by decide) (fun e => absurd e nz12_8) rf42_8 (by decide) (by omega) (by omega) (fun h42523 e42523 g42523 => ?_)
  have k42523 := k42521.wr e42523 rfl
  refine ev_aload_n rfl ?_
  refine g_getv (r := 42) (v := v42522) g42523 ad42 (by decide) ft12_8 ((jw_eq e42523)) ?_
  refine ev_lconst ?_
  refine ev_lcmp ?_
  refine ev_ifge f256_19 (fun c42524 => ?_) (fun c42524 => ?_)
  · have c42524b := jcmpL_ge c42524
    refine ev_aload_n rfl ?_
    refine ev_iconst ?_
    refine g_putf (r := 42) g42523 ad42 (by decide) ft12_5 (by decide) (fun e => absurd e nz12_5) rf42_5 (by decide) (by omega) (by omega) (fun h42525 e42525 g42525 => ?_)
    have k42525 := k42523.wr e42525 rfl
    refine ev_iconst ?_
    refine ev_istore_n (L' := [(2, 42), (0, 0), (9, 0), (9, 0)]) (Nat.le_of_ble_eq_true rfl) rfl ?_
    refine ev_iload_n rfl ?_
    refine ev_aload_n rfl ?_
    refine g_getv (r := 42) (v := 1) g42525 ad42 (by decide) ft12_1 (((jw_ne e42525 (Or.inr (by decide))).trans ((jw_ne e42523 (Or.inr (by decide))).trans ((kk42521.v (by decide)).trans ew0)))) ?_
    refine ev_icmpge f256_55 (fun c42526 => absurd c42526 (by omega)) (fun c42526 => ?_)
    refine ev_aload_n rfl ?_
    refine ev_dup (by decide) ?_
    refine g_getv (r := 42) (v := 1) g42525 ad42 (by decide) ft12_5 ((jw_eq e42525)) ?_
    refine ev_aload_n rfl ?_
    refine g_getp (r := 42) (c := 43) g42525 ad42 (by decide) (by decide) rf42_2 ft12_2 ?_
    refine ev_iload_n rfl ?_
    refine g_iald g42525 ad43 rt43 (by omega) (by omega) (fun v42527 ev42527 lv42527 uv42527 => ?_)
    have xv42527 := (g42525.ex.2.1 (0 : Int).toNat (by rw [(((jw_ne e42525 (Or.inr (by decide))).trans ((jw_ne e42523 (Or.inr (by decide))).trans ((kk42521.v (by decide)).trans ew0))))]; omega))
    rw [ev42527] at xv42527
    refine ev_imul (r := v42527) (by unfold w32; omega) ?_
    refine g_putf (r := 42) g42525 ad42 (by decide) ft12_5 (by decide) (fun e => absurd e nz12_5) rf42_5 (by decide) (by omega) (by omega) (fun h42528 e42528 g42528 => ?_)
    have k42528 := k42525.wr e42528 rfl
    refine ev_iinc (w := 1) (L' := [(2, 42), (0, 1), (9, 0), (9, 0)]) rfl (by decide) rfl ?_
    refine ev_goto f256_26 ?_
    refine ev_iload_n rfl ?_
    refine ev_aload_n rfl ?_
    refine g_getv (r := 42) (v := 1) g42528 ad42 (by decide) ft12_1 (((jw_ne e42528 (Or.inr (by decide))).trans ((jw_ne e42525 (Or.inr (by decide))).trans ((jw_ne e42523 (Or.inr (by decide))).trans ((kk42521.v (by decide)).trans ew0))))) ?_
    refine ev_icmpge f256_55 (fun c42529 => ?_) (fun c42529 => absurd c42529 (by omega))
    refine ev_iconst ?_
    refine ev_istore_n (L' := [(2, 42), (0, 0), (9, 0), (9, 0)]) (Nat.le_of_ble_eq_true rfl) rfl ?_
    exact (s256_1_l ew0 8) _ _ _ _ _ _ g42528 k42528 (by omega) (by omega) (((jw_ne e42528 (Or.inr (by decide))).trans ((jw_ne e42525 (Or.inr (by decide))).trans ((jw_ne e42523 (Or.inr (by decide))).trans ((kk42521.v (by decide)).trans ew0))))) (by omega) (by omega) ((jw_eq e42528)) (by omega) (by omega) (by omega)
  · have c42524b := jcmpL_geN c42524
    refine ev_iconst ?_
    exact ev_ret rfl (by decide) (by decide) ⟨_, rfl, by omega, by omega, g42523, k42523⟩
/-! s256_2  -/
set_option maxHeartbeats 4000000 in
theorem s256_2_l {G : GH} {h : JH} (ew0 : h.2.2 42 1 = 2) : ∀ N : Nat, (∀ (h1 : JH) (x1 y0 y1 : Int) (j2 j3 : AV), Gd G h1 → Kp [(46, 0), (47, 0), (42, 6), (42, 9)] h h1 → 0 ≤ x1 → x1 ≤ 9 → h1.2.2 42 1 = y0 → 2 ≤ y0 → y0 ≤ 2 → h1.2.2 42 5 = y1 → 0 ≤ y1 → y1 ≤ 9 → ((-x1) + 9) < N → jEv (jOk 3) none (fun _ => 0) c256_0 0 0 (PI G [(46, 0), (47, 0), (42, 6), (42, 9)] h 0 0 1) (c256_57, [(2, 42), (0, x1), j2, j3], [], h1, 0, 0)) := by
  intro N
  induction N with
  | zero => exact fun h1 x1 y0 y1 j2 j3 g1 k1 b0 b1 b2 b3 b4 b5 b6 b7 hm => absurd hm (by omega)
  | succ N ih =>
    show _
    intro h1 x1 y0 y1 j2 j3 g1 k1 b0 b1 ey0 ly0 uy0 ey1 ly1 uy1 hm
    refine ev_iload_n rfl ?_
    refine ev_aload_n rfl ?_
    refine g_getv (r := 42) (v := y1) g1 ad42 (by decide) ft12_5 (ey1) ?_
    refine ev_icmpge f256_127 (fun c42721 => ?_) (fun c42721 => ?_)
    · refine ev_iconst ?_
      exact ev_ret rfl (by decide) (by decide) ⟨_, rfl, by omega, by omega, g1, k1⟩
    · refine ev_iload_n rfl ?_
      refine ev_istore_n (L' := [(2, 42), (0, x1), (0, x1), j3]) (Nat.le_of_ble_eq_true rfl) rfl ?_
      refine ev_iconst ?_
      refine ev_istore_n (L' := [(2, 42), (0, x1), (0, x1), (0, 0)]) (Nat.le_of_ble_eq_true rfl) rfl ?_
      refine ev_iload_n rfl ?_
      refine ev_aload_n rfl ?_
      refine g_getv (r := 42) (v := y0) g1 ad42 (by decide) ft12_1 (ey0) ?_
      refine ev_icmpge f256_110 (fun c42722 => absurd c42722 (by omega)) (fun c42722 => ?_)
      refine ev_aload_n rfl ?_
      refine g_getp (r := 42) (c := 46) g1 ad42 (by decide) (by decide) rf42_6 ft12_6 ?_
      refine ev_iconst ?_
      refine ev_iload_n rfl ?_
      refine ev_imul (r := (4 * x1)) (by unfold w32; omega) ?_
      refine ev_iload_n rfl ?_
      refine ev_iadd (r := (4 * x1)) (by unfold w32; omega) ?_
      refine ev_iload_n rfl ?_
      refine ev_aload_n rfl ?_
      refine g_getp (r := 42) (c := 43) g1 ad42 (by decide) (by decide) rf42_2 ft12_2 ?_
      refine ev_iload_n rfl ?_
      refine g_iald g1 ad43 rt43 (by omega) (by omega) (fun v42723 ev42723 lv42723 uv42723 => ?_)
      have xv42723 := (g1.ex.2.1 (0 : Int).toNat (by rw [(ey0)]; omega))
      rw [ev42723] at xv42723
      refine g_iremQ (by omega) (by omega) (fun v42724 ev42724 lv42724 uv42724 wv42724 => ?_)
      refine ev_iastG (r := 46) (j := ((4 * x1)).toNat) (g1.lt ad46) (g1.tg ad46) (by omega) (by rw [g1.ln ad46]; omega) (fun h42725 e42725 => ?_)
      have g42725 := g1.s46 (s := (x1).toNat) (t := 0) e42725 (by omega) (by decide) (lt_r (show ((0 : Nat) : Int) < y0 by omega) (ey0)) (lt_r (show v42724 < v42723 by omega) (ev42723)) (by omega) (by omega)
      have k42725 := k1.wr e42725 rfl
      refine ev_iload_n rfl ?_
      refine ev_aload_n rfl ?_
      refine g_getp (r := 42) (c := 43) g42725 ad42 (by decide) (by decide) rf42_2 ft12_2 ?_
      refine ev_iload_n rfl ?_
      refine g_ialdv (v := v42723) g42725 ad43 (by omega) (by omega) (((jw_ne e42725 (Or.inl (by decide))).trans ev42723)) ?_
      refine g_idivM (by omega) (by omega) (by omega) (fun v42726 ev42726 lv42726 uv42726 => ?_)
      refine ev_istore_n (L' := [(2, 42), (0, x1), (0, v42726), (0, 0)]) (Nat.le_of_ble_eq_true rfl) rfl ?_
      refine ev_iinc (w := 1) (L' := [(2, 42), (0, x1), (0, v42726), (0, 1)]) rfl (by decide) rfl ?_
      refine ev_goto f256_69 ?_
      refine ev_iload_n rfl ?_
      refine ev_aload_n rfl ?_
      refine g_getv (r := 42) (v := y0) g42725 ad42 (by decide) ft12_1 (((jw_ne e42725 (Or.inl (by decide))).trans ey0)) ?_
      refine ev_icmpge f256_110 (fun c42727 => absurd c42727 (by omega)) (fun c42727 => ?_)
      refine ev_aload_n rfl ?_
      refine g_getp (r := 42) (c := 46) g42725 ad42 (by decide) (by decide) rf42_6 ft12_6 ?_
      refine ev_iconst ?_
      refine ev_iload_n rfl ?_
      refine ev_imul (r := (4 * x1)) (by unfold w32; omega) ?_
      refine ev_iload_n rfl ?_
      refine ev_iadd (r := (4 * x1 + 1)) (by unfold w32; omega) ?_
      refine ev_iload_n rfl ?_
      refine ev_aload_n rfl ?_
      refine g_getp (r := 42) (c := 43) g42725 ad42 (by decide) (by decide) rf42_2 ft12_2 ?_
      refine ev_iload_n rfl ?_
      refine g_iald g42725 ad43 rt43 (by omega) (by omega) (fun v42728 ev42728 lv42728 uv42728 => ?_)
      have xv42728 := (g42725.ex.2.1 (1 : Int).toNat (by rw [(((jw_ne e42725 (Or.inl (by decide))).trans ey0))]; omega))
      rw [ev42728] at xv42728
      refine g_iremQ (by omega) (by omega) (fun v42729 ev42729 lv42729 uv42729 wv42729 => ?_)
      refine ev_iastG (r := 46) (j := ((4 * x1 + 1)).toNat) (g42725.lt ad46) (g42725.tg ad46) (by omega) (by rw [g42725.ln ad46]; omega) (fun h42730 e42730 => ?_)
      have g42730 := g42725.s46 (s := (x1).toNat) (t := 1) e42730 (by omega) (by decide) (lt_r (show ((1 : Nat) : Int) < y0 by omega) (((jw_ne e42725 (Or.inl (by decide))).trans ey0))) (lt_r (show v42729 < v42728 by omega) (ev42728)) (by omega) (by omega)
      have k42730 := k42725.wr e42730 rfl
      refine ev_iload_n rfl ?_
      refine ev_aload_n rfl ?_
      refine g_getp (r := 42) (c := 43) g42730 ad42 (by decide) (by decide) rf42_2 ft12_2 ?_
      refine ev_iload_n rfl ?_
      refine g_ialdv (v := v42728) g42730 ad43 (by omega) (by omega) (((jw_ne e42730 (Or.inl (by decide))).trans ev42728)) ?_
      refine g_idivM (by omega) (by omega) (by omega) (fun v42731 ev42731 lv42731 uv42731 => ?_)
      refine ev_istore_n (L' := [(2, 42), (0, x1), (0, v42731), (0, 1)]) (Nat.le_of_ble_eq_true rfl) rfl ?_
      refine ev_iinc (w := 2) (L' := [(2, 42), (0, x1), (0, v42731), (0, 2)]) rfl (by decide) rfl ?_
      refine ev_goto f256_69 ?_
      refine ev_iload_n rfl ?_
      refine ev_aload_n rfl ?_
      refine g_getv (r := 42) (v := y0) g42730 ad42 (by decide) ft12_1 (((jw_ne e42730 (Or.inl (by decide))).trans ((jw_ne e42725 (Or.inl (by decide))).trans ey0))) ?_
      refine ev_icmpge f256_110 (fun c42732 => ?_) (fun c42732 => absurd c42732 (by omega))
      refine ev_aload_n rfl ?_
      refine g_getp (r := 42) (c := 47) g42730 ad42 (by decide) (by decide) rf42_7 ft12_7 ?_
      refine ev_iload_n rfl ?_
      refine ev_aload_n rfl ?_
      refine ev_iload_n rfl ?_
      refine ev_call (jcall_v (A := [(0, x1)]) (S' := [(0, x1), (2, 47)]) (r := 42) rfl (g42730.lt ad42) (g42730.tg ad42) (Nat.le_of_ble_eq_true rfl)) (jOk_le (by decide) (s255 g42730 (by omega) (by omega))) (by decide) (by decide) (fun w42733 h42733 q42733 => ?_)
      obtain ⟨v42734, rfl, lv42734, uv42734, g42733, kk42733⟩ := q42733
      have k42733 := k42730.tr kk42733 (by decide)
      show jEv _ _ _ _ _ _ _ (_, [(2, 42), (0, x1), (0, v42731), (0, 2)], [(1, v42734), (0, x1), (2, 47)], _, _, _)
      refine g_last g42733 ad47 rt47 (fun _ => rfl) (by omega) (by omega) (by omega) (by omega) (fun h42735 e42735 g42735 => ?_)
      have k42735 := k42733.wr e42735 rfl
      refine ev_iinc (w := (x1 + 1)) (L' := [(2, 42), (0, (x1 + 1)), (0, v42731), (0, 2)]) rfl (by unfold w32; omega) rfl ?_
      refine ev_goto f256_57 ?_
      exact ih _ _ _ _ _ _ g42735 k42735 (by omega) (by omega) (((jw_ne e42735 (Or.inl (by decide))).trans ((kk42733.v (by decide)).trans ((jw_ne e42730 (Or.inl (by decide))).trans ((jw_ne e42725 (Or.inl (by decide))).trans ey0))))) (by omega) (by omega) (((jw_ne e42735 (Or.inl (by decide))).trans ((kk42733.v (by decide)).trans ((jw_ne e42730 (Or.inl (by decide))).trans ((jw_ne e42725 (Or.inl (by decide))).trans ey1))))) (by omega) (by omega) (by omega)
set_option maxHeartbeats 4000000 in
theorem s256_2 {G : GH} {h : JH} (g : Gd G h) (ew0 : h.2.2 42 1 = 2) : jOk 4 0 0 256 [(2, 42)] h (PI G [(46, 0), (47, 0), (42, 6), (42, 9)] h 0 0 1) := by
  refine ⟨by decide, by rw [ml256]; exact Nat.le_of_ble_eq_true rfl, ?_⟩
  rw [ml256, pp256]
  show jEv _ none _ c256_0 0 0 _ (c256_0, [(2, 42), (9, 0), (9, 0), (9, 0)], [], h, 0, 0)
  have k0 := Kp.rf [(46, 0), (47, 0), (42, 6), (42, 9)] h
  refine ev_aload_n rfl ?_
  refine ev_aload_n rfl ?_
  refine ev_call (jcall_v (A := []) (S' := [(2, 42)]) (r := 42) rfl (g.lt ad42) (g.tg ad42) (Nat.le_of_ble_eq_true rfl)) (jOk_le (by decide) (s253 g )) (by decide) (by decide) (fun w42736 h42736 q42736 => ?_)
  obtain ⟨v42737, rfl, lv42737, uv42737, g42736, kk42736⟩ := q42736
  have k42736 := k0.tr kk42736 (by decide)
  show jEv _ _ _ _ _ _ _ (_, [(2, 42), (9, 0), (9, 0), (9, 0)], [(1, v42737), (2, 42)], _, _, _)
  refine g_putf (r := 42) g42736 ad42 (by decide) ft12_8 (by decide) (fun e => absurd e nz12_8) rf42_8 (by decide) (by omega) (by omega) (fun h42738 e42738 g42738 => ?_)
  have k42738 := k42736.wr e42738 rfl
  refine ev_aload_n rfl ?_
  refine g_getv (r := 42) (v := v42737) g42738 ad42 (by decide) ft12_8 ((jw_eq e42738)) ?_
  refine ev_lconst ?_
  refine ev_lcmp ?_
  refine ev_ifge f256_19 (fun c42739 => ?_) (fun c42739 => ?_)
  · have c42739b := jcmpL_ge c42739
    refine ev_aload_n rfl ?_
    refine ev_iconst ?_
    refine g_putf (r := 42) g42738 ad42 (by decide) ft12_5 (by decide) (fun e => absurd e nz12_5) rf42_5 (by decide) (by omega) (by omega) (fun h42740 e42740 g42740 => ?_)
    have k42740 := k42738.wr e42740 rfl
    refine ev_iconst ?_
    refine ev_istore_n (L' := [(2, 42), (0, 0), (9, 0), (9, 0)]) (Nat.le_of_ble_eq_true rfl) rfl ?_
    refine ev_iload_n rfl ?_
    refine ev_aload_n rfl ?_
    refine g_getv (r := 42) (v := 2) g42740 ad42 (by decide) ft12_1 (((jw_ne e42740 (Or.inr (by decide))).trans ((jw_ne e42738 (Or.inr (by decide))).trans ((kk42736.v (by decide)).trans ew0)))) ?_
    refine ev_icmpge f256_55 (fun c42741 => absurd c42741 (by omega)) (fun c42741 => ?_)
    refine ev_aload_n rfl ?_
    refine ev_dup (by decide) ?_
    refine g_getv (r := 42) (v := 1) g42740 ad42 (by decide) ft12_5 ((jw_eq e42740)) ?_
    refine ev_aload_n rfl ?_
    refine g_getp (r := 42) (c := 43) g42740 ad42 (by decide) (by decide) rf42_2 ft12_2 ?_
    refine ev_iload_n rfl ?_
    refine g_iald g42740 ad43 rt43 (by omega) (by omega) (fun v42742 ev42742 lv42742 uv42742 => ?_)
    have xv42742 := (g42740.ex.2.1 (0 : Int).toNat (by rw [(((jw_ne e42740 (Or.inr (by decide))).trans ((jw_ne e42738 (Or.inr (by decide))).trans ((kk42736.v (by decide)).trans ew0))))]; omega))
    rw [ev42742] at xv42742
    refine ev_imul (r := v42742) (by unfold w32; omega) ?_
    refine g_putf (r := 42) g42740 ad42 (by decide) ft12_5 (by decide) (fun e => absurd e nz12_5) rf42_5 (by decide) (by omega) (by omega) (fun h42743 e42743 g42743 => ?_)
    have k42743 := k42740.wr e42743 rfl
    refine ev_iinc (w := 1) (L' := [(2, 42), (0, 1), (9, 0), (9, 0)]) rfl (by decide) rfl ?_
    refine ev_goto f256_26 ?_
    refine ev_iload_n rfl ?_
    refine ev_aload_n rfl ?_
    refine g_getv (r := 42) (v := 2) g42743 ad42 (by decide) ft12_1 (((jw_ne e42743 (Or.inr (by decide))).trans ((jw_ne e42740 (Or.inr (by decide))).trans ((jw_ne e42738 (Or.inr (by decide))).trans ((kk42736.v (by decide)).trans ew0))))) ?_
    refine ev_icmpge f256_55 (fun c42744 => absurd c42744 (by omega)) (fun c42744 => ?_)
    refine ev_aload_n rfl ?_
    refine ev_dup (by decide) ?_
    refine g_getv (r := 42) (v := v42742) g42743 ad42 (by decide) ft12_5 ((jw_eq e42743)) ?_
    refine ev_aload_n rfl ?_
    refine g_getp (r := 42) (c := 43) g42743 ad42 (by decide) (by decide) rf42_2 ft12_2 ?_
    refine ev_iload_n rfl ?_
    refine g_iald g42743 ad43 rt43 (by omega) (by omega) (fun v42745 ev42745 lv42745 uv42745 => ?_)
    have xv42745 := (g42743.ex.2.1 (1 : Int).toNat (by rw [(((jw_ne e42743 (Or.inr (by decide))).trans ((jw_ne e42740 (Or.inr (by decide))).trans ((jw_ne e42738 (Or.inr (by decide))).trans ((kk42736.v (by decide)).trans ew0)))))]; omega))
    rw [ev42745] at xv42745
    refine g_imulB (a := 3) (b := 3) (a' := 2) (b' := 2) (by omega) (by omega) (by omega) (by omega) (by decide) (lo := 4) (hi := 9) (by decide) (by decide) (fun v42746 ev42746 lv42746 uv42746 => ?_)
    refine g_putf (r := 42) g42743 ad42 (by decide) ft12_5 (by decide) (fun e => absurd e nz12_5) rf42_5 (by decide) (by omega) (by omega) (fun h42747 e42747 g42747 => ?_)
    have k42747 := k42743.wr e42747 rfl
    refine ev_iinc (w := 2) (L' := [(2, 42), (0, 2), (9, 0), (9, 0)]) rfl (by decide) rfl ?_
    refine ev_goto f256_26 ?_
    refine ev_iload_n rfl ?_
    refine ev_aload_n rfl ?_
    refine g_getv (r := 42) (v := 2) g42747 ad42 (by decide) ft12_1 (((jw_ne e42747 (Or.inr (by decide))).trans ((jw_ne e42743 (Or.inr (by decide))).trans ((jw_ne e42740 (Or.inr (by decide))).trans ((jw_ne e42738 (Or.inr (by decide))).trans ((kk42736.v (by decide)).trans ew0)))))) ?_
    refine ev_icmpge f256_55 (fun c42748 => ?_) (fun c42748 => absurd c42748 (by omega))
    refine ev_iconst ?_
    refine ev_istore_n (L' := [(2, 42), (0, 0), (9, 0), (9, 0)]) (Nat.le_of_ble_eq_true rfl) rfl ?_
    exact (s256_2_l ew0 20) _ _ _ _ _ _ g42747 k42747 (by omega) (by omega) (((jw_ne e42747 (Or.inr (by decide))).trans ((jw_ne e42743 (Or.inr (by decide))).trans ((jw_ne e42740 (Or.inr (by decide))).trans ((jw_ne e42738 (Or.inr (by decide))).trans ((kk42736.v (by decide)).trans ew0)))))) (by omega) (by omega) ((jw_eq e42747)) (by omega) (by omega) (by omega)
  · have c42739b := jcmpL_geN c42739
    refine ev_iconst ?_
    exact ev_ret rfl (by decide) (by decide) ⟨_, rfl, by omega, by omega, g42738, k42738⟩
/-! s256_3  -/
set_option maxHeartbeats 4000000 in
theorem s256_3_l {G : GH} {h : JH} (ew0 : h.2.2 42 1 = 3) : ∀ N : Nat, (∀ (h1 : JH) (x1 y0 y1 : Int) (j2 j3 : AV), Gd G h1 → Kp [(46, 0), (47, 0), (42, 6), (42, 9)] h h1 → 0 ≤ x1 → x1 ≤ 27 → h1.2.2 42 1 = y0 → 3 ≤ y0 → y0 ≤ 3 → h1.2.2 42 5 = y1 → 0 ≤ y1 → y1 ≤ 27 → ((-x1) + 27) < N → jEv (jOk 3) none (fun _ => 0) c256_0 0 0 (PI G [(46, 0), (47, 0), (42, 6), (42, 9)] h 0 0 1) (c256_57, [(2, 42), (0, x1), j2, j3], [], h1, 0, 0)) := by
  intro N
  induction N with
  | zero => exact fun h1 x1 y0 y1 j2 j3 g1 k1 b0 b1 b2 b3 b4 b5 b6 b7 hm => absurd hm (by omega)
  | succ N ih =>
    show _
    intro h1 x1 y0 y1 j2 j3 g1 k1 b0 b1 ey0 ly0 uy0 ey1 ly1 uy1 hm
    refine ev_iload_n rfl ?_
    refine ev_aload_n rfl ?_
    refine g_getv (r := 42) (v := y1) g1 ad42 (by decide) ft12_5 (ey1) ?_
    refine ev_icmpge f256_127 (fun c43203 => ?_) (fun c43203 => ?_)
    · refine ev_iconst ?_
      exact ev_ret rfl (by decide) (by decide) ⟨_, rfl, by omega, by omega, g1, k1⟩
    · refine ev_iload_n rfl ?_
      refine ev_istore_n (L' := [(2, 42), (0, x1), (0, x1), j3]) (Nat.le_of_ble_eq_true rfl) rfl ?_
      refine ev_iconst ?_
      refine ev_istore_n (L' := [(2, 42), (0, x1), (0, x1), (0, 0)]) (Nat.le_of_ble_eq_true rfl) rfl ?_
      refine ev_iload_n rfl ?_
      refine ev_aload_n rfl ?_
      refine g_getv (r := 42) (v := y0) g1 ad42 (by decide) ft12_1 (ey0) ?_
      refine ev_icmpge f256_110 (fun c43204 => absurd c43204 (by omega)) (fun c43204 => ?_)
      refine ev_aload_n rfl ?_
      refine g_getp (r := 42) (c := 46) g1 ad42 (by decide) (by decide) rf42_6 ft12_6 ?_
      refine ev_iconst ?_
      refine ev_iload_n rfl ?_
      refine ev_imul (r := (4 * x1)) (by unfold w32; omega) ?_
      refine ev_iload_n rfl ?_
      refine ev_iadd (r := (4 * x1)) (by unfold w32; omega) ?_
      refine ev_iload_n rfl ?_
      refine ev_aload_n rfl ?_
      refine g_getp (r := 42) (c := 43) g1 ad42 (by decide) (by decide) rf42_2 ft12_2 ?_
      refine ev_iload_n rfl ?_
      refine g_iald g1 ad43 rt43 (by omega) (by omega) (fun v43205 ev43205 lv43205 uv43205 => ?_)
      have xv43205 := (g1.ex.2.1 (0 : Int).toNat (by rw [(ey0)]; omega))
      rw [ev43205] at xv43205
      refine g_iremQ (by omega) (by omega) (fun v43206 ev43206 lv43206 uv43206 wv43206 => ?_)
      refine ev_iastG (r := 46) (j := ((4 * x1)).toNat) (g1.lt ad46) (g1.tg ad46) (by omega) (by rw [g1.ln ad46]; omega) (fun h43207 e43207 => ?_)
      have g43207 := g1.s46 (s := (x1).toNat) (t := 0) e43207 (by omega) (by decide) (lt_r (show ((0 : Nat) : Int) < y0 by omega) (ey0)) (lt_r (show v43206 < v43205 by omega) (ev43205)) (by omega) (by omega)
      have k43207 := k1.wr e43207 rfl
      refine ev_iload_n rfl ?_
      refine ev_aload_n rfl ?_
      refine g_getp (r := 42) (c := 43) g43207 ad42 (by decide) (by decide) rf42_2 ft12_2 ?_
      refine ev_iload_n rfl ?_
      refine g_ialdv (v := v43205) g43207 ad43 (by omega) (by omega) (((jw_ne e43207 (Or.inl (by decide))).trans ev43205)) ?_
      refine g_idivM (by omega) (by omega) (by omega) (fun v43208 ev43208 lv43208 uv43208 => ?_)
      refine ev_istore_n (L' := [(2, 42), (0, x1), (0, v43208), (0, 0)]) (Nat.le_of_ble_eq_true rfl) rfl ?_
      refine ev_iinc (w := 1) (L' := [(2, 42), (0, x1), (0, v43208), (0, 1)]) rfl (by decide) rfl ?_
      refine ev_goto f256_69 ?_
      refine ev_iload_n rfl ?_
      refine ev_aload_n rfl ?_
      refine g_getv (r := 42) (v := y0) g43207 ad42 (by decide) ft12_1 (((jw_ne e43207 (Or.inl (by decide))).trans ey0)) ?_
      refine ev_icmpge f256_110 (fun c43209 => absurd c43209 (by omega)) (fun c43209 => ?_)
      refine ev_aload_n rfl ?_
      refine g_getp (r := 42) (c := 46) g43207 ad42 (by decide) (by decide) rf42_6 ft12_6 ?_
      refine ev_iconst ?_
      refine ev_iload_n rfl ?_
      refine ev_imul (r := (4 * x1)) (by unfold w32; omega) ?_
      refine ev_iload_n rfl ?_
      refine ev_iadd (r := (4 * x1 + 1)) (by unfold w32; omega) ?_
      refine ev_iload_n rfl ?_
      refine ev_aload_n rfl ?_
      refine g_getp (r := 42) (c := 43) g43207 ad42 (by decide) (by decide) rf42_2 ft12_2 ?_
      refine ev_iload_n rfl ?_
      refine g_iald g43207 ad43 rt43 (by omega) (by omega) (fun v43210 ev43210 lv43210 uv43210 => ?_)
      have xv43210 := (g43207.ex.2.1 (1 : Int).toNat (by rw [(((jw_ne e43207 (Or.inl (by decide))).trans ey0))]; omega))
      rw [ev43210] at xv43210
      refine g_iremQ (by omega) (by omega) (fun v43211 ev43211 lv43211 uv43211 wv43211 => ?_)
      refine ev_iastG (r := 46) (j := ((4 * x1 + 1)).toNat) (g43207.lt ad46) (g43207.tg ad46) (by omega) (by rw [g43207.ln ad46]; omega) (fun h43212 e43212 => ?_)
      have g43212 := g43207.s46 (s := (x1).toNat) (t := 1) e43212 (by omega) (by decide) (lt_r (show ((1 : Nat) : Int) < y0 by omega) (((jw_ne e43207 (Or.inl (by decide))).trans ey0))) (lt_r (show v43211 < v43210 by omega) (ev43210)) (by omega) (by omega)
      have k43212 := k43207.wr e43212 rfl
      refine ev_iload_n rfl ?_
      refine ev_aload_n rfl ?_
      refine g_getp (r := 42) (c := 43) g43212 ad42 (by decide) (by decide) rf42_2 ft12_2 ?_
      refine ev_iload_n rfl ?_
      refine g_ialdv (v := v43210) g43212 ad43 (by omega) (by omega) (((jw_ne e43212 (Or.inl (by decide))).trans ev43210)) ?_
      refine g_idivM (by omega) (by omega) (by omega) (fun v43213 ev43213 lv43213 uv43213 => ?_)
      refine ev_istore_n (L' := [(2, 42), (0, x1), (0, v43213), (0, 1)]) (Nat.le_of_ble_eq_true rfl) rfl ?_
      refine ev_iinc (w := 2) (L' := [(2, 42), (0, x1), (0, v43213), (0, 2)]) rfl (by decide) rfl ?_
      refine ev_goto f256_69 ?_
      refine ev_iload_n rfl ?_
      refine ev_aload_n rfl ?_
      refine g_getv (r := 42) (v := y0) g43212 ad42 (by decide) ft12_1 (((jw_ne e43212 (Or.inl (by decide))).trans ((jw_ne e43207 (Or.inl (by decide))).trans ey0))) ?_
      refine ev_icmpge f256_110 (fun c43214 => absurd c43214 (by omega)) (fun c43214 => ?_)
      refine ev_aload_n rfl ?_
      refine g_getp (r := 42) (c := 46) g43212 ad42 (by decide) (by decide) rf42_6 ft12_6 ?_
      refine ev_iconst ?_
      refine ev_iload_n rfl ?_
      refine ev_imul (r := (4 * x1)) (by unfold w32; omega) ?_
      refine ev_iload_n rfl ?_
      refine ev_iadd (r := (4 * x1 + 2)) (by unfold w32; omega) ?_
      refine ev_iload_n rfl ?_
      refine ev_aload_n rfl ?_
      refine g_getp (r := 42) (c := 43) g43212 ad42 (by decide) (by decide) rf42_2 ft12_2 ?_
      refine ev_iload_n rfl ?_
      refine g_iald g43212 ad43 rt43 (by omega) (by omega) (fun v43215 ev43215 lv43215 uv43215 => ?_)
      have xv43215 := (g43212.ex.2.1 (2 : Int).toNat (by rw [(((jw_ne e43212 (Or.inl (by decide))).trans ((jw_ne e43207 (Or.inl (by decide))).trans ey0)))]; omega))
      rw [ev43215] at xv43215
      refine g_iremQ (by omega) (by omega) (fun v43216 ev43216 lv43216 uv43216 wv43216 => ?_)
      refine ev_iastG (r := 46) (j := ((4 * x1 + 2)).toNat) (g43212.lt ad46) (g43212.tg ad46) (by omega) (by rw [g43212.ln ad46]; omega) (fun h43217 e43217 => ?_)
      have g43217 := g43212.s46 (s := (x1).toNat) (t := 2) e43217 (by omega) (by decide) (lt_r (show ((2 : Nat) : Int) < y0 by omega) (((jw_ne e43212 (Or.inl (by decide))).trans ((jw_ne e43207 (Or.inl (by decide))).trans ey0)))) (lt_r (show v43216 < v43215 by omega) (ev43215)) (by omega) (by omega)
      have k43217 := k43212.wr e43217 rfl
      refine ev_iload_n rfl ?_
      refine ev_aload_n rfl ?_
      refine g_getp (r := 42) (c := 43) g43217 ad42 (by decide) (by decide) rf42_2 ft12_2 ?_
      refine ev_iload_n rfl ?_
      refine g_ialdv (v := v43215) g43217 ad43 (by omega) (by omega) (((jw_ne e43217 (Or.inl (by decide))).trans ev43215)) ?_
      refine g_idivM (by omega) (by omega) (by omega) (fun v43218 ev43218 lv43218 uv43218 => ?_)
      refine ev_istore_n (L' := [(2, 42), (0, x1), (0, v43218), (0, 2)]) (Nat.le_of_ble_eq_true rfl) rfl ?_
      refine ev_iinc (w := 3) (L' := [(2, 42), (0, x1), (0, v43218), (0, 3)]) rfl (by decide) rfl ?_
      refine ev_goto f256_69 ?_
      refine ev_iload_n rfl ?_
      refine ev_aload_n rfl ?_
      refine g_getv (r := 42) (v := y0) g43217 ad42 (by decide) ft12_1 (((jw_ne e43217 (Or.inl (by decide))).trans ((jw_ne e43212 (Or.inl (by decide))).trans ((jw_ne e43207 (Or.inl (by decide))).trans ey0)))) ?_
      refine ev_icmpge f256_110 (fun c43219 => ?_) (fun c43219 => absurd c43219 (by omega))
      refine ev_aload_n rfl ?_
      refine g_getp (r := 42) (c := 47) g43217 ad42 (by decide) (by decide) rf42_7 ft12_7 ?_
      refine ev_iload_n rfl ?_
      refine ev_aload_n rfl ?_
      refine ev_iload_n rfl ?_
      refine ev_call (jcall_v (A := [(0, x1)]) (S' := [(0, x1), (2, 47)]) (r := 42) rfl (g43217.lt ad42) (g43217.tg ad42) (Nat.le_of_ble_eq_true rfl)) (jOk_le (by decide) (s255 g43217 (by omega) (by omega))) (by decide) (by decide) (fun w43220 h43220 q43220 => ?_)
      obtain ⟨v43221, rfl, lv43221, uv43221, g43220, kk43220⟩ := q43220
      have k43220 := k43217.tr kk43220 (by decide)
      show jEv _ _ _ _ _ _ _ (_, [(2, 42), (0, x1), (0, v43218), (0, 3)], [(1, v43221), (0, x1), (2, 47)], _, _, _)
      refine g_last g43220 ad47 rt47 (fun _ => rfl) (by omega) (by omega) (by omega) (by omega) (fun h43222 e43222 g43222 => ?_)
      have k43222 := k43220.wr e43222 rfl
      refine ev_iinc (w := (x1 + 1)) (L' := [(2, 42), (0, (x1 + 1)), (0, v43218), (0, 3)]) rfl (by unfold w32; omega) rfl ?_
      refine ev_goto f256_57 ?_
      exact ih _ _ _ _ _ _ g43222 k43222 (by omega) (by omega) (((jw_ne e43222 (Or.inl (by decide))).trans ((kk43220.v (by decide)).trans ((jw_ne e43217 (Or.inl (by decide))).trans ((jw_ne e43212 (Or.inl (by decide))).trans ((jw_ne e43207 (Or.inl (by decide))).trans ey0)))))) (by omega) (by omega) (((jw_ne e43222 (Or.inl (by decide))).trans ((kk43220.v (by decide)).trans ((jw_ne e43217 (Or.inl (by decide))).trans ((jw_ne e43212 (Or.inl (by decide))).trans ((jw_ne e43207 (Or.inl (by decide))).trans ey1)))))) (by omega) (by omega) (by omega)
set_option maxHeartbeats 4000000 in
theorem s256_3 {G : GH} {h : JH} (g : Gd G h) (ew0 : h.2.2 42 1 = 3) : jOk 4 0 0 256 [(2, 42)] h (PI G [(46, 0), (47, 0), (42, 6), (42, 9)] h 0 0 1) := by
  refine ⟨by decide, by rw [ml256]; exact Nat.le_of_ble_eq_true rfl, ?_⟩
  rw [ml256, pp256]
  show jEv _ none _ c256_0 0 0 _ (c256_0, [(2, 42), (9, 0), (9, 0), (9, 0)], [], h, 0, 0)
  have k0 := Kp.rf [(46, 0), (47, 0), (42, 6), (42, 9)] h
  refine ev_aload_n rfl ?_
  refine ev_aload_n rfl ?_
  refine ev_call (jcall_v (A := []) (S' := [(2, 42)]) (r := 42) rfl (g.lt ad42) (g.tg ad42) (Nat.le_of_ble_eq_true rfl)) (jOk_le (by decide) (s253 g )) (by decide) (by decide) (fun w43223 h43223 q43223 => ?_)
  obtain ⟨v43224, rfl, lv43224, uv43224, g43223, kk43223⟩ := q43223
  have k43223 := k0.tr kk43223 (by decide)
  show jEv _ _ _ _ _ _ _ (_, [(2, 42), (9, 0), (9, 0), (9, 0)], [(1, v43224), (2, 42)], _, _, _)
  refine g_putf (r := 42) g43223 ad42 (by decide) ft12_8 (by decide) (fun e => absurd e nz12_8) rf42_8 (by decide) (by omega) (by omega) (fun h43225 e43225 g43225 => ?_)
  have k43225 := k43223.wr e43225 rfl
  refine ev_aload_n rfl ?_
  refine g_getv (r := 42) (v := v43224) g43225 ad42 (by decide) ft12_8 ((jw_eq e43225)) ?_
  refine ev_lconst ?_
  refine ev_lcmp ?_
  refine ev_ifge f256_19 (fun c43226 => ?_) (fun c43226 => ?_)
  · have c43226b := jcmpL_ge c43226
    refine ev_aload_n rfl ?_
    refine ev_iconst ?_
    refine g_putf (r := 42) g43225 ad42 (by decide) ft12_5 (by decide) (fun e => absurd e nz12_5) rf42_5 (by decide) (by omega) (by omega) (fun h43227 e43227 g43227 => ?_)
    have k43227 := k43225.wr e43227 rfl
    refine ev_iconst ?_
    refine ev_istore_n (L' := [(2, 42), (0, 0), (9, 0), (9, 0)]) (Nat.le_of_ble_eq_true rfl) rfl ?_
    refine ev_iload_n rfl ?_
    refine ev_aload_n rfl ?_
    refine g_getv (r := 42) (v := 3) g43227 ad42 (by decide) ft12_1 (((jw_ne e43227 (Or.inr (by decide))).trans ((jw_ne e43225 (Or.inr (by decide))).trans ((kk43223.v (by decide)).trans ew0)))) ?_
    refine ev_icmpge f256_55 (fun c43228 => absurd c43228 (by omega)) (fun c43228 => ?_)
    refine ev_aload_n rfl ?_
    refine ev_dup (by decide) ?_
    refine g_getv (r := 42) (v := 1) g43227 ad42 (by decide) ft12_5 ((jw_eq e43227)) ?_
    refine ev_aload_n rfl ?_
    refine g_getp (r := 42) (c := 43) g43227 ad42 (by decide) (by decide) rf42_2 ft12_2 ?_
    refine ev_iload_n rfl ?_
    refine g_iald g43227 ad43 rt43 (by omega) (by omega) (fun v43229 ev43229 lv43229 uv43229 => ?_)
    have xv43229 := (g43227.ex.2.1 (0 : Int).toNat (by rw [(((jw_ne e43227 (Or.inr (by decide))).trans ((jw_ne e43225 (Or.inr (by decide))).trans ((kk43223.v (by decide)).trans ew0))))]; omega))
    rw [ev43229] at xv43229
    refine ev_imul (r := v43229) (by unfold w32; omega) ?_
    refine g_putf (r := 42) g43227 ad42 (by decide) ft12_5 (by decide) (fun e => absurd e nz12_5) rf42_5 (by decide) (by omega) (by omega) (fun h43230 e43230 g43230 => ?_)
    have k43230 := k43227.wr e43230 rfl
    refine ev_iinc (w := 1) (L' := [(2, 42), (0, 1), (9, 0), (9, 0)]) rfl (by decide) rfl ?_
    refine ev_goto f256_26 ?_
    refine ev_iload_n rfl ?_
    refine ev_aload_n rfl ?_
    refine g_getv (r := 42) (v := 3) g43230 ad42 (by decide) ft12_1 (((jw_ne e43230 (Or.inr (by decide))).trans ((jw_ne e43227 (Or.inr (by decide))).trans ((jw_ne e43225 (Or.inr (by decide))).trans ((kk43223.v (by decide)).trans ew0))))) ?_
    refine ev_icmpge f256_55 (fun c43231 => absurd c43231 (by omega)) (fun c43231 => ?_)
    refine ev_aload_n rfl ?_
    refine ev_dup (by decide) ?_
    refine g_getv (r := 42) (v := v43229) g43230 ad42 (by decide) ft12_5 ((jw_eq e43230)) ?_
    refine ev_aload_n rfl ?_
    refine g_getp (r := 42) (c := 43) g43230 ad42 (by decide) (by decide) rf42_2 ft12_2 ?_
    refine ev_iload_n rfl ?_
    refine g_iald g43230 ad43 rt43 (by omega) (by omega) (fun v43232 ev43232 lv43232 uv43232 => ?_)
    have xv43232 := (g43230.ex.2.1 (1 : Int).toNat (by rw [(((jw_ne e43230 (Or.inr (by decide))).trans ((jw_ne e43227 (Or.inr (by decide))).trans ((jw_ne e43225 (Or.inr (by decide))).trans ((kk43223.v (by decide)).trans ew0)))))]; omega))
    rw [ev43232] at xv43232
    refine g_imulB (a := 3) (b := 3) (a' := 2) (b' := 2) (by omega) (by omega) (by omega) (by omega) (by decide) (lo := 4) (hi := 9) (by decide) (by decide) (fun v43233 ev43233 lv43233 uv43233 => ?_)
    refine g_putf (r := 42) g43230 ad42 (by decide) ft12_5 (by decide) (fun e => absurd e nz12_5) rf42_5 (by decide) (by omega) (by omega) (fun h43234 e43234 g43234 => ?_)
    have k43234 := k43230.wr e43234 rfl
    refine ev_iinc (w := 2) (L' := [(2, 42), (0, 2), (9, 0), (9, 0)]) rfl (by decide) rfl ?_
    refine ev_goto f256_26 ?_
    refine ev_iload_n rfl ?_
    refine ev_aload_n rfl ?_
    refine g_getv (r := 42) (v := 3) g43234 ad42 (by decide) ft12_1 (((jw_ne e43234 (Or.inr (by decide))).trans ((jw_ne e43230 (Or.inr (by decide))).trans ((jw_ne e43227 (Or.inr (by decide))).trans ((jw_ne e43225 (Or.inr (by decide))).trans ((kk43223.v (by decide)).trans ew0)))))) ?_
    refine ev_icmpge f256_55 (fun c43235 => absurd c43235 (by omega)) (fun c43235 => ?_)
    refine ev_aload_n rfl ?_
    refine ev_dup (by decide) ?_
    refine g_getv (r := 42) (v := v43233) g43234 ad42 (by decide) ft12_5 ((jw_eq e43234)) ?_
    refine ev_aload_n rfl ?_
    refine g_getp (r := 42) (c := 43) g43234 ad42 (by decide) (by decide) rf42_2 ft12_2 ?_
    refine ev_iload_n rfl ?_
    refine g_iald g43234 ad43 rt43 (by omega) (by omega) (fun v43236 ev43236 lv43236 uv43236 => ?_)
    have xv43236 := (g43234.ex.2.1 (2 : Int).toNat (by rw [(((jw_ne e43234 (Or.inr (by decide))).trans ((jw_ne e43230 (Or.inr (by decide))).trans ((jw_ne e43227 (Or.inr (by decide))).trans ((jw_ne e43225 (Or.inr (by decide))).trans ((kk43223.v (by decide)).trans ew0))))))]; omega))
    rw [ev43236] at xv43236
    refine g_imulB (a := 9) (b := 3) (a' := 4) (b' := 2) (by omega) (by omega) (by omega) (by omega) (by decide) (lo := 8) (hi := 27) (by decide) (by decide) (fun v43237 ev43237 lv43237 uv43237 => ?_)
    refine g_putf (r := 42) g43234 ad42 (by decide) ft12_5 (by decide) (fun e => absurd e nz12_5) rf42_5 (by decide) (by omega) (by omega) (fun h43238 e43238 g43238 => ?_)
    have k43238 := k43234.wr e43238 rfl
    refine ev_iinc (w := 3) (L' := [(2, 42), (0, 3), (9, 0), (9, 0)]) rfl (by decide) rfl ?_
    refine ev_goto f256_26 ?_
    refine ev_iload_n rfl ?_
    refine ev_aload_n rfl ?_
    refine g_getv (r := 42) (v := 3) g43238 ad42 (by decide) ft12_1 (((jw_ne e43238 (Or.inr (by decide))).trans ((jw_ne e43234 (Or.inr (by decide))).trans ((jw_ne e43230 (Or.inr (by decide))).trans ((jw_ne e43227 (Or.inr (by decide))).trans ((jw_ne e43225 (Or.inr (by decide))).trans ((kk43223.v (by decide)).trans ew0))))))) ?_
    refine ev_icmpge f256_55 (fun c43239 => ?_) (fun c43239 => absurd c43239 (by omega))
    refine ev_iconst ?_
    refine ev_istore_n (L' := [(2, 42), (0, 0), (9, 0), (9, 0)]) (Nat.le_of_ble_eq_true rfl) rfl ?_
    exact (s256_3_l ew0 56) _ _ _ _ _ _ g43238 k43238 (by omega) (by omega) (((jw_ne e43238 (Or.inr (by decide))).trans ((jw_ne e43234 (Or.inr (by decide))).trans ((jw_ne e43230 (Or.inr (by decide))).trans ((jw_ne e43227 (Or.inr (by decide))).trans ((jw_ne e43225 (Or.inr (by decide))).trans ((kk43223.v (by decide)).trans ew0))))))) (by omega) (by omega) ((jw_eq e43238)) (by omega) (by omega) (by omega)
  · have c43226b := jcmpL_geN c43226
    refine ev_iconst ?_
    exact ev_ret rfl (by decide) (by decide) ⟨_, rfl, by omega, by omega, g43225, k43225⟩
/-! s256_4  -/
set_option maxHeartbeats 4000000 in
theorem s256_4_l {G : GH} {h : JH} (ew0 : h.2.2 42 1 = 4) : ∀ N : Nat, (∀ (h1 : JH) (x1 y0 y1 : Int) (j2 j3 : AV), Gd G h1 → Kp [(46, 0), (47, 0), (42, 6), (42, 9)] h h1 → 0 ≤ x1 → x1 ≤ 81 → h1.2.2 42 1 = y0 → 4 ≤ y0 → y0 ≤ 4 → h1.2.2 42 5 = y1 → 0 ≤ y1 → y1 ≤ 81 → ((-x1) + 81) < N → jEv (jOk 3) none (fun _ => 0) c256_0 0 0 (PI G [(46, 0), (47, 0), (42, 6), (42, 9)] h 0 0 1) (c256_57, [(2, 42), (0, x1), j2, j3], [], h1, 0, 0)) := by
  intro N
  induction N with
  | zero => exact fun h1 x1 y0 y1 j2 j3 g1 k1 b0 b1 b2 b3 b4 b5 b6 b7 hm => absurd hm (by omega)
  | succ N ih =>
    show _
    intro h1 x1 y0 y1 j2 j3 g1 k1 b0 b1 ey0 ly0 uy0 ey1 ly1 uy1 hm
    refine ev_iload_n rfl ?_
    refine ev_aload_n rfl ?_
    refine g_getv (r := 42) (v := y1) g1 ad42 (by decide) ft12_5 (ey1) ?_
    refine ev_icmpge f256_127 (fun c44132 => ?_) (fun c44132 => ?_)
    · refine ev_iconst ?_
      exact ev_ret rfl (by decide) (by decide) ⟨_, rfl, by omega, by omega, g1, k1⟩
    · refine ev_iload_n rfl ?_
      refine ev_istore_n (L' := [(2, 42), (0, x1), (0, x1), j3]) (Nat.le_of_ble_eq_true rfl) rfl ?_
      refine ev_iconst ?_
      refine ev_istore_n (L' := [(2, 42), (0, x1), (0, x1), (0, 0)]) (Nat.le_of_ble_eq_true rfl) rfl ?_
      refine ev_iload_n rfl ?_
      refine ev_aload_n rfl ?_
      refine g_getv (r := 42) (v := y0) g1 ad42 (by decide) ft12_1 (ey0) ?_
      refine ev_icmpge f256_110 (fun c44133 => absurd c44133 (by omega)) (fun c44133 => ?_)
      refine ev_aload_n rfl ?_
      refine g_getp (r := 42) (c := 46) g1 ad42 (by decide) (by decide) rf42_6 ft12_6 ?_
      refine ev_iconst ?_
      refine ev_iload_n rfl ?_
      refine ev_imul (r := (4 * x1)) (by unfold w32; omega) ?_
      refine ev_iload_n rfl ?_
      refine ev_iadd (r := (4 * x1)) (by unfold w32; omega) ?_
      refine ev_iload_n rfl ?_
      refine ev_aload_n rfl ?_
      refine g_getp (r := 42) (c := 43) g1 ad42 (by decide) (by decide) rf42_2 ft12_2 ?_
      refine ev_iload_n rfl ?_
      refine g_iald g1 ad43 rt43 (by omega) (by omega) (fun v44134 ev44134 lv44134 uv44134 => ?_)
      have xv44134 := (g1.ex.2.1 (0 : Int).toNat (by rw [(ey0)]; omega))
      rw [ev44134] at xv44134
      refine g_iremQ (by omega) (by omega) (fun v44135 ev44135 lv44135 uv44135 wv44135 => ?_)
      refine ev_iastG (r := 46) (j := ((4 * x1)).toNat) (g1.lt ad46) (g1.tg ad46) (by omega) (by rw [g1.ln ad46]; omega) (fun h44136 e44136 => ?_)
      have g44136 := g1.s46 (s := (x1).toNat) (t := 0) e44136 (by omega) (by decide) (lt_r (show ((0 : Nat) : Int) < y0 by omega) (ey0)) (lt_r (show v44135 < v44134 by omega) (ev44134)) (by omega) (by omega)
      have k44136 := k1.wr e44136 rfl
      refine ev_iload_n rfl ?_
      refine ev_aload_n rfl ?_
      refine g_getp (r := 42) (c := 43) g44136 ad42 (by decide) (by decide) rf42_2 ft12_2 ?_
      refine ev_iload_n rfl ?_
      refine g_ialdv (v := v44134) g44136 ad43 (by omega) (by omega) (((jw_ne e44136 (Or.inl (by decide))).trans ev44134)) ?_
      refine g_idivM (by omega) (by omega) (by omega) (fun v44137 ev44137 lv44137 uv44137 => ?_)
      refine ev_istore_n (L' := [(2, 42), (0, x1), (0, v44137), (0, 0)]) (Nat.le_of_ble_eq_true rfl) rfl ?_
      refine ev_iinc (w := 1) (L' := [(2, 42), (0, x1), (0, v44137), (0, 1)]) rfl (by decide) rfl ?_
      refine ev_goto f256_69 ?_
      refine ev_iload_n rfl ?_
      refine ev_aload_n rfl ?_
      refine g_getv (r := 42) (v := y0) g44136 ad42 (by decide) ft12_1 (((jw_ne e44136 (Or.inl (by decide))).trans ey0)) ?_
      refine ev_icmpge f256_110 (fun c44138 => absurd c44138 (by omega)) (fun c44138 => ?_)
      refine ev_aload_n rfl ?_
      refine g_getp (r := 42) (c := 46) g44136 ad42 (by decide) (by decide) rf42_6 ft12_6 ?_
      refine ev_iconst ?_
      refine ev_iload_n rfl ?_
      refine ev_imul (r := (4 * x1)) (by unfold w32; omega) ?_
      refine ev_iload_n rfl ?_
      refine ev_iadd (r := (4 * x1 + 1)) (by unfold w32; omega) ?_
      refine ev_iload_n rfl ?_
      refine ev_aload_n rfl ?_
      refine g_getp (r := 42) (c := 43) g44136 ad42 (by decide) (by decide) rf42_2 ft12_2 ?_
      refine ev_iload_n rfl ?_
      refine g_iald g44136 ad43 rt43 (by omega) (by omega) (fun v44139 ev44139 lv44139 uv44139 => ?_)
      have xv44139 := (g44136.ex.2.1 (1 : Int).toNat (by rw [(((jw_ne e44136 (Or.inl (by decide))).trans ey0))]; omega))
      rw [ev44139] at xv44139
      refine g_iremQ (by omega) (by omega) (fun v44140 ev44140 lv44140 uv44140 wv44140 => ?_)
      refine ev_iastG (r := 46) (j := ((4 * x1 + 1)).toNat) (g44136.lt ad46) (g44136.tg ad46) (by omega) (by rw [g44136.ln ad46]; omega) (fun h44141 e44141 => ?_)
      have g44141 := g44136.s46 (s := (x1).toNat) (t := 1) e44141 (by omega) (by decide) (lt_r (show ((1 : Nat) : Int) < y0 by omega) (((jw_ne e44136 (Or.inl (by decide))).trans ey0))) (lt_r (show v44140 < v44139 by omega) (ev44139)) (by omega) (by omega)
      have k44141 := k44136.wr e44141 rfl
      refine ev_iload_n rfl ?_
      refine ev_aload_n rfl ?_
      refine g_getp (r := 42) (c := 43) g44141 ad42 (by decide) (by decide) rf42_2 ft12_2 ?_
      refine ev_iload_n rfl ?_
      refine g_ialdv (v := v44139) g44141 ad43 (by omega) (by omega) (((jw_ne e44141 (Or.inl (by decide))).trans ev44139)) ?_
      refine g_idivM (by omega) (by omega) (by omega) (fun v44142 ev44142 lv44142 uv44142 => ?_)
      refine ev_istore_n (L' := [(2, 42), (0, x1), (0, v44142), (0, 1)]) (Nat.le_of_ble_eq_true rfl) rfl ?_
      refine ev_iinc (w := 2) (L' := [(2, 42), (0, x1), (0, v44142), (0, 2)]) rfl (by decide) rfl ?_
      refine ev_goto f256_69 ?_
      refine ev_iload_n rfl ?_
      refine ev_aload_n rfl ?_
      refine g_getv (r := 42) (v := y0) g44141 ad42 (by decide) ft12_1 (((jw_ne e44141 (Or.inl (by decide))).trans ((jw_ne e44136 (Or.inl (by decide))).trans ey0))) ?_
      refine ev_icmpge f256_110 (fun c44143 => absurd c44143 (by omega)) (fun c44143 => ?_)
      refine ev_aload_n rfl ?_
      refine g_getp (r := 42) (c := 46) g44141 ad42 (by decide) (by decide) rf42_6 ft12_6 ?_
      refine ev_iconst ?_
      refine ev_iload_n rfl ?_
      refine ev_imul (r := (4 * x1)) (by unfold w32; omega) ?_
      refine ev_iload_n rfl ?_
      refine ev_iadd (r := (4 * x1 + 2)) (by unfold w32; omega) ?_
      refine ev_iload_n rfl ?_
      refine ev_aload_n rfl ?_
      refine g_getp (r := 42) (c := 43) g44141 ad42 (by decide) (by decide) rf42_2 ft12_2 ?_
      refine ev_iload_n rfl ?_
      refine g_iald g44141 ad43 rt43 (by omega) (by omega) (fun v44144 ev44144 lv44144 uv44144 => ?_)
      have xv44144 := (g44141.ex.2.1 (2 : Int).toNat (by rw [(((jw_ne e44141 (Or.inl (by decide))).trans ((jw_ne e44136 (Or.inl (by decide))).trans ey0)))]; omega))
      rw [ev44144] at xv44144
      refine g_iremQ (by omega) (by omega) (fun v44145 ev44145 lv44145 uv44145 wv44145 => ?_)
      refine ev_iastG (r := 46) (j := ((4 * x1 + 2)).toNat) (g44141.lt ad46) (g44141.tg ad46) (by omega) (by rw [g44141.ln ad46]; omega) (fun h44146 e44146 => ?_)
      have g44146 := g44141.s46 (s := (x1).toNat) (t := 2) e44146 (by omega) (by decide) (lt_r (show ((2 : Nat) : Int) < y0 by omega) (((jw_ne e44141 (Or.inl (by decide))).trans ((jw_ne e44136 (Or.inl (by decide))).trans ey0)))) (lt_r (show v44145 < v44144 by omega) (ev44144)) (by omega) (by omega)
      have k44146 := k44141.wr e44146 rfl
      refine ev_iload_n rfl ?_
      refine ev_aload_n rfl ?_
      refine g_getp (r := 42) (c := 43) g44146 ad42 (by decide) (by decide) rf42_2 ft12_2 ?_
      refine ev_iload_n rfl ?_
      refine g_ialdv (v := v44144) g44146 ad43 (by omega) (by omega) (((jw_ne e44146 (Or.inl (by decide))).trans ev44144)) ?_
      refine g_idivM (by omega) (by omega) (by omega) (fun v44147 ev44147 lv44147 uv44147 => ?_)
      refine ev_istore_n (L' := [(2, 42), (0, x1), (0, v44147), (0, 2)]) (Nat.le_of_ble_eq_true rfl) rfl ?_
      refine ev_iinc (w := 3) (L' := [(2, 42), (0, x1), (0, v44147), (0, 3)]) rfl (by decide) rfl ?_
      refine ev_goto f256_69 ?_
      refine ev_iload_n rfl ?_
      refine ev_aload_n rfl ?_
      refine g_getv (r := 42) (v := y0) g44146 ad42 (by decide) ft12_1 (((jw_ne e44146 (Or.inl (by decide))).trans ((jw_ne e44141 (Or.inl (by decide))).trans ((jw_ne e44136 (Or.inl (by decide))).trans ey0)))) ?_
      refine ev_icmpge f256_110 (fun c44148 => absurd c44148 (by omega)) (fun c44148 => ?_)
      refine ev_aload_n rfl ?_
      refine g_getp (r := 42) (c := 46) g44146 ad42 (by decide) (by decide) rf42_6 ft12_6 ?_
      refine ev_iconst ?_
      refine ev_iload_n rfl ?_
      refine ev_imul (r := (4 * x1)) (by unfold w32; omega) ?_
      refine ev_iload_n rfl ?_
      refine ev_iadd (r := (4 * x1 + 3)) (by unfold w32; omega) ?_
      refine ev_iload_n rfl ?_
      refine ev_aload_n rfl ?_
      refine g_getp (r := 42) (c := 43) g44146 ad42 (by decide) (by decide) rf42_2 ft12_2 ?_
      refine ev_iload_n rfl ?_
      refine g_iald g44146 ad43 rt43 (by omega) (by omega) (fun v44149 ev44149 lv44149 uv44149 => ?_)
      have xv44149 := (g44146.ex.2.1 (3 : Int).toNat (by rw [(((jw_ne e44146 (Or.inl (by decide))).trans ((jw_ne e44141 (Or.inl (by decide))).trans ((jw_ne e44136 (Or.inl (by decide))).trans ey0))))]; omega))
      rw [ev44149] at xv44149
      refine g_iremQ (by omega) (by omega) (fun v44150 ev44150 lv44150 uv44150 wv44150 => ?_)
      refine ev_iastG (r := 46) (j := ((4 * x1 + 3)).toNat) (g44146.lt ad46) (g44146.tg ad46) (by omega) (by rw [g44146.ln ad46]; omega) (fun h44151 e44151 => ?_)
      have g44151 := g44146.s46 (s := (x1).toNat) (t := 3) e44151 (by omega) (by decide) (lt_r (show ((3 : Nat) : Int) < y0 by omega) (((jw_ne e44146 (Or.inl (by decide))).trans ((jw_ne e44141 (Or.inl (by decide))).trans ((jw_ne e44136 (Or.inl (by decide))).trans ey0))))) (lt_r (show v44150 < v44149 by omega) (ev44149)) (by omega) (by omega)
      have k44151 := k44146.wr e44151 rfl
      refine ev_iload_n rfl ?_
      refine ev_aload_n rfl ?_
      refine g_getp (r := 42) (c := 43) g44151 ad42 (by decide) (by decide) rf42_2 ft12_2 ?_
      refine ev_iload_n rfl ?_
      refine g_ialdv (v := v44149) g44151 ad43 (by omega) (by omega) (((jw_ne e44151 (Or.inl (by decide))).trans ev44149)) ?_
      refine g_idivM (by omega) (by omega) (by omega) (fun v44152 ev44152 lv44152 uv44152 => ?_)
      refine ev_istore_n (L' := [(2, 42), (0, x1), (0, v44152), (0, 3)]) (Nat.le_of_ble_eq_true rfl) rfl ?_
      refine ev_iinc (w := 4) (L' := [(2, 42), (0, x1), (0, v44152), (0, 4)]) rfl (by decide) rfl ?_
      refine ev_goto f256_69 ?_
      refine ev_iload_n rfl ?_
      refine ev_aload_n rfl ?_
      refine g_getv (r := 42) (v := y0) g44151 ad42 (by decide) ft12_1 (((jw_ne e44151 (Or.inl (by decide))).trans ((jw_ne e44146 (Or.inl (by decide))).trans ((jw_ne e44141 (Or.inl (by decide))).trans ((jw_ne e44136 (Or.inl (by decide))).trans ey0))))) ?_
      refine ev_icmpge f256_110 (fun c44153 => ?_) (fun c44153 => absurd c44153 (by omega))
      refine ev_aload_n rfl ?_
      refine g_getp (r := 42) (c := 47) g44151 ad42 (by decide) (by decide) rf42_7 ft12_7 ?_
      refine ev_iload_n rfl ?_
      refine ev_aload_n rfl ?_
      refine ev_iload_n rfl ?_
      refine ev_call (jcall_v (A := [(0, x1)]) (S' := [(0, x1), (2, 47)]) (r := 42) rfl (g44151.lt ad42) (g44151.tg ad42) (Nat.le_of_ble_eq_true rfl)) (jOk_le (by decide) (s255 g44151 (by omega) (by omega))) (by decide) (by decide) (fun w44154 h44154 q44154 => ?_)
      obtain ⟨v44155, rfl, lv44155, uv44155, g44154, kk44154⟩ := q44154
      have k44154 := k44151.tr kk44154 (by decide)
      show jEv _ _ _ _ _ _ _ (_, [(2, 42), (0, x1), (0, v44152), (0, 4)], [(1, v44155), (0, x1), (2, 47)], _, _, _)
      refine g_last g44154 ad47 rt47 (fun _ => rfl) (by omega) (by omega) (by omega) (by omega) (fun h44156 e44156 g44156 => ?_)
      have k44156 := k44154.wr e44156 rfl
      refine ev_iinc (w := (x1 + 1)) (L' := [(2, 42), (0, (x1 + 1)), (0, v44152), (0, 4)]) rfl (by unfold w32; omega) rfl ?_
      refine ev_goto f256_57 ?_
      exact ih _ _ _ _ _ _ g44156 k44156 (by omega) (by omega) (((jw_ne e44156 (Or.inl (by decide))).trans ((kk44154.v (by decide)).trans ((jw_ne e44151 (Or.inl (by decide))).trans ((jw_ne e44146 (Or.inl (by decide))).trans ((jw_ne e44141 (Or.inl (by decide))).trans ((jw_ne e44136 (Or.inl (by decide))).trans ey0))))))) (by omega) (by omega) (((jw_ne e44156 (Or.inl (by decide))).trans ((kk44154.v (by decide)).trans ((jw_ne e44151 (Or.inl (by decide))).trans ((jw_ne e44146 (Or.inl (by decide))).trans ((jw_ne e44141 (Or.inl (by decide))).trans ((jw_ne e44136 (Or.inl (by decide))).trans ey1))))))) (by omega) (by omega) (by omega)
set_option maxHeartbeats 4000000 in
theorem s256_4 {G : GH} {h : JH} (g : Gd G h) (ew0 : h.2.2 42 1 = 4) : jOk 4 0 0 256 [(2, 42)] h (PI G [(46, 0), (47, 0), (42, 6), (42, 9)] h 0 0 1) := by
  refine ⟨by decide, by rw [ml256]; exact Nat.le_of_ble_eq_true rfl, ?_⟩
  rw [ml256, pp256]
  show jEv _ none _ c256_0 0 0 _ (c256_0, [(2, 42), (9, 0), (9, 0), (9, 0)], [], h, 0, 0)
  have k0 := Kp.rf [(46, 0), (47, 0), (42, 6), (42, 9)] h
  refine ev_aload_n rfl ?_
  refine ev_aload_n rfl ?_
  refine ev_call (jcall_v (A := []) (S' := [(2, 42)]) (r := 42) rfl (g.lt ad42) (g.tg ad42) (Nat.le_of_ble_eq_true rfl)) (jOk_le (by decide) (s253 g )) (by decide) (by decide) (fun w44157 h44157 q44157 => ?_)
  obtain ⟨v44158, rfl, lv44158, uv44158, g44157, kk44157⟩ := q44157
  have k44157 := k0.tr kk44157 (by decide)
  show jEv _ _ _ _ _ _ _ (_, [(2, 42), (9, 0), (9, 0), (9, 0)], [(1, v44158), (2, 42)], _, _, _)
  refine g_putf (r := 42) g44157 ad42 (by decide) ft12_8 (by decide) (fun e => absurd e nz12_8) rf42_8 (by decide) (by omega) (by omega) (fun h44159 e44159 g44159 => ?_)
  have k44159 := k44157.wr e44159 rfl
  refine ev_aload_n rfl ?_
  refine g_getv (r := 42) (v := v44158) g44159 ad42 (by decide) ft12_8 ((jw_eq e44159)) ?_
  refine ev_lconst ?_
  refine ev_lcmp ?_
  refine ev_ifge f256_19 (fun c44160 => ?_) (fun c44160 => ?_)
  · have c44160b := jcmpL_ge c44160
    refine ev_aload_n rfl ?_
    refine ev_iconst ?_
    refine g_putf (r := 42) g44159 ad42 (by decide) ft12_5 (by decide) (fun e => absurd e nz12_5) rf42_5 (by decide) (by omega) (by omega) (fun h44161 e44161 g44161 => ?_)
    have k44161 := k44159.wr e44161 rfl
    refine ev_iconst ?_
    refine ev_istore_n (L' := [(2, 42), (0, 0), (9, 0), (9, 0)]) (Nat.le_of_ble_eq_true rfl) rfl ?_
    refine ev_iload_n rfl ?_
    refine ev_aload_n rfl ?_
    refine g_getv (r := 42) (v := 4) g44161 ad42 (by decide) ft12_1 (((jw_ne e44161 (Or.inr (by decide))).trans ((jw_ne e44159 (Or.inr (by decide))).trans ((kk44157.v (by decide)).trans ew0)))) ?_
    refine ev_icmpge f256_55 (fun c44162 => absurd c44162 (by omega)) (fun c44162 => ?_)
    refine ev_aload_n rfl ?_
    refine ev_dup (by decide) ?_
    refine g_getv (r := 42) (v := 1) g44161 ad42 (by decide) ft12_5 ((jw_eq e44161)) ?_
    refine ev_aload_n rfl ?_
    refine g_getp (r := 42) (c := 43) g44161 ad42 (by decide) (by decide) rf42_2 ft12_2 ?_
    refine ev_iload_n rfl ?_
    refine g_iald g44161 ad43 rt43 (by omega) (by omega) (fun v44163 ev44163 lv44163 uv44163 => ?_)
    have xv44163 := (g44161.ex.2.1 (0 : Int).toNat (by rw [(((jw_ne e44161 (Or.inr (by decide))).trans ((jw_ne e44159 (Or.inr (by decide))).trans ((kk44157.v (by decide)).trans ew0))))]; omega))
    rw [ev44163] at xv44163
    refine ev_imul (r := v44163) (by unfold w32; omega) ?_
    refine g_putf (r := 42) g44161 ad42 (by decide) ft12_5 (by decide) (fun e => absurd e nz12_5) rf42_5 (by decide) (by omega) (by omega) (fun h44164 e44164 g44164 => ?_)
    have k44164 := k44161.wr e44164 rfl
    refine ev_iinc (w := 1) (L' := [(2, 42), (0, 1), (9, 0), (9, 0)]) rfl (by decide) rfl ?_
    refine ev_goto f256_26 ?_
    refine ev_iload_n rfl ?_
    refine ev_aload_n rfl ?_
    refine g_getv (r := 42) (v := 4) g44164 ad42 (by decide) ft12_1 (((jw_ne e44164 (Or.inr (by decide))).trans ((jw_ne e44161 (Or.inr (by decide))).trans ((jw_ne e44159 (Or.inr (by decide))).trans ((kk44157.v (by decide)).trans ew0))))) ?_
    refine ev_icmpge f256_55 (fun c44165 => absurd c44165 (by omega)) (fun c44165 => ?_)
    refine ev_aload_n rfl ?_
    refine ev_dup (by decide) ?_
    refine g_getv (r := 42) (v := v44163) g44164 ad42 (by decide) ft12_5 ((jw_eq e44164)) ?_
    refine ev_aload_n rfl ?_
    refine g_getp (r := 42) (c := 43) g44164 ad42 (by decide) (by decide) rf42_2 ft12_2 ?_
    refine ev_iload_n rfl ?_
    refine g_iald g44164 ad43 rt43 (by omega) (by omega) (fun v44166 ev44166 lv44166 uv44166 => ?_)
    have xv44166 := (g44164.ex.2.1 (1 : Int).toNat (by rw [(((jw_ne e44164 (Or.inr (by decide))).trans ((jw_ne e44161 (Or.inr (by decide))).trans ((jw_ne e44159 (Or.inr (by decide))).trans ((kk44157.v (by decide)).trans ew0)))))]; omega))
    rw [ev44166] at xv44166
    refine g_imulB (a := 3) (b := 3) (a' := 2) (b' := 2) (by omega) (by omega) (by omega) (by omega) (by decide) (lo := 4) (hi := 9) (by decide) (by decide) (fun v44167 ev44167 lv44167 uv44167 => ?_)
    refine g_putf (r := 42) g44164 ad42 (by decide) ft12_5 (by decide) (fun e => absurd e nz12_5) rf42_5 (by decide) (by omega) (by omega) (fun h44168 e44168 g44168 => ?_)
    have k44168 := k44164.wr e44168 rfl
    refine ev_iinc (w := 2) (L' := [(2, 42), (0, 2), (9, 0), (9, 0)]) rfl (by decide) rfl ?_
    refine ev_goto f256_26 ?_
    refine ev_iload_n rfl ?_
    refine ev_aload_n rfl ?_
    refine g_getv (r := 42) (v := 4) g44168 ad42 (by decide) ft12_1 (((jw_ne e44168 (Or.inr (by decide))).trans ((jw_ne e44164 (Or.inr (by decide))).trans ((jw_ne e44161 (Or.inr (by decide))).trans ((jw_ne e44159 (Or.inr (by decide))).trans ((kk44157.v (by decide)).trans ew0)))))) ?_
    refine ev_icmpge f256_55 (fun c44169 => absurd c44169 (by omega)) (fun c44169 => ?_)
    refine ev_aload_n rfl ?_
    refine ev_dup (by decide) ?_
    refine g_getv (r := 42) (v := v44167) g44168 ad42 (by decide) ft12_5 ((jw_eq e44168)) ?_
    refine ev_aload_n rfl ?_
    refine g_getp (r := 42) (c := 43) g44168 ad42 (by decide) (by decide) rf42_2 ft12_2 ?_
    refine ev_iload_n rfl ?_
    refine g_iald g44168 ad43 rt43 (by omega) (by omega) (fun v44170 ev44170 lv44170 uv44170 => ?_)
    have xv44170 := (g44168.ex.2.1 (2 : Int).toNat (by rw [(((jw_ne e44168 (Or.inr (by decide))).trans ((jw_ne e44164 (Or.inr (by decide))).trans ((jw_ne e44161 (Or.inr (by decide))).trans ((jw_ne e44159 (Or.inr (by decide))).trans ((kk44157.v (by decide)).trans ew0))))))]; omega))
    rw [ev44170] at xv44170
    refine g_imulB (a := 9) (b := 3) (a' := 4) (b' := 2) (by omega) (by omega) (by omega) (by omega) (by decide) (lo := 8) (hi := 27) (by decide) (by decide) (fun v44171 ev44171 lv44171 uv44171 => ?_)
    refine g_putf (r := 42) g44168 ad42 (by decide) ft12_5 (by decide) (fun e => absurd e nz12_5) rf42_5 (by decide) (by omega) (by omega) (fun h44172 e44172 g44172 => ?_)
    have k44172 := k44168.wr e44172 rfl
    refine ev_iinc (w := 3) (L' := [(2, 42), (0, 3), (9, 0), (9, 0)]) rfl (by decide) rfl ?_
    refine ev_goto f256_26 ?_
    refine ev_iload_n rfl ?_
    refine ev_aload_n rfl ?_
    refine g_getv (r := 42) (v := 4) g44172 ad42 (by decide) ft12_1 (((jw_ne e44172 (Or.inr (by decide))).trans ((jw_ne e44168 (Or.inr (by decide))).trans ((jw_ne e44164 (Or.inr (by decide))).trans ((jw_ne e44161 (Or.inr (by decide))).trans ((jw_ne e44159 (Or.inr (by decide))).trans ((kk44157.v (by decide)).trans ew0))))))) ?_
    refine ev_icmpge f256_55 (fun c44173 => absurd c44173 (by omega)) (fun c44173 => ?_)
    refine ev_aload_n rfl ?_
    refine ev_dup (by decide) ?_
    refine g_getv (r := 42) (v := v44171) g44172 ad42 (by decide) ft12_5 ((jw_eq e44172)) ?_
    refine ev_aload_n rfl ?_
    refine g_getp (r := 42) (c := 43) g44172 ad42 (by decide) (by decide) rf42_2 ft12_2 ?_
    refine ev_iload_n rfl ?_
    refine g_iald g44172 ad43 rt43 (by omega) (by omega) (fun v44174 ev44174 lv44174 uv44174 => ?_)
    have xv44174 := (g44172.ex.2.1 (3 : Int).toNat (by rw [(((jw_ne e44172 (Or.inr (by decide))).trans ((jw_ne e44168 (Or.inr (by decide))).trans ((jw_ne e44164 (Or.inr (by decide))).trans ((jw_ne e44161 (Or.inr (by decide))).trans ((jw_ne e44159 (Or.inr (by decide))).trans ((kk44157.v (by decide)).trans ew0)))))))]; omega))
    rw [ev44174] at xv44174
    refine g_imulB (a := 27) (b := 3) (a' := 8) (b' := 2) (by omega) (by omega) (by omega) (by omega) (by decide) (lo := 16) (hi := 81) (by decide) (by decide) (fun v44175 ev44175 lv44175 uv44175 => ?_)
    refine g_putf (r := 42) g44172 ad42 (by decide) ft12_5 (by decide) (fun e => absurd e nz12_5) rf42_5 (by decide) (by omega) (by omega) (fun h44176 e44176 g44176 => ?_)
    have k44176 := k44172.wr e44176 rfl
    refine ev_iinc (w := 4) (L' := [(2, 42), (0, 4), (9, 0), (9, 0)]) rfl (by decide) rfl ?_
    refine ev_goto f256_26 ?_
    refine ev_iload_n rfl ?_
    refine ev_aload_n rfl ?_
    refine g_getv (r := 42) (v := 4) g44176 ad42 (by decide) ft12_1 (((jw_ne e44176 (Or.inr (by decide))).trans ((jw_ne e44172 (Or.inr (by decide))).trans ((jw_ne e44168 (Or.inr (by decide))).trans ((jw_ne e44164 (Or.inr (by decide))).trans ((jw_ne e44161 (Or.inr (by decide))).trans ((jw_ne e44159 (Or.inr (by decide))).trans ((kk44157.v (by decide)).trans ew0)))))))) ?_
    refine ev_icmpge f256_55 (fun c44177 => ?_) (fun c44177 => absurd c44177 (by omega))
    refine ev_iconst ?_
    refine ev_istore_n (L' := [(2, 42), (0, 0), (9, 0), (9, 0)]) (Nat.le_of_ble_eq_true rfl) rfl ?_
    exact (s256_4_l ew0 164) _ _ _ _ _ _ g44176 k44176 (by omega) (by omega) (((jw_ne e44176 (Or.inr (by decide))).trans ((jw_ne e44172 (Or.inr (by decide))).trans ((jw_ne e44168 (Or.inr (by decide))).trans ((jw_ne e44164 (Or.inr (by decide))).trans ((jw_ne e44161 (Or.inr (by decide))).trans ((jw_ne e44159 (Or.inr (by decide))).trans ((kk44157.v (by decide)).trans ew0)))))))) (by omega) (by omega) ((jw_eq e44176)) (by omega) (by omega) (by omega)
  · have c44160b := jcmpL_geN c44160
    refine ev_iconst ?_
    exact ev_ret rfl (by decide) (by decide) ⟨_, rfl, by omega, by omega, g44159, k44159⟩
/-! s256  -/
theorem s256 {G : GH} {h : JH} (g : Gd G h) : jOk 4 0 0 256 [(2, 42)] h (PI G [(46, 0), (47, 0), (42, 6), (42, 9)] h 0 0 1) := by
  obtain ⟨w, e, l, u⟩ := g.rd ad42 (show 1 < 66 by decide) rf42_1
  rcases (show w = 0 ∨ w = 1 ∨ w = 2 ∨ w = 3 ∨ w = 4 by omega) with f | f | f | f | f <;> subst f
  · exact jOk_le (by decide) (s256_0 g e)
  · exact jOk_le (by decide) (s256_1 g e)
  · exact jOk_le (by decide) (s256_2 g e)
  · exact jOk_le (by decide) (s256_3 g e)
  · exact jOk_le (by decide) (s256_4 g e)
/-! s257_0  -/
set_option maxHeartbeats 4000000 in
theorem s257_0 {G : GH} {h : JH} (g : Gd G h) {a1 : Int} (la1 : (-2147483648) ≤ a1) (ua1 : a1 ≤ 2147483647) (ew0 : h.2.2 42 1 = 0) : jOk 5 0 0 257 [(2, 42), (0, a1)] h (PI G [(46, 0), (47, 0), (42, 6), (42, 9)] h 1 (-9223372036854775808) 9223372036854775807) := by
  refine ⟨by decide, by rw [ml257]; exact Nat.le_of_ble_eq_true rfl, ?_⟩
  rw [ml257, pp257]
  show jEv _ none _ c257_0 0 0 _ (c257_0, [(2, 42), (0, a1), (9, 0), (9, 0), (9, 0), (9, 0)], [], h, 0, 0)
  have k0 := Kp.rf [(46, 0), (47, 0), (42, 6), (42, 9)] h
  refine ev_iload_n rfl ?_
  refine ev_iflt f257_15 (fun c44192 => ?_) (fun c44192 => ?_)
  · refine ev_ldc2_w ?_
    exact ev_ret rfl (by decide) (by decide) ⟨_, rfl, by omega, by omega, g, k0⟩
  · refine ev_iload_n rfl ?_
    refine ev_iconst ?_
    refine ev_aload_n rfl ?_
    refine g_getv (r := 42) (v := 0) g ad42 (by decide) ft12_1 (ew0) ?_
    refine ev_imul (r := 0) (by decide) ?_
    refine ev_ishr (r := a1) (jshr_0 (by omega) (by omega)) ?_
    refine ev_ifeq f257_19 (fun c44193 => ?_) (fun c44193 => ?_)
    · refine ev_iconst ?_
      refine ev_istore_n (L' := [(2, 42), (0, a1), (0, 0), (9, 0), (9, 0), (9, 0)]) (Nat.le_of_ble_eq_true rfl) rfl ?_
      refine ev_iconst ?_
      refine ev_istore_n (L' := [(2, 42), (0, a1), (0, 0), (0, 1), (9, 0), (9, 0)]) (Nat.le_of_ble_eq_true rfl) rfl ?_
      refine ev_iconst ?_
      refine ev_istore (L' := [(2, 42), (0, a1), (0, 0), (0, 1), (0, 0), (9, 0)]) (Nat.le_of_ble_eq_true rfl) rfl ?_
      refine ev_iload rfl ?_
      refine ev_aload_n rfl ?_
      refine g_getv (r := 42) (v := 0) g ad42 (by decide) ft12_1 (ew0) ?_
      refine ev_icmpge f257_84 (fun c44194 => ?_) (fun c44194 => absurd c44194 (by omega))
      refine ev_aload_n rfl ?_
      refine ev_call (jcall_v (A := []) (S' := []) (r := 42) rfl (g.lt ad42) (g.tg ad42) (Nat.le_of_ble_eq_true rfl)) (jOk_le (by decide) (s256 g )) (by decide) (by decide) (fun w44195 h44195 q44195 => ?_)
      obtain ⟨v44196, rfl, lv44196, uv44196, g44195, kk44195⟩ := q44195
      have k44195 := k0.tr kk44195 (by decide)
      show jEv _ _ _ _ _ _ _ (_, [(2, 42), (0, a1), (0, 0), (0, 1), (0, 0), (9, 0)], [(0, v44196)], _, _, _)
      refine ev_ifeq f257_100 (fun c44197 => ?_) (fun c44197 => ?_)
      · refine ev_ldc2_w ?_
        exact ev_ret rfl (by decide) (by decide) ⟨_, rfl, by omega, by omega, g44195, k44195⟩
      · refine ev_aload_n rfl ?_
        refine g_getp (r := 42) (c := 47) g44195 ad42 (by decide) (by decide) rf42_7 ft12_7 ?_
        refine ev_iload_n rfl ?_
        refine g_lald g44195 ad47 rt47 (by omega) (by omega) (fun v44198 ev44198 lv44198 uv44198 => ?_)
        refine ev_goto f257_103 ?_
        exact ev_ret rfl (by decide) (by decide) ⟨_, rfl, by omega, by omega, g44195, k44195⟩
    · refine ev_ldc2_w ?_
      exact ev_ret rfl (by decide) (by decide) ⟨_, rfl, by omega, by omega, g, k0⟩
/-! s257_1  -/
set_option maxHeartbeats 4000000 in
theorem s257_1 {G : GH} {h : JH} (g : Gd G h) {a1 : Int} (la1 : (-2147483648) ≤ a1) (ua1 : a1 ≤ 2147483647) (ew0 : h.2.2 42 1 = 1) : jOk 5 0 0 257 [(2, 42), (0, a1)] h (PI G [(46, 0), (47, 0), (42, 6), (42, 9)] h 1 (-9223372036854775808) 9223372036854775807) := by
  refine ⟨by decide, by rw [ml257]; exact Nat.le_of_ble_eq_true rfl, ?_⟩
  rw [ml257, pp257]
  show jEv _ none _ c257_0 0 0 _ (c257_0, [(2, 42), (0, a1), (9, 0), (9, 0), (9, 0), (9, 0)], [], h, 0, 0)
  have k0 := Kp.rf [(46, 0), (47, 0), (42, 6), (42, 9)] h
  refine ev_iload_n rfl ?_
  refine ev_iflt f257_15 (fun c44223 => ?_) (fun c44223 => ?_)
  · refine ev_ldc2_w ?_
    exact ev_ret rfl (by decide) (by decide) ⟨_, rfl, by omega, by omega, g, k0⟩
  · refine ev_iload_n rfl ?_
    refine ev_iconst ?_
    refine ev_aload_n rfl ?_
    refine g_getv (r := 42) (v := 1) g ad42 (by decide) ft12_1 (ew0) ?_
    refine ev_imul (r := 2) (by decide) ?_
    refine g_ishrB (a := 2147483647) (by omega) (by omega) (by decide) (fun v44224 ev44224 lv44224 uv44224 => ?_)
    refine ev_ifeq f257_19 (fun c44225 => ?_) (fun c44225 => ?_)
    · refine ev_iconst ?_
      refine ev_istore_n (L' := [(2, 42), (0, a1), (0, 0), (9, 0), (9, 0), (9, 0)]) (Nat.le_of_ble_eq_true rfl) rfl ?_
      refine ev_iconst ?_
      refine ev_istore_n (L' := [(2, 42), (0, a1), (0, 0), (0, 1), (9, 0), (9, 0)]) (Nat.le_of_ble_eq_true rfl) rfl ?_
      refine ev_iconst ?_
      refine ev_istore (L' := [(2, 42), (0, a1), (0, 0), (0, 1), (0, 0), (9, 0)]) (Nat.le_of_ble_eq_true rfl) rfl ?_
      refine ev_iload rfl ?_
      refine ev_aload_n rfl ?_
      refine g_getv (r := 42) (v := 1) g ad42 (by decide) ft12_1 (ew0) ?_
      refine ev_icmpge f257_84 (fun c44226 => absurd c44226 (by omega)) (fun c44226 => ?_)
      refine ev_iload_n rfl ?_
      refine ev_iconst ?_
      refine ev_iload rfl ?_
      refine ev_imul (r := 0) (by decide) ?_
      refine ev_ishr (r := a1) (jshr_0 (by omega) (by omega)) ?_
      refine ev_iconst ?_
      refine g_iandB (b := 3) (by omega) (by omega) (by decide) (fun v44227 ev44227 lv44227 uv44227 => ?_)
      refine ev_istore (L' := [(2, 42), (0, a1), (0, 0), (0, 1), (0, 0), (0, v44227)]) (Nat.le_of_ble_eq_true rfl) rfl ?_
      refine ev_iload rfl ?_
      refine ev_aload_n rfl ?_
      refine g_getp (r := 42) (c := 43) g ad42 (by decide) (by decide) rf42_2 ft12_2 ?_
      refine ev_iload rfl ?_
      refine g_iald g ad43 rt43 (by omega) (by omega) (fun v44228 ev44228 lv44228 uv44228 => ?_)
      have xv44228 := (g.ex.2.1 (0 : Int).toNat (by rw [(ew0)]; omega))
      rw [ev44228] at xv44228
      refine ev_icmplt f257_61 (fun c44229 => ?_) (fun c44229 => ?_)
      · refine ev_iload_n rfl ?_
        refine ev_iload_n rfl ?_
        refine ev_iload rfl ?_
        refine ev_imul (r := v44227) (by unfold w32; omega) ?_
        refine ev_iadd (r := v44227) (by unfold w32; omega) ?_
        refine ev_istore_n (L' := [(2, 42), (0, a1), (0, v44227), (0, 1), (0, 0), (0, v44227)]) (Nat.le_of_ble_eq_true rfl) rfl ?_
        refine ev_iload_n rfl ?_
        refine ev_aload_n rfl ?_
        refine g_getp (r := 42) (c := 43) g ad42 (by decide) (by decide) rf42_2 ft12_2 ?_
        refine ev_iload rfl ?_
        refine g_ialdv (v := v44228) g ad43 (by omega) (by omega) (ev44228) ?_
        refine ev_imul (r := v44228) (by unfold w32; omega) ?_
        refine ev_istore_n (L' := [(2, 42), (0, a1), (0, v44227), (0, v44228), (0, 0), (0, v44227)]) (Nat.le_of_ble_eq_true rfl) rfl ?_
        refine ev_iinc (w := 1) (L' := [(2, 42), (0, a1), (0, v44227), (0, v44228), (0, 1), (0, v44227)]) rfl (by decide) rfl ?_
        refine ev_goto f257_26 ?_
        refine ev_iload rfl ?_
        refine ev_aload_n rfl ?_
        refine g_getv (r := 42) (v := 1) g ad42 (by decide) ft12_1 (ew0) ?_
        refine ev_icmpge f257_84 (fun c44230 => ?_) (fun c44230 => absurd c44230 (by omega))
        refine ev_aload_n rfl ?_
        refine ev_call (jcall_v (A := []) (S' := []) (r := 42) rfl (g.lt ad42) (g.tg ad42) (Nat.le_of_ble_eq_true rfl)) (jOk_le (by decide) (s256 g )) (by decide) (by decide) (fun w44231 h44231 q44231 => ?_)
        obtain ⟨v44232, rfl, lv44232, uv44232, g44231, kk44231⟩ := q44231
        have k44231 := k0.tr kk44231 (by decide)
        show jEv _ _ _ _ _ _ _ (_, [(2, 42), (0, a1), (0, v44227), (0, v44228), (0, 1), (0, v44227)], [(0, v44232)], _, _, _)
        refine ev_ifeq f257_100 (fun c44233 => ?_) (fun c44233 => ?_)
        · refine ev_ldc2_w ?_
          exact ev_ret rfl (by decide) (by decide) ⟨_, rfl, by omega, by omega, g44231, k44231⟩
        · refine ev_aload_n rfl ?_
          refine g_getp (r := 42) (c := 47) g44231 ad42 (by decide) (by decide) rf42_7 ft12_7 ?_
          refine ev_iload_n rfl ?_
          refine g_lald g44231 ad47 rt47 (by omega) (by omega) (fun v44234 ev44234 lv44234 uv44234 => ?_)
          refine ev_goto f257_103 ?_
          exact ev_ret rfl (by decide) (by decide) ⟨_, rfl, by omega, by omega, g44231, k44231⟩
      · refine ev_ldc2_w ?_
        exact ev_ret rfl (by decide) (by decide) ⟨_, rfl, by omega, by omega, g, k0⟩
    · refine ev_ldc2_w ?_
      exact ev_ret rfl (by decide) (by decide) ⟨_, rfl, by omega, by omega, g, k0⟩
/-! s257_2  -/
set_option maxHeartbeats 4000000 in
theorem s257_2 {G : GH} {h : JH} (g : Gd G h) {a1 : Int} (la1 : (-2147483648) ≤ a1) (ua1 : a1 ≤ 2147483647) (ew0 : h.2.2 42 1 = 2) : jOk 5 0 0 257 [(2, 42), (0, a1)] h (PI G [(46, 0), (47, 0), (42, 6), (42, 9)] h 1 (-9223372036854775808) 9223372036854775807) := by
  refine ⟨by decide, by rw [ml257]; exact Nat.le_of_ble_eq_true rfl, ?_⟩
  rw [ml257, pp257]
  show jEv _ none _ c257_0 0 0 _ (c257_0, [(2, 42), (0, a1), (9, 0), (9, 0), (9, 0), (9, 0)], [], h, 0, 0)
  have k0 := Kp.rf [(46, 0), (47, 0), (42, 6), (42, 9)] h
  refine ev_iload_n rfl ?_
  refine ev_iflt f257_15 (fun c44273 => ?_) (fun c44273 => ?_)
  · refine ev_ldc2_w ?_
    exact ev_ret rfl (by decide) (by decide) ⟨_, rfl, by omega, by omega, g, k0⟩
  · refine ev_iload_n rfl ?_
    refine ev_iconst ?_
    refine ev_aload_n rfl ?_
    refine g_getv (r := 42) (v := 2) g ad42 (by decide) ft12_1 (ew0) ?_
    refine ev_imul (r := 4) (by decide) ?_
    refine g_ishrB (a := 2147483647) (by omega) (by omega) (by decide) (fun v44274 ev44274 lv44274 uv44274 => ?_)
    refine ev_ifeq f257_19 (fun c44275 => ?_) (fun c44275 => ?_)
    · refine ev_iconst ?_
      refine ev_istore_n (L' := [(2, 42), (0, a1), (0, 0), (9, 0), (9, 0), (9, 0)]) (Nat.le_of_ble_eq_true rfl) rfl ?_
      refine ev_iconst ?_
      refine ev_istore_n (L' := [(2, 42), (0, a1), (0, 0), (0, 1), (9, 0), (9, 0)]) (Nat.le_of_ble_eq_true rfl) rfl ?_
      refine ev_iconst ?_
      refine ev_istore (L' := [(2, 42), (0, a1), (0, 0), (0, 1), (0, 0), (9, 0)]) (Nat.le_of_ble_eq_true rfl) rfl ?_
      refine ev_iload rfl ?_
      refine ev_aload_n rfl ?_
      refine g_getv (r := 42) (v := 2) g ad42 (by decide) ft12_1 (ew0) ?_
      refine ev_icmpge f257_84 (fun c44276 => absurd c44276 (by omega)) (fun c44276 => ?_)
      refine ev_iload_n rfl ?_
      refine ev_iconst ?_
      refine ev_iload rfl ?_
      refine ev_imul (r := 0) (by decide) ?_
      refine ev_ishr (r := a1) (jshr_0 (by omega) (by omega)) ?_
      refine ev_iconst ?_
      refine g_iandB (b := 3) (by omega) (by omega) (by decide) (fun v44277 ev44277 lv44277 uv44277 => ?_)
      refine ev_istore (L' := [(2, 42), (0, a1), (0, 0), (0, 1), (0, 0), (0, v44277)]) (Nat.le_of_ble_eq_true rfl) rfl ?_
      refine ev_iload rfl ?_
      refine ev_aload_n rfl ?_
      refine g_getp (r := 42) (c := 43) g ad42 (by decide) (by decide) rf42_2 ft12_2 ?_
      refine ev_iload rfl ?_
      refine g_iald g ad43 rt43 (by omega) (by omega) (fun v44278 ev44278 lv44278 uv44278 => ?_)
      have xv44278 := (g.ex.2.1 (0 : Int).toNat (by rw [(ew0)]; omega))
      rw [ev44278] at xv44278
      refine ev_icmplt f257_61 (fun c44279 => ?_) (fun c44279 => ?_)
      · refine ev_iload_n rfl ?_
        refine ev_iload_n rfl ?_
        refine ev_iload rfl ?_
        refine ev_imul (r := v44277) (by unfold w32; omega) ?_
        refine ev_iadd (r := v44277) (by unfold w32; omega) ?_
        refine ev_istore_n (L' := [(2, 42), (0, a1), (0, v44277), (0, 1), (0, 0), (0, v44277)]) (Nat.le_of_ble_eq_true rfl) rfl ?_
        refine ev_iload_n rfl ?_
        refine ev_aload_n rfl ?_
        refine g_getp (r := 42) (c := 43) g ad42 (by decide) (by decide) rf42_2 ft12_2 ?_
        refine ev_iload rfl ?_
        refine g_ialdv (v := v44278) g ad43 (by omega) (by omega) (ev44278) ?_
        refine ev_imul (r := v44278) (by unfold w32; omega) ?_
        refine ev_istore_n (L' := [(2, 42), (0, a1), (0, v44277), (0, v44278), (0, 0), (0, v44277)]) (Nat.le_of_ble_eq_true rfl) rfl ?_
        refine ev_iinc (w := 1) (L' := [(2, 42), (0, a1), (0, v44277), (0, v44278), (0, 1), (0, v44277)]) rfl (by decide) rfl ?_
        refine ev_goto f257_26 ?_
        refine ev_iload rfl ?_
        refine ev_aload_n rfl ?_
        refine g_getv (r := 42) (v := 2) g ad42 (by decide) ft12_1 (ew0) ?_
        refine ev_icmpge f257_84 (fun c44280 => absurd c44280 (by omega)) (fun c44280 => ?_)
        refine ev_iload_n rfl ?_
        refine ev_iconst ?_
        refine ev_iload rfl ?_
        refine ev_imul (r := 2) (by decide) ?_
        refine g_ishrB (a := 2147483647) (by omega) (by omega) (by decide) (fun v44281 ev44281 lv44281 uv44281 => ?_)
        refine ev_iconst ?_
        refine g_iandB (b := 3) (by omega) (by omega) (by decide) (fun v44282 ev44282 lv44282 uv44282 => ?_)
        refine ev_istore (L' := [(2, 42), (0, a1), (0, v44277), (0, v44278), (0, 1), (0, v44282)]) (Nat.le_of_ble_eq_true rfl) rfl ?_
        refine ev_iload rfl ?_
        refine ev_aload_n rfl ?_
        refine g_getp (r := 42) (c := 43) g ad42 (by decide) (by decide) rf42_2 ft12_2 ?_
        refine ev_iload rfl ?_
        refine g_iald g ad43 rt43 (by omega) (by omega) (fun v44283 ev44283 lv44283 uv44283 => ?_)
        have xv44283 := (g.ex.2.1 (1 : Int).toNat (by rw [(ew0)]; omega))
        rw [ev44283] at xv44283
        refine ev_icmplt f257_61 (fun c44284 => ?_) (fun c44284 => ?_)
        · refine ev_iload_n rfl ?_
          refine ev_iload_n rfl ?_
          refine ev_iload rfl ?_
          refine g_imulB (a := 3) (b := 2) (a' := 2) (b' := 0) (by omega) (by omega) (by omega) (by omega) (by decide) (lo := 0) (hi := 6) (by decide) (by decide) (fun v44285 ev44285 lv44285 uv44285 => ?_)
          refine ev_iadd (r := (v44277 + v44285)) (by unfold w32; omega) ?_
          refine ev_istore_n (L' := [(2, 42), (0, a1), (0, (v44277 + v44285)), (0, v44278), (0, 1), (0, v44282)]) (Nat.le_of_ble_eq_true rfl) rfl ?_
          refine ev_iload_n rfl ?_
          refine ev_aload_n rfl ?_
          refine g_getp (r := 42) (c := 43) g ad42 (by decide) (by decide) rf42_2 ft12_2 ?_
          refine ev_iload rfl ?_
          refine g_ialdv (v := v44283) g ad43 (by omega) (by omega) (ev44283) ?_
          refine g_imulB (a := 3) (b := 3) (a' := 2) (b' := 2) (by omega) (by omega) (by omega) (by omega) (by decide) (lo := 4) (hi := 9) (by decide) (by decide) (fun v44286 ev44286 lv44286 uv44286 => ?_)
          refine ev_istore_n (L' := [(2, 42), (0, a1), (0, (v44277 + v44285)), (0, v44286), (0, 1), (0, v44282)]) (Nat.le_of_ble_eq_true rfl) rfl ?_
          refine ev_iinc (w := 2) (L' := [(2, 42), (0, a1), (0, (v44277 + v44285)), (0, v44286), (0, 2), (0, v44282)]) rfl (by decide) rfl ?_
          refine ev_goto f257_26 ?_
          refine ev_iload rfl ?_
          refine ev_aload_n rfl ?_
          refine g_getv (r := 42) (v := 2) g ad42 (by decide) ft12_1 (ew0) ?_
          refine ev_icmpge f257_84 (fun c44287 => ?_) (fun c44287 => absurd c44287 (by omega))
          refine ev_aload_n rfl ?_
          refine ev_call (jcall_v (A := []) (S' := []) (r := 42) rfl (g.lt ad42) (g.tg ad42) (Nat.le_of_ble_eq_true rfl)) (jOk_le (by decide) (s256 g )) (by decide) (by decide) (fun w44288 h44288 q44288 => ?_)
          obtain ⟨v44289, rfl, lv44289, uv44289, g44288, kk44288⟩ := q44288
          have k44288 := k0.tr kk44288 (by decide)
          show jEv _ _ _ _ _ _ _ (_, [(2, 42), (0, a1), (0, (v44277 + v44285)), (0, v44286), (0, 2), (0, v44282)], [(0, v44289)], _, _, _)
          refine ev_ifeq f257_100 (fun c44290 => ?_) (fun c44290 => ?_)
          · refine ev_ldc2_w ?_
            exact ev_ret rfl (by decide) (by decide) ⟨_, rfl, by omega, by omega, g44288, k44288⟩
          · refine ev_aload_n rfl ?_
            refine g_getp (r := 42) (c := 47) g44288 ad42 (by decide) (by decide) rf42_7 ft12_7 ?_
            refine ev_iload_n rfl ?_
            refine g_lald g44288 ad47 rt47 (by omega) (by omega) (fun v44291 ev44291 lv44291 uv44291 => ?_)
            refine ev_goto f257_103 ?_
            exact ev_ret rfl (by decide) (by decide) ⟨_, rfl, by omega, by omega, g44288, k44288⟩
        · refine ev_ldc2_w ?_
          exact ev_ret rfl (by decide) (by decide) ⟨_, rfl, by omega, by omega, g, k0⟩
      · refine ev_ldc2_w ?_
        exact ev_ret rfl (by decide) (by decide) ⟨_, rfl, by omega, by omega, g, k0⟩
    · refine ev_ldc2_w ?_
      exact ev_ret rfl (by decide) (by decide) ⟨_, rfl, by omega, by omega, g, k0⟩
/-! s257_3  -/
set_option maxHeartbeats 4000000 in
theorem s257_3 {G : GH} {h : JH} (g : Gd G h) {a1 : Int} (la1 : (-2147483648) ≤ a1) (ua1 : a1 ≤ 2147483647) (ew0 : h.2.2 42 1 = 3) : jOk 5 0 0 257 [(2, 42), (0, a1)] h (PI G [(46, 0), (47, 0), (42, 6), (42, 9)] h 1 (-9223372036854775808) 9223372036854775807) := by
  refine ⟨by decide, by rw [ml257]; exact Nat.le_of_ble_eq_true rfl, ?_⟩
  rw [ml257, pp257]
  show jEv _ none _ c257_0 0 0 _ (c257_0, [(2, 42), (0, a1), (9, 0), (9, 0), (9, 0), (9, 0)], [], h, 0, 0)
  have k0 := Kp.rf [(46, 0), (47, 0), (42, 6), (42, 9)] h
  refine ev_iload_n rfl ?_
  refine ev_iflt f257_15 (fun c44344 => ?_) (fun c44344 => ?_)
  · refine ev_ldc2_w ?_
    exact ev_ret rfl (by decide) (by decide) ⟨_, rfl, by omega, by omega, g, k0⟩
  · refine ev_iload_n rfl ?_
    refine ev_iconst ?_
    refine ev_aload_n rfl ?_
    refine g_getv (r := 42) (v := 3) g ad42 (by decide) ft12_1 (ew0) ?_
    refine ev_imul (r := 6) (by decide) ?_
    refine g_ishrB (a := 2147483647) (by omega) (by omega) (by decide) (fun v44345 ev44345 lv44345 uv44345 => ?_)
    refine ev_ifeq f257_19 (fun c44346 => ?_) (fun c44346 => ?_)
    · refine ev_iconst ?_
      refine ev_istore_n (L' := [(2, 42), (0, a1), (0, 0), (9, 0), (9, 0), (9, 0)]) (Nat.le_of_ble_eq_true rfl) rfl ?_
      refine ev_iconst ?_
      refine ev_istore_n (L' := [(2, 42), (0, a1), (0, 0), (0, 1), (9, 0), (9, 0)]) (Nat.le_of_ble_eq_true rfl) rfl ?_
      refine ev_iconst ?_
      refine ev_istore (L' := [(2, 42), (0, a1), (0, 0), (0, 1), (0, 0), (9, 0)]) (Nat.le_of_ble_eq_true rfl) rfl ?_
      refine ev_iload rfl ?_
      refine ev_aload_n rfl ?_
      refine g_getv (r := 42) (v := 3) g ad42 (by decide) ft12_1 (ew0) ?_
      refine ev_icmpge f257_84 (fun c44347 => absurd c44347 (by omega)) (fun c44347 => ?_)
      refine ev_iload_n rfl ?_
      refine ev_iconst ?_
      refine ev_iload rfl ?_
      refine ev_imul (r := 0) (by decide) ?_
      refine ev_ishr (r := a1) (jshr_0 (by omega) (by omega)) ?_
      refine ev_iconst ?_
      refine g_iandB (b := 3) (by omega) (by omega) (by decide) (fun v44348 ev44348 lv44348 uv44348 => ?_)
      refine ev_istore (L' := [(2, 42), (0, a1), (0, 0), (0, 1), (0, 0), (0, v44348)]) (Nat.le_of_ble_eq_true rfl) rfl ?_
      refine ev_iload rfl ?_
      refine ev_aload_n rfl ?_
      refine g_getp (r := 42) (c := 43) g ad42 (by decide) (by decide) rf42_2 ft12_2 ?_
      refine ev_iload rfl ?_
      refine g_iald g ad43 rt43 (by omega) (by omega) (fun v44349 ev44349 lv44349 uv44349 => ?_)
      have xv44349 := (g.ex.2.1 (0 : Int).toNat (by rw [(ew0)]; omega))
      rw [ev44349] at xv44349
      refine ev_icmplt f257_61 (fun c44350 => ?_) (fun c44350 => ?_)
      · refine ev_iload_n rfl ?_
        refine ev_iload_n rfl ?_
        refine ev_iload rfl ?_
        refine ev_imul (r := v44348) (by unfold w32; omega) ?_
        refine ev_iadd (r := v44348) (by unfold w32; omega) ?_
        refine ev_istore_n (L' := [(2, 42), (0, a1), (0, v44348), (0, 1), (0, 0), (0, v44348)]) (Nat.le_of_ble_eq_true rfl) rfl ?_
        refine ev_iload_n rfl ?_
        refine ev_aload_n rfl ?_
        refine g_getp (r := 42) (c := 43) g ad42 (by decide) (by decide) rf42_2 ft12_2 ?_
        refine ev_iload rfl ?_
        refine g_ialdv (v := v44349) g ad43 (by omega) (by omega) (ev44349) ?_
        refine ev_imul (r := v44349) (by unfold w32; omega) ?_
        refine ev_istore_n (L' := [(2, 42), (0, a1), (0, v44348), (0, v44349), (0, 0), (0, v44348)]) (Nat.le_of_ble_eq_true rfl) rfl ?_
        refine ev_iinc (w := 1) (L' := [(2, 42), (0, a1), (0, v44348), (0, v44349), (0, 1), (0, v44348)]) rfl (by decide) rfl ?_
        refine ev_goto f257_26 ?_
        refine ev_iload rfl ?_
        refine ev_aload_n rfl ?_
        refine g_getv (r := 42) (v := 3) g ad42 (by decide) ft12_1 (ew0) ?_
        refine ev_icmpge f257_84 (fun c44351 => absurd c44351 (by omega)) (fun c44351 => ?_)
        refine ev_iload_n rfl ?_
        refine ev_iconst ?_
        refine ev_iload rfl ?_
        refine ev_imul (r := 2) (by decide) ?_
        refine g_ishrB (a := 2147483647) (by omega) (by omega) (by decide) (fun v44352 ev44352 lv44352 uv44352 => ?_)
        refine ev_iconst ?_
        refine g_iandB (b := 3) (by omega) (by omega) (by decide) (fun v44353 ev44353 lv44353 uv44353 => ?_)
        refine ev_istore (L' := [(2, 42), (0, a1), (0, v44348), (0, v44349), (0, 1), (0, v44353)]) (Nat.le_of_ble_eq_true rfl) rfl ?_
        refine ev_iload rfl ?_
        refine ev_aload_n rfl ?_
        refine g_getp (r := 42) (c := 43) g ad42 (by decide) (by decide) rf42_2 ft12_2 ?_
        refine ev_iload rfl ?_
        refine g_iald g ad43 rt43 (by omega) (by omega) (fun v44354 ev44354 lv44354 uv44354 => ?_)
        have xv44354 := (g.ex.2.1 (1 : Int).toNat (by rw [(ew0)]; omega))
        rw [ev44354] at xv44354
        refine ev_icmplt f257_61 (fun c44355 => ?_) (fun c44355 => ?_)
        · refine ev_iload_n rfl ?_
          refine ev_iload_n rfl ?_
          refine ev_iload rfl ?_
          refine g_imulB (a := 3) (b := 2) (a' := 2) (b' := 0) (by omega) (by omega) (by omega) (by omega) (by decide) (lo := 0) (hi := 6) (by decide) (by decide) (fun v44356 ev44356 lv44356 uv44356 => ?_)
          refine ev_iadd (r := (v44348 + v44356)) (by unfold w32; omega) ?_
          refine ev_istore_n (L' := [(2, 42), (0, a1), (0, (v44348 + v44356)), (0, v44349), (0, 1), (0, v44353)]) (Nat.le_of_ble_eq_true rfl) rfl ?_
          refine ev_iload_n rfl ?_
          refine ev_aload_n rfl ?_
          refine g_getp (r := 42) (c := 43) g ad42 (by decide) (by decide) rf42_2 ft12_2 ?_
          refine ev_iload rfl ?_
          refine g_ialdv (v := v44354) g ad43 (by omega) (by omega) (ev44354) ?_
          refine g_imulB (a := 3) (b := 3) (a' := 2) (b' := 2) (by omega) (by omega) (by omega) (by omega) (by decide) (lo := 4) (hi := 9) (by decide) (by decide) (fun v44357 ev44357 lv44357 uv44357 => ?_)
          refine ev_istore_n (L' := [(2, 42), (0, a1), (0, (v44348 + v44356)), (0, v44357), (0, 1), (0, v44353)]) (Nat.le_of_ble_eq_true rfl) rfl ?_
          refine ev_iinc (w := 2) (L' := [(2, 42), (0, a1), (0, (v44348 + v44356)), (0, v44357), (0, 2), (0, v44353)]) rfl (by decide) rfl ?_
          refine ev_goto f257_26 ?_
          refine ev_iload rfl ?_
          refine ev_aload_n rfl ?_
          refine g_getv (r := 42) (v := 3) g ad42 (by decide) ft12_1 (ew0) ?_
          refine ev_icmpge f257_84 (fun c44358 => absurd c44358 (by omega)) (fun c44358 => ?_)
          refine ev_iload_n rfl ?_
          refine ev_iconst ?_
          refine ev_iload rfl ?_
          refine ev_imul (r := 4) (by decide) ?_
          refine g_ishrB (a := 2147483647) (by omega) (by omega) (by decide) (fun v44359 ev44359 lv44359 uv44359 => ?_)
          refine ev_iconst ?_
          refine g_iandB (b := 3) (by omega) (by omega) (by decide) (fun v44360 ev44360 lv44360 uv44360 => ?_)
          refine ev_istore (L' := [(2, 42), (0, a1), (0, (v44348 + v44356)), (0, v44357), (0, 2), (0, v44360)]) (Nat.le_of_ble_eq_true rfl) rfl ?_
          refine ev_iload rfl ?_
          refine ev_aload_n rfl ?_
          refine g_getp (r := 42) (c := 43) g ad42 (by decide) (by decide) rf42_2 ft12_2 ?_
          refine ev_iload rfl ?_
          refine g_iald g ad43 rt43 (by omega) (by omega) (fun v44361 ev44361 lv44361 uv44361 => ?_)
          have xv44361 := (g.ex.2.1 (2 : Int).toNat (by rw [(ew0)]; omega))
          rw [ev44361] at xv44361
          refine ev_icmplt f257_61 (fun c44362 => ?_) (fun c44362 => ?_)
          · refine ev_iload_n rfl ?_
            refine ev_iload_n rfl ?_
            refine ev_iload rfl ?_
            refine g_imulB (a := 9) (b := 2) (a' := 4) (b' := 0) (by omega) (by omega) (by omega) (by omega) (by decide) (lo := 0) (hi := 18) (by decide) (by decide) (fun v44363 ev44363 lv44363 uv44363 => ?_)
            refine ev_iadd (r := (v44348 + v44356 + v44363)) (by unfold w32; omega) ?_
            refine ev_istore_n (L' := [(2, 42), (0, a1), (0, (v44348 + v44356 + v44363)), (0, v44357), (0, 2), (0, v44360)]) (Nat.le_of_ble_eq_true rfl) rfl ?_
            refine ev_iload_n rfl ?_
            refine ev_aload_n rfl ?_
            refine g_getp (r := 42) (c := 43) g ad42 (by decide) (by decide) rf42_2 ft12_2 ?_
            refine ev_iload rfl ?_
            refine g_ialdv (v := v44361) g ad43 (by omega) (by omega) (ev44361) ?_
            refine g_imulB (a := 9) (b := 3) (a' := 4) (b' := 2) (by omega) (by omega) (by omega) (by omega) (by decide) (lo := 8) (hi := 27) (by decide) (by decide) (fun v44364 ev44364 lv44364 uv44364 => ?_)
            refine ev_istore_n (L' := [(2, 42), (0, a1), (0, (v44348 + v44356 + v44363)), (0, v44364), (0, 2), (0, v44360)]) (Nat.le_of_ble_eq_true rfl) rfl ?_
            refine ev_iinc (w := 3) (L' := [(2, 42), (0, a1), (0, (v44348 + v44356 + v44363)), (0, v44364), (0, 3), (0, v44360)]) rfl (by decide) rfl ?_
            refine ev_goto f257_26 ?_
            refine ev_iload rfl ?_
            refine ev_aload_n rfl ?_
            refine g_getv (r := 42) (v := 3) g ad42 (by decide) ft12_1 (ew0) ?_
            refine ev_icmpge f257_84 (fun c44365 => ?_) (fun c44365 => absurd c44365 (by omega))
            refine ev_aload_n rfl ?_
            refine ev_call (jcall_v (A := []) (S' := []) (r := 42) rfl (g.lt ad42) (g.tg ad42) (Nat.le_of_ble_eq_true rfl)) (jOk_le (by decide) (s256 g )) (by decide) (by decide) (fun w44366 h44366 q44366 => ?_)
            obtain ⟨v44367, rfl, lv44367, uv44367, g44366, kk44366⟩ := q44366
            have k44366 := k0.tr kk44366 (by decide)
            show jEv _ _ _ _ _ _ _ (_, [(2, 42), (0, a1), (0, (v44348 + v44356 + v44363)), (0, v44364), (0, 3), (0, v44360)], [(0, v44367)], _, _, _)
            refine ev_ifeq f257_100 (fun c44368 => ?_) (fun c44368 => ?_)
            · refine ev_ldc2_w ?_
              exact ev_ret rfl (by decide) (by decide) ⟨_, rfl, by omega, by omega, g44366, k44366⟩
            · refine ev_aload_n rfl ?_
              refine g_getp (r := 42) (c := 47) g44366 ad42 (by decide) (by decide) rf42_7 ft12_7 ?_
              refine ev_iload_n rfl ?_
              refine g_lald g44366 ad47 rt47 (by omega) (by omega) (fun v44369 ev44369 lv44369 uv44369 => ?_)
              refine ev_goto f257_103 ?_
              exact ev_ret rfl (by decide) (by decide) ⟨_, rfl, by omega, by omega, g44366, k44366⟩
          · refine ev_ldc2_w ?_
            exact ev_ret rfl (by decide) (by decide) ⟨_, rfl, by omega, by omega, g, k0⟩
        · refine ev_ldc2_w ?_
          exact ev_ret rfl (by decide) (by decide) ⟨_, rfl, by omega, by omega, g, k0⟩
      · refine ev_ldc2_w ?_
        exact ev_ret rfl (by decide) (by decide) ⟨_, rfl, by omega, by omega, g, k0⟩
    · refine ev_ldc2_w ?_
      exact ev_ret rfl (by decide) (by decide) ⟨_, rfl, by omega, by omega, g, k0⟩
/-! s257_4  -/
set_option maxHeartbeats 4000000 in
theorem s257_4 {G : GH} {h : JH} (g : Gd G h) {a1 : Int} (la1 : (-2147483648) ≤ a1) (ua1 : a1 ≤ 2147483647) (ew0 : h.2.2 42 1 = 4) : jOk 5 0 0 257 [(2, 42), (0, a1)] h (PI G [(46, 0), (47, 0), (42, 6), (42, 9)] h 1 (-9223372036854775808) 9223372036854775807) := by
  refine ⟨by decide, by rw [ml257]; exact Nat.le_of_ble_eq_true rfl, ?_⟩
  rw [ml257, pp257]
  show jEv _ none _ c257_0 0 0 _ (c257_0, [(2, 42), (0, a1), (9, 0), (9, 0), (9, 0), (9, 0)], [], h, 0, 0)
  have k0 := Kp.rf [(46, 0), (47, 0), (42, 6), (42, 9)] h
  refine ev_iload_n rfl ?_
  refine ev_iflt f257_15 (fun c44436 => ?_) (fun c44436 => ?_)
  · refine ev_ldc2_w ?_
    exact ev_ret rfl (by decide) (by decide) ⟨_, rfl, by omega, by omega, g, k0⟩
  · refine ev_iload_n rfl ?_
    refine ev_iconst ?_
    refine ev_aload_n rfl ?_
    refine g_getv (r := 42) (v := 4) g ad42 (by decide) ft12_1 (ew0) ?_
    refine ev_imul (r := 8) (by decide) ?_
    refine g_ishrB (a := 2147483647) (by omega) (by omega) (by decide) (fun v44437 ev44437 lv44437 uv44437 => ?_)
    refine ev_ifeq f257_19 (fun c44438 => ?_) (fun c44438 => ?_)
    · refine ev_iconst ?_
      refine ev_istore_n (L' := [(2, 42), (0, a1), (0, 0), (9, 0), (9, 0), (9, 0)]) (Nat.le_of_ble_eq_true rfl) rfl ?_
      refine ev_iconst ?_
      refine ev_istore_n (L' := [(2, 42), (0, a1), (0, 0), (0, 1), (9, 0), (9, 0)]) (Nat.le_of_ble_eq_true rfl) rfl ?_
      refine ev_iconst ?_
      refine ev_istore (L' := [(2, 42), (0, a1), (0, 0), (0, 1), (0, 0), (9, 0)]) (Nat.le_of_ble_eq_true rfl) rfl ?_
      refine ev_iload rfl ?_
      refine ev_aload_n rfl ?_
      refine g_getv (r := 42) (v := 4) g ad42 (by decide) ft12_1 (ew0) ?_
      refine ev_icmpge f257_84 (fun c44439 => absurd c44439 (by omega)) (fun c44439 => ?_)
      refine ev_iload_n rfl ?_
      refine ev_iconst ?_
      refine ev_iload rfl ?_
      refine ev_imul (r := 0) (by decide) ?_
      refine ev_ishr (r := a1) (jshr_0 (by omega) (by omega)) ?_
      refine ev_iconst ?_
      refine g_iandB (b := 3) (by omega) (by omega) (by decide) (fun v44440 ev44440 lv44440 uv44440 => ?_)
      refine ev_istore (L' := [(2, 42), (0, a1), (0, 0), (0, 1), (0, 0), (0, v44440)]) (Nat.le_of_ble_eq_true rfl) rfl ?_
      refine ev_iload rfl ?_
      refine ev_aload_n rfl ?_
      refine g_getp (r := 42) (c := 43) g ad42 (by decide) (by decide) rf42_2 ft12_2 ?_
      refine ev_iload rfl ?_
      refine g_iald g ad43 rt43 (by omega) (by omega) (fun v44441 ev44441 lv44441 uv44441 => ?_)
      have xv44441 := (g.ex.2.1 (0 : Int).toNat (by rw [(ew0)]; omega))
      rw [ev44441] at xv44441
      refine ev_icmplt f257_61 (fun c44442 => ?_) (fun c44442 => ?_)
      · refine ev_iload_n rfl ?_
        refine ev_iload_n rfl ?_
        refine ev_iload rfl ?_
        refine ev_imul (r := v44440) (by unfold w32; omega) ?_
        refine ev_iadd (r := v44440) (by unfold w32; omega) ?_
        refine ev_istore_n (L' := [(2, 42), (0, a1), (0, v44440), (0, 1), (0, 0), (0, v44440)]) (Nat.le_of_ble_eq_true rfl) rfl ?_
        refine ev_iload_n rfl ?_
        refine ev_aload_n rfl ?_
        refine g_getp (r := 42) (c := 43) g ad42 (by decide) (by decide) rf42_2 ft12_2 ?_
        refine ev_iload rfl ?_
        refine g_ialdv (v := v44441) g ad43 (by omega) (by omega) (ev44441) ?_
        refine ev_imul (r := v44441) (by unfold w32; omega) ?_
        refine ev_istore_n (L' := [(2, 42), (0, a1), (0, v44440), (0, v44441), (0, 0), (0, v44440)]) (Nat.le_of_ble_eq_true rfl) rfl ?_
        refine ev_iinc (w := 1) (L' := [(2, 42), (0, a1), (0, v44440), (0, v44441), (0, 1), (0, v44440)]) rfl (by decide) rfl ?_
        refine ev_goto f257_26 ?_
        refine ev_iload rfl ?_
        refine ev_aload_n rfl ?_
        refine g_getv (r := 42) (v := 4) g ad42 (by decide) ft12_1 (ew0) ?_
        refine ev_icmpge f257_84 (fun c44443 => absurd c44443 (by omega)) (fun c44443 => ?_)
        refine ev_iload_n rfl ?_
        refine ev_iconst ?_
        refine ev_iload rfl ?_
        refine ev_imul (r := 2) (by decide) ?_
        refine g_ishrB (a := 2147483647) (by omega) (by omega) (by decide) (fun v44444 ev44444 lv44444 uv44444 => ?_)
        refine ev_iconst ?_
        refine g_iandB (b := 3) (by omega) (by omega) (by decide) (fun v44445 ev44445 lv44445 uv44445 => ?_)
        refine ev_istore (L' := [(2, 42), (0, a1), (0, v44440), (0, v44441), (0, 1), (0, v44445)]) (Nat.le_of_ble_eq_true rfl) rfl ?_
        refine ev_iload rfl ?_
        refine ev_aload_n rfl ?_
        refine g_getp (r := 42) (c := 43) g ad42 (by decide) (by decide) rf42_2 ft12_2 ?_
        refine ev_iload rfl ?_
        refine g_iald g ad43 rt43 (by omega) (by omega) (fun v44446 ev44446 lv44446 uv44446 => ?_)
        have xv44446 := (g.ex.2.1 (1 : Int).toNat (by rw [(ew0)]; omega))
        rw [ev44446] at xv44446
        refine ev_icmplt f257_61 (fun c44447 => ?_) (fun c44447 => ?_)
        · refine ev_iload_n rfl ?_
          refine ev_iload_n rfl ?_
          refine ev_iload rfl ?_
          refine g_imulB (a := 3) (b := 2) (a' := 2) (b' := 0) (by omega) (by omega) (by omega) (by omega) (by decide) (lo := 0) (hi := 6) (by decide) (by decide) (fun v44448 ev44448 lv44448 uv44448 => ?_)
          refine ev_iadd (r := (v44440 + v44448)) (by unfold w32; omega) ?_
          refine ev_istore_n (L' := [(2, 42), (0, a1), (0, (v44440 + v44448)), (0, v44441), (0, 1), (0, v44445)]) (Nat.le_of_ble_eq_true rfl) rfl ?_
          refine ev_iload_n rfl ?_
          refine ev_aload_n rfl ?_
          refine g_getp (r := 42) (c := 43) g ad42 (by decide) (by decide) rf42_2 ft12_2 ?_
          refine ev_iload rfl ?_
          refine g_ialdv (v := v44446) g ad43 (by omega) (by omega) (ev44446) ?_
          refine g_imulB (a := 3) (b := 3) (a' := 2) (b' := 2) (by omega) (by omega) (by omega) (by omega) (by decide) (lo := 4) (hi := 9) (by decide) (by decide) (fun v44449 ev44449 lv44449 uv44449 => ?_)
          refine ev_istore_n (L' := [(2, 42), (0, a1), (0, (v44440 + v44448)), (0, v44449), (0, 1), (0, v44445)]) (Nat.le_of_ble_eq_true rfl) rfl ?_
          refine ev_iinc (w := 2) (L' := [(2, 42), (0, a1), (0, (v44440 + v44448)), (0, v44449), (0, 2), (0, v44445)]) rfl (by decide) rfl ?_
          refine ev_goto f257_26 ?_
          refine ev_iload rfl ?_
          refine ev_aload_n rfl ?_
          refine g_getv (r := 42) (v := 4) g ad42 (by decide) ft12_1 (ew0) ?_
          refine ev_icmpge f257_84 (fun c44450 => absurd c44450 (by omega)) (fun c44450 => ?_)
          refine ev_iload_n rfl ?_
          refine ev_iconst ?_
          refine ev_iload rfl ?_
          refine ev_imul (r := 4) (by decide) ?_
          refine g_ishrB (a := 2147483647) (by omega) (by omega) (by decide) (fun v44451 ev44451 lv44451 uv44451 => ?_)
          refine ev_iconst ?_
          refine g_iandB (b := 3) (by omega) (by omega) (by decide) (fun v44452 ev44452 lv44452 uv44452 => ?_)
          refine ev_istore (L' := [(2, 42), (0, a1), (0, (v44440 + v44448)), (0, v44449), (0, 2), (0, v44452)]) (Nat.le_of_ble_eq_true rfl) rfl ?_
          refine ev_iload rfl ?_
          refine ev_aload_n rfl ?_
          refine g_getp (r := 42) (c := 43) g ad42 (by decide) (by decide) rf42_2 ft12_2 ?_
          refine ev_iload rfl ?_
          refine g_iald g ad43 rt43 (by omega) (by omega) (fun v44453 ev44453 lv44453 uv44453 => ?_)
          have xv44453 := (g.ex.2.1 (2 : Int).toNat (by rw [(ew0)]; omega))
          rw [ev44453] at xv44453
          refine ev_icmplt f257_61 (fun c44454 => ?_) (fun c44454 => ?_)
          · refine ev_iload_n rfl ?_
            refine ev_iload_n rfl ?_
            refine ev_iload rfl ?_
            refine g_imulB (a := 9) (b := 2) (a' := 4) (b' := 0) (by omega) (by omega) (by omega) (by omega) (by decide) (lo := 0) (hi := 18) (by decide) (by decide) (fun v44455 ev44455 lv44455 uv44455 => ?_)
            refine ev_iadd (r := (v44440 + v44448 + v44455)) (by unfold w32; omega) ?_
            refine ev_istore_n (L' := [(2, 42), (0, a1), (0, (v44440 + v44448 + v44455)), (0, v44449), (0, 2), (0, v44452)]) (Nat.le_of_ble_eq_true rfl) rfl ?_
            refine ev_iload_n rfl ?_
            refine ev_aload_n rfl ?_
            refine g_getp (r := 42) (c := 43) g ad42 (by decide) (by decide) rf42_2 ft12_2 ?_
            refine ev_iload rfl ?_
            refine g_ialdv (v := v44453) g ad43 (by omega) (by omega) (ev44453) ?_
            refine g_imulB (a := 9) (b := 3) (a' := 4) (b' := 2) (by omega) (by omega) (by omega) (by omega) (by decide) (lo := 8) (hi := 27) (by decide) (by decide) (fun v44456 ev44456 lv44456 uv44456 => ?_)
            refine ev_istore_n (L' := [(2, 42), (0, a1), (0, (v44440 + v44448 + v44455)), (0, v44456), (0, 2), (0, v44452)]) (Nat.le_of_ble_eq_true rfl) rfl ?_
            refine ev_iinc (w := 3) (L' := [(2, 42), (0, a1), (0, (v44440 + v44448 + v44455)), (0, v44456), (0, 3), (0, v44452)]) rfl (by decide) rfl ?_
            refine ev_goto f257_26 ?_
            refine ev_iload rfl ?_
            refine ev_aload_n rfl ?_
            refine g_getv (r := 42) (v := 4) g ad42 (by decide) ft12_1 (ew0) ?_
            refine ev_icmpge f257_84 (fun c44457 => absurd c44457 (by omega)) (fun c44457 => ?_)
            refine ev_iload_n rfl ?_
            refine ev_iconst ?_
            refine ev_iload rfl ?_
            refine ev_imul (r := 6) (by decide) ?_
            refine g_ishrB (a := 2147483647) (by omega) (by omega) (by decide) (fun v44458 ev44458 lv44458 uv44458 => ?_)
            refine ev_iconst ?_
            refine g_iandB (b := 3) (by omega) (by omega) (by decide) (fun v44459 ev44459 lv44459 uv44459 => ?_)
            refine ev_istore (L' := [(2, 42), (0, a1), (0, (v44440 + v44448 + v44455)), (0, v44456), (0, 3), (0, v44459)]) (Nat.le_of_ble_eq_true rfl) rfl ?_
            refine ev_iload rfl ?_
            refine ev_aload_n rfl ?_
            refine g_getp (r := 42) (c := 43) g ad42 (by decide) (by decide) rf42_2 ft12_2 ?_
            refine ev_iload rfl ?_
            refine g_iald g ad43 rt43 (by omega) (by omega) (fun v44460 ev44460 lv44460 uv44460 => ?_)
            have xv44460 := (g.ex.2.1 (3 : Int).toNat (by rw [(ew0)]; omega))
            rw [ev44460] at xv44460
            refine ev_icmplt f257_61 (fun c44461 => ?_) (fun c44461 => ?_)
            · refine ev_iload_n rfl ?_
              refine ev_iload_n rfl ?_
              refine ev_iload rfl ?_
              refine g_imulB (a := 27) (b := 2) (a' := 8) (b' := 0) (by omega) (by omega) (by omega) (by omega) (by decide) (lo := 0) (hi := 54) (by decide) (by decide) (fun v44462 ev44462 lv44462 uv44462 => ?_)
              refine ev_iadd (r := (v44440 + v44448 + v44455 + v44462)) (by unfold w32; omega) ?_
              refine ev_istore_n (L' := [(2, 42), (0, a1), (0, (v44440 + v44448 + v44455 + v44462)), (0, v44456), (0, 3), (0, v44459)]) (Nat.le_of_ble_eq_true rfl) rfl ?_
              refine ev_iload_n rfl ?_
              refine ev_aload_n rfl ?_
              refine g_getp (r := 42) (c := 43) g ad42 (by decide) (by decide) rf42_2 ft12_2 ?_
              refine ev_iload rfl ?_
              refine g_ialdv (v := v44460) g ad43 (by omega) (by omega) (ev44460) ?_
              refine g_imulB (a := 27) (b := 3) (a' := 8) (b' := 2) (by omega) (by omega) (by omega) (by omega) (by decide) (lo := 16) (hi := 81) (by decide) (by decide) (fun v44463 ev44463 lv44463 uv44463 => ?_)
              refine ev_istore_n (L' := [(2, 42), (0, a1), (0, (v44440 + v44448 + v44455 + v44462)), (0, v44463), (0, 3), (0, v44459)]) (Nat.le_of_ble_eq_true rfl) rfl ?_
              refine ev_iinc (w := 4) (L' := [(2, 42), (0, a1), (0, (v44440 + v44448 + v44455 + v44462)), (0, v44463), (0, 4), (0, v44459)]) rfl (by decide) rfl ?_
              refine ev_goto f257_26 ?_
              refine ev_iload rfl ?_
              refine ev_aload_n rfl ?_
              refine g_getv (r := 42) (v := 4) g ad42 (by decide) ft12_1 (ew0) ?_
              refine ev_icmpge f257_84 (fun c44464 => ?_) (fun c44464 => absurd c44464 (by omega))
              refine ev_aload_n rfl ?_
              refine ev_call (jcall_v (A := []) (S' := []) (r := 42) rfl (g.lt ad42) (g.tg ad42) (Nat.le_of_ble_eq_true rfl)) (jOk_le (by decide) (s256 g )) (by decide) (by decide) (fun w44465 h44465 q44465 => ?_)
              obtain ⟨v44466, rfl, lv44466, uv44466, g44465, kk44465⟩ := q44465
              have k44465 := k0.tr kk44465 (by decide)
              show jEv _ _ _ _ _ _ _ (_, [(2, 42), (0, a1), (0, (v44440 + v44448 + v44455 + v44462)), (0, v44463), (0, 4), (0, v44459)], [(0, v44466)], _, _, _)
              refine ev_ifeq f257_100 (fun c44467 => ?_) (fun c44467 => ?_)
              · refine ev_ldc2_w ?_
                exact ev_ret rfl (by decide) (by decide) ⟨_, rfl, by omega, by omega, g44465, k44465⟩
              · refine ev_aload_n rfl ?_
                refine g_getp (r := 42) (c := 47) g44465 ad42 (by decide) (by decide) rf42_7 ft12_7 ?_
                refine ev_iload_n rfl ?_
                refine g_lald g44465 ad47 rt47 (by omega) (by omega) (fun v44468 ev44468 lv44468 uv44468 => ?_)
                refine ev_goto f257_103 ?_
                exact ev_ret rfl (by decide) (by decide) ⟨_, rfl, by omega, by omega, g44465, k44465⟩
            · refine ev_ldc2_w ?_
              exact ev_ret rfl (by decide) (by decide) ⟨_, rfl, by omega, by omega, g, k0⟩
          · refine ev_ldc2_w ?_
            exact ev_ret rfl (by decide) (by decide) ⟨_, rfl, by omega, by omega, g, k0⟩
        · refine ev_ldc2_w ?_
          exact ev_ret rfl (by decide) (by decide) ⟨_, rfl, by omega, by omega, g, k0⟩
      · refine ev_ldc2_w ?_
        exact ev_ret rfl (by decide) (by decide) ⟨_, rfl, by omega, by omega, g, k0⟩
    · refine ev_ldc2_w ?_
      exact ev_ret rfl (by decide) (by decide) ⟨_, rfl, by omega, by omega, g, k0⟩
/-! 260 chance -/
set_option maxHeartbeats 4000000 in
theorem s260_l {G : GH} {h : JH} {a1 : Int} (la1 : (-2147483648) ≤ a1) (ua1 : a1 ≤ 2147483647) {a2 : Int} (la2 : (-2147483648) ≤ a2) (ua2 : a2 ≤ 2147483647) {a3 : Int} (la3 : (-2147483648) ≤ a3) (ua3 : a3 ≤ 2147483647) : ∀ N : Nat, (∀ (h1 : JH) (x4 x6 x8 : Int), Gd G h1 → Kp [(46, 0), (47, 0), (42, 6), (42, 9)] h h1 → (-2147483648) ≤ a1 → a1 ≤ 2147483647 → (-2147483648) ≤ a2 → a2 ≤ 2147483647 → 0 ≤ a3 → a3 ≤ 1 → (-9223372036854775808) ≤ x4 → x4 ≤ 9223372036854775807 → (-9223372036854775808) ≤ x6 → x6 ≤ 9223372036854775807 → 0 ≤ x8 → x8 ≤ 81 → ((-x8) + 81) < N → jEv (jOk 4) none (fun _ => 0) c260_0 0 0 (PI G [(46, 0), (47, 0), (42, 6), (42, 9)] h 1 (-9223372036854775808) 9223372036854775807) (c260_49, [(2, 42), (0, a1), (0, a2), (0, a3), (1, x4), (9, 0), (1, x6), (9, 0), (0, x8)], [], h1, 0, 0)) := by
  intro N
  induction N with
  | zero => exact fun h1 x4 x6 x8 g1 k1 b0 b1 b2 b3 b4 b5 b6 b7 b8 b9 b10 b11 hm => absurd hm (by omega)
  | succ N ih =>
    show _
    intro h1 x4 x6 x8 g1 k1 b0 b1 b2 b3 b4 b5 b6 b7 b8 b9 b10 b11 hm
    refine ev_iload rfl ?_
    refine ev_aload_n rfl ?_
    obtain ⟨v44937, ev44937, lv44937, uv44937⟩ := g1.rd ad42 (show 5 < 66 by decide) rf42_5
    refine g_getv (r := 42) (v := v44937) g1 ad42 (by decide) ft12_5 ev44937 ?_
    refine ev_icmpge f260_111 (fun c44938 => ?_) (fun c44938 => ?_)
    · refine ev_lload rfl ?_
      refine ev_lload rfl ?_
      refine ev_iload_n rfl ?_
      refine ev_call (jcall_s (A := [(0, a3), (1, x6), (1, x4)]) (S' := []) (by decide) rfl (Nat.le_of_ble_eq_true rfl)) (jOk_le (by decide) (s244 g1 (by omega) (by omega) (by omega) (by omega) (by omega) (by omega))) (by decide) (by decide) (fun w44939 h44939 q44939 => ?_)
      obtain ⟨v44940, rfl, lv44940, uv44940, g44939, kk44939⟩ := q44939
      have k44939 := k1.tr kk44939 (by decide)
      show jEv _ _ _ _ _ _ _ (_, [(2, 42), (0, a1), (0, a2), (0, a3), (1, x4), (9, 0), (1, x6), (9, 0), (0, x8)], [(1, v44940)], _, _, _)
      exact ev_ret rfl (by decide) (by decide) ⟨_, rfl, by omega, by omega, g44939, k44939⟩
    · refine ev_aload_n rfl ?_
      refine ev_iload rfl ?_
      refine ev_iload_n rfl ?_
      refine ev_call (jcall_v (A := [(0, a2), (0, x8)]) (S' := []) (r := 42) rfl (g1.lt ad42) (g1.tg ad42) (Nat.le_of_ble_eq_true rfl)) (jOk_le (by decide) (s259 g1 (by omega) (by omega) (by omega) (by omega))) (by decide) (by decide) (fun w44941 h44941 q44941 => ?_)
      obtain ⟨v44942, rfl, lv44942, uv44942, g44941, kk44941⟩ := q44941
      have k44941 := k1.tr kk44941 (by decide)
      show jEv _ _ _ _ _ _ _ (_, [(2, 42), (0, a1), (0, a2), (0, a3), (1, x4), (9, 0), (1, x6), (9, 0), (0, x8)], [(0, v44942)], _, _, _)
      refine ev_ifne f260_71 (fun c44943 => ?_) (fun c44943 => ?_)
      · refine ev_lload rfl ?_
        refine ev_aload_n rfl ?_
        refine g_getp (r := 42) (c := 47) g44941 ad42 (by decide) (by decide) rf42_7 ft12_7 ?_
        refine ev_iload rfl ?_
        refine g_lald g44941 ad47 rt47 (by omega) (by omega) (fun v44944 ev44944 lv44944 uv44944 => ?_)
        refine g_laddG (fun v44945 ev44945 lv44945 uv44945 => ?_)
        refine ev_lstore (L' := [(2, 42), (0, a1), (0, a2), (0, a3), (1, x4), (9, 0), (1, v44945), (9, 0), (0, x8)]) (Nat.le_of_ble_eq_true rfl) rfl ?_
        refine ev_aload_n rfl ?_
        refine ev_iload rfl ?_
        refine ev_iload_n rfl ?_
        refine ev_call (jcall_v (A := [(0, a1), (0, x8)]) (S' := []) (r := 42) rfl (g44941.lt ad42) (g44941.tg ad42) (Nat.le_of_ble_eq_true rfl)) (jOk_le (by decide) (s259 g44941 (by omega) (by omega) (by omega) (by omega))) (by decide) (by decide) (fun w44946 h44946 q44946 => ?_)
        obtain ⟨v44947, rfl, lv44947, uv44947, g44946, kk44946⟩ := q44946
        have k44946 := k44941.tr kk44946 (by decide)
        show jEv _ _ _ _ _ _ _ (_, [(2, 42), (0, a1), (0, a2), (0, a3), (1, x4), (9, 0), (1, v44945), (9, 0), (0, x8)], [(0, v44947)], _, _, _)
        refine ev_ifeq f260_105 (fun c44948 => ?_) (fun c44948 => ?_)
        · refine ev_iinc (w := (x8 + 1)) (L' := [(2, 42), (0, a1), (0, a2), (0, a3), (1, x4), (9, 0), (1, v44945), (9, 0), (0, (x8 + 1))]) rfl (by unfold w32; omega) rfl ?_
          refine ev_goto f260_49 ?_
          exact ih _ _ _ _ g44946 k44946 (by omega) (by omega) (by omega) (by omega) (by omega) (by omega) (by omega) (by omega) (by omega) (by omega) (by omega) (by omega) (by omega)
        · refine ev_lload rfl ?_
          refine ev_aload_n rfl ?_
          refine g_getp (r := 42) (c := 47) g44946 ad42 (by decide) (by decide) rf42_7 ft12_7 ?_
          refine ev_iload rfl ?_
          refine g_laldv (v := v44944) g44946 ad47 (by omega) (by omega) (((kk44946.v rfl).trans ev44944)) ?_
          refine g_laddG (fun v44949 ev44949 lv44949 uv44949 => ?_)
          refine ev_lstore (L' := [(2, 42), (0, a1), (0, a2), (0, a3), (1, v44949), (9, 0), (1, v44945), (9, 0), (0, x8)]) (Nat.le_of_ble_eq_true rfl) rfl ?_
          refine ev_iinc (w := (x8 + 1)) (L' := [(2, 42), (0, a1), (0, a2), (0, a3), (1, v44949), (9, 0), (1, v44945), (9, 0), (0, (x8 + 1))]) rfl (by unfold w32; omega) rfl ?_
          refine ev_goto f260_49 ?_
          exact ih _ _ _ _ g44946 k44946 (by omega) (by omega) (by omega) (by omega) (by omega) (by omega) (by omega) (by omega) (by omega) (by omega) (by omega) (by omega) (by omega)
      · refine ev_goto f260_105 ?_
        refine ev_iinc (w := (x8 + 1)) (L' := [(2, 42), (0, a1), (0, a2), (0, a3), (1, x4), (9, 0), (1, x6), (9, 0), (0, (x8 + 1))]) rfl (by unfold w32; omega) rfl ?_
        refine ev_goto f260_49 ?_
        exact ih _ _ _ _ g44941 k44941 (by omega) (by omega) (by omega) (by omega) (by omega) (by omega) (by omega) (by omega) (by omega) (by omega) (by omega) (by omega) (by omega)
set_option maxHeartbeats 4000000 in
theorem s260 {G : GH} {h : JH} (g : Gd G h) {a1 : Int} (la1 : (-2147483648) ≤ a1) (ua1 : a1 ≤ 2147483647) {a2 : Int} (la2 : (-2147483648) ≤ a2) (ua2 : a2 ≤ 2147483647) {a3 : Int} (la3 : (-2147483648) ≤ a3) (ua3 : a3 ≤ 2147483647) : jOk 5 0 0 260 [(2, 42), (0, a1), (0, a2), (0, a3)] h (PI G [(46, 0), (47, 0), (42, 6), (42, 9)] h 1 (-9223372036854775808) 9223372036854775807) := by
  refine ⟨by decide, by rw [ml260]; exact Nat.le_of_ble_eq_true rfl, ?_⟩
  rw [ml260, pp260]
  show jEv _ none _ c260_0 0 0 _ (c260_0, [(2, 42), (0, a1), (0, a2), (0, a3), (9, 0), (9, 0), (9, 0), (9, 0), (9, 0)], [], h, 0, 0)
  have k0 := Kp.rf [(46, 0), (47, 0), (42, 6), (42, 9)] h
  refine ev_aload_n rfl ?_
  refine ev_iload_n rfl ?_
  refine ev_call (jcall_v (A := [(0, a1)]) (S' := []) (r := 42) rfl (g.lt ad42) (g.tg ad42) (Nat.le_of_ble_eq_true rfl)) (jOk_le (by decide) (s258 g (by omega) (by omega))) (by decide) (by decide) (fun w44950 h44950 q44950 => ?_)
  obtain ⟨v44951, rfl, lv44951, uv44951, g44950, kk44950⟩ := q44950
  have k44950 := k0.tr kk44950 (by decide)
  show jEv _ _ _ _ _ _ _ (_, [(2, 42), (0, a1), (0, a2), (0, a3), (9, 0), (9, 0), (9, 0), (9, 0), (9, 0)], [(0, v44951)], _, _, _)
  refine ev_ifeq f260_25 (fun c44952 => ?_) (fun c44952 => ?_)
  · refine ev_ldc2_w ?_
    exact ev_ret rfl (by decide) (by decide) ⟨_, rfl, by omega, by omega, g44950, k44950⟩
  · refine ev_aload_n rfl ?_
    refine ev_iload_n rfl ?_
    refine ev_call (jcall_v (A := [(0, a2)]) (S' := []) (r := 42) rfl (g44950.lt ad42) (g44950.tg ad42) (Nat.le_of_ble_eq_true rfl)) (jOk_le (by decide) (s258 g44950 (by omega) (by omega))) (by decide) (by decide) (fun w44953 h44953 q44953 => ?_)
    obtain ⟨v44954, rfl, lv44954, uv44954, g44953, kk44953⟩ := q44953
    have k44953 := k44950.tr kk44953 (by decide)
    show jEv _ _ _ _ _ _ _ (_, [(2, 42), (0, a1), (0, a2), (0, a3), (9, 0), (9, 0), (9, 0), (9, 0), (9, 0)], [(0, v44954)], _, _, _)
    refine ev_ifeq f260_25 (fun c44955 => ?_) (fun c44955 => ?_)
    · refine ev_ldc2_w ?_
      exact ev_ret rfl (by decide) (by decide) ⟨_, rfl, by omega, by omega, g44953, k44953⟩
    · refine ev_iload_n rfl ?_
      refine ev_iconst ?_
      refine ev_iconst ?_
      refine ev_in (d := 3) (a := 0) (b := 0) (cd' := c242_0) (m := 3) (L0 := [(0, a3), (0, 0), (0, 1)]) (jcall_s (A := [(0, 1), (0, 0), (0, a3)]) (S' := []) (by decide) rfl (Nat.le_of_ble_eq_true rfl)) (by decide) ml242 pp242 (Nat.le_of_ble_eq_true rfl) rfl (by decide) (by decide) ?_
      refine ev_iload_n rfl ?_
      refine ev_iload_n rfl ?_
      refine ev_icmplt f242_14 (fun c44956 => ?_) (fun c44956 => ?_)
      · refine ev_iconst ?_
        refine ev_ret rfl (by decide) (by decide) ?_
        show jEv _ _ _ _ _ _ _ (_, [(2, 42), (0, a1), (0, a2), (0, a3), (9, 0), (9, 0), (9, 0), (9, 0), (9, 0)], [(0, 0)], _, _, _)
        refine ev_ifne f260_29 (fun c44957 => absurd c44957 (by omega)) (fun c44957 => ?_)
        refine ev_ldc2_w ?_
        exact ev_ret rfl (by decide) (by decide) ⟨_, rfl, by omega, by omega, g44953, k44953⟩
      · refine ev_iload_n rfl ?_
        refine ev_iload_n rfl ?_
        refine ev_icmpgt f242_14 (fun c44958 => ?_) (fun c44958 => ?_)
        · refine ev_iconst ?_
          refine ev_ret rfl (by decide) (by decide) ?_
          show jEv _ _ _ _ _ _ _ (_, [(2, 42), (0, a1), (0, a2), (0, a3), (9, 0), (9, 0), (9, 0), (9, 0), (9, 0)], [(0, 0)], _, _, _)
          refine ev_ifne f260_29 (fun c44959 => absurd c44959 (by omega)) (fun c44959 => ?_)
          refine ev_ldc2_w ?_
          exact ev_ret rfl (by decide) (by decide) ⟨_, rfl, by omega, by omega, g44953, k44953⟩
        · refine ev_iconst ?_
          refine ev_goto f242_15 ?_
          refine ev_ret rfl (by decide) (by decide) ?_
          show jEv _ _ _ _ _ _ _ (_, [(2, 42), (0, a1), (0, a2), (0, a3), (9, 0), (9, 0), (9, 0), (9, 0), (9, 0)], [(0, 1)], _, _, _)
          refine ev_ifne f260_29 (fun c44960 => ?_) (fun c44960 => absurd c44960 (by omega))
          refine ev_aload_n rfl ?_
          refine ev_call (jcall_v (A := []) (S' := []) (r := 42) rfl (g44953.lt ad42) (g44953.tg ad42) (Nat.le_of_ble_eq_true rfl)) (jOk_le (by decide) (s256 g44953 )) (by decide) (by decide) (fun w44961 h44961 q44961 => ?_)
          obtain ⟨v44962, rfl, lv44962, uv44962, g44961, kk44961⟩ := q44961
          have k44961 := k44953.tr kk44961 (by decide)
          show jEv _ _ _ _ _ _ _ (_, [(2, 42), (0, a1), (0, a2), (0, a3), (9, 0), (9, 0), (9, 0), (9, 0), (9, 0)], [(0, v44962)], _, _, _)
          refine ev_ifne f260_40 (fun c44963 => ?_) (fun c44963 => ?_)
          · refine ev_lconst ?_
            refine ev_lstore (L' := [(2, 42), (0, a1), (0, a2), (0, a3), (1, 0), (9, 0), (9, 0), (9, 0), (9, 0)]) (Nat.le_of_ble_eq_true rfl) rfl ?_
            refine ev_lconst ?_
            refine ev_lstore (L' := [(2, 42), (0, a1), (0, a2), (0, a3), (1, 0), (9, 0), (1, 0), (9, 0), (9, 0)]) (Nat.le_of_ble_eq_true rfl) rfl ?_
            refine ev_iconst ?_
            refine ev_istore (L' := [(2, 42), (0, a1), (0, a2), (0, a3), (1, 0), (9, 0), (1, 0), (9, 0), (0, 0)]) (Nat.le_of_ble_eq_true rfl) rfl ?_
            exact (s260_l la1 ua1 la2 ua2 la3 ua3 164) _ _ _ _ g44961 k44961 (by omega) (by omega) (by omega) (by omega) (by omega) (by omega) (by omega) (by omega) (by omega) (by omega) (by omega) (by omega) (by omega)
          · refine ev_ldc2_w ?_
            exact ev_ret rfl (by decide) (by decide) ⟨_, rfl, by omega, by omega, g44961, k44961⟩
/-! 336 lots -/
set_option maxHeartbeats 4000000 in
theorem s336_l {G : GH} {h : JH} {a1 : Int} (la1 : (-2147483648) ≤ a1) (ua1 : a1 ≤ 2147483647) : ∀ N : Nat, (∀ (h1 : JH) (x2 : Int) (j3 j4 j5 j6 j7 j8 j9 : AV), Gd G h1 → Kp [] h h1 → 0 ≤ a1 → a1 ≤ 1 → 0 ≤ x2 → x2 ≤ 2 → ((-6) * x2 + 15) < N → jEv (jOk 2) none (fun _ => 0) c336_0 0 0 (PI G [] h 0 (-2147483648) 2147483647) (c336_34, [(2, 42), (0, a1), (0, x2), j3, j4, j5, j6, j7, j8, j9], [], h1, 0, 0)) ∧ (∀ (h1 : JH) (x2 x3 : Int) (j4 j5 j6 j7 j8 j9 : AV), Gd G h1 → Kp [] h h1 → 0 ≤ a1 → a1 ≤ 1 → 0 ≤ x2 → x2 ≤ 1 → 0 ≤ x3 → x3 ≤ 2 → ((-6) * x2 + (-x3) + 14) < N → jEv (jOk 2) none (fun _ => 0) c336_0 0 0 (PI G [] h 0 (-2147483648) 2147483647) (c336_41, [(2, 42), (0, a1), (0, x2), (0, x3), j4, j5, j6, j7, j8, j9], [], h1, 0, 0)) := by
  intro N
  induction N with
  | zero => exact ⟨fun h1 x2 j3 j4 j5 j6 j7 j8 j9 g1 k1 b0 b1 b2 b3 hm => absurd hm (by omega), fun h1 x2 x3 j4 j5 j6 j7 j8 j9 g1 k1 b0 b1 b2 b3 b4 b5 hm => absurd hm (by omega)⟩
  | succ N ih =>
    refine ⟨?_, ?_⟩
    · intro h1 x2 j3 j4 j5 j6 j7 j8 j9 g1 k1 b0 b1 b2 b3 hm
      refine ev_iload_n rfl ?_
      refine ev_iconst ?_
      refine ev_icmpge f336_88 (fun c45356 => ?_) (fun c45356 => ?_)
      · refine ev_aload_n rfl ?_
        refine g_getp (r := 42) (c := 67) g1 ad42 (by decide) (by decide) rf42_46 ft12_46 ?_
        refine ev_iconst ?_
        refine g_iald g1 ad67 rt67 (by omega) (by omega) (fun v45357 ev45357 lv45357 uv45357 => ?_)
        refine ev_istore_n (L' := [(2, 42), (0, a1), (0, v45357), j3, j4, j5, j6, j7, j8, j9]) (Nat.le_of_ble_eq_true rfl) rfl ?_
        refine ev_aload_n rfl ?_
        refine g_getp (r := 42) (c := 67) g1 ad42 (by decide) (by decide) rf42_46 ft12_46 ?_
        refine ev_iconst ?_
        refine g_iald g1 ad67 rt67 (by omega) (by omega) (fun v45358 ev45358 lv45358 uv45358 => ?_)
        refine ev_istore_n (L' := [(2, 42), (0, a1), (0, v45357), (0, v45358), j4, j5, j6, j7, j8, j9]) (Nat.le_of_ble_eq_true rfl) rfl ?_
        refine ev_aload_n rfl ?_
        refine g_getp (r := 42) (c := 67) g1 ad42 (by decide) (by decide) rf42_46 ft12_46 ?_
        refine ev_iconst ?_
        refine g_iald g1 ad67 rt67 (by omega) (by omega) (fun v45359 ev45359 lv45359 uv45359 => ?_)
        refine ev_istore (L' := [(2, 42), (0, a1), (0, v45357), (0, v45358), (0, v45359), j5, j6, j7, j8, j9]) (Nat.le_of_ble_eq_true rfl) rfl ?_
        refine ev_aload_n rfl ?_
        refine g_getp (r := 42) (c := 67) g1 ad42 (by decide) (by decide) rf42_46 ft12_46 ?_
        refine ev_iconst ?_
        refine g_iald g1 ad67 rt67 (by omega) (by omega) (fun v45360 ev45360 lv45360 uv45360 => ?_)
        refine ev_istore (L' := [(2, 42), (0, a1), (0, v45357), (0, v45358), (0, v45359), (0, v45360), j6, j7, j8, j9]) (Nat.le_of_ble_eq_true rfl) rfl ?_
        refine ev_iload_n rfl ?_
        refine ev_iload_n rfl ?_
        refine ev_in (d := 1) (a := 0) (b := 0) (cd' := c334_0) (m := 2) (L0 := [(0, v45357), (0, v45358)]) (jcall_s (A := [(0, v45358), (0, v45357)]) (S' := []) (by decide) rfl (Nat.le_of_ble_eq_true rfl)) (by decide) ml334 pp334 (Nat.le_of_ble_eq_true rfl) rfl (by decide) (by decide) ?_
        refine ev_iload_n rfl ?_
        refine ev_iload_n rfl ?_
        refine ev_icmpge f334_9 (fun c45361 => ?_) (fun c45361 => ?_)
        · refine ev_iload_n rfl ?_
          refine ev_ret rfl (by decide) (by decide) ?_
          show jEv _ _ _ _ _ _ _ (_, [(2, 42), (0, a1), (0, v45357), (0, v45358), (0, v45359), (0, v45360), j6, j7, j8, j9], [(0, v45358)], _, _, _)
          refine ev_iload rfl ?_
          refine ev_iload rfl ?_
          refine ev_in (d := 1) (a := 0) (b := 0) (cd' := c334_0) (m := 2) (L0 := [(0, v45359), (0, v45360)]) (jcall_s (A := [(0, v45360), (0, v45359)]) (S' := [(0, v45358)]) (by decide) rfl (Nat.le_of_ble_eq_true rfl)) (by decide) ml334 pp334 (Nat.le_of_ble_eq_true rfl) rfl (by decide) (by decide) ?_
          refine ev_iload_n rfl ?_
          refine ev_iload_n rfl ?_
          refine ev_icmpge f334_9 (fun c45362 => ?_) (fun c45362 => ?_)
          · refine ev_iload_n rfl ?_
            refine ev_ret rfl (by decide) (by decide) ?_
            show jEv _ _ _ _ _ _ _ (_, [(2, 42), (0, a1), (0, v45357), (0, v45358), (0, v45359), (0, v45360), j6, j7, j8, j9], [(0, v45360), (0, v45358)], _, _, _)
            refine ev_in (d := 1) (a := 0) (b := 0) (cd' := c335_0) (m := 2) (L0 := [(0, v45358), (0, v45360)]) (jcall_s (A := [(0, v45360), (0, v45358)]) (S' := []) (by decide) rfl (Nat.le_of_ble_eq_true rfl)) (by decide) ml335 pp335 (Nat.le_of_ble_eq_true rfl) rfl (by decide) (by decide) ?_
            refine ev_iload_n rfl ?_
            refine ev_iload_n rfl ?_
            refine ev_icmple f335_9 (fun c45363 => ?_) (fun c45363 => ?_)
            · refine ev_iload_n rfl ?_
              refine ev_ret rfl (by decide) (by decide) ?_
              show jEv _ _ _ _ _ _ _ (_, [(2, 42), (0, a1), (0, v45357), (0, v45358), (0, v45359), (0, v45360), j6, j7, j8, j9], [(0, v45360)], _, _, _)
              refine ev_istore (L' := [(2, 42), (0, a1), (0, v45357), (0, v45358), (0, v45359), (0, v45360), (0, v45360), j7, j8, j9]) (Nat.le_of_ble_eq_true rfl) rfl ?_
              refine ev_iload_n rfl ?_
              refine ev_iload rfl ?_
              refine ev_in (d := 1) (a := 0) (b := 0) (cd' := c335_0) (m := 2) (L0 := [(0, v45357), (0, v45359)]) (jcall_s (A := [(0, v45359), (0, v45357)]) (S' := []) (by decide) rfl (Nat.le_of_ble_eq_true rfl)) (by decide) ml335 pp335 (Nat.le_of_ble_eq_true rfl) rfl (by decide) (by decide) ?_
              refine ev_iload_n rfl ?_
              refine ev_iload_n rfl ?_
              refine ev_icmple f335_9 (fun c45364 => ?_) (fun c45364 => ?_)
              · refine ev_iload_n rfl ?_
                refine ev_ret rfl (by decide) (by decide) ?_
                show jEv _ _ _ _ _ _ _ (_, [(2, 42), (0, a1), (0, v45357), (0, v45358), (0, v45359), (0, v45360), (0, v45360), j7, j8, j9], [(0, v45359)], _, _, _)
                refine ev_iload_n rfl ?_
                refine ev_iload rfl ?_
                refine ev_in (d := 1) (a := 0) (b := 0) (cd' := c335_0) (m := 2) (L0 := [(0, v45358), (0, v45360)]) (jcall_s (A := [(0, v45360), (0, v45358)]) (S' := [(0, v45359)]) (by decide) rfl (Nat.le_of_ble_eq_true rfl)) (by decide) ml335 pp335 (Nat.le_of_ble_eq_true rfl) rfl (by decide) (by decide) ?_
                refine ev_iload_n rfl ?_
                refine ev_iload_n rfl ?_
                refine ev_icmple f335_9 (fun c45365 => ?_) (fun c45365 => absurd c45365 (by omega))
                refine ev_iload_n rfl ?_
                refine ev_ret rfl (by decide) (by decide) ?_
                show jEv _ _ _ _ _ _ _ (_, [(2, 42), (0, a1), (0, v45357), (0, v45358), (0, v45359), (0, v45360), (0, v45360), j7, j8, j9], [(0, v45360), (0, v45359)], _, _, _)
                refine ev_in (d := 1) (a := 0) (b := 0) (cd' := c334_0) (m := 2) (L0 := [(0, v45359), (0, v45360)]) (jcall_s (A := [(0, v45360), (0, v45359)]) (S' := []) (by decide) rfl (Nat.le_of_ble_eq_true rfl)) (by decide) ml334 pp334 (Nat.le_of_ble_eq_true rfl) rfl (by decide) (by decide) ?_
                refine ev_iload_n rfl ?_
                refine ev_iload_n rfl ?_
                refine ev_icmpge f334_9 (fun c45366 => ?_) (fun c45366 => absurd c45366 (by omega))
                refine ev_iload_n rfl ?_
                refine ev_ret rfl (by decide) (by decide) ?_
                show jEv _ _ _ _ _ _ _ (_, [(2, 42), (0, a1), (0, v45357), (0, v45358), (0, v45359), (0, v45360), (0, v45360), j7, j8, j9], [(0, v45360)], _, _, _)
                refine ev_istore (L' := [(2, 42), (0, a1), (0, v45357), (0, v45358), (0, v45359), (0, v45360), (0, v45360), (0, v45360), j8, j9]) (Nat.le_of_ble_eq_true rfl) rfl ?_
                refine ev_iload rfl ?_
                refine ev_iload rfl ?_
                refine ev_icmpne f336_169 (fun c45367 => absurd c45367 (by omega)) (fun c45367 => ?_)
                refine ev_iload rfl ?_
                refine ev_i2l ?_
                refine ev_lconst ?_
                refine ev_iload_n rfl ?_
                refine ev_call (jcall_s (A := [(0, a1), (1, 1), (1, v45360)]) (S' := []) (by decide) rfl (Nat.le_of_ble_eq_true rfl)) (jOk_le (by decide) (s244 g1 (by omega) (by omega) (by omega) (by omega) (by omega) (by omega))) (by decide) (by decide) (fun w45368 h45368 q45368 => ?_)
                obtain ⟨v45369, rfl, lv45369, uv45369, g45368, kk45368⟩ := q45368
                have k45368 := k1.tr kk45368 (by decide)
                show jEv _ _ _ _ _ _ _ (_, [(2, 42), (0, a1), (0, v45357), (0, v45358), (0, v45359), (0, v45360), (0, v45360), (0, v45360), j8, j9], [(1, v45369)], _, _, _)
                refine g_l2iG (fun v45370 ev45370 lv45370 uv45370 => ?_)
                exact ev_ret rfl (by decide) (by decide) ⟨_, rfl, by omega, by omega, g45368, k45368⟩
              · refine ev_iload_n rfl ?_
                refine ev_goto f335_10 ?_
                refine ev_ret rfl (by decide) (by decide) ?_
                show jEv _ _ _ _ _ _ _ (_, [(2, 42), (0, a1), (0, v45357), (0, v45358), (0, v45359), (0, v45360), (0, v45360), j7, j8, j9], [(0, v45357)], _, _, _)
                refine ev_iload_n rfl ?_
                refine ev_iload rfl ?_
                refine ev_in (d := 1) (a := 0) (b := 0) (cd' := c335_0) (m := 2) (L0 := [(0, v45358), (0, v45360)]) (jcall_s (A := [(0, v45360), (0, v45358)]) (S' := [(0, v45357)]) (by decide) rfl (Nat.le_of_ble_eq_true rfl)) (by decide) ml335 pp335 (Nat.le_of_ble_eq_true rfl) rfl (by decide) (by decide) ?_
                refine ev_iload_n rfl ?_
                refine ev_iload_n rfl ?_
                refine ev_icmple f335_9 (fun c45371 => ?_) (fun c45371 => absurd c45371 (by omega))
                refine ev_iload_n rfl ?_
                refine ev_ret rfl (by decide) (by decide) ?_
                show jEv _ _ _ _ _ _ _ (_, [(2, 42), (0, a1), (0, v45357), (0, v45358), (0, v45359), (0, v45360), (0, v45360), j7, j8, j9], [(0, v45360), (0, v45357)], _, _, _)
                refine ev_in (d := 1) (a := 0) (b := 0) (cd' := c334_0) (m := 2) (L0 := [(0, v45357), (0, v45360)]) (jcall_s (A := [(0, v45360), (0, v45357)]) (S' := []) (by decide) rfl (Nat.le_of_ble_eq_true rfl)) (by decide) ml334 pp334 (Nat.le_of_ble_eq_true rfl) rfl (by decide) (by decide) ?_
                refine ev_iload_n rfl ?_
                refine ev_iload_n rfl ?_
                refine ev_icmpge f334_9 (fun c45372 => ?_) (fun c45372 => absurd c45372 (by omega))
                refine ev_iload_n rfl ?_
                refine ev_ret rfl (by decide) (by decide) ?_
                show jEv _ _ _ _ _ _ _ (_, [(2, 42), (0, a1), (0, v45357), (0, v45358), (0, v45359), (0, v45360), (0, v45360), j7, j8, j9], [(0, v45360)], _, _, _)
                refine ev_istore (L' := [(2, 42), (0, a1), (0, v45357), (0, v45358), (0, v45359), (0, v45360), (0, v45360), (0, v45360), j8, j9]) (Nat.le_of_ble_eq_true rfl) rfl ?_
                refine ev_iload rfl ?_
                refine ev_iload rfl ?_
                refine ev_icmpne f336_169 (fun c45373 => absurd c45373 (by omega)) (fun c45373 => ?_)
                refine ev_iload rfl ?_
                refine ev_i2l ?_
                refine ev_lconst ?_
                refine ev_iload_n rfl ?_
                refine ev_call (jcall_s (A := [(0, a1), (1, 1), (1, v45360)]) (S' := []) (by decide) rfl (Nat.le_of_ble_eq_true rfl)) (jOk_le (by decide) (s244 g1 (by omega) (by omega) (by omega) (by omega) (by omega) (by omega))) (by decide) (by decide) (fun w45374 h45374 q45374 => ?_)
                obtain ⟨v45375, rfl, lv45375, uv45375, g45374, kk45374⟩ := q45374
                have k45374 := k1.tr kk45374 (by decide)
                show jEv _ _ _ _ _ _ _ (_, [(2, 42), (0, a1), (0, v45357), (0, v45358), (0, v45359), (0, v45360), (0, v45360), (0, v45360), j8, j9], [(1, v45375)], _, _, _)
                refine g_l2iG (fun v45376 ev45376 lv45376 uv45376 => ?_)
                exact ev_ret rfl (by decide) (by decide) ⟨_, rfl, by omega, by omega, g45374, k45374⟩
            · refine ev_iload_n rfl ?_
              refine ev_goto f335_10 ?_
              refine ev_ret rfl (by decide) (by decide) ?_
              show jEv _ _ _ _ _ _ _ (_, [(2, 42), (0, a1), (0, v45357), (0, v45358), (0, v45359), (0, v45360), j6, j7, j8, j9], [(0, v45358)], _, _, _)
              refine ev_istore (L' := [(2, 42), (0, a1), (0, v45357), (0, v45358), (0, v45359), (0, v45360), (0, v45358), j7, j8, j9]) (Nat.le_of_ble_eq_true rfl) rfl ?_
              refine ev_iload_n rfl ?_
              refine ev_iload rfl ?_
              refine ev_in (d := 1) (a := 0) (b := 0) (cd' := c335_0) (m := 2) (L0 := [(0, v45357), (0, v45359)]) (jcall_s (A := [(0, v45359), (0, v45357)]) (S' := []) (by decide) rfl (Nat.le_of_ble_eq_true rfl)) (by decide) ml335 pp335 (Nat.le_of_ble_eq_true rfl) rfl (by decide) (by decide) ?_
              refine ev_iload_n rfl ?_
              refine ev_iload_n rfl ?_
              refine ev_icmple f335_9 (fun c45377 => ?_) (fun c45377 => ?_)
              · refine ev_iload_n rfl ?_
                refine ev_ret rfl (by decide) (by decide) ?_
                show jEv _ _ _ _ _ _ _ (_, [(2, 42), (0, a1), (0, v45357), (0, v45358), (0, v45359), (0, v45360), (0, v45358), j7, j8, j9], [(0, v45359)], _, _, _)
                refine ev_iload_n rfl ?_
                refine ev_iload rfl ?_
                refine ev_in (d := 1) (a := 0) (b := 0) (cd' := c335_0) (m := 2) (L0 := [(0, v45358), (0, v45360)]) (jcall_s (A := [(0, v45360), (0, v45358)]) (S' := [(0, v45359)]) (by decide) rfl (Nat.le_of_ble_eq_true rfl)) (by decide) ml335 pp335 (Nat.le_of_ble_eq_true rfl) rfl (by decide) (by decide) ?_
                refine ev_iload_n rfl ?_
                refine ev_iload_n rfl ?_
                refine ev_icmple f335_9 (fun c45378 => absurd c45378 (by omega)) (fun c45378 => ?_)
                refine ev_iload_n rfl ?_
                refine ev_goto f335_10 ?_
                refine ev_ret rfl (by decide) (by decide) ?_
                show jEv _ _ _ _ _ _ _ (_, [(2, 42), (0, a1), (0, v45357), (0, v45358), (0, v45359), (0, v45360), (0, v45358), j7, j8, j9], [(0, v45358), (0, v45359)], _, _, _)
                refine ev_in (d := 1) (a := 0) (b := 0) (cd' := c334_0) (m := 2) (L0 := [(0, v45359), (0, v45358)]) (jcall_s (A := [(0, v45358), (0, v45359)]) (S' := []) (by decide) rfl (Nat.le_of_ble_eq_true rfl)) (by decide) ml334 pp334 (Nat.le_of_ble_eq_true rfl) rfl (by decide) (by decide) ?_
                refine ev_iload_n rfl ?_
                refine ev_iload_n rfl ?_
                refine ev_icmpge f334_9 (fun c45379 => ?_) (fun c45379 => absurd c45379 (by omega))
                refine ev_iload_n rfl ?_
                refine ev_ret rfl (by decide) (by decide) ?_
                show jEv _ _ _ _ _ _ _ (_, [(2, 42), (0, a1), (0, v45357), (0, v45358), (0, v45359), (0, v45360), (0, v45358), j7, j8, j9], [(0, v45358)], _, _, _)
                refine ev_istore (L' := [(2, 42), (0, a1), (0, v45357), (0, v45358), (0, v45359), (0, v45360), (0, v45358), (0, v45358), j8, j9]) (Nat.le_of_ble_eq_true rfl) rfl ?_
                refine ev_iload rfl ?_
                refine ev_iload rfl ?_
                refine ev_icmpne f336_169 (fun c45380 => absurd c45380 (by omega)) (fun c45380 => ?_)
                refine ev_iload rfl ?_
                refine ev_i2l ?_
                refine ev_lconst ?_
                refine ev_iload_n rfl ?_
                refine ev_call (jcall_s (A := [(0, a1), (1, 1), (1, v45358)]) (S' := []) (by decide) rfl (Nat.le_of_ble_eq_true rfl)) (jOk_le (by decide) (s244 g1 (by omega) (by omega) (by omega) (by omega) (by omega) (by omega))) (by decide) (by decide) (fun w45381 h45381 q45381 => ?_)
                obtain ⟨v45382, rfl, lv45382, uv45382, g45381, kk45381⟩ := q45381
                have k45381 := k1.tr kk45381 (by decide)
                show jEv _ _ _ _ _ _ _ (_, [(2, 42), (0, a1), (0, v45357), (0, v45358), (0, v45359), (0, v45360), (0, v45358), (0, v45358), j8, j9], [(1, v45382)], _, _, _)
                refine g_l2iG (fun v45383 ev45383 lv45383 uv45383 => ?_)
                exact ev_ret rfl (by decide) (by decide) ⟨_, rfl, by omega, by omega, g45381, k45381⟩
              · refine ev_iload_n rfl ?_
                refine ev_goto f335_10 ?_
                refine ev_ret rfl (by decide) (by decide) ?_
                show jEv _ _ _ _ _ _ _ (_, [(2, 42), (0, a1), (0, v45357), (0, v45358), (0, v45359), (0, v45360), (0, v45358), j7, j8, j9], [(0, v45357)], _, _, _)
                refine ev_iload_n rfl ?_
                refine ev_iload rfl ?_
                refine ev_in (d := 1) (a := 0) (b := 0) (cd' := c335_0) (m := 2) (L0 := [(0, v45358), (0, v45360)]) (jcall_s (A := [(0, v45360), (0, v45358)]) (S' := [(0, v45357)]) (by decide) rfl (Nat.le_of_ble_eq_true rfl)) (by decide) ml335 pp335 (Nat.le_of_ble_eq_true rfl) rfl (by decide) (by decide) ?_
                refine ev_iload_n rfl ?_
                refine ev_iload_n rfl ?_
                refine ev_icmple f335_9 (fun c45384 => absurd c45384 (by omega)) (fun c45384 => ?_)
                refine ev_iload_n rfl ?_
                refine ev_goto f335_10 ?_
                refine ev_ret rfl (by decide) (by decide) ?_
                show jEv _ _ _ _ _ _ _ (_, [(2, 42), (0, a1), (0, v45357), (0, v45358), (0, v45359), (0, v45360), (0, v45358), j7, j8, j9], [(0, v45358), (0, v45357)], _, _, _)
                refine ev_in (d := 1) (a := 0) (b := 0) (cd' := c334_0) (m := 2) (L0 := [(0, v45357), (0, v45358)]) (jcall_s (A := [(0, v45358), (0, v45357)]) (S' := []) (by decide) rfl (Nat.le_of_ble_eq_true rfl)) (by decide) ml334 pp334 (Nat.le_of_ble_eq_true rfl) rfl (by decide) (by decide) ?_
                refine ev_iload_n rfl ?_
                refine ev_iload_n rfl ?_
                refine ev_icmpge f334_9 (fun c45385 => ?_) (fun c45385 => absurd c45385 (by omega))
                refine ev_iload_n rfl ?_
                refine ev_ret rfl (by decide) (by decide) ?_
                show jEv _ _ _ _ _ _ _ (_, [(2, 42), (0, a1), (0, v45357), (0, v45358), (0, v45359), (0, v45360), (0, v45358), j7, j8, j9], [(0, v45358)], _, _, _)
                refine ev_istore (L' := [(2, 42), (0, a1), (0, v45357), (0, v45358), (0, v45359), (0, v45360), (0, v45358), (0, v45358), j8, j9]) (Nat.le_of_ble_eq_true rfl) rfl ?_
                refine ev_iload rfl ?_
                refine ev_iload rfl ?_
                refine ev_icmpne f336_169 (fun c45386 => absurd c45386 (by omega)) (fun c45386 => ?_)
                refine ev_iload rfl ?_
                refine ev_i2l ?_
                refine ev_lconst ?_
                refine ev_iload_n rfl ?_
                refine ev_call (jcall_s (A := [(0, a1), (1, 1), (1, v45358)]) (S' := []) (by decide) rfl (Nat.le_of_ble_eq_true rfl)) (jOk_le (by decide) (s244 g1 (by omega) (by omega) (by omega) (by omega) (by omega) (by omega))) (by decide) (by decide) (fun w45387 h45387 q45387 => ?_)
                obtain ⟨v45388, rfl, lv45388, uv45388, g45387, kk45387⟩ := q45387
                have k45387 := k1.tr kk45387 (by decide)
                show jEv _ _ _ _ _ _ _ (_, [(2, 42), (0, a1), (0, v45357), (0, v45358), (0, v45359), (0, v45360), (0, v45358), (0, v45358), j8, j9], [(1, v45388)], _, _, _)
                refine g_l2iG (fun v45389 ev45389 lv45389 uv45389 => ?_)
                exact ev_ret rfl (by decide) (by decide) ⟨_, rfl, by omega, by omega, g45387, k45387⟩
          · refine ev_iload_n rfl ?_
            refine ev_goto f334_10 ?_
            refine ev_ret rfl (by decide) (by decide) ?_
            show jEv _ _ _ _ _ _ _ (_, [(2, 42), (0, a1), (0, v45357), (0, v45358), (0, v45359), (0, v45360), j6, j7, j8, j9], [(0, v45359), (0, v45358)], _, _, _)
            refine ev_in (d := 1) (a := 0) (b := 0) (cd' := c335_0) (m := 2) (L0 := [(0, v45358), (0, v45359)]) (jcall_s (A := [(0, v45359), (0, v45358)]) (S' := []) (by decide) rfl (Nat.le_of_ble_eq_true rfl)) (by decide) ml335 pp335 (Nat.le_of_ble_eq_true rfl) rfl (by decide) (by decide) ?_
            refine ev_iload_n rfl ?_
            refine ev_iload_n rfl ?_
            refine ev_icmple f335_9 (fun c45390 => ?_) (fun c45390 => ?_)
            · refine ev_iload_n rfl ?_
              refine ev_ret rfl (by decide) (by decide) ?_
              show jEv _ _ _ _ _ _ _ (_, [(2, 42), (0, a1), (0, v45357), (0, v45358), (0, v45359), (0, v45360), j6, j7, j8, j9], [(0, v45359)], _, _, _)
              refine ev_istore (L' := [(2, 42), (0, a1), (0, v45357), (0, v45358), (0, v45359), (0, v45360), (0, v45359), j7, j8, j9]) (Nat.le_of_ble_eq_true rfl) rfl ?_
              refine ev_iload_n rfl ?_
              refine ev_iload rfl ?_
              refine ev_in (d := 1) (a := 0) (b := 0) (cd' := c335_0) (m := 2) (L0 := [(0, v45357), (0, v45359)]) (jcall_s (A := [(0, v45359), (0, v45357)]) (S' := []) (by decide) rfl (Nat.le_of_ble_eq_true rfl)) (by decide) ml335 pp335 (Nat.le_of_ble_eq_true rfl) rfl (by decide) (by decide) ?_
              refine ev_iload_n rfl ?_
              refine ev_iload_n rfl ?_
              refine ev_icmple f335_9 (fun c45391 => ?_) (fun c45391 => ?_)
              · refine ev_iload_n rfl ?_
                refine ev_ret rfl (by decide) (by decide) ?_
                show jEv _ _ _ _ _ _ _ (_, [(2, 42), (0, a1), (0, v45357), (0, v45358), (0, v45359), (0, v45360), (0, v45359), j7, j8, j9], [(0, v45359)], _, _, _)
                refine ev_iload_n rfl ?_
                refine ev_iload rfl ?_
                refine ev_in (d := 1) (a := 0) (b := 0) (cd' := c335_0) (m := 2) (L0 := [(0, v45358), (0, v45360)]) (jcall_s (A := [(0, v45360), (0, v45358)]) (S' := [(0, v45359)]) (by decide) rfl (Nat.le_of_ble_eq_true rfl)) (by decide) ml335 pp335 (Nat.le_of_ble_eq_true rfl) rfl (by decide) (by decide) ?_
                refine ev_iload_n rfl ?_
                refine ev_iload_n rfl ?_
                refine ev_icmple f335_9 (fun c45392 => ?_) (fun c45392 => absurd c45392 (by omega))
                refine ev_iload_n rfl ?_
                refine ev_ret rfl (by decide) (by decide) ?_
                show jEv _ _ _ _ _ _ _ (_, [(2, 42), (0, a1), (0, v45357), (0, v45358), (0, v45359), (0, v45360), (0, v45359), j7, j8, j9], [(0, v45360), (0, v45359)], _, _, _)
                refine ev_in (d := 1) (a := 0) (b := 0) (cd' := c334_0) (m := 2) (L0 := [(0, v45359), (0, v45360)]) (jcall_s (A := [(0, v45360), (0, v45359)]) (S' := []) (by decide) rfl (Nat.le_of_ble_eq_true rfl)) (by decide) ml334 pp334 (Nat.le_of_ble_eq_true rfl) rfl (by decide) (by decide) ?_
                refine ev_iload_n rfl ?_
                refine ev_iload_n rfl ?_
                refine ev_icmpge f334_9 (fun c45393 => absurd c45393 (by omega)) (fun c45393 => ?_)
                refine ev_iload_n rfl ?_
                refine ev_goto f334_10 ?_
                refine ev_ret rfl (by decide) (by decide) ?_
                show jEv _ _ _ _ _ _ _ (_, [(2, 42), (0, a1), (0, v45357), (0, v45358), (0, v45359), (0, v45360), (0, v45359), j7, j8, j9], [(0, v45359)], _, _, _)
                refine ev_istore (L' := [(2, 42), (0, a1), (0, v45357), (0, v45358), (0, v45359), (0, v45360), (0, v45359), (0, v45359), j8, j9]) (Nat.le_of_ble_eq_true rfl) rfl ?_
                refine ev_iload rfl ?_
                refine ev_iload rfl ?_
                refine ev_icmpne f336_169 (fun c45394 => absurd c45394 (by omega)) (fun c45394 => ?_)
                refine ev_iload rfl ?_
                refine ev_i2l ?_
                refine ev_lconst ?_
                refine ev_iload_n rfl ?_
                refine ev_call (jcall_s (A := [(0, a1), (1, 1), (1, v45359)]) (S' := []) (by decide) rfl (Nat.le_of_ble_eq_true rfl)) (jOk_le (by decide) (s244 g1 (by omega) (by omega) (by omega) (by omega) (by omega) (by omega))) (by decide) (by decide) (fun w45395 h45395 q45395 => ?_)
                obtain ⟨v45396, rfl, lv45396, uv45396, g45395, kk45395⟩ := q45395
                have k45395 := k1.tr kk45395 (by decide)
                show jEv _ _ _ _ _ _ _ (_, [(2, 42), (0, a1), (0, v45357), (0, v45358), (0, v45359), (0, v45360), (0, v45359), (0, v45359), j8, j9], [(1, v45396)], _, _, _)
                refine g_l2iG (fun v45397 ev45397 lv45397 uv45397 => ?_)
                exact ev_ret rfl (by decide) (by decide) ⟨_, rfl, by omega, by omega, g45395, k45395⟩
              · refine ev_iload_n rfl ?_
                refine ev_goto f335_10 ?_
                refine ev_ret rfl (by decide) (by decide) ?_
                show jEv _ _ _ _ _ _ _ (_, [(2, 42), (0, a1), (0, v45357), (0, v45358), (0, v45359), (0, v45360), (0, v45359), j7, j8, j9], [(0, v45357)], _, _, _)
                refine ev_iload_n rfl ?_
                refine ev_iload rfl ?_
                refine ev_in (d := 1) (a := 0) (b := 0) (cd' := c335_0) (m := 2) (L0 := [(0, v45358), (0, v45360)]) (jcall_s (A := [(0, v45360), (0, v45358)]) (S' := [(0, v45357)]) (by decide) rfl (Nat.le_of_ble_eq_true rfl)) (by decide) ml335 pp335 (Nat.le_of_ble_eq_true rfl) rfl (by decide) (by decide) ?_
                refine ev_iload_n rfl ?_
                refine ev_iload_n rfl ?_
                refine ev_icmple f335_9 (fun c45398 => ?_) (fun c45398 => absurd c45398 (by omega))
                refine ev_iload_n rfl ?_
                refine ev_ret rfl (by decide) (by decide) ?_
                show jEv _ _ _ _ _ _ _ (_, [(2, 42), (0, a1), (0, v45357), (0, v45358), (0, v45359), (0, v45360), (0, v45359), j7, j8, j9], [(0, v45360), (0, v45357)], _, _, _)
                refine ev_in (d := 1) (a := 0) (b := 0) (cd' := c334_0) (m := 2) (L0 := [(0, v45357), (0, v45360)]) (jcall_s (A := [(0, v45360), (0, v45357)]) (S' := []) (by decide) rfl (Nat.le_of_ble_eq_true rfl)) (by decide) ml334 pp334 (Nat.le_of_ble_eq_true rfl) rfl (by decide) (by decide) ?_
                refine ev_iload_n rfl ?_
                refine ev_iload_n rfl ?_
                refine ev_icmpge f334_9 (fun c45399 => ?_) (fun c45399 => ?_)
                · refine ev_iload_n rfl ?_
                  refine ev_ret rfl (by decide) (by decide) ?_
                  show jEv _ _ _ _ _ _ _ (_, [(2, 42), (0, a1), (0, v45357), (0, v45358), (0, v45359), (0, v45360), (0, v45359), j7, j8, j9], [(0, v45360)], _, _, _)
                  refine ev_istore (L' := [(2, 42), (0, a1), (0, v45357), (0, v45358), (0, v45359), (0, v45360), (0, v45359), (0, v45360), j8, j9]) (Nat.le_of_ble_eq_true rfl) rfl ?_
                  refine ev_iload rfl ?_
                  refine ev_iload rfl ?_
                  refine ev_icmpne f336_169 (fun c45400 => ?_) (fun c45400 => absurd c45400 (by omega))
                  refine ev_iload_n rfl ?_
                  refine ev_iload rfl ?_
                  refine ev_iadd (r := (v45357 + v45360)) (by unfold w32; omega) ?_
                  refine ev_iload_n rfl ?_
                  refine ev_isub (r := (v45357 + (-v45358) + v45360)) (by unfold w32; omega) ?_
                  refine ev_iload rfl ?_
                  refine ev_isub (r := (v45357 + (-v45358) + (-v45359) + v45360)) (by unfold w32; omega) ?_
                  refine ev_istore (L' := [(2, 42), (0, a1), (0, v45357), (0, v45358), (0, v45359), (0, v45360), (0, v45359), (0, v45360), (0, (v45357 + (-v45358) + (-v45359) + v45360)), j9]) (Nat.le_of_ble_eq_true rfl) rfl ?_
                  refine ev_iload_n rfl ?_
                  refine ev_iload rfl ?_
                  refine g_imulG (fun v45401 ev45401 lv45401 uv45401 => ?_)
                  refine ev_iload_n rfl ?_
                  refine ev_iload rfl ?_
                  refine g_imulG (fun v45402 ev45402 lv45402 uv45402 => ?_)
                  refine g_isubG (fun v45403 ev45403 lv45403 uv45403 => ?_)
                  refine ev_istore (L' := [(2, 42), (0, a1), (0, v45357), (0, v45358), (0, v45359), (0, v45360), (0, v45359), (0, v45360), (0, (v45357 + (-v45358) + (-v45359) + v45360)), (0, v45403)]) (Nat.le_of_ble_eq_true rfl) rfl ?_
                  refine ev_iload rfl ?_
                  refine ev_ifle f336_209 (fun c45404 => absurd c45404 (by omega)) (fun c45404 => ?_)
                  refine ev_iload rfl ?_
                  refine ev_i2l ?_
                  refine ev_iload rfl ?_
                  refine ev_i2l ?_
                  refine ev_iload_n rfl ?_
                  refine ev_call (jcall_s (A := [(0, a1), (1, (v45357 + (-v45358) + (-v45359) + v45360)), (1, v45403)]) (S' := []) (by decide) rfl (Nat.le_of_ble_eq_true rfl)) (jOk_le (by decide) (s244 g1 (by omega) (by omega) (by omega) (by omega) (by omega) (by omega))) (by decide) (by decide) (fun w45405 h45405 q45405 => ?_)
                  obtain ⟨v45406, rfl, lv45406, uv45406, g45405, kk45405⟩ := q45405
                  have k45405 := k1.tr kk45405 (by decide)
                  show jEv _ _ _ _ _ _ _ (_, [(2, 42), (0, a1), (0, v45357), (0, v45358), (0, v45359), (0, v45360), (0, v45359), (0, v45360), (0, (v45357 + (-v45358) + (-v45359) + v45360)), (0, v45403)], [(1, v45406)], _, _, _)
                  refine ev_goto f336_221 ?_
                  refine g_l2iG (fun v45407 ev45407 lv45407 uv45407 => ?_)
                  exact ev_ret rfl (by decide) (by decide) ⟨_, rfl, by omega, by omega, g45405, k45405⟩
                · refine ev_iload_n rfl ?_
                  refine ev_goto f334_10 ?_
                  refine ev_ret rfl (by decide) (by decide) ?_
                  show jEv _ _ _ _ _ _ _ (_, [(2, 42), (0, a1), (0, v45357), (0, v45358), (0, v45359), (0, v45360), (0, v45359), j7, j8, j9], [(0, v45357)], _, _, _)
                  refine ev_istore (L' := [(2, 42), (0, a1), (0, v45357), (0, v45358), (0, v45359), (0, v45360), (0, v45359), (0, v45357), j8, j9]) (Nat.le_of_ble_eq_true rfl) rfl ?_
                  refine ev_iload rfl ?_
                  refine ev_iload rfl ?_
                  refine ev_icmpne f336_169 (fun c45408 => ?_) (fun c45408 => absurd c45408 (by omega))
                  refine ev_iload_n rfl ?_
                  refine ev_iload rfl ?_
                  refine ev_iadd (r := (v45357 + v45360)) (by unfold w32; omega) ?_
                  refine ev_iload_n rfl ?_
                  refine ev_isub (r := (v45357 + (-v45358) + v45360)) (by unfold w32; omega) ?_
                  refine ev_iload rfl ?_
                  refine ev_isub (r := (v45357 + (-v45358) + (-v45359) + v45360)) (by unfold w32; omega) ?_
                  refine ev_istore (L' := [(2, 42), (0, a1), (0, v45357), (0, v45358), (0, v45359), (0, v45360), (0, v45359), (0, v45357), (0, (v45357 + (-v45358) + (-v45359) + v45360)), j9]) (Nat.le_of_ble_eq_true rfl) rfl ?_
                  refine ev_iload_n rfl ?_
                  refine ev_iload rfl ?_
                  refine g_imulG (fun v45409 ev45409 lv45409 uv45409 => ?_)
                  refine ev_iload_n rfl ?_
                  refine ev_iload rfl ?_
                  refine g_imulG (fun v45410 ev45410 lv45410 uv45410 => ?_)
                  refine g_isubG (fun v45411 ev45411 lv45411 uv45411 => ?_)
                  refine ev_istore (L' := [(2, 42), (0, a1), (0, v45357), (0, v45358), (0, v45359), (0, v45360), (0, v45359), (0, v45357), (0, (v45357 + (-v45358) + (-v45359) + v45360)), (0, v45411)]) (Nat.le_of_ble_eq_true rfl) rfl ?_
                  refine ev_iload rfl ?_
                  refine ev_ifle f336_209 (fun c45412 => absurd c45412 (by omega)) (fun c45412 => ?_)
                  refine ev_iload rfl ?_
                  refine ev_i2l ?_
                  refine ev_iload rfl ?_
                  refine ev_i2l ?_
                  refine ev_iload_n rfl ?_
                  refine ev_call (jcall_s (A := [(0, a1), (1, (v45357 + (-v45358) + (-v45359) + v45360)), (1, v45411)]) (S' := []) (by decide) rfl (Nat.le_of_ble_eq_true rfl)) (jOk_le (by decide) (s244 g1 (by omega) (by omega) (by omega) (by omega) (by omega) (by omega))) (by decide) (by decide) (fun w45413 h45413 q45413 => ?_)
                  obtain ⟨v45414, rfl, lv45414, uv45414, g45413, kk45413⟩ := q45413
                  have k45413 := k1.tr kk45413 (by decide)
                  show jEv _ _ _ _ _ _ _ (_, [(2, 42), (0, a1), (0, v45357), (0, v45358), (0, v45359), (0, v45360), (0, v45359), (0, v45357), (0, (v45357 + (-v45358) + (-v45359) + v45360)), (0, v45411)], [(1, v45414)], _, _, _)
                  refine ev_goto f336_221 ?_
                  refine g_l2iG (fun v45415 ev45415 lv45415 uv45415 => ?_)
                  exact ev_ret rfl (by decide) (by decide) ⟨_, rfl, by omega, by omega, g45413, k45413⟩
            · refine ev_iload_n rfl ?_
              refine ev_goto f335_10 ?_
              refine ev_ret rfl (by decide) (by decide) ?_
              show jEv _ _ _ _ _ _ _ (_, [(2, 42), (0, a1), (0, v45357), (0, v45358), (0, v45359), (0, v45360), j6, j7, j8, j9], [(0, v45358)], _, _, _)
              refine ev_istore (L' := [(2, 42), (0, a1), (0, v45357), (0, v45358), (0, v45359), (0, v45360), (0, v45358), j7, j8, j9]) (Nat.le_of_ble_eq_true rfl) rfl ?_
              refine ev_iload_n rfl ?_
              refine ev_iload rfl ?_
              refine ev_in (d := 1) (a := 0) (b := 0) (cd' := c335_0) (m := 2) (L0 := [(0, v45357), (0, v45359)]) (jcall_s (A := [(0, v45359), (0, v45357)]) (S' := []) (by decide) rfl (Nat.le_of_ble_eq_true rfl)) (by decide) ml335 pp335 (Nat.le_of_ble_eq_true rfl) rfl (by decide) (by decide) ?_
              refine ev_iload_n rfl ?_
              refine ev_iload_n rfl ?_
              refine ev_icmple f335_9 (fun c45416 => absurd c45416 (by omega)) (fun c45416 => ?_)
              refine ev_iload_n rfl ?_
              refine ev_goto f335_10 ?_
              refine ev_ret rfl (by decide) (by decide) ?_
              show jEv _ _ _ _ _ _ _ (_, [(2, 42), (0, a1), (0, v45357), (0, v45358), (0, v45359), (0, v45360), (0, v45358), j7, j8, j9], [(0, v45357)], _, _, _)
              refine ev_iload_n rfl ?_
              refine ev_iload rfl ?_
              refine ev_in (d := 1) (a := 0) (b := 0) (cd' := c335_0) (m := 2) (L0 := [(0, v45358), (0, v45360)]) (jcall_s (A := [(0, v45360), (0, v45358)]) (S' := [(0, v45357)]) (by decide) rfl (Nat.le_of_ble_eq_true rfl)) (by decide) ml335 pp335 (Nat.le_of_ble_eq_true rfl) rfl (by decide) (by decide) ?_
              refine ev_iload_n rfl ?_
              refine ev_iload_n rfl ?_
              refine ev_icmple f335_9 (fun c45417 => ?_) (fun c45417 => ?_)
              · refine ev_iload_n rfl ?_
                refine ev_ret rfl (by decide) (by decide) ?_
                show jEv _ _ _ _ _ _ _ (_, [(2, 42), (0, a1), (0, v45357), (0, v45358), (0, v45359), (0, v45360), (0, v45358), j7, j8, j9], [(0, v45360), (0, v45357)], _, _, _)
                refine ev_in (d := 1) (a := 0) (b := 0) (cd' := c334_0) (m := 2) (L0 := [(0, v45357), (0, v45360)]) (jcall_s (A := [(0, v45360), (0, v45357)]) (S' := []) (by decide) rfl (Nat.le_of_ble_eq_true rfl)) (by decide) ml334 pp334 (Nat.le_of_ble_eq_true rfl) rfl (by decide) (by decide) ?_
                refine ev_iload_n rfl ?_
                refine ev_iload_n rfl ?_
                refine ev_icmpge f334_9 (fun c45418 => ?_) (fun c45418 => ?_)
                · refine ev_iload_n rfl ?_
                  refine ev_ret rfl (by decide) (by decide) ?_
                  show jEv _ _ _ _ _ _ _ (_, [(2, 42), (0, a1), (0, v45357), (0, v45358), (0, v45359), (0, v45360), (0, v45358), j7, j8, j9], [(0, v45360)], _, _, _)
                  refine ev_istore (L' := [(2, 42), (0, a1), (0, v45357), (0, v45358), (0, v45359), (0, v45360), (0, v45358), (0, v45360), j8, j9]) (Nat.le_of_ble_eq_true rfl) rfl ?_
                  refine ev_iload rfl ?_
                  refine ev_iload rfl ?_
                  refine ev_icmpne f336_169 (fun c45419 => ?_) (fun c45419 => ?_)
                  · refine ev_iload_n rfl ?_
                    refine ev_iload rfl ?_
                    refine ev_iadd (r := (v45357 + v45360)) (by unfold w32; omega) ?_
                    refine ev_iload_n rfl ?_
                    refine ev_isub (r := (v45357 + (-v45358) + v45360)) (by unfold w32; omega) ?_
                    refine ev_iload rfl ?_
                    refine ev_isub (r := (v45357 + (-v45358) + (-v45359) + v45360)) (by unfold w32; omega) ?_
                    refine ev_istore (L' := [(2, 42), (0, a1), (0, v45357), (0, v45358), (0, v45359), (0, v45360), (0, v45358), (0, v45360), (0, (v45357 + (-v45358) + (-v45359) + v45360)), j9]) (Nat.le_of_ble_eq_true rfl) rfl ?_
                    refine ev_iload_n rfl ?_
                    refine ev_iload rfl ?_
                    refine g_imulG (fun v45420 ev45420 lv45420 uv45420 => ?_)
                    refine ev_iload_n rfl ?_
                    refine ev_iload rfl ?_
                    refine g_imulG (fun v45421 ev45421 lv45421 uv45421 => ?_)
                    refine g_isubG (fun v45422 ev45422 lv45422 uv45422 => ?_)
                    refine ev_istore (L' := [(2, 42), (0, a1), (0, v45357), (0, v45358), (0, v45359), (0, v45360), (0, v45358), (0, v45360), (0, (v45357 + (-v45358) + (-v45359) + v45360)), (0, v45422)]) (Nat.le_of_ble_eq_true rfl) rfl ?_
                    refine ev_iload rfl ?_
                    refine ev_ifle f336_209 (fun c45423 => absurd c45423 (by omega)) (fun c45423 => ?_)
                    refine ev_iload rfl ?_
                    refine ev_i2l ?_
                    refine ev_iload rfl ?_
                    refine ev_i2l ?_
                    refine ev_iload_n rfl ?_
                    refine ev_call (jcall_s (A := [(0, a1), (1, (v45357 + (-v45358) + (-v45359) + v45360)), (1, v45422)]) (S' := []) (by decide) rfl (Nat.le_of_ble_eq_true rfl)) (jOk_le (by decide) (s244 g1 (by omega) (by omega) (by omega) (by omega) (by omega) (by omega))) (by decide) (by decide) (fun w45424 h45424 q45424 => ?_)
                    obtain ⟨v45425, rfl, lv45425, uv45425, g45424, kk45424⟩ := q45424
                    have k45424 := k1.tr kk45424 (by decide)
                    show jEv _ _ _ _ _ _ _ (_, [(2, 42), (0, a1), (0, v45357), (0, v45358), (0, v45359), (0, v45360), (0, v45358), (0, v45360), (0, (v45357 + (-v45358) + (-v45359) + v45360)), (0, v45422)], [(1, v45425)], _, _, _)
                    refine ev_goto f336_221 ?_
                    refine g_l2iG (fun v45426 ev45426 lv45426 uv45426 => ?_)
                    exact ev_ret rfl (by decide) (by decide) ⟨_, rfl, by omega, by omega, g45424, k45424⟩
                  · refine ev_iload rfl ?_
                    refine ev_i2l ?_
                    refine ev_lconst ?_
                    refine ev_iload_n rfl ?_
                    refine ev_call (jcall_s (A := [(0, a1), (1, 1), (1, v45358)]) (S' := []) (by decide) rfl (Nat.le_of_ble_eq_true rfl)) (jOk_le (by decide) (s244 g1 (by omega) (by omega) (by omega) (by omega) (by omega) (by omega))) (by decide) (by decide) (fun w45427 h45427 q45427 => ?_)
                    obtain ⟨v45428, rfl, lv45428, uv45428, g45427, kk45427⟩ := q45427
                    have k45427 := k1.tr kk45427 (by decide)
                    show jEv _ _ _ _ _ _ _ (_, [(2, 42), (0, a1), (0, v45357), (0, v45358), (0, v45359), (0, v45360), (0, v45358), (0, v45360), j8, j9], [(1, v45428)], _, _, _)
                    refine g_l2iG (fun v45429 ev45429 lv45429 uv45429 => ?_)
                    exact ev_ret rfl (by decide) (by decide) ⟨_, rfl, by omega, by omega, g45427, k45427⟩
                · refine ev_iload_n rfl ?_
                  refine ev_goto f334_10 ?_
                  refine ev_ret rfl (by decide) (by decide) ?_
                  show jEv _ _ _ _ _ _ _ (_, [(2, 42), (0, a1), (0, v45357), (0, v45358), (0, v45359), (0, v45360), (0, v45358), j7, j8, j9], [(0, v45357)], _, _, _)
                  refine ev_istore (L' := [(2, 42), (0, a1), (0, v45357), (0, v45358), (0, v45359), (0, v45360), (0, v45358), (0, v45357), j8, j9]) (Nat.le_of_ble_eq_true rfl) rfl ?_
                  refine ev_iload rfl ?_
                  refine ev_iload rfl ?_
                  refine ev_icmpne f336_169 (fun c45430 => ?_) (fun c45430 => ?_)
                  · refine ev_iload_n rfl ?_
                    refine ev_iload rfl ?_
                    refine ev_iadd (r := (v45357 + v45360)) (by unfold w32; omega) ?_
                    refine ev_iload_n rfl ?_
                    refine ev_isub (r := (v45357 + (-v45358) + v45360)) (by unfold w32; omega) ?_
                    refine ev_iload rfl ?_
                    refine ev_isub (r := (v45357 + (-v45358) + (-v45359) + v45360)) (by unfold w32; omega) ?_
                    refine ev_istore (L' := [(2, 42), (0, a1), (0, v45357), (0, v45358), (0, v45359), (0, v45360), (0, v45358), (0, v45357), (0, (v45357 + (-v45358) + (-v45359) + v45360)), j9]) (Nat.le_of_ble_eq_true rfl) rfl ?_
                    refine ev_iload_n rfl ?_
                    refine ev_iload rfl ?_
                    refine g_imulG (fun v45431 ev45431 lv45431 uv45431 => ?_)
                    refine ev_iload_n rfl ?_
                    refine ev_iload rfl ?_
                    refine g_imulG (fun v45432 ev45432 lv45432 uv45432 => ?_)
                    refine g_isubG (fun v45433 ev45433 lv45433 uv45433 => ?_)
                    refine ev_istore (L' := [(2, 42), (0, a1), (0, v45357), (0, v45358), (0, v45359), (0, v45360), (0, v45358), (0, v45357), (0, (v45357 + (-v45358) + (-v45359) + v45360)), (0, v45433)]) (Nat.le_of_ble_eq_true rfl) rfl ?_
                    refine ev_iload rfl ?_
                    refine ev_ifle f336_209 (fun c45434 => absurd c45434 (by omega)) (fun c45434 => ?_)
                    refine ev_iload rfl ?_
                    refine ev_i2l ?_
                    refine ev_iload rfl ?_
                    refine ev_i2l ?_
                    refine ev_iload_n rfl ?_
                    refine ev_call (jcall_s (A := [(0, a1), (1, (v45357 + (-v45358) + (-v45359) + v45360)), (1, v45433)]) (S' := []) (by decide) rfl (Nat.le_of_ble_eq_true rfl)) (jOk_le (by decide) (s244 g1 (by omega) (by omega) (by omega) (by omega) (by omega) (by omega))) (by decide) (by decide) (fun w45435 h45435 q45435 => ?_)
                    obtain ⟨v45436, rfl, lv45436, uv45436, g45435, kk45435⟩ := q45435
                    have k45435 := k1.tr kk45435 (by decide)
                    show jEv _ _ _ _ _ _ _ (_, [(2, 42), (0, a1), (0, v45357), (0, v45358), (0, v45359), (0, v45360), (0, v45358), (0, v45357), (0, (v45357 + (-v45358) + (-v45359) + v45360)), (0, v45433)], [(1, v45436)], _, _, _)
                    refine ev_goto f336_221 ?_
                    refine g_l2iG (fun v45437 ev45437 lv45437 uv45437 => ?_)
                    exact ev_ret rfl (by decide) (by decide) ⟨_, rfl, by omega, by omega, g45435, k45435⟩
                  · refine ev_iload rfl ?_
                    refine ev_i2l ?_
                    refine ev_lconst ?_
                    refine ev_iload_n rfl ?_
                    refine ev_call (jcall_s (A := [(0, a1), (1, 1), (1, v45358)]) (S' := []) (by decide) rfl (Nat.le_of_ble_eq_true rfl)) (jOk_le (by decide) (s244 g1 (by omega) (by omega) (by omega) (by omega) (by omega) (by omega))) (by decide) (by decide) (fun w45438 h45438 q45438 => ?_)
                    obtain ⟨v45439, rfl, lv45439, uv45439, g45438, kk45438⟩ := q45438
                    have k45438 := k1.tr kk45438 (by decide)
                    show jEv _ _ _ _ _ _ _ (_, [(2, 42), (0, a1), (0, v45357), (0, v45358), (0, v45359), (0, v45360), (0, v45358), (0, v45357), j8, j9], [(1, v45439)], _, _, _)
                    refine g_l2iG (fun v45440 ev45440 lv45440 uv45440 => ?_)
                    exact ev_ret rfl (by decide) (by decide) ⟨_, rfl, by omega, by omega, g45438, k45438⟩
              · refine ev_iload_n rfl ?_
                refine ev_goto f335_10 ?_
                refine ev_ret rfl (by decide) (by decide) ?_
                show jEv _ _ _ _ _ _ _ (_, [(2, 42), (0, a1), (0, v45357), (0, v45358), (0, v45359), (0, v45360), (0, v45358), j7, j8, j9], [(0, v45358), (0, v45357)], _, _, _)
                refine ev_in (d := 1) (a := 0) (b := 0) (cd' := c334_0) (m := 2) (L0 := [(0, v45357), (0, v45358)]) (jcall_s (A := [(0, v45358), (0, v45357)]) (S' := []) (by decide) rfl (Nat.le_of_ble_eq_true rfl)) (by decide) ml334 pp334 (Nat.le_of_ble_eq_true rfl) rfl (by decide) (by decide) ?_
                refine ev_iload_n rfl ?_
                refine ev_iload_n rfl ?_
                refine ev_icmpge f334_9 (fun c45441 => ?_) (fun c45441 => absurd c45441 (by omega))
                refine ev_iload_n rfl ?_
                refine ev_ret rfl (by decide) (by decide) ?_
                show jEv _ _ _ _ _ _ _ (_, [(2, 42), (0, a1), (0, v45357), (0, v45358), (0, v45359), (0, v45360), (0, v45358), j7, j8, j9], [(0, v45358)], _, _, _)
                refine ev_istore (L' := [(2, 42), (0, a1), (0, v45357), (0, v45358), (0, v45359), (0, v45360), (0, v45358), (0, v45358), j8, j9]) (Nat.le_of_ble_eq_true rfl) rfl ?_
                refine ev_iload rfl ?_
                refine ev_iload rfl ?_
                refine ev_icmpne f336_169 (fun c45442 => absurd c45442 (by omega)) (fun c45442 => ?_)
                refine ev_iload rfl ?_
                refine ev_i2l ?_
                refine ev_lconst ?_
                refine ev_iload_n rfl ?_
                refine ev_call (jcall_s (A := [(0, a1), (1, 1), (1, v45358)]) (S' := []) (by decide) rfl (Nat.le_of_ble_eq_true rfl)) (jOk_le (by decide) (s244 g1 (by omega) (by omega) (by omega) (by omega) (by omega) (by omega))) (by decide) (by decide) (fun w45443 h45443 q45443 => ?_)
                obtain ⟨v45444, rfl, lv45444, uv45444, g45443, kk45443⟩ := q45443
                have k45443 := k1.tr kk45443 (by decide)
                show jEv _ _ _ _ _ _ _ (_, [(2, 42), (0, a1), (0, v45357), (0, v45358), (0, v45359), (0, v45360), (0, v45358), (0, v45358), j8, j9], [(1, v45444)], _, _, _)
                refine g_l2iG (fun v45445 ev45445 lv45445 uv45445 => ?_)
                exact ev_ret rfl (by decide) (by decide) ⟨_, rfl, by omega, by omega, g45443, k45443⟩
        · refine ev_iload_n rfl ?_
          refine ev_goto f334_10 ?_
          refine ev_ret rfl (by decide) (by decide) ?_
          show jEv _ _ _ _ _ _ _ (_, [(2, 42), (0, a1), (0, v45357), (0, v45358), (0, v45359), (0, v45360), j6, j7, j8, j9], [(0, v45357)], _, _, _)
          refine ev_iload rfl ?_
          refine ev_iload rfl ?_
          refine ev_in (d := 1) (a := 0) (b := 0) (cd' := c334_0) (m := 2) (L0 := [(0, v45359), (0, v45360)]) (jcall_s (A := [(0, v45360), (0, v45359)]) (S' := [(0, v45357)]) (by decide) rfl (Nat.le_of_ble_eq_true rfl)) (by decide) ml334 pp334 (Nat.le_of_ble_eq_true rfl) rfl (by decide) (by decide) ?_
          refine ev_iload_n rfl ?_
          refine ev_iload_n rfl ?_
          refine ev_icmpge f334_9 (fun c45446 => ?_) (fun c45446 => ?_)
          · refine ev_iload_n rfl ?_
            refine ev_ret rfl (by decide) (by decide) ?_
            show jEv _ _ _ _ _ _ _ (_, [(2, 42), (0, a1), (0, v45357), (0, v45358), (0, v45359), (0, v45360), j6, j7, j8, j9], [(0, v45360), (0, v45357)], _, _, _)
            refine ev_in (d := 1) (a := 0) (b := 0) (cd' := c335_0) (m := 2) (L0 := [(0, v45357), (0, v45360)]) (jcall_s (A := [(0, v45360), (0, v45357)]) (S' := []) (by decide) rfl (Nat.le_of_ble_eq_true rfl)) (by decide) ml335 pp335 (Nat.le_of_ble_eq_true rfl) rfl (by decide) (by decide) ?_
            refine ev_iload_n rfl ?_
            refine ev_iload_n rfl ?_
            refine ev_icmple f335_9 (fun c45447 => ?_) (fun c45447 => ?_)
            · refine ev_iload_n rfl ?_
              refine ev_ret rfl (by decide) (by decide) ?_
              show jEv _ _ _ _ _ _ _ (_, [(2, 42), (0, a1), (0, v45357), (0, v45358), (0, v45359), (0, v45360), j6, j7, j8, j9], [(0, v45360)], _, _, _)
              refine ev_istore (L' := [(2, 42), (0, a1), (0, v45357), (0, v45358), (0, v45359), (0, v45360), (0, v45360), j7, j8, j9]) (Nat.le_of_ble_eq_true rfl) rfl ?_
              refine ev_iload_n rfl ?_
              refine ev_iload rfl ?_
              refine ev_in (d := 1) (a := 0) (b := 0) (cd' := c335_0) (m := 2) (L0 := [(0, v45357), (0, v45359)]) (jcall_s (A := [(0, v45359), (0, v45357)]) (S' := []) (by decide) rfl (Nat.le_of_ble_eq_true rfl)) (by decide) ml335 pp335 (Nat.le_of_ble_eq_true rfl) rfl (by decide) (by decide) ?_
              refine ev_iload_n rfl ?_
              refine ev_iload_n rfl ?_
              refine ev_icmple f335_9 (fun c45448 => ?_) (fun c45448 => absurd c45448 (by omega))
              refine ev_iload_n rfl ?_
              refine ev_ret rfl (by decide) (by decide) ?_
              show jEv _ _ _ _ _ _ _ (_, [(2, 42), (0, a1), (0, v45357), (0, v45358), (0, v45359), (0, v45360), (0, v45360), j7, j8, j9], [(0, v45359)], _, _, _)
              refine ev_iload_n rfl ?_
              refine ev_iload rfl ?_
              refine ev_in (d := 1) (a := 0) (b := 0) (cd' := c335_0) (m := 2) (L0 := [(0, v45358), (0, v45360)]) (jcall_s (A := [(0, v45360), (0, v45358)]) (S' := [(0, v45359)]) (by decide) rfl (Nat.le_of_ble_eq_true rfl)) (by decide) ml335 pp335 (Nat.le_of_ble_eq_true rfl) rfl (by decide) (by decide) ?_
              refine ev_iload_n rfl ?_
              refine ev_iload_n rfl ?_
              refine ev_icmple f335_9 (fun c45449 => ?_) (fun c45449 => ?_)
              · refine ev_iload_n rfl ?_
                refine ev_ret rfl (by decide) (by decide) ?_
                show jEv _ _ _ _ _ _ _ (_, [(2, 42), (0, a1), (0, v45357), (0, v45358), (0, v45359), (0, v45360), (0, v45360), j7, j8, j9], [(0, v45360), (0, v45359)], _, _, _)
                refine ev_in (d := 1) (a := 0) (b := 0) (cd' := c334_0) (m := 2) (L0 := [(0, v45359), (0, v45360)]) (jcall_s (A := [(0, v45360), (0, v45359)]) (S' := []) (by decide) rfl (Nat.le_of_ble_eq_true rfl)) (by decide) ml334 pp334 (Nat.le_of_ble_eq_true rfl) rfl (by decide) (by decide) ?_
                refine ev_iload_n rfl ?_
                refine ev_iload_n rfl ?_
                refine ev_icmpge f334_9 (fun c45450 => ?_) (fun c45450 => absurd c45450 (by omega))
                refine ev_iload_n rfl ?_
                refine ev_ret rfl (by decide) (by decide) ?_
                show jEv _ _ _ _ _ _ _ (_, [(2, 42), (0, a1), (0, v45357), (0, v45358), (0, v45359), (0, v45360), (0, v45360), j7, j8, j9], [(0, v45360)], _, _, _)
                refine ev_istore (L' := [(2, 42), (0, a1), (0, v45357), (0, v45358), (0, v45359), (0, v45360), (0, v45360), (0, v45360), j8, j9]) (Nat.le_of_ble_eq_true rfl) rfl ?_
                refine ev_iload rfl ?_
                refine ev_iload rfl ?_
                refine ev_icmpne f336_169 (fun c45451 => absurd c45451 (by omega)) (fun c45451 => ?_)
                refine ev_iload rfl ?_
                refine ev_i2l ?_
                refine ev_lconst ?_
                refine ev_iload_n rfl ?_
                refine ev_call (jcall_s (A := [(0, a1), (1, 1), (1, v45360)]) (S' := []) (by decide) rfl (Nat.le_of_ble_eq_true rfl)) (jOk_le (by decide) (s244 g1 (by omega) (by omega) (by omega) (by omega) (by omega) (by omega))) (by decide) (by decide) (fun w45452 h45452 q45452 => ?_)
                obtain ⟨v45453, rfl, lv45453, uv45453, g45452, kk45452⟩ := q45452
                have k45452 := k1.tr kk45452 (by decide)
                show jEv _ _ _ _ _ _ _ (_, [(2, 42), (0, a1), (0, v45357), (0, v45358), (0, v45359), (0, v45360), (0, v45360), (0, v45360), j8, j9], [(1, v45453)], _, _, _)
                refine g_l2iG (fun v45454 ev45454 lv45454 uv45454 => ?_)
                exact ev_ret rfl (by decide) (by decide) ⟨_, rfl, by omega, by omega, g45452, k45452⟩
              · refine ev_iload_n rfl ?_
                refine ev_goto f335_10 ?_
                refine ev_ret rfl (by decide) (by decide) ?_
                show jEv _ _ _ _ _ _ _ (_, [(2, 42), (0, a1), (0, v45357), (0, v45358), (0, v45359), (0, v45360), (0, v45360), j7, j8, j9], [(0, v45358), (0, v45359)], _, _, _)
                refine ev_in (d := 1) (a := 0) (b := 0) (cd' := c334_0) (m := 2) (L0 := [(0, v45359), (0, v45358)]) (jcall_s (A := [(0, v45358), (0, v45359)]) (S' := []) (by decide) rfl (Nat.le_of_ble_eq_true rfl)) (by decide) ml334 pp334 (Nat.le_of_ble_eq_true rfl) rfl (by decide) (by decide) ?_
                refine ev_iload_n rfl ?_
                refine ev_iload_n rfl ?_
                refine ev_icmpge f334_9 (fun c45455 => ?_) (fun c45455 => ?_)
                · refine ev_iload_n rfl ?_
                  refine ev_ret rfl (by decide) (by decide) ?_
                  show jEv _ _ _ _ _ _ _ (_, [(2, 42), (0, a1), (0, v45357), (0, v45358), (0, v45359), (0, v45360), (0, v45360), j7, j8, j9], [(0, v45358)], _, _, _)
                  refine ev_istore (L' := [(2, 42), (0, a1), (0, v45357), (0, v45358), (0, v45359), (0, v45360), (0, v45360), (0, v45358), j8, j9]) (Nat.le_of_ble_eq_true rfl) rfl ?_
                  refine ev_iload rfl ?_
                  refine ev_iload rfl ?_
                  refine ev_icmpne f336_169 (fun c45456 => ?_) (fun c45456 => absurd c45456 (by omega))
                  refine ev_iload_n rfl ?_
                  refine ev_iload rfl ?_
                  refine ev_iadd (r := (v45357 + v45360)) (by unfold w32; omega) ?_
                  refine ev_iload_n rfl ?_
                  refine ev_isub (r := (v45357 + (-v45358) + v45360)) (by unfold w32; omega) ?_
                  refine ev_iload rfl ?_
                  refine ev_isub (r := (v45357 + (-v45358) + (-v45359) + v45360)) (by unfold w32; omega) ?_
                  refine ev_istore (L' := [(2, 42), (0, a1), (0, v45357), (0, v45358), (0, v45359), (0, v45360), (0, v45360), (0, v45358), (0, (v45357 + (-v45358) + (-v45359) + v45360)), j9]) (Nat.le_of_ble_eq_true rfl) rfl ?_
                  refine ev_iload_n rfl ?_
                  refine ev_iload rfl ?_
                  refine g_imulG (fun v45457 ev45457 lv45457 uv45457 => ?_)
                  refine ev_iload_n rfl ?_
                  refine ev_iload rfl ?_
                  refine g_imulG (fun v45458 ev45458 lv45458 uv45458 => ?_)
                  refine g_isubG (fun v45459 ev45459 lv45459 uv45459 => ?_)
                  refine ev_istore (L' := [(2, 42), (0, a1), (0, v45357), (0, v45358), (0, v45359), (0, v45360), (0, v45360), (0, v45358), (0, (v45357 + (-v45358) + (-v45359) + v45360)), (0, v45459)]) (Nat.le_of_ble_eq_true rfl) rfl ?_
                  refine ev_iload rfl ?_
                  refine ev_ifle f336_209 (fun c45460 => ?_) (fun c45460 => absurd c45460 (by omega))
                  refine ev_iload rfl ?_
                  refine g_inegG (fun v45461 ev45461 lv45461 uv45461 => ?_)
                  refine ev_i2l ?_
                  refine ev_iload rfl ?_
                  refine ev_ineg (r := ((-v45357) + v45358 + v45359 + (-v45360))) (by unfold w32; omega) ?_
                  refine ev_i2l ?_
                  refine ev_iload_n rfl ?_
                  refine ev_call (jcall_s (A := [(0, a1), (1, ((-v45357) + v45358 + v45359 + (-v45360))), (1, v45461)]) (S' := []) (by decide) rfl (Nat.le_of_ble_eq_true rfl)) (jOk_le (by decide) (s244 g1 (by omega) (by omega) (by omega) (by omega) (by omega) (by omega))) (by decide) (by decide) (fun w45462 h45462 q45462 => ?_)
                  obtain ⟨v45463, rfl, lv45463, uv45463, g45462, kk45462⟩ := q45462
                  have k45462 := k1.tr kk45462 (by decide)
                  show jEv _ _ _ _ _ _ _ (_, [(2, 42), (0, a1), (0, v45357), (0, v45358), (0, v45359), (0, v45360), (0, v45360), (0, v45358), (0, (v45357 + (-v45358) + (-v45359) + v45360)), (0, v45459)], [(1, v45463)], _, _, _)
                  refine g_l2iG (fun v45464 ev45464 lv45464 uv45464 => ?_)
                  exact ev_ret rfl (by decide) (by decide) ⟨_, rfl, by omega, by omega, g45462, k45462⟩
                · refine ev_iload_n rfl ?_
                  refine ev_goto f334_10 ?_
                  refine ev_ret rfl (by decide) (by decide) ?_
                  show jEv _ _ _ _ _ _ _ (_, [(2, 42), (0, a1), (0, v45357), (0, v45358), (0, v45359), (0, v45360), (0, v45360), j7, j8, j9], [(0, v45359)], _, _, _)
                  refine ev_istore (L' := [(2, 42), (0, a1), (0, v45357), (0, v45358), (0, v45359), (0, v45360), (0, v45360), (0, v45359), j8, j9]) (Nat.le_of_ble_eq_true rfl) rfl ?_
                  refine ev_iload rfl ?_
                  refine ev_iload rfl ?_
                  refine ev_icmpne f336_169 (fun c45465 => ?_) (fun c45465 => ?_)
                  · refine ev_iload_n rfl ?_
                    refine ev_iload rfl ?_
                    refine ev_iadd (r := (v45357 + v45360)) (by unfold w32; omega) ?_
                    refine ev_iload_n rfl ?_
                    refine ev_isub (r := (v45357 + (-v45358) + v45360)) (by unfold w32; omega) ?_
                    refine ev_iload rfl ?_
                    refine ev_isub (r := (v45357 + (-v45358) + (-v45359) + v45360)) (by unfold w32; omega) ?_
                    refine ev_istore (L' := [(2, 42), (0, a1), (0, v45357), (0, v45358), (0, v45359), (0, v45360), (0, v45360), (0, v45359), (0, (v45357 + (-v45358) + (-v45359) + v45360)), j9]) (Nat.le_of_ble_eq_true rfl) rfl ?_
                    refine ev_iload_n rfl ?_
                    refine ev_iload rfl ?_
                    refine g_imulG (fun v45466 ev45466 lv45466 uv45466 => ?_)
                    refine ev_iload_n rfl ?_
                    refine ev_iload rfl ?_
                    refine g_imulG (fun v45467 ev45467 lv45467 uv45467 => ?_)
                    refine g_isubG (fun v45468 ev45468 lv45468 uv45468 => ?_)
                    refine ev_istore (L' := [(2, 42), (0, a1), (0, v45357), (0, v45358), (0, v45359), (0, v45360), (0, v45360), (0, v45359), (0, (v45357 + (-v45358) + (-v45359) + v45360)), (0, v45468)]) (Nat.le_of_ble_eq_true rfl) rfl ?_
                    refine ev_iload rfl ?_
                    refine ev_ifle f336_209 (fun c45469 => ?_) (fun c45469 => absurd c45469 (by omega))
                    refine ev_iload rfl ?_
                    refine g_inegG (fun v45470 ev45470 lv45470 uv45470 => ?_)
                    refine ev_i2l ?_
                    refine ev_iload rfl ?_
                    refine ev_ineg (r := ((-v45357) + v45358 + v45359 + (-v45360))) (by unfold w32; omega) ?_
                    refine ev_i2l ?_
                    refine ev_iload_n rfl ?_
                    refine ev_call (jcall_s (A := [(0, a1), (1, ((-v45357) + v45358 + v45359 + (-v45360))), (1, v45470)]) (S' := []) (by decide) rfl (Nat.le_of_ble_eq_true rfl)) (jOk_le (by decide) (s244 g1 (by omega) (by omega) (by omega) (by omega) (by omega) (by omega))) (by decide) (by decide) (fun w45471 h45471 q45471 => ?_)
                    obtain ⟨v45472, rfl, lv45472, uv45472, g45471, kk45471⟩ := q45471
                    have k45471 := k1.tr kk45471 (by decide)
                    show jEv _ _ _ _ _ _ _ (_, [(2, 42), (0, a1), (0, v45357), (0, v45358), (0, v45359), (0, v45360), (0, v45360), (0, v45359), (0, (v45357 + (-v45358) + (-v45359) + v45360)), (0, v45468)], [(1, v45472)], _, _, _)
                    refine g_l2iG (fun v45473 ev45473 lv45473 uv45473 => ?_)
                    exact ev_ret rfl (by decide) (by decide) ⟨_, rfl, by omega, by omega, g45471, k45471⟩
                  · refine ev_iload rfl ?_
                    refine ev_i2l ?_
                    refine ev_lconst ?_
                    refine ev_iload_n rfl ?_
                    refine ev_call (jcall_s (A := [(0, a1), (1, 1), (1, v45360)]) (S' := []) (by decide) rfl (Nat.le_of_ble_eq_true rfl)) (jOk_le (by decide) (s244 g1 (by omega) (by omega) (by omega) (by omega) (by omega) (by omega))) (by decide) (by decide) (fun w45474 h45474 q45474 => ?_)
                    obtain ⟨v45475, rfl, lv45475, uv45475, g45474, kk45474⟩ := q45474
                    have k45474 := k1.tr kk45474 (by decide)
                    show jEv _ _ _ _ _ _ _ (_, [(2, 42), (0, a1), (0, v45357), (0, v45358), (0, v45359), (0, v45360), (0, v45360), (0, v45359), j8, j9], [(1, v45475)], _, _, _)
                    refine g_l2iG (fun v45476 ev45476 lv45476 uv45476 => ?_)
                    exact ev_ret rfl (by decide) (by decide) ⟨_, rfl, by omega, by omega, g45474, k45474⟩
            · refine ev_iload_n rfl ?_
              refine ev_goto f335_10 ?_
              refine ev_ret rfl (by decide) (by decide) ?_
              show jEv _ _ _ _ _ _ _ (_, [(2, 42), (0, a1), (0, v45357), (0, v45358), (0, v45359), (0, v45360), j6, j7, j8, j9], [(0, v45357)], _, _, _)
              refine ev_istore (L' := [(2, 42), (0, a1), (0, v45357), (0, v45358), (0, v45359), (0, v45360), (0, v45357), j7, j8, j9]) (Nat.le_of_ble_eq_true rfl) rfl ?_
              refine ev_iload_n rfl ?_
              refine ev_iload rfl ?_
              refine ev_in (d := 1) (a := 0) (b := 0) (cd' := c335_0) (m := 2) (L0 := [(0, v45357), (0, v45359)]) (jcall_s (A := [(0, v45359), (0, v45357)]) (S' := []) (by decide) rfl (Nat.le_of_ble_eq_true rfl)) (by decide) ml335 pp335 (Nat.le_of_ble_eq_true rfl) rfl (by decide) (by decide) ?_
              refine ev_iload_n rfl ?_
              refine ev_iload_n rfl ?_
              refine ev_icmple f335_9 (fun c45477 => ?_) (fun c45477 => ?_)
              · refine ev_iload_n rfl ?_
                refine ev_ret rfl (by decide) (by decide) ?_
                show jEv _ _ _ _ _ _ _ (_, [(2, 42), (0, a1), (0, v45357), (0, v45358), (0, v45359), (0, v45360), (0, v45357), j7, j8, j9], [(0, v45359)], _, _, _)
                refine ev_iload_n rfl ?_
                refine ev_iload rfl ?_
                refine ev_in (d := 1) (a := 0) (b := 0) (cd' := c335_0) (m := 2) (L0 := [(0, v45358), (0, v45360)]) (jcall_s (A := [(0, v45360), (0, v45358)]) (S' := [(0, v45359)]) (by decide) rfl (Nat.le_of_ble_eq_true rfl)) (by decide) ml335 pp335 (Nat.le_of_ble_eq_true rfl) rfl (by decide) (by decide) ?_
                refine ev_iload_n rfl ?_
                refine ev_iload_n rfl ?_
                refine ev_icmple f335_9 (fun c45478 => absurd c45478 (by omega)) (fun c45478 => ?_)
                refine ev_iload_n rfl ?_
                refine ev_goto f335_10 ?_
                refine ev_ret rfl (by decide) (by decide) ?_
                show jEv _ _ _ _ _ _ _ (_, [(2, 42), (0, a1), (0, v45357), (0, v45358), (0, v45359), (0, v45360), (0, v45357), j7, j8, j9], [(0, v45358), (0, v45359)], _, _, _)
                refine ev_in (d := 1) (a := 0) (b := 0) (cd' := c334_0) (m := 2) (L0 := [(0, v45359), (0, v45358)]) (jcall_s (A := [(0, v45358), (0, v45359)]) (S' := []) (by decide) rfl (Nat.le_of_ble_eq_true rfl)) (by decide) ml334 pp334 (Nat.le_of_ble_eq_true rfl) rfl (by decide) (by decide) ?_
                refine ev_iload_n rfl ?_
                refine ev_iload_n rfl ?_
                refine ev_icmpge f334_9 (fun c45479 => ?_) (fun c45479 => ?_)
                · refine ev_iload_n rfl ?_
                  refine ev_ret rfl (by decide) (by decide) ?_
                  show jEv _ _ _ _ _ _ _ (_, [(2, 42), (0, a1), (0, v45357), (0, v45358), (0, v45359), (0, v45360), (0, v45357), j7, j8, j9], [(0, v45358)], _, _, _)
                  refine ev_istore (L' := [(2, 42), (0, a1), (0, v45357), (0, v45358), (0, v45359), (0, v45360), (0, v45357), (0, v45358), j8, j9]) (Nat.le_of_ble_eq_true rfl) rfl ?_
                  refine ev_iload rfl ?_
                  refine ev_iload rfl ?_
                  refine ev_icmpne f336_169 (fun c45480 => ?_) (fun c45480 => absurd c45480 (by omega))
                  refine ev_iload_n rfl ?_
                  refine ev_iload rfl ?_
                  refine ev_iadd (r := (v45357 + v45360)) (by unfold w32; omega) ?_
                  refine ev_iload_n rfl ?_
                  refine ev_isub (r := (v45357 + (-v45358) + v45360)) (by unfold w32; omega) ?_
                  refine ev_iload rfl ?_
                  refine ev_isub (r := (v45357 + (-v45358) + (-v45359) + v45360)) (by unfold w32; omega) ?_
                  refine ev_istore (L' := [(2, 42), (0, a1), (0, v45357), (0, v45358), (0, v45359), (0, v45360), (0, v45357), (0, v45358), (0, (v45357 + (-v45358) + (-v45359) + v45360)), j9]) (Nat.le_of_ble_eq_true rfl) rfl ?_
                  refine ev_iload_n rfl ?_
                  refine ev_iload rfl ?_
                  refine g_imulG (fun v45481 ev45481 lv45481 uv45481 => ?_)
                  refine ev_iload_n rfl ?_
                  refine ev_iload rfl ?_
                  refine g_imulG (fun v45482 ev45482 lv45482 uv45482 => ?_)
                  refine g_isubG (fun v45483 ev45483 lv45483 uv45483 => ?_)
                  refine ev_istore (L' := [(2, 42), (0, a1), (0, v45357), (0, v45358), (0, v45359), (0, v45360), (0, v45357), (0, v45358), (0, (v45357 + (-v45358) + (-v45359) + v45360)), (0, v45483)]) (Nat.le_of_ble_eq_true rfl) rfl ?_
                  refine ev_iload rfl ?_
                  refine ev_ifle f336_209 (fun c45484 => ?_) (fun c45484 => absurd c45484 (by omega))
                  refine ev_iload rfl ?_
                  refine g_inegG (fun v45485 ev45485 lv45485 uv45485 => ?_)
                  refine ev_i2l ?_
                  refine ev_iload rfl ?_
                  refine ev_ineg (r := ((-v45357) + v45358 + v45359 + (-v45360))) (by unfold w32; omega) ?_
                  refine ev_i2l ?_
                  refine ev_iload_n rfl ?_
                  refine ev_call (jcall_s (A := [(0, a1), (1, ((-v45357) + v45358 + v45359 + (-v45360))), (1, v45485)]) (S' := []) (by decide) rfl (Nat.le_of_ble_eq_true rfl)) (jOk_le (by decide) (s244 g1 (by omega) (by omega) (by omega) (by omega) (by omega) (by omega))) (by decide) (by decide) (fun w45486 h45486 q45486 => ?_)
                  obtain ⟨v45487, rfl, lv45487, uv45487, g45486, kk45486⟩ := q45486
                  have k45486 := k1.tr kk45486 (by decide)
                  show jEv _ _ _ _ _ _ _ (_, [(2, 42), (0, a1), (0, v45357), (0, v45358), (0, v45359), (0, v45360), (0, v45357), (0, v45358), (0, (v45357 + (-v45358) + (-v45359) + v45360)), (0, v45483)], [(1, v45487)], _, _, _)
                  refine g_l2iG (fun v45488 ev45488 lv45488 uv45488 => ?_)
                  exact ev_ret rfl (by decide) (by decide) ⟨_, rfl, by omega, by omega, g45486, k45486⟩
                · refine ev_iload_n rfl ?_
                  refine ev_goto f334_10 ?_
                  refine ev_ret rfl (by decide) (by decide) ?_
                  show jEv _ _ _ _ _ _ _ (_, [(2, 42), (0, a1), (0, v45357), (0, v45358), (0, v45359), (0, v45360), (0, v45357), j7, j8, j9], [(0, v45359)], _, _, _)
                  refine ev_istore (L' := [(2, 42), (0, a1), (0, v45357), (0, v45358), (0, v45359), (0, v45360), (0, v45357), (0, v45359), j8, j9]) (Nat.le_of_ble_eq_true rfl) rfl ?_
                  refine ev_iload rfl ?_
                  refine ev_iload rfl ?_
                  refine ev_icmpne f336_169 (fun c45489 => ?_) (fun c45489 => ?_)
                  · refine ev_iload_n rfl ?_
                    refine ev_iload rfl ?_
                    refine ev_iadd (r := (v45357 + v45360)) (by unfold w32; omega) ?_
                    refine ev_iload_n rfl ?_
                    refine ev_isub (r := (v45357 + (-v45358) + v45360)) (by unfold w32; omega) ?_
                    refine ev_iload rfl ?_
                    refine ev_isub (r := (v45357 + (-v45358) + (-v45359) + v45360)) (by unfold w32; omega) ?_
                    refine ev_istore (L' := [(2, 42), (0, a1), (0, v45357), (0, v45358), (0, v45359), (0, v45360), (0, v45357), (0, v45359), (0, (v45357 + (-v45358) + (-v45359) + v45360)), j9]) (Nat.le_of_ble_eq_true rfl) rfl ?_
                    refine ev_iload_n rfl ?_
                    refine ev_iload rfl ?_
                    refine g_imulG (fun v45490 ev45490 lv45490 uv45490 => ?_)
                    refine ev_iload_n rfl ?_
                    refine ev_iload rfl ?_
                    refine g_imulG (fun v45491 ev45491 lv45491 uv45491 => ?_)
                    refine g_isubG (fun v45492 ev45492 lv45492 uv45492 => ?_)
                    refine ev_istore (L' := [(2, 42), (0, a1), (0, v45357), (0, v45358), (0, v45359), (0, v45360), (0, v45357), (0, v45359), (0, (v45357 + (-v45358) + (-v45359) + v45360)), (0, v45492)]) (Nat.le_of_ble_eq_true rfl) rfl ?_
                    refine ev_iload rfl ?_
                    refine ev_ifle f336_209 (fun c45493 => ?_) (fun c45493 => absurd c45493 (by omega))
                    refine ev_iload rfl ?_
                    refine g_inegG (fun v45494 ev45494 lv45494 uv45494 => ?_)
                    refine ev_i2l ?_
                    refine ev_iload rfl ?_
                    refine ev_ineg (r := ((-v45357) + v45358 + v45359 + (-v45360))) (by unfold w32; omega) ?_
                    refine ev_i2l ?_
                    refine ev_iload_n rfl ?_
                    refine ev_call (jcall_s (A := [(0, a1), (1, ((-v45357) + v45358 + v45359 + (-v45360))), (1, v45494)]) (S' := []) (by decide) rfl (Nat.le_of_ble_eq_true rfl)) (jOk_le (by decide) (s244 g1 (by omega) (by omega) (by omega) (by omega) (by omega) (by omega))) (by decide) (by decide) (fun w45495 h45495 q45495 => ?_)
                    obtain ⟨v45496, rfl, lv45496, uv45496, g45495, kk45495⟩ := q45495
                    have k45495 := k1.tr kk45495 (by decide)
                    show jEv _ _ _ _ _ _ _ (_, [(2, 42), (0, a1), (0, v45357), (0, v45358), (0, v45359), (0, v45360), (0, v45357), (0, v45359), (0, (v45357 + (-v45358) + (-v45359) + v45360)), (0, v45492)], [(1, v45496)], _, _, _)
                    refine g_l2iG (fun v45497 ev45497 lv45497 uv45497 => ?_)
                    exact ev_ret rfl (by decide) (by decide) ⟨_, rfl, by omega, by omega, g45495, k45495⟩
                  · refine ev_iload rfl ?_
                    refine ev_i2l ?_
                    refine ev_lconst ?_
                    refine ev_iload_n rfl ?_
                    refine ev_call (jcall_s (A := [(0, a1), (1, 1), (1, v45357)]) (S' := []) (by decide) rfl (Nat.le_of_ble_eq_true rfl)) (jOk_le (by decide) (s244 g1 (by omega) (by omega) (by omega) (by omega) (by omega) (by omega))) (by decide) (by decide) (fun w45498 h45498 q45498 => ?_)
                    obtain ⟨v45499, rfl, lv45499, uv45499, g45498, kk45498⟩ := q45498
                    have k45498 := k1.tr kk45498 (by decide)
                    show jEv _ _ _ _ _ _ _ (_, [(2, 42), (0, a1), (0, v45357), (0, v45358), (0, v45359), (0, v45360), (0, v45357), (0, v45359), j8, j9], [(1, v45499)], _, _, _)
                    refine g_l2iG (fun v45500 ev45500 lv45500 uv45500 => ?_)
                    exact ev_ret rfl (by decide) (by decide) ⟨_, rfl, by omega, by omega, g45498, k45498⟩
              · refine ev_iload_n rfl ?_
                refine ev_goto f335_10 ?_
                refine ev_ret rfl (by decide) (by decide) ?_
                show jEv _ _ _ _ _ _ _ (_, [(2, 42), (0, a1), (0, v45357), (0, v45358), (0, v45359), (0, v45360), (0, v45357), j7, j8, j9], [(0, v45357)], _, _, _)
                refine ev_iload_n rfl ?_
                refine ev_iload rfl ?_
                refine ev_in (d := 1) (a := 0) (b := 0) (cd' := c335_0) (m := 2) (L0 := [(0, v45358), (0, v45360)]) (jcall_s (A := [(0, v45360), (0, v45358)]) (S' := [(0, v45357)]) (by decide) rfl (Nat.le_of_ble_eq_true rfl)) (by decide) ml335 pp335 (Nat.le_of_ble_eq_true rfl) rfl (by decide) (by decide) ?_
                refine ev_iload_n rfl ?_
                refine ev_iload_n rfl ?_
                refine ev_icmple f335_9 (fun c45501 => absurd c45501 (by omega)) (fun c45501 => ?_)
                refine ev_iload_n rfl ?_
                refine ev_goto f335_10 ?_
                refine ev_ret rfl (by decide) (by decide) ?_
                show jEv _ _ _ _ _ _ _ (_, [(2, 42), (0, a1), (0, v45357), (0, v45358), (0, v45359), (0, v45360), (0, v45357), j7, j8, j9], [(0, v45358), (0, v45357)], _, _, _)
                refine ev_in (d := 1) (a := 0) (b := 0) (cd' := c334_0) (m := 2) (L0 := [(0, v45357), (0, v45358)]) (jcall_s (A := [(0, v45358), (0, v45357)]) (S' := []) (by decide) rfl (Nat.le_of_ble_eq_true rfl)) (by decide) ml334 pp334 (Nat.le_of_ble_eq_true rfl) rfl (by decide) (by decide) ?_
                refine ev_iload_n rfl ?_
                refine ev_iload_n rfl ?_
                refine ev_icmpge f334_9 (fun c45502 => absurd c45502 (by omega)) (fun c45502 => ?_)
                refine ev_iload_n rfl ?_
                refine ev_goto f334_10 ?_
                refine ev_ret rfl (by decide) (by decide) ?_
                show jEv _ _ _ _ _ _ _ (_, [(2, 42), (0, a1), (0, v45357), (0, v45358), (0, v45359), (0, v45360), (0, v45357), j7, j8, j9], [(0, v45357)], _, _, _)
                refine ev_istore (L' := [(2, 42), (0, a1), (0, v45357), (0, v45358), (0, v45359), (0, v45360), (0, v45357), (0, v45357), j8, j9]) (Nat.le_of_ble_eq_true rfl) rfl ?_
                refine ev_iload rfl ?_
                refine ev_iload rfl ?_
                refine ev_icmpne f336_169 (fun c45503 => absurd c45503 (by omega)) (fun c45503 => ?_)
                refine ev_iload rfl ?_
                refine ev_i2l ?_
                refine ev_lconst ?_
                refine ev_iload_n rfl ?_
                refine ev_call (jcall_s (A := [(0, a1), (1, 1), (1, v45357)]) (S' := []) (by decide) rfl (Nat.le_of_ble_eq_true rfl)) (jOk_le (by decide) (s244 g1 (by omega) (by omega) (by omega) (by omega) (by omega) (by omega))) (by decide) (by decide) (fun w45504 h45504 q45504 => ?_)
                obtain ⟨v45505, rfl, lv45505, uv45505, g45504, kk45504⟩ := q45504
                have k45504 := k1.tr kk45504 (by decide)
                show jEv _ _ _ _ _ _ _ (_, [(2, 42), (0, a1), (0, v45357), (0, v45358), (0, v45359), (0, v45360), (0, v45357), (0, v45357), j8, j9], [(1, v45505)], _, _, _)
                refine g_l2iG (fun v45506 ev45506 lv45506 uv45506 => ?_)
                exact ev_ret rfl (by decide) (by decide) ⟨_, rfl, by omega, by omega, g45504, k45504⟩
          · refine ev_iload_n rfl ?_
            refine ev_goto f334_10 ?_
            refine ev_ret rfl (by decide) (by decide) ?_
            show jEv _ _ _ _ _ _ _ (_, [(2, 42), (0, a1), (0, v45357), (0, v45358), (0, v45359), (0, v45360), j6, j7, j8, j9], [(0, v45359), (0, v45357)], _, _, _)
            refine ev_in (d := 1) (a := 0) (b := 0) (cd' := c335_0) (m := 2) (L0 := [(0, v45357), (0, v45359)]) (jcall_s (A := [(0, v45359), (0, v45357)]) (S' := []) (by decide) rfl (Nat.le_of_ble_eq_true rfl)) (by decide) ml335 pp335 (Nat.le_of_ble_eq_true rfl) rfl (by decide) (by decide) ?_
            refine ev_iload_n rfl ?_
            refine ev_iload_n rfl ?_
            refine ev_icmple f335_9 (fun c45507 => ?_) (fun c45507 => ?_)
            · refine ev_iload_n rfl ?_
              refine ev_ret rfl (by decide) (by decide) ?_
              show jEv _ _ _ _ _ _ _ (_, [(2, 42), (0, a1), (0, v45357), (0, v45358), (0, v45359), (0, v45360), j6, j7, j8, j9], [(0, v45359)], _, _, _)
              refine ev_istore (L' := [(2, 42), (0, a1), (0, v45357), (0, v45358), (0, v45359), (0, v45360), (0, v45359), j7, j8, j9]) (Nat.le_of_ble_eq_true rfl) rfl ?_
              refine ev_iload_n rfl ?_
              refine ev_iload rfl ?_
              refine ev_in (d := 1) (a := 0) (b := 0) (cd' := c335_0) (m := 2) (L0 := [(0, v45357), (0, v45359)]) (jcall_s (A := [(0, v45359), (0, v45357)]) (S' := []) (by decide) rfl (Nat.le_of_ble_eq_true rfl)) (by decide) ml335 pp335 (Nat.le_of_ble_eq_true rfl) rfl (by decide) (by decide) ?_
              refine ev_iload_n rfl ?_
              refine ev_iload_n rfl ?_
              refine ev_icmple f335_9 (fun c45508 => ?_) (fun c45508 => absurd c45508 (by omega))
              refine ev_iload_n rfl ?_
              refine ev_ret rfl (by decide) (by decide) ?_
              show jEv _ _ _ _ _ _ _ (_, [(2, 42), (0, a1), (0, v45357), (0, v45358), (0, v45359), (0, v45360), (0, v45359), j7, j8, j9], [(0, v45359)], _, _, _)
              refine ev_iload_n rfl ?_
              refine ev_iload rfl ?_
              refine ev_in (d := 1) (a := 0) (b := 0) (cd' := c335_0) (m := 2) (L0 := [(0, v45358), (0, v45360)]) (jcall_s (A := [(0, v45360), (0, v45358)]) (S' := [(0, v45359)]) (by decide) rfl (Nat.le_of_ble_eq_true rfl)) (by decide) ml335 pp335 (Nat.le_of_ble_eq_true rfl) rfl (by decide) (by decide) ?_
              refine ev_iload_n rfl ?_
              refine ev_iload_n rfl ?_
              refine ev_icmple f335_9 (fun c45509 => ?_) (fun c45509 => ?_)
              · refine ev_iload_n rfl ?_
                refine ev_ret rfl (by decide) (by decide) ?_
                show jEv _ _ _ _ _ _ _ (_, [(2, 42), (0, a1), (0, v45357), (0, v45358), (0, v45359), (0, v45360), (0, v45359), j7, j8, j9], [(0, v45360), (0, v45359)], _, _, _)
                refine ev_in (d := 1) (a := 0) (b := 0) (cd' := c334_0) (m := 2) (L0 := [(0, v45359), (0, v45360)]) (jcall_s (A := [(0, v45360), (0, v45359)]) (S' := []) (by decide) rfl (Nat.le_of_ble_eq_true rfl)) (by decide) ml334 pp334 (Nat.le_of_ble_eq_true rfl) rfl (by decide) (by decide) ?_
                refine ev_iload_n rfl ?_
                refine ev_iload_n rfl ?_
                refine ev_icmpge f334_9 (fun c45510 => absurd c45510 (by omega)) (fun c45510 => ?_)
                refine ev_iload_n rfl ?_
                refine ev_goto f334_10 ?_
                refine ev_ret rfl (by decide) (by decide) ?_
                show jEv _ _ _ _ _ _ _ (_, [(2, 42), (0, a1), (0, v45357), (0, v45358), (0, v45359), (0, v45360), (0, v45359), j7, j8, j9], [(0, v45359)], _, _, _)
                refine ev_istore (L' := [(2, 42), (0, a1), (0, v45357), (0, v45358), (0, v45359), (0, v45360), (0, v45359), (0, v45359), j8, j9]) (Nat.le_of_ble_eq_true rfl) rfl ?_
                refine ev_iload rfl ?_
                refine ev_iload rfl ?_
                refine ev_icmpne f336_169 (fun c45511 => absurd c45511 (by omega)) (fun c45511 => ?_)
                refine ev_iload rfl ?_
                refine ev_i2l ?_
                refine ev_lconst ?_
                refine ev_iload_n rfl ?_
                refine ev_call (jcall_s (A := [(0, a1), (1, 1), (1, v45359)]) (S' := []) (by decide) rfl (Nat.le_of_ble_eq_true rfl)) (jOk_le (by decide) (s244 g1 (by omega) (by omega) (by omega) (by omega) (by omega) (by omega))) (by decide) (by decide) (fun w45512 h45512 q45512 => ?_)
                obtain ⟨v45513, rfl, lv45513, uv45513, g45512, kk45512⟩ := q45512
                have k45512 := k1.tr kk45512 (by decide)
                show jEv _ _ _ _ _ _ _ (_, [(2, 42), (0, a1), (0, v45357), (0, v45358), (0, v45359), (0, v45360), (0, v45359), (0, v45359), j8, j9], [(1, v45513)], _, _, _)
                refine g_l2iG (fun v45514 ev45514 lv45514 uv45514 => ?_)
                exact ev_ret rfl (by decide) (by decide) ⟨_, rfl, by omega, by omega, g45512, k45512⟩
              · refine ev_iload_n rfl ?_
                refine ev_goto f335_10 ?_
                refine ev_ret rfl (by decide) (by decide) ?_
                show jEv _ _ _ _ _ _ _ (_, [(2, 42), (0, a1), (0, v45357), (0, v45358), (0, v45359), (0, v45360), (0, v45359), j7, j8, j9], [(0, v45358), (0, v45359)], _, _, _)
                refine ev_in (d := 1) (a := 0) (b := 0) (cd' := c334_0) (m := 2) (L0 := [(0, v45359), (0, v45358)]) (jcall_s (A := [(0, v45358), (0, v45359)]) (S' := []) (by decide) rfl (Nat.le_of_ble_eq_true rfl)) (by decide) ml334 pp334 (Nat.le_of_ble_eq_true rfl) rfl (by decide) (by decide) ?_
                refine ev_iload_n rfl ?_
                refine ev_iload_n rfl ?_
                refine ev_icmpge f334_9 (fun c45515 => absurd c45515 (by omega)) (fun c45515 => ?_)
                refine ev_iload_n rfl ?_
                refine ev_goto f334_10 ?_
                refine ev_ret rfl (by decide) (by decide) ?_
                show jEv _ _ _ _ _ _ _ (_, [(2, 42), (0, a1), (0, v45357), (0, v45358), (0, v45359), (0, v45360), (0, v45359), j7, j8, j9], [(0, v45359)], _, _, _)
                refine ev_istore (L' := [(2, 42), (0, a1), (0, v45357), (0, v45358), (0, v45359), (0, v45360), (0, v45359), (0, v45359), j8, j9]) (Nat.le_of_ble_eq_true rfl) rfl ?_
                refine ev_iload rfl ?_
                refine ev_iload rfl ?_
                refine ev_icmpne f336_169 (fun c45516 => absurd c45516 (by omega)) (fun c45516 => ?_)
                refine ev_iload rfl ?_
                refine ev_i2l ?_
                refine ev_lconst ?_
                refine ev_iload_n rfl ?_
                refine ev_call (jcall_s (A := [(0, a1), (1, 1), (1, v45359)]) (S' := []) (by decide) rfl (Nat.le_of_ble_eq_true rfl)) (jOk_le (by decide) (s244 g1 (by omega) (by omega) (by omega) (by omega) (by omega) (by omega))) (by decide) (by decide) (fun w45517 h45517 q45517 => ?_)
                obtain ⟨v45518, rfl, lv45518, uv45518, g45517, kk45517⟩ := q45517
                have k45517 := k1.tr kk45517 (by decide)
                show jEv _ _ _ _ _ _ _ (_, [(2, 42), (0, a1), (0, v45357), (0, v45358), (0, v45359), (0, v45360), (0, v45359), (0, v45359), j8, j9], [(1, v45518)], _, _, _)
                refine g_l2iG (fun v45519 ev45519 lv45519 uv45519 => ?_)
                exact ev_ret rfl (by decide) (by decide) ⟨_, rfl, by omega, by omega, g45517, k45517⟩
            · refine ev_iload_n rfl ?_
              refine ev_goto f335_10 ?_
              refine ev_ret rfl (by decide) (by decide) ?_
              show jEv _ _ _ _ _ _ _ (_, [(2, 42), (0, a1), (0, v45357), (0, v45358), (0, v45359), (0, v45360), j6, j7, j8, j9], [(0, v45357)], _, _, _)
              refine ev_istore (L' := [(2, 42), (0, a1), (0, v45357), (0, v45358), (0, v45359), (0, v45360), (0, v45357), j7, j8, j9]) (Nat.le_of_ble_eq_true rfl) rfl ?_
              refine ev_iload_n rfl ?_
              refine ev_iload rfl ?_
              refine ev_in (d := 1) (a := 0) (b := 0) (cd' := c335_0) (m := 2) (L0 := [(0, v45357), (0, v45359)]) (jcall_s (A := [(0, v45359), (0, v45357)]) (S' := []) (by decide) rfl (Nat.le_of_ble_eq_true rfl)) (by decide) ml335 pp335 (Nat.le_of_ble_eq_true rfl) rfl (by decide) (by decide) ?_
              refine ev_iload_n rfl ?_
              refine ev_iload_n rfl ?_
              refine ev_icmple f335_9 (fun c45520 => absurd c45520 (by omega)) (fun c45520 => ?_)
              refine ev_iload_n rfl ?_
              refine ev_goto f335_10 ?_
              refine ev_ret rfl (by decide) (by decide) ?_
              show jEv _ _ _ _ _ _ _ (_, [(2, 42), (0, a1), (0, v45357), (0, v45358), (0, v45359), (0, v45360), (0, v45357), j7, j8, j9], [(0, v45357)], _, _, _)
              refine ev_iload_n rfl ?_
              refine ev_iload rfl ?_
              refine ev_in (d := 1) (a := 0) (b := 0) (cd' := c335_0) (m := 2) (L0 := [(0, v45358), (0, v45360)]) (jcall_s (A := [(0, v45360), (0, v45358)]) (S' := [(0, v45357)]) (by decide) rfl (Nat.le_of_ble_eq_true rfl)) (by decide) ml335 pp335 (Nat.le_of_ble_eq_true rfl) rfl (by decide) (by decide) ?_
              refine ev_iload_n rfl ?_
              refine ev_iload_n rfl ?_
              refine ev_icmple f335_9 (fun c45521 => ?_) (fun c45521 => ?_)
              · refine ev_iload_n rfl ?_
                refine ev_ret rfl (by decide) (by decide) ?_
                show jEv _ _ _ _ _ _ _ (_, [(2, 42), (0, a1), (0, v45357), (0, v45358), (0, v45359), (0, v45360), (0, v45357), j7, j8, j9], [(0, v45360), (0, v45357)], _, _, _)
                refine ev_in (d := 1) (a := 0) (b := 0) (cd' := c334_0) (m := 2) (L0 := [(0, v45357), (0, v45360)]) (jcall_s (A := [(0, v45360), (0, v45357)]) (S' := []) (by decide) rfl (Nat.le_of_ble_eq_true rfl)) (by decide) ml334 pp334 (Nat.le_of_ble_eq_true rfl) rfl (by decide) (by decide) ?_
                refine ev_iload_n rfl ?_
                refine ev_iload_n rfl ?_
                refine ev_icmpge f334_9 (fun c45522 => absurd c45522 (by omega)) (fun c45522 => ?_)
                refine ev_iload_n rfl ?_
                refine ev_goto f334_10 ?_
                refine ev_ret rfl (by decide) (by decide) ?_
                show jEv _ _ _ _ _ _ _ (_, [(2, 42), (0, a1), (0, v45357), (0, v45358), (0, v45359), (0, v45360), (0, v45357), j7, j8, j9], [(0, v45357)], _, _, _)
                refine ev_istore (L' := [(2, 42), (0, a1), (0, v45357), (0, v45358), (0, v45359), (0, v45360), (0, v45357), (0, v45357), j8, j9]) (Nat.le_of_ble_eq_true rfl) rfl ?_
                refine ev_iload rfl ?_
                refine ev_iload rfl ?_
                refine ev_icmpne f336_169 (fun c45523 => absurd c45523 (by omega)) (fun c45523 => ?_)
                refine ev_iload rfl ?_
                refine ev_i2l ?_
                refine ev_lconst ?_
                refine ev_iload_n rfl ?_
                refine ev_call (jcall_s (A := [(0, a1), (1, 1), (1, v45357)]) (S' := []) (by decide) rfl (Nat.le_of_ble_eq_true rfl)) (jOk_le (by decide) (s244 g1 (by omega) (by omega) (by omega) (by omega) (by omega) (by omega))) (by decide) (by decide) (fun w45524 h45524 q45524 => ?_)
                obtain ⟨v45525, rfl, lv45525, uv45525, g45524, kk45524⟩ := q45524
                have k45524 := k1.tr kk45524 (by decide)
                show jEv _ _ _ _ _ _ _ (_, [(2, 42), (0, a1), (0, v45357), (0, v45358), (0, v45359), (0, v45360), (0, v45357), (0, v45357), j8, j9], [(1, v45525)], _, _, _)
                refine g_l2iG (fun v45526 ev45526 lv45526 uv45526 => ?_)
                exact ev_ret rfl (by decide) (by decide) ⟨_, rfl, by omega, by omega, g45524, k45524⟩
              · refine ev_iload_n rfl ?_
                refine ev_goto f335_10 ?_
                refine ev_ret rfl (by decide) (by decide) ?_
                show jEv _ _ _ _ _ _ _ (_, [(2, 42), (0, a1), (0, v45357), (0, v45358), (0, v45359), (0, v45360), (0, v45357), j7, j8, j9], [(0, v45358), (0, v45357)], _, _, _)
                refine ev_in (d := 1) (a := 0) (b := 0) (cd' := c334_0) (m := 2) (L0 := [(0, v45357), (0, v45358)]) (jcall_s (A := [(0, v45358), (0, v45357)]) (S' := []) (by decide) rfl (Nat.le_of_ble_eq_true rfl)) (by decide) ml334 pp334 (Nat.le_of_ble_eq_true rfl) rfl (by decide) (by decide) ?_
                refine ev_iload_n rfl ?_
                refine ev_iload_n rfl ?_
                refine ev_icmpge f334_9 (fun c45527 => absurd c45527 (by omega)) (fun c45527 => ?_)
                refine ev_iload_n rfl ?_
                refine ev_goto f334_10 ?_
                refine ev_ret rfl (by decide) (by decide) ?_
                show jEv _ _ _ _ _ _ _ (_, [(2, 42), (0, a1), (0, v45357), (0, v45358), (0, v45359), (0, v45360), (0, v45357), j7, j8, j9], [(0, v45357)], _, _, _)
                refine ev_istore (L' := [(2, 42), (0, a1), (0, v45357), (0, v45358), (0, v45359), (0, v45360), (0, v45357), (0, v45357), j8, j9]) (Nat.le_of_ble_eq_true rfl) rfl ?_
                refine ev_iload rfl ?_
                refine ev_iload rfl ?_
                refine ev_icmpne f336_169 (fun c45528 => absurd c45528 (by omega)) (fun c45528 => ?_)
                refine ev_iload rfl ?_
                refine ev_i2l ?_
                refine ev_lconst ?_
                refine ev_iload_n rfl ?_
                refine ev_call (jcall_s (A := [(0, a1), (1, 1), (1, v45357)]) (S' := []) (by decide) rfl (Nat.le_of_ble_eq_true rfl)) (jOk_le (by decide) (s244 g1 (by omega) (by omega) (by omega) (by omega) (by omega) (by omega))) (by decide) (by decide) (fun w45529 h45529 q45529 => ?_)
                obtain ⟨v45530, rfl, lv45530, uv45530, g45529, kk45529⟩ := q45529
                have k45529 := k1.tr kk45529 (by decide)
                show jEv _ _ _ _ _ _ _ (_, [(2, 42), (0, a1), (0, v45357), (0, v45358), (0, v45359), (0, v45360), (0, v45357), (0, v45357), j8, j9], [(1, v45530)], _, _, _)
                refine g_l2iG (fun v45531 ev45531 lv45531 uv45531 => ?_)
                exact ev_ret rfl (by decide) (by decide) ⟨_, rfl, by omega, by omega, g45529, k45529⟩
      · refine ev_iconst ?_
        refine ev_istore_n (L' := [(2, 42), (0, a1), (0, x2), (0, 0), j4, j5, j6, j7, j8, j9]) (Nat.le_of_ble_eq_true rfl) rfl ?_
        exact ih.2 _ _ _ _ _ _ _ _ _ g1 k1 (by omega) (by omega) (by omega) (by omega) (by omega) (by omega) (by omega)
    · intro h1 x2 x3 j4 j5 j6 j7 j8 j9 g1 k1 b0 b1 b2 b3 b4 b5 hm
      refine ev_iload_n rfl ?_
      refine ev_iconst ?_
      refine ev_icmpge f336_82 (fun c45532 => ?_) (fun c45532 => ?_)
      · refine ev_iinc (w := (x2 + 1)) (L' := [(2, 42), (0, a1), (0, (x2 + 1)), (0, x3), j4, j5, j6, j7, j8, j9]) rfl (by unfold w32; omega) rfl ?_
        refine ev_goto f336_34 ?_
        exact ih.1 _ _ _ _ _ _ _ _ _ g1 k1 (by omega) (by omega) (by omega) (by omega) (by omega)
      · refine ev_aload_n rfl ?_
        refine g_getp (r := 42) (c := 67) g1 ad42 (by decide) (by decide) rf42_46 ft12_46 ?_
        refine ev_iconst ?_
        refine ev_iload_n rfl ?_
        refine ev_imul (r := (4 * x2)) (by unfold w32; omega) ?_
        refine ev_iload_n rfl ?_
        refine ev_iadd (r := (4 * x2 + x3)) (by unfold w32; omega) ?_
        refine g_iald g1 ad67 rt67 (by omega) (by omega) (fun v45533 ev45533 lv45533 uv45533 => ?_)
        refine ev_aload_n rfl ?_
        refine g_getp (r := 42) (c := 67) g1 ad42 (by decide) (by decide) rf42_46 ft12_46 ?_
        refine ev_bipush ?_
        refine ev_iconst ?_
        refine ev_iload_n rfl ?_
        refine ev_imul (r := (4 * x2)) (by unfold w32; omega) ?_
        refine ev_iadd (r := (4 * x2 + 16)) (by unfold w32; omega) ?_
        refine ev_iload_n rfl ?_
        refine ev_iadd (r := (4 * x2 + x3 + 16)) (by unfold w32; omega) ?_
        refine g_iald g1 ad67 rt67 (by omega) (by omega) (fun v45534 ev45534 lv45534 uv45534 => ?_)
        refine ev_ineg (r := ((-v45534))) (by unfold w32; omega) ?_
        refine ev_icmpeq f336_76 (fun c45535 => ?_) (fun c45535 => ?_)
        · refine ev_iinc (w := (x3 + 1)) (L' := [(2, 42), (0, a1), (0, x2), (0, (x3 + 1)), j4, j5, j6, j7, j8, j9]) rfl (by unfold w32; omega) rfl ?_
          refine ev_goto f336_41 ?_
          exact ih.2 _ _ _ _ _ _ _ _ _ g1 k1 (by omega) (by omega) (by omega) (by omega) (by omega) (by omega) (by omega)
        · refine ev_bipush ?_
          exact ev_ret rfl (by decide) (by decide) ⟨_, rfl, by omega, by omega, g1, k1⟩
set_option maxHeartbeats 4000000 in
theorem s336 {G : GH} {h : JH} (g : Gd G h) {a1 : Int} (la1 : (-2147483648) ≤ a1) (ua1 : a1 ≤ 2147483647) : jOk 3 0 0 336 [(2, 42), (0, a1)] h (PI G [] h 0 (-2147483648) 2147483647) := by
  refine ⟨by decide, by rw [ml336]; exact Nat.le_of_ble_eq_true rfl, ?_⟩
  rw [ml336, pp336]
  show jEv _ none _ c336_0 0 0 _ (c336_0, [(2, 42), (0, a1), (9, 0), (9, 0), (9, 0), (9, 0), (9, 0), (9, 0), (9, 0), (9, 0)], [], h, 0, 0)
  have k0 := Kp.rf [] h
  refine ev_iload_n rfl ?_
  refine ev_iconst ?_
  refine ev_iconst ?_
  refine ev_in (d := 1) (a := 0) (b := 0) (cd' := c242_0) (m := 3) (L0 := [(0, a1), (0, 0), (0, 1)]) (jcall_s (A := [(0, 1), (0, 0), (0, a1)]) (S' := []) (by decide) rfl (Nat.le_of_ble_eq_true rfl)) (by decide) ml242 pp242 (Nat.le_of_ble_eq_true rfl) rfl (by decide) (by decide) ?_
  refine ev_iload_n rfl ?_
  refine ev_iload_n rfl ?_
  refine ev_icmplt f242_14 (fun c45536 => ?_) (fun c45536 => ?_)
  · refine ev_iconst ?_
    refine ev_ret rfl (by decide) (by decide) ?_
    show jEv _ _ _ _ _ _ _ (_, [(2, 42), (0, a1), (9, 0), (9, 0), (9, 0), (9, 0), (9, 0), (9, 0), (9, 0), (9, 0)], [(0, 0)], _, _, _)
    refine ev_ifne f336_13 (fun c45537 => absurd c45537 (by omega)) (fun c45537 => ?_)
    refine ev_ldc_w ?_
    exact ev_ret rfl (by decide) (by decide) ⟨_, rfl, by omega, by omega, g, k0⟩
  · refine ev_iload_n rfl ?_
    refine ev_iload_n rfl ?_
    refine ev_icmpgt f242_14 (fun c45538 => ?_) (fun c45538 => ?_)
    · refine ev_iconst ?_
      refine ev_ret rfl (by decide) (by decide) ?_
      show jEv _ _ _ _ _ _ _ (_, [(2, 42), (0, a1), (9, 0), (9, 0), (9, 0), (9, 0), (9, 0), (9, 0), (9, 0), (9, 0)], [(0, 0)], _, _, _)
      refine ev_ifne f336_13 (fun c45539 => absurd c45539 (by omega)) (fun c45539 => ?_)
      refine ev_ldc_w ?_
      exact ev_ret rfl (by decide) (by decide) ⟨_, rfl, by omega, by omega, g, k0⟩
    · refine ev_iconst ?_
      refine ev_goto f242_15 ?_
      refine ev_ret rfl (by decide) (by decide) ?_
      show jEv _ _ _ _ _ _ _ (_, [(2, 42), (0, a1), (9, 0), (9, 0), (9, 0), (9, 0), (9, 0), (9, 0), (9, 0), (9, 0)], [(0, 1)], _, _, _)
      refine ev_ifne f336_13 (fun c45540 => ?_) (fun c45540 => absurd c45540 (by omega))
      refine ev_aload_n rfl ?_
      obtain ⟨v45541, ev45541, lv45541, uv45541⟩ := g.rd ad42 (show 44 < 66 by decide) rf42_44
      refine g_getv (r := 42) (v := v45541) g ad42 (by decide) ft12_44 ev45541 ?_
      refine ev_iconst ?_
      refine ev_icmpne f336_29 (fun c45542 => ?_) (fun c45542 => ?_)
      · refine ev_bipush ?_
        exact ev_ret rfl (by decide) (by decide) ⟨_, rfl, by omega, by omega, g, k0⟩
      · refine ev_aload_n rfl ?_
        obtain ⟨v45543, ev45543, lv45543, uv45543⟩ := g.rd ad42 (show 45 < 66 by decide) rf42_45
        refine g_getv (r := 42) (v := v45543) g ad42 (by decide) ft12_45 ev45543 ?_
        refine ev_iconst ?_
        refine ev_icmpeq f336_32 (fun c45544 => ?_) (fun c45544 => ?_)
        · refine ev_iconst ?_
          refine ev_istore_n (L' := [(2, 42), (0, a1), (0, 0), (9, 0), (9, 0), (9, 0), (9, 0), (9, 0), (9, 0), (9, 0)]) (Nat.le_of_ble_eq_true rfl) rfl ?_
          exact (s336_l la1 ua1 36).1 _ _ _ _ _ _ _ _ _ g k0 (by omega) (by omega) (by omega) (by omega) (by omega)
        · refine ev_bipush ?_
          exact ev_ret rfl (by decide) (by decide) ⟨_, rfl, by omega, by omega, g, k0⟩
/-! 330 table -/
set_option maxHeartbeats 4000000 in
theorem s330_l {G : GH} {h : JH} {a1 : Int} (la1 : (-2147483648) ≤ a1) (ua1 : a1 ≤ 2147483647) {a2 : Int} (la2 : (-2147483648) ≤ a2) (ua2 : a2 ≤ 2147483647) : ∀ N : Nat, (∀ (h1 : JH) (x3 : Int), Gd G h1 → Kp [(42, 45), (42, 46), (67, 0)] h h1 → 1 ≤ a1 → a1 ≤ 4 → 1 ≤ a2 → a2 ≤ 4 → 0 ≤ x3 → x3 ≤ 32 → ((-x3) + 32) < N → jEv (jOk 1) none (fun _ => 0) c330_0 0 0 (PI G [(42, 45), (42, 46), (67, 0)] h 0 (-1) 16) (c330_32, [(2, 42), (0, a1), (0, a2), (0, x3)], [], h1, 0, 0)) := by
  intro N
  induction N with
  | zero => exact fun h1 x3 g1 k1 b0 b1 b2 b3 b4 b5 hm => absurd hm (by omega)
  | succ N ih =>
    show _
    intro h1 x3 g1 k1 b0 b1 b2 b3 b4 b5 hm
    refine ev_iload_n rfl ?_
    refine ev_bipush ?_
    refine ev_icmpge f330_51 (fun c45617 => ?_) (fun c45617 => ?_)
    · refine ev_iload_n rfl ?_
      refine ev_iload_n rfl ?_
      refine g_imulB (a := 4) (b := 4) (a' := 1) (b' := 1) (by omega) (by omega) (by omega) (by omega) (by decide) (lo := 1) (hi := 16) (by decide) (by decide) (fun v45618 ev45618 lv45618 uv45618 => ?_)
      exact ev_ret rfl (by decide) (by decide) ⟨_, rfl, by omega, by omega, g1, k1⟩
    · refine ev_aload_n rfl ?_
      refine g_getp (r := 42) (c := 67) g1 ad42 (by decide) (by decide) rf42_46 ft12_46 ?_
      refine ev_iload_n rfl ?_
      refine ev_iconst ?_
      refine g_iast g1 ad67 rt67 (fun _ => rfl) (by omega) (by omega) (by omega) (by omega) (fun h45619 e45619 g45619 => ?_)
      have k45619 := k1.wr e45619 rfl
      refine ev_iinc (w := (x3 + 1)) (L' := [(2, 42), (0, a1), (0, a2), (0, (x3 + 1))]) rfl (by unfold w32; omega) rfl ?_
      refine ev_goto f330_32 ?_
      exact ih _ _ g45619 k45619 (by omega) (by omega) (by omega) (by omega) (by omega) (by omega) (by omega)
set_option maxHeartbeats 4000000 in
theorem s330 {G : GH} {h : JH} (g : Gd G h) {a1 : Int} (la1 : (-2147483648) ≤ a1) (ua1 : a1 ≤ 2147483647) {a2 : Int} (la2 : (-2147483648) ≤ a2) (ua2 : a2 ≤ 2147483647) : jOk 2 0 0 330 [(2, 42), (0, a1), (0, a2)] h (PI G [(42, 45), (42, 46), (67, 0)] h 0 (-1) 16) := by
  refine ⟨by decide, by rw [ml330]; exact Nat.le_of_ble_eq_true rfl, ?_⟩
  rw [ml330, pp330]
  show jEv _ none _ c330_0 0 0 _ (c330_0, [(2, 42), (0, a1), (0, a2), (9, 0)], [], h, 0, 0)
  have k0 := Kp.rf [(42, 45), (42, 46), (67, 0)] h
  refine ev_iload_n rfl ?_
  refine ev_iconst ?_
  refine ev_iconst ?_
  refine ev_in (d := 0) (a := 0) (b := 0) (cd' := c242_0) (m := 3) (L0 := [(0, a1), (0, 1), (0, 4)]) (jcall_s (A := [(0, 4), (0, 1), (0, a1)]) (S' := []) (by decide) rfl (Nat.le_of_ble_eq_true rfl)) (by decide) ml242 pp242 (Nat.le_of_ble_eq_true rfl) rfl (by decide) (by decide) ?_
  refine ev_iload_n rfl ?_
  refine ev_iload_n rfl ?_
  refine ev_icmplt f242_14 (fun c45620 => ?_) (fun c45620 => ?_)
  · refine ev_iconst ?_
    refine ev_ret rfl (by decide) (by decide) ?_
    show jEv _ _ _ _ _ _ _ (_, [(2, 42), (0, a1), (0, a2), (9, 0)], [(0, 0)], _, _, _)
    refine ev_ifeq f330_18 (fun c45621 => ?_) (fun c45621 => absurd c45621 (by omega))
    refine ev_iconst ?_
    exact ev_ret rfl (by decide) (by decide) ⟨_, rfl, by omega, by omega, g, k0⟩
  · refine ev_iload_n rfl ?_
    refine ev_iload_n rfl ?_
    refine ev_icmpgt f242_14 (fun c45622 => ?_) (fun c45622 => ?_)
    · refine ev_iconst ?_
      refine ev_ret rfl (by decide) (by decide) ?_
      show jEv _ _ _ _ _ _ _ (_, [(2, 42), (0, a1), (0, a2), (9, 0)], [(0, 0)], _, _, _)
      refine ev_ifeq f330_18 (fun c45623 => ?_) (fun c45623 => absurd c45623 (by omega))
      refine ev_iconst ?_
      exact ev_ret rfl (by decide) (by decide) ⟨_, rfl, by omega, by omega, g, k0⟩
    · refine ev_iconst ?_
      refine ev_goto f242_15 ?_
      refine ev_ret rfl (by decide) (by decide) ?_
      show jEv _ _ _ _ _ _ _ (_, [(2, 42), (0, a1), (0, a2), (9, 0)], [(0, 1)], _, _, _)
      refine ev_ifeq f330_18 (fun c45624 => absurd c45624 (by omega)) (fun c45624 => ?_)
      refine ev_iload_n rfl ?_
      refine ev_iconst ?_
      refine ev_iconst ?_
      refine ev_in (d := 0) (a := 0) (b := 0) (cd' := c242_0) (m := 3) (L0 := [(0, a2), (0, 1), (0, 4)]) (jcall_s (A := [(0, 4), (0, 1), (0, a2)]) (S' := []) (by decide) rfl (Nat.le_of_ble_eq_true rfl)) (by decide) ml242 pp242 (Nat.le_of_ble_eq_true rfl) rfl (by decide) (by decide) ?_
      refine ev_iload_n rfl ?_
      refine ev_iload_n rfl ?_
      refine ev_icmplt f242_14 (fun c45625 => ?_) (fun c45625 => ?_)
      · refine ev_iconst ?_
        refine ev_ret rfl (by decide) (by decide) ?_
        show jEv _ _ _ _ _ _ _ (_, [(2, 42), (0, a1), (0, a2), (9, 0)], [(0, 0)], _, _, _)
        refine ev_ifne f330_20 (fun c45626 => absurd c45626 (by omega)) (fun c45626 => ?_)
        refine ev_iconst ?_
        exact ev_ret rfl (by decide) (by decide) ⟨_, rfl, by omega, by omega, g, k0⟩
      · refine ev_iload_n rfl ?_
        refine ev_iload_n rfl ?_
        refine ev_icmpgt f242_14 (fun c45627 => ?_) (fun c45627 => ?_)
        · refine ev_iconst ?_
          refine ev_ret rfl (by decide) (by decide) ?_
          show jEv _ _ _ _ _ _ _ (_, [(2, 42), (0, a1), (0, a2), (9, 0)], [(0, 0)], _, _, _)
          refine ev_ifne f330_20 (fun c45628 => absurd c45628 (by omega)) (fun c45628 => ?_)
          refine ev_iconst ?_
          exact ev_ret rfl (by decide) (by decide) ⟨_, rfl, by omega, by omega, g, k0⟩
        · refine ev_iconst ?_
          refine ev_goto f242_15 ?_
          refine ev_ret rfl (by decide) (by decide) ?_
          show jEv _ _ _ _ _ _ _ (_, [(2, 42), (0, a1), (0, a2), (9, 0)], [(0, 1)], _, _, _)
          refine ev_ifne f330_20 (fun c45629 => ?_) (fun c45629 => absurd c45629 (by omega))
          refine ev_aload_n rfl ?_
          refine ev_iload_n rfl ?_
          refine g_putf (r := 42) g ad42 (by decide) ft12_44 (by decide) (fun e => absurd e nz12_44) rf42_44 (by decide) (by omega) (by omega) (fun h45630 e45630 g45630 => ?_)
          have k45630 := k0.wr e45630 rfl
          refine ev_aload_n rfl ?_
          refine ev_iload_n rfl ?_
          refine g_putf (r := 42) g45630 ad42 (by decide) ft12_45 (by decide) (fun e => absurd e nz12_45) rf42_45 (by decide) (by omega) (by omega) (fun h45631 e45631 g45631 => ?_)
          have k45631 := k45630.wr e45631 rfl
          refine ev_iconst ?_
          refine ev_istore_n (L' := [(2, 42), (0, a1), (0, a2), (0, 0)]) (Nat.le_of_ble_eq_true rfl) rfl ?_
          exact (s330_l la1 ua1 la2 ua2 66) _ _ g45631 k45631 (by omega) (by omega) (by omega) (by omega) (by omega) (by omega) (by omega)
/-! 331 cell -/
set_option maxHeartbeats 4000000 in
theorem s331 {G : GH} {h : JH} (g : Gd G h) {a1 : Int} (la1 : (-2147483648) ≤ a1) (ua1 : a1 ≤ 2147483647) {a2 : Int} (la2 : (-2147483648) ≤ a2) (ua2 : a2 ≤ 2147483647) {a3 : Int} (la3 : (-2147483648) ≤ a3) (ua3 : a3 ≤ 2147483647) : jOk 2 0 0 331 [(2, 42), (0, a1), (0, a2), (0, a3)] h (PI G [(67, 0)] h 0 (-2000000000) 99) := by
  refine ⟨by decide, by rw [ml331]; exact Nat.le_of_ble_eq_true rfl, ?_⟩
  rw [ml331, pp331]
  show jEv _ none _ c331_0 0 0 _ (c331_0, [(2, 42), (0, a1), (0, a2), (0, a3), (9, 0), (9, 0)], [], h, 0, 0)
  have k0 := Kp.rf [(67, 0)] h
  refine ev_iload_n rfl ?_
  refine ev_iflt f331_46 (fun c45674 => ?_) (fun c45674 => ?_)
  · refine ev_ldc_w ?_
    exact ev_ret rfl (by decide) (by decide) ⟨_, rfl, by omega, by omega, g, k0⟩
  · refine ev_iload_n rfl ?_
    refine ev_bipush ?_
    refine g_idivP (c := 10) rfl (by decide) (by omega) (by omega) (fun v45675 ev45675 lv45675 uv45675 => ?_)
    refine ev_aload_n rfl ?_
    obtain ⟨v45676, ev45676, lv45676, uv45676⟩ := g.rd ad42 (show 44 < 66 by decide) rf42_44
    refine g_getv (r := 42) (v := v45676) g ad42 (by decide) ft12_44 ev45676 ?_
    refine ev_icmpge f331_46 (fun c45677 => ?_) (fun c45677 => ?_)
    · refine ev_ldc_w ?_
      exact ev_ret rfl (by decide) (by decide) ⟨_, rfl, by omega, by omega, g, k0⟩
    · refine ev_iload_n rfl ?_
      refine ev_bipush ?_
      refine g_iremP (c := 10) rfl (by decide) (by omega) (fun v45678 ev45678 lv45678 uv45678 wv45678 => ?_)
      refine ev_aload_n rfl ?_
      obtain ⟨v45679, ev45679, lv45679, uv45679⟩ := g.rd ad42 (show 45 < 66 by decide) rf42_45
      refine g_getv (r := 42) (v := v45679) g ad42 (by decide) ft12_45 ev45679 ?_
      refine ev_icmpge f331_46 (fun c45680 => ?_) (fun c45680 => ?_)
      · refine ev_ldc_w ?_
        exact ev_ret rfl (by decide) (by decide) ⟨_, rfl, by omega, by omega, g, k0⟩
      · refine ev_iload_n rfl ?_
        refine ev_iconst ?_
        refine ev_iconst ?_
        refine ev_in (d := 0) (a := 0) (b := 0) (cd' := c242_0) (m := 3) (L0 := [(0, a2), (0, 0), (0, 1)]) (jcall_s (A := [(0, 1), (0, 0), (0, a2)]) (S' := []) (by decide) rfl (Nat.le_of_ble_eq_true rfl)) (by decide) ml242 pp242 (Nat.le_of_ble_eq_true rfl) rfl (by decide) (by decide) ?_
        refine ev_iload_n rfl ?_
        refine ev_iload_n rfl ?_
        refine ev_icmplt f242_14 (fun c45681 => ?_) (fun c45681 => ?_)
        · refine ev_iconst ?_
          refine ev_ret rfl (by decide) (by decide) ?_
          show jEv _ _ _ _ _ _ _ (_, [(2, 42), (0, a1), (0, a2), (0, a3), (9, 0), (9, 0)], [(0, 0)], _, _, _)
          refine ev_ifeq f331_46 (fun c45682 => ?_) (fun c45682 => absurd c45682 (by omega))
          refine ev_ldc_w ?_
          exact ev_ret rfl (by decide) (by decide) ⟨_, rfl, by omega, by omega, g, k0⟩
        · refine ev_iload_n rfl ?_
          refine ev_iload_n rfl ?_
          refine ev_icmpgt f242_14 (fun c45683 => ?_) (fun c45683 => ?_)
          · refine ev_iconst ?_
            refine ev_ret rfl (by decide) (by decide) ?_
            show jEv _ _ _ _ _ _ _ (_, [(2, 42), (0, a1), (0, a2), (0, a3), (9, 0), (9, 0)], [(0, 0)], _, _, _)
            refine ev_ifeq f331_46 (fun c45684 => ?_) (fun c45684 => absurd c45684 (by omega))
            refine ev_ldc_w ?_
            exact ev_ret rfl (by decide) (by decide) ⟨_, rfl, by omega, by omega, g, k0⟩
          · refine ev_iconst ?_
            refine ev_goto f242_15 ?_
            refine ev_ret rfl (by decide) (by decide) ?_
            show jEv _ _ _ _ _ _ _ (_, [(2, 42), (0, a1), (0, a2), (0, a3), (9, 0), (9, 0)], [(0, 1)], _, _, _)
            refine ev_ifeq f331_46 (fun c45685 => absurd c45685 (by omega)) (fun c45685 => ?_)
            refine ev_iload_n rfl ?_
            refine ev_bipush ?_
            refine ev_bipush ?_
            refine ev_in (d := 0) (a := 0) (b := 0) (cd' := c242_0) (m := 3) (L0 := [(0, a3), (0, (-99)), (0, 99)]) (jcall_s (A := [(0, 99), (0, (-99)), (0, a3)]) (S' := []) (by decide) rfl (Nat.le_of_ble_eq_true rfl)) (by decide) ml242 pp242 (Nat.le_of_ble_eq_true rfl) rfl (by decide) (by decide) ?_
            refine ev_iload_n rfl ?_
            refine ev_iload_n rfl ?_
            refine ev_icmplt f242_14 (fun c45686 => ?_) (fun c45686 => ?_)
            · refine ev_iconst ?_
              refine ev_ret rfl (by decide) (by decide) ?_
              show jEv _ _ _ _ _ _ _ (_, [(2, 42), (0, a1), (0, a2), (0, a3), (9, 0), (9, 0)], [(0, 0)], _, _, _)
              refine ev_ifne f331_50 (fun c45687 => absurd c45687 (by omega)) (fun c45687 => ?_)
              refine ev_ldc_w ?_
              exact ev_ret rfl (by decide) (by decide) ⟨_, rfl, by omega, by omega, g, k0⟩
            · refine ev_iload_n rfl ?_
              refine ev_iload_n rfl ?_
              refine ev_icmpgt f242_14 (fun c45688 => ?_) (fun c45688 => ?_)
              · refine ev_iconst ?_
                refine ev_ret rfl (by decide) (by decide) ?_
                show jEv _ _ _ _ _ _ _ (_, [(2, 42), (0, a1), (0, a2), (0, a3), (9, 0), (9, 0)], [(0, 0)], _, _, _)
                refine ev_ifne f331_50 (fun c45689 => absurd c45689 (by omega)) (fun c45689 => ?_)
                refine ev_ldc_w ?_
                exact ev_ret rfl (by decide) (by decide) ⟨_, rfl, by omega, by omega, g, k0⟩
              · refine ev_iconst ?_
                refine ev_goto f242_15 ?_
                refine ev_ret rfl (by decide) (by decide) ?_
                show jEv _ _ _ _ _ _ _ (_, [(2, 42), (0, a1), (0, a2), (0, a3), (9, 0), (9, 0)], [(0, 1)], _, _, _)
                refine ev_ifne f331_50 (fun c45690 => ?_) (fun c45690 => absurd c45690 (by omega))
                refine ev_bipush ?_
                refine ev_iload_n rfl ?_
                refine ev_imul (r := (16 * a2)) (by unfold w32; omega) ?_
                refine ev_iconst ?_
                refine ev_iload_n rfl ?_
                refine ev_bipush ?_
                refine g_idivP (c := 10) rfl (by decide) (by omega) (by omega) (fun v45691 ev45691 lv45691 uv45691 => ?_)
                obtain rfl : v45675 = v45691 := by omega
                refine ev_imul (r := (4 * v45675)) (by unfold w32; omega) ?_
                refine ev_iadd (r := (16 * a2 + 4 * v45675)) (by unfold w32; omega) ?_
                refine ev_iload_n rfl ?_
                refine ev_bipush ?_
                refine g_iremP (c := 10) rfl (by decide) (by omega) (fun v45692 ev45692 lv45692 uv45692 wv45692 => ?_)
                obtain rfl : v45678 = v45692 := by omega
                refine ev_iadd (r := (16 * a2 + 4 * v45675 + v45678)) (by unfold w32; omega) ?_
                refine ev_istore (L' := [(2, 42), (0, a1), (0, a2), (0, a3), (0, (16 * a2 + 4 * v45675 + v45678)), (9, 0)]) (Nat.le_of_ble_eq_true rfl) rfl ?_
                refine ev_aload_n rfl ?_
                refine g_getp (r := 42) (c := 67) g ad42 (by decide) (by decide) rf42_46 ft12_46 ?_
                refine ev_iload rfl ?_
                refine g_iald g ad67 rt67 (by omega) (by omega) (fun v45693 ev45693 lv45693 uv45693 => ?_)
                refine ev_istore (L' := [(2, 42), (0, a1), (0, a2), (0, a3), (0, (16 * a2 + 4 * v45675 + v45678)), (0, v45693)]) (Nat.le_of_ble_eq_true rfl) rfl ?_
                refine ev_aload_n rfl ?_
                refine g_getp (r := 42) (c := 67) g ad42 (by decide) (by decide) rf42_46 ft12_46 ?_
                refine ev_iload rfl ?_
                refine ev_iload_n rfl ?_
                refine g_iast g ad67 rt67 (fun _ => rfl) (by omega) (by omega) (by omega) (by omega) (fun h45694 e45694 g45694 => ?_)
                have k45694 := k0.wr e45694 rfl
                refine ev_iload rfl ?_
                exact ev_ret rfl (by decide) (by decide) ⟨_, rfl, by omega, by omega, g45694, k45694⟩
/-! 332 isSure -/
set_option maxHeartbeats 4000000 in
theorem s332_l {G : GH} {h : JH} {a1 : Int} (la1 : 0 ≤ a1) (ua1 : a1 ≤ 3) {a2 : Int} (la2 : 0 ≤ a2) (ua2 : a2 ≤ 3) : ∀ N : Nat, (∀ (h1 : JH) (x3 : Int), Gd G h1 → Kp [] h h1 → 0 ≤ a1 → a1 ≤ 3 → 0 ≤ a2 → a2 ≤ 3 → 0 ≤ x3 → x3 ≤ 4 → ((-x3) + 9) < N → jEv (jOk 0) none (fun _ => 0) c332_0 0 0 (PI G [] h 0 0 1) (c332_2, [(2, 42), (0, a1), (0, a2), (0, x3)], [], h1, 0, 0)) ∧ (∀ (h1 : JH) (x3 : Int), Gd G h1 → Kp [] h h1 → 0 ≤ a1 → a1 ≤ 3 → 0 ≤ a2 → a2 ≤ 3 → 0 ≤ x3 → x3 ≤ 4 → ((-x3) + 4) < N → jEv (jOk 0) none (fun _ => 0) c332_0 0 0 (PI G [] h 0 0 1) (c332_43, [(2, 42), (0, a1), (0, a2), (0, x3)], [], h1, 0, 0)) := by
  intro N
  induction N with
  | zero => exact ⟨fun h1 x3 g1 k1 b0 b1 b2 b3 b4 b5 hm => absurd hm (by omega), fun h1 x3 g1 k1 b0 b1 b2 b3 b4 b5 hm => absurd hm (by omega)⟩
  | succ N ih =>
    refine ⟨?_, ?_⟩
    · intro h1 x3 g1 k1 b0 b1 b2 b3 b4 b5 hm
      refine ev_iload_n rfl ?_
      refine ev_aload_n rfl ?_
      obtain ⟨v45755, ev45755, lv45755, uv45755⟩ := g1.rd ad42 (show 44 < 66 by decide) rf42_44
      refine g_getv (r := 42) (v := v45755) g1 ad42 (by decide) ft12_44 ev45755 ?_
      refine ev_icmpge f332_41 (fun c45756 => ?_) (fun c45756 => ?_)
      · refine ev_iconst ?_
        refine ev_istore_n (L' := [(2, 42), (0, a1), (0, a2), (0, 0)]) (Nat.le_of_ble_eq_true rfl) rfl ?_
        exact ih.2 _ _ g1 k1 (by omega) (by omega) (by omega) (by omega) (by omega) (by omega) (by omega)
      · refine ev_aload_n rfl ?_
        refine g_getp (r := 42) (c := 67) g1 ad42 (by decide) (by decide) rf42_46 ft12_46 ?_
        refine ev_iconst ?_
        refine ev_iload_n rfl ?_
        refine ev_imul (r := (4 * x3)) (by unfold w32; omega) ?_
        refine ev_iload_n rfl ?_
        refine ev_iadd (r := (a2 + 4 * x3)) (by unfold w32; omega) ?_
        refine g_iald g1 ad67 rt67 (by omega) (by omega) (fun v45757 ev45757 lv45757 uv45757 => ?_)
        refine ev_aload_n rfl ?_
        refine g_getp (r := 42) (c := 67) g1 ad42 (by decide) (by decide) rf42_46 ft12_46 ?_
        refine ev_iconst ?_
        refine ev_iload_n rfl ?_
        refine ev_imul (r := (4 * a1)) (by unfold w32; omega) ?_
        refine ev_iload_n rfl ?_
        refine ev_iadd (r := (4 * a1 + a2)) (by unfold w32; omega) ?_
        refine g_iald g1 ad67 rt67 (by omega) (by omega) (fun v45758 ev45758 lv45758 uv45758 => ?_)
        refine ev_icmple f332_35 (fun c45759 => ?_) (fun c45759 => ?_)
        · refine ev_iinc (w := (x3 + 1)) (L' := [(2, 42), (0, a1), (0, a2), (0, (x3 + 1))]) rfl (by unfold w32; omega) rfl ?_
          refine ev_goto f332_2 ?_
          exact ih.1 _ _ g1 k1 (by omega) (by omega) (by omega) (by omega) (by omega) (by omega) (by omega)
        · refine ev_iconst ?_
          exact ev_ret rfl (by decide) (by decide) ⟨_, rfl, by omega, by omega, g1, k1⟩
    · intro h1 x3 g1 k1 b0 b1 b2 b3 b4 b5 hm
      refine ev_iload_n rfl ?_
      refine ev_aload_n rfl ?_
      obtain ⟨v45760, ev45760, lv45760, uv45760⟩ := g1.rd ad42 (show 45 < 66 by decide) rf42_45
      refine g_getv (r := 42) (v := v45760) g1 ad42 (by decide) ft12_45 ev45760 ?_
      refine ev_icmpge f332_88 (fun c45761 => ?_) (fun c45761 => ?_)
      · refine ev_iconst ?_
        exact ev_ret rfl (by decide) (by decide) ⟨_, rfl, by omega, by omega, g1, k1⟩
      · refine ev_aload_n rfl ?_
        refine g_getp (r := 42) (c := 67) g1 ad42 (by decide) (by decide) rf42_46 ft12_46 ?_
        refine ev_bipush ?_
        refine ev_iconst ?_
        refine ev_iload_n rfl ?_
        refine ev_imul (r := (4 * a1)) (by unfold w32; omega) ?_
        refine ev_iadd (r := (4 * a1 + 16)) (by unfold w32; omega) ?_
        refine ev_iload_n rfl ?_
        refine ev_iadd (r := (4 * a1 + x3 + 16)) (by unfold w32; omega) ?_
        refine g_iald g1 ad67 rt67 (by omega) (by omega) (fun v45762 ev45762 lv45762 uv45762 => ?_)
        refine ev_aload_n rfl ?_
        refine g_getp (r := 42) (c := 67) g1 ad42 (by decide) (by decide) rf42_46 ft12_46 ?_
        refine ev_bipush ?_
        refine ev_iconst ?_
        refine ev_iload_n rfl ?_
        refine ev_imul (r := (4 * a1)) (by unfold w32; omega) ?_
        refine ev_iadd (r := (4 * a1 + 16)) (by unfold w32; omega) ?_
        refine ev_iload_n rfl ?_
        refine ev_iadd (r := (4 * a1 + a2 + 16)) (by unfold w32; omega) ?_
        refine g_iald g1 ad67 rt67 (by omega) (by omega) (fun v45763 ev45763 lv45763 uv45763 => ?_)
        refine ev_icmple f332_82 (fun c45764 => ?_) (fun c45764 => ?_)
        · refine ev_iinc (w := (x3 + 1)) (L' := [(2, 42), (0, a1), (0, a2), (0, (x3 + 1))]) rfl (by unfold w32; omega) rfl ?_
          refine ev_goto f332_43 ?_
          exact ih.2 _ _ g1 k1 (by omega) (by omega) (by omega) (by omega) (by omega) (by omega) (by omega)
        · refine ev_iconst ?_
          exact ev_ret rfl (by decide) (by decide) ⟨_, rfl, by omega, by omega, g1, k1⟩
set_option maxHeartbeats 4000000 in
theorem s332 {G : GH} {h : JH} (g : Gd G h) {a1 : Int} (la1 : 0 ≤ a1) (ua1 : a1 ≤ 3) {a2 : Int} (la2 : 0 ≤ a2) (ua2 : a2 ≤ 3) : jOk 1 0 0 332 [(2, 42), (0, a1), (0, a2)] h (PI G [] h 0 0 1) := by
  refine ⟨by decide, by rw [ml332]; exact Nat.le_of_ble_eq_true rfl, ?_⟩
  rw [ml332, pp332]
  show jEv _ none _ c332_0 0 0 _ (c332_0, [(2, 42), (0, a1), (0, a2), (9, 0)], [], h, 0, 0)
  have k0 := Kp.rf [] h
  refine ev_iconst ?_
  refine ev_istore_n (L' := [(2, 42), (0, a1), (0, a2), (0, 0)]) (Nat.le_of_ble_eq_true rfl) rfl ?_
  exact (s332_l la1 ua1 la2 ua2 15).1 _ _ g k0 (by omega) (by omega) (by omega) (by omega) (by omega) (by omega) (by omega)
/-! 333 sure -/
set_option maxHeartbeats 4000000 in
theorem s333_l {G : GH} {h : JH} {a1 : Int} (la1 : (-2147483648) ≤ a1) (ua1 : a1 ≤ 2147483647) : ∀ N : Nat, (∀ (h1 : JH) (x2 x3 : Int) (j4 : AV), Gd G h1 → Kp [] h h1 → (-1) ≤ a1 → a1 ≤ 2147483647 → (-2147483648) ≤ x2 → x2 ≤ 2147483647 → 0 ≤ x3 → x3 ≤ 4 → ((-10) * x3 + 45) < N → jEv (jOk 1) none (fun _ => 0) c333_0 0 0 (PI G [] h 0 (-2147483648) 2147483647) (c333_18, [(2, 42), (0, a1), (0, x2), (0, x3), j4], [], h1, 0, 0)) ∧ (∀ (h1 : JH) (x2 x3 x4 : Int), Gd G h1 → Kp [] h h1 → (-1) ≤ a1 → a1 ≤ 2147483647 → (-2147483648) ≤ x2 → x2 ≤ 2147483647 → 0 ≤ x3 → x3 ≤ 3 → 0 ≤ x4 → x4 ≤ 4 → ((-10) * x3 + (-x4) + 44) < N → jEv (jOk 1) none (fun _ => 0) c333_0 0 0 (PI G [] h 0 (-2147483648) 2147483647) (c333_29, [(2, 42), (0, a1), (0, x2), (0, x3), (0, x4)], [], h1, 0, 0)) := by
  intro N
  induction N with
  | zero => exact ⟨fun h1 x2 x3 j4 g1 k1 b0 b1 b2 b3 b4 b5 hm => absurd hm (by omega), fun h1 x2 x3 x4 g1 k1 b0 b1 b2 b3 b4 b5 b6 b7 hm => absurd hm (by omega)⟩
  | succ N ih =>
    refine ⟨?_, ?_⟩
    · intro h1 x2 x3 j4 g1 k1 b0 b1 b2 b3 b4 b5 hm
      refine ev_iload_n rfl ?_
      refine ev_aload_n rfl ?_
      obtain ⟨v46452, ev46452, lv46452, uv46452⟩ := g1.rd ad42 (show 44 < 66 by decide) rf42_44
      refine g_getv (r := 42) (v := v46452) g1 ad42 (by decide) ft12_44 ev46452 ?_
      refine ev_icmpge f333_79 (fun c46453 => ?_) (fun c46453 => ?_)
      · refine ev_iload_n rfl ?_
        refine ev_ifge f333_87 (fun c46454 => ?_) (fun c46454 => ?_)
        · refine ev_iconst ?_
          exact ev_ret rfl (by decide) (by decide) ⟨_, rfl, by omega, by omega, g1, k1⟩
        · refine ev_iload_n rfl ?_
          refine ev_goto f333_88 ?_
          exact ev_ret rfl (by decide) (by decide) ⟨_, rfl, by omega, by omega, g1, k1⟩
      · refine ev_iconst ?_
        refine ev_istore (L' := [(2, 42), (0, a1), (0, x2), (0, x3), (0, 0)]) (Nat.le_of_ble_eq_true rfl) rfl ?_
        exact ih.2 _ _ _ _ g1 k1 (by omega) (by omega) (by omega) (by omega) (by omega) (by omega) (by omega) (by omega) (by omega)
    · intro h1 x2 x3 x4 g1 k1 b0 b1 b2 b3 b4 b5 b6 b7 hm
      refine ev_iload rfl ?_
      refine ev_aload_n rfl ?_
      obtain ⟨v46455, ev46455, lv46455, uv46455⟩ := g1.rd ad42 (show 45 < 66 by decide) rf42_45
      refine g_getv (r := 42) (v := v46455) g1 ad42 (by decide) ft12_45 ev46455 ?_
      refine ev_icmpge f333_73 (fun c46456 => ?_) (fun c46456 => ?_)
      · refine ev_iinc (w := (x3 + 1)) (L' := [(2, 42), (0, a1), (0, x2), (0, (x3 + 1)), (0, x4)]) rfl (by unfold w32; omega) rfl ?_
        refine ev_goto f333_18 ?_
        exact ih.1 _ _ _ _ g1 k1 (by omega) (by omega) (by omega) (by omega) (by omega) (by omega) (by omega)
      · refine ev_aload_n rfl ?_
        refine ev_iload_n rfl ?_
        refine ev_iload rfl ?_
        refine ev_call (jcall_v (A := [(0, x4), (0, x3)]) (S' := []) (r := 42) rfl (g1.lt ad42) (g1.tg ad42) (Nat.le_of_ble_eq_true rfl)) (jOk_le (by decide) (s332 g1 (by omega) (by omega) (by omega) (by omega))) (by decide) (by decide) (fun w46457 h46457 q46457 => ?_)
        obtain ⟨v46458, rfl, lv46458, uv46458, g46457, kk46457⟩ := q46457
        have k46457 := k1.tr kk46457 (by decide)
        show jEv _ _ _ _ _ _ _ (_, [(2, 42), (0, a1), (0, x2), (0, x3), (0, x4)], [(0, v46458)], _, _, _)
        refine ev_ifne f333_51 (fun c46459 => ?_) (fun c46459 => ?_)
        · refine ev_iload_n rfl ?_
          refine ev_iload_n rfl ?_
          refine ev_icmpne f333_64 (fun c46460 => ?_) (fun c46460 => ?_)
          · refine g_iincG (f := fun w => [(2, 42), (0, a1), (0, w), (0, x3), (0, x4)]) rfl (fun _ => rfl) (fun v46461 ev46461 lv46461 uv46461 => ?_)
            refine ev_iinc (w := (x4 + 1)) (L' := [(2, 42), (0, a1), (0, v46461), (0, x3), (0, (x4 + 1))]) rfl (by unfold w32; omega) rfl ?_
            refine ev_goto f333_29 ?_
            exact ih.2 _ _ _ _ g46457 k46457 (by omega) (by omega) (by omega) (by omega) (by omega) (by omega) (by omega) (by omega) (by omega)
          · refine ev_bipush ?_
            refine ev_iload_n rfl ?_
            refine ev_imul (r := (10 * x3)) (by unfold w32; omega) ?_
            refine ev_iload rfl ?_
            refine ev_iadd (r := (10 * x3 + x4)) (by unfold w32; omega) ?_
            exact ev_ret rfl (by decide) (by decide) ⟨_, rfl, by omega, by omega, g46457, k46457⟩
        · refine ev_goto f333_67 ?_
          refine ev_iinc (w := (x4 + 1)) (L' := [(2, 42), (0, a1), (0, x2), (0, x3), (0, (x4 + 1))]) rfl (by unfold w32; omega) rfl ?_
          refine ev_goto f333_29 ?_
          exact ih.2 _ _ _ _ g46457 k46457 (by omega) (by omega) (by omega) (by omega) (by omega) (by omega) (by omega) (by omega) (by omega)
set_option maxHeartbeats 4000000 in
theorem s333 {G : GH} {h : JH} (g : Gd G h) {a1 : Int} (la1 : (-2147483648) ≤ a1) (ua1 : a1 ≤ 2147483647) : jOk 2 0 0 333 [(2, 42), (0, a1)] h (PI G [] h 0 (-2147483648) 2147483647) := by
  refine ⟨by decide, by rw [ml333]; exact Nat.le_of_ble_eq_true rfl, ?_⟩
  rw [ml333, pp333]
  show jEv _ none _ c333_0 0 0 _ (c333_0, [(2, 42), (0, a1), (9, 0), (9, 0), (9, 0)], [], h, 0, 0)
  have k0 := Kp.rf [] h
  refine ev_aload_n rfl ?_
  obtain ⟨v46462, ev46462, lv46462, uv46462⟩ := g.rd ad42 (show 44 < 66 by decide) rf42_44
  refine g_getv (r := 42) (v := v46462) g ad42 (by decide) ft12_44 ev46462 ?_
  refine ev_ifeq f333_12 (fun c46463 => ?_) (fun c46463 => ?_)
  · refine ev_iconst ?_
    exact ev_ret rfl (by decide) (by decide) ⟨_, rfl, by omega, by omega, g, k0⟩
  · refine ev_iload_n rfl ?_
    refine ev_iconst ?_
    refine ev_icmpge f333_14 (fun c46464 => ?_) (fun c46464 => ?_)
    · refine ev_iconst ?_
      refine ev_istore_n (L' := [(2, 42), (0, a1), (0, 0), (9, 0), (9, 0)]) (Nat.le_of_ble_eq_true rfl) rfl ?_
      refine ev_iconst ?_
      refine ev_istore_n (L' := [(2, 42), (0, a1), (0, 0), (0, 0), (9, 0)]) (Nat.le_of_ble_eq_true rfl) rfl ?_
      exact (s333_l la1 ua1 100).1 _ _ _ _ g k0 (by omega) (by omega) (by omega) (by omega) (by omega) (by omega) (by omega)
    · refine ev_iconst ?_
      exact ev_ret rfl (by decide) (by decide) ⟨_, rfl, by omega, by omega, g, k0⟩
/-! 337 isStruck -/
set_option maxHeartbeats 4000000 in
theorem s337_l {G : GH} {h : JH} {a1 : Int} (la1 : 0 ≤ a1) (ua1 : a1 ≤ 1) {a2 : Int} (la2 : 0 ≤ a2) (ua2 : a2 ≤ 3) {a3 : Int} (la3 : (-2147483648) ≤ a3) (ua3 : a3 ≤ 2147483647) {a4 : Int} (la4 : (-2147483648) ≤ a4) (ua4 : a4 ≤ 2147483647) : ∀ N : Nat, (∀ (h1 : JH) (x5 x6 : Int) (j7 j8 : AV), Gd G h1 → Kp [] h h1 → 0 ≤ a1 → a1 ≤ 1 → 0 ≤ a2 → a2 ≤ 3 → (-2147483648) ≤ a3 → a3 ≤ 2147483647 → (-2147483648) ≤ a4 → a4 ≤ 2147483647 → 0 ≤ x5 → x5 ≤ 4 → 0 ≤ x6 → x6 ≤ 4 → ((-10) * x6 + 45) < N → jEv (jOk 0) none (fun _ => 0) c337_0 0 0 (PI G [] h 0 0 1) (c337_20, [(2, 42), (0, a1), (0, a2), (0, a3), (0, a4), (0, x5), (0, x6), j7, j8], [], h1, 0, 0)) ∧ (∀ (h1 : JH) (x5 x6 x7 x8 : Int), Gd G h1 → Kp [] h h1 → 0 ≤ a1 → a1 ≤ 1 → 0 ≤ a2 → a2 ≤ 3 → (-2147483648) ≤ a3 → a3 ≤ 2147483647 → (-2147483648) ≤ a4 → a4 ≤ 2147483647 → 1 ≤ x5 → x5 ≤ 4 → 0 ≤ x6 → x6 ≤ 3 → 0 ≤ x7 → x7 ≤ 1 → 0 ≤ x8 → x8 ≤ 4 → ((-10) * x6 + (-x8) + 44) < N → jEv (jOk 0) none (fun _ => 0) c337_0 0 0 (PI G [] h 0 0 1) (c337_60, [(2, 42), (0, a1), (0, a2), (0, a3), (0, a4), (0, x5), (0, x6), (0, x7), (0, x8)], [], h1, 0, 0)) := by
  intro N
  induction N with
  | zero => exact ⟨fun h1 x5 x6 j7 j8 g1 k1 b0 b1 b2 b3 b4 b5 b6 b7 b8 b9 b10 b11 hm => absurd hm (by omega), fun h1 x5 x6 x7 x8 g1 k1 b0 b1 b2 b3 b4 b5 b6 b7 b8 b9 b10 b11 b12 b13 b14 b15 hm => absurd hm (by omega)⟩
  | succ N ih =>
    refine ⟨?_, ?_⟩
    · intro h1 x5 x6 j7 j8 g1 k1 b0 b1 b2 b3 b4 b5 b6 b7 b8 b9 b10 b11 hm
      refine ev_iload rfl ?_
      refine ev_iload rfl ?_
      refine ev_icmpge f337_188 (fun c46630 => ?_) (fun c46630 => ?_)
      · refine ev_iconst ?_
        exact ev_ret rfl (by decide) (by decide) ⟨_, rfl, by omega, by omega, g1, k1⟩
      · refine ev_iload rfl ?_
        refine ev_iload_n rfl ?_
        refine ev_icmpeq f337_182 (fun c46631 => ?_) (fun c46631 => ?_)
        · refine ev_iinc (w := (x6 + 1)) (L' := [(2, 42), (0, a1), (0, a2), (0, a3), (0, a4), (0, x5), (0, (x6 + 1)), j7, j8]) rfl (by unfold w32; omega) rfl ?_
          refine ev_goto f337_20 ?_
          exact ih.1 _ _ _ _ _ g1 k1 (by omega) (by omega) (by omega) (by omega) (by omega) (by omega) (by omega) (by omega) (by omega) (by omega) (by omega) (by omega) (by omega)
        · refine ev_iload_n rfl ?_
          refine ev_ifeq f337_41 (fun c46632 => ?_) (fun c46632 => ?_)
          · refine ev_iload rfl ?_
            refine ev_iload rfl ?_
            refine g_ishrG (fun v46633 ev46633 lv46633 uv46633 => ?_)
            refine ev_iconst ?_
            refine g_iandB (b := 1) (by omega) (by omega) (by decide) (fun v46634 ev46634 lv46634 uv46634 => ?_)
            refine ev_ifne f337_54 (fun c46635 => ?_) (fun c46635 => ?_)
            · refine ev_iconst ?_
              refine ev_istore (L' := [(2, 42), (0, a1), (0, a2), (0, a3), (0, a4), (0, x5), (0, x6), (0, 1), j8]) (Nat.le_of_ble_eq_true rfl) rfl ?_
              refine ev_iconst ?_
              refine ev_istore (L' := [(2, 42), (0, a1), (0, a2), (0, a3), (0, a4), (0, x5), (0, x6), (0, 1), (0, 0)]) (Nat.le_of_ble_eq_true rfl) rfl ?_
              exact ih.2 _ _ _ _ _ g1 k1 (by omega) (by omega) (by omega) (by omega) (by omega) (by omega) (by omega) (by omega) (by omega) (by omega) (by omega) (by omega) (by omega) (by omega) (by omega) (by omega) (by omega)
            · refine ev_goto f337_182 ?_
              refine ev_iinc (w := (x6 + 1)) (L' := [(2, 42), (0, a1), (0, a2), (0, a3), (0, a4), (0, x5), (0, (x6 + 1)), j7, j8]) rfl (by unfold w32; omega) rfl ?_
              refine ev_goto f337_20 ?_
              exact ih.1 _ _ _ _ _ g1 k1 (by omega) (by omega) (by omega) (by omega) (by omega) (by omega) (by omega) (by omega) (by omega) (by omega) (by omega) (by omega) (by omega)
          · refine ev_iload_n rfl ?_
            refine ev_goto f337_43 ?_
            refine ev_iload rfl ?_
            refine g_ishrG (fun v46636 ev46636 lv46636 uv46636 => ?_)
            refine ev_iconst ?_
            refine g_iandB (b := 1) (by omega) (by omega) (by decide) (fun v46637 ev46637 lv46637 uv46637 => ?_)
            refine ev_ifne f337_54 (fun c46638 => ?_) (fun c46638 => ?_)
            · refine ev_iconst ?_
              refine ev_istore (L' := [(2, 42), (0, a1), (0, a2), (0, a3), (0, a4), (0, x5), (0, x6), (0, 1), j8]) (Nat.le_of_ble_eq_true rfl) rfl ?_
              refine ev_iconst ?_
              refine ev_istore (L' := [(2, 42), (0, a1), (0, a2), (0, a3), (0, a4), (0, x5), (0, x6), (0, 1), (0, 0)]) (Nat.le_of_ble_eq_true rfl) rfl ?_
              exact ih.2 _ _ _ _ _ g1 k1 (by omega) (by omega) (by omega) (by omega) (by omega) (by omega) (by omega) (by omega) (by omega) (by omega) (by omega) (by omega) (by omega) (by omega) (by omega) (by omega) (by omega)
            · refine ev_goto f337_182 ?_
              refine ev_iinc (w := (x6 + 1)) (L' := [(2, 42), (0, a1), (0, a2), (0, a3), (0, a4), (0, x5), (0, (x6 + 1)), j7, j8]) rfl (by unfold w32; omega) rfl ?_
              refine ev_goto f337_20 ?_
              exact ih.1 _ _ _ _ _ g1 k1 (by omega) (by omega) (by omega) (by omega) (by omega) (by omega) (by omega) (by omega) (by omega) (by omega) (by omega) (by omega) (by omega)
    · intro h1 x5 x6 x7 x8 g1 k1 b0 b1 b2 b3 b4 b5 b6 b7 b8 b9 b10 b11 b12 b13 b14 b15 hm
      refine ev_iload rfl ?_
      refine ev_iconst ?_
      refine ev_icmpge f337_175 (fun c46639 => ?_) (fun c46639 => ?_)
      · refine ev_iload rfl ?_
        refine ev_ifeq f337_182 (fun c46640 => ?_) (fun c46640 => ?_)
        · refine ev_iinc (w := (x6 + 1)) (L' := [(2, 42), (0, a1), (0, a2), (0, a3), (0, a4), (0, x5), (0, (x6 + 1)), (0, x7), (0, x8)]) rfl (by unfold w32; omega) rfl ?_
          refine ev_goto f337_20 ?_
          exact ih.1 _ _ _ _ _ g1 k1 (by omega) (by omega) (by omega) (by omega) (by omega) (by omega) (by omega) (by omega) (by omega) (by omega) (by omega) (by omega) (by omega)
        · refine ev_iconst ?_
          exact ev_ret rfl (by decide) (by decide) ⟨_, rfl, by omega, by omega, g1, k1⟩
      · refine ev_iload rfl ?_
        refine ev_ifeq f337_175 (fun c46641 => ?_) (fun c46641 => ?_)
        · refine ev_iload rfl ?_
          refine ev_ifeq f337_182 (fun c46642 => ?_) (fun c46642 => absurd c46642 (by omega))
          refine ev_iinc (w := (x6 + 1)) (L' := [(2, 42), (0, a1), (0, a2), (0, a3), (0, a4), (0, x5), (0, (x6 + 1)), (0, x7), (0, x8)]) rfl (by unfold w32; omega) rfl ?_
          refine ev_goto f337_20 ?_
          exact ih.1 _ _ _ _ _ g1 k1 (by omega) (by omega) (by omega) (by omega) (by omega) (by omega) (by omega) (by omega) (by omega) (by omega) (by omega) (by omega) (by omega)
        · refine ev_iload_n rfl ?_
          refine ev_ifeq f337_80 (fun c46643 => ?_) (fun c46643 => ?_)
          · refine ev_iload_n rfl ?_
            refine ev_iload rfl ?_
            refine g_ishrG (fun v46644 ev46644 lv46644 uv46644 => ?_)
            refine ev_iconst ?_
            refine g_iandB (b := 1) (by omega) (by omega) (by decide) (fun v46645 ev46645 lv46645 uv46645 => ?_)
            refine ev_ifne f337_92 (fun c46646 => ?_) (fun c46646 => ?_)
            · refine ev_iload_n rfl ?_
              refine ev_ifeq f337_130 (fun c46647 => ?_) (fun c46647 => absurd c46647 (by omega))
              refine ev_aload_n rfl ?_
              refine g_getp (r := 42) (c := 67) g1 ad42 (by decide) (by decide) rf42_46 ft12_46 ?_
              refine ev_bipush ?_
              refine ev_iconst ?_
              refine ev_iload rfl ?_
              refine ev_imul (r := (4 * x8)) (by unfold w32; omega) ?_
              refine ev_iadd (r := (4 * x8 + 16)) (by unfold w32; omega) ?_
              refine ev_iload rfl ?_
              refine ev_iadd (r := (x6 + 4 * x8 + 16)) (by unfold w32; omega) ?_
              refine g_iald g1 ad67 rt67 (by omega) (by omega) (fun v46648 ev46648 lv46648 uv46648 => ?_)
              refine ev_aload_n rfl ?_
              refine g_getp (r := 42) (c := 67) g1 ad42 (by decide) (by decide) rf42_46 ft12_46 ?_
              refine ev_bipush ?_
              refine ev_iconst ?_
              refine ev_iload rfl ?_
              refine ev_imul (r := (4 * x8)) (by unfold w32; omega) ?_
              refine ev_iadd (r := (4 * x8 + 16)) (by unfold w32; omega) ?_
              refine ev_iload_n rfl ?_
              refine ev_iadd (r := (a2 + 4 * x8 + 16)) (by unfold w32; omega) ?_
              refine g_iald g1 ad67 rt67 (by omega) (by omega) (fun v46649 ev46649 lv46649 uv46649 => ?_)
              refine ev_icmple f337_166 (fun c46650 => ?_) (fun c46650 => ?_)
              · refine ev_iconst ?_
                refine ev_istore (L' := [(2, 42), (0, a1), (0, a2), (0, a3), (0, a4), (0, x5), (0, x6), (0, 0), (0, x8)]) (Nat.le_of_ble_eq_true rfl) rfl ?_
                refine ev_iinc (w := (x8 + 1)) (L' := [(2, 42), (0, a1), (0, a2), (0, a3), (0, a4), (0, x5), (0, x6), (0, 0), (0, (x8 + 1))]) rfl (by unfold w32; omega) rfl ?_
                refine ev_goto f337_60 ?_
                exact ih.2 _ _ _ _ _ g1 k1 (by omega) (by omega) (by omega) (by omega) (by omega) (by omega) (by omega) (by omega) (by omega) (by omega) (by omega) (by omega) (by omega) (by omega) (by omega) (by omega) (by omega)
              · refine ev_iconst ?_
                refine ev_goto f337_167 ?_
                refine ev_istore (L' := [(2, 42), (0, a1), (0, a2), (0, a3), (0, a4), (0, x5), (0, x6), (0, 1), (0, x8)]) (Nat.le_of_ble_eq_true rfl) rfl ?_
                refine ev_iinc (w := (x8 + 1)) (L' := [(2, 42), (0, a1), (0, a2), (0, a3), (0, a4), (0, x5), (0, x6), (0, 1), (0, (x8 + 1))]) rfl (by unfold w32; omega) rfl ?_
                refine ev_goto f337_60 ?_
                exact ih.2 _ _ _ _ _ g1 k1 (by omega) (by omega) (by omega) (by omega) (by omega) (by omega) (by omega) (by omega) (by omega) (by omega) (by omega) (by omega) (by omega) (by omega) (by omega) (by omega) (by omega)
            · refine ev_goto f337_169 ?_
              refine ev_iinc (w := (x8 + 1)) (L' := [(2, 42), (0, a1), (0, a2), (0, a3), (0, a4), (0, x5), (0, x6), (0, x7), (0, (x8 + 1))]) rfl (by unfold w32; omega) rfl ?_
              refine ev_goto f337_60 ?_
              exact ih.2 _ _ _ _ _ g1 k1 (by omega) (by omega) (by omega) (by omega) (by omega) (by omega) (by omega) (by omega) (by omega) (by omega) (by omega) (by omega) (by omega) (by omega) (by omega) (by omega) (by omega)
          · refine ev_iload rfl ?_
            refine ev_goto f337_81 ?_
            refine ev_iload rfl ?_
            refine g_ishrG (fun v46651 ev46651 lv46651 uv46651 => ?_)
            refine ev_iconst ?_
            refine g_iandB (b := 1) (by omega) (by omega) (by decide) (fun v46652 ev46652 lv46652 uv46652 => ?_)
            refine ev_ifne f337_92 (fun c46653 => ?_) (fun c46653 => ?_)
            · refine ev_iload_n rfl ?_
              refine ev_ifeq f337_130 (fun c46654 => absurd c46654 (by omega)) (fun c46654 => ?_)
              refine ev_aload_n rfl ?_
              refine g_getp (r := 42) (c := 67) g1 ad42 (by decide) (by decide) rf42_46 ft12_46 ?_
              refine ev_iconst ?_
              refine ev_iload rfl ?_
              refine ev_imul (r := (4 * x6)) (by unfold w32; omega) ?_
              refine ev_iload rfl ?_
              refine ev_iadd (r := (4 * x6 + x8)) (by unfold w32; omega) ?_
              refine g_iald g1 ad67 rt67 (by omega) (by omega) (fun v46655 ev46655 lv46655 uv46655 => ?_)
              refine ev_aload_n rfl ?_
              refine g_getp (r := 42) (c := 67) g1 ad42 (by decide) (by decide) rf42_46 ft12_46 ?_
              refine ev_iconst ?_
              refine ev_iload_n rfl ?_
              refine ev_imul (r := (4 * a2)) (by unfold w32; omega) ?_
              refine ev_iload rfl ?_
              refine ev_iadd (r := (4 * a2 + x8)) (by unfold w32; omega) ?_
              refine g_iald g1 ad67 rt67 (by omega) (by omega) (fun v46656 ev46656 lv46656 uv46656 => ?_)
              refine ev_icmple f337_126 (fun c46657 => ?_) (fun c46657 => ?_)
              · refine ev_iconst ?_
                refine ev_goto f337_167 ?_
                refine ev_istore (L' := [(2, 42), (0, a1), (0, a2), (0, a3), (0, a4), (0, x5), (0, x6), (0, 0), (0, x8)]) (Nat.le_of_ble_eq_true rfl) rfl ?_
                refine ev_iinc (w := (x8 + 1)) (L' := [(2, 42), (0, a1), (0, a2), (0, a3), (0, a4), (0, x5), (0, x6), (0, 0), (0, (x8 + 1))]) rfl (by unfold w32; omega) rfl ?_
                refine ev_goto f337_60 ?_
                exact ih.2 _ _ _ _ _ g1 k1 (by omega) (by omega) (by omega) (by omega) (by omega) (by omega) (by omega) (by omega) (by omega) (by omega) (by omega) (by omega) (by omega) (by omega) (by omega) (by omega) (by omega)
              · refine ev_iconst ?_
                refine ev_goto f337_167 ?_
                refine ev_istore (L' := [(2, 42), (0, a1), (0, a2), (0, a3), (0, a4), (0, x5), (0, x6), (0, 1), (0, x8)]) (Nat.le_of_ble_eq_true rfl) rfl ?_
                refine ev_iinc (w := (x8 + 1)) (L' := [(2, 42), (0, a1), (0, a2), (0, a3), (0, a4), (0, x5), (0, x6), (0, 1), (0, (x8 + 1))]) rfl (by unfold w32; omega) rfl ?_
                refine ev_goto f337_60 ?_
                exact ih.2 _ _ _ _ _ g1 k1 (by omega) (by omega) (by omega) (by omega) (by omega) (by omega) (by omega) (by omega) (by omega) (by omega) (by omega) (by omega) (by omega) (by omega) (by omega) (by omega) (by omega)
            · refine ev_goto f337_169 ?_
              refine ev_iinc (w := (x8 + 1)) (L' := [(2, 42), (0, a1), (0, a2), (0, a3), (0, a4), (0, x5), (0, x6), (0, x7), (0, (x8 + 1))]) rfl (by unfold w32; omega) rfl ?_
              refine ev_goto f337_60 ?_
              exact ih.2 _ _ _ _ _ g1 k1 (by omega) (by omega) (by omega) (by omega) (by omega) (by omega) (by omega) (by omega) (by omega) (by omega) (by omega) (by omega) (by omega) (by omega) (by omega) (by omega) (by omega)
set_option maxHeartbeats 4000000 in
theorem s337 {G : GH} {h : JH} (g : Gd G h) {a1 : Int} (la1 : 0 ≤ a1) (ua1 : a1 ≤ 1) {a2 : Int} (la2 : 0 ≤ a2) (ua2 : a2 ≤ 3) {a3 : Int} (la3 : (-2147483648) ≤ a3) (ua3 : a3 ≤ 2147483647) {a4 : Int} (la4 : (-2147483648) ≤ a4) (ua4 : a4 ≤ 2147483647) : jOk 1 0 0 337 [(2, 42), (0, a1), (0, a2), (0, a3), (0, a4)] h (PI G [] h 0 0 1) := by
  refine ⟨by decide, by rw [ml337]; exact Nat.le_of_ble_eq_true rfl, ?_⟩
  rw [ml337, pp337]
  show jEv _ none _ c337_0 0 0 _ (c337_0, [(2, 42), (0, a1), (0, a2), (0, a3), (0, a4), (9, 0), (9, 0), (9, 0), (9, 0)], [], h, 0, 0)
  have k0 := Kp.rf [] h
  refine ev_iload_n rfl ?_
  refine ev_ifeq f337_11 (fun c46658 => ?_) (fun c46658 => ?_)
  · refine ev_aload_n rfl ?_
    obtain ⟨v46659, ev46659, lv46659, uv46659⟩ := g.rd ad42 (show 45 < 66 by decide) rf42_45
    refine g_getv (r := 42) (v := v46659) g ad42 (by decide) ft12_45 ev46659 ?_
    refine ev_istore (L' := [(2, 42), (0, a1), (0, a2), (0, a3), (0, a4), (0, v46659), (9, 0), (9, 0), (9, 0)]) (Nat.le_of_ble_eq_true rfl) rfl ?_
    refine ev_iconst ?_
    refine ev_istore (L' := [(2, 42), (0, a1), (0, a2), (0, a3), (0, a4), (0, v46659), (0, 0), (9, 0), (9, 0)]) (Nat.le_of_ble_eq_true rfl) rfl ?_
    exact (s337_l la1 ua1 la2 ua2 la3 ua3 la4 ua4 100).1 _ _ _ _ _ g k0 (by omega) (by omega) (by omega) (by omega) (by omega) (by omega) (by omega) (by omega) (by omega) (by omega) (by omega) (by omega) (by omega)
  · refine ev_aload_n rfl ?_
    obtain ⟨v46660, ev46660, lv46660, uv46660⟩ := g.rd ad42 (show 44 < 66 by decide) rf42_44
    refine g_getv (r := 42) (v := v46660) g ad42 (by decide) ft12_44 ev46660 ?_
    refine ev_goto f337_15 ?_
    refine ev_istore (L' := [(2, 42), (0, a1), (0, a2), (0, a3), (0, a4), (0, v46660), (9, 0), (9, 0), (9, 0)]) (Nat.le_of_ble_eq_true rfl) rfl ?_
    refine ev_iconst ?_
    refine ev_istore (L' := [(2, 42), (0, a1), (0, a2), (0, a3), (0, a4), (0, v46660), (0, 0), (9, 0), (9, 0)]) (Nat.le_of_ble_eq_true rfl) rfl ?_
    exact (s337_l la1 ua1 la2 ua2 la3 ua3 la4 ua4 100).1 _ _ _ _ _ g k0 (by omega) (by omega) (by omega) (by omega) (by omega) (by omega) (by omega) (by omega) (by omega) (by omega) (by omega) (by omega) (by omega)
/-! 339 sort -/
set_option maxHeartbeats 4000000 in
theorem s339 {G : GH} {h : JH} (g : Gd G h) {a1 : Int} (la1 : (-2147483648) ≤ a1) (ua1 : a1 ≤ 2147483647) {a2 : Int} (la2 : (-2147483648) ≤ a2) (ua2 : a2 ≤ 2147483647) {a3 : Int} (la3 : (-2147483648) ≤ a3) (ua3 : a3 ≤ 2147483647) : jOk 2 0 0 339 [(2, 42), (0, a1), (0, a2), (0, a3)] h (PI G [(42, 48), (68, 0), (69, 0), (70, 0)] h 0 (-3) 3) := by
  refine ⟨by decide, by rw [ml339]; exact Nat.le_of_ble_eq_true rfl, ?_⟩
  rw [ml339, pp339]
  show jEv _ none _ c339_0 0 0 _ (c339_0, [(2, 42), (0, a1), (0, a2), (0, a3)], [], h, 0, 0)
  have k0 := Kp.rf [(42, 48), (68, 0), (69, 0), (70, 0)] h
  refine ev_iload_n rfl ?_
  refine ev_iconst ?_
  refine ev_bipush ?_
  refine ev_in (d := 0) (a := 0) (b := 0) (cd' := c242_0) (m := 3) (L0 := [(0, a1), (0, 1), (0, 9)]) (jcall_s (A := [(0, 9), (0, 1), (0, a1)]) (S' := []) (by decide) rfl (Nat.le_of_ble_eq_true rfl)) (by decide) ml242 pp242 (Nat.le_of_ble_eq_true rfl) rfl (by decide) (by decide) ?_
  refine ev_iload_n rfl ?_
  refine ev_iload_n rfl ?_
  refine ev_icmplt f242_14 (fun c46703 => ?_) (fun c46703 => ?_)
  · refine ev_iconst ?_
    refine ev_ret rfl (by decide) (by decide) ?_
    show jEv _ _ _ _ _ _ _ (_, [(2, 42), (0, a1), (0, a2), (0, a3)], [(0, 0)], _, _, _)
    refine ev_ifeq f339_30 (fun c46704 => ?_) (fun c46704 => absurd c46704 (by omega))
    refine ev_iconst ?_
    exact ev_ret rfl (by decide) (by decide) ⟨_, rfl, by omega, by omega, g, k0⟩
  · refine ev_iload_n rfl ?_
    refine ev_iload_n rfl ?_
    refine ev_icmpgt f242_14 (fun c46705 => ?_) (fun c46705 => ?_)
    · refine ev_iconst ?_
      refine ev_ret rfl (by decide) (by decide) ?_
      show jEv _ _ _ _ _ _ _ (_, [(2, 42), (0, a1), (0, a2), (0, a3)], [(0, 0)], _, _, _)
      refine ev_ifeq f339_30 (fun c46706 => ?_) (fun c46706 => absurd c46706 (by omega))
      refine ev_iconst ?_
      exact ev_ret rfl (by decide) (by decide) ⟨_, rfl, by omega, by omega, g, k0⟩
    · refine ev_iconst ?_
      refine ev_goto f242_15 ?_
      refine ev_ret rfl (by decide) (by decide) ?_
      show jEv _ _ _ _ _ _ _ (_, [(2, 42), (0, a1), (0, a2), (0, a3)], [(0, 1)], _, _, _)
      refine ev_ifeq f339_30 (fun c46707 => absurd c46707 (by omega)) (fun c46707 => ?_)
      refine ev_iload_n rfl ?_
      refine ev_iconst ?_
      refine ev_bipush ?_
      refine ev_in (d := 0) (a := 0) (b := 0) (cd' := c242_0) (m := 3) (L0 := [(0, a2), (0, 0), (0, 99)]) (jcall_s (A := [(0, 99), (0, 0), (0, a2)]) (S' := []) (by decide) rfl (Nat.le_of_ble_eq_true rfl)) (by decide) ml242 pp242 (Nat.le_of_ble_eq_true rfl) rfl (by decide) (by decide) ?_
      refine ev_iload_n rfl ?_
      refine ev_iload_n rfl ?_
      refine ev_icmplt f242_14 (fun c46708 => ?_) (fun c46708 => ?_)
      · refine ev_iconst ?_
        refine ev_ret rfl (by decide) (by decide) ?_
        show jEv _ _ _ _ _ _ _ (_, [(2, 42), (0, a1), (0, a2), (0, a3)], [(0, 0)], _, _, _)
        refine ev_ifeq f339_30 (fun c46709 => ?_) (fun c46709 => absurd c46709 (by omega))
        refine ev_iconst ?_
        exact ev_ret rfl (by decide) (by decide) ⟨_, rfl, by omega, by omega, g, k0⟩
      · refine ev_iload_n rfl ?_
        refine ev_iload_n rfl ?_
        refine ev_icmpgt f242_14 (fun c46710 => ?_) (fun c46710 => ?_)
        · refine ev_iconst ?_
          refine ev_ret rfl (by decide) (by decide) ?_
          show jEv _ _ _ _ _ _ _ (_, [(2, 42), (0, a1), (0, a2), (0, a3)], [(0, 0)], _, _, _)
          refine ev_ifeq f339_30 (fun c46711 => ?_) (fun c46711 => absurd c46711 (by omega))
          refine ev_iconst ?_
          exact ev_ret rfl (by decide) (by decide) ⟨_, rfl, by omega, by omega, g, k0⟩
        · refine ev_iconst ?_
          refine ev_goto f242_15 ?_
          refine ev_ret rfl (by decide) (by decide) ?_
          show jEv _ _ _ _ _ _ _ (_, [(2, 42), (0, a1), (0, a2), (0, a3)], [(0, 1)], _, _, _)
          refine ev_ifeq f339_30 (fun c46712 => absurd c46712 (by omega)) (fun c46712 => ?_)
          refine ev_iload_n rfl ?_
          refine ev_iconst ?_
          refine ev_bipush ?_
          refine ev_in (d := 0) (a := 0) (b := 0) (cd' := c242_0) (m := 3) (L0 := [(0, a3), (0, 0), (0, 99)]) (jcall_s (A := [(0, 99), (0, 0), (0, a3)]) (S' := []) (by decide) rfl (Nat.le_of_ble_eq_true rfl)) (by decide) ml242 pp242 (Nat.le_of_ble_eq_true rfl) rfl (by decide) (by decide) ?_
          refine ev_iload_n rfl ?_
          refine ev_iload_n rfl ?_
          refine ev_icmplt f242_14 (fun c46713 => ?_) (fun c46713 => ?_)
          · refine ev_iconst ?_
            refine ev_ret rfl (by decide) (by decide) ?_
            show jEv _ _ _ _ _ _ _ (_, [(2, 42), (0, a1), (0, a2), (0, a3)], [(0, 0)], _, _, _)
            refine ev_ifne f339_32 (fun c46714 => absurd c46714 (by omega)) (fun c46714 => ?_)
            refine ev_iconst ?_
            exact ev_ret rfl (by decide) (by decide) ⟨_, rfl, by omega, by omega, g, k0⟩
          · refine ev_iload_n rfl ?_
            refine ev_iload_n rfl ?_
            refine ev_icmpgt f242_14 (fun c46715 => ?_) (fun c46715 => ?_)
            · refine ev_iconst ?_
              refine ev_ret rfl (by decide) (by decide) ?_
              show jEv _ _ _ _ _ _ _ (_, [(2, 42), (0, a1), (0, a2), (0, a3)], [(0, 0)], _, _, _)
              refine ev_ifne f339_32 (fun c46716 => absurd c46716 (by omega)) (fun c46716 => ?_)
              refine ev_iconst ?_
              exact ev_ret rfl (by decide) (by decide) ⟨_, rfl, by omega, by omega, g, k0⟩
            · refine ev_iconst ?_
              refine ev_goto f242_15 ?_
              refine ev_ret rfl (by decide) (by decide) ?_
              show jEv _ _ _ _ _ _ _ (_, [(2, 42), (0, a1), (0, a2), (0, a3)], [(0, 1)], _, _, _)
              refine ev_ifne f339_32 (fun c46717 => ?_) (fun c46717 => absurd c46717 (by omega))
              refine ev_aload_n rfl ?_
              obtain ⟨v46718, ev46718, lv46718, uv46718⟩ := g.rd ad42 (show 47 < 66 by decide) rf42_47
              refine g_getv (r := 42) (v := v46718) g ad42 (by decide) ft12_47 ev46718 ?_
              refine ev_iconst ?_
              refine ev_icmpne f339_43 (fun c46719 => ?_) (fun c46719 => ?_)
              · refine ev_aload_n rfl ?_
                refine g_getp (r := 42) (c := 68) g ad42 (by decide) (by decide) rf42_48 ft12_48 ?_
                refine ev_aload_n rfl ?_
                refine g_getv (r := 42) (v := v46718) g ad42 (by decide) ft12_47 (ev46718) ?_
                refine ev_iload_n rfl ?_
                refine g_iast g ad68 rt68 (fun _ => rfl) (by omega) (by omega) (by omega) (by omega) (fun h46720 e46720 g46720 => ?_)
                have k46720 := k0.wr e46720 rfl
                refine ev_aload_n rfl ?_
                refine g_getp (r := 42) (c := 69) g46720 ad42 (by decide) (by decide) rf42_49 ft12_49 ?_
                refine ev_aload_n rfl ?_
                refine g_getv (r := 42) (v := v46718) g46720 ad42 (by decide) ft12_47 (((jw_ne e46720 (Or.inl (by decide))).trans ev46718)) ?_
                refine ev_iload_n rfl ?_
                refine g_iast g46720 ad69 rt69 (fun _ => rfl) (by omega) (by omega) (by omega) (by omega) (fun h46721 e46721 g46721 => ?_)
                have k46721 := k46720.wr e46721 rfl
                refine ev_aload_n rfl ?_
                refine g_getp (r := 42) (c := 70) g46721 ad42 (by decide) (by decide) rf42_50 ft12_50 ?_
                refine ev_aload_n rfl ?_
                refine g_getv (r := 42) (v := v46718) g46721 ad42 (by decide) ft12_47 (((jw_ne e46721 (Or.inl (by decide))).trans ((jw_ne e46720 (Or.inl (by decide))).trans ev46718))) ?_
                refine ev_iload_n rfl ?_
                refine g_iast g46721 ad70 rt70 (fun _ => rfl) (by omega) (by omega) (by omega) (by omega) (fun h46722 e46722 g46722 => ?_)
                have k46722 := k46721.wr e46722 rfl
                refine ev_aload_n rfl ?_
                refine ev_dup (by decide) ?_
                refine g_getv (r := 42) (v := v46718) g46722 ad42 (by decide) ft12_47 (((jw_ne e46722 (Or.inl (by decide))).trans ((jw_ne e46721 (Or.inl (by decide))).trans ((jw_ne e46720 (Or.inl (by decide))).trans ev46718)))) ?_
                refine ev_iconst ?_
                refine ev_iadd (r := (v46718 + 1)) (by unfold w32; omega) ?_
                refine g_putf (r := 42) g46722 ad42 (by decide) ft12_47 (by decide) (fun e => absurd e nz12_47) rf42_47 (by decide) (by omega) (by omega) (fun h46723 e46723 g46723 => ?_)
                have k46723 := k46722.wr e46723 rfl
                refine ev_aload_n rfl ?_
                refine g_getv (r := 42) (v := (v46718 + 1)) g46723 ad42 (by decide) ft12_47 ((jw_eq e46723)) ?_
                exact ev_ret rfl (by decide) (by decide) ⟨_, rfl, by omega, by omega, g46723, k46723⟩
              · refine ev_bipush ?_
                exact ev_ret rfl (by decide) (by decide) ⟨_, rfl, by omega, by omega, g, k0⟩
/-! 340 offer -/
set_option maxHeartbeats 4000000 in
theorem s340_l {G : GH} {h : JH} {a1 : Int} (la1 : (-2147483648) ≤ a1) (ua1 : a1 ≤ 2147483647) : ∀ N : Nat, (∀ (h1 : JH) (x2 : Int), Gd G h1 → Kp [(42, 52), (71, 0)] h h1 → 0 ≤ a1 → a1 ≤ 99 → 0 ≤ x2 → x2 ≤ 4 → ((-x2) + 4) < N → jEv (jOk 1) none (fun _ => 0) c340_0 0 0 (PI G [(42, 52), (71, 0)] h 0 (-3) 4) (c340_14, [(2, 42), (0, a1), (0, x2)], [], h1, 0, 0)) := by
  intro N
  induction N with
  | zero => exact fun h1 x2 g1 k1 b0 b1 b2 b3 hm => absurd hm (by omega)
  | succ N ih =>
    show _
    intro h1 x2 g1 k1 b0 b1 b2 b3 hm
    refine ev_iload_n rfl ?_
    refine ev_aload_n rfl ?_
    obtain ⟨v46776, ev46776, lv46776, uv46776⟩ := g1.rd ad42 (show 51 < 66 by decide) rf42_51
    refine g_getv (r := 42) (v := v46776) g1 ad42 (by decide) ft12_51 ev46776 ?_
    refine ev_icmpge f340_40 (fun c46777 => ?_) (fun c46777 => ?_)
    · refine ev_aload_n rfl ?_
      refine g_getv (r := 42) (v := v46776) g1 ad42 (by decide) ft12_51 (ev46776) ?_
      refine ev_iconst ?_
      refine ev_icmpne f340_51 (fun c46778 => ?_) (fun c46778 => ?_)
      · refine ev_aload_n rfl ?_
        refine g_getp (r := 42) (c := 71) g1 ad42 (by decide) (by decide) rf42_52 ft12_52 ?_
        refine ev_aload_n rfl ?_
        refine g_getv (r := 42) (v := v46776) g1 ad42 (by decide) ft12_51 (ev46776) ?_
        refine ev_iload_n rfl ?_
        refine g_iast g1 ad71 rt71 (fun _ => rfl) (by omega) (by omega) (by omega) (by omega) (fun h46779 e46779 g46779 => ?_)
        have k46779 := k1.wr e46779 rfl
        refine ev_aload_n rfl ?_
        refine ev_dup (by decide) ?_
        refine g_getv (r := 42) (v := v46776) g46779 ad42 (by decide) ft12_51 (((jw_ne e46779 (Or.inl (by decide))).trans ev46776)) ?_
        refine ev_iconst ?_
        refine ev_iadd (r := (v46776 + 1)) (by unfold w32; omega) ?_
        refine g_putf (r := 42) g46779 ad42 (by decide) ft12_51 (by decide) (fun e => absurd e nz12_51) rf42_51 (by decide) (by omega) (by omega) (fun h46780 e46780 g46780 => ?_)
        have k46780 := k46779.wr e46780 rfl
        refine ev_aload_n rfl ?_
        refine g_getv (r := 42) (v := (v46776 + 1)) g46780 ad42 (by decide) ft12_51 ((jw_eq e46780)) ?_
        exact ev_ret rfl (by decide) (by decide) ⟨_, rfl, by omega, by omega, g46780, k46780⟩
      · refine ev_bipush ?_
        exact ev_ret rfl (by decide) (by decide) ⟨_, rfl, by omega, by omega, g1, k1⟩
    · refine ev_aload_n rfl ?_
      refine g_getp (r := 42) (c := 71) g1 ad42 (by decide) (by decide) rf42_52 ft12_52 ?_
      refine ev_iload_n rfl ?_
      refine g_iald g1 ad71 rt71 (by omega) (by omega) (fun v46781 ev46781 lv46781 uv46781 => ?_)
      refine ev_iload_n rfl ?_
      refine ev_icmpne f340_34 (fun c46782 => ?_) (fun c46782 => ?_)
      · refine ev_iinc (w := (x2 + 1)) (L' := [(2, 42), (0, a1), (0, (x2 + 1))]) rfl (by unfold w32; omega) rfl ?_
        refine ev_goto f340_14 ?_
        exact ih _ _ g1 k1 (by omega) (by omega) (by omega) (by omega) (by omega)
      · refine ev_iconst ?_
        exact ev_ret rfl (by decide) (by decide) ⟨_, rfl, by omega, by omega, g1, k1⟩
set_option maxHeartbeats 4000000 in
theorem s340 {G : GH} {h : JH} (g : Gd G h) {a1 : Int} (la1 : (-2147483648) ≤ a1) (ua1 : a1 ≤ 2147483647) : jOk 2 0 0 340 [(2, 42), (0, a1)] h (PI G [(42, 52), (71, 0)] h 0 (-3) 4) := by
  refine ⟨by decide, by rw [ml340]; exact Nat.le_of_ble_eq_true rfl, ?_⟩
  rw [ml340, pp340]
  show jEv _ none _ c340_0 0 0 _ (c340_0, [(2, 42), (0, a1), (9, 0)], [], h, 0, 0)
  have k0 := Kp.rf [(42, 52), (71, 0)] h
  refine ev_iload_n rfl ?_
  refine ev_iconst ?_
  refine ev_bipush ?_
  refine ev_in (d := 0) (a := 0) (b := 0) (cd' := c242_0) (m := 3) (L0 := [(0, a1), (0, 0), (0, 99)]) (jcall_s (A := [(0, 99), (0, 0), (0, a1)]) (S' := []) (by decide) rfl (Nat.le_of_ble_eq_true rfl)) (by decide) ml242 pp242 (Nat.le_of_ble_eq_true rfl) rfl (by decide) (by decide) ?_
  refine ev_iload_n rfl ?_
  refine ev_iload_n rfl ?_
  refine ev_icmplt f242_14 (fun c46783 => ?_) (fun c46783 => ?_)
  · refine ev_iconst ?_
    refine ev_ret rfl (by decide) (by decide) ?_
    show jEv _ _ _ _ _ _ _ (_, [(2, 42), (0, a1), (9, 0)], [(0, 0)], _, _, _)
    refine ev_ifne f340_12 (fun c46784 => absurd c46784 (by omega)) (fun c46784 => ?_)
    refine ev_iconst ?_
    exact ev_ret rfl (by decide) (by decide) ⟨_, rfl, by omega, by omega, g, k0⟩
  · refine ev_iload_n rfl ?_
    refine ev_iload_n rfl ?_
    refine ev_icmpgt f242_14 (fun c46785 => ?_) (fun c46785 => ?_)
    · refine ev_iconst ?_
      refine ev_ret rfl (by decide) (by decide) ?_
      show jEv _ _ _ _ _ _ _ (_, [(2, 42), (0, a1), (9, 0)], [(0, 0)], _, _, _)
      refine ev_ifne f340_12 (fun c46786 => absurd c46786 (by omega)) (fun c46786 => ?_)
      refine ev_iconst ?_
      exact ev_ret rfl (by decide) (by decide) ⟨_, rfl, by omega, by omega, g, k0⟩
    · refine ev_iconst ?_
      refine ev_goto f242_15 ?_
      refine ev_ret rfl (by decide) (by decide) ?_
      show jEv _ _ _ _ _ _ _ (_, [(2, 42), (0, a1), (9, 0)], [(0, 1)], _, _, _)
      refine ev_ifne f340_12 (fun c46787 => ?_) (fun c46787 => absurd c46787 (by omega))
      refine ev_iconst ?_
      refine ev_istore_n (L' := [(2, 42), (0, a1), (0, 0)]) (Nat.le_of_ble_eq_true rfl) rfl ?_
      exact (s340_l la1 ua1 10) _ _ g k0 (by omega) (by omega) (by omega) (by omega) (by omega)
/-! 342 isToTake -/
set_option maxHeartbeats 4000000 in
theorem s342_l {G : GH} {h : JH} {a1 : Int} (la1 : 0 ≤ a1) (ua1 : a1 ≤ 3) {a2 : Int} (la2 : (-2147483648) ≤ a2) (ua2 : a2 ≤ 2147483647) {a3 : Int} (la3 : 0 ≤ a3) (ua3 : a3 ≤ 99) : ∀ N : Nat, (∀ (h1 : JH) (x4 x5 x6 x7 : Int), Gd G h1 → Kp [] h h1 → 0 ≤ a1 → a1 ≤ 3 → (-2147483648) ≤ a2 → a2 ≤ 2147483647 → 0 ≤ a3 → a3 ≤ 99 → (-2147483648) ≤ x4 → x4 ≤ 2147483647 → (-2147483648) ≤ x5 → x5 ≤ 2147483647 → 0 ≤ x6 → x6 ≤ 99 → 0 ≤ x7 → x7 ≤ 3 → ((-x7) + 3) < N → jEv (jOk 1) none (fun _ => 0) c342_0 0 0 (PI G [] h 0 0 1) (c342_13, [(2, 42), (0, a1), (0, a2), (0, a3), (0, x4), (0, x5), (0, x6), (0, x7)], [], h1, 0, 0)) := by
  intro N
  induction N with
  | zero => exact fun h1 x4 x5 x6 x7 g1 k1 b0 b1 b2 b3 b4 b5 b6 b7 b8 b9 b10 b11 b12 b13 hm => absurd hm (by omega)
  | succ N ih =>
    show _
    intro h1 x4 x5 x6 x7 g1 k1 b0 b1 b2 b3 b4 b5 b6 b7 b8 b9 b10 b11 b12 b13 hm
    refine ev_iload rfl ?_
    refine ev_aload_n rfl ?_
    obtain ⟨v47481, ev47481, lv47481, uv47481⟩ := g1.rd ad42 (show 47 < 66 by decide) rf42_47
    refine g_getv (r := 42) (v := v47481) g1 ad42 (by decide) ft12_47 ev47481 ?_
    refine ev_icmpge f342_96 (fun c47482 => ?_) (fun c47482 => ?_)
    · refine ev_iload rfl ?_
      refine ev_ifne f342_122 (fun c47483 => ?_) (fun c47483 => ?_)
      · refine ev_aload_n rfl ?_
        refine g_getp (r := 42) (c := 71) g1 ad42 (by decide) (by decide) rf42_52 ft12_52 ?_
        refine ev_iload_n rfl ?_
        refine g_iald g1 ad71 rt71 (by omega) (by omega) (fun v47484 ev47484 lv47484 uv47484 => ?_)
        refine ev_iload rfl ?_
        refine g_imulG (fun v47485 ev47485 lv47485 uv47485 => ?_)
        refine ev_iload rfl ?_
        refine ev_iload_n rfl ?_
        refine ev_iload rfl ?_
        refine g_imulG (fun v47486 ev47486 lv47486 uv47486 => ?_)
        refine g_iaddG (fun v47487 ev47487 lv47487 uv47487 => ?_)
        refine ev_icmpgt f342_145 (fun c47488 => ?_) (fun c47488 => ?_)
        · refine ev_iconst ?_
          exact ev_ret rfl (by decide) (by decide) ⟨_, rfl, by omega, by omega, g1, k1⟩
        · refine ev_iconst ?_
          refine ev_goto f342_146 ?_
          exact ev_ret rfl (by decide) (by decide) ⟨_, rfl, by omega, by omega, g1, k1⟩
      · refine ev_aload_n rfl ?_
        refine g_getp (r := 42) (c := 71) g1 ad42 (by decide) (by decide) rf42_52 ft12_52 ?_
        refine ev_iload_n rfl ?_
        refine g_iald g1 ad71 rt71 (by omega) (by omega) (fun v47489 ev47489 lv47489 uv47489 => ?_)
        refine ev_iload rfl ?_
        refine ev_iload_n rfl ?_
        refine ev_iadd (r := (a3 + x6)) (by unfold w32; omega) ?_
        refine ev_icmpgt f342_118 (fun c47490 => ?_) (fun c47490 => ?_)
        · refine ev_iconst ?_
          refine ev_goto f342_146 ?_
          exact ev_ret rfl (by decide) (by decide) ⟨_, rfl, by omega, by omega, g1, k1⟩
        · refine ev_iconst ?_
          refine ev_goto f342_146 ?_
          exact ev_ret rfl (by decide) (by decide) ⟨_, rfl, by omega, by omega, g1, k1⟩
    · refine ev_iload rfl ?_
      refine ev_aload_n rfl ?_
      refine g_getp (r := 42) (c := 69) g1 ad42 (by decide) (by decide) rf42_49 ft12_49 ?_
      refine ev_iload rfl ?_
      refine g_iald g1 ad69 rt69 (by omega) (by omega) (fun v47491 ev47491 lv47491 uv47491 => ?_)
      refine ev_in (d := 0) (a := 0) (b := 0) (cd' := c334_0) (m := 2) (L0 := [(0, x6), (0, v47491)]) (jcall_s (A := [(0, v47491), (0, x6)]) (S' := []) (by decide) rfl (Nat.le_of_ble_eq_true rfl)) (by decide) ml334 pp334 (Nat.le_of_ble_eq_true rfl) rfl (by decide) (by decide) ?_
      refine ev_iload_n rfl ?_
      refine ev_iload_n rfl ?_
      refine ev_icmpge f334_9 (fun c47492 => ?_) (fun c47492 => ?_)
      · refine ev_iload_n rfl ?_
        refine ev_ret rfl (by decide) (by decide) ?_
        show jEv _ _ _ _ _ _ _ (_, [(2, 42), (0, a1), (0, a2), (0, a3), (0, x4), (0, x5), (0, x6), (0, x7)], [(0, v47491)], _, _, _)
        refine ev_istore (L' := [(2, 42), (0, a1), (0, a2), (0, a3), (0, x4), (0, x5), (0, v47491), (0, x7)]) (Nat.le_of_ble_eq_true rfl) rfl ?_
        refine ev_iload_n rfl ?_
        refine ev_iconst ?_
        refine ev_aload_n rfl ?_
        refine g_getv (r := 42) (v := v47481) g1 ad42 (by decide) ft12_47 (ev47481) ?_
        refine ev_iconst ?_
        refine ev_isub (r := (v47481 - 1)) (by unfold w32; omega) ?_
        refine ev_iload rfl ?_
        refine ev_isub (r := (v47481 + (-x7) - 1)) (by unfold w32; omega) ?_
        refine ev_imul (r := (2 * v47481 + (-2) * x7 - 2)) (by unfold w32; omega) ?_
        refine g_ishrG (fun v47493 ev47493 lv47493 uv47493 => ?_)
        refine ev_iconst ?_
        refine g_iandB (b := 3) (by omega) (by omega) (by decide) (fun v47494 ev47494 lv47494 uv47494 => ?_)
        refine ev_iload_n rfl ?_
        refine ev_icmpeq f342_58 (fun c47495 => ?_) (fun c47495 => ?_)
        · refine ev_iload rfl ?_
          refine ev_aload_n rfl ?_
          refine g_getp (r := 42) (c := 68) g1 ad42 (by decide) (by decide) rf42_48 ft12_48 ?_
          refine ev_iload rfl ?_
          refine g_iald g1 ad68 rt68 (by omega) (by omega) (fun v47496 ev47496 lv47496 uv47496 => ?_)
          refine g_iaddG (fun v47497 ev47497 lv47497 uv47497 => ?_)
          refine ev_istore (L' := [(2, 42), (0, a1), (0, a2), (0, a3), (0, v47497), (0, x5), (0, v47491), (0, x7)]) (Nat.le_of_ble_eq_true rfl) rfl ?_
          refine ev_iload rfl ?_
          refine ev_aload_n rfl ?_
          refine g_getp (r := 42) (c := 68) g1 ad42 (by decide) (by decide) rf42_48 ft12_48 ?_
          refine ev_iload rfl ?_
          refine g_ialdv (v := v47496) g1 ad68 (by omega) (by omega) (ev47496) ?_
          refine ev_aload_n rfl ?_
          refine g_getp (r := 42) (c := 69) g1 ad42 (by decide) (by decide) rf42_49 ft12_49 ?_
          refine ev_iload rfl ?_
          refine g_ialdv (v := v47491) g1 ad69 (by omega) (by omega) (ev47491) ?_
          refine g_imulB (a := 9) (b := 99) (a' := 0) (b' := 0) (by omega) (by omega) (by omega) (by omega) (by decide) (lo := 0) (hi := 891) (by decide) (by decide) (fun v47498 ev47498 lv47498 uv47498 => ?_)
          refine g_iaddG (fun v47499 ev47499 lv47499 uv47499 => ?_)
          refine ev_istore (L' := [(2, 42), (0, a1), (0, a2), (0, a3), (0, v47497), (0, v47499), (0, v47491), (0, x7)]) (Nat.le_of_ble_eq_true rfl) rfl ?_
          refine ev_iinc (w := (x7 + 1)) (L' := [(2, 42), (0, a1), (0, a2), (0, a3), (0, v47497), (0, v47499), (0, v47491), (0, (x7 + 1))]) rfl (by unfold w32; omega) rfl ?_
          refine ev_goto f342_13 ?_
          exact ih _ _ _ _ _ g1 k1 (by omega) (by omega) (by omega) (by omega) (by omega) (by omega) (by omega) (by omega) (by omega) (by omega) (by omega) (by omega) (by omega) (by omega) (by omega)
        · refine ev_goto f342_90 ?_
          refine ev_iinc (w := (x7 + 1)) (L' := [(2, 42), (0, a1), (0, a2), (0, a3), (0, x4), (0, x5), (0, v47491), (0, (x7 + 1))]) rfl (by unfold w32; omega) rfl ?_
          refine ev_goto f342_13 ?_
          exact ih _ _ _ _ _ g1 k1 (by omega) (by omega) (by omega) (by omega) (by omega) (by omega) (by omega) (by omega) (by omega) (by omega) (by omega) (by omega) (by omega) (by omega) (by omega)
      · refine ev_iload_n rfl ?_
        refine ev_goto f334_10 ?_
        refine ev_ret rfl (by decide) (by decide) ?_
        show jEv _ _ _ _ _ _ _ (_, [(2, 42), (0, a1), (0, a2), (0, a3), (0, x4), (0, x5), (0, x6), (0, x7)], [(0, x6)], _, _, _)
        refine ev_istore (L' := [(2, 42), (0, a1), (0, a2), (0, a3), (0, x4), (0, x5), (0, x6), (0, x7)]) (Nat.le_of_ble_eq_true rfl) rfl ?_
        refine ev_iload_n rfl ?_
        refine ev_iconst ?_
        refine ev_aload_n rfl ?_
        refine g_getv (r := 42) (v := v47481) g1 ad42 (by decide) ft12_47 (ev47481) ?_
        refine ev_iconst ?_
        refine ev_isub (r := (v47481 - 1)) (by unfold w32; omega) ?_
        refine ev_iload rfl ?_
        refine ev_isub (r := (v47481 + (-x7) - 1)) (by unfold w32; omega) ?_
        refine ev_imul (r := (2 * v47481 + (-2) * x7 - 2)) (by unfold w32; omega) ?_
        refine g_ishrG (fun v47500 ev47500 lv47500 uv47500 => ?_)
        refine ev_iconst ?_
        refine g_iandB (b := 3) (by omega) (by omega) (by decide) (fun v47501 ev47501 lv47501 uv47501 => ?_)
        refine ev_iload_n rfl ?_
        refine ev_icmpeq f342_58 (fun c47502 => ?_) (fun c47502 => ?_)
        · refine ev_iload rfl ?_
          refine ev_aload_n rfl ?_
          refine g_getp (r := 42) (c := 68) g1 ad42 (by decide) (by decide) rf42_48 ft12_48 ?_
          refine ev_iload rfl ?_
          refine g_iald g1 ad68 rt68 (by omega) (by omega) (fun v47503 ev47503 lv47503 uv47503 => ?_)
          refine g_iaddG (fun v47504 ev47504 lv47504 uv47504 => ?_)
          refine ev_istore (L' := [(2, 42), (0, a1), (0, a2), (0, a3), (0, v47504), (0, x5), (0, x6), (0, x7)]) (Nat.le_of_ble_eq_true rfl) rfl ?_
          refine ev_iload rfl ?_
          refine ev_aload_n rfl ?_
          refine g_getp (r := 42) (c := 68) g1 ad42 (by decide) (by decide) rf42_48 ft12_48 ?_
          refine ev_iload rfl ?_
          refine g_ialdv (v := v47503) g1 ad68 (by omega) (by omega) (ev47503) ?_
          refine ev_aload_n rfl ?_
          refine g_getp (r := 42) (c := 69) g1 ad42 (by decide) (by decide) rf42_49 ft12_49 ?_
          refine ev_iload rfl ?_
          refine g_ialdv (v := v47491) g1 ad69 (by omega) (by omega) (ev47491) ?_
          refine g_imulB (a := 9) (b := 99) (a' := 0) (b' := 1) (by omega) (by omega) (by omega) (by omega) (by decide) (lo := 0) (hi := 891) (by decide) (by decide) (fun v47505 ev47505 lv47505 uv47505 => ?_)
          refine g_iaddG (fun v47506 ev47506 lv47506 uv47506 => ?_)
          refine ev_istore (L' := [(2, 42), (0, a1), (0, a2), (0, a3), (0, v47504), (0, v47506), (0, x6), (0, x7)]) (Nat.le_of_ble_eq_true rfl) rfl ?_
          refine ev_iinc (w := (x7 + 1)) (L' := [(2, 42), (0, a1), (0, a2), (0, a3), (0, v47504), (0, v47506), (0, x6), (0, (x7 + 1))]) rfl (by unfold w32; omega) rfl ?_
          refine ev_goto f342_13 ?_
          exact ih _ _ _ _ _ g1 k1 (by omega) (by omega) (by omega) (by omega) (by omega) (by omega) (by omega) (by omega) (by omega) (by omega) (by omega) (by omega) (by omega) (by omega) (by omega)
        · refine ev_goto f342_90 ?_
          refine ev_iinc (w := (x7 + 1)) (L' := [(2, 42), (0, a1), (0, a2), (0, a3), (0, x4), (0, x5), (0, x6), (0, (x7 + 1))]) rfl (by unfold w32; omega) rfl ?_
          refine ev_goto f342_13 ?_
          exact ih _ _ _ _ _ g1 k1 (by omega) (by omega) (by omega) (by omega) (by omega) (by omega) (by omega) (by omega) (by omega) (by omega) (by omega) (by omega) (by omega) (by omega) (by omega)
set_option maxHeartbeats 4000000 in
theorem s342 {G : GH} {h : JH} (g : Gd G h) {a1 : Int} (la1 : 0 ≤ a1) (ua1 : a1 ≤ 3) {a2 : Int} (la2 : (-2147483648) ≤ a2) (ua2 : a2 ≤ 2147483647) {a3 : Int} (la3 : 0 ≤ a3) (ua3 : a3 ≤ 99) : jOk 2 0 0 342 [(2, 42), (0, a1), (0, a2), (0, a3)] h (PI G [] h 0 0 1) := by
  refine ⟨by decide, by rw [ml342]; exact Nat.le_of_ble_eq_true rfl, ?_⟩
  rw [ml342, pp342]
  show jEv _ none _ c342_0 0 0 _ (c342_0, [(2, 42), (0, a1), (0, a2), (0, a3), (9, 0), (9, 0), (9, 0), (9, 0)], [], h, 0, 0)
  have k0 := Kp.rf [] h
  refine ev_iconst ?_
  refine ev_istore (L' := [(2, 42), (0, a1), (0, a2), (0, a3), (0, 0), (9, 0), (9, 0), (9, 0)]) (Nat.le_of_ble_eq_true rfl) rfl ?_
  refine ev_iconst ?_
  refine ev_istore (L' := [(2, 42), (0, a1), (0, a2), (0, a3), (0, 0), (0, 0), (9, 0), (9, 0)]) (Nat.le_of_ble_eq_true rfl) rfl ?_
  refine ev_bipush ?_
  refine ev_istore (L' := [(2, 42), (0, a1), (0, a2), (0, a3), (0, 0), (0, 0), (0, 99), (9, 0)]) (Nat.le_of_ble_eq_true rfl) rfl ?_
  refine ev_iconst ?_
  refine ev_istore (L' := [(2, 42), (0, a1), (0, a2), (0, a3), (0, 0), (0, 0), (0, 99), (0, 0)]) (Nat.le_of_ble_eq_true rfl) rfl ?_
  exact (s342_l la1 ua1 la2 ua2 la3 ua3 8) _ _ _ _ _ g k0 (by omega) (by omega) (by omega) (by omega) (by omega) (by omega) (by omega) (by omega) (by omega) (by omega) (by omega) (by omega) (by omega) (by omega) (by omega)
/-! 343 holdsFor -/
set_option maxHeartbeats 4000000 in
theorem s343_l {G : GH} {h : JH} {a1 : Int} (la1 : (-2147483648) ≤ a1) (ua1 : a1 ≤ 2147483647) {a2 : Int} (la2 : (-2147483648) ≤ a2) (ua2 : a2 ≤ 2147483647) {a3 : Int} (la3 : 0 ≤ a3) (ua3 : a3 ≤ 99) : ∀ N : Nat, (∀ (h1 : JH) (x4 : Int) (j5 j6 : AV), Gd G h1 → Kp [] h h1 → (-2147483648) ≤ a1 → a1 ≤ 2147483647 → (-2147483648) ≤ a2 → a2 ≤ 2147483647 → 0 ≤ a3 → a3 ≤ 99 → 0 ≤ x4 → x4 ≤ 3 → ((-10) * x4 + 85) < N → jEv (jOk 2) none (fun _ => 0) c343_0 0 0 (PI G [] h 0 0 1) (c343_3, [(2, 42), (0, a1), (0, a2), (0, a3), (0, x4), j5, j6], [], h1, 0, 0)) ∧ (∀ (h1 : JH) (x4 x5 x6 : Int), Gd G h1 → Kp [] h h1 → (-2147483648) ≤ a1 → a1 ≤ 2147483647 → (-2147483648) ≤ a2 → a2 ≤ 2147483647 → 0 ≤ a3 → a3 ≤ 99 → 0 ≤ x4 → x4 ≤ 2 → 0 ≤ x5 → x5 ≤ 3 → 0 ≤ x6 → x6 ≤ 4 → ((-10) * x4 + (-x6) + 84) < N → jEv (jOk 2) none (fun _ => 0) c343_0 0 0 (PI G [] h 0 0 1) (c343_43, [(2, 42), (0, a1), (0, a2), (0, a3), (0, x4), (0, x5), (0, x6)], [], h1, 0, 0)) ∧ (∀ (h1 : JH) (x4 : Int) (j5 j6 : AV), Gd G h1 → Kp [] h h1 → (-2147483648) ≤ a1 → a1 ≤ 2147483647 → (-2147483648) ≤ a2 → a2 ≤ 2147483647 → 0 ≤ a3 → a3 ≤ 99 → 0 ≤ x4 → x4 ≤ 4 → ((-10) * x4 + 45) < N → jEv (jOk 2) none (fun _ => 0) c343_0 0 0 (PI G [] h 0 0 1) (c343_90, [(2, 42), (0, a1), (0, a2), (0, a3), (0, x4), j5, j6], [], h1, 0, 0)) := by
  intro N
  induction N with
  | zero => exact ⟨fun h1 x4 j5 j6 g1 k1 b0 b1 b2 b3 b4 b5 b6 b7 hm => absurd hm (by omega), fun h1 x4 x5 x6 g1 k1 b0 b1 b2 b3 b4 b5 b6 b7 b8 b9 b10 b11 hm => absurd hm (by omega), fun h1 x4 j5 j6 g1 k1 b0 b1 b2 b3 b4 b5 b6 b7 hm => absurd hm (by omega)⟩
  | succ N ih =>
    refine ⟨?_, ?_, ?_⟩
    · intro h1 x4 j5 j6 g1 k1 b0 b1 b2 b3 b4 b5 b6 b7 hm
      refine ev_iload rfl ?_
      refine ev_aload_n rfl ?_
      obtain ⟨v47721, ev47721, lv47721, uv47721⟩ := g1.rd ad42 (show 47 < 66 by decide) rf42_47
      refine g_getv (r := 42) (v := v47721) g1 ad42 (by decide) ft12_47 ev47721 ?_
      refine ev_icmpge f343_87 (fun c47722 => ?_) (fun c47722 => ?_)
      · refine ev_iconst ?_
        refine ev_istore (L' := [(2, 42), (0, a1), (0, a2), (0, a3), (0, 0), j5, j6]) (Nat.le_of_ble_eq_true rfl) rfl ?_
        exact ih.2.2 _ _ _ _ g1 k1 (by omega) (by omega) (by omega) (by omega) (by omega) (by omega) (by omega) (by omega) (by omega)
      · refine ev_iload_n rfl ?_
        refine ev_iconst ?_
        refine ev_aload_n rfl ?_
        refine g_getv (r := 42) (v := v47721) g1 ad42 (by decide) ft12_47 (ev47721) ?_
        refine ev_iconst ?_
        refine ev_isub (r := (v47721 - 1)) (by unfold w32; omega) ?_
        refine ev_iload rfl ?_
        refine ev_isub (r := (v47721 + (-x4) - 1)) (by unfold w32; omega) ?_
        refine ev_imul (r := (2 * v47721 + (-2) * x4 - 2)) (by unfold w32; omega) ?_
        refine g_ishrG (fun v47723 ev47723 lv47723 uv47723 => ?_)
        refine ev_iconst ?_
        refine g_iandB (b := 3) (by omega) (by omega) (by decide) (fun v47724 ev47724 lv47724 uv47724 => ?_)
        refine ev_istore (L' := [(2, 42), (0, a1), (0, a2), (0, a3), (0, x4), (0, v47724), j6]) (Nat.le_of_ble_eq_true rfl) rfl ?_
        refine ev_iload rfl ?_
        refine ev_aload_n rfl ?_
        obtain ⟨v47725, ev47725, lv47725, uv47725⟩ := g1.rd ad42 (show 51 < 66 by decide) rf42_51
        refine g_getv (r := 42) (v := v47725) g1 ad42 (by decide) ft12_51 ev47725 ?_
        refine ev_icmplt f343_40 (fun c47726 => ?_) (fun c47726 => ?_)
        · refine ev_iconst ?_
          refine ev_istore (L' := [(2, 42), (0, a1), (0, a2), (0, a3), (0, x4), (0, v47724), (0, 0)]) (Nat.le_of_ble_eq_true rfl) rfl ?_
          exact ih.2.1 _ _ _ _ g1 k1 (by omega) (by omega) (by omega) (by omega) (by omega) (by omega) (by omega) (by omega) (by omega) (by omega) (by omega) (by omega) (by omega)
        · refine ev_iconst ?_
          exact ev_ret rfl (by decide) (by decide) ⟨_, rfl, by omega, by omega, g1, k1⟩
    · intro h1 x4 x5 x6 g1 k1 b0 b1 b2 b3 b4 b5 b6 b7 b8 b9 b10 b11 hm
      refine ev_iload rfl ?_
      refine ev_aload_n rfl ?_
      obtain ⟨v47727, ev47727, lv47727, uv47727⟩ := g1.rd ad42 (show 51 < 66 by decide) rf42_51
      refine g_getv (r := 42) (v := v47727) g1 ad42 (by decide) ft12_51 ev47727 ?_
      refine ev_icmpge f343_81 (fun c47728 => ?_) (fun c47728 => ?_)
      · refine ev_iinc (w := (x4 + 1)) (L' := [(2, 42), (0, a1), (0, a2), (0, a3), (0, (x4 + 1)), (0, x5), (0, x6)]) rfl (by unfold w32; omega) rfl ?_
        refine ev_goto f343_3 ?_
        exact ih.1 _ _ _ _ g1 k1 (by omega) (by omega) (by omega) (by omega) (by omega) (by omega) (by omega) (by omega) (by omega)
      · refine ev_aload_n rfl ?_
        refine ev_iload rfl ?_
        refine ev_iload rfl ?_
        refine ev_iload_n rfl ?_
        refine ev_in (d := 1) (a := 0) (b := 0) (cd' := c341_0) (m := 4) (L0 := [(2, 42), (0, x4), (0, x6), (0, a2)]) (jcall_v (A := [(0, a2), (0, x6), (0, x4)]) (S' := []) (r := 42) rfl (g1.lt ad42) (g1.tg ad42) (Nat.le_of_ble_eq_true rfl)) (by decide) ml341 pp341 (Nat.le_of_ble_eq_true rfl) rfl (by decide) (by decide) ?_
        refine ev_iload_n rfl ?_
        refine ev_iload_n rfl ?_
        refine g_ishrG (fun v47729 ev47729 lv47729 uv47729 => ?_)
        refine ev_iconst ?_
        refine g_iandB (b := 1) (by omega) (by omega) (by decide) (fun v47730 ev47730 lv47730 uv47730 => ?_)
        refine ev_iconst ?_
        refine ev_icmpne f341_18 (fun c47731 => ?_) (fun c47731 => ?_)
        · refine ev_aload_n rfl ?_
          refine g_getp (r := 42) (c := 69) g1 ad42 (by decide) (by decide) rf42_49 ft12_49 ?_
          refine ev_iload_n rfl ?_
          refine g_iald g1 ad69 rt69 (by omega) (by omega) (fun v47732 ev47732 lv47732 uv47732 => ?_)
          refine ev_aload_n rfl ?_
          refine g_getp (r := 42) (c := 70) g1 ad42 (by decide) (by decide) rf42_50 ft12_50 ?_
          refine ev_iload_n rfl ?_
          refine g_iald g1 ad70 rt70 (by omega) (by omega) (fun v47733 ev47733 lv47733 uv47733 => ?_)
          refine ev_isub (r := (v47732 + (-v47733))) (by unfold w32; omega) ?_
          refine ev_ret rfl (by decide) (by decide) ?_
          show jEv _ _ _ _ _ _ _ (_, [(2, 42), (0, a1), (0, a2), (0, a3), (0, x4), (0, x5), (0, x6)], [(0, (v47732 + (-v47733)))], _, _, _)
          refine ev_aload_n rfl ?_
          refine ev_iload rfl ?_
          refine ev_iload rfl ?_
          refine ev_iload_n rfl ?_
          refine ev_in (d := 1) (a := 0) (b := 0) (cd' := c341_0) (m := 4) (L0 := [(2, 42), (0, x4), (0, x5), (0, a2)]) (jcall_v (A := [(0, a2), (0, x5), (0, x4)]) (S' := [(0, (v47732 + (-v47733)))]) (r := 42) rfl (g1.lt ad42) (g1.tg ad42) (Nat.le_of_ble_eq_true rfl)) (by decide) ml341 pp341 (Nat.le_of_ble_eq_true rfl) rfl (by decide) (by decide) ?_
          refine ev_iload_n rfl ?_
          refine ev_iload_n rfl ?_
          refine g_ishrG (fun v47734 ev47734 lv47734 uv47734 => ?_)
          refine ev_iconst ?_
          refine g_iandB (b := 1) (by omega) (by omega) (by decide) (fun v47735 ev47735 lv47735 uv47735 => ?_)
          refine ev_iconst ?_
          refine ev_icmpne f341_18 (fun c47736 => ?_) (fun c47736 => ?_)
          · refine ev_aload_n rfl ?_
            refine g_getp (r := 42) (c := 69) g1 ad42 (by decide) (by decide) rf42_49 ft12_49 ?_
            refine ev_iload_n rfl ?_
            refine g_ialdv (v := v47732) g1 ad69 (by omega) (by omega) (ev47732) ?_
            refine ev_aload_n rfl ?_
            refine g_getp (r := 42) (c := 70) g1 ad42 (by decide) (by decide) rf42_50 ft12_50 ?_
            refine ev_iload_n rfl ?_
            refine g_ialdv (v := v47733) g1 ad70 (by omega) (by omega) (ev47733) ?_
            refine ev_isub (r := (v47732 + (-v47733))) (by unfold w32; omega) ?_
            refine ev_ret rfl (by decide) (by decide) ?_
            show jEv _ _ _ _ _ _ _ (_, [(2, 42), (0, a1), (0, a2), (0, a3), (0, x4), (0, x5), (0, x6)], [(0, (v47732 + (-v47733))), (0, (v47732 + (-v47733)))], _, _, _)
            refine ev_icmple f343_75 (fun c47737 => ?_) (fun c47737 => absurd c47737 (by omega))
            refine ev_iinc (w := (x6 + 1)) (L' := [(2, 42), (0, a1), (0, a2), (0, a3), (0, x4), (0, x5), (0, (x6 + 1))]) rfl (by unfold w32; omega) rfl ?_
            refine ev_goto f343_43 ?_
            exact ih.2.1 _ _ _ _ g1 k1 (by omega) (by omega) (by omega) (by omega) (by omega) (by omega) (by omega) (by omega) (by omega) (by omega) (by omega) (by omega) (by omega)
          · refine ev_aload_n rfl ?_
            refine g_getp (r := 42) (c := 71) g1 ad42 (by decide) (by decide) rf42_52 ft12_52 ?_
            refine ev_iload_n rfl ?_
            refine g_iald g1 ad71 rt71 (by omega) (by omega) (fun v47738 ev47738 lv47738 uv47738 => ?_)
            refine ev_goto f341_31 ?_
            refine ev_ret rfl (by decide) (by decide) ?_
            show jEv _ _ _ _ _ _ _ (_, [(2, 42), (0, a1), (0, a2), (0, a3), (0, x4), (0, x5), (0, x6)], [(0, v47738), (0, (v47732 + (-v47733)))], _, _, _)
            refine ev_icmple f343_75 (fun c47739 => ?_) (fun c47739 => ?_)
            · refine ev_iinc (w := (x6 + 1)) (L' := [(2, 42), (0, a1), (0, a2), (0, a3), (0, x4), (0, x5), (0, (x6 + 1))]) rfl (by unfold w32; omega) rfl ?_
              refine ev_goto f343_43 ?_
              exact ih.2.1 _ _ _ _ g1 k1 (by omega) (by omega) (by omega) (by omega) (by omega) (by omega) (by omega) (by omega) (by omega) (by omega) (by omega) (by omega) (by omega)
            · refine ev_iconst ?_
              exact ev_ret rfl (by decide) (by decide) ⟨_, rfl, by omega, by omega, g1, k1⟩
        · refine ev_aload_n rfl ?_
          refine g_getp (r := 42) (c := 71) g1 ad42 (by decide) (by decide) rf42_52 ft12_52 ?_
          refine ev_iload_n rfl ?_
          refine g_iald g1 ad71 rt71 (by omega) (by omega) (fun v47740 ev47740 lv47740 uv47740 => ?_)
          refine ev_goto f341_31 ?_
          refine ev_ret rfl (by decide) (by decide) ?_
          show jEv _ _ _ _ _ _ _ (_, [(2, 42), (0, a1), (0, a2), (0, a3), (0, x4), (0, x5), (0, x6)], [(0, v47740)], _, _, _)
          refine ev_aload_n rfl ?_
          refine ev_iload rfl ?_
          refine ev_iload rfl ?_
          refine ev_iload_n rfl ?_
          refine ev_in (d := 1) (a := 0) (b := 0) (cd' := c341_0) (m := 4) (L0 := [(2, 42), (0, x4), (0, x5), (0, a2)]) (jcall_v (A := [(0, a2), (0, x5), (0, x4)]) (S' := [(0, v47740)]) (r := 42) rfl (g1.lt ad42) (g1.tg ad42) (Nat.le_of_ble_eq_true rfl)) (by decide) ml341 pp341 (Nat.le_of_ble_eq_true rfl) rfl (by decide) (by decide) ?_
          refine ev_iload_n rfl ?_
          refine ev_iload_n rfl ?_
          refine g_ishrG (fun v47741 ev47741 lv47741 uv47741 => ?_)
          refine ev_iconst ?_
          refine g_iandB (b := 1) (by omega) (by omega) (by decide) (fun v47742 ev47742 lv47742 uv47742 => ?_)
          refine ev_iconst ?_
          refine ev_icmpne f341_18 (fun c47743 => ?_) (fun c47743 => ?_)
          · refine ev_aload_n rfl ?_
            refine g_getp (r := 42) (c := 69) g1 ad42 (by decide) (by decide) rf42_49 ft12_49 ?_
            refine ev_iload_n rfl ?_
            refine g_iald g1 ad69 rt69 (by omega) (by omega) (fun v47744 ev47744 lv47744 uv47744 => ?_)
            refine ev_aload_n rfl ?_
            refine g_getp (r := 42) (c := 70) g1 ad42 (by decide) (by decide) rf42_50 ft12_50 ?_
            refine ev_iload_n rfl ?_
            refine g_iald g1 ad70 rt70 (by omega) (by omega) (fun v47745 ev47745 lv47745 uv47745 => ?_)
            refine ev_isub (r := (v47744 + (-v47745))) (by unfold w32; omega) ?_
            refine ev_ret rfl (by decide) (by decide) ?_
            show jEv _ _ _ _ _ _ _ (_, [(2, 42), (0, a1), (0, a2), (0, a3), (0, x4), (0, x5), (0, x6)], [(0, (v47744 + (-v47745))), (0, v47740)], _, _, _)
            refine ev_icmple f343_75 (fun c47746 => ?_) (fun c47746 => ?_)
            · refine ev_iinc (w := (x6 + 1)) (L' := [(2, 42), (0, a1), (0, a2), (0, a3), (0, x4), (0, x5), (0, (x6 + 1))]) rfl (by unfold w32; omega) rfl ?_
              refine ev_goto f343_43 ?_
              exact ih.2.1 _ _ _ _ g1 k1 (by omega) (by omega) (by omega) (by omega) (by omega) (by omega) (by omega) (by omega) (by omega) (by omega) (by omega) (by omega) (by omega)
            · refine ev_iconst ?_
              exact ev_ret rfl (by decide) (by decide) ⟨_, rfl, by omega, by omega, g1, k1⟩
          · refine ev_aload_n rfl ?_
            refine g_getp (r := 42) (c := 71) g1 ad42 (by decide) (by decide) rf42_52 ft12_52 ?_
            refine ev_iload_n rfl ?_
            refine g_iald g1 ad71 rt71 (by omega) (by omega) (fun v47747 ev47747 lv47747 uv47747 => ?_)
            refine ev_goto f341_31 ?_
            refine ev_ret rfl (by decide) (by decide) ?_
            show jEv _ _ _ _ _ _ _ (_, [(2, 42), (0, a1), (0, a2), (0, a3), (0, x4), (0, x5), (0, x6)], [(0, v47747), (0, v47740)], _, _, _)
            refine ev_icmple f343_75 (fun c47748 => ?_) (fun c47748 => ?_)
            · refine ev_iinc (w := (x6 + 1)) (L' := [(2, 42), (0, a1), (0, a2), (0, a3), (0, x4), (0, x5), (0, (x6 + 1))]) rfl (by unfold w32; omega) rfl ?_
              refine ev_goto f343_43 ?_
              exact ih.2.1 _ _ _ _ g1 k1 (by omega) (by omega) (by omega) (by omega) (by omega) (by omega) (by omega) (by omega) (by omega) (by omega) (by omega) (by omega) (by omega)
            · refine ev_iconst ?_
              exact ev_ret rfl (by decide) (by decide) ⟨_, rfl, by omega, by omega, g1, k1⟩
    · intro h1 x4 j5 j6 g1 k1 b0 b1 b2 b3 b4 b5 b6 b7 hm
      refine ev_iload rfl ?_
      refine ev_aload_n rfl ?_
      obtain ⟨v47749, ev47749, lv47749, uv47749⟩ := g1.rd ad42 (show 51 < 66 by decide) rf42_51
      refine g_getv (r := 42) (v := v47749) g1 ad42 (by decide) ft12_51 ev47749 ?_
      refine ev_icmpge f343_133 (fun c47750 => ?_) (fun c47750 => ?_)
      · refine ev_iconst ?_
        exact ev_ret rfl (by decide) (by decide) ⟨_, rfl, by omega, by omega, g1, k1⟩
      · refine ev_aload_n rfl ?_
        refine ev_iload rfl ?_
        refine ev_iload_n rfl ?_
        refine ev_iload_n rfl ?_
        refine ev_call (jcall_v (A := [(0, a3), (0, a1), (0, x4)]) (S' := []) (r := 42) rfl (g1.lt ad42) (g1.tg ad42) (Nat.le_of_ble_eq_true rfl)) (jOk_le (by decide) (s342 g1 (by omega) (by omega) (by omega) (by omega) (by omega) (by omega))) (by decide) (by decide) (fun w47751 h47751 q47751 => ?_)
        obtain ⟨v47752, rfl, lv47752, uv47752, g47751, kk47751⟩ := q47751
        have k47751 := k1.tr kk47751 (by decide)
        show jEv _ _ _ _ _ _ _ (_, [(2, 42), (0, a1), (0, a2), (0, a3), (0, x4), j5, j6], [(0, v47752)], _, _, _)
        refine ev_iload_n rfl ?_
        refine ev_iload rfl ?_
        refine g_ishrG (fun v47753 ev47753 lv47753 uv47753 => ?_)
        refine ev_iconst ?_
        refine g_iandB (b := 1) (by omega) (by omega) (by decide) (fun v47754 ev47754 lv47754 uv47754 => ?_)
        refine ev_iconst ?_
        refine ev_icmpne f343_121 (fun c47755 => ?_) (fun c47755 => ?_)
        · refine ev_iconst ?_
          refine ev_icmpeq f343_127 (fun c47756 => ?_) (fun c47756 => ?_)
          · refine ev_iinc (w := (x4 + 1)) (L' := [(2, 42), (0, a1), (0, a2), (0, a3), (0, (x4 + 1)), j5, j6]) rfl (by unfold w32; omega) rfl ?_
            refine ev_goto f343_90 ?_
            exact ih.2.2 _ _ _ _ g47751 k47751 (by omega) (by omega) (by omega) (by omega) (by omega) (by omega) (by omega) (by omega) (by omega)
          · refine ev_iconst ?_
            exact ev_ret rfl (by decide) (by decide) ⟨_, rfl, by omega, by omega, g47751, k47751⟩
        · refine ev_iconst ?_
          refine ev_goto f343_122 ?_
          refine ev_icmpeq f343_127 (fun c47757 => ?_) (fun c47757 => ?_)
          · refine ev_iinc (w := (x4 + 1)) (L' := [(2, 42), (0, a1), (0, a2), (0, a3), (0, (x4 + 1)), j5, j6]) rfl (by unfold w32; omega) rfl ?_
            refine ev_goto f343_90 ?_
            exact ih.2.2 _ _ _ _ g47751 k47751 (by omega) (by omega) (by omega) (by omega) (by omega) (by omega) (by omega) (by omega) (by omega)
          · refine ev_iconst ?_
            exact ev_ret rfl (by decide) (by decide) ⟨_, rfl, by omega, by omega, g47751, k47751⟩
set_option maxHeartbeats 4000000 in
theorem s343 {G : GH} {h : JH} (g : Gd G h) {a1 : Int} (la1 : (-2147483648) ≤ a1) (ua1 : a1 ≤ 2147483647) {a2 : Int} (la2 : (-2147483648) ≤ a2) (ua2 : a2 ≤ 2147483647) {a3 : Int} (la3 : 0 ≤ a3) (ua3 : a3 ≤ 99) : jOk 3 0 0 343 [(2, 42), (0, a1), (0, a2), (0, a3)] h (PI G [] h 0 0 1) := by
  refine ⟨by decide, by rw [ml343]; exact Nat.le_of_ble_eq_true rfl, ?_⟩
  rw [ml343, pp343]
  show jEv _ none _ c343_0 0 0 _ (c343_0, [(2, 42), (0, a1), (0, a2), (0, a3), (9, 0), (9, 0), (9, 0)], [], h, 0, 0)
  have k0 := Kp.rf [] h
  refine ev_iconst ?_
  refine ev_istore (L' := [(2, 42), (0, a1), (0, a2), (0, a3), (0, 0), (9, 0), (9, 0)]) (Nat.le_of_ble_eq_true rfl) rfl ?_
  exact (s343_l la1 ua1 la2 ua2 la3 ua3 150).1 _ _ _ _ g k0 (by omega) (by omega) (by omega) (by omega) (by omega) (by omega) (by omega) (by omega) (by omega)
/-! 344 digitsOf -/
set_option maxHeartbeats 4000000 in
theorem s344_l {G : GH} {h : JH} {a0 : Int} (la0 : (-2147483648) ≤ a0) (ua0 : a0 ≤ 2147483647) {a1 : Int} (la1 : 0 ≤ a1) (ua1 : a1 ≤ 3) : ∀ N : Nat, (∀ (h1 : JH) (x2 x3 : Int), Gd G h1 → Kp [] h h1 → (-2147483648) ≤ a0 → a0 ≤ 2147483647 → 0 ≤ a1 → a1 ≤ 3 → (-2147483648) ≤ x2 → x2 ≤ 2147483647 → 0 ≤ x3 → x3 ≤ 3 → ((-x3) + 3) < N → jEv (jOk 0) none (fun _ => 0) c344_0 0 0 (PI G [] h 0 (-2147483648) 2147483647) (c344_4, [(0, a0), (0, a1), (0, x2), (0, x3)], [], h1, 0, 0)) := by
  intro N
  induction N with
  | zero => exact fun h1 x2 x3 g1 k1 b0 b1 b2 b3 b4 b5 b6 b7 hm => absurd hm (by omega)
  | succ N ih =>
    show _
    intro h1 x2 x3 g1 k1 b0 b1 b2 b3 b4 b5 b6 b7 hm
    refine ev_iload_n rfl ?_
    refine ev_iload_n rfl ?_
    refine ev_icmpge f344_31 (fun c47800 => ?_) (fun c47800 => ?_)
    · refine ev_iload_n rfl ?_
      exact ev_ret rfl (by decide) (by decide) ⟨_, rfl, by omega, by omega, g1, k1⟩
    · refine ev_iconst ?_
      refine ev_iload_n rfl ?_
      refine g_imulG (fun v47801 ev47801 lv47801 uv47801 => ?_)
      refine ev_iload_n rfl ?_
      refine ev_iconst ?_
      refine ev_iload_n rfl ?_
      refine ev_iconst ?_
      refine ev_isub (r := (a1 - 1)) (by unfold w32; omega) ?_
      refine ev_iload_n rfl ?_
      refine ev_isub (r := (a1 + (-x3) - 1)) (by unfold w32; omega) ?_
      refine ev_imul (r := (2 * a1 + (-2) * x3 - 2)) (by unfold w32; omega) ?_
      refine g_ishrG (fun v47802 ev47802 lv47802 uv47802 => ?_)
      refine ev_iconst ?_
      refine g_iandB (b := 3) (by omega) (by omega) (by decide) (fun v47803 ev47803 lv47803 uv47803 => ?_)
      refine g_iaddG (fun v47804 ev47804 lv47804 uv47804 => ?_)
      refine ev_istore_n (L' := [(0, a0), (0, a1), (0, v47804), (0, x3)]) (Nat.le_of_ble_eq_true rfl) rfl ?_
      refine ev_iinc (w := (x3 + 1)) (L' := [(0, a0), (0, a1), (0, v47804), (0, (x3 + 1))]) rfl (by unfold w32; omega) rfl ?_
      refine ev_goto f344_4 ?_
      exact ih _ _ _ g1 k1 (by omega) (by omega) (by omega) (by omega) (by omega) (by omega) (by omega) (by omega) (by omega)
set_option maxHeartbeats 4000000 in
theorem s344 {G : GH} {h : JH} (g : Gd G h) {a0 : Int} (la0 : (-2147483648) ≤ a0) (ua0 : a0 ≤ 2147483647) {a1 : Int} (la1 : 0 ≤ a1) (ua1 : a1 ≤ 3) : jOk 1 0 0 344 [(0, a0), (0, a1)] h (PI G [] h 0 (-2147483648) 2147483647) := by
  refine ⟨by decide, by rw [ml344]; exact Nat.le_of_ble_eq_true rfl, ?_⟩
  rw [ml344, pp344]
  show jEv _ none _ c344_0 0 0 _ (c344_0, [(0, a0), (0, a1), (9, 0), (9, 0)], [], h, 0, 0)
  have k0 := Kp.rf [] h
  refine ev_iconst ?_
  refine ev_istore_n (L' := [(0, a0), (0, a1), (0, 0), (9, 0)]) (Nat.le_of_ble_eq_true rfl) rfl ?_
  refine ev_iconst ?_
  refine ev_istore_n (L' := [(0, a0), (0, a1), (0, 0), (0, 0)]) (Nat.le_of_ble_eq_true rfl) rfl ?_
  exact (s344_l la0 ua0 la1 ua1 8) _ _ _ g k0 (by omega) (by omega) (by omega) (by omega) (by omega) (by omega) (by omega) (by omega) (by omega)
