/-! 258 areWays -/
set_option maxHeartbeats 4000000 in
theorem s258_l {G : GH} {h : JH} {a1 : Int} (la1 : (-2147483648) ≤ a1) (ua1 : a1 ≤ 2147483647) : ∀ N : Nat, (∀ (h1 : JH) (x2 : Int), Gd G h1 → Kp [] h h1 → 0 ≤ a1 → a1 ≤ 2147483647 → 0 ≤ x2 → x2 ≤ 4 → ((-x2) + 4) < N → jEv (jOk 0) none (fun _ => 0) c258_0 0 0 (PI G [] h 0 0 1) (c258_19, [(2, 42), (0, a1), (0, x2)], [], h1, 0, 0)) := by
  intro N
  induction N with
  | zero => exact fun h1 x2 g1 k1 b0 b1 b2 b3 hm => absurd hm (by omega)
  | succ N ih =>
    show _
    intro h1 x2 g1 k1 b0 b1 b2 b3 hm
    refine ev_iload_n rfl ?_
    refine ev_aload_n rfl ?_
    obtain ⟨v42338, ev42338, lv42338, uv42338⟩ := g1.rd ad42 (show 1 < 66 by decide) rf42_1
    refine g_getv (r := 42) (v := v42338) g1 ad42 (by decide) ft12_1 ev42338 ?_
    refine ev_icmpge f258_51 (fun c42339 => ?_) (fun c42339 => ?_)
    · refine ev_iconst ?_
      exact ev_ret rfl (by decide) (by decide) ⟨_, rfl, by omega, by omega, g1, k1⟩
    · refine ev_iload_n rfl ?_
      refine ev_iconst ?_
      refine ev_iload_n rfl ?_
      refine ev_imul (r := (2 * x2)) (by unfold w32; omega) ?_
      refine g_ishrB (a := 2147483647) (by omega) (by omega) (by decide) (fun v42340 ev42340 lv42340 uv42340 => ?_)
      refine ev_iconst ?_
      refine g_iandB (b := 3) (by omega) (by omega) (by decide) (fun v42341 ev42341 lv42341 uv42341 => ?_)
      refine ev_aload_n rfl ?_
      refine g_getp (r := 42) (c := 43) g1 ad42 (by decide) (by decide) rf42_2 ft12_2 ?_
      refine ev_iload_n rfl ?_
      refine g_iald g1 ad43 rt43 (by omega) (by omega) (fun v42342 ev42342 lv42342 uv42342 => ?_)
      have xv42342 := (g1.ex.2.1 (x2 : Int).toNat (by rw [(ev42338)]; omega)).1
      rw [ev42342] at xv42342
      refine ev_icmple f258_45 (fun c42343 => ?_) (fun c42343 => ?_)
      · refine ev_iinc (w := (x2 + 1)) (L' := [(2, 42), (0, a1), (0, (x2 + 1))]) rfl (by unfold w32; omega) rfl ?_
        refine ev_goto f258_19 ?_
        exact ih _ _ g1 k1 (by omega) (by omega) (by omega) (by omega) (by omega)
      · refine ev_iconst ?_
        exact ev_ret rfl (by decide) (by decide) ⟨_, rfl, by omega, by omega, g1, k1⟩
set_option maxHeartbeats 4000000 in
theorem s258 {G : GH} {h : JH} (g : Gd G h) {a1 : Int} (la1 : (-2147483648) ≤ a1) (ua1 : a1 ≤ 2147483647) : jOk 1 0 0 258 [(2, 42), (0, a1)] h (PI G [] h 0 0 1) := by
  refine ⟨by decide, by rw [ml258]; exact Nat.le_of_ble_eq_true rfl, ?_⟩
  rw [ml258, pp258]
  show jEv _ none _ c258_0 0 0 _ (c258_0, [(2, 42), (0, a1), (9, 0)], [], h, 0, 0)
  have k0 := Kp.rf [] h
  refine ev_iload_n rfl ?_
  refine ev_iflt f258_15 (fun c42344 => ?_) (fun c42344 => ?_)
  · refine ev_iconst ?_
    exact ev_ret rfl (by decide) (by decide) ⟨_, rfl, by omega, by omega, g, k0⟩
  · refine ev_iload_n rfl ?_
    refine ev_iconst ?_
    refine ev_aload_n rfl ?_
    obtain ⟨v42345, ev42345, lv42345, uv42345⟩ := g.rd ad42 (show 1 < 66 by decide) rf42_1
    refine g_getv (r := 42) (v := v42345) g ad42 (by decide) ft12_1 ev42345 ?_
    refine ev_imul (r := (2 * v42345)) (by unfold w32; omega) ?_
    refine g_ishrB (a := 2147483647) (by omega) (by omega) (by decide) (fun v42346 ev42346 lv42346 uv42346 => ?_)
    refine ev_ifeq f258_17 (fun c42347 => ?_) (fun c42347 => ?_)
    · refine ev_iconst ?_
      refine ev_istore_n (L' := [(2, 42), (0, a1), (0, 0)]) (Nat.le_of_ble_eq_true rfl) rfl ?_
      exact (s258_l la1 ua1 10) _ _ g k0 (by omega) (by omega) (by omega) (by omega) (by omega)
    · refine ev_iconst ?_
      exact ev_ret rfl (by decide) (by decide) ⟨_, rfl, by omega, by omega, g, k0⟩
/-! 259 agrees -/
set_option maxHeartbeats 4000000 in
theorem s259_l {G : GH} {h : JH} {a1 : Int} (la1 : 0 ≤ a1) (ua1 : a1 ≤ 80) {a2 : Int} (la2 : (-2147483648) ≤ a2) (ua2 : a2 ≤ 2147483647) : ∀ N : Nat, (∀ (h1 : JH) (x3 : Int) (j4 : AV), Gd G h1 → Kp [] h h1 → 0 ≤ a1 → a1 ≤ 80 → (-2147483648) ≤ a2 → a2 ≤ 2147483647 → 0 ≤ x3 → x3 ≤ 4 → ((-x3) + 4) < N → jEv (jOk 0) none (fun _ => 0) c259_0 0 0 (PI G [] h 0 0 1) (c259_2, [(2, 42), (0, a1), (0, a2), (0, x3), j4], [], h1, 0, 0)) := by
  intro N
  induction N with
  | zero => exact fun h1 x3 j4 g1 k1 b0 b1 b2 b3 b4 b5 hm => absurd hm (by omega)
  | succ N ih =>
    show _
    intro h1 x3 j4 g1 k1 b0 b1 b2 b3 b4 b5 hm
    refine ev_iload_n rfl ?_
    refine ev_aload_n rfl ?_
    obtain ⟨v42389, ev42389, lv42389, uv42389⟩ := g1.rd ad42 (show 1 < 66 by decide) rf42_1
    refine g_getv (r := 42) (v := v42389) g1 ad42 (by decide) ft12_1 ev42389 ?_
    refine ev_icmpge f259_49 (fun c42390 => ?_) (fun c42390 => ?_)
    · refine ev_iconst ?_
      exact ev_ret rfl (by decide) (by decide) ⟨_, rfl, by omega, by omega, g1, k1⟩
    · refine ev_iload_n rfl ?_
      refine ev_iconst ?_
      refine ev_iload_n rfl ?_
      refine ev_imul (r := (2 * x3)) (by unfold w32; omega) ?_
      refine g_ishrG (fun v42391 ev42391 lv42391 uv42391 => ?_)
      refine ev_iconst ?_
      refine g_iandB (b := 3) (by omega) (by omega) (by decide) (fun v42392 ev42392 lv42392 uv42392 => ?_)
      refine ev_istore (L' := [(2, 42), (0, a1), (0, a2), (0, x3), (0, v42392)]) (Nat.le_of_ble_eq_true rfl) rfl ?_
      refine ev_iload rfl ?_
      refine ev_ifle f259_43 (fun c42393 => ?_) (fun c42393 => ?_)
      · refine ev_iinc (w := (x3 + 1)) (L' := [(2, 42), (0, a1), (0, a2), (0, (x3 + 1)), (0, v42392)]) rfl (by unfold w32; omega) rfl ?_
        refine ev_goto f259_2 ?_
        exact ih _ _ _ g1 k1 (by omega) (by omega) (by omega) (by omega) (by omega) (by omega) (by omega)
      · refine ev_aload_n rfl ?_
        refine g_getp (r := 42) (c := 46) g1 ad42 (by decide) (by decide) rf42_6 ft12_6 ?_
        refine ev_iconst ?_
        refine ev_iload_n rfl ?_
        refine ev_imul (r := (4 * a1)) (by unfold w32; omega) ?_
        refine ev_iload_n rfl ?_
        refine ev_iadd (r := (4 * a1 + x3)) (by unfold w32; omega) ?_
        refine g_iald g1 ad46 rt46 (by omega) (by omega) (fun v42394 ev42394 lv42394 uv42394 => ?_)
        refine ev_iload rfl ?_
        refine ev_iconst ?_
        refine ev_isub (r := (v42392 - 1)) (by unfold w32; omega) ?_
        refine ev_icmpeq f259_43 (fun c42395 => ?_) (fun c42395 => ?_)
        · refine ev_iinc (w := (x3 + 1)) (L' := [(2, 42), (0, a1), (0, a2), (0, (x3 + 1)), (0, v42392)]) rfl (by unfold w32; omega) rfl ?_
          refine ev_goto f259_2 ?_
          exact ih _ _ _ g1 k1 (by omega) (by omega) (by omega) (by omega) (by omega) (by omega) (by omega)
        · refine ev_iconst ?_
          exact ev_ret rfl (by decide) (by decide) ⟨_, rfl, by omega, by omega, g1, k1⟩
set_option maxHeartbeats 4000000 in
theorem s259 {G : GH} {h : JH} (g : Gd G h) {a1 : Int} (la1 : 0 ≤ a1) (ua1 : a1 ≤ 80) {a2 : Int} (la2 : (-2147483648) ≤ a2) (ua2 : a2 ≤ 2147483647) : jOk 1 0 0 259 [(2, 42), (0, a1), (0, a2)] h (PI G [] h 0 0 1) := by
  refine ⟨by decide, by rw [ml259]; exact Nat.le_of_ble_eq_true rfl, ?_⟩
  rw [ml259, pp259]
  show jEv _ none _ c259_0 0 0 _ (c259_0, [(2, 42), (0, a1), (0, a2), (9, 0), (9, 0)], [], h, 0, 0)
  have k0 := Kp.rf [] h
  refine ev_iconst ?_
  refine ev_istore_n (L' := [(2, 42), (0, a1), (0, a2), (0, 0), (9, 0)]) (Nat.le_of_ble_eq_true rfl) rfl ?_
  exact (s259_l la1 ua1 la2 ua2 10) _ _ _ g k0 (by omega) (by omega) (by omega) (by omega) (by omega) (by omega) (by omega)
/-! s256_0  -/
set_option maxHeartbeats 4000000 in
theorem s256_0_l {G : GH} {h : JH} (ew0 : h.2.2 42 1 = 0) : ∀ N : Nat, (∀ (h1 : JH) (x1 y0 y1 : Int) (j2 j3 : AV), Gd G h1 → Kp [(46, 0), (47, 0), (42, 6), (42, 9)] h h1 → 0 ≤ x1 → x1 ≤ 1 → h1.2.2 42 1 = y0 → 0 ≤ y0 → y0 ≤ 0 → h1.2.2 42 5 = y1 → 0 ≤ y1 → y1 ≤ 1 → ((-x1) + 1) < N → jEv (jOk 3) none (fun _ => 0) c256_0 0 0 (PI G [(46, 0), (47, 0), (42, 6), (42, 9)] h 0 0 1) (c256_57, [(2, 42), (0, x1), j2, j3], [], h1, 0, 0)) := by
  intro N
  induction N with
  | zero => exact fun h1 x1 y0 y1 j2 j3 g1 k1 b0 b1 b2 b3 b4 b5 b6 b7 hm => absurd hm (by omega)
  | succ N ih =>
    show _
    intro h1 x1 y0 y1 j2 j3 g1 k1 b0 b1 ey0 ly0 uy0 ey1 ly1 uy1 hm
    refine ev_iload_n rfl ?_
    refine ev_aload_n rfl ?_
    refine g_getv (r := 42) (v := y1) g1 ad42 (by decide) ft12_5 (ey1) ?_
    refine ev_icmpge f256_127 (fun c42423 => ?_) (fun c42423 => ?_)
    · refine ev_iconst ?_
      exact ev_ret rfl (by decide) (by decide) ⟨_, rfl, by omega, by omega, g1, k1⟩
    · refine ev_iload_n rfl ?_
      refine ev_istore_n (L' := [(2, 42), (0, x1), (0, x1), j3]) (Nat.le_of_ble_eq_true rfl) rfl ?_
      refine ev_iconst ?_
      refine ev_istore_n (L' := [(2, 42), (0, x1), (0, x1), (0, 0)]) (Nat.le_of_ble_eq_true rfl) rfl ?_
      refine ev_iload_n rfl ?_
      refine ev_aload_n rfl ?_
      refine g_getv (r := 42) (v := y0) g1 ad42 (by decide) ft12_1 (ey0) ?_
      refine ev_icmpge f256_110 (fun c42424 => ?_) (fun c42424 => absurd c42424 (by omega))
      refine ev_aload_n rfl ?_
      refine g_getp (r := 42) (c := 47) g1 ad42 (by decide) (by decide) rf42_7 ft12_7 ?_
      refine ev_iload_n rfl ?_
      refine ev_aload_n rfl ?_
      refine ev_iload_n rfl ?_
      refine ev_call (jcall_v (A := [(0, x1)]) (S' := [(0, x1), (2, 47)]) (r := 42) rfl (g1.lt ad42) (g1.tg ad42) (Nat.le_of_ble_eq_true rfl)) (jOk_le (by decide) (s255 g1 (by omega) (by omega))) (by decide) (by decide) (fun w42425 h42425 q42425 => ?_)
      obtain ⟨v42426, rfl, lv42426, uv42426, g42425, kk42425⟩ := q42425
      have k42425 := k1.tr kk42425 (by decide)
      show jEv _ _ _ _ _ _ _ (_, [(2, 42), (0, x1), (0, x1), (0, 0)], [(1, v42426), (0, x1), (2, 47)], _, _, _)
      refine g_last g42425 ad47 rt47 (fun _ => rfl) (by omega) (by omega) (by omega) (by omega) (fun h42427 e42427 g42427 => ?_)
      have k42427 := k42425.wr e42427 rfl
      refine ev_iinc (w := (x1 + 1)) (L' := [(2, 42), (0, (x1 + 1)), (0, x1), (0, 0)]) rfl (by unfold w32; omega) rfl ?_
      refine ev_goto f256_57 ?_
      exact ih _ _ _ _ _ _ g42427 k42427 (by omega) (by omega) (((jw_ne e42427 (Or.inl (by decide))).trans ((kk42425.v (by decide)).trans ey0))) (by omega) (by omega) (((jw_ne e42427 (Or.inl (by decide))).trans ((kk42425.v (by decide)).trans ey1))) (by omega) (by omega) (by omega)
set_option maxHeartbeats 4000000 in
theorem s256_0 {G : GH} {h : JH} (g : Gd G h) (ew0 : h.2.2 42 1 = 0) : jOk 4 0 0 256 [(2, 42)] h (PI G [(46, 0), (47, 0), (42, 6), (42, 9)] h 0 0 1) := by
  refine ⟨by decide, by rw [ml256]; exact Nat.le_of_ble_eq_true rfl, ?_⟩
  rw [ml256, pp256]
  show jEv _ none _ c256_0 0 0 _ (c256_0, [(2, 42), (9, 0), (9, 0), (9, 0)], [], h, 0, 0)
  have k0 := Kp.rf [(46, 0), (47, 0), (42, 6), (42, 9)] h
  refine ev_aload_n rfl ?_
  refine ev_aload_n rfl ?_
  refine ev_call (jcall_v (A := []) (S' := [(2, 42)]) (r := 42) rfl (g.lt ad42) (g.tg ad42) (Nat.le_of_ble_eq_true rfl)) (jOk_le (by decide) (s253 g )) (by decide) (by decide) (fun w42428 h42428 q42428 => ?_)
  obtain ⟨v42429, rfl, lv42429, uv42429, g42428, kk42428⟩ := q42428
  have k42428 := k0.tr kk42428 (by decide)
  show jEv _ _ _ _ _ _ _ (_, [(2, 42), (9, 0), (9, 0), (9, 0)], [(1, v42429), (2, 42)], _, _, _)
  refine g_putf (r := 42) g42428 ad42 (by decide) ft12_8 (by decide) (fun e => absurd e nz12_8) rf42_8 (by decide) (by omega) (by omega) (fun h42430 e42430 g42430 => ?_)
  have k42430 := k42428.wr e42430 rfl
  refine ev_aload_n rfl ?_
  refine g_getv (r := 42) (v := v42429) g42430 ad42 (by decide) ft12_8 ((jw_eq e42430)) ?_
  refine ev_lconst ?_
  refine ev_lcmp ?_
  refine ev_ifge f256_19 (fun c42431 => ?_) (fun c42431 => ?_)
  · have c42431b := jcmpL_ge c42431
    refine ev_aload_n rfl ?_
    refine ev_iconst ?_
    refine g_putf (r := 42) g42430 ad42 (by decide) ft12_5 (by decide) (fun e => absurd e nz12_5) rf42_5 (by decide) (by omega) (by omega) (fun h42432 e42432 g42432 => ?_)
    have k42432 := k42430.wr e42432 rfl
    refine ev_iconst ?_
    refine ev_istore_n (L' := [(2, 42), (0, 0), (9, 0), (9, 0)]) (Nat.le_of_ble_eq_true rfl) rfl ?_
    refine ev_iload_n rfl ?_
    refine ev_aload_n rfl ?_
    refine g_getv (r := 42) (v := 0) g42432 ad42 (by decide) ft12_1 (((jw_ne e42432 (Or.inr (by decide))).trans ((jw_ne e42430 (Or.inr (by decide))).trans ((kk42428.v (by decide)).trans ew0)))) ?_
    refine ev_icmpge f256_55 (fun c42433 => ?_) (fun c42433 => absurd c42433 (by omega))
    refine ev_iconst ?_
    refine ev_istore_n (L' := [(2, 42), (0, 0), (9, 0), (9, 0)]) (Nat.le_of_ble_eq_true rfl) rfl ?_
    exact (s256_0_l ew0 4) _ _ _ _ _ _ g42432 k42432 (by omega) (by omega) (((jw_ne e42432 (Or.inr (by decide))).trans ((jw_ne e42430 (Or.inr (by decide))).trans ((kk42428.v (by decide)).trans ew0)))) (by omega) (by omega) ((jw_eq e42432)) (by omega) (by omega) (by omega)
  · have c42431b := jcmpL_geN c42431
    refine ev_iconst ?_
    exact ev_ret rfl (by decide) (by decide) ⟨_, rfl, by omega, by omega, g42430, k42430⟩
/-! s256_1  -/
set_option maxHeartbeats 4000000 in
theorem s256_1_l {G : GH} {h : JH} (ew0 : h.2.2 42 1 = 1) : ∀ N : Nat, (∀ (h1 : JH) (x1 y0 y1 : Int) (j2 j3 : AV), Gd G h1 → Kp [(46, 0), (47, 0), (42, 6), (42, 9)] h h1 → 0 ≤ x1 → x1 ≤ 3 → h1.2.2 42 1 = y0 → 1 ≤ y0 → y0 ≤ 1 → h1.2.2 42 5 = y1 → 0 ≤ y1 → y1 ≤ 3 → ((-x1) + 3) < N → jEv (jOk 3) none (fun _ => 0) c256_0 0 0 (PI G [(46, 0), (47, 0), (42, 6), (42, 9)] h 0 0 1) (c256_57, [(2, 42), (0, x1), j2, j3], [], h1, 0, 0)) := by
  intro N
  induction N with
  | zero => exact fun h1 x1 y0 y1 j2 j3 g1 k1 b0 b1 b2 b3 b4 b5 b6 b7 hm => absurd hm (by omega)
  | succ N ih =>
    show _
    intro h1 x1 y0 y1 j2 j3 g1 k1 b0 b1 ey0 ly0 uy0 ey1 ly1 uy1 hm
    refine ev_iload_n rfl ?_
    refine ev_aload_n rfl ?_
    refine g_getv (r := 42) (v := y1) g1 ad42 (by decide) ft12_5 (ey1) ?_
    refine ev_icmpge f256_127 (fun c42502 => ?_) (fun c42502 => ?_)
    · refine ev_iconst ?_
      exact ev_ret rfl (by decide) (by decide) ⟨_, rfl, by omega, by omega, g1, k1⟩
    · refine ev_iload_n rfl ?_
      refine ev_istore_n (L' := [(2, 42), (0, x1), (0, x1), j3]) (Nat.le_of_ble_eq_true rfl) rfl ?_
      refine ev_iconst ?_
      refine ev_istore_n (L' := [(2, 42), (0, x1), (0, x1), (0, 0)]) (Nat.le_of_ble_eq_true rfl) rfl ?_
      refine ev_iload_n rfl ?_
      refine ev_aload_n rfl ?_
      refine g_getv (r := 42) (v := y0) g1 ad42 (by decide) ft12_1 (ey0) ?_
      refine ev_icmpge f256_110 (fun c42503 => absurd c42503 (by omega)) (fun c42503 => ?_)
      refine ev_aload_n rfl ?_
      refine g_getp (r := 42) (c := 46) g1 ad42 (by decide) (by decide) rf42_6 ft12_6 ?_
      refine ev_iconst ?_
      refine ev_iload_n rfl ?_
      refine ev_imul (r := (4 * x1)) (by unfold w32; omega) ?_
      refine ev_iload_n rfl ?_
      refine ev_iadd (r := (4 * x1)) (by unfold w32; omega) ?_
      refine ev_iload_n rfl ?_
      refine ev_aload_n rfl ?_
      refine g_getp (r := 42) (c := 43) g1 ad42 (by decide) (by decide) rf42_2 ft12_2 ?_
      refine ev_iload_n rfl ?_
      refine g_iald g1 ad43 rt43 (by omega) (by omega) (fun v42504 ev42504 lv42504 uv42504 => ?_)
      have xv42504 := (g1.ex.2.1 (0 : Int).toNat (by rw [(ey0)]; omega)).1
      rw [ev42504] at xv42504
      refine g_iremQ (by omega) (by omega) (fun v42505 ev42505 lv42505 uv42505 wv42505 => ?_)
      refine g_iast g1 ad46 rt46 (fun _ => rfl) (by omega) (by omega) (by omega) (by omega) (fun h42506 e42506 g42506 => ?_)
      have k42506 := k1.wr e42506 rfl
      refine ev_iload_n rfl ?_
      refine ev_aload_n rfl ?_
      refine g_getp (r := 42) (c := 43) g42506 ad42 (by decide) (by decide) rf42_2 ft12_2 ?_
      refine ev_iload_n rfl ?_
      refine g_ialdv (v := v42504) g42506 ad43 (by omega) (by omega) (((jw_ne e42506 (Or.inl (by decide))).trans ev42504)) ?_
      refine g_idivM (by omega) (by omega) (by omega) (fun v42507 ev42507 lv42507 uv42507 => ?_)
      refine ev_istore_n (L' := [(2, 42), (0, x1), (0, v42507), (0, 0)]) (Nat.le_of_ble_eq_true rfl) rfl ?_
      refine ev_iinc (w := 1) (L' := [(2, 42), (0, x1), (0, v42507), (0, 1)]) rfl (by decide) rfl ?_
      refine ev_goto f256_69 ?_
      refine ev_iload_n rfl ?_
      refine ev_aload_n rfl ?_
      refine g_getv (r := 42) (v := y0) g42506 ad42 (by decide) ft12_1 (((jw_ne e42506 (Or.inl (by decide))).trans ey0)) ?_
      refine ev_icmpge f256_110 (fun c42508 => ?_) (fun c42508 => absurd c42508 (by omega))
      refine ev_aload_n rfl ?_
      refine g_getp (r := 42) (c := 47) g42506 ad42 (by decide) (by decide) rf42_7 ft12_7 ?_
      refine ev_iload_n rfl ?_
      refine ev_aload_n rfl ?_
      refine ev_iload_n rfl ?_
      refine ev_call (jcall_v (A := [(0, x1)]) (S' := [(0, x1), (2, 47)]) (r := 42) rfl (g42506.lt ad42) (g42506.tg ad42) (Nat.le_of_ble_eq_true rfl)) (jOk_le (by decide) (s255 g42506 (by omega) (by omega))) (by decide) (by decide) (fun w42509 h42509 q42509 => ?_)
      obtain ⟨v42510, rfl, lv42510, uv42510, g42509, kk42509⟩ := q42509
      have k42509 := k42506.tr kk42509 (by decide)
      show jEv _ _ _ _ _ _ _ (_, [(2, 42), (0, x1), (0, v42507), (0, 1)], [(1, v42510), (0, x1), (2, 47)], _, _, _)
      refine g_last g42509 ad47 rt47 (fun _ => rfl) (by omega) (by omega) (by omega) (by omega) (fun h42511 e42511 g42511 => ?_)
      have k42511 := k42509.wr e42511 rfl
      refine ev_iinc (w := (x1 + 1)) (L' := [(2, 42), (0, (x1 + 1)), (0, v42507), (0, 1)]) rfl (by unfold w32; omega) rfl ?_
      refine ev_goto f256_57 ?_
      exact ih _ _ _ _ _ _ g42511 k42511 (by omega) (by omega) (((jw_ne e42511 (Or.inl (by decide))).trans ((kk42509.v (by decide)).trans ((jw_ne e42506 (Or.inl (by decide))).trans ey0)))) (by omega) (by omega) (((jw_ne e42511 (Or.inl (by decide))).trans ((kk42509.v (by decide)).trans ((jw_ne e42506 (Or.inl (by decide))).trans ey1)))) (by omega) (by omega) (by omega)
set_option maxHeartbeats 4000000 in
theorem s256_1 {G : GH} {h : JH} (g : Gd G h) (ew0 : h.2.2 42 1 = 1) : jOk 4 0 0 256 [(2, 42)] h (PI G [(46, 0), (47, 0), (42, 6), (42, 9)] h 0 0 1) := by
  refine ⟨by decide, by rw [ml256]; exact Nat.le_of_ble_eq_true rfl, ?_⟩
  rw [ml256, pp256]
  show jEv _ none _ c256_0 0 0 _ (c256_0, [(2, 42), (9, 0), (9, 0), (9, 0)], [], h, 0, 0)
  have k0 := Kp.rf [(46, 0), (47, 0), (42, 6), (42, 9)] h
  refine ev_aload_n rfl ?_
  refine ev_aload_n rfl ?_
  refine ev_call (jcall_v (A := []) (S' := [(2, 42)]) (r := 42) rfl (g.lt ad42) (g.tg ad42) (Nat.le_of_ble_eq_true rfl)) (jOk_le (by decide) (s253 g )) (by decide) (by decide) (fun w42512 h42512 q42512 => ?_)
  obtain ⟨v42513, rfl, lv42513, uv42513, g42512, kk42512⟩ := q42512
  have k42512 := k0.tr kk42512 (by decide)
  show jEv _ _ _ _ _ _ _ (_, [(2, 42), (9, 0), (9, 0), (9, 0)], [(1, v42513), (2, 42)], _, _, _)
  refine g_putf (r := 42) g42512 ad42 (by decide) ft12_8 (by decide) (fun e => absurd e nz12_8) rf42_8 (by decide) (by omega) (by omega) (fun h42514 e42514 g42514 => ?_)
  have k42514 := k42512.wr e42514 rfl
  refine ev_aload_n rfl ?_
  refine g_getv (r := 42) (v := v42513) g42514 ad42 (by decide) ft12_8 ((jw_eq e42514)) ?_
  refine ev_lconst ?_
  refine ev_lcmp ?_
  refine ev_ifge f256_19 (fun c42515 => ?_) (fun c42515 => ?_)
  · have c42515b := jcmpL_ge c42515
    refine ev_aload_n rfl ?_
    refine ev_iconst ?_
    refine g_putf (r := 42) g42514 ad42 (by decide) ft12_5 (by decide) (fun e => absurd e nz12_5) rf42_5 (by decide) (by omega) (by omega) (fun h42516 e42516 g42516 => ?_)
    have k42516 := k42514.wr e42516 rfl
    refine ev_iconst ?_
    refine ev_istore_n (L' := [(2, 42), (0, 0), (9, 0), (9, 0)]) (Nat.le_of_ble_eq_true rfl) rfl ?_
    refine ev_iload_n rfl ?_
    refine ev_aload_n rfl ?_
    refine g_getv (r := 42) (v := 1) g42516 ad42 (by decide) ft12_1 (((jw_ne e42516 (Or.inr (by decide))).trans ((jw_ne e42514 (Or.inr (by decide))).trans ((kk42512.v (by decide)).trans ew0)))) ?_
    refine ev_icmpge f256_55 (fun c42517 => absurd c42517 (by omega)) (fun c42517 => ?_)
    refine ev_aload_n rfl ?_
    refine ev_dup (by decide) ?_
    refine g_getv (r := 42) (v := 1) g42516 ad42 (by decide) ft12_5 ((jw_eq e42516)) ?_
    refine ev_aload_n rfl ?_
    refine g_getp (r := 42) (c := 43) g42516 ad42 (by decide) (by decide) rf42_2 ft12_2 ?_
    refine ev_iload_n rfl ?_
    refine g_iald g42516 ad43 rt43 (by omega) (by omega) (fun v42518 ev42518 lv42518 uv42518 => ?_)
    have xv42518 := (g42516.ex.2.1 (0 : Int).toNat (by rw [(((jw_ne e42516 (Or.inr (by decide))).trans ((jw_ne e42514 (Or.inr (by decide))).trans ((kk42512.v (by decide)).trans ew0))))]; omega)).1
    rw [ev42518] at xv42518
    refine ev_imul (r := v42518) (by unfold w32; omega) ?_
    refine g_putf (r := 42) g42516 ad42 (by decide) ft12_5 (by decide) (fun e => absurd e nz12_5) rf42_5 (by decide) (by omega) (by omega) (fun h42519 e42519 g42519 => ?_)
    have k42519 := k42516.wr e42519 rfl
    refine ev_iinc (w := 1) (L' := [(2, 42), (0, 1), (9, 0), (9, 0)]) rfl (by decide) rfl ?_
    refine ev_goto f256_26 ?_
    refine ev_iload_n rfl ?_
    refine ev_aload_n rfl ?_
    refine g_getv (r := 42) (v := 1) g42519 ad42 (by decide) ft12_1 (((jw_ne e42519 (Or.inr (by decide))).trans ((jw_ne e42516 (Or.inr (by decide))).trans ((jw_ne e42514 (Or.inr (by decide))).trans ((kk42512.v (by decide)).trans ew0))))) ?_
    refine ev_icmpge f256_55 (fun c42520 => ?_) (fun c42520 => absurd c42520 (by omega))
    refine ev_iconst ?_
    refine ev_istore_n (L' := [(2, 42), (0, 0), (9, 0), (9, 0)]) (Nat.le_of_ble_eq_true rfl) rfl ?_
    exact (s256_1_l ew0 8) _ _ _ _ _ _ g42519 k42519 (by omega) (by omega) (((jw_ne e42519 (Or.inr (by decide))).trans ((jw_ne e42516 (Or.inr (by decide))).trans ((jw_ne e42514 (Or.inr (by decide))).trans ((kk42512.v (by decide)).trans ew0))))) (by omega) (by omega) ((jw_eq e42519)) (by omega) (by omega) (by omega)
  · have c42515b := jcmpL_geN c42515
    refine ev_iconst ?_
    exact ev_ret rfl (by decide) (by decide) ⟨_, rfl, by omega, by omega, g42514, k42514⟩
/-! s256_2  -/
set_option maxHeartbeats 4000000 in
theorem s256_2_l {G : GH} {h : JH} (ew0 : h.2.2 42 1 = 2) : ∀ N : Nat, (∀ (h1 : JH) (x1 y0 y1 : Int) (j2 j3 : AV), Gd G h1 → Kp [(46, 0), (47, 0), (42, 6), (42, 9)] h h1 → 0 ≤ x1 → x1 ≤ 9 → h1.2.2 42 1 = y0 → 2 ≤ y0 → y0 ≤ 2 → h1.2.2 42 5 = y1 → 0 ≤ y1 → y1 ≤ 9 → ((-x1) + 9) < N → jEv (jOk 3) none (fun _ => 0) c256_0 0 0 (PI G [(46, 0), (47, 0), (42, 6), (42, 9)] h 0 0 1) (c256_57, [(2, 42), (0, x1), j2, j3], [], h1, 0, 0)) := by
  intro N
  induction N with
  | zero => exact fun h1 x1 y0 y1 j2 j3 g1 k1 b0 b1 b2 b3 b4 b5 b6 b7 hm => absurd hm (by omega)
  | succ N ih =>
    show _
    intro h1 x1 y0 y1 j2 j3 g1 k1 b0 b1 ey0 ly0 uy0 ey1 ly1 uy1 hm
    refine ev_iload_n rfl ?_
    refine ev_aload_n rfl ?_
    refine g_getv (r := 42) (v := y1) g1 ad42 (by decide) ft12_5 (ey1) ?_
    refine ev_icmpge f256_127 (fun c42712 => ?_) (fun c42712 => ?_)
    · refine ev_iconst ?_
      exact ev_ret rfl (by decide) (by decide) ⟨_, rfl, by omega, by omega, g1, k1⟩
    · refine ev_iload_n rfl ?_
      refine ev_istore_n (L' := [(2, 42), (0, x1), (0, x1), j3]) (Nat.le_of_ble_eq_true rfl) rfl ?_
      refine ev_iconst ?_
      refine ev_istore_n (L' := [(2, 42), (0, x1), (0, x1), (0, 0)]) (Nat.le_of_ble_eq_true rfl) rfl ?_
      refine ev_iload_n rfl ?_
      refine ev_aload_n rfl ?_
      refine g_getv (r := 42) (v := y0) g1 ad42 (by decide) ft12_1 (ey0) ?_
      refine ev_icmpge f256_110 (fun c42713 => absurd c42713 (by omega)) (fun c42713 => ?_)
      refine ev_aload_n rfl ?_
      refine g_getp (r := 42) (c := 46) g1 ad42 (by decide) (by decide) rf42_6 ft12_6 ?_
      refine ev_iconst ?_
      refine ev_iload_n rfl ?_
      refine ev_imul (r := (4 * x1)) (by unfold w32; omega) ?_
      refine ev_iload_n rfl ?_
      refine ev_iadd (r := (4 * x1)) (by unfold w32; omega) ?_
      refine ev_iload_n rfl ?_
      refine ev_aload_n rfl ?_
      refine g_getp (r := 42) (c := 43) g1 ad42 (by decide) (by decide) rf42_2 ft12_2 ?_
      refine ev_iload_n rfl ?_
      refine g_iald g1 ad43 rt43 (by omega) (by omega) (fun v42714 ev42714 lv42714 uv42714 => ?_)
      have xv42714 := (g1.ex.2.1 (0 : Int).toNat (by rw [(ey0)]; omega)).1
      rw [ev42714] at xv42714
      refine g_iremQ (by omega) (by omega) (fun v42715 ev42715 lv42715 uv42715 wv42715 => ?_)
      refine g_iast g1 ad46 rt46 (fun _ => rfl) (by omega) (by omega) (by omega) (by omega) (fun h42716 e42716 g42716 => ?_)
      have k42716 := k1.wr e42716 rfl
      refine ev_iload_n rfl ?_
      refine ev_aload_n rfl ?_
      refine g_getp (r := 42) (c := 43) g42716 ad42 (by decide) (by decide) rf42_2 ft12_2 ?_
      refine ev_iload_n rfl ?_
      refine g_ialdv (v := v42714) g42716 ad43 (by omega) (by omega) (((jw_ne e42716 (Or.inl (by decide))).trans ev42714)) ?_
      refine g_idivM (by omega) (by omega) (by omega) (fun v42717 ev42717 lv42717 uv42717 => ?_)
      refine ev_istore_n (L' := [(2, 42), (0, x1), (0, v42717), (0, 0)]) (Nat.le_of_ble_eq_true rfl) rfl ?_
      refine ev_iinc (w := 1) (L' := [(2, 42), (0, x1), (0, v42717), (0, 1)]) rfl (by decide) rfl ?_
      refine ev_goto f256_69 ?_
      refine ev_iload_n rfl ?_
      refine ev_aload_n rfl ?_
      refine g_getv (r := 42) (v := y0) g42716 ad42 (by decide) ft12_1 (((jw_ne e42716 (Or.inl (by decide))).trans ey0)) ?_
      refine ev_icmpge f256_110 (fun c42718 => absurd c42718 (by omega)) (fun c42718 => ?_)
      refine ev_aload_n rfl ?_
      refine g_getp (r := 42) (c := 46) g42716 ad42 (by decide) (by decide) rf42_6 ft12_6 ?_
      refine ev_iconst ?_
      refine ev_iload_n rfl ?_
      refine ev_imul (r := (4 * x1)) (by unfold w32; omega) ?_
      refine ev_iload_n rfl ?_
      refine ev_iadd (r := (4 * x1 + 1)) (by unfold w32; omega) ?_
      refine ev_iload_n rfl ?_
      refine ev_aload_n rfl ?_
      refine g_getp (r := 42) (c := 43) g42716 ad42 (by decide) (by decide) rf42_2 ft12_2 ?_
      refine ev_iload_n rfl ?_
      refine g_iald g42716 ad43 rt43 (by omega) (by omega) (fun v42719 ev42719 lv42719 uv42719 => ?_)
      have xv42719 := (g42716.ex.2.1 (1 : Int).toNat (by rw [(((jw_ne e42716 (Or.inl (by decide))).trans ey0))]; omega)).1
      rw [ev42719] at xv42719
      refine g_iremQ (by omega) (by omega) (fun v42720 ev42720 lv42720 uv42720 wv42720 => ?_)
      refine g_iast g42716 ad46 rt46 (fun _ => rfl) (by omega) (by omega) (by omega) (by omega) (fun h42721 e42721 g42721 => ?_)
      have k42721 := k42716.wr e42721 rfl
      refine ev_iload_n rfl ?_
      refine ev_aload_n rfl ?_
      refine g_getp (r := 42) (c := 43) g42721 ad42 (by decide) (by decide) rf42_2 ft12_2 ?_
      refine ev_iload_n rfl ?_
      refine g_ialdv (v := v42719) g42721 ad43 (by omega) (by omega) (((jw_ne e42721 (Or.inl (by decide))).trans ev42719)) ?_
      refine g_idivM (by omega) (by omega) (by omega) (fun v42722 ev42722 lv42722 uv42722 => ?_)
      refine ev_istore_n (L' := [(2, 42), (0, x1), (0, v42722), (0, 1)]) (Nat.le_of_ble_eq_true rfl) rfl ?_
      refine ev_iinc (w := 2) (L' := [(2, 42), (0, x1), (0, v42722), (0, 2)]) rfl (by decide) rfl ?_
      refine ev_goto f256_69 ?_
      refine ev_iload_n rfl ?_
      refine ev_aload_n rfl ?_
      refine g_getv (r := 42) (v := y0) g42721 ad42 (by decide) ft12_1 (((jw_ne e42721 (Or.inl (by decide))).trans ((jw_ne e42716 (Or.inl (by decide))).trans ey0))) ?_
      refine ev_icmpge f256_110 (fun c42723 => ?_) (fun c42723 => absurd c42723 (by omega))
      refine ev_aload_n rfl ?_
      refine g_getp (r := 42) (c := 47) g42721 ad42 (by decide) (by decide) rf42_7 ft12_7 ?_
      refine ev_iload_n rfl ?_
      refine ev_aload_n rfl ?_
      refine ev_iload_n rfl ?_
      refine ev_call (jcall_v (A := [(0, x1)]) (S' := [(0, x1), (2, 47)]) (r := 42) rfl (g42721.lt ad42) (g42721.tg ad42) (Nat.le_of_ble_eq_true rfl)) (jOk_le (by decide) (s255 g42721 (by omega) (by omega))) (by decide) (by decide) (fun w42724 h42724 q42724 => ?_)
      obtain ⟨v42725, rfl, lv42725, uv42725, g42724, kk42724⟩ := q42724
      have k42724 := k42721.tr kk42724 (by decide)
      show jEv _ _ _ _ _ _ _ (_, [(2, 42), (0, x1), (0, v42722), (0, 2)], [(1, v42725), (0, x1), (2, 47)], _, _, _)
      refine g_last g42724 ad47 rt47 (fun _ => rfl) (by omega) (by omega) (by omega) (by omega) (fun h42726 e42726 g42726 => ?_)
      have k42726 := k42724.wr e42726 rfl
      refine ev_iinc (w := (x1 + 1)) (L' := [(2, 42), (0, (x1 + 1)), (0, v42722), (0, 2)]) rfl (by unfold w32; omega) rfl ?_
      refine ev_goto f256_57 ?_
      exact ih _ _ _ _ _ _ g42726 k42726 (by omega) (by omega) (((jw_ne e42726 (Or.inl (by decide))).trans ((kk42724.v (by decide)).trans ((jw_ne e42721 (Or.inl (by decide))).trans ((jw_ne e42716 (Or.inl (by decide))).trans ey0))))) (by omega) (by omega) (((jw_ne e42726 (Or.inl (by decide))).trans ((kk42724.v (by decide)).trans ((jw_ne e42721 (Or.inl (by decide))).trans ((jw_ne e42716 (Or.inl (by decide))).trans ey1))))) (by omega) (by omega) (by omega)
set_option maxHeartbeats 4000000 in
theorem s256_2 {G : GH} {h : JH} (g : Gd G h) (ew0 : h.2.2 42 1 = 2) : jOk 4 0 0 256 [(2, 42)] h (PI G [(46, 0), (47, 0), (42, 6), (42, 9)] h 0 0 1) := by
  refine ⟨by decide, by rw [ml256]; exact Nat.le_of_ble_eq_true rfl, ?_⟩
  rw [ml256, pp256]
  show jEv _ none _ c256_0 0 0 _ (c256_0, [(2, 42), (9, 0), (9, 0), (9, 0)], [], h, 0, 0)
  have k0 := Kp.rf [(46, 0), (47, 0), (42, 6), (42, 9)] h
  refine ev_aload_n rfl ?_
  refine ev_aload_n rfl ?_
  refine ev_call (jcall_v (A := []) (S' := [(2, 42)]) (r := 42) rfl (g.lt ad42) (g.tg ad42) (Nat.le_of_ble_eq_true rfl)) (jOk_le (by decide) (s253 g )) (by decide) (by decide) (fun w42727 h42727 q42727 => ?_)
  obtain ⟨v42728, rfl, lv42728, uv42728, g42727, kk42727⟩ := q42727
  have k42727 := k0.tr kk42727 (by decide)
  show jEv _ _ _ _ _ _ _ (_, [(2, 42), (9, 0), (9, 0), (9, 0)], [(1, v42728), (2, 42)], _, _, _)
  refine g_putf (r := 42) g42727 ad42 (by decide) ft12_8 (by decide) (fun e => absurd e nz12_8) rf42_8 (by decide) (by omega) (by omega) (fun h42729 e42729 g42729 => ?_)
  have k42729 := k42727.wr e42729 rfl
  refine ev_aload_n rfl ?_
  refine g_getv (r := 42) (v := v42728) g42729 ad42 (by decide) ft12_8 ((jw_eq e42729)) ?_
  refine ev_lconst ?_
  refine ev_lcmp ?_
  refine ev_ifge f256_19 (fun c42730 => ?_) (fun c42730 => ?_)
  · have c42730b := jcmpL_ge c42730
    refine ev_aload_n rfl ?_
    refine ev_iconst ?_
    refine g_putf (r := 42) g42729 ad42 (by decide) ft12_5 (by decide) (fun e => absurd e nz12_5) rf42_5 (by decide) (by omega) (by omega) (fun h42731 e42731 g42731 => ?_)
    have k42731 := k42729.wr e42731 rfl
    refine ev_iconst ?_
    refine ev_istore_n (L' := [(2, 42), (0, 0), (9, 0), (9, 0)]) (Nat.le_of_ble_eq_true rfl) rfl ?_
    refine ev_iload_n rfl ?_
    refine ev_aload_n rfl ?_
    refine g_getv (r := 42) (v := 2) g42731 ad42 (by decide) ft12_1 (((jw_ne e42731 (Or.inr (by decide))).trans ((jw_ne e42729 (Or.inr (by decide))).trans ((kk42727.v (by decide)).trans ew0)))) ?_
    refine ev_icmpge f256_55 (fun c42732 => absurd c42732 (by omega)) (fun c42732 => ?_)
    refine ev_aload_n rfl ?_
    refine ev_dup (by decide) ?_
    refine g_getv (r := 42) (v := 1) g42731 ad42 (by decide) ft12_5 ((jw_eq e42731)) ?_
    refine ev_aload_n rfl ?_
    refine g_getp (r := 42) (c := 43) g42731 ad42 (by decide) (by decide) rf42_2 ft12_2 ?_
    refine ev_iload_n rfl ?_
    refine g_iald g42731 ad43 rt43 (by omega) (by omega) (fun v42733 ev42733 lv42733 uv42733 => ?_)
    have xv42733 := (g42731.ex.2.1 (0 : Int).toNat (by rw [(((jw_ne e42731 (Or.inr (by decide))).trans ((jw_ne e42729 (Or.inr (by decide))).trans ((kk42727.v (by decide)).trans ew0))))]; omega)).1
    rw [ev42733] at xv42733
    refine ev_imul (r := v42733) (by unfold w32; omega) ?_
    refine g_putf (r := 42) g42731 ad42 (by decide) ft12_5 (by decide) (fun e => absurd e nz12_5) rf42_5 (by decide) (by omega) (by omega) (fun h42734 e42734 g42734 => ?_)
    have k42734 := k42731.wr e42734 rfl
    refine ev_iinc (w := 1) (L' := [(2, 42), (0, 1), (9, 0), (9, 0)]) rfl (by decide) rfl ?_
    refine ev_goto f256_26 ?_
    refine ev_iload_n rfl ?_
    refine ev_aload_n rfl ?_
    refine g_getv (r := 42) (v := 2) g42734 ad42 (by decide) ft12_1 (((jw_ne e42734 (Or.inr (by decide))).trans ((jw_ne e42731 (Or.inr (by decide))).trans ((jw_ne e42729 (Or.inr (by decide))).trans ((kk42727.v (by decide)).trans ew0))))) ?_
    refine ev_icmpge f256_55 (fun c42735 => absurd c42735 (by omega)) (fun c42735 => ?_)
    refine ev_aload_n rfl ?_
    refine ev_dup (by decide) ?_
    refine g_getv (r := 42) (v := v42733) g42734 ad42 (by decide) ft12_5 ((jw_eq e42734)) ?_
    refine ev_aload_n rfl ?_
    refine g_getp (r := 42) (c := 43) g42734 ad42 (by decide) (by decide) rf42_2 ft12_2 ?_
    refine ev_iload_n rfl ?_
    refine g_iald g42734 ad43 rt43 (by omega) (by omega) (fun v42736 ev42736 lv42736 uv42736 => ?_)
    have xv42736 := (g42734.ex.2.1 (1 : Int).toNat (by rw [(((jw_ne e42734 (Or.inr (by decide))).trans ((jw_ne e42731 (Or.inr (by decide))).trans ((jw_ne e42729 (Or.inr (by decide))).trans ((kk42727.v (by decide)).trans ew0)))))]; omega)).1
    rw [ev42736] at xv42736
    refine g_imulB (a := 3) (b := 3) (a' := 2) (b' := 2) (by omega) (by omega) (by omega) (by omega) (by decide) (lo := 4) (hi := 9) (by decide) (by decide) (fun v42737 ev42737 lv42737 uv42737 => ?_)
    refine g_putf (r := 42) g42734 ad42 (by decide) ft12_5 (by decide) (fun e => absurd e nz12_5) rf42_5 (by decide) (by omega) (by omega) (fun h42738 e42738 g42738 => ?_)
    have k42738 := k42734.wr e42738 rfl
    refine ev_iinc (w := 2) (L' := [(2, 42), (0, 2), (9, 0), (9, 0)]) rfl (by decide) rfl ?_
    refine ev_goto f256_26 ?_
    refine ev_iload_n rfl ?_
    refine ev_aload_n rfl ?_
    refine g_getv (r := 42) (v := 2) g42738 ad42 (by decide) ft12_1 (((jw_ne e42738 (Or.inr (by decide))).trans ((jw_ne e42734 (Or.inr (by decide))).trans ((jw_ne e42731 (Or.inr (by decide))).trans ((jw_ne e42729 (Or.inr (by decide))).trans ((kk42727.v (by decide)).trans ew0)))))) ?_
    refine ev_icmpge f256_55 (fun c42739 => ?_) (fun c42739 => absurd c42739 (by omega))
    refine ev_iconst ?_
    refine ev_istore_n (L' := [(2, 42), (0, 0), (9, 0), (9, 0)]) (Nat.le_of_ble_eq_true rfl) rfl ?_
    exact (s256_2_l ew0 20) _ _ _ _ _ _ g42738 k42738 (by omega) (by omega) (((jw_ne e42738 (Or.inr (by decide))).trans ((jw_ne e42734 (Or.inr (by decide))).trans ((jw_ne e42731 (Or.inr (by decide))).trans ((jw_ne e42729 (Or.inr (by decide))).trans ((kk42727.v (by decide)).trans ew0)))))) (by omega) (by omega) ((jw_eq e42738)) (by omega) (by omega) (by omega)
  · have c42730b := jcmpL_geN c42730
    refine ev_iconst ?_
    exact ev_ret rfl (by decide) (by decide) ⟨_, rfl, by omega, by omega, g42729, k42729⟩
/-! s256_3  -/
set_option maxHeartbeats 4000000 in
theorem s256_3_l {G : GH} {h : JH} (ew0 : h.2.2 42 1 = 3) : ∀ N : Nat, (∀ (h1 : JH) (x1 y0 y1 : Int) (j2 j3 : AV), Gd G h1 → Kp [(46, 0), (47, 0), (42, 6), (42, 9)] h h1 → 0 ≤ x1 → x1 ≤ 27 → h1.2.2 42 1 = y0 → 3 ≤ y0 → y0 ≤ 3 → h1.2.2 42 5 = y1 → 0 ≤ y1 → y1 ≤ 27 → ((-x1) + 27) < N → jEv (jOk 3) none (fun _ => 0) c256_0 0 0 (PI G [(46, 0), (47, 0), (42, 6), (42, 9)] h 0 0 1) (c256_57, [(2, 42), (0, x1), j2, j3], [], h1, 0, 0)) := by
  intro N
  induction N with
  | zero => exact fun h1 x1 y0 y1 j2 j3 g1 k1 b0 b1 b2 b3 b4 b5 b6 b7 hm => absurd hm (by omega)
  | succ N ih =>
    show _
    intro h1 x1 y0 y1 j2 j3 g1 k1 b0 b1 ey0 ly0 uy0 ey1 ly1 uy1 hm
    refine ev_iload_n rfl ?_
    refine ev_aload_n rfl ?_
    refine g_getv (r := 42) (v := y1) g1 ad42 (by decide) ft12_5 (ey1) ?_
    refine ev_icmpge f256_127 (fun c43194 => ?_) (fun c43194 => ?_)
    · refine ev_iconst ?_
      exact ev_ret rfl (by decide) (by decide) ⟨_, rfl, by omega, by omega, g1, k1⟩
    · refine ev_iload_n rfl ?_
      refine ev_istore_n (L' := [(2, 42), (0, x1), (0, x1), j3]) (Nat.le_of_ble_eq_true rfl) rfl ?_
      refine ev_iconst ?_
      refine ev_istore_n (L' := [(2, 42), (0, x1), (0, x1), (0, 0)]) (Nat.le_of_ble_eq_true rfl) rfl ?_
      refine ev_iload_n rfl ?_
      refine ev_aload_n rfl ?_
      refine g_getv (r := 42) (v := y0) g1 ad42 (by decide) ft12_1 (ey0) ?_
      refine ev_icmpge f256_110 (fun c43195 => absurd c43195 (by omega)) (fun c43195 => ?_)
      refine ev_aload_n rfl ?_
      refine g_getp (r := 42) (c := 46) g1 ad42 (by decide) (by decide) rf42_6 ft12_6 ?_
      refine ev_iconst ?_
      refine ev_iload_n rfl ?_
      refine ev_imul (r := (4 * x1)) (by unfold w32; omega) ?_
      refine ev_iload_n rfl ?_
      refine ev_iadd (r := (4 * x1)) (by unfold w32; omega) ?_
      refine ev_iload_n rfl ?_
      refine ev_aload_n rfl ?_
      refine g_getp (r := 42) (c := 43) g1 ad42 (by decide) (by decide) rf42_2 ft12_2 ?_
      refine ev_iload_n rfl ?_
      refine g_iald g1 ad43 rt43 (by omega) (by omega) (fun v43196 ev43196 lv43196 uv43196 => ?_)
      have xv43196 := (g1.ex.2.1 (0 : Int).toNat (by rw [(ey0)]; omega)).1
      rw [ev43196] at xv43196
      refine g_iremQ (by omega) (by omega) (fun v43197 ev43197 lv43197 uv43197 wv43197 => ?_)
      refine g_iast g1 ad46 rt46 (fun _ => rfl) (by omega) (by omega) (by omega) (by omega) (fun h43198 e43198 g43198 => ?_)
      have k43198 := k1.wr e43198 rfl
      refine ev_iload_n rfl ?_
      refine ev_aload_n rfl ?_
      refine g_getp (r := 42) (c := 43) g43198 ad42 (by decide) (by decide) rf42_2 ft12_2 ?_
      refine ev_iload_n rfl ?_
      refine g_ialdv (v := v43196) g43198 ad43 (by omega) (by omega) (((jw_ne e43198 (Or.inl (by decide))).trans ev43196)) ?_
      refine g_idivM (by omega) (by omega) (by omega) (fun v43199 ev43199 lv43199 uv43199 => ?_)
      refine ev_istore_n (L' := [(2, 42), (0, x1), (0, v43199), (0, 0)]) (Nat.le_of_ble_eq_true rfl) rfl ?_
      refine ev_iinc (w := 1) (L' := [(2, 42), (0, x1), (0, v43199), (0, 1)]) rfl (by decide) rfl ?_
      refine ev_goto f256_69 ?_
      refine ev_iload_n rfl ?_
      refine ev_aload_n rfl ?_
      refine g_getv (r := 42) (v := y0) g43198 ad42 (by decide) ft12_1 (((jw_ne e43198 (Or.inl (by decide))).trans ey0)) ?_
      refine ev_icmpge f256_110 (fun c43200 => absurd c43200 (by omega)) (fun c43200 => ?_)
      refine ev_aload_n rfl ?_
      refine g_getp (r := 42) (c := 46) g43198 ad42 (by decide) (by decide) rf42_6 ft12_6 ?_
      refine ev_iconst ?_
      refine ev_iload_n rfl ?_
      refine ev_imul (r := (4 * x1)) (by unfold w32; omega) ?_
      refine ev_iload_n rfl ?_
      refine ev_iadd (r := (4 * x1 + 1)) (by unfold w32; omega) ?_
      refine ev_iload_n rfl ?_
      refine ev_aload_n rfl ?_
      refine g_getp (r := 42) (c := 43) g43198 ad42 (by decide) (by decide) rf42_2 ft12_2 ?_
      refine ev_iload_n rfl ?_
      refine g_iald g43198 ad43 rt43 (by omega) (by omega) (fun v43201 ev43201 lv43201 uv43201 => ?_)
      have xv43201 := (g43198.ex.2.1 (1 : Int).toNat (by rw [(((jw_ne e43198 (Or.inl (by decide))).trans ey0))]; omega)).1
      rw [ev43201] at xv43201
      refine g_iremQ (by omega) (by omega) (fun v43202 ev43202 lv43202 uv43202 wv43202 => ?_)
      refine g_iast g43198 ad46 rt46 (fun _ => rfl) (by omega) (by omega) (by omega) (by omega) (fun h43203 e43203 g43203 => ?_)
      have k43203 := k43198.wr e43203 rfl
      refine ev_iload_n rfl ?_
      refine ev_aload_n rfl ?_
      refine g_getp (r := 42) (c := 43) g43203 ad42 (by decide) (by decide) rf42_2 ft12_2 ?_
      refine ev_iload_n rfl ?_
      refine g_ialdv (v := v43201) g43203 ad43 (by omega) (by omega) (((jw_ne e43203 (Or.inl (by decide))).trans ev43201)) ?_
      refine g_idivM (by omega) (by omega) (by omega) (fun v43204 ev43204 lv43204 uv43204 => ?_)
      refine ev_istore_n (L' := [(2, 42), (0, x1), (0, v43204), (0, 1)]) (Nat.le_of_ble_eq_true rfl) rfl ?_
      refine ev_iinc (w := 2) (L' := [(2, 42), (0, x1), (0, v43204), (0, 2)]) rfl (by decide) rfl ?_
      refine ev_goto f256_69 ?_
      refine ev_iload_n rfl ?_
      refine ev_aload_n rfl ?_
      refine g_getv (r := 42) (v := y0) g43203 ad42 (by decide) ft12_1 (((jw_ne e43203 (Or.inl (by decide))).trans ((jw_ne e43198 (Or.inl (by decide))).trans ey0))) ?_
      refine ev_icmpge f256_110 (fun c43205 => absurd c43205 (by omega)) (fun c43205 => ?_)
      refine ev_aload_n rfl ?_
      refine g_getp (r := 42) (c := 46) g43203 ad42 (by decide) (by decide) rf42_6 ft12_6 ?_
      refine ev_iconst ?_
      refine ev_iload_n rfl ?_
      refine ev_imul (r := (4 * x1)) (by unfold w32; omega) ?_
      refine ev_iload_n rfl ?_
      refine ev_iadd (r := (4 * x1 + 2)) (by unfold w32; omega) ?_
      refine ev_iload_n rfl ?_
      refine ev_aload_n rfl ?_
      refine g_getp (r := 42) (c := 43) g43203 ad42 (by decide) (by decide) rf42_2 ft12_2 ?_
      refine ev_iload_n rfl ?_
      refine g_iald g43203 ad43 rt43 (by omega) (by omega) (fun v43206 ev43206 lv43206 uv43206 => ?_)
      have xv43206 := (g43203.ex.2.1 (2 : Int).toNat (by rw [(((jw_ne e43203 (Or.inl (by decide))).trans ((jw_ne e43198 (Or.inl (by decide))).trans ey0)))]; omega)).1
      rw [ev43206] at xv43206
      refine g_iremQ (by omega) (by omega) (fun v43207 ev43207 lv43207 uv43207 wv43207 => ?_)
      refine g_iast g43203 ad46 rt46 (fun _ => rfl) (by omega) (by omega) (by omega) (by omega) (fun h43208 e43208 g43208 => ?_)
      have k43208 := k43203.wr e43208 rfl
      refine ev_iload_n rfl ?_
      refine ev_aload_n rfl ?_
      refine g_getp (r := 42) (c := 43) g43208 ad42 (by decide) (by decide) rf42_2 ft12_2 ?_
      refine ev_iload_n rfl ?_
      refine g_ialdv (v := v43206) g43208 ad43 (by omega) (by omega) (((jw_ne e43208 (Or.inl (by decide))).trans ev43206)) ?_
      refine g_idivM (by omega) (by omega) (by omega) (fun v43209 ev43209 lv43209 uv43209 => ?_)
      refine ev_istore_n (L' := [(2, 42), (0, x1), (0, v43209), (0, 2)]) (Nat.le_of_ble_eq_true rfl) rfl ?_
      refine ev_iinc (w := 3) (L' := [(2, 42), (0, x1), (0, v43209), (0, 3)]) rfl (by decide) rfl ?_
      refine ev_goto f256_69 ?_
      refine ev_iload_n rfl ?_
      refine ev_aload_n rfl ?_
      refine g_getv (r := 42) (v := y0) g43208 ad42 (by decide) ft12_1 (((jw_ne e43208 (Or.inl (by decide))).trans ((jw_ne e43203 (Or.inl (by decide))).trans ((jw_ne e43198 (Or.inl (by decide))).trans ey0)))) ?_
      refine ev_icmpge f256_110 (fun c43210 => ?_) (fun c43210 => absurd c43210 (by omega))
      refine ev_aload_n rfl ?_
      refine g_getp (r := 42) (c := 47) g43208 ad42 (by decide) (by decide) rf42_7 ft12_7 ?_
      refine ev_iload_n rfl ?_
      refine ev_aload_n rfl ?_
      refine ev_iload_n rfl ?_
      refine ev_call (jcall_v (A := [(0, x1)]) (S' := [(0, x1), (2, 47)]) (r := 42) rfl (g43208.lt ad42) (g43208.tg ad42) (Nat.le_of_ble_eq_true rfl)) (jOk_le (by decide) (s255 g43208 (by omega) (by omega))) (by decide) (by decide) (fun w43211 h43211 q43211 => ?_)
      obtain ⟨v43212, rfl, lv43212, uv43212, g43211, kk43211⟩ := q43211
      have k43211 := k43208.tr kk43211 (by decide)
      show jEv _ _ _ _ _ _ _ (_, [(2, 42), (0, x1), (0, v43209), (0, 3)], [(1, v43212), (0, x1), (2, 47)], _, _, _)
      refine g_last g43211 ad47 rt47 (fun _ => rfl) (by omega) (by omega) (by omega) (by omega) (fun h43213 e43213 g43213 => ?_)
      have k43213 := k43211.wr e43213 rfl
      refine ev_iinc (w := (x1 + 1)) (L' := [(2, 42), (0, (x1 + 1)), (0, v43209), (0, 3)]) rfl (by unfold w32; omega) rfl ?_
      refine ev_goto f256_57 ?_
      exact ih _ _ _ _ _ _ g43213 k43213 (by omega) (by omega) (((jw_ne e43213 (Or.inl (by decide))).trans ((kk43211.v (by decide)).trans ((jw_ne e43208 (Or.inl (by decide))).trans ((jw_ne e43203 (Or.inl (by decide))).trans ((jw_ne e43198 (Or.inl (by decide))).trans ey0)))))) (by omega) (by omega) (((jw_ne e43213 (Or.inl (by decide))).trans ((kk43211.v (by decide)).trans ((jw_ne e43208 (Or.inl (by decide))).trans ((jw_ne e43203 (Or.inl (by decide))).trans ((jw_ne e43198 (Or.inl (by decide))).trans ey1)))))) (by omega) (by omega) (by omega)
set_option maxHeartbeats 4000000 in
theorem s256_3 {G : GH} {h : JH} (g : Gd G h) (ew0 : h.2.2 42 1 = 3) : jOk 4 0 0 256 [(2, 42)] h (PI G [(46, 0), (47, 0), (42, 6), (42, 9)] h 0 0 1) := by
  refine ⟨by decide, by rw [ml256]; exact Nat.le_of_ble_eq_true rfl, ?_⟩
  rw [ml256, pp256]
  show jEv _ none _ c256_0 0 0 _ (c256_0, [(2, 42), (9, 0), (9, 0), (9, 0)], [], h, 0, 0)
  have k0 := Kp.rf [(46, 0), (47, 0), (42, 6), (42, 9)] h
  refine ev_aload_n rfl ?_
  refine ev_aload_n rfl ?_
  refine ev_call (jcall_v (A := []) (S' := [(2, 42)]) (r := 42) rfl (g.lt ad42) (g.tg ad42) (Nat.le_of_ble_eq_true rfl)) (jOk_le (by decide) (s253 g )) (by decide) (by decide) (fun w43214 h43214 q43214 => ?_)
  obtain ⟨v43215, rfl, lv43215, uv43215, g43214, kk43214⟩ := q43214
  have k43214 := k0.tr kk43214 (by decide)
  show jEv _ _ _ _ _ _ _ (_, [(2, 42), (9, 0), (9, 0), (9, 0)], [(1, v43215), (2, 42)], _, _, _)
  refine g_putf (r := 42) g43214 ad42 (by decide) ft12_8 (by decide) (fun e => absurd e nz12_8) rf42_8 (by decide) (by omega) (by omega) (fun h43216 e43216 g43216 => ?_)
  have k43216 := k43214.wr e43216 rfl
  refine ev_aload_n rfl ?_
  refine g_getv (r := 42) (v := v43215) g43216 ad42 (by decide) ft12_8 ((jw_eq e43216)) ?_
  refine ev_lconst ?_
  refine ev_lcmp ?_
  refine ev_ifge f256_19 (fun c43217 => ?_) (fun c43217 => ?_)
  · have c43217b := jcmpL_ge c43217
    refine ev_aload_n rfl ?_
    refine ev_iconst ?_
    refine g_putf (r := 42) g43216 ad42 (by decide) ft12_5 (by decide) (fun e => absurd e nz12_5) rf42_5 (by decide) (by omega) (by omega) (fun h43218 e43218 g43218 => ?_)
    have k43218 := k43216.wr e43218 rfl
    refine ev_iconst ?_
    refine ev_istore_n (L' := [(2, 42), (0, 0), (9, 0), (9, 0)]) (Nat.le_of_ble_eq_true rfl) rfl ?_
    refine ev_iload_n rfl ?_
    refine ev_aload_n rfl ?_
    refine g_getv (r := 42) (v := 3) g43218 ad42 (by decide) ft12_1 (((jw_ne e43218 (Or.inr (by decide))).trans ((jw_ne e43216 (Or.inr (by decide))).trans ((kk43214.v (by decide)).trans ew0)))) ?_
    refine ev_icmpge f256_55 (fun c43219 => absurd c43219 (by omega)) (fun c43219 => ?_)
    refine ev_aload_n rfl ?_
    refine ev_dup (by decide) ?_
    refine g_getv (r := 42) (v := 1) g43218 ad42 (by decide) ft12_5 ((jw_eq e43218)) ?_
    refine ev_aload_n rfl ?_
    refine g_getp (r := 42) (c := 43) g43218 ad42 (by decide) (by decide) rf42_2 ft12_2 ?_
    refine ev_iload_n rfl ?_
    refine g_iald g43218 ad43 rt43 (by omega) (by omega) (fun v43220 ev43220 lv43220 uv43220 => ?_)
    have xv43220 := (g43218.ex.2.1 (0 : Int).toNat (by rw [(((jw_ne e43218 (Or.inr (by decide))).trans ((jw_ne e43216 (Or.inr (by decide))).trans ((kk43214.v (by decide)).trans ew0))))]; omega)).1
    rw [ev43220] at xv43220
    refine ev_imul (r := v43220) (by unfold w32; omega) ?_
    refine g_putf (r := 42) g43218 ad42 (by decide) ft12_5 (by decide) (fun e => absurd e nz12_5) rf42_5 (by decide) (by omega) (by omega) (fun h43221 e43221 g43221 => ?_)
    have k43221 := k43218.wr e43221 rfl
    refine ev_iinc (w := 1) (L' := [(2, 42), (0, 1), (9, 0), (9, 0)]) rfl (by decide) rfl ?_
    refine ev_goto f256_26 ?_
    refine ev_iload_n rfl ?_
    refine ev_aload_n rfl ?_
    refine g_getv (r := 42) (v := 3) g43221 ad42 (by decide) ft12_1 (((jw_ne e43221 (Or.inr (by decide))).trans ((jw_ne e43218 (Or.inr (by decide))).trans ((jw_ne e43216 (Or.inr (by decide))).trans ((kk43214.v (by decide)).trans ew0))))) ?_
    refine ev_icmpge f256_55 (fun c43222 => absurd c43222 (by omega)) (fun c43222 => ?_)
    refine ev_aload_n rfl ?_
    refine ev_dup (by decide) ?_
    refine g_getv (r := 42) (v := v43220) g43221 ad42 (by decide) ft12_5 ((jw_eq e43221)) ?_
    refine ev_aload_n rfl ?_
    refine g_getp (r := 42) (c := 43) g43221 ad42 (by decide) (by decide) rf42_2 ft12_2 ?_
    refine ev_iload_n rfl ?_
    refine g_iald g43221 ad43 rt43 (by omega) (by omega) (fun v43223 ev43223 lv43223 uv43223 => ?_)
    have xv43223 := (g43221.ex.2.1 (1 : Int).toNat (by rw [(((jw_ne e43221 (Or.inr (by decide))).trans ((jw_ne e43218 (Or.inr (by decide))).trans ((jw_ne e43216 (Or.inr (by decide))).trans ((kk43214.v (by decide)).trans ew0)))))]; omega)).1
    rw [ev43223] at xv43223
    refine g_imulB (a := 3) (b := 3) (a' := 2) (b' := 2) (by omega) (by omega) (by omega) (by omega) (by decide) (lo := 4) (hi := 9) (by decide) (by decide) (fun v43224 ev43224 lv43224 uv43224 => ?_)
    refine g_putf (r := 42) g43221 ad42 (by decide) ft12_5 (by decide) (fun e => absurd e nz12_5) rf42_5 (by decide) (by omega) (by omega) (fun h43225 e43225 g43225 => ?_)
    have k43225 := k43221.wr e43225 rfl
    refine ev_iinc (w := 2) (L' := [(2, 42), (0, 2), (9, 0), (9, 0)]) rfl (by decide) rfl ?_
    refine ev_goto f256_26 ?_
    refine ev_iload_n rfl ?_
    refine ev_aload_n rfl ?_
    refine g_getv (r := 42) (v := 3) g43225 ad42 (by decide) ft12_1 (((jw_ne e43225 (Or.inr (by decide))).trans ((jw_ne e43221 (Or.inr (by decide))).trans ((jw_ne e43218 (Or.inr (by decide))).trans ((jw_ne e43216 (Or.inr (by decide))).trans ((kk43214.v (by decide)).trans ew0)))))) ?_
    refine ev_icmpge f256_55 (fun c43226 => absurd c43226 (by omega)) (fun c43226 => ?_)
    refine ev_aload_n rfl ?_
    refine ev_dup (by decide) ?_
    refine g_getv (r := 42) (v := v43224) g43225 ad42 (by decide) ft12_5 ((jw_eq e43225)) ?_
    refine ev_aload_n rfl ?_
    refine g_getp (r := 42) (c := 43) g43225 ad42 (by decide) (by decide) rf42_2 ft12_2 ?_
    refine ev_iload_n rfl ?_
    refine g_iald g43225 ad43 rt43 (by omega) (by omega) (fun v43227 ev43227 lv43227 uv43227 => ?_)
    have xv43227 := (g43225.ex.2.1 (2 : Int).toNat (by rw [(((jw_ne e43225 (Or.inr (by decide))).trans ((jw_ne e43221 (Or.inr (by decide))).trans ((jw_ne e43218 (Or.inr (by decide))).trans ((jw_ne e43216 (Or.inr (by decide))).trans ((kk43214.v (by decide)).trans ew0))))))]; omega)).1
    rw [ev43227] at xv43227
    refine g_imulB (a := 9) (b := 3) (a' := 4) (b' := 2) (by omega) (by omega) (by omega) (by omega) (by decide) (lo := 8) (hi := 27) (by decide) (by decide) (fun v43228 ev43228 lv43228 uv43228 => ?_)
    refine g_putf (r := 42) g43225 ad42 (by decide) ft12_5 (by decide) (fun e => absurd e nz12_5) rf42_5 (by decide) (by omega) (by omega) (fun h43229 e43229 g43229 => ?_)
    have k43229 := k43225.wr e43229 rfl
    refine ev_iinc (w := 3) (L' := [(2, 42), (0, 3), (9, 0), (9, 0)]) rfl (by decide) rfl ?_
    refine ev_goto f256_26 ?_
    refine ev_iload_n rfl ?_
    refine ev_aload_n rfl ?_
    refine g_getv (r := 42) (v := 3) g43229 ad42 (by decide) ft12_1 (((jw_ne e43229 (Or.inr (by decide))).trans ((jw_ne e43225 (Or.inr (by decide))).trans ((jw_ne e43221 (Or.inr (by decide))).trans ((jw_ne e43218 (Or.inr (by decide))).trans ((jw_ne e43216 (Or.inr (by decide))).trans ((kk43214.v (by decide)).trans ew0))))))) ?_
    refine ev_icmpge f256_55 (fun c43230 => ?_) (fun c43230 => absurd c43230 (by omega))
    refine ev_iconst ?_
    refine ev_istore_n (L' := [(2, 42), (0, 0), (9, 0), (9, 0)]) (Nat.le_of_ble_eq_true rfl) rfl ?_
    exact (s256_3_l ew0 56) _ _ _ _ _ _ g43229 k43229 (by omega) (by omega) (((jw_ne e43229 (Or.inr (by decide))).trans ((jw_ne e43225 (Or.inr (by decide))).trans ((jw_ne e43221 (Or.inr (by decide))).trans ((jw_ne e43218 (Or.inr (by decide))).trans ((jw_ne e43216 (Or.inr (by decide))).trans ((kk43214.v (by decide)).trans ew0))))))) (by omega) (by omega) ((jw_eq e43229)) (by omega) (by omega) (by omega)
  · have c43217b := jcmpL_geN c43217
    refine ev_iconst ?_
    exact ev_ret rfl (by decide) (by decide) ⟨_, rfl, by omega, by omega, g43216, k43216⟩
/-! s256_4  -/
set_option maxHeartbeats 4000000 in
theorem s256_4_l {G : GH} {h : JH} (ew0 : h.2.2 42 1 = 4) : ∀ N : Nat, (∀ (h1 : JH) (x1 y0 y1 : Int) (j2 j3 : AV), Gd G h1 → Kp [(46, 0), (47, 0), (42, 6), (42, 9)] h h1 → 0 ≤ x1 → x1 ≤ 81 → h1.2.2 42 1 = y0 → 4 ≤ y0 → y0 ≤ 4 → h1.2.2 42 5 = y1 → 0 ≤ y1 → y1 ≤ 81 → ((-x1) + 81) < N → jEv (jOk 3) none (fun _ => 0) c256_0 0 0 (PI G [(46, 0), (47, 0), (42, 6), (42, 9)] h 0 0 1) (c256_57, [(2, 42), (0, x1), j2, j3], [], h1, 0, 0)) := by
  intro N
  induction N with
  | zero => exact fun h1 x1 y0 y1 j2 j3 g1 k1 b0 b1 b2 b3 b4 b5 b6 b7 hm => absurd hm (by omega)
  | succ N ih =>
    show _
    intro h1 x1 y0 y1 j2 j3 g1 k1 b0 b1 ey0 ly0 uy0 ey1 ly1 uy1 hm
    refine ev_iload_n rfl ?_
    refine ev_aload_n rfl ?_
    refine g_getv (r := 42) (v := y1) g1 ad42 (by decide) ft12_5 (ey1) ?_
    refine ev_icmpge f256_127 (fun c44123 => ?_) (fun c44123 => ?_)
    · refine ev_iconst ?_
      exact ev_ret rfl (by decide) (by decide) ⟨_, rfl, by omega, by omega, g1, k1⟩
    · refine ev_iload_n rfl ?_
      refine ev_istore_n (L' := [(2, 42), (0, x1), (0, x1), j3]) (Nat.le_of_ble_eq_true rfl) rfl ?_
      refine ev_iconst ?_
      refine ev_istore_n (L' := [(2, 42), (0, x1), (0, x1), (0, 0)]) (Nat.le_of_ble_eq_true rfl) rfl ?_
      refine ev_iload_n rfl ?_
      refine ev_aload_n rfl ?_
      refine g_getv (r := 42) (v := y0) g1 ad42 (by decide) ft12_1 (ey0) ?_
      refine ev_icmpge f256_110 (fun c44124 => absurd c44124 (by omega)) (fun c44124 => ?_)
      refine ev_aload_n rfl ?_
      refine g_getp (r := 42) (c := 46) g1 ad42 (by decide) (by decide) rf42_6 ft12_6 ?_
      refine ev_iconst ?_
      refine ev_iload_n rfl ?_
      refine ev_imul (r := (4 * x1)) (by unfold w32; omega) ?_
      refine ev_iload_n rfl ?_
      refine ev_iadd (r := (4 * x1)) (by unfold w32; omega) ?_
      refine ev_iload_n rfl ?_
      refine ev_aload_n rfl ?_
      refine g_getp (r := 42) (c := 43) g1 ad42 (by decide) (by decide) rf42_2 ft12_2 ?_
      refine ev_iload_n rfl ?_
      refine g_iald g1 ad43 rt43 (by omega) (by omega) (fun v44125 ev44125 lv44125 uv44125 => ?_)
      have xv44125 := (g1.ex.2.1 (0 : Int).toNat (by rw [(ey0)]; omega)).1
      rw [ev44125] at xv44125
      refine g_iremQ (by omega) (by omega) (fun v44126 ev44126 lv44126 uv44126 wv44126 => ?_)
      refine g_iast g1 ad46 rt46 (fun _ => rfl) (by omega) (by omega) (by omega) (by omega) (fun h44127 e44127 g44127 => ?_)
      have k44127 := k1.wr e44127 rfl
      refine ev_iload_n rfl ?_
      refine ev_aload_n rfl ?_
      refine g_getp (r := 42) (c := 43) g44127 ad42 (by decide) (by decide) rf42_2 ft12_2 ?_
      refine ev_iload_n rfl ?_
      refine g_ialdv (v := v44125) g44127 ad43 (by omega) (by omega) (((jw_ne e44127 (Or.inl (by decide))).trans ev44125)) ?_
      refine g_idivM (by omega) (by omega) (by omega) (fun v44128 ev44128 lv44128 uv44128 => ?_)
      refine ev_istore_n (L' := [(2, 42), (0, x1), (0, v44128), (0, 0)]) (Nat.le_of_ble_eq_true rfl) rfl ?_
      refine ev_iinc (w := 1) (L' := [(2, 42), (0, x1), (0, v44128), (0, 1)]) rfl (by decide) rfl ?_
      refine ev_goto f256_69 ?_
      refine ev_iload_n rfl ?_
      refine ev_aload_n rfl ?_
      refine g_getv (r := 42) (v := y0) g44127 ad42 (by decide) ft12_1 (((jw_ne e44127 (Or.inl (by decide))).trans ey0)) ?_
      refine ev_icmpge f256_110 (fun c44129 => absurd c44129 (by omega)) (fun c44129 => ?_)
      refine ev_aload_n rfl ?_
      refine g_getp (r := 42) (c := 46) g44127 ad42 (by decide) (by decide) rf42_6 ft12_6 ?_
      refine ev_iconst ?_
      refine ev_iload_n rfl ?_
      refine ev_imul (r := (4 * x1)) (by unfold w32; omega) ?_
      refine ev_iload_n rfl ?_
      refine ev_iadd (r := (4 * x1 + 1)) (by unfold w32; omega) ?_
      refine ev_iload_n rfl ?_
      refine ev_aload_n rfl ?_
      refine g_getp (r := 42) (c := 43) g44127 ad42 (by decide) (by decide) rf42_2 ft12_2 ?_
      refine ev_iload_n rfl ?_
      refine g_iald g44127 ad43 rt43 (by omega) (by omega) (fun v44130 ev44130 lv44130 uv44130 => ?_)
      have xv44130 := (g44127.ex.2.1 (1 : Int).toNat (by rw [(((jw_ne e44127 (Or.inl (by decide))).trans ey0))]; omega)).1
      rw [ev44130] at xv44130
      refine g_iremQ (by omega) (by omega) (fun v44131 ev44131 lv44131 uv44131 wv44131 => ?_)
      refine g_iast g44127 ad46 rt46 (fun _ => rfl) (by omega) (by omega) (by omega) (by omega) (fun h44132 e44132 g44132 => ?_)
      have k44132 := k44127.wr e44132 rfl
      refine ev_iload_n rfl ?_
      refine ev_aload_n rfl ?_
      refine g_getp (r := 42) (c := 43) g44132 ad42 (by decide) (by decide) rf42_2 ft12_2 ?_
      refine ev_iload_n rfl ?_
      refine g_ialdv (v := v44130) g44132 ad43 (by omega) (by omega) (((jw_ne e44132 (Or.inl (by decide))).trans ev44130)) ?_
      refine g_idivM (by omega) (by omega) (by omega) (fun v44133 ev44133 lv44133 uv44133 => ?_)
      refine ev_istore_n (L' := [(2, 42), (0, x1), (0, v44133), (0, 1)]) (Nat.le_of_ble_eq_true rfl) rfl ?_
      refine ev_iinc (w := 2) (L' := [(2, 42), (0, x1), (0, v44133), (0, 2)]) rfl (by decide) rfl ?_
      refine ev_goto f256_69 ?_
      refine ev_iload_n rfl ?_
      refine ev_aload_n rfl ?_
      refine g_getv (r := 42) (v := y0) g44132 ad42 (by decide) ft12_1 (((jw_ne e44132 (Or.inl (by decide))).trans ((jw_ne e44127 (Or.inl (by decide))).trans ey0))) ?_
      refine ev_icmpge f256_110 (fun c44134 => absurd c44134 (by omega)) (fun c44134 => ?_)
      refine ev_aload_n rfl ?_
      refine g_getp (r := 42) (c := 46) g44132 ad42 (by decide) (by decide) rf42_6 ft12_6 ?_
      refine ev_iconst ?_
      refine ev_iload_n rfl ?_
      refine ev_imul (r := (4 * x1)) (by unfold w32; omega) ?_
      refine ev_iload_n rfl ?_
      refine ev_iadd (r := (4 * x1 + 2)) (by unfold w32; omega) ?_
      refine ev_iload_n rfl ?_
      refine ev_aload_n rfl ?_
      refine g_getp (r := 42) (c := 43) g44132 ad42 (by decide) (by decide) rf42_2 ft12_2 ?_
      refine ev_iload_n rfl ?_
      refine g_iald g44132 ad43 rt43 (by omega) (by omega) (fun v44135 ev44135 lv44135 uv44135 => ?_)
      have xv44135 := (g44132.ex.2.1 (2 : Int).toNat (by rw [(((jw_ne e44132 (Or.inl (by decide))).trans ((jw_ne e44127 (Or.inl (by decide))).trans ey0)))]; omega)).1
      rw [ev44135] at xv44135
      refine g_iremQ (by omega) (by omega) (fun v44136 ev44136 lv44136 uv44136 wv44136 => ?_)
      refine g_iast g44132 ad46 rt46 (fun _ => rfl) (by omega) (by omega) (by omega) (by omega) (fun h44137 e44137 g44137 => ?_)
      have k44137 := k44132.wr e44137 rfl
      refine ev_iload_n rfl ?_
      refine ev_aload_n rfl ?_
      refine g_getp (r := 42) (c := 43) g44137 ad42 (by decide) (by decide) rf42_2 ft12_2 ?_
      refine ev_iload_n rfl ?_
      refine g_ialdv (v := v44135) g44137 ad43 (by omega) (by omega) (((jw_ne e44137 (Or.inl (by decide))).trans ev44135)) ?_
      refine g_idivM (by omega) (by omega) (by omega) (fun v44138 ev44138 lv44138 uv44138 => ?_)
      refine ev_istore_n (L' := [(2, 42), (0, x1), (0, v44138), (0, 2)]) (Nat.le_of_ble_eq_true rfl) rfl ?_
      refine ev_iinc (w := 3) (L' := [(2, 42), (0, x1), (0, v44138), (0, 3)]) rfl (by decide) rfl ?_
      refine ev_goto f256_69 ?_
      refine ev_iload_n rfl ?_
      refine ev_aload_n rfl ?_
      refine g_getv (r := 42) (v := y0) g44137 ad42 (by decide) ft12_1 (((jw_ne e44137 (Or.inl (by decide))).trans ((jw_ne e44132 (Or.inl (by decide))).trans ((jw_ne e44127 (Or.inl (by decide))).trans ey0)))) ?_
      refine ev_icmpge f256_110 (fun c44139 => absurd c44139 (by omega)) (fun c44139 => ?_)
      refine ev_aload_n rfl ?_
      refine g_getp (r := 42) (c := 46) g44137 ad42 (by decide) (by decide) rf42_6 ft12_6 ?_
      refine ev_iconst ?_
      refine ev_iload_n rfl ?_
      refine ev_imul (r := (4 * x1)) (by unfold w32; omega) ?_
      refine ev_iload_n rfl ?_
      refine ev_iadd (r := (4 * x1 + 3)) (by unfold w32; omega) ?_
      refine ev_iload_n rfl ?_
      refine ev_aload_n rfl ?_
      refine g_getp (r := 42) (c := 43) g44137 ad42 (by decide) (by decide) rf42_2 ft12_2 ?_
      refine ev_iload_n rfl ?_
      refine g_iald g44137 ad43 rt43 (by omega) (by omega) (fun v44140 ev44140 lv44140 uv44140 => ?_)
      have xv44140 := (g44137.ex.2.1 (3 : Int).toNat (by rw [(((jw_ne e44137 (Or.inl (by decide))).trans ((jw_ne e44132 (Or.inl (by decide))).trans ((jw_ne e44127 (Or.inl (by decide))).trans ey0))))]; omega)).1
      rw [ev44140] at xv44140
      refine g_iremQ (by omega) (by omega) (fun v44141 ev44141 lv44141 uv44141 wv44141 => ?_)
      refine g_iast g44137 ad46 rt46 (fun _ => rfl) (by omega) (by omega) (by omega) (by omega) (fun h44142 e44142 g44142 => ?_)
      have k44142 := k44137.wr e44142 rfl
      refine ev_iload_n rfl ?_
      refine ev_aload_n rfl ?_
      refine g_getp (r := 42) (c := 43) g44142 ad42 (by decide) (by decide) rf42_2 ft12_2 ?_
      refine ev_iload_n rfl ?_
      refine g_ialdv (v := v44140) g44142 ad43 (by omega) (by omega) (((jw_ne e44142 (Or.inl (by decide))).trans ev44140)) ?_
      refine g_idivM (by omega) (by omega) (by omega) (fun v44143 ev44143 lv44143 uv44143 => ?_)
      refine ev_istore_n (L' := [(2, 42), (0, x1), (0, v44143), (0, 3)]) (Nat.le_of_ble_eq_true rfl) rfl ?_
      refine ev_iinc (w := 4) (L' := [(2, 42), (0, x1), (0, v44143), (0, 4)]) rfl (by decide) rfl ?_
      refine ev_goto f256_69 ?_
      refine ev_iload_n rfl ?_
      refine ev_aload_n rfl ?_
      refine g_getv (r := 42) (v := y0) g44142 ad42 (by decide) ft12_1 (((jw_ne e44142 (Or.inl (by decide))).trans ((jw_ne e44137 (Or.inl (by decide))).trans ((jw_ne e44132 (Or.inl (by decide))).trans ((jw_ne e44127 (Or.inl (by decide))).trans ey0))))) ?_
      refine ev_icmpge f256_110 (fun c44144 => ?_) (fun c44144 => absurd c44144 (by omega))
      refine ev_aload_n rfl ?_
      refine g_getp (r := 42) (c := 47) g44142 ad42 (by decide) (by decide) rf42_7 ft12_7 ?_
      refine ev_iload_n rfl ?_
      refine ev_aload_n rfl ?_
      refine ev_iload_n rfl ?_
      refine ev_call (jcall_v (A := [(0, x1)]) (S' := [(0, x1), (2, 47)]) (r := 42) rfl (g44142.lt ad42) (g44142.tg ad42) (Nat.le_of_ble_eq_true rfl)) (jOk_le (by decide) (s255 g44142 (by omega) (by omega))) (by decide) (by decide) (fun w44145 h44145 q44145 => ?_)
      obtain ⟨v44146, rfl, lv44146, uv44146, g44145, kk44145⟩ := q44145
      have k44145 := k44142.tr kk44145 (by decide)
      show jEv _ _ _ _ _ _ _ (_, [(2, 42), (0, x1), (0, v44143), (0, 4)], [(1, v44146), (0, x1), (2, 47)], _, _, _)
      refine g_last g44145 ad47 rt47 (fun _ => rfl) (by omega) (by omega) (by omega) (by omega) (fun h44147 e44147 g44147 => ?_)
      have k44147 := k44145.wr e44147 rfl
      refine ev_iinc (w := (x1 + 1)) (L' := [(2, 42), (0, (x1 + 1)), (0, v44143), (0, 4)]) rfl (by unfold w32; omega) rfl ?_
      refine ev_goto f256_57 ?_
      exact ih _ _ _ _ _ _ g44147 k44147 (by omega) (by omega) (((jw_ne e44147 (Or.inl (by decide))).trans ((kk44145.v (by decide)).trans ((jw_ne e44142 (Or.inl (by decide))).trans ((jw_ne e44137 (Or.inl (by decide))).trans ((jw_ne e44132 (Or.inl (by decide))).trans ((jw_ne e44127 (Or.inl (by decide))).trans ey0))))))) (by omega) (by omega) (((jw_ne e44147 (Or.inl (by decide))).trans ((kk44145.v (by decide)).trans ((jw_ne e44142 (Or.inl (by decide))).trans ((jw_ne e44137 (Or.inl (by decide))).trans ((jw_ne e44132 (Or.inl (by decide))).trans ((jw_ne e44127 (Or.inl (by decide))).trans ey1))))))) (by omega) (by omega) (by omega)
set_option maxHeartbeats 4000000 in
theorem s256_4 {G : GH} {h : JH} (g : Gd G h) (ew0 : h.2.2 42 1 = 4) : jOk 4 0 0 256 [(2, 42)] h (PI G [(46, 0), (47, 0), (42, 6), (42, 9)] h 0 0 1) := by
  refine ⟨by decide, by rw [ml256]; exact Nat.le_of_ble_eq_true rfl, ?_⟩
  rw [ml256, pp256]
  show jEv _ none _ c256_0 0 0 _ (c256_0, [(2, 42), (9, 0), (9, 0), (9, 0)], [], h, 0, 0)
  have k0 := Kp.rf [(46, 0), (47, 0), (42, 6), (42, 9)] h
  refine ev_aload_n rfl ?_
  refine ev_aload_n rfl ?_
  refine ev_call (jcall_v (A := []) (S' := [(2, 42)]) (r := 42) rfl (g.lt ad42) (g.tg ad42) (Nat.le_of_ble_eq_true rfl)) (jOk_le (by decide) (s253 g )) (by decide) (by decide) (fun w44148 h44148 q44148 => ?_)
  obtain ⟨v44149, rfl, lv44149, uv44149, g44148, kk44148⟩ := q44148
  have k44148 := k0.tr kk44148 (by decide)
  show jEv _ _ _ _ _ _ _ (_, [(2, 42), (9, 0), (9, 0), (9, 0)], [(1, v44149), (2, 42)], _, _, _)
  refine g_putf (r := 42) g44148 ad42 (by decide) ft12_8 (by decide) (fun e => absurd e nz12_8) rf42_8 (by decide) (by omega) (by omega) (fun h44150 e44150 g44150 => ?_)
  have k44150 := k44148.wr e44150 rfl
  refine ev_aload_n rfl ?_
  refine g_getv (r := 42) (v := v44149) g44150 ad42 (by decide) ft12_8 ((jw_eq e44150)) ?_
  refine ev_lconst ?_
  refine ev_lcmp ?_
  refine ev_ifge f256_19 (fun c44151 => ?_) (fun c44151 => ?_)
  · have c44151b := jcmpL_ge c44151
    refine ev_aload_n rfl ?_
    refine ev_iconst ?_
    refine g_putf (r := 42) g44150 ad42 (by decide) ft12_5 (by decide) (fun e => absurd e nz12_5) rf42_5 (by decide) (by omega) (by omega) (fun h44152 e44152 g44152 => ?_)
    have k44152 := k44150.wr e44152 rfl
    refine ev_iconst ?_
    refine ev_istore_n (L' := [(2, 42), (0, 0), (9, 0), (9, 0)]) (Nat.le_of_ble_eq_true rfl) rfl ?_
    refine ev_iload_n rfl ?_
    refine ev_aload_n rfl ?_
    refine g_getv (r := 42) (v := 4) g44152 ad42 (by decide) ft12_1 (((jw_ne e44152 (Or.inr (by decide))).trans ((jw_ne e44150 (Or.inr (by decide))).trans ((kk44148.v (by decide)).trans ew0)))) ?_
    refine ev_icmpge f256_55 (fun c44153 => absurd c44153 (by omega)) (fun c44153 => ?_)
    refine ev_aload_n rfl ?_
    refine ev_dup (by decide) ?_
    refine g_getv (r := 42) (v := 1) g44152 ad42 (by decide) ft12_5 ((jw_eq e44152)) ?_
    refine ev_aload_n rfl ?_
    refine g_getp (r := 42) (c := 43) g44152 ad42 (by decide) (by decide) rf42_2 ft12_2 ?_
    refine ev_iload_n rfl ?_
    refine g_iald g44152 ad43 rt43 (by omega) (by omega) (fun v44154 ev44154 lv44154 uv44154 => ?_)
    have xv44154 := (g44152.ex.2.1 (0 : Int).toNat (by rw [(((jw_ne e44152 (Or.inr (by decide))).trans ((jw_ne e44150 (Or.inr (by decide))).trans ((kk44148.v (by decide)).trans ew0))))]; omega)).1
    rw [ev44154] at xv44154
    refine ev_imul (r := v44154) (by unfold w32; omega) ?_
    refine g_putf (r := 42) g44152 ad42 (by decide) ft12_5 (by decide) (fun e => absurd e nz12_5) rf42_5 (by decide) (by omega) (by omega) (fun h44155 e44155 g44155 => ?_)
    have k44155 := k44152.wr e44155 rfl
    refine ev_iinc (w := 1) (L' := [(2, 42), (0, 1), (9, 0), (9, 0)]) rfl (by decide) rfl ?_
    refine ev_goto f256_26 ?_
    refine ev_iload_n rfl ?_
    refine ev_aload_n rfl ?_
    refine g_getv (r := 42) (v := 4) g44155 ad42 (by decide) ft12_1 (((jw_ne e44155 (Or.inr (by decide))).trans ((jw_ne e44152 (Or.inr (by decide))).trans ((jw_ne e44150 (Or.inr (by decide))).trans ((kk44148.v (by decide)).trans ew0))))) ?_
    refine ev_icmpge f256_55 (fun c44156 => absurd c44156 (by omega)) (fun c44156 => ?_)
    refine ev_aload_n rfl ?_
    refine ev_dup (by decide) ?_
    refine g_getv (r := 42) (v := v44154) g44155 ad42 (by decide) ft12_5 ((jw_eq e44155)) ?_
    refine ev_aload_n rfl ?_
    refine g_getp (r := 42) (c := 43) g44155 ad42 (by decide) (by decide) rf42_2 ft12_2 ?_
    refine ev_iload_n rfl ?_
    refine g_iald g44155 ad43 rt43 (by omega) (by omega) (fun v44157 ev44157 lv44157 uv44157 => ?_)
    have xv44157 := (g44155.ex.2.1 (1 : Int).toNat (by rw [(((jw_ne e44155 (Or.inr (by decide))).trans ((jw_ne e44152 (Or.inr (by decide))).trans ((jw_ne e44150 (Or.inr (by decide))).trans ((kk44148.v (by decide)).trans ew0)))))]; omega)).1
    rw [ev44157] at xv44157
    refine g_imulB (a := 3) (b := 3) (a' := 2) (b' := 2) (by omega) (by omega) (by omega) (by omega) (by decide) (lo := 4) (hi := 9) (by decide) (by decide) (fun v44158 ev44158 lv44158 uv44158 => ?_)
    refine g_putf (r := 42) g44155 ad42 (by decide) ft12_5 (by decide) (fun e => absurd e nz12_5) rf42_5 (by decide) (by omega) (by omega) (fun h44159 e44159 g44159 => ?_)
    have k44159 := k44155.wr e44159 rfl
    refine ev_iinc (w := 2) (L' := [(2, 42), (0, 2), (9, 0), (9, 0)]) rfl (by decide) rfl ?_
    refine ev_goto f256_26 ?_
    refine ev_iload_n rfl ?_
    refine ev_aload_n rfl ?_
    refine g_getv (r := 42) (v := 4) g44159 ad42 (by decide) ft12_1 (((jw_ne e44159 (Or.inr (by decide))).trans ((jw_ne e44155 (Or.inr (by decide))).trans ((jw_ne e44152 (Or.inr (by decide))).trans ((jw_ne e44150 (Or.inr (by decide))).trans ((kk44148.v (by decide)).trans ew0)))))) ?_
    refine ev_icmpge f256_55 (fun c44160 => absurd c44160 (by omega)) (fun c44160 => ?_)
    refine ev_aload_n rfl ?_
    refine ev_dup (by decide) ?_
    refine g_getv (r := 42) (v := v44158) g44159 ad42 (by decide) ft12_5 ((jw_eq e44159)) ?_
    refine ev_aload_n rfl ?_
    refine g_getp (r := 42) (c := 43) g44159 ad42 (by decide) (by decide) rf42_2 ft12_2 ?_
    refine ev_iload_n rfl ?_
    refine g_iald g44159 ad43 rt43 (by omega) (by omega) (fun v44161 ev44161 lv44161 uv44161 => ?_)
    have xv44161 := (g44159.ex.2.1 (2 : Int).toNat (by rw [(((jw_ne e44159 (Or.inr (by decide))).trans ((jw_ne e44155 (Or.inr (by decide))).trans ((jw_ne e44152 (Or.inr (by decide))).trans ((jw_ne e44150 (Or.inr (by decide))).trans ((kk44148.v (by decide)).trans ew0))))))]; omega)).1
    rw [ev44161] at xv44161
    refine g_imulB (a := 9) (b := 3) (a' := 4) (b' := 2) (by omega) (by omega) (by omega) (by omega) (by decide) (lo := 8) (hi := 27) (by decide) (by decide) (fun v44162 ev44162 lv44162 uv44162 => ?_)
    refine g_putf (r := 42) g44159 ad42 (by decide) ft12_5 (by decide) (fun e => absurd e nz12_5) rf42_5 (by decide) (by omega) (by omega) (fun h44163 e44163 g44163 => ?_)
    have k44163 := k44159.wr e44163 rfl
    refine ev_iinc (w := 3) (L' := [(2, 42), (0, 3), (9, 0), (9, 0)]) rfl (by decide) rfl ?_
    refine ev_goto f256_26 ?_
    refine ev_iload_n rfl ?_
    refine ev_aload_n rfl ?_
    refine g_getv (r := 42) (v := 4) g44163 ad42 (by decide) ft12_1 (((jw_ne e44163 (Or.inr (by decide))).trans ((jw_ne e44159 (Or.inr (by decide))).trans ((jw_ne e44155 (Or.inr (by decide))).trans ((jw_ne e44152 (Or.inr (by decide))).trans ((jw_ne e44150 (Or.inr (by decide))).trans ((kk44148.v (by decide)).trans ew0))))))) ?_
    refine ev_icmpge f256_55 (fun c44164 => absurd c44164 (by omega)) (fun c44164 => ?_)
    refine ev_aload_n rfl ?_
    refine ev_dup (by decide) ?_
    refine g_getv (r := 42) (v := v44162) g44163 ad42 (by decide) ft12_5 ((jw_eq e44163)) ?_
    refine ev_aload_n rfl ?_
    refine g_getp (r := 42) (c := 43) g44163 ad42 (by decide) (by decide) rf42_2 ft12_2 ?_
    refine ev_iload_n rfl ?_
    refine g_iald g44163 ad43 rt43 (by omega) (by omega) (fun v44165 ev44165 lv44165 uv44165 => ?_)
    have xv44165 := (g44163.ex.2.1 (3 : Int).toNat (by rw [(((jw_ne e44163 (Or.inr (by decide))).trans ((jw_ne e44159 (Or.inr (by decide))).trans ((jw_ne e44155 (Or.inr (by decide))).trans ((jw_ne e44152 (Or.inr (by decide))).trans ((jw_ne e44150 (Or.inr (by decide))).trans ((kk44148.v (by decide)).trans ew0)))))))]; omega)).1
    rw [ev44165] at xv44165
    refine g_imulB (a := 27) (b := 3) (a' := 8) (b' := 2) (by omega) (by omega) (by omega) (by omega) (by decide) (lo := 16) (hi := 81) (by decide) (by decide) (fun v44166 ev44166 lv44166 uv44166 => ?_)
    refine g_putf (r := 42) g44163 ad42 (by decide) ft12_5 (by decide) (fun e => absurd e nz12_5) rf42_5 (by decide) (by omega) (by omega) (fun h44167 e44167 g44167 => ?_)
    have k44167 := k44163.wr e44167 rfl
    refine ev_iinc (w := 4) (L' := [(2, 42), (0, 4), (9, 0), (9, 0)]) rfl (by decide) rfl ?_
    refine ev_goto f256_26 ?_
    refine ev_iload_n rfl ?_
    refine ev_aload_n rfl ?_
    refine g_getv (r := 42) (v := 4) g44167 ad42 (by decide) ft12_1 (((jw_ne e44167 (Or.inr (by decide))).trans ((jw_ne e44163 (Or.inr (by decide))).trans ((jw_ne e44159 (Or.inr (by decide))).trans ((jw_ne e44155 (Or.inr (by decide))).trans ((jw_ne e44152 (Or.inr (by decide))).trans ((jw_ne e44150 (Or.inr (by decide))).trans ((kk44148.v (by decide)).trans ew0)))))))) ?_
    refine ev_icmpge f256_55 (fun c44168 => ?_) (fun c44168 => absurd c44168 (by omega))
    refine ev_iconst ?_
    refine ev_istore_n (L' := [(2, 42), (0, 0), (9, 0), (9, 0)]) (Nat.le_of_ble_eq_true rfl) rfl ?_
    exact (s256_4_l ew0 164) _ _ _ _ _ _ g44167 k44167 (by omega) (by omega) (((jw_ne e44167 (Or.inr (by decide))).trans ((jw_ne e44163 (Or.inr (by decide))).trans ((jw_ne e44159 (Or.inr (by decide))).trans ((jw_ne e44155 (Or.inr (by decide))).trans ((jw_ne e44152 (Or.inr (by decide))).trans ((jw_ne e44150 (Or.inr (by decide))).trans ((kk44148.v (by decide)).trans ew0)))))))) (by omega) (by omega) ((jw_eq e44167)) (by omega) (by omega) (by omega)
  · have c44151b := jcmpL_geN c44151
    refine ev_iconst ?_
    exact ev_ret rfl (by decide) (by decide) ⟨_, rfl, by omega, by omega, g44150, k44150⟩
/-! s256  -/
theorem s256 {G : GH} {h : JH} (g : Gd G h) : jOk 4 0 0 256 [(2, 42)] h (PI G [(46, 0), (47, 0), (42, 6), (42, 9)] h 0 0 1) := by
  obtain ⟨w, e, l, u⟩ := g.rd ad42 (show 1 < 66 by decide) rf42_1
  rcases (show w = 0 ∨ w = 1 ∨ w = 2 ∨ w = 3 ∨ w = 4 by omega) with f | f | f | f | f <;> subst f
  · exact jOk_le (by decide) (s256_0 g e)
  · exact jOk_le (by decide) (s256_1 g e)
  · exact jOk_le (by decide) (s256_2 g e)
  · exact jOk_le (by decide) (s256_3 g e)
  · exact jOk_le (by decide) (s256_4 g e)
/-! s257_0  -/
set_option maxHeartbeats 4000000 in
theorem s257_0 {G : GH} {h : JH} (g : Gd G h) {a1 : Int} (la1 : (-2147483648) ≤ a1) (ua1 : a1 ≤ 2147483647) (ew0 : h.2.2 42 1 = 0) : jOk 5 0 0 257 [(2, 42), (0, a1)] h (PI G [(46, 0), (47, 0), (42, 6), (42, 9)] h 1 (-9223372036854775808) 9223372036854775807) := by
  refine ⟨by decide, by rw [ml257]; exact Nat.le_of_ble_eq_true rfl, ?_⟩
  rw [ml257, pp257]
  show jEv _ none _ c257_0 0 0 _ (c257_0, [(2, 42), (0, a1), (9, 0), (9, 0), (9, 0), (9, 0)], [], h, 0, 0)
  have k0 := Kp.rf [(46, 0), (47, 0), (42, 6), (42, 9)] h
  refine ev_iload_n rfl ?_
  refine ev_iflt f257_15 (fun c44183 => ?_) (fun c44183 => ?_)
  · refine ev_ldc2_w ?_
    exact ev_ret rfl (by decide) (by decide) ⟨_, rfl, by omega, by omega, g, k0⟩
  · refine ev_iload_n rfl ?_
    refine ev_iconst ?_
    refine ev_aload_n rfl ?_
    refine g_getv (r := 42) (v := 0) g ad42 (by decide) ft12_1 (ew0) ?_
    refine ev_imul (r := 0) (by decide) ?_
    refine ev_ishr (r := a1) (jshr_0 (by omega) (by omega)) ?_
    refine ev_ifeq f257_19 (fun c44184 => ?_) (fun c44184 => ?_)
    · refine ev_iconst ?_
      refine ev_istore_n (L' := [(2, 42), (0, a1), (0, 0), (9, 0), (9, 0), (9, 0)]) (Nat.le_of_ble_eq_true rfl) rfl ?_
      refine ev_iconst ?_
      refine ev_istore_n (L' := [(2, 42), (0, a1), (0, 0), (0, 1), (9, 0), (9, 0)]) (Nat.le_of_ble_eq_true rfl) rfl ?_
      refine ev_iconst ?_
      refine ev_istore (L' := [(2, 42), (0, a1), (0, 0), (0, 1), (0, 0), (9, 0)]) (Nat.le_of_ble_eq_true rfl) rfl ?_
      refine ev_iload rfl ?_
      refine ev_aload_n rfl ?_
      refine g_getv (r := 42) (v := 0) g ad42 (by decide) ft12_1 (ew0) ?_
      refine ev_icmpge f257_84 (fun c44185 => ?_) (fun c44185 => absurd c44185 (by omega))
      refine ev_aload_n rfl ?_
      refine ev_call (jcall_v (A := []) (S' := []) (r := 42) rfl (g.lt ad42) (g.tg ad42) (Nat.le_of_ble_eq_true rfl)) (jOk_le (by decide) (s256 g )) (by decide) (by decide) (fun w44186 h44186 q44186 => ?_)
      obtain ⟨v44187, rfl, lv44187, uv44187, g44186, kk44186⟩ := q44186
      have k44186 := k0.tr kk44186 (by decide)
      show jEv _ _ _ _ _ _ _ (_, [(2, 42), (0, a1), (0, 0), (0, 1), (0, 0), (9, 0)], [(0, v44187)], _, _, _)
      refine ev_ifeq f257_100 (fun c44188 => ?_) (fun c44188 => ?_)
      · refine ev_ldc2_w ?_
        exact ev_ret rfl (by decide) (by decide) ⟨_, rfl, by omega, by omega, g44186, k44186⟩
      · refine ev_aload_n rfl ?_
        refine g_getp (r := 42) (c := 47) g44186 ad42 (by decide) (by decide) rf42_7 ft12_7 ?_
        refine ev_iload_n rfl ?_
        refine g_lald g44186 ad47 rt47 (by omega) (by omega) (fun v44189 ev44189 lv44189 uv44189 => ?_)
        refine ev_goto f257_103 ?_
        exact ev_ret rfl (by decide) (by decide) ⟨_, rfl, by omega, by omega, g44186, k44186⟩
    · refine ev_ldc2_w ?_
      exact ev_ret rfl (by decide) (by decide) ⟨_, rfl, by omega, by omega, g, k0⟩
/-! s257_1  -/
set_option maxHeartbeats 4000000 in
theorem s257_1 {G : GH} {h : JH} (g : Gd G h) {a1 : Int} (la1 : (-2147483648) ≤ a1) (ua1 : a1 ≤ 2147483647) (ew0 : h.2.2 42 1 = 1) : jOk 5 0 0 257 [(2, 42), (0, a1)] h (PI G [(46, 0), (47, 0), (42, 6), (42, 9)] h 1 (-9223372036854775808) 9223372036854775807) := by
  refine ⟨by decide, by rw [ml257]; exact Nat.le_of_ble_eq_true rfl, ?_⟩
  rw [ml257, pp257]
  show jEv _ none _ c257_0 0 0 _ (c257_0, [(2, 42), (0, a1), (9, 0), (9, 0), (9, 0), (9, 0)], [], h, 0, 0)
  have k0 := Kp.rf [(46, 0), (47, 0), (42, 6), (42, 9)] h
  refine ev_iload_n rfl ?_
  refine ev_iflt f257_15 (fun c44214 => ?_) (fun c44214 => ?_)
  · refine ev_ldc2_w ?_
    exact ev_ret rfl (by decide) (by decide) ⟨_, rfl, by omega, by omega, g, k0⟩
  · refine ev_iload_n rfl ?_
    refine ev_iconst ?_
    refine ev_aload_n rfl ?_
    refine g_getv (r := 42) (v := 1) g ad42 (by decide) ft12_1 (ew0) ?_
    refine ev_imul (r := 2) (by decide) ?_
    refine g_ishrB (a := 2147483647) (by omega) (by omega) (by decide) (fun v44215 ev44215 lv44215 uv44215 => ?_)
    refine ev_ifeq f257_19 (fun c44216 => ?_) (fun c44216 => ?_)
    · refine ev_iconst ?_
      refine ev_istore_n (L' := [(2, 42), (0, a1), (0, 0), (9, 0), (9, 0), (9, 0)]) (Nat.le_of_ble_eq_true rfl) rfl ?_
      refine ev_iconst ?_
      refine ev_istore_n (L' := [(2, 42), (0, a1), (0, 0), (0, 1), (9, 0), (9, 0)]) (Nat.le_of_ble_eq_true rfl) rfl ?_
      refine ev_iconst ?_
      refine ev_istore (L' := [(2, 42), (0, a1), (0, 0), (0, 1), (0, 0), (9, 0)]) (Nat.le_of_ble_eq_true rfl) rfl ?_
      refine ev_iload rfl ?_
      refine ev_aload_n rfl ?_
      refine g_getv (r := 42) (v := 1) g ad42 (by decide) ft12_1 (ew0) ?_
      refine ev_icmpge f257_84 (fun c44217 => absurd c44217 (by omega)) (fun c44217 => ?_)
      refine ev_iload_n rfl ?_
      refine ev_iconst ?_
      refine ev_iload rfl ?_
      refine ev_imul (r := 0) (by decide) ?_
      refine ev_ishr (r := a1) (jshr_0 (by omega) (by omega)) ?_
      refine ev_iconst ?_
      refine g_iandB (b := 3) (by omega) (by omega) (by decide) (fun v44218 ev44218 lv44218 uv44218 => ?_)
      refine ev_istore (L' := [(2, 42), (0, a1), (0, 0), (0, 1), (0, 0), (0, v44218)]) (Nat.le_of_ble_eq_true rfl) rfl ?_
      refine ev_iload rfl ?_
      refine ev_aload_n rfl ?_
      refine g_getp (r := 42) (c := 43) g ad42 (by decide) (by decide) rf42_2 ft12_2 ?_
      refine ev_iload rfl ?_
      refine g_iald g ad43 rt43 (by omega) (by omega) (fun v44219 ev44219 lv44219 uv44219 => ?_)
      have xv44219 := (g.ex.2.1 (0 : Int).toNat (by rw [(ew0)]; omega)).1
      rw [ev44219] at xv44219
      refine ev_icmplt f257_61 (fun c44220 => ?_) (fun c44220 => ?_)
      · refine ev_iload_n rfl ?_
        refine ev_iload_n rfl ?_
        refine ev_iload rfl ?_
        refine ev_imul (r := v44218) (by unfold w32; omega) ?_
        refine ev_iadd (r := v44218) (by unfold w32; omega) ?_
        refine ev_istore_n (L' := [(2, 42), (0, a1), (0, v44218), (0, 1), (0, 0), (0, v44218)]) (Nat.le_of_ble_eq_true rfl) rfl ?_
        refine ev_iload_n rfl ?_
        refine ev_aload_n rfl ?_
        refine g_getp (r := 42) (c := 43) g ad42 (by decide) (by decide) rf42_2 ft12_2 ?_
        refine ev_iload rfl ?_
        refine g_ialdv (v := v44219) g ad43 (by omega) (by omega) (ev44219) ?_
        refine ev_imul (r := v44219) (by unfold w32; omega) ?_
        refine ev_istore_n (L' := [(2, 42), (0, a1), (0, v44218), (0, v44219), (0, 0), (0, v44218)]) (Nat.le_of_ble_eq_true rfl) rfl ?_
        refine ev_iinc (w := 1) (L' := [(2, 42), (0, a1), (0, v44218), (0, v44219), (0, 1), (0, v44218)]) rfl (by decide) rfl ?_
        refine ev_goto f257_26 ?_
        refine ev_iload rfl ?_
        refine ev_aload_n rfl ?_
        refine g_getv (r := 42) (v := 1) g ad42 (by decide) ft12_1 (ew0) ?_
        refine ev_icmpge f257_84 (fun c44221 => ?_) (fun c44221 => absurd c44221 (by omega))
        refine ev_aload_n rfl ?_
        refine ev_call (jcall_v (A := []) (S' := []) (r := 42) rfl (g.lt ad42) (g.tg ad42) (Nat.le_of_ble_eq_true rfl)) (jOk_le (by decide) (s256 g )) (by decide) (by decide) (fun w44222 h44222 q44222 => ?_)
        obtain ⟨v44223, rfl, lv44223, uv44223, g44222, kk44222⟩ := q44222
        have k44222 := k0.tr kk44222 (by decide)
        show jEv _ _ _ _ _ _ _ (_, [(2, 42), (0, a1), (0, v44218), (0, v44219), (0, 1), (0, v44218)], [(0, v44223)], _, _, _)
        refine ev_ifeq f257_100 (fun c44224 => ?_) (fun c44224 => ?_)
        · refine ev_ldc2_w ?_
          exact ev_ret rfl (by decide) (by decide) ⟨_, rfl, by omega, by omega, g44222, k44222⟩
        · refine ev_aload_n rfl ?_
          refine g_getp (r := 42) (c := 47) g44222 ad42 (by decide) (by decide) rf42_7 ft12_7 ?_
          refine ev_iload_n rfl ?_
          refine g_lald g44222 ad47 rt47 (by omega) (by omega) (fun v44225 ev44225 lv44225 uv44225 => ?_)
          refine ev_goto f257_103 ?_
          exact ev_ret rfl (by decide) (by decide) ⟨_, rfl, by omega, by omega, g44222, k44222⟩
      · refine ev_ldc2_w ?_
        exact ev_ret rfl (by decide) (by decide) ⟨_, rfl, by omega, by omega, g, k0⟩
    · refine ev_ldc2_w ?_
      exact ev_ret rfl (by decide) (by decide) ⟨_, rfl, by omega, by omega, g, k0⟩
/-! s257_2  -/
set_option maxHeartbeats 4000000 in
theorem s257_2 {G : GH} {h : JH} (g : Gd G h) {a1 : Int} (la1 : (-2147483648) ≤ a1) (ua1 : a1 ≤ 2147483647) (ew0 : h.2.2 42 1 = 2) : jOk 5 0 0 257 [(2, 42), (0, a1)] h (PI G [(46, 0), (47, 0), (42, 6), (42, 9)] h 1 (-9223372036854775808) 9223372036854775807) := by
  refine ⟨by decide, by rw [ml257]; exact Nat.le_of_ble_eq_true rfl, ?_⟩
  rw [ml257, pp257]
  show jEv _ none _ c257_0 0 0 _ (c257_0, [(2, 42), (0, a1), (9, 0), (9, 0), (9, 0), (9, 0)], [], h, 0, 0)
  have k0 := Kp.rf [(46, 0), (47, 0), (42, 6), (42, 9)] h
  refine ev_iload_n rfl ?_
  refine ev_iflt f257_15 (fun c44264 => ?_) (fun c44264 => ?_)
  · refine ev_ldc2_w ?_
    exact ev_ret rfl (by decide) (by decide) ⟨_, rfl, by omega, by omega, g, k0⟩
  · refine ev_iload_n rfl ?_
    refine ev_iconst ?_
    refine ev_aload_n rfl ?_
    refine g_getv (r := 42) (v := 2) g ad42 (by decide) ft12_1 (ew0) ?_
    refine ev_imul (r := 4) (by decide) ?_
    refine g_ishrB (a := 2147483647) (by omega) (by omega) (by decide) (fun v44265 ev44265 lv44265 uv44265 => ?_)
    refine ev_ifeq f257_19 (fun c44266 => ?_) (fun c44266 => ?_)
    · refine ev_iconst ?_
      refine ev_istore_n (L' := [(2, 42), (0, a1), (0, 0), (9, 0), (9, 0), (9, 0)]) (Nat.le_of_ble_eq_true rfl) rfl ?_
      refine ev_iconst ?_
      refine ev_istore_n (L' := [(2, 42), (0, a1), (0, 0), (0, 1), (9, 0), (9, 0)]) (Nat.le_of_ble_eq_true rfl) rfl ?_
      refine ev_iconst ?_
      refine ev_istore (L' := [(2, 42), (0, a1), (0, 0), (0, 1), (0, 0), (9, 0)]) (Nat.le_of_ble_eq_true rfl) rfl ?_
      refine ev_iload rfl ?_
      refine ev_aload_n rfl ?_
      refine g_getv (r := 42) (v := 2) g ad42 (by decide) ft12_1 (ew0) ?_
      refine ev_icmpge f257_84 (fun c44267 => absurd c44267 (by omega)) (fun c44267 => ?_)
      refine ev_iload_n rfl ?_
      refine ev_iconst ?_
      refine ev_iload rfl ?_
      refine ev_imul (r := 0) (by decide) ?_
      refine ev_ishr (r := a1) (jshr_0 (by omega) (by omega)) ?_
      refine ev_iconst ?_
      refine g_iandB (b := 3) (by omega) (by omega) (by decide) (fun v44268 ev44268 lv44268 uv44268 => ?_)
      refine ev_istore (L' := [(2, 42), (0, a1), (0, 0), (0, 1), (0, 0), (0, v44268)]) (Nat.le_of_ble_eq_true rfl) rfl ?_
      refine ev_iload rfl ?_
      refine ev_aload_n rfl ?_
      refine g_getp (r := 42) (c := 43) g ad42 (by decide) (by decide) rf42_2 ft12_2 ?_
      refine ev_iload rfl ?_
      refine g_iald g ad43 rt43 (by omega) (by omega) (fun v44269 ev44269 lv44269 uv44269 => ?_)
      have xv44269 := (g.ex.2.1 (0 : Int).toNat (by rw [(ew0)]; omega)).1
      rw [ev44269] at xv44269
      refine ev_icmplt f257_61 (fun c44270 => ?_) (fun c44270 => ?_)
      · refine ev_iload_n rfl ?_
        refine ev_iload_n rfl ?_
        refine ev_iload rfl ?_
        refine ev_imul (r := v44268) (by unfold w32; omega) ?_
        refine ev_iadd (r := v44268) (by unfold w32; omega) ?_
        refine ev_istore_n (L' := [(2, 42), (0, a1), (0, v44268), (0, 1), (0, 0), (0, v44268)]) (Nat.le_of_ble_eq_true rfl) rfl ?_
        refine ev_iload_n rfl ?_
        refine ev_aload_n rfl ?_
        refine g_getp (r := 42) (c := 43) g ad42 (by decide) (by decide) rf42_2 ft12_2 ?_
        refine ev_iload rfl ?_
        refine g_ialdv (v := v44269) g ad43 (by omega) (by omega) (ev44269) ?_
        refine ev_imul (r := v44269) (by unfold w32; omega) ?_
        refine ev_istore_n (L' := [(2, 42), (0, a1), (0, v44268), (0, v44269), (0, 0), (0, v44268)]) (Nat.le_of_ble_eq_true rfl) rfl ?_
        refine ev_iinc (w := 1) (L' := [(2, 42), (0, a1), (0, v44268), (0, v44269), (0, 1), (0, v44268)]) rfl (by decide) rfl ?_
        refine ev_goto f257_26 ?_
        refine ev_iload rfl ?_
        refine ev_aload_n rfl ?_
        refine g_getv (r := 42) (v := 2) g ad42 (by decide) ft12_1 (ew0) ?_
        refine ev_icmpge f257_84 (fun c44271 => absurd c44271 (by omega)) (fun c44271 => ?_)
        refine ev_iload_n rfl ?_
        refine ev_iconst ?_
        refine ev_iload rfl ?_
        refine ev_imul (r := 2) (by decide) ?_
        refine g_ishrB (a := 2147483647) (by omega) (by omega) (by decide) (fun v44272 ev44272 lv44272 uv44272 => ?_)
        refine ev_iconst ?_
        refine g_iandB (b := 3) (by omega) (by omega) (by decide) (fun v44273 ev44273 lv44273 uv44273 => ?_)
        refine ev_istore (L' := [(2, 42), (0, a1), (0, v44268), (0, v44269), (0, 1), (0, v44273)]) (Nat.le_of_ble_eq_true rfl) rfl ?_
        refine ev_iload rfl ?_
        refine ev_aload_n rfl ?_
        refine g_getp (r := 42) (c := 43) g ad42 (by decide) (by decide) rf42_2 ft12_2 ?_
        refine ev_iload rfl ?_
        refine g_iald g ad43 rt43 (by omega) (by omega) (fun v44274 ev44274 lv44274 uv44274 => ?_)
        have xv44274 := (g.ex.2.1 (1 : Int).toNat (by rw [(ew0)]; omega)).1
        rw [ev44274] at xv44274
        refine ev_icmplt f257_61 (fun c44275 => ?_) (fun c44275 => ?_)
        · refine ev_iload_n rfl ?_
          refine ev_iload_n rfl ?_
          refine ev_iload rfl ?_
          refine g_imulB (a := 3) (b := 2) (a' := 2) (b' := 0) (by omega) (by omega) (by omega) (by omega) (by decide) (lo := 0) (hi := 6) (by decide) (by decide) (fun v44276 ev44276 lv44276 uv44276 => ?_)
          refine ev_iadd (r := (v44268 + v44276)) (by unfold w32; omega) ?_
          refine ev_istore_n (L' := [(2, 42), (0, a1), (0, (v44268 + v44276)), (0, v44269), (0, 1), (0, v44273)]) (Nat.le_of_ble_eq_true rfl) rfl ?_
          refine ev_iload_n rfl ?_
          refine ev_aload_n rfl ?_
          refine g_getp (r := 42) (c := 43) g ad42 (by decide) (by decide) rf42_2 ft12_2 ?_
          refine ev_iload rfl ?_
          refine g_ialdv (v := v44274) g ad43 (by omega) (by omega) (ev44274) ?_
          refine g_imulB (a := 3) (b := 3) (a' := 2) (b' := 2) (by omega) (by omega) (by omega) (by omega) (by decide) (lo := 4) (hi := 9) (by decide) (by decide) (fun v44277 ev44277 lv44277 uv44277 => ?_)
          refine ev_istore_n (L' := [(2, 42), (0, a1), (0, (v44268 + v44276)), (0, v44277), (0, 1), (0, v44273)]) (Nat.le_of_ble_eq_true rfl) rfl ?_
          refine ev_iinc (w := 2) (L' := [(2, 42), (0, a1), (0, (v44268 + v44276)), (0, v44277), (0, 2), (0, v44273)]) rfl (by decide) rfl ?_
          refine ev_goto f257_26 ?_
          refine ev_iload rfl ?_
          refine ev_aload_n rfl ?_
          refine g_getv (r := 42) (v := 2) g ad42 (by decide) ft12_1 (ew0) ?_
          refine ev_icmpge f257_84 (fun c44278 => ?_) (fun c44278 => absurd c44278 (by omega))
          refine ev_aload_n rfl ?_
          refine ev_call (jcall_v (A := []) (S' := []) (r := 42) rfl (g.lt ad42) (g.tg ad42) (Nat.le_of_ble_eq_true rfl)) (jOk_le (by decide) (s256 g )) (by decide) (by decide) (fun w44279 h44279 q44279 => ?_)
          obtain ⟨v44280, rfl, lv44280, uv44280, g44279, kk44279⟩ := q44279
          have k44279 := k0.tr kk44279 (by decide)
          show jEv _ _ _ _ _ _ _ (_, [(2, 42), (0, a1), (0, (v44268 + v44276)), (0, v44277), (0, 2), (0, v44273)], [(0, v44280)], _, _, _)
          refine ev_ifeq f257_100 (fun c44281 => ?_) (fun c44281 => ?_)
          · refine ev_ldc2_w ?_
            exact ev_ret rfl (by decide) (by decide) ⟨_, rfl, by omega, by omega, g44279, k44279⟩
          · refine ev_aload_n rfl ?_
            refine g_getp (r := 42) (c := 47) g44279 ad42 (by decide) (by decide) rf42_7 ft12_7 ?_
            refine ev_iload_n rfl ?_
            refine g_lald g44279 ad47 rt47 (by omega) (by omega) (fun v44282 ev44282 lv44282 uv44282 => ?_)
            refine ev_goto f257_103 ?_
            exact ev_ret rfl (by decide) (by decide) ⟨_, rfl, by omega, by omega, g44279, k44279⟩
        · refine ev_ldc2_w ?_
          exact ev_ret rfl (by decide) (by decide) ⟨_, rfl, by omega, by omega, g, k0⟩
      · refine ev_ldc2_w ?_
        exact ev_ret rfl (by decide) (by decide) ⟨_, rfl, by omega, by omega, g, k0⟩
    · refine ev_ldc2_w ?_
      exact ev_ret rfl (by decide) (by decide) ⟨_, rfl, by omega, by omega, g, k0⟩
/-! s257_3  -/
set_option maxHeartbeats 4000000 in
theorem s257_3 {G : GH} {h : JH} (g : Gd G h) {a1 : Int} (la1 : (-2147483648) ≤ a1) (ua1 : a1 ≤ 2147483647) (ew0 : h.2.2 42 1 = 3) : jOk 5 0 0 257 [(2, 42), (0, a1)] h (PI G [(46, 0), (47, 0), (42, 6), (42, 9)] h 1 (-9223372036854775808) 9223372036854775807) := by
  refine ⟨by decide, by rw [ml257]; exact Nat.le_of_ble_eq_true rfl, ?_⟩
  rw [ml257, pp257]
  show jEv _ none _ c257_0 0 0 _ (c257_0, [(2, 42), (0, a1), (9, 0), (9, 0), (9, 0), (9, 0)], [], h, 0, 0)
  have k0 := Kp.rf [(46, 0), (47, 0), (42, 6), (42, 9)] h
  refine ev_iload_n rfl ?_
  refine ev_iflt f257_15 (fun c44335 => ?_) (fun c44335 => ?_)
  · refine ev_ldc2_w ?_
    exact ev_ret rfl (by decide) (by decide) ⟨_, rfl, by omega, by omega, g, k0⟩
  · refine ev_iload_n rfl ?_
    refine ev_iconst ?_
    refine ev_aload_n rfl ?_
    refine g_getv (r := 42) (v := 3) g ad42 (by decide) ft12_1 (ew0) ?_
    refine ev_imul (r := 6) (by decide) ?_
    refine g_ishrB (a := 2147483647) (by omega) (by omega) (by decide) (fun v44336 ev44336 lv44336 uv44336 => ?_)
    refine ev_ifeq f257_19 (fun c44337 => ?_) (fun c44337 => ?_)
    · refine ev_iconst ?_
      refine ev_istore_n (L' := [(2, 42), (0, a1), (0, 0), (9, 0), (9, 0), (9, 0)]) (Nat.le_of_ble_eq_true rfl) rfl ?_
      refine ev_iconst ?_
      refine ev_istore_n (L' := [(2, 42), (0, a1), (0, 0), (0, 1), (9, 0), (9, 0)]) (Nat.le_of_ble_eq_true rfl) rfl ?_
      refine ev_iconst ?_
      refine ev_istore (L' := [(2, 42), (0, a1), (0, 0), (0, 1), (0, 0), (9, 0)]) (Nat.le_of_ble_eq_true rfl) rfl ?_
      refine ev_iload rfl ?_
      refine ev_aload_n rfl ?_
      refine g_getv (r := 42) (v := 3) g ad42 (by decide) ft12_1 (ew0) ?_
      refine ev_icmpge f257_84 (fun c44338 => absurd c44338 (by omega)) (fun c44338 => ?_)
      refine ev_iload_n rfl ?_
      refine ev_iconst ?_
      refine ev_iload rfl ?_
      refine ev_imul (r := 0) (by decide) ?_
      refine ev_ishr (r := a1) (jshr_0 (by omega) (by omega)) ?_
      refine ev_iconst ?_
      refine g_iandB (b := 3) (by omega) (by omega) (by decide) (fun v44339 ev44339 lv44339 uv44339 => ?_)
      refine ev_istore (L' := [(2, 42), (0, a1), (0, 0), (0, 1), (0, 0), (0, v44339)]) (Nat.le_of_ble_eq_true rfl) rfl ?_
      refine ev_iload rfl ?_
      refine ev_aload_n rfl ?_
      refine g_getp (r := 42) (c := 43) g ad42 (by decide) (by decide) rf42_2 ft12_2 ?_
      refine ev_iload rfl ?_
      refine g_iald g ad43 rt43 (by omega) (by omega) (fun v44340 ev44340 lv44340 uv44340 => ?_)
      have xv44340 := (g.ex.2.1 (0 : Int).toNat (by rw [(ew0)]; omega)).1
      rw [ev44340] at xv44340
      refine ev_icmplt f257_61 (fun c44341 => ?_) (fun c44341 => ?_)
      · refine ev_iload_n rfl ?_
        refine ev_iload_n rfl ?_
        refine ev_iload rfl ?_
        refine ev_imul (r := v44339) (by unfold w32; omega) ?_
        refine ev_iadd (r := v44339) (by unfold w32; omega) ?_
        refine ev_istore_n (L' := [(2, 42), (0, a1), (0, v44339), (0, 1), (0, 0), (0, v44339)]) (Nat.le_of_ble_eq_true rfl) rfl ?_
        refine ev_iload_n rfl ?_
        refine ev_aload_n rfl ?_
        refine g_getp (r := 42) (c := 43) g ad42 (by decide) (by decide) rf42_2 ft12_2 ?_
        refine ev_iload rfl ?_
        refine g_ialdv (v := v44340) g ad43 (by omega) (by omega) (ev44340) ?_
        refine ev_imul (r := v44340) (by unfold w32; omega) ?_
        refine ev_istore_n (L' := [(2, 42), (0, a1), (0, v44339), (0, v44340), (0, 0), (0, v44339)]) (Nat.le_of_ble_eq_true rfl) rfl ?_
        refine ev_iinc (w := 1) (L' := [(2, 42), (0, a1), (0, v44339), (0, v44340), (0, 1), (0, v44339)]) rfl (by decide) rfl ?_
        refine ev_goto f257_26 ?_
        refine ev_iload rfl ?_
        refine ev_aload_n rfl ?_
        refine g_getv (r := 42) (v := 3) g ad42 (by decide) ft12_1 (ew0) ?_
        refine ev_icmpge f257_84 (fun c44342 => absurd c44342 (by omega)) (fun c44342 => ?_)
        refine ev_iload_n rfl ?_
        refine ev_iconst ?_
        refine ev_iload rfl ?_
        refine ev_imul (r := 2) (by decide) ?_
        refine g_ishrB (a := 2147483647) (by omega) (by omega) (by decide) (fun v44343 ev44343 lv44343 uv44343 => ?_)
        refine ev_iconst ?_
        refine g_iandB (b := 3) (by omega) (by omega) (by decide) (fun v44344 ev44344 lv44344 uv44344 => ?_)
        refine ev_istore (L' := [(2, 42), (0, a1), (0, v44339), (0, v44340), (0, 1), (0, v44344)]) (Nat.le_of_ble_eq_true rfl) rfl ?_
        refine ev_iload rfl ?_
        refine ev_aload_n rfl ?_
        refine g_getp (r := 42) (c := 43) g ad42 (by decide) (by decide) rf42_2 ft12_2 ?_
        refine ev_iload rfl ?_
        refine g_iald g ad43 rt43 (by omega) (by omega) (fun v44345 ev44345 lv44345 uv44345 => ?_)
        have xv44345 := (g.ex.2.1 (1 : Int).toNat (by rw [(ew0)]; omega)).1
        rw [ev44345] at xv44345
        refine ev_icmplt f257_61 (fun c44346 => ?_) (fun c44346 => ?_)
        · refine ev_iload_n rfl ?_
          refine ev_iload_n rfl ?_
          refine ev_iload rfl ?_
          refine g_imulB (a := 3) (b := 2) (a' := 2) (b' := 0) (by omega) (by omega) (by omega) (by omega) (by decide) (lo := 0) (hi := 6) (by decide) (by decide) (fun v44347 ev44347 lv44347 uv44347 => ?_)
          refine ev_iadd (r := (v44339 + v44347)) (by unfold w32; omega) ?_
          refine ev_istore_n (L' := [(2, 42), (0, a1), (0, (v44339 + v44347)), (0, v44340), (0, 1), (0, v44344)]) (Nat.le_of_ble_eq_true rfl) rfl ?_
          refine ev_iload_n rfl ?_
          refine ev_aload_n rfl ?_
          refine g_getp (r := 42) (c := 43) g ad42 (by decide) (by decide) rf42_2 ft12_2 ?_
          refine ev_iload rfl ?_
          refine g_ialdv (v := v44345) g ad43 (by omega) (by omega) (ev44345) ?_
          refine g_imulB (a := 3) (b := 3) (a' := 2) (b' := 2) (by omega) (by omega) (by omega) (by omega) (by decide) (lo := 4) (hi := 9) (by decide) (by decide) (fun v44348 ev44348 lv44348 uv44348 => ?_)
          refine ev_istore_n (L' := [(2, 42), (0, a1), (0, (v44339 + v44347)), (0, v44348), (0, 1), (0, v44344)]) (Nat.le_of_ble_eq_true rfl) rfl ?_
          refine ev_iinc (w := 2) (L' := [(2, 42), (0, a1), (0, (v44339 + v44347)), (0, v44348), (0, 2), (0, v44344)]) rfl (by decide) rfl ?_
          refine ev_goto f257_26 ?_
          refine ev_iload rfl ?_
          refine ev_aload_n rfl ?_
          refine g_getv (r := 42) (v := 3) g ad42 (by decide) ft12_1 (ew0) ?_
          refine ev_icmpge f257_84 (fun c44349 => absurd c44349 (by omega)) (fun c44349 => ?_)
          refine ev_iload_n rfl ?_
          refine ev_iconst ?_
          refine ev_iload rfl ?_
          refine ev_imul (r := 4) (by decide) ?_
          refine g_ishrB (a := 2147483647) (by omega) (by omega) (by decide) (fun v44350 ev44350 lv44350 uv44350 => ?_)
          refine ev_iconst ?_
          refine g_iandB (b := 3) (by omega) (by omega) (by decide) (fun v44351 ev44351 lv44351 uv44351 => ?_)
          refine ev_istore (L' := [(2, 42), (0, a1), (0, (v44339 + v44347)), (0, v44348), (0, 2), (0, v44351)]) (Nat.le_of_ble_eq_true rfl) rfl ?_
          refine ev_iload rfl ?_
          refine ev_aload_n rfl ?_
          refine g_getp (r := 42) (c := 43) g ad42 (by decide) (by decide) rf42_2 ft12_2 ?_
          refine ev_iload rfl ?_
          refine g_iald g ad43 rt43 (by omega) (by omega) (fun v44352 ev44352 lv44352 uv44352 => ?_)
          have xv44352 := (g.ex.2.1 (2 : Int).toNat (by rw [(ew0)]; omega)).1
          rw [ev44352] at xv44352
          refine ev_icmplt f257_61 (fun c44353 => ?_) (fun c44353 => ?_)
          · refine ev_iload_n rfl ?_
            refine ev_iload_n rfl ?_
            refine ev_iload rfl ?_
            refine g_imulB (a := 9) (b := 2) (a' := 4) (b' := 0) (by omega) (by omega) (by omega) (by omega) (by decide) (lo := 0) (hi := 18) (by decide) (by decide) (fun v44354 ev44354 lv44354 uv44354 => ?_)
            refine ev_iadd (r := (v44339 + v44347 + v44354)) (by unfold w32; omega) ?_
            refine ev_istore_n (L' := [(2, 42), (0, a1), (0, (v44339 + v44347 + v44354)), (0, v44348), (0, 2), (0, v44351)]) (Nat.le_of_ble_eq_true rfl) rfl ?_
            refine ev_iload_n rfl ?_
            refine ev_aload_n rfl ?_
            refine g_getp (r := 42) (c := 43) g ad42 (by decide) (by decide) rf42_2 ft12_2 ?_
            refine ev_iload rfl ?_
            refine g_ialdv (v := v44352) g ad43 (by omega) (by omega) (ev44352) ?_
            refine g_imulB (a := 9) (b := 3) (a' := 4) (b' := 2) (by omega) (by omega) (by omega) (by omega) (by decide) (lo := 8) (hi := 27) (by decide) (by decide) (fun v44355 ev44355 lv44355 uv44355 => ?_)
            refine ev_istore_n (L' := [(2, 42), (0, a1), (0, (v44339 + v44347 + v44354)), (0, v44355), (0, 2), (0, v44351)]) (Nat.le_of_ble_eq_true rfl) rfl ?_
            refine ev_iinc (w := 3) (L' := [(2, 42), (0, a1), (0, (v44339 + v44347 + v44354)), (0, v44355), (0, 3), (0, v44351)]) rfl (by decide) rfl ?_
            refine ev_goto f257_26 ?_
            refine ev_iload rfl ?_
            refine ev_aload_n rfl ?_
            refine g_getv (r := 42) (v := 3) g ad42 (by decide) ft12_1 (ew0) ?_
            refine ev_icmpge f257_84 (fun c44356 => ?_) (fun c44356 => absurd c44356 (by omega))
            refine ev_aload_n rfl ?_
            refine ev_call (jcall_v (A := []) (S' := []) (r := 42) rfl (g.lt ad42) (g.tg ad42) (Nat.le_of_ble_eq_true rfl)) (jOk_le (by decide) (s256 g )) (by decide) (by decide) (fun w44357 h44357 q44357 => ?_)
            obtain ⟨v44358, rfl, lv44358, uv44358, g44357, kk44357⟩ := q44357
            have k44357 := k0.tr kk44357 (by decide)
            show jEv _ _ _ _ _ _ _ (_, [(2, 42), (0, a1), (0, (v44339 + v44347 + v44354)), (0, v44355), (0, 3), (0, v44351)], [(0, v44358)], _, _, _)
            refine ev_ifeq f257_100 (fun c44359 => ?_) (fun c44359 => ?_)
            · refine ev_ldc2_w ?_
              exact ev_ret rfl (by decide) (by decide) ⟨_, rfl, by omega, by omega, g44357, k44357⟩
            · refine ev_aload_n rfl ?_
              refine g_getp (r := 42) (c := 47) g44357 ad42 (by decide) (by decide) rf42_7 ft12_7 ?_
              refine ev_iload_n rfl ?_
              refine g_lald g44357 ad47 rt47 (by omega) (by omega) (fun v44360 ev44360 lv44360 uv44360 => ?_)
              refine ev_goto f257_103 ?_
              exact ev_ret rfl (by decide) (by decide) ⟨_, rfl, by omega, by omega, g44357, k44357⟩
          · refine ev_ldc2_w ?_
            exact ev_ret rfl (by decide) (by decide) ⟨_, rfl, by omega, by omega, g, k0⟩
        · refine ev_ldc2_w ?_
          exact ev_ret rfl (by decide) (by decide) ⟨_, rfl, by omega, by omega, g, k0⟩
      · refine ev_ldc2_w ?_
        exact ev_ret rfl (by decide) (by decide) ⟨_, rfl, by omega, by omega, g, k0⟩
    · refine ev_ldc2_w ?_
      exact ev_ret rfl (by decide) (by decide) ⟨_, rfl, by omega, by omega, g, k0⟩
/-! s257_4  -/
set_option maxHeartbeats 4000000 in
theorem s257_4 {G : GH} {h : JH} (g : Gd G h) {a1 : Int} (la1 : (-2147483648) ≤ a1) (ua1 : a1 ≤ 2147483647) (ew0 : h.2.2 42 1 = 4) : jOk 5 0 0 257 [(2, 42), (0, a1)] h (PI G [(46, 0), (47, 0), (42, 6), (42, 9)] h 1 (-9223372036854775808) 9223372036854775807) := by
  refine ⟨by decide, by rw [ml257]; exact Nat.le_of_ble_eq_true rfl, ?_⟩
  rw [ml257, pp257]
  show jEv _ none _ c257_0 0 0 _ (c257_0, [(2, 42), (0, a1), (9, 0), (9, 0), (9, 0), (9, 0)], [], h, 0, 0)
  have k0 := Kp.rf [(46, 0), (47, 0), (42, 6), (42, 9)] h
  refine ev_iload_n rfl ?_
  refine ev_iflt f257_15 (fun c44427 => ?_) (fun c44427 => ?_)
  · refine ev_ldc2_w ?_
    exact ev_ret rfl (by decide) (by decide) ⟨_, rfl, by omega, by omega, g, k0⟩
  · refine ev_iload_n rfl ?_
    refine ev_iconst ?_
    refine ev_aload_n rfl ?_
    refine g_getv (r := 42) (v := 4) g ad42 (by decide) ft12_1 (ew0) ?_
    refine ev_imul (r := 8) (by decide) ?_
    refine g_ishrB (a := 2147483647) (by omega) (by omega) (by decide) (fun v44428 ev44428 lv44428 uv44428 => ?_)
    refine ev_ifeq f257_19 (fun c44429 => ?_) (fun c44429 => ?_)
    · refine ev_iconst ?_
      refine ev_istore_n (L' := [(2, 42), (0, a1), (0, 0), (9, 0), (9, 0), (9, 0)]) (Nat.le_of_ble_eq_true rfl) rfl ?_
      refine ev_iconst ?_
      refine ev_istore_n (L' := [(2, 42), (0, a1), (0, 0), (0, 1), (9, 0), (9, 0)]) (Nat.le_of_ble_eq_true rfl) rfl ?_
      refine ev_iconst ?_
      refine ev_istore (L' := [(2, 42), (0, a1), (0, 0), (0, 1), (0, 0), (9, 0)]) (Nat.le_of_ble_eq_true rfl) rfl ?_
      refine ev_iload rfl ?_
      refine ev_aload_n rfl ?_
      refine g_getv (r := 42) (v := 4) g ad42 (by decide) ft12_1 (ew0) ?_
      refine ev_icmpge f257_84 (fun c44430 => absurd c44430 (by omega)) (fun c44430 => ?_)
      refine ev_iload_n rfl ?_
      refine ev_iconst ?_
      refine ev_iload rfl ?_
      refine ev_imul (r := 0) (by decide) ?_
      refine ev_ishr (r := a1) (jshr_0 (by omega) (by omega)) ?_
      refine ev_iconst ?_
      refine g_iandB (b := 3) (by omega) (by omega) (by decide) (fun v44431 ev44431 lv44431 uv44431 => ?_)
      refine ev_istore (L' := [(2, 42), (0, a1), (0, 0), (0, 1), (0, 0), (0, v44431)]) (Nat.le_of_ble_eq_true rfl) rfl ?_
      refine ev_iload rfl ?_
      refine ev_aload_n rfl ?_
      refine g_getp (r := 42) (c := 43) g ad42 (by decide) (by decide) rf42_2 ft12_2 ?_
      refine ev_iload rfl ?_
      refine g_iald g ad43 rt43 (by omega) (by omega) (fun v44432 ev44432 lv44432 uv44432 => ?_)
      have xv44432 := (g.ex.2.1 (0 : Int).toNat (by rw [(ew0)]; omega)).1
      rw [ev44432] at xv44432
      refine ev_icmplt f257_61 (fun c44433 => ?_) (fun c44433 => ?_)
      · refine ev_iload_n rfl ?_
        refine ev_iload_n rfl ?_
        refine ev_iload rfl ?_
        refine ev_imul (r := v44431) (by unfold w32; omega) ?_
        refine ev_iadd (r := v44431) (by unfold w32; omega) ?_
        refine ev_istore_n (L' := [(2, 42), (0, a1), (0, v44431), (0, 1), (0, 0), (0, v44431)]) (Nat.le_of_ble_eq_true rfl) rfl ?_
        refine ev_iload_n rfl ?_
        refine ev_aload_n rfl ?_
        refine g_getp (r := 42) (c := 43) g ad42 (by decide) (by decide) rf42_2 ft12_2 ?_
        refine ev_iload rfl ?_
        refine g_ialdv (v := v44432) g ad43 (by omega) (by omega) (ev44432) ?_
        refine ev_imul (r := v44432) (by unfold w32; omega) ?_
        refine ev_istore_n (L' := [(2, 42), (0, a1), (0, v44431), (0, v44432), (0, 0), (0, v44431)]) (Nat.le_of_ble_eq_true rfl) rfl ?_
        refine ev_iinc (w := 1) (L' := [(2, 42), (0, a1), (0, v44431), (0, v44432), (0, 1), (0, v44431)]) rfl (by decide) rfl ?_
        refine ev_goto f257_26 ?_
        refine ev_iload rfl ?_
        refine ev_aload_n rfl ?_
        refine g_getv (r := 42) (v := 4) g ad42 (by decide) ft12_1 (ew0) ?_
        refine ev_icmpge f257_84 (fun c44434 => absurd c44434 (by omega)) (fun c44434 => ?_)
        refine ev_iload_n rfl ?_
        refine ev_iconst ?_
        refine ev_iload rfl ?_
        refine ev_imul (r := 2) (by decide) ?_
        refine g_ishrB (a := 2147483647) (by omega) (by omega) (by decide) (fun v44435 ev44435 lv44435 uv44435 => ?_)
        refine ev_iconst ?_
        refine g_iandB (b := 3) (by omega) (by omega) (by decide) (fun v44436 ev44436 lv44436 uv44436 => ?_)
        refine ev_istore (L' := [(2, 42), (0, a1), (0, v44431), (0, v44432), (0, 1), (0, v44436)]) (Nat.le_of_ble_eq_true rfl) rfl ?_
        refine ev_iload rfl ?_
        refine ev_aload_n rfl ?_
        refine g_getp (r := 42) (c := 43) g ad42 (by decide) (by decide) rf42_2 ft12_2 ?_
        refine ev_iload rfl ?_
        refine g_iald g ad43 rt43 (by omega) (by omega) (fun v44437 ev44437 lv44437 uv44437 => ?_)
        have xv44437 := (g.ex.2.1 (1 : Int).toNat (by rw [(ew0)]; omega)).1
        rw [ev44437] at xv44437
        refine ev_icmplt f257_61 (fun c44438 => ?_) (fun c44438 => ?_)
        · refine ev_iload_n rfl ?_
          refine ev_iload_n rfl ?_
          refine ev_iload rfl ?_
          refine g_imulB (a := 3) (b := 2) (a' := 2) (b' := 0) (by omega) (by omega) (by omega) (by omega) (by decide) (lo := 0) (hi := 6) (by decide) (by decide) (fun v44439 ev44439 lv44439 uv44439 => ?_)
          refine ev_iadd (r := (v44431 + v44439)) (by unfold w32; omega) ?_
          refine ev_istore_n (L' := [(2, 42), (0, a1), (0, (v44431 + v44439)), (0, v44432), (0, 1), (0, v44436)]) (Nat.le_of_ble_eq_true rfl) rfl ?_
          refine ev_iload_n rfl ?_
          refine ev_aload_n rfl ?_
          refine g_getp (r := 42) (c := 43) g ad42 (by decide) (by decide) rf42_2 ft12_2 ?_
          refine ev_iload rfl ?_
          refine g_ialdv (v := v44437) g ad43 (by omega) (by omega) (ev44437) ?_
          refine g_imulB (a := 3) (b := 3) (a' := 2) (b' := 2) (by omega) (by omega) (by omega) (by omega) (by decide) (lo := 4) (hi := 9) (by decide) (by decide) (fun v44440 ev44440 lv44440 uv44440 => ?_)
          refine ev_istore_n (L' := [(2, 42), (0, a1), (0, (v44431 + v44439)), (0, v44440), (0, 1), (0, v44436)]) (Nat.le_of_ble_eq_true rfl) rfl ?_
          refine ev_iinc (w := 2) (L' := [(2, 42), (0, a1), (0, (v44431 + v44439)), (0, v44440), (0, 2), (0, v44436)]) rfl (by decide) rfl ?_
          refine ev_goto f257_26 ?_
          refine ev_iload rfl ?_
          refine ev_aload_n rfl ?_
          refine g_getv (r := 42) (v := 4) g ad42 (by decide) ft12_1 (ew0) ?_
          refine ev_icmpge f257_84 (fun c44441 => absurd c44441 (by omega)) (fun c44441 => ?_)
          refine ev_iload_n rfl ?_
          refine ev_iconst ?_
          refine ev_iload rfl ?_
          refine ev_imul (r := 4) (by decide) ?_
          refine g_ishrB (a := 2147483647) (by omega) (by omega) (by decide) (fun v44442 ev44442 lv44442 uv44442 => ?_)
          refine ev_iconst ?_
          refine g_iandB (b := 3) (by omega) (by omega) (by decide) (fun v44443 ev44443 lv44443 uv44443 => ?_)
          refine ev_istore (L' := [(2, 42), (0, a1), (0, (v44431 + v44439)), (0, v44440), (0, 2), (0, v44443)]) (Nat.le_of_ble_eq_true rfl) rfl ?_
          refine ev_iload rfl ?_
          refine ev_aload_n rfl ?_
          refine g_getp (r := 42) (c := 43) g ad42 (by decide) (by decide) rf42_2 ft12_2 ?_
          refine ev_iload rfl ?_
          refine g_iald g ad43 rt43 (by omega) (by omega) (fun v44444 ev44444 lv44444 uv44444 => ?_)
          have xv44444 := (g.ex.2.1 (2 : Int).toNat (by rw [(ew0)]; omega)).1
          rw [ev44444] at xv44444
          refine ev_icmplt f257_61 (fun c44445 => ?_) (fun c44445 => ?_)
          · refine ev_iload_n rfl ?_
            refine ev_iload_n rfl ?_
            refine ev_iload rfl ?_
            refine g_imulB (a := 9) (b := 2) (a' := 4) (b' := 0) (by omega) (by omega) (by omega) (by omega) (by decide) (lo := 0) (hi := 18) (by decide) (by decide) (fun v44446 ev44446 lv44446 uv44446 => ?_)
            refine ev_iadd (r := (v44431 + v44439 + v44446)) (by unfold w32; omega) ?_
            refine ev_istore_n (L' := [(2, 42), (0, a1), (0, (v44431 + v44439 + v44446)), (0, v44440), (0, 2), (0, v44443)]) (Nat.le_of_ble_eq_true rfl) rfl ?_
            refine ev_iload_n rfl ?_
            refine ev_aload_n rfl ?_
            refine g_getp (r := 42) (c := 43) g ad42 (by decide) (by decide) rf42_2 ft12_2 ?_
            refine ev_iload rfl ?_
            refine g_ialdv (v := v44444) g ad43 (by omega) (by omega) (ev44444) ?_
            refine g_imulB (a := 9) (b := 3) (a' := 4) (b' := 2) (by omega) (by omega) (by omega) (by omega) (by decide) (lo := 8) (hi := 27) (by decide) (by decide) (fun v44447 ev44447 lv44447 uv44447 => ?_)
            refine ev_istore_n (L' := [(2, 42), (0, a1), (0, (v44431 + v44439 + v44446)), (0, v44447), (0, 2), (0, v44443)]) (Nat.le_of_ble_eq_true rfl) rfl ?_
            refine ev_iinc (w := 3) (L' := [(2, 42), (0, a1), (0, (v44431 + v44439 + v44446)), (0, v44447), (0, 3), (0, v44443)]) rfl (by decide) rfl ?_
            refine ev_goto f257_26 ?_
            refine ev_iload rfl ?_
            refine ev_aload_n rfl ?_
            refine g_getv (r := 42) (v := 4) g ad42 (by decide) ft12_1 (ew0) ?_
            refine ev_icmpge f257_84 (fun c44448 => absurd c44448 (by omega)) (fun c44448 => ?_)
            refine ev_iload_n rfl ?_
            refine ev_iconst ?_
            refine ev_iload rfl ?_
            refine ev_imul (r := 6) (by decide) ?_
            refine g_ishrB (a := 2147483647) (by omega) (by omega) (by decide) (fun v44449 ev44449 lv44449 uv44449 => ?_)
            refine ev_iconst ?_
            refine g_iandB (b := 3) (by omega) (by omega) (by decide) (fun v44450 ev44450 lv44450 uv44450 => ?_)
            refine ev_istore (L' := [(2, 42), (0, a1), (0, (v44431 + v44439 + v44446)), (0, v44447), (0, 3), (0, v44450)]) (Nat.le_of_ble_eq_true rfl) rfl ?_
            refine ev_iload rfl ?_
            refine ev_aload_n rfl ?_
            refine g_getp (r := 42) (c := 43) g ad42 (by decide) (by decide) rf42_2 ft12_2 ?_
            refine ev_iload rfl ?_
            refine g_iald g ad43 rt43 (by omega) (by omega) (fun v44451 ev44451 lv44451 uv44451 => ?_)
            have xv44451 := (g.ex.2.1 (3 : Int).toNat (by rw [(ew0)]; omega)).1
            rw [ev44451] at xv44451
            refine ev_icmplt f257_61 (fun c44452 => ?_) (fun c44452 => ?_)
            · refine ev_iload_n rfl ?_
              refine ev_iload_n rfl ?_
              refine ev_iload rfl ?_
              refine g_imulB (a := 27) (b := 2) (a' := 8) (b' := 0) (by omega) (by omega) (by omega) (by omega) (by decide) (lo := 0) (hi := 54) (by decide) (by decide) (fun v44453 ev44453 lv44453 uv44453 => ?_)
              refine ev_iadd (r := (v44431 + v44439 + v44446 + v44453)) (by unfold w32; omega) ?_
              refine ev_istore_n (L' := [(2, 42), (0, a1), (0, (v44431 + v44439 + v44446 + v44453)), (0, v44447), (0, 3), (0, v44450)]) (Nat.le_of_ble_eq_true rfl) rfl ?_
              refine ev_iload_n rfl ?_
              refine ev_aload_n rfl ?_
              refine g_getp (r := 42) (c := 43) g ad42 (by decide) (by decide) rf42_2 ft12_2 ?_
              refine ev_iload rfl ?_
              refine g_ialdv (v := v44451) g ad43 (by omega) (by omega) (ev44451) ?_
              refine g_imulB (a := 27) (b := 3) (a' := 8) (b' := 2) (by omega) (by omega) (by omega) (by omega) (by decide) (lo := 16) (hi := 81) (by decide) (by decide) (fun v44454 ev44454 lv44454 uv44454 => ?_)
              refine ev_istore_n (L' := [(2, 42), (0, a1), (0, (v44431 + v44439 + v44446 + v44453)), (0, v44454), (0, 3), (0, v44450)]) (Nat.le_of_ble_eq_true rfl) rfl ?_
              refine ev_iinc (w := 4) (L' := [(2, 42), (0, a1), (0, (v44431 + v44439 + v44446 + v44453)), (0, v44454), (0, 4), (0, v44450)]) rfl (by decide) rfl ?_
              refine ev_goto f257_26 ?_
              refine ev_iload rfl ?_
              refine ev_aload_n rfl ?_
              refine g_getv (r := 42) (v := 4) g ad42 (by decide) ft12_1 (ew0) ?_
              refine ev_icmpge f257_84 (fun c44455 => ?_) (fun c44455 => absurd c44455 (by omega))
              refine ev_aload_n rfl ?_
              refine ev_call (jcall_v (A := []) (S' := []) (r := 42) rfl (g.lt ad42) (g.tg ad42) (Nat.le_of_ble_eq_true rfl)) (jOk_le (by decide) (s256 g )) (by decide) (by decide) (fun w44456 h44456 q44456 => ?_)
              obtain ⟨v44457, rfl, lv44457, uv44457, g44456, kk44456⟩ := q44456
              have k44456 := k0.tr kk44456 (by decide)
              show jEv _ _ _ _ _ _ _ (_, [(2, 42), (0, a1), (0, (v44431 + v44439 + v44446 + v44453)), (0, v44454), (0, 4), (0, v44450)], [(0, v44457)], _, _, _)
              refine ev_ifeq f257_100 (fun c44458 => ?_) (fun c44458 => ?_)
              · refine ev_ldc2_w ?_
                exact ev_ret rfl (by decide) (by decide) ⟨_, rfl, by omega, by omega, g44456, k44456⟩
              · refine ev_aload_n rfl ?_
                refine g_getp (r := 42) (c := 47) g44456 ad42 (by decide) (by decide) rf42_7 ft12_7 ?_
                refine ev_iload_n rfl ?_
                refine g_lald g44456 ad47 rt47 (by omega) (by omega) (fun v44459 ev44459 lv44459 uv44459 => ?_)
                refine ev_goto f257_103 ?_
                exact ev_ret rfl (by decide) (by decide) ⟨_, rfl, by omega, by omega, g44456, k44456⟩
            · refine ev_ldc2_w ?_
              exact ev_ret rfl (by decide) (by decide) ⟨_, rfl, by omega, by omega, g, k0⟩
          · refine ev_ldc2_w ?_
            exact ev_ret rfl (by decide) (by decide) ⟨_, rfl, by omega, by omega, g, k0⟩
        · refine ev_ldc2_w ?_
          exact ev_ret rfl (by decide) (by decide) ⟨_, rfl, by omega, by omega, g, k0⟩
      · refine ev_ldc2_w ?_
        exact ev_ret rfl (by decide) (by decide) ⟨_, rfl, by omega, by omega, g, k0⟩
    · refine ev_ldc2_w ?_
      exact ev_ret rfl (by decide) (by decide) ⟨_, rfl, by omega, by omega, g, k0⟩
/-! 260 chance -/
set_option maxHeartbeats 4000000 in
theorem s260_l {G : GH} {h : JH} {a1 : Int} (la1 : (-2147483648) ≤ a1) (ua1 : a1 ≤ 2147483647) {a2 : Int} (la2 : (-2147483648) ≤ a2) (ua2 : a2 ≤ 2147483647) {a3 : Int} (la3 : (-2147483648) ≤ a3) (ua3 : a3 ≤ 2147483647) : ∀ N : Nat, (∀ (h1 : JH) (x4 x6 x8 : Int), Gd G h1 → Kp [(46, 0), (47, 0), (42, 6), (42, 9)] h h1 → (-2147483648) ≤ a1 → a1 ≤ 2147483647 → (-2147483648) ≤ a2 → a2 ≤ 2147483647 → 0 ≤ a3 → a3 ≤ 1 → (-9223372036854775808) ≤ x4 → x4 ≤ 9223372036854775807 → (-9223372036854775808) ≤ x6 → x6 ≤ 9223372036854775807 → 0 ≤ x8 → x8 ≤ 81 → ((-x8) + 81) < N → jEv (jOk 4) none (fun _ => 0) c260_0 0 0 (PI G [(46, 0), (47, 0), (42, 6), (42, 9)] h 1 (-9223372036854775808) 9223372036854775807) (c260_49, [(2, 42), (0, a1), (0, a2), (0, a3), (1, x4), (9, 0), (1, x6), (9, 0), (0, x8)], [], h1, 0, 0)) := by
  intro N
  induction N with
  | zero => exact fun h1 x4 x6 x8 g1 k1 b0 b1 b2 b3 b4 b5 b6 b7 b8 b9 b10 b11 hm => absurd hm (by omega)
  | succ N ih =>
    show _
    intro h1 x4 x6 x8 g1 k1 b0 b1 b2 b3 b4 b5 b6 b7 b8 b9 b10 b11 hm
    refine ev_iload rfl ?_
    refine ev_aload_n rfl ?_
    obtain ⟨v44928, ev44928, lv44928, uv44928⟩ := g1.rd ad42 (show 5 < 66 by decide) rf42_5
    refine g_getv (r := 42) (v := v44928) g1 ad42 (by decide) ft12_5 ev44928 ?_
    refine ev_icmpge f260_111 (fun c44929 => ?_) (fun c44929 => ?_)
    · refine ev_lload rfl ?_
      refine ev_lload rfl ?_
      refine ev_iload_n rfl ?_
      refine ev_call (jcall_s (A := [(0, a3), (1, x6), (1, x4)]) (S' := []) (by decide) rfl (Nat.le_of_ble_eq_true rfl)) (jOk_le (by decide) (s244 g1 (by omega) (by omega) (by omega) (by omega) (by omega) (by omega))) (by decide) (by decide) (fun w44930 h44930 q44930 => ?_)
      obtain ⟨v44931, rfl, lv44931, uv44931, g44930, kk44930⟩ := q44930
      have k44930 := k1.tr kk44930 (by decide)
      show jEv _ _ _ _ _ _ _ (_, [(2, 42), (0, a1), (0, a2), (0, a3), (1, x4), (9, 0), (1, x6), (9, 0), (0, x8)], [(1, v44931)], _, _, _)
      exact ev_ret rfl (by decide) (by decide) ⟨_, rfl, by omega, by omega, g44930, k44930⟩
    · refine ev_aload_n rfl ?_
      refine ev_iload rfl ?_
      refine ev_iload_n rfl ?_
      refine ev_call (jcall_v (A := [(0, a2), (0, x8)]) (S' := []) (r := 42) rfl (g1.lt ad42) (g1.tg ad42) (Nat.le_of_ble_eq_true rfl)) (jOk_le (by decide) (s259 g1 (by omega) (by omega) (by omega) (by omega))) (by decide) (by decide) (fun w44932 h44932 q44932 => ?_)
      obtain ⟨v44933, rfl, lv44933, uv44933, g44932, kk44932⟩ := q44932
      have k44932 := k1.tr kk44932 (by decide)
      show jEv _ _ _ _ _ _ _ (_, [(2, 42), (0, a1), (0, a2), (0, a3), (1, x4), (9, 0), (1, x6), (9, 0), (0, x8)], [(0, v44933)], _, _, _)
      refine ev_ifne f260_71 (fun c44934 => ?_) (fun c44934 => ?_)
      · refine ev_lload rfl ?_
        refine ev_aload_n rfl ?_
        refine g_getp (r := 42) (c := 47) g44932 ad42 (by decide) (by decide) rf42_7 ft12_7 ?_
        refine ev_iload rfl ?_
        refine g_lald g44932 ad47 rt47 (by omega) (by omega) (fun v44935 ev44935 lv44935 uv44935 => ?_)
        refine g_laddG (fun v44936 ev44936 lv44936 uv44936 => ?_)
        refine ev_lstore (L' := [(2, 42), (0, a1), (0, a2), (0, a3), (1, x4), (9, 0), (1, v44936), (9, 0), (0, x8)]) (Nat.le_of_ble_eq_true rfl) rfl ?_
        refine ev_aload_n rfl ?_
        refine ev_iload rfl ?_
        refine ev_iload_n rfl ?_
        refine ev_call (jcall_v (A := [(0, a1), (0, x8)]) (S' := []) (r := 42) rfl (g44932.lt ad42) (g44932.tg ad42) (Nat.le_of_ble_eq_true rfl)) (jOk_le (by decide) (s259 g44932 (by omega) (by omega) (by omega) (by omega))) (by decide) (by decide) (fun w44937 h44937 q44937 => ?_)
        obtain ⟨v44938, rfl, lv44938, uv44938, g44937, kk44937⟩ := q44937
        have k44937 := k44932.tr kk44937 (by decide)
        show jEv _ _ _ _ _ _ _ (_, [(2, 42), (0, a1), (0, a2), (0, a3), (1, x4), (9, 0), (1, v44936), (9, 0), (0, x8)], [(0, v44938)], _, _, _)
        refine ev_ifeq f260_105 (fun c44939 => ?_) (fun c44939 => ?_)
        · refine ev_iinc (w := (x8 + 1)) (L' := [(2, 42), (0, a1), (0, a2), (0, a3), (1, x4), (9, 0), (1, v44936), (9, 0), (0, (x8 + 1))]) rfl (by unfold w32; omega) rfl ?_
          refine ev_goto f260_49 ?_
          exact ih _ _ _ _ g44937 k44937 (by omega) (by omega) (by omega) (by omega) (by omega) (by omega) (by omega) (by omega) (by omega) (by omega) (by omega) (by omega) (by omega)
        · refine ev_lload rfl ?_
          refine ev_aload_n rfl ?_
          refine g_getp (r := 42) (c := 47) g44937 ad42 (by decide) (by decide) rf42_7 ft12_7 ?_
          refine ev_iload rfl ?_
          refine g_laldv (v := v44935) g44937 ad47 (by omega) (by omega) (((kk44937.v rfl).trans ev44935)) ?_
          refine g_laddG (fun v44940 ev44940 lv44940 uv44940 => ?_)
          refine ev_lstore (L' := [(2, 42), (0, a1), (0, a2), (0, a3), (1, v44940), (9, 0), (1, v44936), (9, 0), (0, x8)]) (Nat.le_of_ble_eq_true rfl) rfl ?_
          refine ev_iinc (w := (x8 + 1)) (L' := [(2, 42), (0, a1), (0, a2), (0, a3), (1, v44940), (9, 0), (1, v44936), (9, 0), (0, (x8 + 1))]) rfl (by unfold w32; omega) rfl ?_
          refine ev_goto f260_49 ?_
          exact ih _ _ _ _ g44937 k44937 (by omega) (by omega) (by omega) (by omega) (by omega) (by omega) (by omega) (by omega) (by omega) (by omega) (by omega) (by omega) (by omega)
      · refine ev_goto f260_105 ?_
        refine ev_iinc (w := (x8 + 1)) (L' := [(2, 42), (0, a1), (0, a2), (0, a3), (1, x4), (9, 0), (1, x6), (9, 0), (0, (x8 + 1))]) rfl (by unfold w32; omega) rfl ?_
        refine ev_goto f260_49 ?_
        exact ih _ _ _ _ g44932 k44932 (by omega) (by omega) (by omega) (by omega) (by omega) (by omega) (by omega) (by omega) (by omega) (by omega) (by omega) (by omega) (by omega)
set_option maxHeartbeats 4000000 in
theorem s260 {G : GH} {h : JH} (g : Gd G h) {a1 : Int} (la1 : (-2147483648) ≤ a1) (ua1 : a1 ≤ 2147483647) {a2 : Int} (la2 : (-2147483648) ≤ a2) (ua2 : a2 ≤ 2147483647) {a3 : Int} (la3 : (-2147483648) ≤ a3) (ua3 : a3 ≤ 2147483647) : jOk 5 0 0 260 [(2, 42), (0, a1), (0, a2), (0, a3)] h (PI G [(46, 0), (47, 0), (42, 6), (42, 9)] h 1 (-9223372036854775808) 9223372036854775807) := by
  refine ⟨by decide, by rw [ml260]; exact Nat.le_of_ble_eq_true rfl, ?_⟩
  rw [ml260, pp260]
  show jEv _ none _ c260_0 0 0 _ (c260_0, [(2, 42), (0, a1), (0, a2), (0, a3), (9, 0), (9, 0), (9, 0), (9, 0), (9, 0)], [], h, 0, 0)
  have k0 := Kp.rf [(46, 0), (47, 0), (42, 6), (42, 9)] h
  refine ev_aload_n rfl ?_
  refine ev_iload_n rfl ?_
  refine ev_call (jcall_v (A := [(0, a1)]) (S' := []) (r := 42) rfl (g.lt ad42) (g.tg ad42) (Nat.le_of_ble_eq_true rfl)) (jOk_le (by decide) (s258 g (by omega) (by omega))) (by decide) (by decide) (fun w44941 h44941 q44941 => ?_)
  obtain ⟨v44942, rfl, lv44942, uv44942, g44941, kk44941⟩ := q44941
  have k44941 := k0.tr kk44941 (by decide)
  show jEv _ _ _ _ _ _ _ (_, [(2, 42), (0, a1), (0, a2), (0, a3), (9, 0), (9, 0), (9, 0), (9, 0), (9, 0)], [(0, v44942)], _, _, _)
  refine ev_ifeq f260_25 (fun c44943 => ?_) (fun c44943 => ?_)
  · refine ev_ldc2_w ?_
    exact ev_ret rfl (by decide) (by decide) ⟨_, rfl, by omega, by omega, g44941, k44941⟩
  · refine ev_aload_n rfl ?_
    refine ev_iload_n rfl ?_
    refine ev_call (jcall_v (A := [(0, a2)]) (S' := []) (r := 42) rfl (g44941.lt ad42) (g44941.tg ad42) (Nat.le_of_ble_eq_true rfl)) (jOk_le (by decide) (s258 g44941 (by omega) (by omega))) (by decide) (by decide) (fun w44944 h44944 q44944 => ?_)
    obtain ⟨v44945, rfl, lv44945, uv44945, g44944, kk44944⟩ := q44944
    have k44944 := k44941.tr kk44944 (by decide)
    show jEv _ _ _ _ _ _ _ (_, [(2, 42), (0, a1), (0, a2), (0, a3), (9, 0), (9, 0), (9, 0), (9, 0), (9, 0)], [(0, v44945)], _, _, _)
    refine ev_ifeq f260_25 (fun c44946 => ?_) (fun c44946 => ?_)
    · refine ev_ldc2_w ?_
      exact ev_ret rfl (by decide) (by decide) ⟨_, rfl, by omega, by omega, g44944, k44944⟩
    · refine ev_iload_n rfl ?_
      refine ev_iconst ?_
      refine ev_iconst ?_
      refine ev_in (d := 3) (a := 0) (b := 0) (cd' := c242_0) (m := 3) (L0 := [(0, a3), (0, 0), (0, 1)]) (jcall_s (A := [(0, 1), (0, 0), (0, a3)]) (S' := []) (by decide) rfl (Nat.le_of_ble_eq_true rfl)) (by decide) ml242 pp242 (Nat.le_of_ble_eq_true rfl) rfl (by decide) (by decide) ?_
      refine ev_iload_n rfl ?_
      refine ev_iload_n rfl ?_
      refine ev_icmplt f242_14 (fun c44947 => ?_) (fun c44947 => ?_)
      · refine ev_iconst ?_
        refine ev_ret rfl (by decide) (by decide) ?_
        show jEv _ _ _ _ _ _ _ (_, [(2, 42), (0, a1), (0, a2), (0, a3), (9, 0), (9, 0), (9, 0), (9, 0), (9, 0)], [(0, 0)], _, _, _)
        refine ev_ifne f260_29 (fun c44948 => absurd c44948 (by omega)) (fun c44948 => ?_)
        refine ev_ldc2_w ?_
        exact ev_ret rfl (by decide) (by decide) ⟨_, rfl, by omega, by omega, g44944, k44944⟩
      · refine ev_iload_n rfl ?_
        refine ev_iload_n rfl ?_
        refine ev_icmpgt f242_14 (fun c44949 => ?_) (fun c44949 => ?_)
        · refine ev_iconst ?_
          refine ev_ret rfl (by decide) (by decide) ?_
          show jEv _ _ _ _ _ _ _ (_, [(2, 42), (0, a1), (0, a2), (0, a3), (9, 0), (9, 0), (9, 0), (9, 0), (9, 0)], [(0, 0)], _, _, _)
          refine ev_ifne f260_29 (fun c44950 => absurd c44950 (by omega)) (fun c44950 => ?_)
          refine ev_ldc2_w ?_
          exact ev_ret rfl (by decide) (by decide) ⟨_, rfl, by omega, by omega, g44944, k44944⟩
        · refine ev_iconst ?_
          refine ev_goto f242_15 ?_
          refine ev_ret rfl (by decide) (by decide) ?_
          show jEv _ _ _ _ _ _ _ (_, [(2, 42), (0, a1), (0, a2), (0, a3), (9, 0), (9, 0), (9, 0), (9, 0), (9, 0)], [(0, 1)], _, _, _)
          refine ev_ifne f260_29 (fun c44951 => ?_) (fun c44951 => absurd c44951 (by omega))
          refine ev_aload_n rfl ?_
          refine ev_call (jcall_v (A := []) (S' := []) (r := 42) rfl (g44944.lt ad42) (g44944.tg ad42) (Nat.le_of_ble_eq_true rfl)) (jOk_le (by decide) (s256 g44944 )) (by decide) (by decide) (fun w44952 h44952 q44952 => ?_)
          obtain ⟨v44953, rfl, lv44953, uv44953, g44952, kk44952⟩ := q44952
          have k44952 := k44944.tr kk44952 (by decide)
          show jEv _ _ _ _ _ _ _ (_, [(2, 42), (0, a1), (0, a2), (0, a3), (9, 0), (9, 0), (9, 0), (9, 0), (9, 0)], [(0, v44953)], _, _, _)
          refine ev_ifne f260_40 (fun c44954 => ?_) (fun c44954 => ?_)
          · refine ev_lconst ?_
            refine ev_lstore (L' := [(2, 42), (0, a1), (0, a2), (0, a3), (1, 0), (9, 0), (9, 0), (9, 0), (9, 0)]) (Nat.le_of_ble_eq_true rfl) rfl ?_
            refine ev_lconst ?_
            refine ev_lstore (L' := [(2, 42), (0, a1), (0, a2), (0, a3), (1, 0), (9, 0), (1, 0), (9, 0), (9, 0)]) (Nat.le_of_ble_eq_true rfl) rfl ?_
            refine ev_iconst ?_
            refine ev_istore (L' := [(2, 42), (0, a1), (0, a2), (0, a3), (1, 0), (9, 0), (1, 0), (9, 0), (0, 0)]) (Nat.le_of_ble_eq_true rfl) rfl ?_
            exact (s260_l la1 ua1 la2 ua2 la3 ua3 164) _ _ _ _ g44952 k44952 (by omega) (by omega) (by omega) (by omega) (by omega) (by omega) (by omega) (by omega) (by omega) (by omega) (by omega) (by omega) (by omega)
          · refine ev_ldc2_w ?_
            exact ev_ret rfl (by decide) (by decide) ⟨_, rfl, by omega, by omega, g44952, k44952⟩
/-! 336 lots -/
set_option maxHeartbeats 4000000 in
theorem s336_l {G : GH} {h : JH} {a1 : Int} (la1 : (-2147483648) ≤ a1) (ua1 : a1 ≤ 2147483647) : ∀ N : Nat, (∀ (h1 : JH) (x2 : Int) (j3 j4 j5 j6 j7 j8 j9 : AV), Gd G h1 → Kp [] h h1 → 0 ≤ a1 → a1 ≤ 1 → 0 ≤ x2 → x2 ≤ 2 → ((-6) * x2 + 15) < N → jEv (jOk 2) none (fun _ => 0) c336_0 0 0 (PI G [] h 0 (-2147483648) 2147483647) (c336_34, [(2, 42), (0, a1), (0, x2), j3, j4, j5, j6, j7, j8, j9], [], h1, 0, 0)) ∧ (∀ (h1 : JH) (x2 x3 : Int) (j4 j5 j6 j7 j8 j9 : AV), Gd G h1 → Kp [] h h1 → 0 ≤ a1 → a1 ≤ 1 → 0 ≤ x2 → x2 ≤ 1 → 0 ≤ x3 → x3 ≤ 2 → ((-6) * x2 + (-x3) + 14) < N → jEv (jOk 2) none (fun _ => 0) c336_0 0 0 (PI G [] h 0 (-2147483648) 2147483647) (c336_41, [(2, 42), (0, a1), (0, x2), (0, x3), j4, j5, j6, j7, j8, j9], [], h1, 0, 0)) := by
  intro N
  induction N with
  | zero => exact ⟨fun h1 x2 j3 j4 j5 j6 j7 j8 j9 g1 k1 b0 b1 b2 b3 hm => absurd hm (by omega), fun h1 x2 x3 j4 j5 j6 j7 j8 j9 g1 k1 b0 b1 b2 b3 b4 b5 hm => absurd hm (by omega)⟩
  | succ N ih =>
    refine ⟨?_, ?_⟩
    · intro h1 x2 j3 j4 j5 j6 j7 j8 j9 g1 k1 b0 b1 b2 b3 hm
      refine ev_iload_n rfl ?_
      refine ev_iconst ?_
      refine ev_icmpge f336_88 (fun c45347 => ?_) (fun c45347 => ?_)
      · refine ev_aload_n rfl ?_
        refine g_getp (r := 42) (c := 67) g1 ad42 (by decide) (by decide) rf42_46 ft12_46 ?_
        refine ev_iconst ?_
        refine g_iald g1 ad67 rt67 (by omega) (by omega) (fun v45348 ev45348 lv45348 uv45348 => ?_)
        refine ev_istore_n (L' := [(2, 42), (0, a1), (0, v45348), j3, j4, j5, j6, j7, j8, j9]) (Nat.le_of_ble_eq_true rfl) rfl ?_
        refine ev_aload_n rfl ?_
        refine g_getp (r := 42) (c := 67) g1 ad42 (by decide) (by decide) rf42_46 ft12_46 ?_
        refine ev_iconst ?_
        refine g_iald g1 ad67 rt67 (by omega) (by omega) (fun v45349 ev45349 lv45349 uv45349 => ?_)
        refine ev_istore_n (L' := [(2, 42), (0, a1), (0, v45348), (0, v45349), j4, j5, j6, j7, j8, j9]) (Nat.le_of_ble_eq_true rfl) rfl ?_
        refine ev_aload_n rfl ?_
        refine g_getp (r := 42) (c := 67) g1 ad42 (by decide) (by decide) rf42_46 ft12_46 ?_
        refine ev_iconst ?_
        refine g_iald g1 ad67 rt67 (by omega) (by omega) (fun v45350 ev45350 lv45350 uv45350 => ?_)
        refine ev_istore (L' := [(2, 42), (0, a1), (0, v45348), (0, v45349), (0, v45350), j5, j6, j7, j8, j9]) (Nat.le_of_ble_eq_true rfl) rfl ?_
        refine ev_aload_n rfl ?_
        refine g_getp (r := 42) (c := 67) g1 ad42 (by decide) (by decide) rf42_46 ft12_46 ?_
        refine ev_iconst ?_
        refine g_iald g1 ad67 rt67 (by omega) (by omega) (fun v45351 ev45351 lv45351 uv45351 => ?_)
        refine ev_istore (L' := [(2, 42), (0, a1), (0, v45348), (0, v45349), (0, v45350), (0, v45351), j6, j7, j8, j9]) (Nat.le_of_ble_eq_true rfl) rfl ?_
        refine ev_iload_n rfl ?_
        refine ev_iload_n rfl ?_
        refine ev_in (d := 1) (a := 0) (b := 0) (cd' := c334_0) (m := 2) (L0 := [(0, v45348), (0, v45349)]) (jcall_s (A := [(0, v45349), (0, v45348)]) (S' := []) (by decide) rfl (Nat.le_of_ble_eq_true rfl)) (by decide) ml334 pp334 (Nat.le_of_ble_eq_true rfl) rfl (by decide) (by decide) ?_
        refine ev_iload_n rfl ?_
        refine ev_iload_n rfl ?_
        refine ev_icmpge f334_9 (fun c45352 => ?_) (fun c45352 => ?_)
        · refine ev_iload_n rfl ?_
          refine ev_ret rfl (by decide) (by decide) ?_
          show jEv _ _ _ _ _ _ _ (_, [(2, 42), (0, a1), (0, v45348), (0, v45349), (0, v45350), (0, v45351), j6, j7, j8, j9], [(0, v45349)], _, _, _)
          refine ev_iload rfl ?_
          refine ev_iload rfl ?_
          refine ev_in (d := 1) (a := 0) (b := 0) (cd' := c334_0) (m := 2) (L0 := [(0, v45350), (0, v45351)]) (jcall_s (A := [(0, v45351), (0, v45350)]) (S' := [(0, v45349)]) (by decide) rfl (Nat.le_of_ble_eq_true rfl)) (by decide) ml334 pp334 (Nat.le_of_ble_eq_true rfl) rfl (by decide) (by decide) ?_
          refine ev_iload_n rfl ?_
          refine ev_iload_n rfl ?_
          refine ev_icmpge f334_9 (fun c45353 => ?_) (fun c45353 => ?_)
          · refine ev_iload_n rfl ?_
            refine ev_ret rfl (by decide) (by decide) ?_
            show jEv _ _ _ _ _ _ _ (_, [(2, 42), (0, a1), (0, v45348), (0, v45349), (0, v45350), (0, v45351), j6, j7, j8, j9], [(0, v45351), (0, v45349)], _, _, _)
            refine ev_in (d := 1) (a := 0) (b := 0) (cd' := c335_0) (m := 2) (L0 := [(0, v45349), (0, v45351)]) (jcall_s (A := [(0, v45351), (0, v45349)]) (S' := []) (by decide) rfl (Nat.le_of_ble_eq_true rfl)) (by decide) ml335 pp335 (Nat.le_of_ble_eq_true rfl) rfl (by decide) (by decide) ?_
            refine ev_iload_n rfl ?_
            refine ev_iload_n rfl ?_
            refine ev_icmple f335_9 (fun c45354 => ?_) (fun c45354 => ?_)
            · refine ev_iload_n rfl ?_
              refine ev_ret rfl (by decide) (by decide) ?_
              show jEv _ _ _ _ _ _ _ (_, [(2, 42), (0, a1), (0, v45348), (0, v45349), (0, v45350), (0, v45351), j6, j7, j8, j9], [(0, v45351)], _, _, _)
              refine ev_istore (L' := [(2, 42), (0, a1), (0, v45348), (0, v45349), (0, v45350), (0, v45351), (0, v45351), j7, j8, j9]) (Nat.le_of_ble_eq_true rfl) rfl ?_
              refine ev_iload_n rfl ?_
              refine ev_iload rfl ?_
              refine ev_in (d := 1) (a := 0) (b := 0) (cd' := c335_0) (m := 2) (L0 := [(0, v45348), (0, v45350)]) (jcall_s (A := [(0, v45350), (0, v45348)]) (S' := []) (by decide) rfl (Nat.le_of_ble_eq_true rfl)) (by decide) ml335 pp335 (Nat.le_of_ble_eq_true rfl) rfl (by decide) (by decide) ?_
              refine ev_iload_n rfl ?_
              refine ev_iload_n rfl ?_
              refine ev_icmple f335_9 (fun c45355 => ?_) (fun c45355 => ?_)
              · refine ev_iload_n rfl ?_
                refine ev_ret rfl (by decide) (by decide) ?_
                show jEv _ _ _ _ _ _ _ (_, [(2, 42), (0, a1), (0, v45348), (0, v45349), (0, v45350), (0, v45351), (0, v45351), j7, j8, j9], [(0, v45350)], _, _, _)
                refine ev_iload_n rfl ?_
                refine ev_iload rfl ?_
                refine ev_in (d := 1) (a := 0) (b := 0) (cd' := c335_0) (m := 2) (L0 := [(0, v45349), (0, v45351)]) (jcall_s (A := [(0, v45351), (0, v45349)]) (S' := [(0, v45350)]) (by decide) rfl (Nat.le_of_ble_eq_true rfl)) (by decide) ml335 pp335 (Nat.le_of_ble_eq_true rfl) rfl (by decide) (by decide) ?_
                refine ev_iload_n rfl ?_
                refine ev_iload_n rfl ?_
                refine ev_icmple f335_9 (fun c45356 => ?_) (fun c45356 => absurd c45356 (by omega))
                refine ev_iload_n rfl ?_
                refine ev_ret rfl (by decide) (by decide) ?_
                show jEv _ _ _ _ _ _ _ (_, [(2, 42), (0, a1), (0, v45348), (0, v45349), (0, v45350), (0, v45351), (0, v45351), j7, j8, j9], [(0, v45351), (0, v45350)], _, _, _)
                refine ev_in (d := 1) (a := 0) (b := 0) (cd' := c334_0) (m := 2) (L0 := [(0, v45350), (0, v45351)]) (jcall_s (A := [(0, v45351), (0, v45350)]) (S' := []) (by decide) rfl (Nat.le_of_ble_eq_true rfl)) (by decide) ml334 pp334 (Nat.le_of_ble_eq_true rfl) rfl (by decide) (by decide) ?_
                refine ev_iload_n rfl ?_
                refine ev_iload_n rfl ?_
                refine ev_icmpge f334_9 (fun c45357 => ?_) (fun c45357 => absurd c45357 (by omega))
                refine ev_iload_n rfl ?_
                refine ev_ret rfl (by decide) (by decide) ?_
                show jEv _ _ _ _ _ _ _ (_, [(2, 42), (0, a1), (0, v45348), (0, v45349), (0, v45350), (0, v45351), (0, v45351), j7, j8, j9], [(0, v45351)], _, _, _)
                refine ev_istore (L' := [(2, 42), (0, a1), (0, v45348), (0, v45349), (0, v45350), (0, v45351), (0, v45351), (0, v45351), j8, j9]) (Nat.le_of_ble_eq_true rfl) rfl ?_
                refine ev_iload rfl ?_
                refine ev_iload rfl ?_
                refine ev_icmpne f336_169 (fun c45358 => absurd c45358 (by omega)) (fun c45358 => ?_)
                refine ev_iload rfl ?_
                refine ev_i2l ?_
                refine ev_lconst ?_
                refine ev_iload_n rfl ?_
                refine ev_call (jcall_s (A := [(0, a1), (1, 1), (1, v45351)]) (S' := []) (by decide) rfl (Nat.le_of_ble_eq_true rfl)) (jOk_le (by decide) (s244 g1 (by omega) (by omega) (by omega) (by omega) (by omega) (by omega))) (by decide) (by decide) (fun w45359 h45359 q45359 => ?_)
                obtain ⟨v45360, rfl, lv45360, uv45360, g45359, kk45359⟩ := q45359
                have k45359 := k1.tr kk45359 (by decide)
                show jEv _ _ _ _ _ _ _ (_, [(2, 42), (0, a1), (0, v45348), (0, v45349), (0, v45350), (0, v45351), (0, v45351), (0, v45351), j8, j9], [(1, v45360)], _, _, _)
                refine g_l2iG (fun v45361 ev45361 lv45361 uv45361 => ?_)
                exact ev_ret rfl (by decide) (by decide) ⟨_, rfl, by omega, by omega, g45359, k45359⟩
              · refine ev_iload_n rfl ?_
                refine ev_goto f335_10 ?_
                refine ev_ret rfl (by decide) (by decide) ?_
                show jEv _ _ _ _ _ _ _ (_, [(2, 42), (0, a1), (0, v45348), (0, v45349), (0, v45350), (0, v45351), (0, v45351), j7, j8, j9], [(0, v45348)], _, _, _)
                refine ev_iload_n rfl ?_
                refine ev_iload rfl ?_
                refine ev_in (d := 1) (a := 0) (b := 0) (cd' := c335_0) (m := 2) (L0 := [(0, v45349), (0, v45351)]) (jcall_s (A := [(0, v45351), (0, v45349)]) (S' := [(0, v45348)]) (by decide) rfl (Nat.le_of_ble_eq_true rfl)) (by decide) ml335 pp335 (Nat.le_of_ble_eq_true rfl) rfl (by decide) (by decide) ?_
                refine ev_iload_n rfl ?_
                refine ev_iload_n rfl ?_
                refine ev_icmple f335_9 (fun c45362 => ?_) (fun c45362 => absurd c45362 (by omega))
                refine ev_iload_n rfl ?_
                refine ev_ret rfl (by decide) (by decide) ?_
                show jEv _ _ _ _ _ _ _ (_, [(2, 42), (0, a1), (0, v45348), (0, v45349), (0, v45350), (0, v45351), (0, v45351), j7, j8, j9], [(0, v45351), (0, v45348)], _, _, _)
                refine ev_in (d := 1) (a := 0) (b := 0) (cd' := c334_0) (m := 2) (L0 := [(0, v45348), (0, v45351)]) (jcall_s (A := [(0, v45351), (0, v45348)]) (S' := []) (by decide) rfl (Nat.le_of_ble_eq_true rfl)) (by decide) ml334 pp334 (Nat.le_of_ble_eq_true rfl) rfl (by decide) (by decide) ?_
                refine ev_iload_n rfl ?_
                refine ev_iload_n rfl ?_
                refine ev_icmpge f334_9 (fun c45363 => ?_) (fun c45363 => absurd c45363 (by omega))
                refine ev_iload_n rfl ?_
                refine ev_ret rfl (by decide) (by decide) ?_
                show jEv _ _ _ _ _ _ _ (_, [(2, 42), (0, a1), (0, v45348), (0, v45349), (0, v45350), (0, v45351), (0, v45351), j7, j8, j9], [(0, v45351)], _, _, _)
                refine ev_istore (L' := [(2, 42), (0, a1), (0, v45348), (0, v45349), (0, v45350), (0, v45351), (0, v45351), (0, v45351), j8, j9]) (Nat.le_of_ble_eq_true rfl) rfl ?_
                refine ev_iload rfl ?_
                refine ev_iload rfl ?_
                refine ev_icmpne f336_169 (fun c45364 => absurd c45364 (by omega)) (fun c45364 => ?_)
                refine ev_iload rfl ?_
                refine ev_i2l ?_
                refine ev_lconst ?_
                refine ev_iload_n rfl ?_
                refine ev_call (jcall_s (A := [(0, a1), (1, 1), (1, v45351)]) (S' := []) (by decide) rfl (Nat.le_of_ble_eq_true rfl)) (jOk_le (by decide) (s244 g1 (by omega) (by omega) (by omega) (by omega) (by omega) (by omega))) (by decide) (by decide) (fun w45365 h45365 q45365 => ?_)
                obtain ⟨v45366, rfl, lv45366, uv45366, g45365, kk45365⟩ := q45365
                have k45365 := k1.tr kk45365 (by decide)
                show jEv _ _ _ _ _ _ _ (_, [(2, 42), (0, a1), (0, v45348), (0, v45349), (0, v45350), (0, v45351), (0, v45351), (0, v45351), j8, j9], [(1, v45366)], _, _, _)
                refine g_l2iG (fun v45367 ev45367 lv45367 uv45367 => ?_)
                exact ev_ret rfl (by decide) (by decide) ⟨_, rfl, by omega, by omega, g45365, k45365⟩
            · refine ev_iload_n rfl ?_
              refine ev_goto f335_10 ?_
              refine ev_ret rfl (by decide) (by decide) ?_
              show jEv _ _ _ _ _ _ _ (_, [(2, 42), (0, a1), (0, v45348), (0, v45349), (0, v45350), (0, v45351), j6, j7, j8, j9], [(0, v45349)], _, _, _)
              refine ev_istore (L' := [(2, 42), (0, a1), (0, v45348), (0, v45349), (0, v45350), (0, v45351), (0, v45349), j7, j8, j9]) (Nat.le_of_ble_eq_true rfl) rfl ?_
              refine ev_iload_n rfl ?_
              refine ev_iload rfl ?_
              refine ev_in (d := 1) (a := 0) (b := 0) (cd' := c335_0) (m := 2) (L0 := [(0, v45348), (0, v45350)]) (jcall_s (A := [(0, v45350), (0, v45348)]) (S' := []) (by decide) rfl (Nat.le_of_ble_eq_true rfl)) (by decide) ml335 pp335 (Nat.le_of_ble_eq_true rfl) rfl (by decide) (by decide) ?_
              refine ev_iload_n rfl ?_
              refine ev_iload_n rfl ?_
              refine ev_icmple f335_9 (fun c45368 => ?_) (fun c45368 => ?_)
              · refine ev_iload_n rfl ?_
                refine ev_ret rfl (by decide) (by decide) ?_
                show jEv _ _ _ _ _ _ _ (_, [(2, 42), (0, a1), (0, v45348), (0, v45349), (0, v45350), (0, v45351), (0, v45349), j7, j8, j9], [(0, v45350)], _, _, _)
                refine ev_iload_n rfl ?_
                refine ev_iload rfl ?_
                refine ev_in (d := 1) (a := 0) (b := 0) (cd' := c335_0) (m := 2) (L0 := [(0, v45349), (0, v45351)]) (jcall_s (A := [(0, v45351), (0, v45349)]) (S' := [(0, v45350)]) (by decide) rfl (Nat.le_of_ble_eq_true rfl)) (by decide) ml335 pp335 (Nat.le_of_ble_eq_true rfl) rfl (by decide) (by decide) ?_
                refine ev_iload_n rfl ?_
                refine ev_iload_n rfl ?_
                refine ev_icmple f335_9 (fun c45369 => absurd c45369 (by omega)) (fun c45369 => ?_)
                refine ev_iload_n rfl ?_
                refine ev_goto f335_10 ?_
                refine ev_ret rfl (by decide) (by decide) ?_
                show jEv _ _ _ _ _ _ _ (_, [(2, 42), (0, a1), (0, v45348), (0, v45349), (0, v45350), (0, v45351), (0, v45349), j7, j8, j9], [(0, v45349), (0, v45350)], _, _, _)
                refine ev_in (d := 1) (a := 0) (b := 0) (cd' := c334_0) (m := 2) (L0 := [(0, v45350), (0, v45349)]) (jcall_s (A := [(0, v45349), (0, v45350)]) (S' := []) (by decide) rfl (Nat.le_of_ble_eq_true rfl)) (by decide) ml334 pp334 (Nat.le_of_ble_eq_true rfl) rfl (by decide) (by decide) ?_
                refine ev_iload_n rfl ?_
                refine ev_iload_n rfl ?_
                refine ev_icmpge f334_9 (fun c45370 => ?_) (fun c45370 => absurd c45370 (by omega))
                refine ev_iload_n rfl ?_
                refine ev_ret rfl (by decide) (by decide) ?_
                show jEv _ _ _ _ _ _ _ (_, [(2, 42), (0, a1), (0, v45348), (0, v45349), (0, v45350), (0, v45351), (0, v45349), j7, j8, j9], [(0, v45349)], _, _, _)
                refine ev_istore (L' := [(2, 42), (0, a1), (0, v45348), (0, v45349), (0, v45350), (0, v45351), (0, v45349), (0, v45349), j8, j9]) (Nat.le_of_ble_eq_true rfl) rfl ?_
                refine ev_iload rfl ?_
                refine ev_iload rfl ?_
                refine ev_icmpne f336_169 (fun c45371 => absurd c45371 (by omega)) (fun c45371 => ?_)
                refine ev_iload rfl ?_
                refine ev_i2l ?_
                refine ev_lconst ?_
                refine ev_iload_n rfl ?_
                refine ev_call (jcall_s (A := [(0, a1), (1, 1), (1, v45349)]) (S' := []) (by decide) rfl (Nat.le_of_ble_eq_true rfl)) (jOk_le (by decide) (s244 g1 (by omega) (by omega) (by omega) (by omega) (by omega) (by omega))) (by decide) (by decide) (fun w45372 h45372 q45372 => ?_)
                obtain ⟨v45373, rfl, lv45373, uv45373, g45372, kk45372⟩ := q45372
                have k45372 := k1.tr kk45372 (by decide)
                show jEv _ _ _ _ _ _ _ (_, [(2, 42), (0, a1), (0, v45348), (0, v45349), (0, v45350), (0, v45351), (0, v45349), (0, v45349), j8, j9], [(1, v45373)], _, _, _)
                refine g_l2iG (fun v45374 ev45374 lv45374 uv45374 => ?_)
                exact ev_ret rfl (by decide) (by decide) ⟨_, rfl, by omega, by omega, g45372, k45372⟩
              · refine ev_iload_n rfl ?_
                refine ev_goto f335_10 ?_
                refine ev_ret rfl (by decide) (by decide) ?_
                show jEv _ _ _ _ _ _ _ (_, [(2, 42), (0, a1), (0, v45348), (0, v45349), (0, v45350), (0, v45351), (0, v45349), j7, j8, j9], [(0, v45348)], _, _, _)
                refine ev_iload_n rfl ?_
                refine ev_iload rfl ?_
                refine ev_in (d := 1) (a := 0) (b := 0) (cd' := c335_0) (m := 2) (L0 := [(0, v45349), (0, v45351)]) (jcall_s (A := [(0, v45351), (0, v45349)]) (S' := [(0, v45348)]) (by decide) rfl (Nat.le_of_ble_eq_true rfl)) (by decide) ml335 pp335 (Nat.le_of_ble_eq_true rfl) rfl (by decide) (by decide) ?_
                refine ev_iload_n rfl ?_
                refine ev_iload_n rfl ?_
                refine ev_icmple f335_9 (fun c45375 => absurd c45375 (by omega)) (fun c45375 => ?_)
                refine ev_iload_n rfl ?_
                refine ev_goto f335_10 ?_
                refine ev_ret rfl (by decide) (by decide) ?_
                show jEv _ _ _ _ _ _ _ (_, [(2, 42), (0, a1), (0, v45348), (0, v45349), (0, v45350), (0, v45351), (0, v45349), j7, j8, j9], [(0, v45349), (0, v45348)], _, _, _)
                refine ev_in (d := 1) (a := 0) (b := 0) (cd' := c334_0) (m := 2) (L0 := [(0, v45348), (0, v45349)]) (jcall_s (A := [(0, v45349), (0, v45348)]) (S' := []) (by decide) rfl (Nat.le_of_ble_eq_true rfl)) (by decide) ml334 pp334 (Nat.le_of_ble_eq_true rfl) rfl (by decide) (by decide) ?_
                refine ev_iload_n rfl ?_
                refine ev_iload_n rfl ?_
                refine ev_icmpge f334_9 (fun c45376 => ?_) (fun c45376 => absurd c45376 (by omega))
                refine ev_iload_n rfl ?_
                refine ev_ret rfl (by decide) (by decide) ?_
                show jEv _ _ _ _ _ _ _ (_, [(2, 42), (0, a1), (0, v45348), (0, v45349), (0, v45350), (0, v45351), (0, v45349), j7, j8, j9], [(0, v45349)], _, _, _)
                refine ev_istore (L' := [(2, 42), (0, a1), (0, v45348), (0, v45349), (0, v45350), (0, v45351), (0, v45349), (0, v45349), j8, j9]) (Nat.le_of_ble_eq_true rfl) rfl ?_
                refine ev_iload rfl ?_
                refine ev_iload rfl ?_
                refine ev_icmpne f336_169 (fun c45377 => absurd c45377 (by omega)) (fun c45377 => ?_)
                refine ev_iload rfl ?_
                refine ev_i2l ?_
                refine ev_lconst ?_
                refine ev_iload_n rfl ?_
                refine ev_call (jcall_s (A := [(0, a1), (1, 1), (1, v45349)]) (S' := []) (by decide) rfl (Nat.le_of_ble_eq_true rfl)) (jOk_le (by decide) (s244 g1 (by omega) (by omega) (by omega) (by omega) (by omega) (by omega))) (by decide) (by decide) (fun w45378 h45378 q45378 => ?_)
                obtain ⟨v45379, rfl, lv45379, uv45379, g45378, kk45378⟩ := q45378
                have k45378 := k1.tr kk45378 (by decide)
                show jEv _ _ _ _ _ _ _ (_, [(2, 42), (0, a1), (0, v45348), (0, v45349), (0, v45350), (0, v45351), (0, v45349), (0, v45349), j8, j9], [(1, v45379)], _, _, _)
                refine g_l2iG (fun v45380 ev45380 lv45380 uv45380 => ?_)
                exact ev_ret rfl (by decide) (by decide) ⟨_, rfl, by omega, by omega, g45378, k45378⟩
          · refine ev_iload_n rfl ?_
            refine ev_goto f334_10 ?_
            refine ev_ret rfl (by decide) (by decide) ?_
            show jEv _ _ _ _ _ _ _ (_, [(2, 42), (0, a1), (0, v45348), (0, v45349), (0, v45350), (0, v45351), j6, j7, j8, j9], [(0, v45350), (0, v45349)], _, _, _)
            refine ev_in (d := 1) (a := 0) (b := 0) (cd' := c335_0) (m := 2) (L0 := [(0, v45349), (0, v45350)]) (jcall_s (A := [(0, v45350), (0, v45349)]) (S' := []) (by decide) rfl (Nat.le_of_ble_eq_true rfl)) (by decide) ml335 pp335 (Nat.le_of_ble_eq_true rfl) rfl (by decide) (by decide) ?_
            refine ev_iload_n rfl ?_
            refine ev_iload_n rfl ?_
            refine ev_icmple f335_9 (fun c45381 => ?_) (fun c45381 => ?_)
            · refine ev_iload_n rfl ?_
              refine ev_ret rfl (by decide) (by decide) ?_
              show jEv _ _ _ _ _ _ _ (_, [(2, 42), (0, a1), (0, v45348), (0, v45349), (0, v45350), (0, v45351), j6, j7, j8, j9], [(0, v45350)], _, _, _)
              refine ev_istore (L' := [(2, 42), (0, a1), (0, v45348), (0, v45349), (0, v45350), (0, v45351), (0, v45350), j7, j8, j9]) (Nat.le_of_ble_eq_true rfl) rfl ?_
              refine ev_iload_n rfl ?_
              refine ev_iload rfl ?_
              refine ev_in (d := 1) (a := 0) (b := 0) (cd' := c335_0) (m := 2) (L0 := [(0, v45348), (0, v45350)]) (jcall_s (A := [(0, v45350), (0, v45348)]) (S' := []) (by decide) rfl (Nat.le_of_ble_eq_true rfl)) (by decide) ml335 pp335 (Nat.le_of_ble_eq_true rfl) rfl (by decide) (by decide) ?_
              refine ev_iload_n rfl ?_
              refine ev_iload_n rfl ?_
              refine ev_icmple f335_9 (fun c45382 => ?_) (fun c45382 => ?_)
              · refine ev_iload_n rfl ?_
                refine ev_ret rfl (by decide) (by decide) ?_
                show jEv _ _ _ _ _ _ _ (_, [(2, 42), (0, a1), (0, v45348), (0, v45349), (0, v45350), (0, v45351), (0, v45350), j7, j8, j9], [(0, v45350)], _, _, _)
                refine ev_iload_n rfl ?_
                refine ev_iload rfl ?_
                refine ev_in (d := 1) (a := 0) (b := 0) (cd' := c335_0) (m := 2) (L0 := [(0, v45349), (0, v45351)]) (jcall_s (A := [(0, v45351), (0, v45349)]) (S' := [(0, v45350)]) (by decide) rfl (Nat.le_of_ble_eq_true rfl)) (by decide) ml335 pp335 (Nat.le_of_ble_eq_true rfl) rfl (by decide) (by decide) ?_
                refine ev_iload_n rfl ?_
                refine ev_iload_n rfl ?_
                refine ev_icmple f335_9 (fun c45383 => ?_) (fun c45383 => absurd c45383 (by omega))
                refine ev_iload_n rfl ?_
                refine ev_ret rfl (by decide) (by decide) ?_
                show jEv _ _ _ _ _ _ _ (_, [(2, 42), (0, a1), (0, v45348), (0, v45349), (0, v45350), (0, v45351), (0, v45350), j7, j8, j9], [(0, v45351), (0, v45350)], _, _, _)
                refine ev_in (d := 1) (a := 0) (b := 0) (cd' := c334_0) (m := 2) (L0 := [(0, v45350), (0, v45351)]) (jcall_s (A := [(0, v45351), (0, v45350)]) (S' := []) (by decide) rfl (Nat.le_of_ble_eq_true rfl)) (by decide) ml334 pp334 (Nat.le_of_ble_eq_true rfl) rfl (by decide) (by decide) ?_
                refine ev_iload_n rfl ?_
                refine ev_iload_n rfl ?_
                refine ev_icmpge f334_9 (fun c45384 => absurd c45384 (by omega)) (fun c45384 => ?_)
                refine ev_iload_n rfl ?_
                refine ev_goto f334_10 ?_
                refine ev_ret rfl (by decide) (by decide) ?_
                show jEv _ _ _ _ _ _ _ (_, [(2, 42), (0, a1), (0, v45348), (0, v45349), (0, v45350), (0, v45351), (0, v45350), j7, j8, j9], [(0, v45350)], _, _, _)
                refine ev_istore (L' := [(2, 42), (0, a1), (0, v45348), (0, v45349), (0, v45350), (0, v45351), (0, v45350), (0, v45350), j8, j9]) (Nat.le_of_ble_eq_true rfl) rfl ?_
                refine ev_iload rfl ?_
                refine ev_iload rfl ?_
                refine ev_icmpne f336_169 (fun c45385 => absurd c45385 (by omega)) (fun c45385 => ?_)
                refine ev_iload rfl ?_
                refine ev_i2l ?_
                refine ev_lconst ?_
                refine ev_iload_n rfl ?_
                refine ev_call (jcall_s (A := [(0, a1), (1, 1), (1, v45350)]) (S' := []) (by decide) rfl (Nat.le_of_ble_eq_true rfl)) (jOk_le (by decide) (s244 g1 (by omega) (by omega) (by omega) (by omega) (by omega) (by omega))) (by decide) (by decide) (fun w45386 h45386 q45386 => ?_)
                obtain ⟨v45387, rfl, lv45387, uv45387, g45386, kk45386⟩ := q45386
                have k45386 := k1.tr kk45386 (by decide)
                show jEv _ _ _ _ _ _ _ (_, [(2, 42), (0, a1), (0, v45348), (0, v45349), (0, v45350), (0, v45351), (0, v45350), (0, v45350), j8, j9], [(1, v45387)], _, _, _)
                refine g_l2iG (fun v45388 ev45388 lv45388 uv45388 => ?_)
                exact ev_ret rfl (by decide) (by decide) ⟨_, rfl, by omega, by omega, g45386, k45386⟩
              · refine ev_iload_n rfl ?_
                refine ev_goto f335_10 ?_
                refine ev_ret rfl (by decide) (by decide) ?_
                show jEv _ _ _ _ _ _ _ (_, [(2, 42), (0, a1), (0, v45348), (0, v45349), (0, v45350), (0, v45351), (0, v45350), j7, j8, j9], [(0, v45348)], _, _, _)
                refine ev_iload_n rfl ?_
                refine ev_iload rfl ?_
                refine ev_in (d := 1) (a := 0) (b := 0) (cd' := c335_0) (m := 2) (L0 := [(0, v45349), (0, v45351)]) (jcall_s (A := [(0, v45351), (0, v45349)]) (S' := [(0, v45348)]) (by decide) rfl (Nat.le_of_ble_eq_true rfl)) (by decide) ml335 pp335 (Nat.le_of_ble_eq_true rfl) rfl (by decide) (by decide) ?_
                refine ev_iload_n rfl ?_
                refine ev_iload_n rfl ?_
                refine ev_icmple f335_9 (fun c45389 => ?_) (fun c45389 => absurd c45389 (by omega))
                refine ev_iload_n rfl ?_
                refine ev_ret rfl (by decide) (by decide) ?_
                show jEv _ _ _ _ _ _ _ (_, [(2, 42), (0, a1), (0, v45348), (0, v45349), (0, v45350), (0, v45351), (0, v45350), j7, j8, j9], [(0, v45351), (0, v45348)], _, _, _)
                refine ev_in (d := 1) (a := 0) (b := 0) (cd' := c334_0) (m := 2) (L0 := [(0, v45348), (0, v45351)]) (jcall_s (A := [(0, v45351), (0, v45348)]) (S' := []) (by decide) rfl (Nat.le_of_ble_eq_true rfl)) (by decide) ml334 pp334 (Nat.le_of_ble_eq_true rfl) rfl (by decide) (by decide) ?_
                refine ev_iload_n rfl ?_
                refine ev_iload_n rfl ?_
                refine ev_icmpge f334_9 (fun c45390 => ?_) (fun c45390 => ?_)
                · refine ev_iload_n rfl ?_
                  refine ev_ret rfl (by decide) (by decide) ?_
                  show jEv _ _ _ _ _ _ _ (_, [(2, 42), (0, a1), (0, v45348), (0, v45349), (0, v45350), (0, v45351), (0, v45350), j7, j8, j9], [(0, v45351)], _, _, _)
                  refine ev_istore (L' := [(2, 42), (0, a1), (0, v45348), (0, v45349), (0, v45350), (0, v45351), (0, v45350), (0, v45351), j8, j9]) (Nat.le_of_ble_eq_true rfl) rfl ?_
                  refine ev_iload rfl ?_
                  refine ev_iload rfl ?_
                  refine ev_icmpne f336_169 (fun c45391 => ?_) (fun c45391 => absurd c45391 (by omega))
                  refine ev_iload_n rfl ?_
                  refine ev_iload rfl ?_
                  refine ev_iadd (r := (v45348 + v45351)) (by unfold w32; omega) ?_
                  refine ev_iload_n rfl ?_
                  refine ev_isub (r := (v45348 + (-v45349) + v45351)) (by unfold w32; omega) ?_
                  refine ev_iload rfl ?_
                  refine ev_isub (r := (v45348 + (-v45349) + (-v45350) + v45351)) (by unfold w32; omega) ?_
                  refine ev_istore (L' := [(2, 42), (0, a1), (0, v45348), (0, v45349), (0, v45350), (0, v45351), (0, v45350), (0, v45351), (0, (v45348 + (-v45349) + (-v45350) + v45351)), j9]) (Nat.le_of_ble_eq_true rfl) rfl ?_
                  refine ev_iload_n rfl ?_
                  refine ev_iload rfl ?_
                  refine g_imulG (fun v45392 ev45392 lv45392 uv45392 => ?_)
                  refine ev_iload_n rfl ?_
                  refine ev_iload rfl ?_
                  refine g_imulG (fun v45393 ev45393 lv45393 uv45393 => ?_)
                  refine g_isubG (fun v45394 ev45394 lv45394 uv45394 => ?_)
                  refine ev_istore (L' := [(2, 42), (0, a1), (0, v45348), (0, v45349), (0, v45350), (0, v45351), (0, v45350), (0, v45351), (0, (v45348 + (-v45349) + (-v45350) + v45351)), (0, v45394)]) (Nat.le_of_ble_eq_true rfl) rfl ?_
                  refine ev_iload rfl ?_
                  refine ev_ifle f336_209 (fun c45395 => absurd c45395 (by omega)) (fun c45395 => ?_)
                  refine ev_iload rfl ?_
                  refine ev_i2l ?_
                  refine ev_iload rfl ?_
                  refine ev_i2l ?_
                  refine ev_iload_n rfl ?_
                  refine ev_call (jcall_s (A := [(0, a1), (1, (v45348 + (-v45349) + (-v45350) + v45351)), (1, v45394)]) (S' := []) (by decide) rfl (Nat.le_of_ble_eq_true rfl)) (jOk_le (by decide) (s244 g1 (by omega) (by omega) (by omega) (by omega) (by omega) (by omega))) (by decide) (by decide) (fun w45396 h45396 q45396 => ?_)
                  obtain ⟨v45397, rfl, lv45397, uv45397, g45396, kk45396⟩ := q45396
                  have k45396 := k1.tr kk45396 (by decide)
                  show jEv _ _ _ _ _ _ _ (_, [(2, 42), (0, a1), (0, v45348), (0, v45349), (0, v45350), (0, v45351), (0, v45350), (0, v45351), (0, (v45348 + (-v45349) + (-v45350) + v45351)), (0, v45394)], [(1, v45397)], _, _, _)
                  refine ev_goto f336_221 ?_
                  refine g_l2iG (fun v45398 ev45398 lv45398 uv45398 => ?_)
                  exact ev_ret rfl (by decide) (by decide) ⟨_, rfl, by omega, by omega, g45396, k45396⟩
                · refine ev_iload_n rfl ?_
                  refine ev_goto f334_10 ?_
                  refine ev_ret rfl (by decide) (by decide) ?_
                  show jEv _ _ _ _ _ _ _ (_, [(2, 42), (0, a1), (0, v45348), (0, v45349), (0, v45350), (0, v45351), (0, v45350), j7, j8, j9], [(0, v45348)], _, _, _)
                  refine ev_istore (L' := [(2, 42), (0, a1), (0, v45348), (0, v45349), (0, v45350), (0, v45351), (0, v45350), (0, v45348), j8, j9]) (Nat.le_of_ble_eq_true rfl) rfl ?_
                  refine ev_iload rfl ?_
                  refine ev_iload rfl ?_
                  refine ev_icmpne f336_169 (fun c45399 => ?_) (fun c45399 => absurd c45399 (by omega))
                  refine ev_iload_n rfl ?_
                  refine ev_iload rfl ?_
                  refine ev_iadd (r := (v45348 + v45351)) (by unfold w32; omega) ?_
                  refine ev_iload_n rfl ?_
                  refine ev_isub (r := (v45348 + (-v45349) + v45351)) (by unfold w32; omega) ?_
                  refine ev_iload rfl ?_
                  refine ev_isub (r := (v45348 + (-v45349) + (-v45350) + v45351)) (by unfold w32; omega) ?_
                  refine ev_istore (L' := [(2, 42), (0, a1), (0, v45348), (0, v45349), (0, v45350), (0, v45351), (0, v45350), (0, v45348), (0, (v45348 + (-v45349) + (-v45350) + v45351)), j9]) (Nat.le_of_ble_eq_true rfl) rfl ?_
                  refine ev_iload_n rfl ?_
                  refine ev_iload rfl ?_
                  refine g_imulG (fun v45400 ev45400 lv45400 uv45400 => ?_)
                  refine ev_iload_n rfl ?_
                  refine ev_iload rfl ?_
                  refine g_imulG (fun v45401 ev45401 lv45401 uv45401 => ?_)
                  refine g_isubG (fun v45402 ev45402 lv45402 uv45402 => ?_)
                  refine ev_istore (L' := [(2, 42), (0, a1), (0, v45348), (0, v45349), (0, v45350), (0, v45351), (0, v45350), (0, v45348), (0, (v45348 + (-v45349) + (-v45350) + v45351)), (0, v45402)]) (Nat.le_of_ble_eq_true rfl) rfl ?_
                  refine ev_iload rfl ?_
                  refine ev_ifle f336_209 (fun c45403 => absurd c45403 (by omega)) (fun c45403 => ?_)
                  refine ev_iload rfl ?_
                  refine ev_i2l ?_
                  refine ev_iload rfl ?_
                  refine ev_i2l ?_
                  refine ev_iload_n rfl ?_
                  refine ev_call (jcall_s (A := [(0, a1), (1, (v45348 + (-v45349) + (-v45350) + v45351)), (1, v45402)]) (S' := []) (by decide) rfl (Nat.le_of_ble_eq_true rfl)) (jOk_le (by decide) (s244 g1 (by omega) (by omega) (by omega) (by omega) (by omega) (by omega))) (by decide) (by decide) (fun w45404 h45404 q45404 => ?_)
                  obtain ⟨v45405, rfl, lv45405, uv45405, g45404, kk45404⟩ := q45404
                  have k45404 := k1.tr kk45404 (by decide)
                  show jEv _ _ _ _ _ _ _ (_, [(2, 42), (0, a1), (0, v45348), (0, v45349), (0, v45350), (0, v45351), (0, v45350), (0, v45348), (0, (v45348 + (-v45349) + (-v45350) + v45351)), (0, v45402)], [(1, v45405)], _, _, _)
                  refine ev_goto f336_221 ?_
                  refine g_l2iG (fun v45406 ev45406 lv45406 uv45406 => ?_)
                  exact ev_ret rfl (by decide) (by decide) ⟨_, rfl, by omega, by omega, g45404, k45404⟩
            · refine ev_iload_n rfl ?_
              refine ev_goto f335_10 ?_
              refine ev_ret rfl (by decide) (by decide) ?_
              show jEv _ _ _ _ _ _ _ (_, [(2, 42), (0, a1), (0, v45348), (0, v45349), (0, v45350), (0, v45351), j6, j7, j8, j9], [(0, v45349)], _, _, _)
              refine ev_istore (L' := [(2, 42), (0, a1), (0, v45348), (0, v45349), (0, v45350), (0, v45351), (0, v45349), j7, j8, j9]) (Nat.le_of_ble_eq_true rfl) rfl ?_
              refine ev_iload_n rfl ?_
              refine ev_iload rfl ?_
              refine ev_in (d := 1) (a := 0) (b := 0) (cd' := c335_0) (m := 2) (L0 := [(0, v45348), (0, v45350)]) (jcall_s (A := [(0, v45350), (0, v45348)]) (S' := []) (by decide) rfl (Nat.le_of_ble_eq_true rfl)) (by decide) ml335 pp335 (Nat.le_of_ble_eq_true rfl) rfl (by decide) (by decide) ?_
              refine ev_iload_n rfl ?_
              refine ev_iload_n rfl ?_
              refine ev_icmple f335_9 (fun c45407 => absurd c45407 (by omega)) (fun c45407 => ?_)
              refine ev_iload_n rfl ?_
              refine ev_goto f335_10 ?_
              refine ev_ret rfl (by decide) (by decide) ?_
              show jEv _ _ _ _ _ _ _ (_, [(2, 42), (0, a1), (0, v45348), (0, v45349), (0, v45350), (0, v45351), (0, v45349), j7, j8, j9], [(0, v45348)], _, _, _)
              refine ev_iload_n rfl ?_
              refine ev_iload rfl ?_
              refine ev_in (d := 1) (a := 0) (b := 0) (cd' := c335_0) (m := 2) (L0 := [(0, v45349), (0, v45351)]) (jcall_s (A := [(0, v45351), (0, v45349)]) (S' := [(0, v45348)]) (by decide) rfl (Nat.le_of_ble_eq_true rfl)) (by decide) ml335 pp335 (Nat.le_of_ble_eq_true rfl) rfl (by decide) (by decide) ?_
              refine ev_iload_n rfl ?_
              refine ev_iload_n rfl ?_
              refine ev_icmple f335_9 (fun c45408 => ?_) (fun c45408 => ?_)
              · refine ev_iload_n rfl ?_
                refine ev_ret rfl (by decide) (by decide) ?_
                show jEv _ _ _ _ _ _ _ (_, [(2, 42), (0, a1), (0, v45348), (0, v45349), (0, v45350), (0, v45351), (0, v45349), j7, j8, j9], [(0, v45351), (0, v45348)], _, _, _)
                refine ev_in (d := 1) (a := 0) (b := 0) (cd' := c334_0) (m := 2) (L0 := [(0, v45348), (0, v45351)]) (jcall_s (A := [(0, v45351), (0, v45348)]) (S' := []) (by decide) rfl (Nat.le_of_ble_eq_true rfl)) (by decide) ml334 pp334 (Nat.le_of_ble_eq_true rfl) rfl (by decide) (by decide) ?_
                refine ev_iload_n rfl ?_
                refine ev_iload_n rfl ?_
                refine ev_icmpge f334_9 (fun c45409 => ?_) (fun c45409 => ?_)
                · refine ev_iload_n rfl ?_
                  refine ev_ret rfl (by decide) (by decide) ?_
                  show jEv _ _ _ _ _ _ _ (_, [(2, 42), (0, a1), (0, v45348), (0, v45349), (0, v45350), (0, v45351), (0, v45349), j7, j8, j9], [(0, v45351)], _, _, _)
                  refine ev_istore (L' := [(2, 42), (0, a1), (0, v45348), (0, v45349), (0, v45350), (0, v45351), (0, v45349), (0, v45351), j8, j9]) (Nat.le_of_ble_eq_true rfl) rfl ?_
                  refine ev_iload rfl ?_
                  refine ev_iload rfl ?_
                  refine ev_icmpne f336_169 (fun c45410 => ?_) (fun c45410 => ?_)
                  · refine ev_iload_n rfl ?_
                    refine ev_iload rfl ?_
                    refine ev_iadd (r := (v45348 + v45351)) (by unfold w32; omega) ?_
                    refine ev_iload_n rfl ?_
                    refine ev_isub (r := (v45348 + (-v45349) + v45351)) (by unfold w32; omega) ?_
                    refine ev_iload rfl ?_
                    refine ev_isub (r := (v45348 + (-v45349) + (-v45350) + v45351)) (by unfold w32; omega) ?_
                    refine ev_istore (L' := [(2, 42), (0, a1), (0, v45348), (0, v45349), (0, v45350), (0, v45351), (0, v45349), (0, v45351), (0, (v45348 + (-v45349) + (-v45350) + v45351)), j9]) (Nat.le_of_ble_eq_true rfl) rfl ?_
                    refine ev_iload_n rfl ?_
                    refine ev_iload rfl ?_
                    refine g_imulG (fun v45411 ev45411 lv45411 uv45411 => ?_)
                    refine ev_iload_n rfl ?_
                    refine ev_iload rfl ?_
                    refine g_imulG (fun v45412 ev45412 lv45412 uv45412 => ?_)
                    refine g_isubG (fun v45413 ev45413 lv45413 uv45413 => ?_)
                    refine ev_istore (L' := [(2, 42), (0, a1), (0, v45348), (0, v45349), (0, v45350), (0, v45351), (0, v45349), (0, v45351), (0, (v45348 + (-v45349) + (-v45350) + v45351)), (0, v45413)]) (Nat.le_of_ble_eq_true rfl) rfl ?_
                    refine ev_iload rfl ?_
                    refine ev_ifle f336_209 (fun c45414 => absurd c45414 (by omega)) (fun c45414 => ?_)
                    refine ev_iload rfl ?_
                    refine ev_i2l ?_
                    refine ev_iload rfl ?_
                    refine ev_i2l ?_
                    refine ev_iload_n rfl ?_
                    refine ev_call (jcall_s (A := [(0, a1), (1, (v45348 + (-v45349) + (-v45350) + v45351)), (1, v45413)]) (S' := []) (by decide) rfl (Nat.le_of_ble_eq_true rfl)) (jOk_le (by decide) (s244 g1 (by omega) (by omega) (by omega) (by omega) (by omega) (by omega))) (by decide) (by decide) (fun w45415 h45415 q45415 => ?_)
                    obtain ⟨v45416, rfl, lv45416, uv45416, g45415, kk45415⟩ := q45415
                    have k45415 := k1.tr kk45415 (by decide)
                    show jEv _ _ _ _ _ _ _ (_, [(2, 42), (0, a1), (0, v45348), (0, v45349), (0, v45350), (0, v45351), (0, v45349), (0, v45351), (0, (v45348 + (-v45349) + (-v45350) + v45351)), (0, v45413)], [(1, v45416)], _, _, _)
                    refine ev_goto f336_221 ?_
                    refine g_l2iG (fun v45417 ev45417 lv45417 uv45417 => ?_)
                    exact ev_ret rfl (by decide) (by decide) ⟨_, rfl, by omega, by omega, g45415, k45415⟩
                  · refine ev_iload rfl ?_
                    refine ev_i2l ?_
                    refine ev_lconst ?_
                    refine ev_iload_n rfl ?_
                    refine ev_call (jcall_s (A := [(0, a1), (1, 1), (1, v45349)]) (S' := []) (by decide) rfl (Nat.le_of_ble_eq_true rfl)) (jOk_le (by decide) (s244 g1 (by omega) (by omega) (by omega) (by omega) (by omega) (by omega))) (by decide) (by decide) (fun w45418 h45418 q45418 => ?_)
                    obtain ⟨v45419, rfl, lv45419, uv45419, g45418, kk45418⟩ := q45418
                    have k45418 := k1.tr kk45418 (by decide)
                    show jEv _ _ _ _ _ _ _ (_, [(2, 42), (0, a1), (0, v45348), (0, v45349), (0, v45350), (0, v45351), (0, v45349), (0, v45351), j8, j9], [(1, v45419)], _, _, _)
                    refine g_l2iG (fun v45420 ev45420 lv45420 uv45420 => ?_)
                    exact ev_ret rfl (by decide) (by decide) ⟨_, rfl, by omega, by omega, g45418, k45418⟩
                · refine ev_iload_n rfl ?_
                  refine ev_goto f334_10 ?_
                  refine ev_ret rfl (by decide) (by decide) ?_
                  show jEv _ _ _ _ _ _ _ (_, [(2, 42), (0, a1), (0, v45348), (0, v45349), (0, v45350), (0, v45351), (0, v45349), j7, j8, j9], [(0, v45348)], _, _, _)
                  refine ev_istore (L' := [(2, 42), (0, a1), (0, v45348), (0, v45349), (0, v45350), (0, v45351), (0, v45349), (0, v45348), j8, j9]) (Nat.le_of_ble_eq_true rfl) rfl ?_
                  refine ev_iload rfl ?_
                  refine ev_iload rfl ?_
                  refine ev_icmpne f336_169 (fun c45421 => ?_) (fun c45421 => ?_)
                  · refine ev_iload_n rfl ?_
                    refine ev_iload rfl ?_
                    refine ev_iadd (r := (v45348 + v45351)) (by unfold w32; omega) ?_
                    refine ev_iload_n rfl ?_
                    refine ev_isub (r := (v45348 + (-v45349) + v45351)) (by unfold w32; omega) ?_
                    refine ev_iload rfl ?_
                    refine ev_isub (r := (v45348 + (-v45349) + (-v45350) + v45351)) (by unfold w32; omega) ?_
                    refine ev_istore (L' := [(2, 42), (0, a1), (0, v45348), (0, v45349), (0, v45350), (0, v45351), (0, v45349), (0, v45348), (0, (v45348 + (-v45349) + (-v45350) + v45351)), j9]) (Nat.le_of_ble_eq_true rfl) rfl ?_
                    refine ev_iload_n rfl ?_
                    refine ev_iload rfl ?_
                    refine g_imulG (fun v45422 ev45422 lv45422 uv45422 => ?_)
                    refine ev_iload_n rfl ?_
                    refine ev_iload rfl ?_
                    refine g_imulG (fun v45423 ev45423 lv45423 uv45423 => ?_)
                    refine g_isubG (fun v45424 ev45424 lv45424 uv45424 => ?_)
                    refine ev_istore (L' := [(2, 42), (0, a1), (0, v45348), (0, v45349), (0, v45350), (0, v45351), (0, v45349), (0, v45348), (0, (v45348 + (-v45349) + (-v45350) + v45351)), (0, v45424)]) (Nat.le_of_ble_eq_true rfl) rfl ?_
                    refine ev_iload rfl ?_
                    refine ev_ifle f336_209 (fun c45425 => absurd c45425 (by omega)) (fun c45425 => ?_)
                    refine ev_iload rfl ?_
                    refine ev_i2l ?_
                    refine ev_iload rfl ?_
                    refine ev_i2l ?_
                    refine ev_iload_n rfl ?_
                    refine ev_call (jcall_s (A := [(0, a1), (1, (v45348 + (-v45349) + (-v45350) + v45351)), (1, v45424)]) (S' := []) (by decide) rfl (Nat.le_of_ble_eq_true rfl)) (jOk_le (by decide) (s244 g1 (by omega) (by omega) (by omega) (by omega) (by omega) (by omega))) (by decide) (by decide) (fun w45426 h45426 q45426 => ?_)
                    obtain ⟨v45427, rfl, lv45427, uv45427, g45426, kk45426⟩ := q45426
                    have k45426 := k1.tr kk45426 (by decide)
                    show jEv _ _ _ _ _ _ _ (_, [(2, 42), (0, a1), (0, v45348), (0, v45349), (0, v45350), (0, v45351), (0, v45349), (0, v45348), (0, (v45348 + (-v45349) + (-v45350) + v45351)), (0, v45424)], [(1, v45427)], _, _, _)
                    refine ev_goto f336_221 ?_
                    refine g_l2iG (fun v45428 ev45428 lv45428 uv45428 => ?_)
                    exact ev_ret rfl (by decide) (by decide) ⟨_, rfl, by omega, by omega, g45426, k45426⟩
                  · refine ev_iload rfl ?_
                    refine ev_i2l ?_
                    refine ev_lconst ?_
                    refine ev_iload_n rfl ?_
                    refine ev_call (jcall_s (A := [(0, a1), (1, 1), (1, v45349)]) (S' := []) (by decide) rfl (Nat.le_of_ble_eq_true rfl)) (jOk_le (by decide) (s244 g1 (by omega) (by omega) (by omega) (by omega) (by omega) (by omega))) (by decide) (by decide) (fun w45429 h45429 q45429 => ?_)
                    obtain ⟨v45430, rfl, lv45430, uv45430, g45429, kk45429⟩ := q45429
                    have k45429 := k1.tr kk45429 (by decide)
                    show jEv _ _ _ _ _ _ _ (_, [(2, 42), (0, a1), (0, v45348), (0, v45349), (0, v45350), (0, v45351), (0, v45349), (0, v45348), j8, j9], [(1, v45430)], _, _, _)
                    refine g_l2iG (fun v45431 ev45431 lv45431 uv45431 => ?_)
                    exact ev_ret rfl (by decide) (by decide) ⟨_, rfl, by omega, by omega, g45429, k45429⟩
              · refine ev_iload_n rfl ?_
                refine ev_goto f335_10 ?_
                refine ev_ret rfl (by decide) (by decide) ?_
                show jEv _ _ _ _ _ _ _ (_, [(2, 42), (0, a1), (0, v45348), (0, v45349), (0, v45350), (0, v45351), (0, v45349), j7, j8, j9], [(0, v45349), (0, v45348)], _, _, _)
                refine ev_in (d := 1) (a := 0) (b := 0) (cd' := c334_0) (m := 2) (L0 := [(0, v45348), (0, v45349)]) (jcall_s (A := [(0, v45349), (0, v45348)]) (S' := []) (by decide) rfl (Nat.le_of_ble_eq_true rfl)) (by decide) ml334 pp334 (Nat.le_of_ble_eq_true rfl) rfl (by decide) (by decide) ?_
                refine ev_iload_n rfl ?_
                refine ev_iload_n rfl ?_
                refine ev_icmpge f334_9 (fun c45432 => ?_) (fun c45432 => absurd c45432 (by omega))
                refine ev_iload_n rfl ?_
                refine ev_ret rfl (by decide) (by decide) ?_
                show jEv _ _ _ _ _ _ _ (_, [(2, 42), (0, a1), (0, v45348), (0, v45349), (0, v45350), (0, v45351), (0, v45349), j7, j8, j9], [(0, v45349)], _, _, _)
                refine ev_istore (L' := [(2, 42), (0, a1), (0, v45348), (0, v45349), (0, v45350), (0, v45351), (0, v45349), (0, v45349), j8, j9]) (Nat.le_of_ble_eq_true rfl) rfl ?_
                refine ev_iload rfl ?_
                refine ev_iload rfl ?_
                refine ev_icmpne f336_169 (fun c45433 => absurd c45433 (by omega)) (fun c45433 => ?_)
                refine ev_iload rfl ?_
                refine ev_i2l ?_
                refine ev_lconst ?_
                refine ev_iload_n rfl ?_
                refine ev_call (jcall_s (A := [(0, a1), (1, 1), (1, v45349)]) (S' := []) (by decide) rfl (Nat.le_of_ble_eq_true rfl)) (jOk_le (by decide) (s244 g1 (by omega) (by omega) (by omega) (by omega) (by omega) (by omega))) (by decide) (by decide) (fun w45434 h45434 q45434 => ?_)
                obtain ⟨v45435, rfl, lv45435, uv45435, g45434, kk45434⟩ := q45434
                have k45434 := k1.tr kk45434 (by decide)
                show jEv _ _ _ _ _ _ _ (_, [(2, 42), (0, a1), (0, v45348), (0, v45349), (0, v45350), (0, v45351), (0, v45349), (0, v45349), j8, j9], [(1, v45435)], _, _, _)
                refine g_l2iG (fun v45436 ev45436 lv45436 uv45436 => ?_)
                exact ev_ret rfl (by decide) (by decide) ⟨_, rfl, by omega, by omega, g45434, k45434⟩
        · refine ev_iload_n rfl ?_
          refine ev_goto f334_10 ?_
          refine ev_ret rfl (by decide) (by decide) ?_
          show jEv _ _ _ _ _ _ _ (_, [(2, 42), (0, a1), (0, v45348), (0, v45349), (0, v45350), (0, v45351), j6, j7, j8, j9], [(0, v45348)], _, _, _)
          refine ev_iload rfl ?_
          refine ev_iload rfl ?_
          refine ev_in (d := 1) (a := 0) (b := 0) (cd' := c334_0) (m := 2) (L0 := [(0, v45350), (0, v45351)]) (jcall_s (A := [(0, v45351), (0, v45350)]) (S' := [(0, v45348)]) (by decide) rfl (Nat.le_of_ble_eq_true rfl)) (by decide) ml334 pp334 (Nat.le_of_ble_eq_true rfl) rfl (by decide) (by decide) ?_
          refine ev_iload_n rfl ?_
          refine ev_iload_n rfl ?_
          refine ev_icmpge f334_9 (fun c45437 => ?_) (fun c45437 => ?_)
          · refine ev_iload_n rfl ?_
            refine ev_ret rfl (by decide) (by decide) ?_
            show jEv _ _ _ _ _ _ _ (_, [(2, 42), (0, a1), (0, v45348), (0, v45349), (0, v45350), (0, v45351), j6, j7, j8, j9], [(0, v45351), (0, v45348)], _, _, _)
            refine ev_in (d := 1) (a := 0) (b := 0) (cd' := c335_0) (m := 2) (L0 := [(0, v45348), (0, v45351)]) (jcall_s (A := [(0, v45351), (0, v45348)]) (S' := []) (by decide) rfl (Nat.le_of_ble_eq_true rfl)) (by decide) ml335 pp335 (Nat.le_of_ble_eq_true rfl) rfl (by decide) (by decide) ?_
            refine ev_iload_n rfl ?_
            refine ev_iload_n rfl ?_
            refine ev_icmple f335_9 (fun c45438 => ?_) (fun c45438 => ?_)
            · refine ev_iload_n rfl ?_
              refine ev_ret rfl (by decide) (by decide) ?_
              show jEv _ _ _ _ _ _ _ (_, [(2, 42), (0, a1), (0, v45348), (0, v45349), (0, v45350), (0, v45351), j6, j7, j8, j9], [(0, v45351)], _, _, _)
              refine ev_istore (L' := [(2, 42), (0, a1), (0, v45348), (0, v45349), (0, v45350), (0, v45351), (0, v45351), j7, j8, j9]) (Nat.le_of_ble_eq_true rfl) rfl ?_
              refine ev_iload_n rfl ?_
              refine ev_iload rfl ?_
              refine ev_in (d := 1) (a := 0) (b := 0) (cd' := c335_0) (m := 2) (L0 := [(0, v45348), (0, v45350)]) (jcall_s (A := [(0, v45350), (0, v45348)]) (S' := []) (by decide) rfl (Nat.le_of_ble_eq_true rfl)) (by decide) ml335 pp335 (Nat.le_of_ble_eq_true rfl) rfl (by decide) (by decide) ?_
              refine ev_iload_n rfl ?_
              refine ev_iload_n rfl ?_
              refine ev_icmple f335_9 (fun c45439 => ?_) (fun c45439 => absurd c45439 (by omega))
              refine ev_iload_n rfl ?_
              refine ev_ret rfl (by decide) (by decide) ?_
              show jEv _ _ _ _ _ _ _ (_, [(2, 42), (0, a1), (0, v45348), (0, v45349), (0, v45350), (0, v45351), (0, v45351), j7, j8, j9], [(0, v45350)], _, _, _)
              refine ev_iload_n rfl ?_
              refine ev_iload rfl ?_
              refine ev_in (d := 1) (a := 0) (b := 0) (cd' := c335_0) (m := 2) (L0 := [(0, v45349), (0, v45351)]) (jcall_s (A := [(0, v45351), (0, v45349)]) (S' := [(0, v45350)]) (by decide) rfl (Nat.le_of_ble_eq_true rfl)) (by decide) ml335 pp335 (Nat.le_of_ble_eq_true rfl) rfl (by decide) (by decide) ?_
              refine ev_iload_n rfl ?_
              refine ev_iload_n rfl ?_
              refine ev_icmple f335_9 (fun c45440 => ?_) (fun c45440 => ?_)
              · refine ev_iload_n rfl ?_
                refine ev_ret rfl (by decide) (by decide) ?_
                show jEv _ _ _ _ _ _ _ (_, [(2, 42), (0, a1), (0, v45348), (0, v45349), (0, v45350), (0, v45351), (0, v45351), j7, j8, j9], [(0, v45351), (0, v45350)], _, _, _)
                refine ev_in (d := 1) (a := 0) (b := 0) (cd' := c334_0) (m := 2) (L0 := [(0, v45350), (0, v45351)]) (jcall_s (A := [(0, v45351), (0, v45350)]) (S' := []) (by decide) rfl (Nat.le_of_ble_eq_true rfl)) (by decide) ml334 pp334 (Nat.le_of_ble_eq_true rfl) rfl (by decide) (by decide) ?_
                refine ev_iload_n rfl ?_
                refine ev_iload_n rfl ?_
                refine ev_icmpge f334_9 (fun c45441 => ?_) (fun c45441 => absurd c45441 (by omega))
                refine ev_iload_n rfl ?_
                refine ev_ret rfl (by decide) (by decide) ?_
                show jEv _ _ _ _ _ _ _ (_, [(2, 42), (0, a1), (0, v45348), (0, v45349), (0, v45350), (0, v45351), (0, v45351), j7, j8, j9], [(0, v45351)], _, _, _)
                refine ev_istore (L' := [(2, 42), (0, a1), (0, v45348), (0, v45349), (0, v45350), (0, v45351), (0, v45351), (0, v45351), j8, j9]) (Nat.le_of_ble_eq_true rfl) rfl ?_
                refine ev_iload rfl ?_
                refine ev_iload rfl ?_
                refine ev_icmpne f336_169 (fun c45442 => absurd c45442 (by omega)) (fun c45442 => ?_)
                refine ev_iload rfl ?_
                refine ev_i2l ?_
                refine ev_lconst ?_
                refine ev_iload_n rfl ?_
                refine ev_call (jcall_s (A := [(0, a1), (1, 1), (1, v45351)]) (S' := []) (by decide) rfl (Nat.le_of_ble_eq_true rfl)) (jOk_le (by decide) (s244 g1 (by omega) (by omega) (by omega) (by omega) (by omega) (by omega))) (by decide) (by decide) (fun w45443 h45443 q45443 => ?_)
                obtain ⟨v45444, rfl, lv45444, uv45444, g45443, kk45443⟩ := q45443
                have k45443 := k1.tr kk45443 (by decide)
                show jEv _ _ _ _ _ _ _ (_, [(2, 42), (0, a1), (0, v45348), (0, v45349), (0, v45350), (0, v45351), (0, v45351), (0, v45351), j8, j9], [(1, v45444)], _, _, _)
                refine g_l2iG (fun v45445 ev45445 lv45445 uv45445 => ?_)
                exact ev_ret rfl (by decide) (by decide) ⟨_, rfl, by omega, by omega, g45443, k45443⟩
              · refine ev_iload_n rfl ?_
                refine ev_goto f335_10 ?_
                refine ev_ret rfl (by decide) (by decide) ?_
                show jEv _ _ _ _ _ _ _ (_, [(2, 42), (0, a1), (0, v45348), (0, v45349), (0, v45350), (0, v45351), (0, v45351), j7, j8, j9], [(0, v45349), (0, v45350)], _, _, _)
                refine ev_in (d := 1) (a := 0) (b := 0) (cd' := c334_0) (m := 2) (L0 := [(0, v45350), (0, v45349)]) (jcall_s (A := [(0, v45349), (0, v45350)]) (S' := []) (by decide) rfl (Nat.le_of_ble_eq_true rfl)) (by decide) ml334 pp334 (Nat.le_of_ble_eq_true rfl) rfl (by decide) (by decide) ?_
                refine ev_iload_n rfl ?_
                refine ev_iload_n rfl ?_
                refine ev_icmpge f334_9 (fun c45446 => ?_) (fun c45446 => ?_)
                · refine ev_iload_n rfl ?_
                  refine ev_ret rfl (by decide) (by decide) ?_
                  show jEv _ _ _ _ _ _ _ (_, [(2, 42), (0, a1), (0, v45348), (0, v45349), (0, v45350), (0, v45351), (0, v45351), j7, j8, j9], [(0, v45349)], _, _, _)
                  refine ev_istore (L' := [(2, 42), (0, a1), (0, v45348), (0, v45349), (0, v45350), (0, v45351), (0, v45351), (0, v45349), j8, j9]) (Nat.le_of_ble_eq_true rfl) rfl ?_
                  refine ev_iload rfl ?_
                  refine ev_iload rfl ?_
                  refine ev_icmpne f336_169 (fun c45447 => ?_) (fun c45447 => absurd c45447 (by omega))
                  refine ev_iload_n rfl ?_
                  refine ev_iload rfl ?_
                  refine ev_iadd (r := (v45348 + v45351)) (by unfold w32; omega) ?_
                  refine ev_iload_n rfl ?_
                  refine ev_isub (r := (v45348 + (-v45349) + v45351)) (by unfold w32; omega) ?_
                  refine ev_iload rfl ?_
                  refine ev_isub (r := (v45348 + (-v45349) + (-v45350) + v45351)) (by unfold w32; omega) ?_
                  refine ev_istore (L' := [(2, 42), (0, a1), (0, v45348), (0, v45349), (0, v45350), (0, v45351), (0, v45351), (0, v45349), (0, (v45348 + (-v45349) + (-v45350) + v45351)), j9]) (Nat.le_of_ble_eq_true rfl) rfl ?_
                  refine ev_iload_n rfl ?_
                  refine ev_iload rfl ?_
                  refine g_imulG (fun v45448 ev45448 lv45448 uv45448 => ?_)
                  refine ev_iload_n rfl ?_
                  refine ev_iload rfl ?_
                  refine g_imulG (fun v45449 ev45449 lv45449 uv45449 => ?_)
                  refine g_isubG (fun v45450 ev45450 lv45450 uv45450 => ?_)
                  refine ev_istore (L' := [(2, 42), (0, a1), (0, v45348), (0, v45349), (0, v45350), (0, v45351), (0, v45351), (0, v45349), (0, (v45348 + (-v45349) + (-v45350) + v45351)), (0, v45450)]) (Nat.le_of_ble_eq_true rfl) rfl ?_
                  refine ev_iload rfl ?_
                  refine ev_ifle f336_209 (fun c45451 => ?_) (fun c45451 => absurd c45451 (by omega))
                  refine ev_iload rfl ?_
                  refine g_inegG (fun v45452 ev45452 lv45452 uv45452 => ?_)
                  refine ev_i2l ?_
                  refine ev_iload rfl ?_
                  refine ev_ineg (r := ((-v45348) + v45349 + v45350 + (-v45351))) (by unfold w32; omega) ?_
                  refine ev_i2l ?_
                  refine ev_iload_n rfl ?_
                  refine ev_call (jcall_s (A := [(0, a1), (1, ((-v45348) + v45349 + v45350 + (-v45351))), (1, v45452)]) (S' := []) (by decide) rfl (Nat.le_of_ble_eq_true rfl)) (jOk_le (by decide) (s244 g1 (by omega) (by omega) (by omega) (by omega) (by omega) (by omega))) (by decide) (by decide) (fun w45453 h45453 q45453 => ?_)
                  obtain ⟨v45454, rfl, lv45454, uv45454, g45453, kk45453⟩ := q45453
                  have k45453 := k1.tr kk45453 (by decide)
                  show jEv _ _ _ _ _ _ _ (_, [(2, 42), (0, a1), (0, v45348), (0, v45349), (0, v45350), (0, v45351), (0, v45351), (0, v45349), (0, (v45348 + (-v45349) + (-v45350) + v45351)), (0, v45450)], [(1, v45454)], _, _, _)
                  refine g_l2iG (fun v45455 ev45455 lv45455 uv45455 => ?_)
                  exact ev_ret rfl (by decide) (by decide) ⟨_, rfl, by omega, by omega, g45453, k45453⟩
                · refine ev_iload_n rfl ?_
                  refine ev_goto f334_10 ?_
                  refine ev_ret rfl (by decide) (by decide) ?_
                  show jEv _ _ _ _ _ _ _ (_, [(2, 42), (0, a1), (0, v45348), (0, v45349), (0, v45350), (0, v45351), (0, v45351), j7, j8, j9], [(0, v45350)], _, _, _)
                  refine ev_istore (L' := [(2, 42), (0, a1), (0, v45348), (0, v45349), (0, v45350), (0, v45351), (0, v45351), (0, v45350), j8, j9]) (Nat.le_of_ble_eq_true rfl) rfl ?_
                  refine ev_iload rfl ?_
                  refine ev_iload rfl ?_
                  refine ev_icmpne f336_169 (fun c45456 => ?_) (fun c45456 => ?_)
                  · refine ev_iload_n rfl ?_
                    refine ev_iload rfl ?_
                    refine ev_iadd (r := (v45348 + v45351)) (by unfold w32; omega) ?_
                    refine ev_iload_n rfl ?_
                    refine ev_isub (r := (v45348 + (-v45349) + v45351)) (by unfold w32; omega) ?_
                    refine ev_iload rfl ?_
                    refine ev_isub (r := (v45348 + (-v45349) + (-v45350) + v45351)) (by unfold w32; omega) ?_
                    refine ev_istore (L' := [(2, 42), (0, a1), (0, v45348), (0, v45349), (0, v45350), (0, v45351), (0, v45351), (0, v45350), (0, (v45348 + (-v45349) + (-v45350) + v45351)), j9]) (Nat.le_of_ble_eq_true rfl) rfl ?_
                    refine ev_iload_n rfl ?_
                    refine ev_iload rfl ?_
                    refine g_imulG (fun v45457 ev45457 lv45457 uv45457 => ?_)
                    refine ev_iload_n rfl ?_
                    refine ev_iload rfl ?_
                    refine g_imulG (fun v45458 ev45458 lv45458 uv45458 => ?_)
                    refine g_isubG (fun v45459 ev45459 lv45459 uv45459 => ?_)
                    refine ev_istore (L' := [(2, 42), (0, a1), (0, v45348), (0, v45349), (0, v45350), (0, v45351), (0, v45351), (0, v45350), (0, (v45348 + (-v45349) + (-v45350) + v45351)), (0, v45459)]) (Nat.le_of_ble_eq_true rfl) rfl ?_
                    refine ev_iload rfl ?_
                    refine ev_ifle f336_209 (fun c45460 => ?_) (fun c45460 => absurd c45460 (by omega))
                    refine ev_iload rfl ?_
                    refine g_inegG (fun v45461 ev45461 lv45461 uv45461 => ?_)
                    refine ev_i2l ?_
                    refine ev_iload rfl ?_
                    refine ev_ineg (r := ((-v45348) + v45349 + v45350 + (-v45351))) (by unfold w32; omega) ?_
                    refine ev_i2l ?_
                    refine ev_iload_n rfl ?_
                    refine ev_call (jcall_s (A := [(0, a1), (1, ((-v45348) + v45349 + v45350 + (-v45351))), (1, v45461)]) (S' := []) (by decide) rfl (Nat.le_of_ble_eq_true rfl)) (jOk_le (by decide) (s244 g1 (by omega) (by omega) (by omega) (by omega) (by omega) (by omega))) (by decide) (by decide) (fun w45462 h45462 q45462 => ?_)
                    obtain ⟨v45463, rfl, lv45463, uv45463, g45462, kk45462⟩ := q45462
                    have k45462 := k1.tr kk45462 (by decide)
                    show jEv _ _ _ _ _ _ _ (_, [(2, 42), (0, a1), (0, v45348), (0, v45349), (0, v45350), (0, v45351), (0, v45351), (0, v45350), (0, (v45348 + (-v45349) + (-v45350) + v45351)), (0, v45459)], [(1, v45463)], _, _, _)
                    refine g_l2iG (fun v45464 ev45464 lv45464 uv45464 => ?_)
                    exact ev_ret rfl (by decide) (by decide) ⟨_, rfl, by omega, by omega, g45462, k45462⟩
                  · refine ev_iload rfl ?_
                    refine ev_i2l ?_
                    refine ev_lconst ?_
                    refine ev_iload_n rfl ?_
                    refine ev_call (jcall_s (A := [(0, a1), (1, 1), (1, v45351)]) (S' := []) (by decide) rfl (Nat.le_of_ble_eq_true rfl)) (jOk_le (by decide) (s244 g1 (by omega) (by omega) (by omega) (by omega) (by omega) (by omega))) (by decide) (by decide) (fun w45465 h45465 q45465 => ?_)
                    obtain ⟨v45466, rfl, lv45466, uv45466, g45465, kk45465⟩ := q45465
                    have k45465 := k1.tr kk45465 (by decide)
                    show jEv _ _ _ _ _ _ _ (_, [(2, 42), (0, a1), (0, v45348), (0, v45349), (0, v45350), (0, v45351), (0, v45351), (0, v45350), j8, j9], [(1, v45466)], _, _, _)
                    refine g_l2iG (fun v45467 ev45467 lv45467 uv45467 => ?_)
                    exact ev_ret rfl (by decide) (by decide) ⟨_, rfl, by omega, by omega, g45465, k45465⟩
            · refine ev_iload_n rfl ?_
              refine ev_goto f335_10 ?_
              refine ev_ret rfl (by decide) (by decide) ?_
              show jEv _ _ _ _ _ _ _ (_, [(2, 42), (0, a1), (0, v45348), (0, v45349), (0, v45350), (0, v45351), j6, j7, j8, j9], [(0, v45348)], _, _, _)
              refine ev_istore (L' := [(2, 42), (0, a1), (0, v45348), (0, v45349), (0, v45350), (0, v45351), (0, v45348), j7, j8, j9]) (Nat.le_of_ble_eq_true rfl) rfl ?_
              refine ev_iload_n rfl ?_
              refine ev_iload rfl ?_
              refine ev_in (d := 1) (a := 0) (b := 0) (cd' := c335_0) (m := 2) (L0 := [(0, v45348), (0, v45350)]) (jcall_s (A := [(0, v45350), (0, v45348)]) (S' := []) (by decide) rfl (Nat.le_of_ble_eq_true rfl)) (by decide) ml335 pp335 (Nat.le_of_ble_eq_true rfl) rfl (by decide) (by decide) ?_
              refine ev_iload_n rfl ?_
              refine ev_iload_n rfl ?_
              refine ev_icmple f335_9 (fun c45468 => ?_) (fun c45468 => ?_)
              · refine ev_iload_n rfl ?_
                refine ev_ret rfl (by decide) (by decide) ?_
                show jEv _ _ _ _ _ _ _ (_, [(2, 42), (0, a1), (0, v45348), (0, v45349), (0, v45350), (0, v45351), (0, v45348), j7, j8, j9], [(0, v45350)], _, _, _)
                refine ev_iload_n rfl ?_
                refine ev_iload rfl ?_
                refine ev_in (d := 1) (a := 0) (b := 0) (cd' := c335_0) (m := 2) (L0 := [(0, v45349), (0, v45351)]) (jcall_s (A := [(0, v45351), (0, v45349)]) (S' := [(0, v45350)]) (by decide) rfl (Nat.le_of_ble_eq_true rfl)) (by decide) ml335 pp335 (Nat.le_of_ble_eq_true rfl) rfl (by decide) (by decide) ?_
                refine ev_iload_n rfl ?_
                refine ev_iload_n rfl ?_
                refine ev_icmple f335_9 (fun c45469 => absurd c45469 (by omega)) (fun c45469 => ?_)
                refine ev_iload_n rfl ?_
                refine ev_goto f335_10 ?_
                refine ev_ret rfl (by decide) (by decide) ?_
                show jEv _ _ _ _ _ _ _ (_, [(2, 42), (0, a1), (0, v45348), (0, v45349), (0, v45350), (0, v45351), (0, v45348), j7, j8, j9], [(0, v45349), (0, v45350)], _, _, _)
                refine ev_in (d := 1) (a := 0) (b := 0) (cd' := c334_0) (m := 2) (L0 := [(0, v45350), (0, v45349)]) (jcall_s (A := [(0, v45349), (0, v45350)]) (S' := []) (by decide) rfl (Nat.le_of_ble_eq_true rfl)) (by decide) ml334 pp334 (Nat.le_of_ble_eq_true rfl) rfl (by decide) (by decide) ?_
                refine ev_iload_n rfl ?_
                refine ev_iload_n rfl ?_
                refine ev_icmpge f334_9 (fun c45470 => ?_) (fun c45470 => ?_)
                · refine ev_iload_n rfl ?_
                  refine ev_ret rfl (by decide) (by decide) ?_
                  show jEv _ _ _ _ _ _ _ (_, [(2, 42), (0, a1), (0, v45348), (0, v45349), (0, v45350), (0, v45351), (0, v45348), j7, j8, j9], [(0, v45349)], _, _, _)
                  refine ev_istore (L' := [(2, 42), (0, a1), (0, v45348), (0, v45349), (0, v45350), (0, v45351), (0, v45348), (0, v45349), j8, j9]) (Nat.le_of_ble_eq_true rfl) rfl ?_
                  refine ev_iload rfl ?_
                  refine ev_iload rfl ?_
                  refine ev_icmpne f336_169 (fun c45471 => ?_) (fun c45471 => absurd c45471 (by omega))
                  refine ev_iload_n rfl ?_
                  refine ev_iload rfl ?_
                  refine ev_iadd (r := (v45348 + v45351)) (by unfold w32; omega) ?_
                  refine ev_iload_n rfl ?_
                  refine ev_isub (r := (v45348 + (-v45349) + v45351)) (by unfold w32; omega) ?_
                  refine ev_iload rfl ?_
                  refine ev_isub (r := (v45348 + (-v45349) + (-v45350) + v45351)) (by unfold w32; omega) ?_
                  refine ev_istore (L' := [(2, 42), (0, a1), (0, v45348), (0, v45349), (0, v45350), (0, v45351), (0, v45348), (0, v45349), (0, (v45348 + (-v45349) + (-v45350) + v45351)), j9]) (Nat.le_of_ble_eq_true rfl) rfl ?_
                  refine ev_iload_n rfl ?_
                  refine ev_iload rfl ?_
                  refine g_imulG (fun v45472 ev45472 lv45472 uv45472 => ?_)
                  refine ev_iload_n rfl ?_
                  refine ev_iload rfl ?_
                  refine g_imulG (fun v45473 ev45473 lv45473 uv45473 => ?_)
                  refine g_isubG (fun v45474 ev45474 lv45474 uv45474 => ?_)
                  refine ev_istore (L' := [(2, 42), (0, a1), (0, v45348), (0, v45349), (0, v45350), (0, v45351), (0, v45348), (0, v45349), (0, (v45348 + (-v45349) + (-v45350) + v45351)), (0, v45474)]) (Nat.le_of_ble_eq_true rfl) rfl ?_
                  refine ev_iload rfl ?_
                  refine ev_ifle f336_209 (fun c45475 => ?_) (fun c45475 => absurd c45475 (by omega))
                  refine ev_iload rfl ?_
                  refine g_inegG (fun v45476 ev45476 lv45476 uv45476 => ?_)
                  refine ev_i2l ?_
                  refine ev_iload rfl ?_
                  refine ev_ineg (r := ((-v45348) + v45349 + v45350 + (-v45351))) (by unfold w32; omega) ?_
                  refine ev_i2l ?_
                  refine ev_iload_n rfl ?_
                  refine ev_call (jcall_s (A := [(0, a1), (1, ((-v45348) + v45349 + v45350 + (-v45351))), (1, v45476)]) (S' := []) (by decide) rfl (Nat.le_of_ble_eq_true rfl)) (jOk_le (by decide) (s244 g1 (by omega) (by omega) (by omega) (by omega) (by omega) (by omega))) (by decide) (by decide) (fun w45477 h45477 q45477 => ?_)
                  obtain ⟨v45478, rfl, lv45478, uv45478, g45477, kk45477⟩ := q45477
                  have k45477 := k1.tr kk45477 (by decide)
                  show jEv _ _ _ _ _ _ _ (_, [(2, 42), (0, a1), (0, v45348), (0, v45349), (0, v45350), (0, v45351), (0, v45348), (0, v45349), (0, (v45348 + (-v45349) + (-v45350) + v45351)), (0, v45474)], [(1, v45478)], _, _, _)
                  refine g_l2iG (fun v45479 ev45479 lv45479 uv45479 => ?_)
                  exact ev_ret rfl (by decide) (by decide) ⟨_, rfl, by omega, by omega, g45477, k45477⟩
                · refine ev_iload_n rfl ?_
                  refine ev_goto f334_10 ?_
                  refine ev_ret rfl (by decide) (by decide) ?_
                  show jEv _ _ _ _ _ _ _ (_, [(2, 42), (0, a1), (0, v45348), (0, v45349), (0, v45350), (0, v45351), (0, v45348), j7, j8, j9], [(0, v45350)], _, _, _)
                  refine ev_istore (L' := [(2, 42), (0, a1), (0, v45348), (0, v45349), (0, v45350), (0, v45351), (0, v45348), (0, v45350), j8, j9]) (Nat.le_of_ble_eq_true rfl) rfl ?_
                  refine ev_iload rfl ?_
                  refine ev_iload rfl ?_
                  refine ev_icmpne f336_169 (fun c45480 => ?_) (fun c45480 => ?_)
                  · refine ev_iload_n rfl ?_
                    refine ev_iload rfl ?_
                    refine ev_iadd (r := (v45348 + v45351)) (by unfold w32; omega) ?_
                    refine ev_iload_n rfl ?_
                    refine ev_isub (r := (v45348 + (-v45349) + v45351)) (by unfold w32; omega) ?_
                    refine ev_iload rfl ?_
                    refine ev_isub (r := (v45348 + (-v45349) + (-v45350) + v45351)) (by unfold w32; omega) ?_
                    refine ev_istore (L' := [(2, 42), (0, a1), (0, v45348), (0, v45349), (0, v45350), (0, v45351), (0, v45348), (0, v45350), (0, (v45348 + (-v45349) + (-v45350) + v45351)), j9]) (Nat.le_of_ble_eq_true rfl) rfl ?_
                    refine ev_iload_n rfl ?_
                    refine ev_iload rfl ?_
                    refine g_imulG (fun v45481 ev45481 lv45481 uv45481 => ?_)
                    refine ev_iload_n rfl ?_
                    refine ev_iload rfl ?_
                    refine g_imulG (fun v45482 ev45482 lv45482 uv45482 => ?_)
                    refine g_isubG (fun v45483 ev45483 lv45483 uv45483 => ?_)
                    refine ev_istore (L' := [(2, 42), (0, a1), (0, v45348), (0, v45349), (0, v45350), (0, v45351), (0, v45348), (0, v45350), (0, (v45348 + (-v45349) + (-v45350) + v45351)), (0, v45483)]) (Nat.le_of_ble_eq_true rfl) rfl ?_
                    refine ev_iload rfl ?_
                    refine ev_ifle f336_209 (fun c45484 => ?_) (fun c45484 => absurd c45484 (by omega))
                    refine ev_iload rfl ?_
                    refine g_inegG (fun v45485 ev45485 lv45485 uv45485 => ?_)
                    refine ev_i2l ?_
                    refine ev_iload rfl ?_
                    refine ev_ineg (r := ((-v45348) + v45349 + v45350 + (-v45351))) (by unfold w32; omega) ?_
                    refine ev_i2l ?_
                    refine ev_iload_n rfl ?_
                    refine ev_call (jcall_s (A := [(0, a1), (1, ((-v45348) + v45349 + v45350 + (-v45351))), (1, v45485)]) (S' := []) (by decide) rfl (Nat.le_of_ble_eq_true rfl)) (jOk_le (by decide) (s244 g1 (by omega) (by omega) (by omega) (by omega) (by omega) (by omega))) (by decide) (by decide) (fun w45486 h45486 q45486 => ?_)
                    obtain ⟨v45487, rfl, lv45487, uv45487, g45486, kk45486⟩ := q45486
                    have k45486 := k1.tr kk45486 (by decide)
                    show jEv _ _ _ _ _ _ _ (_, [(2, 42), (0, a1), (0, v45348), (0, v45349), (0, v45350), (0, v45351), (0, v45348), (0, v45350), (0, (v45348 + (-v45349) + (-v45350) + v45351)), (0, v45483)], [(1, v45487)], _, _, _)
                    refine g_l2iG (fun v45488 ev45488 lv45488 uv45488 => ?_)
                    exact ev_ret rfl (by decide) (by decide) ⟨_, rfl, by omega, by omega, g45486, k45486⟩
                  · refine ev_iload rfl ?_
                    refine ev_i2l ?_
                    refine ev_lconst ?_
                    refine ev_iload_n rfl ?_
                    refine ev_call (jcall_s (A := [(0, a1), (1, 1), (1, v45348)]) (S' := []) (by decide) rfl (Nat.le_of_ble_eq_true rfl)) (jOk_le (by decide) (s244 g1 (by omega) (by omega) (by omega) (by omega) (by omega) (by omega))) (by decide) (by decide) (fun w45489 h45489 q45489 => ?_)
                    obtain ⟨v45490, rfl, lv45490, uv45490, g45489, kk45489⟩ := q45489
                    have k45489 := k1.tr kk45489 (by decide)
                    show jEv _ _ _ _ _ _ _ (_, [(2, 42), (0, a1), (0, v45348), (0, v45349), (0, v45350), (0, v45351), (0, v45348), (0, v45350), j8, j9], [(1, v45490)], _, _, _)
                    refine g_l2iG (fun v45491 ev45491 lv45491 uv45491 => ?_)
                    exact ev_ret rfl (by decide) (by decide) ⟨_, rfl, by omega, by omega, g45489, k45489⟩
              · refine ev_iload_n rfl ?_
                refine ev_goto f335_10 ?_
                refine ev_ret rfl (by decide) (by decide) ?_
                show jEv _ _ _ _ _ _ _ (_, [(2, 42), (0, a1), (0, v45348), (0, v45349), (0, v45350), (0, v45351), (0, v45348), j7, j8, j9], [(0, v45348)], _, _, _)
                refine ev_iload_n rfl ?_
                refine ev_iload rfl ?_
                refine ev_in (d := 1) (a := 0) (b := 0) (cd' := c335_0) (m := 2) (L0 := [(0, v45349), (0, v45351)]) (jcall_s (A := [(0, v45351), (0, v45349)]) (S' := [(0, v45348)]) (by decide) rfl (Nat.le_of_ble_eq_true rfl)) (by decide) ml335 pp335 (Nat.le_of_ble_eq_true rfl) rfl (by decide) (by decide) ?_
                refine ev_iload_n rfl ?_
                refine ev_iload_n rfl ?_
                refine ev_icmple f335_9 (fun c45492 => absurd c45492 (by omega)) (fun c45492 => ?_)
                refine ev_iload_n rfl ?_
                refine ev_goto f335_10 ?_
                refine ev_ret rfl (by decide) (by decide) ?_
                show jEv _ _ _ _ _ _ _ (_, [(2, 42), (0, a1), (0, v45348), (0, v45349), (0, v45350), (0, v45351), (0, v45348), j7, j8, j9], [(0, v45349), (0, v45348)], _, _, _)
                refine ev_in (d := 1) (a := 0) (b := 0) (cd' := c334_0) (m := 2) (L0 := [(0, v45348), (0, v45349)]) (jcall_s (A := [(0, v45349), (0, v45348)]) (S' := []) (by decide) rfl (Nat.le_of_ble_eq_true rfl)) (by decide) ml334 pp334 (Nat.le_of_ble_eq_true rfl) rfl (by decide) (by decide) ?_
                refine ev_iload_n rfl ?_
                refine ev_iload_n rfl ?_
                refine ev_icmpge f334_9 (fun c45493 => absurd c45493 (by omega)) (fun c45493 => ?_)
                refine ev_iload_n rfl ?_
                refine ev_goto f334_10 ?_
                refine ev_ret rfl (by decide) (by decide) ?_
                show jEv _ _ _ _ _ _ _ (_, [(2, 42), (0, a1), (0, v45348), (0, v45349), (0, v45350), (0, v45351), (0, v45348), j7, j8, j9], [(0, v45348)], _, _, _)
                refine ev_istore (L' := [(2, 42), (0, a1), (0, v45348), (0, v45349), (0, v45350), (0, v45351), (0, v45348), (0, v45348), j8, j9]) (Nat.le_of_ble_eq_true rfl) rfl ?_
                refine ev_iload rfl ?_
                refine ev_iload rfl ?_
                refine ev_icmpne f336_169 (fun c45494 => absurd c45494 (by omega)) (fun c45494 => ?_)
                refine ev_iload rfl ?_
                refine ev_i2l ?_
                refine ev_lconst ?_
                refine ev_iload_n rfl ?_
                refine ev_call (jcall_s (A := [(0, a1), (1, 1), (1, v45348)]) (S' := []) (by decide) rfl (Nat.le_of_ble_eq_true rfl)) (jOk_le (by decide) (s244 g1 (by omega) (by omega) (by omega) (by omega) (by omega) (by omega))) (by decide) (by decide) (fun w45495 h45495 q45495 => ?_)
                obtain ⟨v45496, rfl, lv45496, uv45496, g45495, kk45495⟩ := q45495
                have k45495 := k1.tr kk45495 (by decide)
                show jEv _ _ _ _ _ _ _ (_, [(2, 42), (0, a1), (0, v45348), (0, v45349), (0, v45350), (0, v45351), (0, v45348), (0, v45348), j8, j9], [(1, v45496)], _, _, _)
                refine g_l2iG (fun v45497 ev45497 lv45497 uv45497 => ?_)
                exact ev_ret rfl (by decide) (by decide) ⟨_, rfl, by omega, by omega, g45495, k45495⟩
          · refine ev_iload_n rfl ?_
            refine ev_goto f334_10 ?_
            refine ev_ret rfl (by decide) (by decide) ?_
            show jEv _ _ _ _ _ _ _ (_, [(2, 42), (0, a1), (0, v45348), (0, v45349), (0, v45350), (0, v45351), j6, j7, j8, j9], [(0, v45350), (0, v45348)], _, _, _)
            refine ev_in (d := 1) (a := 0) (b := 0) (cd' := c335_0) (m := 2) (L0 := [(0, v45348), (0, v45350)]) (jcall_s (A := [(0, v45350), (0, v45348)]) (S' := []) (by decide) rfl (Nat.le_of_ble_eq_true rfl)) (by decide) ml335 pp335 (Nat.le_of_ble_eq_true rfl) rfl (by decide) (by decide) ?_
            refine ev_iload_n rfl ?_
            refine ev_iload_n rfl ?_
            refine ev_icmple f335_9 (fun c45498 => ?_) (fun c45498 => ?_)
            · refine ev_iload_n rfl ?_
              refine ev_ret rfl (by decide) (by decide) ?_
              show jEv _ _ _ _ _ _ _ (_, [(2, 42), (0, a1), (0, v45348), (0, v45349), (0, v45350), (0, v45351), j6, j7, j8, j9], [(0, v45350)], _, _, _)
              refine ev_istore (L' := [(2, 42), (0, a1), (0, v45348), (0, v45349), (0, v45350), (0, v45351), (0, v45350), j7, j8, j9]) (Nat.le_of_ble_eq_true rfl) rfl ?_
              refine ev_iload_n rfl ?_
              refine ev_iload rfl ?_
              refine ev_in (d := 1) (a := 0) (b := 0) (cd' := c335_0) (m := 2) (L0 := [(0, v45348), (0, v45350)]) (jcall_s (A := [(0, v45350), (0, v45348)]) (S' := []) (by decide) rfl (Nat.le_of_ble_eq_true rfl)) (by decide) ml335 pp335 (Nat.le_of_ble_eq_true rfl) rfl (by decide) (by decide) ?_
              refine ev_iload_n rfl ?_
              refine ev_iload_n rfl ?_
              refine ev_icmple f335_9 (fun c45499 => ?_) (fun c45499 => absurd c45499 (by omega))
              refine ev_iload_n rfl ?_
              refine ev_ret rfl (by decide) (by decide) ?_
              show jEv _ _ _ _ _ _ _ (_, [(2, 42), (0, a1), (0, v45348), (0, v45349), (0, v45350), (0, v45351), (0, v45350), j7, j8, j9], [(0, v45350)], _, _, _)
              refine ev_iload_n rfl ?_
              refine ev_iload rfl ?_
              refine ev_in (d := 1) (a := 0) (b := 0) (cd' := c335_0) (m := 2) (L0 := [(0, v45349), (0, v45351)]) (jcall_s (A := [(0, v45351), (0, v45349)]) (S' := [(0, v45350)]) (by decide) rfl (Nat.le_of_ble_eq_true rfl)) (by decide) ml335 pp335 (Nat.le_of_ble_eq_true rfl) rfl (by decide) (by decide) ?_
              refine ev_iload_n rfl ?_
              refine ev_iload_n rfl ?_
              refine ev_icmple f335_9 (fun c45500 => ?_) (fun c45500 => ?_)
              · refine ev_iload_n rfl ?_
                refine ev_ret rfl (by decide) (by decide) ?_
                show jEv _ _ _ _ _ _ _ (_, [(2, 42), (0, a1), (0, v45348), (0, v45349), (0, v45350), (0, v45351), (0, v45350), j7, j8, j9], [(0, v45351), (0, v45350)], _, _, _)
                refine ev_in (d := 1) (a := 0) (b := 0) (cd' := c334_0) (m := 2) (L0 := [(0, v45350), (0, v45351)]) (jcall_s (A := [(0, v45351), (0, v45350)]) (S' := []) (by decide) rfl (Nat.le_of_ble_eq_true rfl)) (by decide) ml334 pp334 (Nat.le_of_ble_eq_true rfl) rfl (by decide) (by decide) ?_
                refine ev_iload_n rfl ?_
                refine ev_iload_n rfl ?_
                refine ev_icmpge f334_9 (fun c45501 => absurd c45501 (by omega)) (fun c45501 => ?_)
                refine ev_iload_n rfl ?_
                refine ev_goto f334_10 ?_
                refine ev_ret rfl (by decide) (by decide) ?_
                show jEv _ _ _ _ _ _ _ (_, [(2, 42), (0, a1), (0, v45348), (0, v45349), (0, v45350), (0, v45351), (0, v45350), j7, j8, j9], [(0, v45350)], _, _, _)
                refine ev_istore (L' := [(2, 42), (0, a1), (0, v45348), (0, v45349), (0, v45350), (0, v45351), (0, v45350), (0, v45350), j8, j9]) (Nat.le_of_ble_eq_true rfl) rfl ?_
                refine ev_iload rfl ?_
                refine ev_iload rfl ?_
                refine ev_icmpne f336_169 (fun c45502 => absurd c45502 (by omega)) (fun c45502 => ?_)
                refine ev_iload rfl ?_
                refine ev_i2l ?_
                refine ev_lconst ?_
                refine ev_iload_n rfl ?_
                refine ev_call (jcall_s (A := [(0, a1), (1, 1), (1, v45350)]) (S' := []) (by decide) rfl (Nat.le_of_ble_eq_true rfl)) (jOk_le (by decide) (s244 g1 (by omega) (by omega) (by omega) (by omega) (by omega) (by omega))) (by decide) (by decide) (fun w45503 h45503 q45503 => ?_)
                obtain ⟨v45504, rfl, lv45504, uv45504, g45503, kk45503⟩ := q45503
                have k45503 := k1.tr kk45503 (by decide)
                show jEv _ _ _ _ _ _ _ (_, [(2, 42), (0, a1), (0, v45348), (0, v45349), (0, v45350), (0, v45351), (0, v45350), (0, v45350), j8, j9], [(1, v45504)], _, _, _)
                refine g_l2iG (fun v45505 ev45505 lv45505 uv45505 => ?_)
                exact ev_ret rfl (by decide) (by decide) ⟨_, rfl, by omega, by omega, g45503, k45503⟩
              · refine ev_iload_n rfl ?_
                refine ev_goto f335_10 ?_
                refine ev_ret rfl (by decide) (by decide) ?_
                show jEv _ _ _ _ _ _ _ (_, [(2, 42), (0, a1), (0, v45348), (0, v45349), (0, v45350), (0, v45351), (0, v45350), j7, j8, j9], [(0, v45349), (0, v45350)], _, _, _)
                refine ev_in (d := 1) (a := 0) (b := 0) (cd' := c334_0) (m := 2) (L0 := [(0, v45350), (0, v45349)]) (jcall_s (A := [(0, v45349), (0, v45350)]) (S' := []) (by decide) rfl (Nat.le_of_ble_eq_true rfl)) (by decide) ml334 pp334 (Nat.le_of_ble_eq_true rfl) rfl (by decide) (by decide) ?_
                refine ev_iload_n rfl ?_
                refine ev_iload_n rfl ?_
                refine ev_icmpge f334_9 (fun c45506 => absurd c45506 (by omega)) (fun c45506 => ?_)
                refine ev_iload_n rfl ?_
                refine ev_goto f334_10 ?_
                refine ev_ret rfl (by decide) (by decide) ?_
                show jEv _ _ _ _ _ _ _ (_, [(2, 42), (0, a1), (0, v45348), (0, v45349), (0, v45350), (0, v45351), (0, v45350), j7, j8, j9], [(0, v45350)], _, _, _)
                refine ev_istore (L' := [(2, 42), (0, a1), (0, v45348), (0, v45349), (0, v45350), (0, v45351), (0, v45350), (0, v45350), j8, j9]) (Nat.le_of_ble_eq_true rfl) rfl ?_
                refine ev_iload rfl ?_
                refine ev_iload rfl ?_
                refine ev_icmpne f336_169 (fun c45507 => absurd c45507 (by omega)) (fun c45507 => ?_)
                refine ev_iload rfl ?_
                refine ev_i2l ?_
                refine ev_lconst ?_
                refine ev_iload_n rfl ?_
                refine ev_call (jcall_s (A := [(0, a1), (1, 1), (1, v45350)]) (S' := []) (by decide) rfl (Nat.le_of_ble_eq_true rfl)) (jOk_le (by decide) (s244 g1 (by omega) (by omega) (by omega) (by omega) (by omega) (by omega))) (by decide) (by decide) (fun w45508 h45508 q45508 => ?_)
                obtain ⟨v45509, rfl, lv45509, uv45509, g45508, kk45508⟩ := q45508
                have k45508 := k1.tr kk45508 (by decide)
                show jEv _ _ _ _ _ _ _ (_, [(2, 42), (0, a1), (0, v45348), (0, v45349), (0, v45350), (0, v45351), (0, v45350), (0, v45350), j8, j9], [(1, v45509)], _, _, _)
                refine g_l2iG (fun v45510 ev45510 lv45510 uv45510 => ?_)
                exact ev_ret rfl (by decide) (by decide) ⟨_, rfl, by omega, by omega, g45508, k45508⟩
            · refine ev_iload_n rfl ?_
              refine ev_goto f335_10 ?_
              refine ev_ret rfl (by decide) (by decide) ?_
              show jEv _ _ _ _ _ _ _ (_, [(2, 42), (0, a1), (0, v45348), (0, v45349), (0, v45350), (0, v45351), j6, j7, j8, j9], [(0, v45348)], _, _, _)
              refine ev_istore (L' := [(2, 42), (0, a1), (0, v45348), (0, v45349), (0, v45350), (0, v45351), (0, v45348), j7, j8, j9]) (Nat.le_of_ble_eq_true rfl) rfl ?_
              refine ev_iload_n rfl ?_
              refine ev_iload rfl ?_
              refine ev_in (d := 1) (a := 0) (b := 0) (cd' := c335_0) (m := 2) (L0 := [(0, v45348), (0, v45350)]) (jcall_s (A := [(0, v45350), (0, v45348)]) (S' := []) (by decide) rfl (Nat.le_of_ble_eq_true rfl)) (by decide) ml335 pp335 (Nat.le_of_ble_eq_true rfl) rfl (by decide) (by decide) ?_
              refine ev_iload_n rfl ?_
              refine ev_iload_n rfl ?_
              refine ev_icmple f335_9 (fun c45511 => absurd c45511 (by omega)) (fun c45511 => ?_)
              refine ev_iload_n rfl ?_
              refine ev_goto f335_10 ?_
              refine ev_ret rfl (by decide) (by decide) ?_
              show jEv _ _ _ _ _ _ _ (_, [(2, 42), (0, a1), (0, v45348), (0, v45349), (0, v45350), (0, v45351), (0, v45348), j7, j8, j9], [(0, v45348)], _, _, _)
              refine ev_iload_n rfl ?_
              refine ev_iload rfl ?_
              refine ev_in (d := 1) (a := 0) (b := 0) (cd' := c335_0) (m := 2) (L0 := [(0, v45349), (0, v45351)]) (jcall_s (A := [(0, v45351), (0, v45349)]) (S' := [(0, v45348)]) (by decide) rfl (Nat.le_of_ble_eq_true rfl)) (by decide) ml335 pp335 (Nat.le_of_ble_eq_true rfl) rfl (by decide) (by decide) ?_
              refine ev_iload_n rfl ?_
              refine ev_iload_n rfl ?_
              refine ev_icmple f335_9 (fun c45512 => ?_) (fun c45512 => ?_)
              · refine ev_iload_n rfl ?_
                refine ev_ret rfl (by decide) (by decide) ?_
                show jEv _ _ _ _ _ _ _ (_, [(2, 42), (0, a1), (0, v45348), (0, v45349), (0, v45350), (0, v45351), (0, v45348), j7, j8, j9], [(0, v45351), (0, v45348)], _, _, _)
                refine ev_in (d := 1) (a := 0) (b := 0) (cd' := c334_0) (m := 2) (L0 := [(0, v45348), (0, v45351)]) (jcall_s (A := [(0, v45351), (0, v45348)]) (S' := []) (by decide) rfl (Nat.le_of_ble_eq_true rfl)) (by decide) ml334 pp334 (Nat.le_of_ble_eq_true rfl) rfl (by decide) (by decide) ?_
                refine ev_iload_n rfl ?_
                refine ev_iload_n rfl ?_
                refine ev_icmpge f334_9 (fun c45513 => absurd c45513 (by omega)) (fun c45513 => ?_)
                refine ev_iload_n rfl ?_
                refine ev_goto f334_10 ?_
                refine ev_ret rfl (by decide) (by decide) ?_
                show jEv _ _ _ _ _ _ _ (_, [(2, 42), (0, a1), (0, v45348), (0, v45349), (0, v45350), (0, v45351), (0, v45348), j7, j8, j9], [(0, v45348)], _, _, _)
                refine ev_istore (L' := [(2, 42), (0, a1), (0, v45348), (0, v45349), (0, v45350), (0, v45351), (0, v45348), (0, v45348), j8, j9]) (Nat.le_of_ble_eq_true rfl) rfl ?_
                refine ev_iload rfl ?_
                refine ev_iload rfl ?_
                refine ev_icmpne f336_169 (fun c45514 => absurd c45514 (by omega)) (fun c45514 => ?_)
                refine ev_iload rfl ?_
                refine ev_i2l ?_
                refine ev_lconst ?_
                refine ev_iload_n rfl ?_
                refine ev_call (jcall_s (A := [(0, a1), (1, 1), (1, v45348)]) (S' := []) (by decide) rfl (Nat.le_of_ble_eq_true rfl)) (jOk_le (by decide) (s244 g1 (by omega) (by omega) (by omega) (by omega) (by omega) (by omega))) (by decide) (by decide) (fun w45515 h45515 q45515 => ?_)
                obtain ⟨v45516, rfl, lv45516, uv45516, g45515, kk45515⟩ := q45515
                have k45515 := k1.tr kk45515 (by decide)
                show jEv _ _ _ _ _ _ _ (_, [(2, 42), (0, a1), (0, v45348), (0, v45349), (0, v45350), (0, v45351), (0, v45348), (0, v45348), j8, j9], [(1, v45516)], _, _, _)
                refine g_l2iG (fun v45517 ev45517 lv45517 uv45517 => ?_)
                exact ev_ret rfl (by decide) (by decide) ⟨_, rfl, by omega, by omega, g45515, k45515⟩
              · refine ev_iload_n rfl ?_
                refine ev_goto f335_10 ?_
                refine ev_ret rfl (by decide) (by decide) ?_
                show jEv _ _ _ _ _ _ _ (_, [(2, 42), (0, a1), (0, v45348), (0, v45349), (0, v45350), (0, v45351), (0, v45348), j7, j8, j9], [(0, v45349), (0, v45348)], _, _, _)
                refine ev_in (d := 1) (a := 0) (b := 0) (cd' := c334_0) (m := 2) (L0 := [(0, v45348), (0, v45349)]) (jcall_s (A := [(0, v45349), (0, v45348)]) (S' := []) (by decide) rfl (Nat.le_of_ble_eq_true rfl)) (by decide) ml334 pp334 (Nat.le_of_ble_eq_true rfl) rfl (by decide) (by decide) ?_
                refine ev_iload_n rfl ?_
                refine ev_iload_n rfl ?_
                refine ev_icmpge f334_9 (fun c45518 => absurd c45518 (by omega)) (fun c45518 => ?_)
                refine ev_iload_n rfl ?_
                refine ev_goto f334_10 ?_
                refine ev_ret rfl (by decide) (by decide) ?_
                show jEv _ _ _ _ _ _ _ (_, [(2, 42), (0, a1), (0, v45348), (0, v45349), (0, v45350), (0, v45351), (0, v45348), j7, j8, j9], [(0, v45348)], _, _, _)
                refine ev_istore (L' := [(2, 42), (0, a1), (0, v45348), (0, v45349), (0, v45350), (0, v45351), (0, v45348), (0, v45348), j8, j9]) (Nat.le_of_ble_eq_true rfl) rfl ?_
                refine ev_iload rfl ?_
                refine ev_iload rfl ?_
                refine ev_icmpne f336_169 (fun c45519 => absurd c45519 (by omega)) (fun c45519 => ?_)
                refine ev_iload rfl ?_
                refine ev_i2l ?_
                refine ev_lconst ?_
                refine ev_iload_n rfl ?_
                refine ev_call (jcall_s (A := [(0, a1), (1, 1), (1, v45348)]) (S' := []) (by decide) rfl (Nat.le_of_ble_eq_true rfl)) (jOk_le (by decide) (s244 g1 (by omega) (by omega) (by omega) (by omega) (by omega) (by omega))) (by decide) (by decide) (fun w45520 h45520 q45520 => ?_)
                obtain ⟨v45521, rfl, lv45521, uv45521, g45520, kk45520⟩ := q45520
                have k45520 := k1.tr kk45520 (by decide)
                show jEv _ _ _ _ _ _ _ (_, [(2, 42), (0, a1), (0, v45348), (0, v45349), (0, v45350), (0, v45351), (0, v45348), (0, v45348), j8, j9], [(1, v45521)], _, _, _)
                refine g_l2iG (fun v45522 ev45522 lv45522 uv45522 => ?_)
                exact ev_ret rfl (by decide) (by decide) ⟨_, rfl, by omega, by omega, g45520, k45520⟩
      · refine ev_iconst ?_
        refine ev_istore_n (L' := [(2, 42), (0, a1), (0, x2), (0, 0), j4, j5, j6, j7, j8, j9]) (Nat.le_of_ble_eq_true rfl) rfl ?_
        exact ih.2 _ _ _ _ _ _ _ _ _ g1 k1 (by omega) (by omega) (by omega) (by omega) (by omega) (by omega) (by omega)
    · intro h1 x2 x3 j4 j5 j6 j7 j8 j9 g1 k1 b0 b1 b2 b3 b4 b5 hm
      refine ev_iload_n rfl ?_
      refine ev_iconst ?_
      refine ev_icmpge f336_82 (fun c45523 => ?_) (fun c45523 => ?_)
      · refine ev_iinc (w := (x2 + 1)) (L' := [(2, 42), (0, a1), (0, (x2 + 1)), (0, x3), j4, j5, j6, j7, j8, j9]) rfl (by unfold w32; omega) rfl ?_
        refine ev_goto f336_34 ?_
        exact ih.1 _ _ _ _ _ _ _ _ _ g1 k1 (by omega) (by omega) (by omega) (by omega) (by omega)
      · refine ev_aload_n rfl ?_
        refine g_getp (r := 42) (c := 67) g1 ad42 (by decide) (by decide) rf42_46 ft12_46 ?_
        refine ev_iconst ?_
        refine ev_iload_n rfl ?_
        refine ev_imul (r := (4 * x2)) (by unfold w32; omega) ?_
        refine ev_iload_n rfl ?_
        refine ev_iadd (r := (4 * x2 + x3)) (by unfold w32; omega) ?_
        refine g_iald g1 ad67 rt67 (by omega) (by omega) (fun v45524 ev45524 lv45524 uv45524 => ?_)
        refine ev_aload_n rfl ?_
        refine g_getp (r := 42) (c := 67) g1 ad42 (by decide) (by decide) rf42_46 ft12_46 ?_
        refine ev_bipush ?_
        refine ev_iconst ?_
        refine ev_iload_n rfl ?_
        refine ev_imul (r := (4 * x2)) (by unfold w32; omega) ?_
        refine ev_iadd (r := (4 * x2 + 16)) (by unfold w32; omega) ?_
        refine ev_iload_n rfl ?_
        refine ev_iadd (r := (4 * x2 + x3 + 16)) (by unfold w32; omega) ?_
        refine g_iald g1 ad67 rt67 (by omega) (by omega) (fun v45525 ev45525 lv45525 uv45525 => ?_)
        refine ev_ineg (r := ((-v45525))) (by unfold w32; omega) ?_
        refine ev_icmpeq f336_76 (fun c45526 => ?_) (fun c45526 => ?_)
        · refine ev_iinc (w := (x3 + 1)) (L' := [(2, 42), (0, a1), (0, x2), (0, (x3 + 1)), j4, j5, j6, j7, j8, j9]) rfl (by unfold w32; omega) rfl ?_
          refine ev_goto f336_41 ?_
          exact ih.2 _ _ _ _ _ _ _ _ _ g1 k1 (by omega) (by omega) (by omega) (by omega) (by omega) (by omega) (by omega)
        · refine ev_bipush ?_
          exact ev_ret rfl (by decide) (by decide) ⟨_, rfl, by omega, by omega, g1, k1⟩
set_option maxHeartbeats 4000000 in
theorem s336 {G : GH} {h : JH} (g : Gd G h) {a1 : Int} (la1 : (-2147483648) ≤ a1) (ua1 : a1 ≤ 2147483647) : jOk 3 0 0 336 [(2, 42), (0, a1)] h (PI G [] h 0 (-2147483648) 2147483647) := by
  refine ⟨by decide, by rw [ml336]; exact Nat.le_of_ble_eq_true rfl, ?_⟩
  rw [ml336, pp336]
  show jEv _ none _ c336_0 0 0 _ (c336_0, [(2, 42), (0, a1), (9, 0), (9, 0), (9, 0), (9, 0), (9, 0), (9, 0), (9, 0), (9, 0)], [], h, 0, 0)
  have k0 := Kp.rf [] h
  refine ev_iload_n rfl ?_
  refine ev_iconst ?_
  refine ev_iconst ?_
  refine ev_in (d := 1) (a := 0) (b := 0) (cd' := c242_0) (m := 3) (L0 := [(0, a1), (0, 0), (0, 1)]) (jcall_s (A := [(0, 1), (0, 0), (0, a1)]) (S' := []) (by decide) rfl (Nat.le_of_ble_eq_true rfl)) (by decide) ml242 pp242 (Nat.le_of_ble_eq_true rfl) rfl (by decide) (by decide) ?_
  refine ev_iload_n rfl ?_
  refine ev_iload_n rfl ?_
  refine ev_icmplt f242_14 (fun c45527 => ?_) (fun c45527 => ?_)
  · refine ev_iconst ?_
    refine ev_ret rfl (by decide) (by decide) ?_
    show jEv _ _ _ _ _ _ _ (_, [(2, 42), (0, a1), (9, 0), (9, 0), (9, 0), (9, 0), (9, 0), (9, 0), (9, 0), (9, 0)], [(0, 0)], _, _, _)
    refine ev_ifne f336_13 (fun c45528 => absurd c45528 (by omega)) (fun c45528 => ?_)
    refine ev_ldc_w ?_
    exact ev_ret rfl (by decide) (by decide) ⟨_, rfl, by omega, by omega, g, k0⟩
  · refine ev_iload_n rfl ?_
    refine ev_iload_n rfl ?_
    refine ev_icmpgt f242_14 (fun c45529 => ?_) (fun c45529 => ?_)
    · refine ev_iconst ?_
      refine ev_ret rfl (by decide) (by decide) ?_
      show jEv _ _ _ _ _ _ _ (_, [(2, 42), (0, a1), (9, 0), (9, 0), (9, 0), (9, 0), (9, 0), (9, 0), (9, 0), (9, 0)], [(0, 0)], _, _, _)
      refine ev_ifne f336_13 (fun c45530 => absurd c45530 (by omega)) (fun c45530 => ?_)
      refine ev_ldc_w ?_
      exact ev_ret rfl (by decide) (by decide) ⟨_, rfl, by omega, by omega, g, k0⟩
    · refine ev_iconst ?_
      refine ev_goto f242_15 ?_
      refine ev_ret rfl (by decide) (by decide) ?_
      show jEv _ _ _ _ _ _ _ (_, [(2, 42), (0, a1), (9, 0), (9, 0), (9, 0), (9, 0), (9, 0), (9, 0), (9, 0), (9, 0)], [(0, 1)], _, _, _)
      refine ev_ifne f336_13 (fun c45531 => ?_) (fun c45531 => absurd c45531 (by omega))
      refine ev_aload_n rfl ?_
      obtain ⟨v45532, ev45532, lv45532, uv45532⟩ := g.rd ad42 (show 44 < 66 by decide) rf42_44
      refine g_getv (r := 42) (v := v45532) g ad42 (by decide) ft12_44 ev45532 ?_
      refine ev_iconst ?_
      refine ev_icmpne f336_29 (fun c45533 => ?_) (fun c45533 => ?_)
      · refine ev_bipush ?_
        exact ev_ret rfl (by decide) (by decide) ⟨_, rfl, by omega, by omega, g, k0⟩
      · refine ev_aload_n rfl ?_
        obtain ⟨v45534, ev45534, lv45534, uv45534⟩ := g.rd ad42 (show 45 < 66 by decide) rf42_45
        refine g_getv (r := 42) (v := v45534) g ad42 (by decide) ft12_45 ev45534 ?_
        refine ev_iconst ?_
        refine ev_icmpeq f336_32 (fun c45535 => ?_) (fun c45535 => ?_)
        · refine ev_iconst ?_
          refine ev_istore_n (L' := [(2, 42), (0, a1), (0, 0), (9, 0), (9, 0), (9, 0), (9, 0), (9, 0), (9, 0), (9, 0)]) (Nat.le_of_ble_eq_true rfl) rfl ?_
          exact (s336_l la1 ua1 36).1 _ _ _ _ _ _ _ _ _ g k0 (by omega) (by omega) (by omega) (by omega) (by omega)
        · refine ev_bipush ?_
          exact ev_ret rfl (by decide) (by decide) ⟨_, rfl, by omega, by omega, g, k0⟩
/-! 330 table -/
set_option maxHeartbeats 4000000 in
theorem s330_l {G : GH} {h : JH} {a1 : Int} (la1 : (-2147483648) ≤ a1) (ua1 : a1 ≤ 2147483647) {a2 : Int} (la2 : (-2147483648) ≤ a2) (ua2 : a2 ≤ 2147483647) : ∀ N : Nat, (∀ (h1 : JH) (x3 : Int), Gd G h1 → Kp [(42, 45), (42, 46), (67, 0)] h h1 → 1 ≤ a1 → a1 ≤ 4 → 1 ≤ a2 → a2 ≤ 4 → 0 ≤ x3 → x3 ≤ 32 → ((-x3) + 32) < N → jEv (jOk 1) none (fun _ => 0) c330_0 0 0 (PI G [(42, 45), (42, 46), (67, 0)] h 0 (-1) 16) (c330_32, [(2, 42), (0, a1), (0, a2), (0, x3)], [], h1, 0, 0)) := by
  intro N
  induction N with
  | zero => exact fun h1 x3 g1 k1 b0 b1 b2 b3 b4 b5 hm => absurd hm (by omega)
  | succ N ih =>
    show _
    intro h1 x3 g1 k1 b0 b1 b2 b3 b4 b5 hm
    refine ev_iload_n rfl ?_
    refine ev_bipush ?_
    refine ev_icmpge f330_51 (fun c45608 => ?_) (fun c45608 => ?_)
    · refine ev_iload_n rfl ?_
      refine ev_iload_n rfl ?_
      refine g_imulB (a := 4) (b := 4) (a' := 1) (b' := 1) (by omega) (by omega) (by omega) (by omega) (by decide) (lo := 1) (hi := 16) (by decide) (by decide) (fun v45609 ev45609 lv45609 uv45609 => ?_)
      exact ev_ret rfl (by decide) (by decide) ⟨_, rfl, by omega, by omega, g1, k1⟩
    · refine ev_aload_n rfl ?_
      refine g_getp (r := 42) (c := 67) g1 ad42 (by decide) (by decide) rf42_46 ft12_46 ?_
      refine ev_iload_n rfl ?_
      refine ev_iconst ?_
      refine g_iast g1 ad67 rt67 (fun _ => rfl) (by omega) (by omega) (by omega) (by omega) (fun h45610 e45610 g45610 => ?_)
      have k45610 := k1.wr e45610 rfl
      refine ev_iinc (w := (x3 + 1)) (L' := [(2, 42), (0, a1), (0, a2), (0, (x3 + 1))]) rfl (by unfold w32; omega) rfl ?_
      refine ev_goto f330_32 ?_
      exact ih _ _ g45610 k45610 (by omega) (by omega) (by omega) (by omega) (by omega) (by omega) (by omega)
set_option maxHeartbeats 4000000 in
theorem s330 {G : GH} {h : JH} (g : Gd G h) {a1 : Int} (la1 : (-2147483648) ≤ a1) (ua1 : a1 ≤ 2147483647) {a2 : Int} (la2 : (-2147483648) ≤ a2) (ua2 : a2 ≤ 2147483647) : jOk 2 0 0 330 [(2, 42), (0, a1), (0, a2)] h (PI G [(42, 45), (42, 46), (67, 0)] h 0 (-1) 16) := by
  refine ⟨by decide, by rw [ml330]; exact Nat.le_of_ble_eq_true rfl, ?_⟩
  rw [ml330, pp330]
  show jEv _ none _ c330_0 0 0 _ (c330_0, [(2, 42), (0, a1), (0, a2), (9, 0)], [], h, 0, 0)
  have k0 := Kp.rf [(42, 45), (42, 46), (67, 0)] h
  refine ev_iload_n rfl ?_
  refine ev_iconst ?_
  refine ev_iconst ?_
  refine ev_in (d := 0) (a := 0) (b := 0) (cd' := c242_0) (m := 3) (L0 := [(0, a1), (0, 1), (0, 4)]) (jcall_s (A := [(0, 4), (0, 1), (0, a1)]) (S' := []) (by decide) rfl (Nat.le_of_ble_eq_true rfl)) (by decide) ml242 pp242 (Nat.le_of_ble_eq_true rfl) rfl (by decide) (by decide) ?_
  refine ev_iload_n rfl ?_
  refine ev_iload_n rfl ?_
  refine ev_icmplt f242_14 (fun c45611 => ?_) (fun c45611 => ?_)
  · refine ev_iconst ?_
    refine ev_ret rfl (by decide) (by decide) ?_
    show jEv _ _ _ _ _ _ _ (_, [(2, 42), (0, a1), (0, a2), (9, 0)], [(0, 0)], _, _, _)
    refine ev_ifeq f330_18 (fun c45612 => ?_) (fun c45612 => absurd c45612 (by omega))
    refine ev_iconst ?_
    exact ev_ret rfl (by decide) (by decide) ⟨_, rfl, by omega, by omega, g, k0⟩
  · refine ev_iload_n rfl ?_
    refine ev_iload_n rfl ?_
    refine ev_icmpgt f242_14 (fun c45613 => ?_) (fun c45613 => ?_)
    · refine ev_iconst ?_
      refine ev_ret rfl (by decide) (by decide) ?_
      show jEv _ _ _ _ _ _ _ (_, [(2, 42), (0, a1), (0, a2), (9, 0)], [(0, 0)], _, _, _)
      refine ev_ifeq f330_18 (fun c45614 => ?_) (fun c45614 => absurd c45614 (by omega))
      refine ev_iconst ?_
      exact ev_ret rfl (by decide) (by decide) ⟨_, rfl, by omega, by omega, g, k0⟩
    · refine ev_iconst ?_
      refine ev_goto f242_15 ?_
      refine ev_ret rfl (by decide) (by decide) ?_
      show jEv _ _ _ _ _ _ _ (_, [(2, 42), (0, a1), (0, a2), (9, 0)], [(0, 1)], _, _, _)
      refine ev_ifeq f330_18 (fun c45615 => absurd c45615 (by omega)) (fun c45615 => ?_)
      refine ev_iload_n rfl ?_
      refine ev_iconst ?_
      refine ev_iconst ?_
      refine ev_in (d := 0) (a := 0) (b := 0) (cd' := c242_0) (m := 3) (L0 := [(0, a2), (0, 1), (0, 4)]) (jcall_s (A := [(0, 4), (0, 1), (0, a2)]) (S' := []) (by decide) rfl (Nat.le_of_ble_eq_true rfl)) (by decide) ml242 pp242 (Nat.le_of_ble_eq_true rfl) rfl (by decide) (by decide) ?_
      refine ev_iload_n rfl ?_
      refine ev_iload_n rfl ?_
      refine ev_icmplt f242_14 (fun c45616 => ?_) (fun c45616 => ?_)
      · refine ev_iconst ?_
        refine ev_ret rfl (by decide) (by decide) ?_
        show jEv _ _ _ _ _ _ _ (_, [(2, 42), (0, a1), (0, a2), (9, 0)], [(0, 0)], _, _, _)
        refine ev_ifne f330_20 (fun c45617 => absurd c45617 (by omega)) (fun c45617 => ?_)
        refine ev_iconst ?_
        exact ev_ret rfl (by decide) (by decide) ⟨_, rfl, by omega, by omega, g, k0⟩
      · refine ev_iload_n rfl ?_
        refine ev_iload_n rfl ?_
        refine ev_icmpgt f242_14 (fun c45618 => ?_) (fun c45618 => ?_)
        · refine ev_iconst ?_
          refine ev_ret rfl (by decide) (by decide) ?_
          show jEv _ _ _ _ _ _ _ (_, [(2, 42), (0, a1), (0, a2), (9, 0)], [(0, 0)], _, _, _)
          refine ev_ifne f330_20 (fun c45619 => absurd c45619 (by omega)) (fun c45619 => ?_)
          refine ev_iconst ?_
          exact ev_ret rfl (by decide) (by decide) ⟨_, rfl, by omega, by omega, g, k0⟩
        · refine ev_iconst ?_
          refine ev_goto f242_15 ?_
          refine ev_ret rfl (by decide) (by decide) ?_
          show jEv _ _ _ _ _ _ _ (_, [(2, 42), (0, a1), (0, a2), (9, 0)], [(0, 1)], _, _, _)
          refine ev_ifne f330_20 (fun c45620 => ?_) (fun c45620 => absurd c45620 (by omega))
          refine ev_aload_n rfl ?_
          refine ev_iload_n rfl ?_
          refine g_putf (r := 42) g ad42 (by decide) ft12_44 (by decide) (fun e => absurd e nz12_44) rf42_44 (by decide) (by omega) (by omega) (fun h45621 e45621 g45621 => ?_)
          have k45621 := k0.wr e45621 rfl
          refine ev_aload_n rfl ?_
          refine ev_iload_n rfl ?_
          refine g_putf (r := 42) g45621 ad42 (by decide) ft12_45 (by decide) (fun e => absurd e nz12_45) rf42_45 (by decide) (by omega) (by omega) (fun h45622 e45622 g45622 => ?_)
          have k45622 := k45621.wr e45622 rfl
          refine ev_iconst ?_
          refine ev_istore_n (L' := [(2, 42), (0, a1), (0, a2), (0, 0)]) (Nat.le_of_ble_eq_true rfl) rfl ?_
          exact (s330_l la1 ua1 la2 ua2 66) _ _ g45622 k45622 (by omega) (by omega) (by omega) (by omega) (by omega) (by omega) (by omega)
/-! 331 cell -/
set_option maxHeartbeats 4000000 in
theorem s331 {G : GH} {h : JH} (g : Gd G h) {a1 : Int} (la1 : (-2147483648) ≤ a1) (ua1 : a1 ≤ 2147483647) {a2 : Int} (la2 : (-2147483648) ≤ a2) (ua2 : a2 ≤ 2147483647) {a3 : Int} (la3 : (-2147483648) ≤ a3) (ua3 : a3 ≤ 2147483647) : jOk 2 0 0 331 [(2, 42), (0, a1), (0, a2), (0, a3)] h (PI G [(67, 0)] h 0 (-2000000000) 99) := by
  refine ⟨by decide, by rw [ml331]; exact Nat.le_of_ble_eq_true rfl, ?_⟩
  rw [ml331, pp331]
  show jEv _ none _ c331_0 0 0 _ (c331_0, [(2, 42), (0, a1), (0, a2), (0, a3), (9, 0), (9, 0)], [], h, 0, 0)
  have k0 := Kp.rf [(67, 0)] h
  refine ev_iload_n rfl ?_
  refine ev_iflt f331_46 (fun c45665 => ?_) (fun c45665 => ?_)
  · refine ev_ldc_w ?_
    exact ev_ret rfl (by decide) (by decide) ⟨_, rfl, by omega, by omega, g, k0⟩
  · refine ev_iload_n rfl ?_
    refine ev_bipush ?_
    refine g_idivP (c := 10) rfl (by decide) (by omega) (by omega) (fun v45666 ev45666 lv45666 uv45666 => ?_)
    refine ev_aload_n rfl ?_
    obtain ⟨v45667, ev45667, lv45667, uv45667⟩ := g.rd ad42 (show 44 < 66 by decide) rf42_44
    refine g_getv (r := 42) (v := v45667) g ad42 (by decide) ft12_44 ev45667 ?_
    refine ev_icmpge f331_46 (fun c45668 => ?_) (fun c45668 => ?_)
    · refine ev_ldc_w ?_
      exact ev_ret rfl (by decide) (by decide) ⟨_, rfl, by omega, by omega, g, k0⟩
    · refine ev_iload_n rfl ?_
      refine ev_bipush ?_
      refine g_iremP (c := 10) rfl (by decide) (by omega) (fun v45669 ev45669 lv45669 uv45669 wv45669 => ?_)
      refine ev_aload_n rfl ?_
      obtain ⟨v45670, ev45670, lv45670, uv45670⟩ := g.rd ad42 (show 45 < 66 by decide) rf42_45
      refine g_getv (r := 42) (v := v45670) g ad42 (by decide) ft12_45 ev45670 ?_
      refine ev_icmpge f331_46 (fun c45671 => ?_) (fun c45671 => ?_)
      · refine ev_ldc_w ?_
        exact ev_ret rfl (by decide) (by decide) ⟨_, rfl, by omega, by omega, g, k0⟩
      · refine ev_iload_n rfl ?_
        refine ev_iconst ?_
        refine ev_iconst ?_
        refine ev_in (d := 0) (a := 0) (b := 0) (cd' := c242_0) (m := 3) (L0 := [(0, a2), (0, 0), (0, 1)]) (jcall_s (A := [(0, 1), (0, 0), (0, a2)]) (S' := []) (by decide) rfl (Nat.le_of_ble_eq_true rfl)) (by decide) ml242 pp242 (Nat.le_of_ble_eq_true rfl) rfl (by decide) (by decide) ?_
        refine ev_iload_n rfl ?_
        refine ev_iload_n rfl ?_
        refine ev_icmplt f242_14 (fun c45672 => ?_) (fun c45672 => ?_)
        · refine ev_iconst ?_
          refine ev_ret rfl (by decide) (by decide) ?_
          show jEv _ _ _ _ _ _ _ (_, [(2, 42), (0, a1), (0, a2), (0, a3), (9, 0), (9, 0)], [(0, 0)], _, _, _)
          refine ev_ifeq f331_46 (fun c45673 => ?_) (fun c45673 => absurd c45673 (by omega))
          refine ev_ldc_w ?_
          exact ev_ret rfl (by decide) (by decide) ⟨_, rfl, by omega, by omega, g, k0⟩
        · refine ev_iload_n rfl ?_
          refine ev_iload_n rfl ?_
          refine ev_icmpgt f242_14 (fun c45674 => ?_) (fun c45674 => ?_)
          · refine ev_iconst ?_
            refine ev_ret rfl (by decide) (by decide) ?_
            show jEv _ _ _ _ _ _ _ (_, [(2, 42), (0, a1), (0, a2), (0, a3), (9, 0), (9, 0)], [(0, 0)], _, _, _)
            refine ev_ifeq f331_46 (fun c45675 => ?_) (fun c45675 => absurd c45675 (by omega))
            refine ev_ldc_w ?_
            exact ev_ret rfl (by decide) (by decide) ⟨_, rfl, by omega, by omega, g, k0⟩
          · refine ev_iconst ?_
            refine ev_goto f242_15 ?_
            refine ev_ret rfl (by decide) (by decide) ?_
            show jEv _ _ _ _ _ _ _ (_, [(2, 42), (0, a1), (0, a2), (0, a3), (9, 0), (9, 0)], [(0, 1)], _, _, _)
            refine ev_ifeq f331_46 (fun c45676 => absurd c45676 (by omega)) (fun c45676 => ?_)
            refine ev_iload_n rfl ?_
            refine ev_bipush ?_
            refine ev_bipush ?_
            refine ev_in (d := 0) (a := 0) (b := 0) (cd' := c242_0) (m := 3) (L0 := [(0, a3), (0, (-99)), (0, 99)]) (jcall_s (A := [(0, 99), (0, (-99)), (0, a3)]) (S' := []) (by decide) rfl (Nat.le_of_ble_eq_true rfl)) (by decide) ml242 pp242 (Nat.le_of_ble_eq_true rfl) rfl (by decide) (by decide) ?_
            refine ev_iload_n rfl ?_
            refine ev_iload_n rfl ?_
            refine ev_icmplt f242_14 (fun c45677 => ?_) (fun c45677 => ?_)
            · refine ev_iconst ?_
              refine ev_ret rfl (by decide) (by decide) ?_
              show jEv _ _ _ _ _ _ _ (_, [(2, 42), (0, a1), (0, a2), (0, a3), (9, 0), (9, 0)], [(0, 0)], _, _, _)
              refine ev_ifne f331_50 (fun c45678 => absurd c45678 (by omega)) (fun c45678 => ?_)
              refine ev_ldc_w ?_
              exact ev_ret rfl (by decide) (by decide) ⟨_, rfl, by omega, by omega, g, k0⟩
            · refine ev_iload_n rfl ?_
              refine ev_iload_n rfl ?_
              refine ev_icmpgt f242_14 (fun c45679 => ?_) (fun c45679 => ?_)
              · refine ev_iconst ?_
                refine ev_ret rfl (by decide) (by decide) ?_
                show jEv _ _ _ _ _ _ _ (_, [(2, 42), (0, a1), (0, a2), (0, a3), (9, 0), (9, 0)], [(0, 0)], _, _, _)
                refine ev_ifne f331_50 (fun c45680 => absurd c45680 (by omega)) (fun c45680 => ?_)
                refine ev_ldc_w ?_
                exact ev_ret rfl (by decide) (by decide) ⟨_, rfl, by omega, by omega, g, k0⟩
              · refine ev_iconst ?_
                refine ev_goto f242_15 ?_
                refine ev_ret rfl (by decide) (by decide) ?_
                show jEv _ _ _ _ _ _ _ (_, [(2, 42), (0, a1), (0, a2), (0, a3), (9, 0), (9, 0)], [(0, 1)], _, _, _)
                refine ev_ifne f331_50 (fun c45681 => ?_) (fun c45681 => absurd c45681 (by omega))
                refine ev_bipush ?_
                refine ev_iload_n rfl ?_
                refine ev_imul (r := (16 * a2)) (by unfold w32; omega) ?_
                refine ev_iconst ?_
                refine ev_iload_n rfl ?_
                refine ev_bipush ?_
                refine g_idivP (c := 10) rfl (by decide) (by omega) (by omega) (fun v45682 ev45682 lv45682 uv45682 => ?_)
                obtain rfl : v45666 = v45682 := by omega
                refine ev_imul (r := (4 * v45666)) (by unfold w32; omega) ?_
                refine ev_iadd (r := (16 * a2 + 4 * v45666)) (by unfold w32; omega) ?_
                refine ev_iload_n rfl ?_
                refine ev_bipush ?_
                refine g_iremP (c := 10) rfl (by decide) (by omega) (fun v45683 ev45683 lv45683 uv45683 wv45683 => ?_)
                obtain rfl : v45669 = v45683 := by omega
                refine ev_iadd (r := (16 * a2 + 4 * v45666 + v45669)) (by unfold w32; omega) ?_
                refine ev_istore (L' := [(2, 42), (0, a1), (0, a2), (0, a3), (0, (16 * a2 + 4 * v45666 + v45669)), (9, 0)]) (Nat.le_of_ble_eq_true rfl) rfl ?_
                refine ev_aload_n rfl ?_
                refine g_getp (r := 42) (c := 67) g ad42 (by decide) (by decide) rf42_46 ft12_46 ?_
                refine ev_iload rfl ?_
                refine g_iald g ad67 rt67 (by omega) (by omega) (fun v45684 ev45684 lv45684 uv45684 => ?_)
                refine ev_istore (L' := [(2, 42), (0, a1), (0, a2), (0, a3), (0, (16 * a2 + 4 * v45666 + v45669)), (0, v45684)]) (Nat.le_of_ble_eq_true rfl) rfl ?_
                refine ev_aload_n rfl ?_
                refine g_getp (r := 42) (c := 67) g ad42 (by decide) (by decide) rf42_46 ft12_46 ?_
                refine ev_iload rfl ?_
                refine ev_iload_n rfl ?_
                refine g_iast g ad67 rt67 (fun _ => rfl) (by omega) (by omega) (by omega) (by omega) (fun h45685 e45685 g45685 => ?_)
                have k45685 := k0.wr e45685 rfl
                refine ev_iload rfl ?_
                exact ev_ret rfl (by decide) (by decide) ⟨_, rfl, by omega, by omega, g45685, k45685⟩
/-! 332 isSure -/
set_option maxHeartbeats 4000000 in
theorem s332_l {G : GH} {h : JH} {a1 : Int} (la1 : 0 ≤ a1) (ua1 : a1 ≤ 3) {a2 : Int} (la2 : 0 ≤ a2) (ua2 : a2 ≤ 3) : ∀ N : Nat, (∀ (h1 : JH) (x3 : Int), Gd G h1 → Kp [] h h1 → 0 ≤ a1 → a1 ≤ 3 → 0 ≤ a2 → a2 ≤ 3 → 0 ≤ x3 → x3 ≤ 4 → ((-x3) + 9) < N → jEv (jOk 0) none (fun _ => 0) c332_0 0 0 (PI G [] h 0 0 1) (c332_2, [(2, 42), (0, a1), (0, a2), (0, x3)], [], h1, 0, 0)) ∧ (∀ (h1 : JH) (x3 : Int), Gd G h1 → Kp [] h h1 → 0 ≤ a1 → a1 ≤ 3 → 0 ≤ a2 → a2 ≤ 3 → 0 ≤ x3 → x3 ≤ 4 → ((-x3) + 4) < N → jEv (jOk 0) none (fun _ => 0) c332_0 0 0 (PI G [] h 0 0 1) (c332_43, [(2, 42), (0, a1), (0, a2), (0, x3)], [], h1, 0, 0)) := by
  intro N
  induction N with
  | zero => exact ⟨fun h1 x3 g1 k1 b0 b1 b2 b3 b4 b5 hm => absurd hm (by omega), fun h1 x3 g1 k1 b0 b1 b2 b3 b4 b5 hm => absurd hm (by omega)⟩
  | succ N ih =>
    refine ⟨?_, ?_⟩
    · intro h1 x3 g1 k1 b0 b1 b2 b3 b4 b5 hm
      refine ev_iload_n rfl ?_
      refine ev_aload_n rfl ?_
      obtain ⟨v45746, ev45746, lv45746, uv45746⟩ := g1.rd ad42 (show 44 < 66 by decide) rf42_44
      refine g_getv (r := 42) (v := v45746) g1 ad42 (by decide) ft12_44 ev45746 ?_
      refine ev_icmpge f332_41 (fun c45747 => ?_) (fun c45747 => ?_)
      · refine ev_iconst ?_
        refine ev_istore_n (L' := [(2, 42), (0, a1), (0, a2), (0, 0)]) (Nat.le_of_ble_eq_true rfl) rfl ?_
        exact ih.2 _ _ g1 k1 (by omega) (by omega) (by omega) (by omega) (by omega) (by omega) (by omega)
      · refine ev_aload_n rfl ?_
        refine g_getp (r := 42) (c := 67) g1 ad42 (by decide) (by decide) rf42_46 ft12_46 ?_
        refine ev_iconst ?_
        refine ev_iload_n rfl ?_
        refine ev_imul (r := (4 * x3)) (by unfold w32; omega) ?_
        refine ev_iload_n rfl ?_
        refine ev_iadd (r := (a2 + 4 * x3)) (by unfold w32; omega) ?_
        refine g_iald g1 ad67 rt67 (by omega) (by omega) (fun v45748 ev45748 lv45748 uv45748 => ?_)
        refine ev_aload_n rfl ?_
        refine g_getp (r := 42) (c := 67) g1 ad42 (by decide) (by decide) rf42_46 ft12_46 ?_
        refine ev_iconst ?_
        refine ev_iload_n rfl ?_
        refine ev_imul (r := (4 * a1)) (by unfold w32; omega) ?_
        refine ev_iload_n rfl ?_
        refine ev_iadd (r := (4 * a1 + a2)) (by unfold w32; omega) ?_
        refine g_iald g1 ad67 rt67 (by omega) (by omega) (fun v45749 ev45749 lv45749 uv45749 => ?_)
        refine ev_icmple f332_35 (fun c45750 => ?_) (fun c45750 => ?_)
        · refine ev_iinc (w := (x3 + 1)) (L' := [(2, 42), (0, a1), (0, a2), (0, (x3 + 1))]) rfl (by unfold w32; omega) rfl ?_
          refine ev_goto f332_2 ?_
          exact ih.1 _ _ g1 k1 (by omega) (by omega) (by omega) (by omega) (by omega) (by omega) (by omega)
        · refine ev_iconst ?_
          exact ev_ret rfl (by decide) (by decide) ⟨_, rfl, by omega, by omega, g1, k1⟩
    · intro h1 x3 g1 k1 b0 b1 b2 b3 b4 b5 hm
      refine ev_iload_n rfl ?_
      refine ev_aload_n rfl ?_
      obtain ⟨v45751, ev45751, lv45751, uv45751⟩ := g1.rd ad42 (show 45 < 66 by decide) rf42_45
      refine g_getv (r := 42) (v := v45751) g1 ad42 (by decide) ft12_45 ev45751 ?_
      refine ev_icmpge f332_88 (fun c45752 => ?_) (fun c45752 => ?_)
      · refine ev_iconst ?_
        exact ev_ret rfl (by decide) (by decide) ⟨_, rfl, by omega, by omega, g1, k1⟩
      · refine ev_aload_n rfl ?_
        refine g_getp (r := 42) (c := 67) g1 ad42 (by decide) (by decide) rf42_46 ft12_46 ?_
        refine ev_bipush ?_
        refine ev_iconst ?_
        refine ev_iload_n rfl ?_
        refine ev_imul (r := (4 * a1)) (by unfold w32; omega) ?_
        refine ev_iadd (r := (4 * a1 + 16)) (by unfold w32; omega) ?_
        refine ev_iload_n rfl ?_
        refine ev_iadd (r := (4 * a1 + x3 + 16)) (by unfold w32; omega) ?_
        refine g_iald g1 ad67 rt67 (by omega) (by omega) (fun v45753 ev45753 lv45753 uv45753 => ?_)
        refine ev_aload_n rfl ?_
        refine g_getp (r := 42) (c := 67) g1 ad42 (by decide) (by decide) rf42_46 ft12_46 ?_
        refine ev_bipush ?_
        refine ev_iconst ?_
        refine ev_iload_n rfl ?_
        refine ev_imul (r := (4 * a1)) (by unfold w32; omega) ?_
        refine ev_iadd (r := (4 * a1 + 16)) (by unfold w32; omega) ?_
        refine ev_iload_n rfl ?_
        refine ev_iadd (r := (4 * a1 + a2 + 16)) (by unfold w32; omega) ?_
        refine g_iald g1 ad67 rt67 (by omega) (by omega) (fun v45754 ev45754 lv45754 uv45754 => ?_)
        refine ev_icmple f332_82 (fun c45755 => ?_) (fun c45755 => ?_)
        · refine ev_iinc (w := (x3 + 1)) (L' := [(2, 42), (0, a1), (0, a2), (0, (x3 + 1))]) rfl (by unfold w32; omega) rfl ?_
          refine ev_goto f332_43 ?_
          exact ih.2 _ _ g1 k1 (by omega) (by omega) (by omega) (by omega) (by omega) (by omega) (by omega)
        · refine ev_iconst ?_
          exact ev_ret rfl (by decide) (by decide) ⟨_, rfl, by omega, by omega, g1, k1⟩
set_option maxHeartbeats 4000000 in
theorem s332 {G : GH} {h : JH} (g : Gd G h) {a1 : Int} (la1 : 0 ≤ a1) (ua1 : a1 ≤ 3) {a2 : Int} (la2 : 0 ≤ a2) (ua2 : a2 ≤ 3) : jOk 1 0 0 332 [(2, 42), (0, a1), (0, a2)] h (PI G [] h 0 0 1) := by
  refine ⟨by decide, by rw [ml332]; exact Nat.le_of_ble_eq_true rfl, ?_⟩
  rw [ml332, pp332]
  show jEv _ none _ c332_0 0 0 _ (c332_0, [(2, 42), (0, a1), (0, a2), (9, 0)], [], h, 0, 0)
  have k0 := Kp.rf [] h
  refine ev_iconst ?_
  refine ev_istore_n (L' := [(2, 42), (0, a1), (0, a2), (0, 0)]) (Nat.le_of_ble_eq_true rfl) rfl ?_
  exact (s332_l la1 ua1 la2 ua2 15).1 _ _ g k0 (by omega) (by omega) (by omega) (by omega) (by omega) (by omega) (by omega)
/-! 333 sure -/
set_option maxHeartbeats 4000000 in
theorem s333_l {G : GH} {h : JH} {a1 : Int} (la1 : (-2147483648) ≤ a1) (ua1 : a1 ≤ 2147483647) : ∀ N : Nat, (∀ (h1 : JH) (x2 x3 : Int) (j4 : AV), Gd G h1 → Kp [] h h1 → (-1) ≤ a1 → a1 ≤ 2147483647 → (-2147483648) ≤ x2 → x2 ≤ 2147483647 → 0 ≤ x3 → x3 ≤ 4 → ((-10) * x3 + 45) < N → jEv (jOk 1) none (fun _ => 0) c333_0 0 0 (PI G [] h 0 (-2147483648) 2147483647) (c333_18, [(2, 42), (0, a1), (0, x2), (0, x3), j4], [], h1, 0, 0)) ∧ (∀ (h1 : JH) (x2 x3 x4 : Int), Gd G h1 → Kp [] h h1 → (-1) ≤ a1 → a1 ≤ 2147483647 → (-2147483648) ≤ x2 → x2 ≤ 2147483647 → 0 ≤ x3 → x3 ≤ 3 → 0 ≤ x4 → x4 ≤ 4 → ((-10) * x3 + (-x4) + 44) < N → jEv (jOk 1) none (fun _ => 0) c333_0 0 0 (PI G [] h 0 (-2147483648) 2147483647) (c333_29, [(2, 42), (0, a1), (0, x2), (0, x3), (0, x4)], [], h1, 0, 0)) := by
  intro N
  induction N with
  | zero => exact ⟨fun h1 x2 x3 j4 g1 k1 b0 b1 b2 b3 b4 b5 hm => absurd hm (by omega), fun h1 x2 x3 x4 g1 k1 b0 b1 b2 b3 b4 b5 b6 b7 hm => absurd hm (by omega)⟩
  | succ N ih =>
    refine ⟨?_, ?_⟩
    · intro h1 x2 x3 j4 g1 k1 b0 b1 b2 b3 b4 b5 hm
      refine ev_iload_n rfl ?_
      refine ev_aload_n rfl ?_
      obtain ⟨v46443, ev46443, lv46443, uv46443⟩ := g1.rd ad42 (show 44 < 66 by decide) rf42_44
      refine g_getv (r := 42) (v := v46443) g1 ad42 (by decide) ft12_44 ev46443 ?_
      refine ev_icmpge f333_79 (fun c46444 => ?_) (fun c46444 => ?_)
      · refine ev_iload_n rfl ?_
        refine ev_ifge f333_87 (fun c46445 => ?_) (fun c46445 => ?_)
        · refine ev_iconst ?_
          exact ev_ret rfl (by decide) (by decide) ⟨_, rfl, by omega, by omega, g1, k1⟩
        · refine ev_iload_n rfl ?_
          refine ev_goto f333_88 ?_
          exact ev_ret rfl (by decide) (by decide) ⟨_, rfl, by omega, by omega, g1, k1⟩
      · refine ev_iconst ?_
        refine ev_istore (L' := [(2, 42), (0, a1), (0, x2), (0, x3), (0, 0)]) (Nat.le_of_ble_eq_true rfl) rfl ?_
        exact ih.2 _ _ _ _ g1 k1 (by omega) (by omega) (by omega) (by omega) (by omega) (by omega) (by omega) (by omega) (by omega)
    · intro h1 x2 x3 x4 g1 k1 b0 b1 b2 b3 b4 b5 b6 b7 hm
      refine ev_iload rfl ?_
      refine ev_aload_n rfl ?_
      obtain ⟨v46446, ev46446, lv46446, uv46446⟩ := g1.rd ad42 (show 45 < 66 by decide) rf42_45
      refine g_getv (r := 42) (v := v46446) g1 ad42 (by decide) ft12_45 ev46446 ?_
      refine ev_icmpge f333_73 (fun c46447 => ?_) (fun c46447 => ?_)
      · refine ev_iinc (w := (x3 + 1)) (L' := [(2, 42), (0, a1), (0, x2), (0, (x3 + 1)), (0, x4)]) rfl (by unfold w32; omega) rfl ?_
        refine ev_goto f333_18 ?_
        exact ih.1 _ _ _ _ g1 k1 (by omega) (by omega) (by omega) (by omega) (by omega) (by omega) (by omega)
      · refine ev_aload_n rfl ?_
        refine ev_iload_n rfl ?_
        refine ev_iload rfl ?_
        refine ev_call (jcall_v (A := [(0, x4), (0, x3)]) (S' := []) (r := 42) rfl (g1.lt ad42) (g1.tg ad42) (Nat.le_of_ble_eq_true rfl)) (jOk_le (by decide) (s332 g1 (by omega) (by omega) (by omega) (by omega))) (by decide) (by decide) (fun w46448 h46448 q46448 => ?_)
        obtain ⟨v46449, rfl, lv46449, uv46449, g46448, kk46448⟩ := q46448
        have k46448 := k1.tr kk46448 (by decide)
        show jEv _ _ _ _ _ _ _ (_, [(2, 42), (0, a1), (0, x2), (0, x3), (0, x4)], [(0, v46449)], _, _, _)
        refine ev_ifne f333_51 (fun c46450 => ?_) (fun c46450 => ?_)
        · refine ev_iload_n rfl ?_
          refine ev_iload_n rfl ?_
          refine ev_icmpne f333_64 (fun c46451 => ?_) (fun c46451 => ?_)
          · refine g_iincG (f := fun w => [(2, 42), (0, a1), (0, w), (0, x3), (0, x4)]) rfl (fun _ => rfl) (fun v46452 ev46452 lv46452 uv46452 => ?_)
            refine ev_iinc (w := (x4 + 1)) (L' := [(2, 42), (0, a1), (0, v46452), (0, x3), (0, (x4 + 1))]) rfl (by unfold w32; omega) rfl ?_
            refine ev_goto f333_29 ?_
            exact ih.2 _ _ _ _ g46448 k46448 (by omega) (by omega) (by omega) (by omega) (by omega) (by omega) (by omega) (by omega) (by omega)
          · refine ev_bipush ?_
            refine ev_iload_n rfl ?_
            refine ev_imul (r := (10 * x3)) (by unfold w32; omega) ?_
            refine ev_iload rfl ?_
            refine ev_iadd (r := (10 * x3 + x4)) (by unfold w32; omega) ?_
            exact ev_ret rfl (by decide) (by decide) ⟨_, rfl, by omega, by omega, g46448, k46448⟩
        · refine ev_goto f333_67 ?_
          refine ev_iinc (w := (x4 + 1)) (L' := [(2, 42), (0, a1), (0, x2), (0, x3), (0, (x4 + 1))]) rfl (by unfold w32; omega) rfl ?_
          refine ev_goto f333_29 ?_
          exact ih.2 _ _ _ _ g46448 k46448 (by omega) (by omega) (by omega) (by omega) (by omega) (by omega) (by omega) (by omega) (by omega)
set_option maxHeartbeats 4000000 in
theorem s333 {G : GH} {h : JH} (g : Gd G h) {a1 : Int} (la1 : (-2147483648) ≤ a1) (ua1 : a1 ≤ 2147483647) : jOk 2 0 0 333 [(2, 42), (0, a1)] h (PI G [] h 0 (-2147483648) 2147483647) := by
  refine ⟨by decide, by rw [ml333]; exact Nat.le_of_ble_eq_true rfl, ?_⟩
  rw [ml333, pp333]
  show jEv _ none _ c333_0 0 0 _ (c333_0, [(2, 42), (0, a1), (9, 0), (9, 0), (9, 0)], [], h, 0, 0)
  have k0 := Kp.rf [] h
  refine ev_aload_n rfl ?_
  obtain ⟨v46453, ev46453, lv46453, uv46453⟩ := g.rd ad42 (show 44 < 66 by decide) rf42_44
  refine g_getv (r := 42) (v := v46453) g ad42 (by decide) ft12_44 ev46453 ?_
  refine ev_ifeq f333_12 (fun c46454 => ?_) (fun c46454 => ?_)
  · refine ev_iconst ?_
    exact ev_ret rfl (by decide) (by decide) ⟨_, rfl, by omega, by omega, g, k0⟩
  · refine ev_iload_n rfl ?_
    refine ev_iconst ?_
    refine ev_icmpge f333_14 (fun c46455 => ?_) (fun c46455 => ?_)
    · refine ev_iconst ?_
      refine ev_istore_n (L' := [(2, 42), (0, a1), (0, 0), (9, 0), (9, 0)]) (Nat.le_of_ble_eq_true rfl) rfl ?_
      refine ev_iconst ?_
      refine ev_istore_n (L' := [(2, 42), (0, a1), (0, 0), (0, 0), (9, 0)]) (Nat.le_of_ble_eq_true rfl) rfl ?_
      exact (s333_l la1 ua1 100).1 _ _ _ _ g k0 (by omega) (by omega) (by omega) (by omega) (by omega) (by omega) (by omega)
    · refine ev_iconst ?_
      exact ev_ret rfl (by decide) (by decide) ⟨_, rfl, by omega, by omega, g, k0⟩
/-! 337 isStruck -/
set_option maxHeartbeats 4000000 in
theorem s337_l {G : GH} {h : JH} {a1 : Int} (la1 : 0 ≤ a1) (ua1 : a1 ≤ 1) {a2 : Int} (la2 : 0 ≤ a2) (ua2 : a2 ≤ 3) {a3 : Int} (la3 : (-2147483648) ≤ a3) (ua3 : a3 ≤ 2147483647) {a4 : Int} (la4 : (-2147483648) ≤ a4) (ua4 : a4 ≤ 2147483647) : ∀ N : Nat, (∀ (h1 : JH) (x5 x6 : Int) (j7 j8 : AV), Gd G h1 → Kp [] h h1 → 0 ≤ a1 → a1 ≤ 1 → 0 ≤ a2 → a2 ≤ 3 → (-2147483648) ≤ a3 → a3 ≤ 2147483647 → (-2147483648) ≤ a4 → a4 ≤ 2147483647 → 0 ≤ x5 → x5 ≤ 4 → 0 ≤ x6 → x6 ≤ 4 → ((-10) * x6 + 45) < N → jEv (jOk 0) none (fun _ => 0) c337_0 0 0 (PI G [] h 0 0 1) (c337_20, [(2, 42), (0, a1), (0, a2), (0, a3), (0, a4), (0, x5), (0, x6), j7, j8], [], h1, 0, 0)) ∧ (∀ (h1 : JH) (x5 x6 x7 x8 : Int), Gd G h1 → Kp [] h h1 → 0 ≤ a1 → a1 ≤ 1 → 0 ≤ a2 → a2 ≤ 3 → (-2147483648) ≤ a3 → a3 ≤ 2147483647 → (-2147483648) ≤ a4 → a4 ≤ 2147483647 → 1 ≤ x5 → x5 ≤ 4 → 0 ≤ x6 → x6 ≤ 3 → 0 ≤ x7 → x7 ≤ 1 → 0 ≤ x8 → x8 ≤ 4 → ((-10) * x6 + (-x8) + 44) < N → jEv (jOk 0) none (fun _ => 0) c337_0 0 0 (PI G [] h 0 0 1) (c337_60, [(2, 42), (0, a1), (0, a2), (0, a3), (0, a4), (0, x5), (0, x6), (0, x7), (0, x8)], [], h1, 0, 0)) := by
  intro N
  induction N with
  | zero => exact ⟨fun h1 x5 x6 j7 j8 g1 k1 b0 b1 b2 b3 b4 b5 b6 b7 b8 b9 b10 b11 hm => absurd hm (by omega), fun h1 x5 x6 x7 x8 g1 k1 b0 b1 b2 b3 b4 b5 b6 b7 b8 b9 b10 b11 b12 b13 b14 b15 hm => absurd hm (by omega)⟩
  | succ N ih =>
    refine ⟨?_, ?_⟩
    · intro h1 x5 x6 j7 j8 g1 k1 b0 b1 b2 b3 b4 b5 b6 b7 b8 b9 b10 b11 hm
      refine ev_iload rfl ?_
      refine ev_iload rfl ?_
      refine ev_icmpge f337_188 (fun c46621 => ?_) (fun c46621 => ?_)
      · refine ev_iconst ?_
        exact ev_ret rfl (by decide) (by decide) ⟨_, rfl, by omega, by omega, g1, k1⟩
      · refine ev_iload rfl ?_
        refine ev_iload_n rfl ?_
        refine ev_icmpeq f337_182 (fun c46622 => ?_) (fun c46622 => ?_)
        · refine ev_iinc (w := (x6 + 1)) (L' := [(2, 42), (0, a1), (0, a2), (0, a3), (0, a4), (0, x5), (0, (x6 + 1)), j7, j8]) rfl (by unfold w32; omega) rfl ?_
          refine ev_goto f337_20 ?_
          exact ih.1 _ _ _ _ _ g1 k1 (by omega) (by omega) (by omega) (by omega) (by omega) (by omega) (by omega) (by omega) (by omega) (by omega) (by omega) (by omega) (by omega)
        · refine ev_iload_n rfl ?_
          refine ev_ifeq f337_41 (fun c46623 => ?_) (fun c46623 => ?_)
          · refine ev_iload rfl ?_
            refine ev_iload rfl ?_
            refine g_ishrG (fun v46624 ev46624 lv46624 uv46624 => ?_)
            refine ev_iconst ?_
            refine g_iandB (b := 1) (by omega) (by omega) (by decide) (fun v46625 ev46625 lv46625 uv46625 => ?_)
            refine ev_ifne f337_54 (fun c46626 => ?_) (fun c46626 => ?_)
            · refine ev_iconst ?_
              refine ev_istore (L' := [(2, 42), (0, a1), (0, a2), (0, a3), (0, a4), (0, x5), (0, x6), (0, 1), j8]) (Nat.le_of_ble_eq_true rfl) rfl ?_
              refine ev_iconst ?_
              refine ev_istore (L' := [(2, 42), (0, a1), (0, a2), (0, a3), (0, a4), (0, x5), (0, x6), (0, 1), (0, 0)]) (Nat.le_of_ble_eq_true rfl) rfl ?_
              exact ih.2 _ _ _ _ _ g1 k1 (by omega) (by omega) (by omega) (by omega) (by omega) (by omega) (by omega) (by omega) (by omega) (by omega) (by omega) (by omega) (by omega) (by omega) (by omega) (by omega) (by omega)
            · refine ev_goto f337_182 ?_
              refine ev_iinc (w := (x6 + 1)) (L' := [(2, 42), (0, a1), (0, a2), (0, a3), (0, a4), (0, x5), (0, (x6 + 1)), j7, j8]) rfl (by unfold w32; omega) rfl ?_
              refine ev_goto f337_20 ?_
              exact ih.1 _ _ _ _ _ g1 k1 (by omega) (by omega) (by omega) (by omega) (by omega) (by omega) (by omega) (by omega) (by omega) (by omega) (by omega) (by omega) (by omega)
          · refine ev_iload_n rfl ?_
            refine ev_goto f337_43 ?_
            refine ev_iload rfl ?_
            refine g_ishrG (fun v46627 ev46627 lv46627 uv46627 => ?_)
            refine ev_iconst ?_
            refine g_iandB (b := 1) (by omega) (by omega) (by decide) (fun v46628 ev46628 lv46628 uv46628 => ?_)
            refine ev_ifne f337_54 (fun c46629 => ?_) (fun c46629 => ?_)
            · refine ev_iconst ?_
              refine ev_istore (L' := [(2, 42), (0, a1), (0, a2), (0, a3), (0, a4), (0, x5), (0, x6), (0, 1), j8]) (Nat.le_of_ble_eq_true rfl) rfl ?_
              refine ev_iconst ?_
              refine ev_istore (L' := [(2, 42), (0, a1), (0, a2), (0, a3), (0, a4), (0, x5), (0, x6), (0, 1), (0, 0)]) (Nat.le_of_ble_eq_true rfl) rfl ?_
              exact ih.2 _ _ _ _ _ g1 k1 (by omega) (by omega) (by omega) (by omega) (by omega) (by omega) (by omega) (by omega) (by omega) (by omega) (by omega) (by omega) (by omega) (by omega) (by omega) (by omega) (by omega)
            · refine ev_goto f337_182 ?_
              refine ev_iinc (w := (x6 + 1)) (L' := [(2, 42), (0, a1), (0, a2), (0, a3), (0, a4), (0, x5), (0, (x6 + 1)), j7, j8]) rfl (by unfold w32; omega) rfl ?_
              refine ev_goto f337_20 ?_
              exact ih.1 _ _ _ _ _ g1 k1 (by omega) (by omega) (by omega) (by omega) (by omega) (by omega) (by omega) (by omega) (by omega) (by omega) (by omega) (by omega) (by omega)
    · intro h1 x5 x6 x7 x8 g1 k1 b0 b1 b2 b3 b4 b5 b6 b7 b8 b9 b10 b11 b12 b13 b14 b15 hm
      refine ev_iload rfl ?_
      refine ev_iconst ?_
      refine ev_icmpge f337_175 (fun c46630 => ?_) (fun c46630 => ?_)
      · refine ev_iload rfl ?_
        refine ev_ifeq f337_182 (fun c46631 => ?_) (fun c46631 => ?_)
        · refine ev_iinc (w := (x6 + 1)) (L' := [(2, 42), (0, a1), (0, a2), (0, a3), (0, a4), (0, x5), (0, (x6 + 1)), (0, x7), (0, x8)]) rfl (by unfold w32; omega) rfl ?_
          refine ev_goto f337_20 ?_
          exact ih.1 _ _ _ _ _ g1 k1 (by omega) (by omega) (by omega) (by omega) (by omega) (by omega) (by omega) (by omega) (by omega) (by omega) (by omega) (by omega) (by omega)
        · refine ev_iconst ?_
          exact ev_ret rfl (by decide) (by decide) ⟨_, rfl, by omega, by omega, g1, k1⟩
      · refine ev_iload rfl ?_
        refine ev_ifeq f337_175 (fun c46632 => ?_) (fun c46632 => ?_)
        · refine ev_iload rfl ?_
          refine ev_ifeq f337_182 (fun c46633 => ?_) (fun c46633 => absurd c46633 (by omega))
          refine ev_iinc (w := (x6 + 1)) (L' := [(2, 42), (0, a1), (0, a2), (0, a3), (0, a4), (0, x5), (0, (x6 + 1)), (0, x7), (0, x8)]) rfl (by unfold w32; omega) rfl ?_
          refine ev_goto f337_20 ?_
          exact ih.1 _ _ _ _ _ g1 k1 (by omega) (by omega) (by omega) (by omega) (by omega) (by omega) (by omega) (by omega) (by omega) (by omega) (by omega) (by omega) (by omega)
        · refine ev_iload_n rfl ?_
          refine ev_ifeq f337_80 (fun c46634 => ?_) (fun c46634 => ?_)
          · refine ev_iload_n rfl ?_
            refine ev_iload rfl ?_
            refine g_ishrG (fun v46635 ev46635 lv46635 uv46635 => ?_)
            refine ev_iconst ?_
            refine g_iandB (b := 1) (by omega) (by omega) (by decide) (fun v46636 ev46636 lv46636 uv46636 => ?_)
            refine ev_ifne f337_92 (fun c46637 => ?_) (fun c46637 => ?_)
            · refine ev_iload_n rfl ?_
              refine ev_ifeq f337_130 (fun c46638 => ?_) (fun c46638 => absurd c46638 (by omega))
              refine ev_aload_n rfl ?_
              refine g_getp (r := 42) (c := 67) g1 ad42 (by decide) (by decide) rf42_46 ft12_46 ?_
              refine ev_bipush ?_
              refine ev_iconst ?_
              refine ev_iload rfl ?_
              refine ev_imul (r := (4 * x8)) (by unfold w32; omega) ?_
              refine ev_iadd (r := (4 * x8 + 16)) (by unfold w32; omega) ?_
              refine ev_iload rfl ?_
              refine ev_iadd (r := (x6 + 4 * x8 + 16)) (by unfold w32; omega) ?_
              refine g_iald g1 ad67 rt67 (by omega) (by omega) (fun v46639 ev46639 lv46639 uv46639 => ?_)
              refine ev_aload_n rfl ?_
              refine g_getp (r := 42) (c := 67) g1 ad42 (by decide) (by decide) rf42_46 ft12_46 ?_
              refine ev_bipush ?_
              refine ev_iconst ?_
              refine ev_iload rfl ?_
              refine ev_imul (r := (4 * x8)) (by unfold w32; omega) ?_
              refine ev_iadd (r := (4 * x8 + 16)) (by unfold w32; omega) ?_
              refine ev_iload_n rfl ?_
              refine ev_iadd (r := (a2 + 4 * x8 + 16)) (by unfold w32; omega) ?_
              refine g_iald g1 ad67 rt67 (by omega) (by omega) (fun v46640 ev46640 lv46640 uv46640 => ?_)
              refine ev_icmple f337_166 (fun c46641 => ?_) (fun c46641 => ?_)
              · refine ev_iconst ?_
                refine ev_istore (L' := [(2, 42), (0, a1), (0, a2), (0, a3), (0, a4), (0, x5), (0, x6), (0, 0), (0, x8)]) (Nat.le_of_ble_eq_true rfl) rfl ?_
                refine ev_iinc (w := (x8 + 1)) (L' := [(2, 42), (0, a1), (0, a2), (0, a3), (0, a4), (0, x5), (0, x6), (0, 0), (0, (x8 + 1))]) rfl (by unfold w32; omega) rfl ?_
                refine ev_goto f337_60 ?_
                exact ih.2 _ _ _ _ _ g1 k1 (by omega) (by omega) (by omega) (by omega) (by omega) (by omega) (by omega) (by omega) (by omega) (by omega) (by omega) (by omega) (by omega) (by omega) (by omega) (by omega) (by omega)
              · refine ev_iconst ?_
                refine ev_goto f337_167 ?_
                refine ev_istore (L' := [(2, 42), (0, a1), (0, a2), (0, a3), (0, a4), (0, x5), (0, x6), (0, 1), (0, x8)]) (Nat.le_of_ble_eq_true rfl) rfl ?_
                refine ev_iinc (w := (x8 + 1)) (L' := [(2, 42), (0, a1), (0, a2), (0, a3), (0, a4), (0, x5), (0, x6), (0, 1), (0, (x8 + 1))]) rfl (by unfold w32; omega) rfl ?_
                refine ev_goto f337_60 ?_
                exact ih.2 _ _ _ _ _ g1 k1 (by omega) (by omega) (by omega) (by omega) (by omega) (by omega) (by omega) (by omega) (by omega) (by omega) (by omega) (by omega) (by omega) (by omega) (by omega) (by omega) (by omega)
            · refine ev_goto f337_169 ?_
              refine ev_iinc (w := (x8 + 1)) (L' := [(2, 42), (0, a1), (0, a2), (0, a3), (0, a4), (0, x5), (0, x6), (0, x7), (0, (x8 + 1))]) rfl (by unfold w32; omega) rfl ?_
              refine ev_goto f337_60 ?_
              exact ih.2 _ _ _ _ _ g1 k1 (by omega) (by omega) (by omega) (by omega) (by omega) (by omega) (by omega) (by omega) (by omega) (by omega) (by omega) (by omega) (by omega) (by omega) (by omega) (by omega) (by omega)
          · refine ev_iload rfl ?_
            refine ev_goto f337_81 ?_
            refine ev_iload rfl ?_
            refine g_ishrG (fun v46642 ev46642 lv46642 uv46642 => ?_)
            refine ev_iconst ?_
            refine g_iandB (b := 1) (by omega) (by omega) (by decide) (fun v46643 ev46643 lv46643 uv46643 => ?_)
            refine ev_ifne f337_92 (fun c46644 => ?_) (fun c46644 => ?_)
            · refine ev_iload_n rfl ?_
              refine ev_ifeq f337_130 (fun c46645 => absurd c46645 (by omega)) (fun c46645 => ?_)
              refine ev_aload_n rfl ?_
              refine g_getp (r := 42) (c := 67) g1 ad42 (by decide) (by decide) rf42_46 ft12_46 ?_
              refine ev_iconst ?_
              refine ev_iload rfl ?_
              refine ev_imul (r := (4 * x6)) (by unfold w32; omega) ?_
              refine ev_iload rfl ?_
              refine ev_iadd (r := (4 * x6 + x8)) (by unfold w32; omega) ?_
              refine g_iald g1 ad67 rt67 (by omega) (by omega) (fun v46646 ev46646 lv46646 uv46646 => ?_)
              refine ev_aload_n rfl ?_
              refine g_getp (r := 42) (c := 67) g1 ad42 (by decide) (by decide) rf42_46 ft12_46 ?_
              refine ev_iconst ?_
              refine ev_iload_n rfl ?_
              refine ev_imul (r := (4 * a2)) (by unfold w32; omega) ?_
              refine ev_iload rfl ?_
              refine ev_iadd (r := (4 * a2 + x8)) (by unfold w32; omega) ?_
              refine g_iald g1 ad67 rt67 (by omega) (by omega) (fun v46647 ev46647 lv46647 uv46647 => ?_)
              refine ev_icmple f337_126 (fun c46648 => ?_) (fun c46648 => ?_)
              · refine ev_iconst ?_
                refine ev_goto f337_167 ?_
                refine ev_istore (L' := [(2, 42), (0, a1), (0, a2), (0, a3), (0, a4), (0, x5), (0, x6), (0, 0), (0, x8)]) (Nat.le_of_ble_eq_true rfl) rfl ?_
                refine ev_iinc (w := (x8 + 1)) (L' := [(2, 42), (0, a1), (0, a2), (0, a3), (0, a4), (0, x5), (0, x6), (0, 0), (0, (x8 + 1))]) rfl (by unfold w32; omega) rfl ?_
                refine ev_goto f337_60 ?_
                exact ih.2 _ _ _ _ _ g1 k1 (by omega) (by omega) (by omega) (by omega) (by omega) (by omega) (by omega) (by omega) (by omega) (by omega) (by omega) (by omega) (by omega) (by omega) (by omega) (by omega) (by omega)
              · refine ev_iconst ?_
                refine ev_goto f337_167 ?_
                refine ev_istore (L' := [(2, 42), (0, a1), (0, a2), (0, a3), (0, a4), (0, x5), (0, x6), (0, 1), (0, x8)]) (Nat.le_of_ble_eq_true rfl) rfl ?_
                refine ev_iinc (w := (x8 + 1)) (L' := [(2, 42), (0, a1), (0, a2), (0, a3), (0, a4), (0, x5), (0, x6), (0, 1), (0, (x8 + 1))]) rfl (by unfold w32; omega) rfl ?_
                refine ev_goto f337_60 ?_
                exact ih.2 _ _ _ _ _ g1 k1 (by omega) (by omega) (by omega) (by omega) (by omega) (by omega) (by omega) (by omega) (by omega) (by omega) (by omega) (by omega) (by omega) (by omega) (by omega) (by omega) (by omega)
            · refine ev_goto f337_169 ?_
              refine ev_iinc (w := (x8 + 1)) (L' := [(2, 42), (0, a1), (0, a2), (0, a3), (0, a4), (0, x5), (0, x6), (0, x7), (0, (x8 + 1))]) rfl (by unfold w32; omega) rfl ?_
              refine ev_goto f337_60 ?_
              exact ih.2 _ _ _ _ _ g1 k1 (by omega) (by omega) (by omega) (by omega) (by omega) (by omega) (by omega) (by omega) (by omega) (by omega) (by omega) (by omega) (by omega) (by omega) (by omega) (by omega) (by omega)
set_option maxHeartbeats 4000000 in
theorem s337 {G : GH} {h : JH} (g : Gd G h) {a1 : Int} (la1 : 0 ≤ a1) (ua1 : a1 ≤ 1) {a2 : Int} (la2 : 0 ≤ a2) (ua2 : a2 ≤ 3) {a3 : Int} (la3 : (-2147483648) ≤ a3) (ua3 : a3 ≤ 2147483647) {a4 : Int} (la4 : (-2147483648) ≤ a4) (ua4 : a4 ≤ 2147483647) : jOk 1 0 0 337 [(2, 42), (0, a1), (0, a2), (0, a3), (0, a4)] h (PI G [] h 0 0 1) := by
  refine ⟨by decide, by rw [ml337]; exact Nat.le_of_ble_eq_true rfl, ?_⟩
  rw [ml337, pp337]
  show jEv _ none _ c337_0 0 0 _ (c337_0, [(2, 42), (0, a1), (0, a2), (0, a3), (0, a4), (9, 0), (9, 0), (9, 0), (9, 0)], [], h, 0, 0)
  have k0 := Kp.rf [] h
  refine ev_iload_n rfl ?_
  refine ev_ifeq f337_11 (fun c46649 => ?_) (fun c46649 => ?_)
  · refine ev_aload_n rfl ?_
    obtain ⟨v46650, ev46650, lv46650, uv46650⟩ := g.rd ad42 (show 45 < 66 by decide) rf42_45
    refine g_getv (r := 42) (v := v46650) g ad42 (by decide) ft12_45 ev46650 ?_
    refine ev_istore (L' := [(2, 42), (0, a1), (0, a2), (0, a3), (0, a4), (0, v46650), (9, 0), (9, 0), (9, 0)]) (Nat.le_of_ble_eq_true rfl) rfl ?_
    refine ev_iconst ?_
    refine ev_istore (L' := [(2, 42), (0, a1), (0, a2), (0, a3), (0, a4), (0, v46650), (0, 0), (9, 0), (9, 0)]) (Nat.le_of_ble_eq_true rfl) rfl ?_
    exact (s337_l la1 ua1 la2 ua2 la3 ua3 la4 ua4 100).1 _ _ _ _ _ g k0 (by omega) (by omega) (by omega) (by omega) (by omega) (by omega) (by omega) (by omega) (by omega) (by omega) (by omega) (by omega) (by omega)
  · refine ev_aload_n rfl ?_
    obtain ⟨v46651, ev46651, lv46651, uv46651⟩ := g.rd ad42 (show 44 < 66 by decide) rf42_44
    refine g_getv (r := 42) (v := v46651) g ad42 (by decide) ft12_44 ev46651 ?_
    refine ev_goto f337_15 ?_
    refine ev_istore (L' := [(2, 42), (0, a1), (0, a2), (0, a3), (0, a4), (0, v46651), (9, 0), (9, 0), (9, 0)]) (Nat.le_of_ble_eq_true rfl) rfl ?_
    refine ev_iconst ?_
    refine ev_istore (L' := [(2, 42), (0, a1), (0, a2), (0, a3), (0, a4), (0, v46651), (0, 0), (9, 0), (9, 0)]) (Nat.le_of_ble_eq_true rfl) rfl ?_
    exact (s337_l la1 ua1 la2 ua2 la3 ua3 la4 ua4 100).1 _ _ _ _ _ g k0 (by omega) (by omega) (by omega) (by omega) (by omega) (by omega) (by omega) (by omega) (by omega) (by omega) (by omega) (by omega) (by omega)
/-! 339 sort -/
set_option maxHeartbeats 4000000 in
theorem s339 {G : GH} {h : JH} (g : Gd G h) {a1 : Int} (la1 : (-2147483648) ≤ a1) (ua1 : a1 ≤ 2147483647) {a2 : Int} (la2 : (-2147483648) ≤ a2) (ua2 : a2 ≤ 2147483647) {a3 : Int} (la3 : (-2147483648) ≤ a3) (ua3 : a3 ≤ 2147483647) : jOk 2 0 0 339 [(2, 42), (0, a1), (0, a2), (0, a3)] h (PI G [(42, 48), (68, 0), (69, 0), (70, 0)] h 0 (-3) 3) := by
  refine ⟨by decide, by rw [ml339]; exact Nat.le_of_ble_eq_true rfl, ?_⟩
  rw [ml339, pp339]
  show jEv _ none _ c339_0 0 0 _ (c339_0, [(2, 42), (0, a1), (0, a2), (0, a3)], [], h, 0, 0)
  have k0 := Kp.rf [(42, 48), (68, 0), (69, 0), (70, 0)] h
  refine ev_iload_n rfl ?_
  refine ev_iconst ?_
  refine ev_bipush ?_
  refine ev_in (d := 0) (a := 0) (b := 0) (cd' := c242_0) (m := 3) (L0 := [(0, a1), (0, 1), (0, 9)]) (jcall_s (A := [(0, 9), (0, 1), (0, a1)]) (S' := []) (by decide) rfl (Nat.le_of_ble_eq_true rfl)) (by decide) ml242 pp242 (Nat.le_of_ble_eq_true rfl) rfl (by decide) (by decide) ?_
  refine ev_iload_n rfl ?_
  refine ev_iload_n rfl ?_
  refine ev_icmplt f242_14 (fun c46694 => ?_) (fun c46694 => ?_)
  · refine ev_iconst ?_
    refine ev_ret rfl (by decide) (by decide) ?_
    show jEv _ _ _ _ _ _ _ (_, [(2, 42), (0, a1), (0, a2), (0, a3)], [(0, 0)], _, _, _)
    refine ev_ifeq f339_30 (fun c46695 => ?_) (fun c46695 => absurd c46695 (by omega))
    refine ev_iconst ?_
    exact ev_ret rfl (by decide) (by decide) ⟨_, rfl, by omega, by omega, g, k0⟩
  · refine ev_iload_n rfl ?_
    refine ev_iload_n rfl ?_
    refine ev_icmpgt f242_14 (fun c46696 => ?_) (fun c46696 => ?_)
    · refine ev_iconst ?_
      refine ev_ret rfl (by decide) (by decide) ?_
      show jEv _ _ _ _ _ _ _ (_, [(2, 42), (0, a1), (0, a2), (0, a3)], [(0, 0)], _, _, _)
      refine ev_ifeq f339_30 (fun c46697 => ?_) (fun c46697 => absurd c46697 (by omega))
      refine ev_iconst ?_
      exact ev_ret rfl (by decide) (by decide) ⟨_, rfl, by omega, by omega, g, k0⟩
    · refine ev_iconst ?_
      refine ev_goto f242_15 ?_
      refine ev_ret rfl (by decide) (by decide) ?_
      show jEv _ _ _ _ _ _ _ (_, [(2, 42), (0, a1), (0, a2), (0, a3)], [(0, 1)], _, _, _)
      refine ev_ifeq f339_30 (fun c46698 => absurd c46698 (by omega)) (fun c46698 => ?_)
      refine ev_iload_n rfl ?_
      refine ev_iconst ?_
      refine ev_bipush ?_
      refine ev_in (d := 0) (a := 0) (b := 0) (cd' := c242_0) (m := 3) (L0 := [(0, a2), (0, 0), (0, 99)]) (jcall_s (A := [(0, 99), (0, 0), (0, a2)]) (S' := []) (by decide) rfl (Nat.le_of_ble_eq_true rfl)) (by decide) ml242 pp242 (Nat.le_of_ble_eq_true rfl) rfl (by decide) (by decide) ?_
      refine ev_iload_n rfl ?_
      refine ev_iload_n rfl ?_
      refine ev_icmplt f242_14 (fun c46699 => ?_) (fun c46699 => ?_)
      · refine ev_iconst ?_
        refine ev_ret rfl (by decide) (by decide) ?_
        show jEv _ _ _ _ _ _ _ (_, [(2, 42), (0, a1), (0, a2), (0, a3)], [(0, 0)], _, _, _)
        refine ev_ifeq f339_30 (fun c46700 => ?_) (fun c46700 => absurd c46700 (by omega))
        refine ev_iconst ?_
        exact ev_ret rfl (by decide) (by decide) ⟨_, rfl, by omega, by omega, g, k0⟩
      · refine ev_iload_n rfl ?_
        refine ev_iload_n rfl ?_
        refine ev_icmpgt f242_14 (fun c46701 => ?_) (fun c46701 => ?_)
        · refine ev_iconst ?_
          refine ev_ret rfl (by decide) (by decide) ?_
          show jEv _ _ _ _ _ _ _ (_, [(2, 42), (0, a1), (0, a2), (0, a3)], [(0, 0)], _, _, _)
          refine ev_ifeq f339_30 (fun c46702 => ?_) (fun c46702 => absurd c46702 (by omega))
          refine ev_iconst ?_
          exact ev_ret rfl (by decide) (by decide) ⟨_, rfl, by omega, by omega, g, k0⟩
        · refine ev_iconst ?_
          refine ev_goto f242_15 ?_
          refine ev_ret rfl (by decide) (by decide) ?_
          show jEv _ _ _ _ _ _ _ (_, [(2, 42), (0, a1), (0, a2), (0, a3)], [(0, 1)], _, _, _)
          refine ev_ifeq f339_30 (fun c46703 => absurd c46703 (by omega)) (fun c46703 => ?_)
          refine ev_iload_n rfl ?_
          refine ev_iconst ?_
          refine ev_bipush ?_
          refine ev_in (d := 0) (a := 0) (b := 0) (cd' := c242_0) (m := 3) (L0 := [(0, a3), (0, 0), (0, 99)]) (jcall_s (A := [(0, 99), (0, 0), (0, a3)]) (S' := []) (by decide) rfl (Nat.le_of_ble_eq_true rfl)) (by decide) ml242 pp242 (Nat.le_of_ble_eq_true rfl) rfl (by decide) (by decide) ?_
          refine ev_iload_n rfl ?_
          refine ev_iload_n rfl ?_
          refine ev_icmplt f242_14 (fun c46704 => ?_) (fun c46704 => ?_)
          · refine ev_iconst ?_
            refine ev_ret rfl (by decide) (by decide) ?_
            show jEv _ _ _ _ _ _ _ (_, [(2, 42), (0, a1), (0, a2), (0, a3)], [(0, 0)], _, _, _)
            refine ev_ifne f339_32 (fun c46705 => absurd c46705 (by omega)) (fun c46705 => ?_)
            refine ev_iconst ?_
            exact ev_ret rfl (by decide) (by decide) ⟨_, rfl, by omega, by omega, g, k0⟩
          · refine ev_iload_n rfl ?_
            refine ev_iload_n rfl ?_
            refine ev_icmpgt f242_14 (fun c46706 => ?_) (fun c46706 => ?_)
            · refine ev_iconst ?_
              refine ev_ret rfl (by decide) (by decide) ?_
              show jEv _ _ _ _ _ _ _ (_, [(2, 42), (0, a1), (0, a2), (0, a3)], [(0, 0)], _, _, _)
              refine ev_ifne f339_32 (fun c46707 => absurd c46707 (by omega)) (fun c46707 => ?_)
              refine ev_iconst ?_
              exact ev_ret rfl (by decide) (by decide) ⟨_, rfl, by omega, by omega, g, k0⟩
            · refine ev_iconst ?_
              refine ev_goto f242_15 ?_
              refine ev_ret rfl (by decide) (by decide) ?_
              show jEv _ _ _ _ _ _ _ (_, [(2, 42), (0, a1), (0, a2), (0, a3)], [(0, 1)], _, _, _)
              refine ev_ifne f339_32 (fun c46708 => ?_) (fun c46708 => absurd c46708 (by omega))
              refine ev_aload_n rfl ?_
              obtain ⟨v46709, ev46709, lv46709, uv46709⟩ := g.rd ad42 (show 47 < 66 by decide) rf42_47
              refine g_getv (r := 42) (v := v46709) g ad42 (by decide) ft12_47 ev46709 ?_
              refine ev_iconst ?_
              refine ev_icmpne f339_43 (fun c46710 => ?_) (fun c46710 => ?_)
              · refine ev_aload_n rfl ?_
                refine g_getp (r := 42) (c := 68) g ad42 (by decide) (by decide) rf42_48 ft12_48 ?_
                refine ev_aload_n rfl ?_
                refine g_getv (r := 42) (v := v46709) g ad42 (by decide) ft12_47 (ev46709) ?_
                refine ev_iload_n rfl ?_
                refine g_iast g ad68 rt68 (fun _ => rfl) (by omega) (by omega) (by omega) (by omega) (fun h46711 e46711 g46711 => ?_)
                have k46711 := k0.wr e46711 rfl
                refine ev_aload_n rfl ?_
                refine g_getp (r := 42) (c := 69) g46711 ad42 (by decide) (by decide) rf42_49 ft12_49 ?_
                refine ev_aload_n rfl ?_
                refine g_getv (r := 42) (v := v46709) g46711 ad42 (by decide) ft12_47 (((jw_ne e46711 (Or.inl (by decide))).trans ev46709)) ?_
                refine ev_iload_n rfl ?_
                refine g_iast g46711 ad69 rt69 (fun _ => rfl) (by omega) (by omega) (by omega) (by omega) (fun h46712 e46712 g46712 => ?_)
                have k46712 := k46711.wr e46712 rfl
                refine ev_aload_n rfl ?_
                refine g_getp (r := 42) (c := 70) g46712 ad42 (by decide) (by decide) rf42_50 ft12_50 ?_
                refine ev_aload_n rfl ?_
                refine g_getv (r := 42) (v := v46709) g46712 ad42 (by decide) ft12_47 (((jw_ne e46712 (Or.inl (by decide))).trans ((jw_ne e46711 (Or.inl (by decide))).trans ev46709))) ?_
                refine ev_iload_n rfl ?_
                refine g_iast g46712 ad70 rt70 (fun _ => rfl) (by omega) (by omega) (by omega) (by omega) (fun h46713 e46713 g46713 => ?_)
                have k46713 := k46712.wr e46713 rfl
                refine ev_aload_n rfl ?_
                refine ev_dup (by decide) ?_
                refine g_getv (r := 42) (v := v46709) g46713 ad42 (by decide) ft12_47 (((jw_ne e46713 (Or.inl (by decide))).trans ((jw_ne e46712 (Or.inl (by decide))).trans ((jw_ne e46711 (Or.inl (by decide))).trans ev46709)))) ?_
                refine ev_iconst ?_
                refine ev_iadd (r := (v46709 + 1)) (by unfold w32; omega) ?_
                refine g_putf (r := 42) g46713 ad42 (by decide) ft12_47 (by decide) (fun e => absurd e nz12_47) rf42_47 (by decide) (by omega) (by omega) (fun h46714 e46714 g46714 => ?_)
                have k46714 := k46713.wr e46714 rfl
                refine ev_aload_n rfl ?_
                refine g_getv (r := 42) (v := (v46709 + 1)) g46714 ad42 (by decide) ft12_47 ((jw_eq e46714)) ?_
                exact ev_ret rfl (by decide) (by decide) ⟨_, rfl, by omega, by omega, g46714, k46714⟩
              · refine ev_bipush ?_
                exact ev_ret rfl (by decide) (by decide) ⟨_, rfl, by omega, by omega, g, k0⟩
/-! 340 offer -/
set_option maxHeartbeats 4000000 in
theorem s340_l {G : GH} {h : JH} {a1 : Int} (la1 : (-2147483648) ≤ a1) (ua1 : a1 ≤ 2147483647) : ∀ N : Nat, (∀ (h1 : JH) (x2 : Int), Gd G h1 → Kp [(42, 52), (71, 0)] h h1 → 0 ≤ a1 → a1 ≤ 99 → 0 ≤ x2 → x2 ≤ 4 → ((-x2) + 4) < N → jEv (jOk 1) none (fun _ => 0) c340_0 0 0 (PI G [(42, 52), (71, 0)] h 0 (-3) 4) (c340_14, [(2, 42), (0, a1), (0, x2)], [], h1, 0, 0)) := by
  intro N
  induction N with
  | zero => exact fun h1 x2 g1 k1 b0 b1 b2 b3 hm => absurd hm (by omega)
  | succ N ih =>
    show _
    intro h1 x2 g1 k1 b0 b1 b2 b3 hm
    refine ev_iload_n rfl ?_
    refine ev_aload_n rfl ?_
    obtain ⟨v46767, ev46767, lv46767, uv46767⟩ := g1.rd ad42 (show 51 < 66 by decide) rf42_51
    refine g_getv (r := 42) (v := v46767) g1 ad42 (by decide) ft12_51 ev46767 ?_
    refine ev_icmpge f340_40 (fun c46768 => ?_) (fun c46768 => ?_)
    · refine ev_aload_n rfl ?_
      refine g_getv (r := 42) (v := v46767) g1 ad42 (by decide) ft12_51 (ev46767) ?_
      refine ev_iconst ?_
      refine ev_icmpne f340_51 (fun c46769 => ?_) (fun c46769 => ?_)
      · refine ev_aload_n rfl ?_
        refine g_getp (r := 42) (c := 71) g1 ad42 (by decide) (by decide) rf42_52 ft12_52 ?_
        refine ev_aload_n rfl ?_
        refine g_getv (r := 42) (v := v46767) g1 ad42 (by decide) ft12_51 (ev46767) ?_
        refine ev_iload_n rfl ?_
        refine g_iast g1 ad71 rt71 (fun _ => rfl) (by omega) (by omega) (by omega) (by omega) (fun h46770 e46770 g46770 => ?_)
        have k46770 := k1.wr e46770 rfl
        refine ev_aload_n rfl ?_
        refine ev_dup (by decide) ?_
        refine g_getv (r := 42) (v := v46767) g46770 ad42 (by decide) ft12_51 (((jw_ne e46770 (Or.inl (by decide))).trans ev46767)) ?_
        refine ev_iconst ?_
        refine ev_iadd (r := (v46767 + 1)) (by unfold w32; omega) ?_
        refine g_putf (r := 42) g46770 ad42 (by decide) ft12_51 (by decide) (fun e => absurd e nz12_51) rf42_51 (by decide) (by omega) (by omega) (fun h46771 e46771 g46771 => ?_)
        have k46771 := k46770.wr e46771 rfl
        refine ev_aload_n rfl ?_
        refine g_getv (r := 42) (v := (v46767 + 1)) g46771 ad42 (by decide) ft12_51 ((jw_eq e46771)) ?_
        exact ev_ret rfl (by decide) (by decide) ⟨_, rfl, by omega, by omega, g46771, k46771⟩
      · refine ev_bipush ?_
        exact ev_ret rfl (by decide) (by decide) ⟨_, rfl, by omega, by omega, g1, k1⟩
    · refine ev_aload_n rfl ?_
      refine g_getp (r := 42) (c := 71) g1 ad42 (by decide) (by decide) rf42_52 ft12_52 ?_
      refine ev_iload_n rfl ?_
      refine g_iald g1 ad71 rt71 (by omega) (by omega) (fun v46772 ev46772 lv46772 uv46772 => ?_)
      refine ev_iload_n rfl ?_
      refine ev_icmpne f340_34 (fun c46773 => ?_) (fun c46773 => ?_)
      · refine ev_iinc (w := (x2 + 1)) (L' := [(2, 42), (0, a1), (0, (x2 + 1))]) rfl (by unfold w32; omega) rfl ?_
        refine ev_goto f340_14 ?_
        exact ih _ _ g1 k1 (by omega) (by omega) (by omega) (by omega) (by omega)
      · refine ev_iconst ?_
        exact ev_ret rfl (by decide) (by decide) ⟨_, rfl, by omega, by omega, g1, k1⟩
set_option maxHeartbeats 4000000 in
theorem s340 {G : GH} {h : JH} (g : Gd G h) {a1 : Int} (la1 : (-2147483648) ≤ a1) (ua1 : a1 ≤ 2147483647) : jOk 2 0 0 340 [(2, 42), (0, a1)] h (PI G [(42, 52), (71, 0)] h 0 (-3) 4) := by
  refine ⟨by decide, by rw [ml340]; exact Nat.le_of_ble_eq_true rfl, ?_⟩
  rw [ml340, pp340]
  show jEv _ none _ c340_0 0 0 _ (c340_0, [(2, 42), (0, a1), (9, 0)], [], h, 0, 0)
  have k0 := Kp.rf [(42, 52), (71, 0)] h
  refine ev_iload_n rfl ?_
  refine ev_iconst ?_
  refine ev_bipush ?_
  refine ev_in (d := 0) (a := 0) (b := 0) (cd' := c242_0) (m := 3) (L0 := [(0, a1), (0, 0), (0, 99)]) (jcall_s (A := [(0, 99), (0, 0), (0, a1)]) (S' := []) (by decide) rfl (Nat.le_of_ble_eq_true rfl)) (by decide) ml242 pp242 (Nat.le_of_ble_eq_true rfl) rfl (by decide) (by decide) ?_
  refine ev_iload_n rfl ?_
  refine ev_iload_n rfl ?_
  refine ev_icmplt f242_14 (fun c46774 => ?_) (fun c46774 => ?_)
  · refine ev_iconst ?_
    refine ev_ret rfl (by decide) (by decide) ?_
    show jEv _ _ _ _ _ _ _ (_, [(2, 42), (0, a1), (9, 0)], [(0, 0)], _, _, _)
    refine ev_ifne f340_12 (fun c46775 => absurd c46775 (by omega)) (fun c46775 => ?_)
    refine ev_iconst ?_
    exact ev_ret rfl (by decide) (by decide) ⟨_, rfl, by omega, by omega, g, k0⟩
  · refine ev_iload_n rfl ?_
    refine ev_iload_n rfl ?_
    refine ev_icmpgt f242_14 (fun c46776 => ?_) (fun c46776 => ?_)
    · refine ev_iconst ?_
      refine ev_ret rfl (by decide) (by decide) ?_
      show jEv _ _ _ _ _ _ _ (_, [(2, 42), (0, a1), (9, 0)], [(0, 0)], _, _, _)
      refine ev_ifne f340_12 (fun c46777 => absurd c46777 (by omega)) (fun c46777 => ?_)
      refine ev_iconst ?_
      exact ev_ret rfl (by decide) (by decide) ⟨_, rfl, by omega, by omega, g, k0⟩
    · refine ev_iconst ?_
      refine ev_goto f242_15 ?_
      refine ev_ret rfl (by decide) (by decide) ?_
      show jEv _ _ _ _ _ _ _ (_, [(2, 42), (0, a1), (9, 0)], [(0, 1)], _, _, _)
      refine ev_ifne f340_12 (fun c46778 => ?_) (fun c46778 => absurd c46778 (by omega))
      refine ev_iconst ?_
      refine ev_istore_n (L' := [(2, 42), (0, a1), (0, 0)]) (Nat.le_of_ble_eq_true rfl) rfl ?_
      exact (s340_l la1 ua1 10) _ _ g k0 (by omega) (by omega) (by omega) (by omega) (by omega)
/-! 342 isToTake -/
set_option maxHeartbeats 4000000 in
theorem s342_l {G : GH} {h : JH} {a1 : Int} (la1 : 0 ≤ a1) (ua1 : a1 ≤ 3) {a2 : Int} (la2 : (-2147483648) ≤ a2) (ua2 : a2 ≤ 2147483647) {a3 : Int} (la3 : 0 ≤ a3) (ua3 : a3 ≤ 99) : ∀ N : Nat, (∀ (h1 : JH) (x4 x5 x6 x7 : Int), Gd G h1 → Kp [] h h1 → 0 ≤ a1 → a1 ≤ 3 → (-2147483648) ≤ a2 → a2 ≤ 2147483647 → 0 ≤ a3 → a3 ≤ 99 → (-2147483648) ≤ x4 → x4 ≤ 2147483647 → (-2147483648) ≤ x5 → x5 ≤ 2147483647 → 0 ≤ x6 → x6 ≤ 99 → 0 ≤ x7 → x7 ≤ 3 → ((-x7) + 3) < N → jEv (jOk 1) none (fun _ => 0) c342_0 0 0 (PI G [] h 0 0 1) (c342_13, [(2, 42), (0, a1), (0, a2), (0, a3), (0, x4), (0, x5), (0, x6), (0, x7)], [], h1, 0, 0)) := by
  intro N
  induction N with
  | zero => exact fun h1 x4 x5 x6 x7 g1 k1 b0 b1 b2 b3 b4 b5 b6 b7 b8 b9 b10 b11 b12 b13 hm => absurd hm (by omega)
  | succ N ih =>
    show _
    intro h1 x4 x5 x6 x7 g1 k1 b0 b1 b2 b3 b4 b5 b6 b7 b8 b9 b10 b11 b12 b13 hm
    refine ev_iload rfl ?_
    refine ev_aload_n rfl ?_
    obtain ⟨v47472, ev47472, lv47472, uv47472⟩ := g1.rd ad42 (show 47 < 66 by decide) rf42_47
    refine g_getv (r := 42) (v := v47472) g1 ad42 (by decide) ft12_47 ev47472 ?_
    refine ev_icmpge f342_96 (fun c47473 => ?_) (fun c47473 => ?_)
    · refine ev_iload rfl ?_
      refine ev_ifne f342_122 (fun c47474 => ?_) (fun c47474 => ?_)
      · refine ev_aload_n rfl ?_
        refine g_getp (r := 42) (c := 71) g1 ad42 (by decide) (by decide) rf42_52 ft12_52 ?_
        refine ev_iload_n rfl ?_
        refine g_iald g1 ad71 rt71 (by omega) (by omega) (fun v47475 ev47475 lv47475 uv47475 => ?_)
        refine ev_iload rfl ?_
        refine g_imulG (fun v47476 ev47476 lv47476 uv47476 => ?_)
        refine ev_iload rfl ?_
        refine ev_iload_n rfl ?_
        refine ev_iload rfl ?_
        refine g_imulG (fun v47477 ev47477 lv47477 uv47477 => ?_)
        refine g_iaddG (fun v47478 ev47478 lv47478 uv47478 => ?_)
        refine ev_icmpgt f342_145 (fun c47479 => ?_) (fun c47479 => ?_)
        · refine ev_iconst ?_
          exact ev_ret rfl (by decide) (by decide) ⟨_, rfl, by omega, by omega, g1, k1⟩
        · refine ev_iconst ?_
          refine ev_goto f342_146 ?_
          exact ev_ret rfl (by decide) (by decide) ⟨_, rfl, by omega, by omega, g1, k1⟩
      · refine ev_aload_n rfl ?_
        refine g_getp (r := 42) (c := 71) g1 ad42 (by decide) (by decide) rf42_52 ft12_52 ?_
        refine ev_iload_n rfl ?_
        refine g_iald g1 ad71 rt71 (by omega) (by omega) (fun v47480 ev47480 lv47480 uv47480 => ?_)
        refine ev_iload rfl ?_
        refine ev_iload_n rfl ?_
        refine ev_iadd (r := (a3 + x6)) (by unfold w32; omega) ?_
        refine ev_icmpgt f342_118 (fun c47481 => ?_) (fun c47481 => ?_)
        · refine ev_iconst ?_
          refine ev_goto f342_146 ?_
          exact ev_ret rfl (by decide) (by decide) ⟨_, rfl, by omega, by omega, g1, k1⟩
        · refine ev_iconst ?_
          refine ev_goto f342_146 ?_
          exact ev_ret rfl (by decide) (by decide) ⟨_, rfl, by omega, by omega, g1, k1⟩
    · refine ev_iload rfl ?_
      refine ev_aload_n rfl ?_
      refine g_getp (r := 42) (c := 69) g1 ad42 (by decide) (by decide) rf42_49 ft12_49 ?_
      refine ev_iload rfl ?_
      refine g_iald g1 ad69 rt69 (by omega) (by omega) (fun v47482 ev47482 lv47482 uv47482 => ?_)
      refine ev_in (d := 0) (a := 0) (b := 0) (cd' := c334_0) (m := 2) (L0 := [(0, x6), (0, v47482)]) (jcall_s (A := [(0, v47482), (0, x6)]) (S' := []) (by decide) rfl (Nat.le_of_ble_eq_true rfl)) (by decide) ml334 pp334 (Nat.le_of_ble_eq_true rfl) rfl (by decide) (by decide) ?_
      refine ev_iload_n rfl ?_
      refine ev_iload_n rfl ?_
      refine ev_icmpge f334_9 (fun c47483 => ?_) (fun c47483 => ?_)
      · refine ev_iload_n rfl ?_
        refine ev_ret rfl (by decide) (by decide) ?_
        show jEv _ _ _ _ _ _ _ (_, [(2, 42), (0, a1), (0, a2), (0, a3), (0, x4), (0, x5), (0, x6), (0, x7)], [(0, v47482)], _, _, _)
        refine ev_istore (L' := [(2, 42), (0, a1), (0, a2), (0, a3), (0, x4), (0, x5), (0, v47482), (0, x7)]) (Nat.le_of_ble_eq_true rfl) rfl ?_
        refine ev_iload_n rfl ?_
        refine ev_iconst ?_
        refine ev_aload_n rfl ?_
        refine g_getv (r := 42) (v := v47472) g1 ad42 (by decide) ft12_47 (ev47472) ?_
        refine ev_iconst ?_
        refine ev_isub (r := (v47472 - 1)) (by unfold w32; omega) ?_
        refine ev_iload rfl ?_
        refine ev_isub (r := (v47472 + (-x7) - 1)) (by unfold w32; omega) ?_
        refine ev_imul (r := (2 * v47472 + (-2) * x7 - 2)) (by unfold w32; omega) ?_
        refine g_ishrG (fun v47484 ev47484 lv47484 uv47484 => ?_)
        refine ev_iconst ?_
        refine g_iandB (b := 3) (by omega) (by omega) (by decide) (fun v47485 ev47485 lv47485 uv47485 => ?_)
        refine ev_iload_n rfl ?_
        refine ev_icmpeq f342_58 (fun c47486 => ?_) (fun c47486 => ?_)
        · refine ev_iload rfl ?_
          refine ev_aload_n rfl ?_
          refine g_getp (r := 42) (c := 68) g1 ad42 (by decide) (by decide) rf42_48 ft12_48 ?_
          refine ev_iload rfl ?_
          refine g_iald g1 ad68 rt68 (by omega) (by omega) (fun v47487 ev47487 lv47487 uv47487 => ?_)
          refine g_iaddG (fun v47488 ev47488 lv47488 uv47488 => ?_)
          refine ev_istore (L' := [(2, 42), (0, a1), (0, a2), (0, a3), (0, v47488), (0, x5), (0, v47482), (0, x7)]) (Nat.le_of_ble_eq_true rfl) rfl ?_
          refine ev_iload rfl ?_
          refine ev_aload_n rfl ?_
          refine g_getp (r := 42) (c := 68) g1 ad42 (by decide) (by decide) rf42_48 ft12_48 ?_
          refine ev_iload rfl ?_
          refine g_ialdv (v := v47487) g1 ad68 (by omega) (by omega) (ev47487) ?_
          refine ev_aload_n rfl ?_
          refine g_getp (r := 42) (c := 69) g1 ad42 (by decide) (by decide) rf42_49 ft12_49 ?_
          refine ev_iload rfl ?_
          refine g_ialdv (v := v47482) g1 ad69 (by omega) (by omega) (ev47482) ?_
          refine g_imulB (a := 9) (b := 99) (a' := 0) (b' := 0) (by omega) (by omega) (by omega) (by omega) (by decide) (lo := 0) (hi := 891) (by decide) (by decide) (fun v47489 ev47489 lv47489 uv47489 => ?_)
          refine g_iaddG (fun v47490 ev47490 lv47490 uv47490 => ?_)
          refine ev_istore (L' := [(2, 42), (0, a1), (0, a2), (0, a3), (0, v47488), (0, v47490), (0, v47482), (0, x7)]) (Nat.le_of_ble_eq_true rfl) rfl ?_
          refine ev_iinc (w := (x7 + 1)) (L' := [(2, 42), (0, a1), (0, a2), (0, a3), (0, v47488), (0, v47490), (0, v47482), (0, (x7 + 1))]) rfl (by unfold w32; omega) rfl ?_
          refine ev_goto f342_13 ?_
          exact ih _ _ _ _ _ g1 k1 (by omega) (by omega) (by omega) (by omega) (by omega) (by omega) (by omega) (by omega) (by omega) (by omega) (by omega) (by omega) (by omega) (by omega) (by omega)
        · refine ev_goto f342_90 ?_
          refine ev_iinc (w := (x7 + 1)) (L' := [(2, 42), (0, a1), (0, a2), (0, a3), (0, x4), (0, x5), (0, v47482), (0, (x7 + 1))]) rfl (by unfold w32; omega) rfl ?_
          refine ev_goto f342_13 ?_
          exact ih _ _ _ _ _ g1 k1 (by omega) (by omega) (by omega) (by omega) (by omega) (by omega) (by omega) (by omega) (by omega) (by omega) (by omega) (by omega) (by omega) (by omega) (by omega)
      · refine ev_iload_n rfl ?_
        refine ev_goto f334_10 ?_
        refine ev_ret rfl (by decide) (by decide) ?_
        show jEv _ _ _ _ _ _ _ (_, [(2, 42), (0, a1), (0, a2), (0, a3), (0, x4), (0, x5), (0, x6), (0, x7)], [(0, x6)], _, _, _)
        refine ev_istore (L' := [(2, 42), (0, a1), (0, a2), (0, a3), (0, x4), (0, x5), (0, x6), (0, x7)]) (Nat.le_of_ble_eq_true rfl) rfl ?_
        refine ev_iload_n rfl ?_
        refine ev_iconst ?_
        refine ev_aload_n rfl ?_
        refine g_getv (r := 42) (v := v47472) g1 ad42 (by decide) ft12_47 (ev47472) ?_
        refine ev_iconst ?_
        refine ev_isub (r := (v47472 - 1)) (by unfold w32; omega) ?_
        refine ev_iload rfl ?_
        refine ev_isub (r := (v47472 + (-x7) - 1)) (by unfold w32; omega) ?_
        refine ev_imul (r := (2 * v47472 + (-2) * x7 - 2)) (by unfold w32; omega) ?_
        refine g_ishrG (fun v47491 ev47491 lv47491 uv47491 => ?_)
        refine ev_iconst ?_
        refine g_iandB (b := 3) (by omega) (by omega) (by decide) (fun v47492 ev47492 lv47492 uv47492 => ?_)
        refine ev_iload_n rfl ?_
        refine ev_icmpeq f342_58 (fun c47493 => ?_) (fun c47493 => ?_)
        · refine ev_iload rfl ?_
          refine ev_aload_n rfl ?_
          refine g_getp (r := 42) (c := 68) g1 ad42 (by decide) (by decide) rf42_48 ft12_48 ?_
          refine ev_iload rfl ?_
          refine g_iald g1 ad68 rt68 (by omega) (by omega) (fun v47494 ev47494 lv47494 uv47494 => ?_)
          refine g_iaddG (fun v47495 ev47495 lv47495 uv47495 => ?_)
          refine ev_istore (L' := [(2, 42), (0, a1), (0, a2), (0, a3), (0, v47495), (0, x5), (0, x6), (0, x7)]) (Nat.le_of_ble_eq_true rfl) rfl ?_
          refine ev_iload rfl ?_
          refine ev_aload_n rfl ?_
          refine g_getp (r := 42) (c := 68) g1 ad42 (by decide) (by decide) rf42_48 ft12_48 ?_
          refine ev_iload rfl ?_
          refine g_ialdv (v := v47494) g1 ad68 (by omega) (by omega) (ev47494) ?_
          refine ev_aload_n rfl ?_
          refine g_getp (r := 42) (c := 69) g1 ad42 (by decide) (by decide) rf42_49 ft12_49 ?_
          refine ev_iload rfl ?_
          refine g_ialdv (v := v47482) g1 ad69 (by omega) (by omega) (ev47482) ?_
          refine g_imulB (a := 9) (b := 99) (a' := 0) (b' := 1) (by omega) (by omega) (by omega) (by omega) (by decide) (lo := 0) (hi := 891) (by decide) (by decide) (fun v47496 ev47496 lv47496 uv47496 => ?_)
          refine g_iaddG (fun v47497 ev47497 lv47497 uv47497 => ?_)
          refine ev_istore (L' := [(2, 42), (0, a1), (0, a2), (0, a3), (0, v47495), (0, v47497), (0, x6), (0, x7)]) (Nat.le_of_ble_eq_true rfl) rfl ?_
          refine ev_iinc (w := (x7 + 1)) (L' := [(2, 42), (0, a1), (0, a2), (0, a3), (0, v47495), (0, v47497), (0, x6), (0, (x7 + 1))]) rfl (by unfold w32; omega) rfl ?_
          refine ev_goto f342_13 ?_
          exact ih _ _ _ _ _ g1 k1 (by omega) (by omega) (by omega) (by omega) (by omega) (by omega) (by omega) (by omega) (by omega) (by omega) (by omega) (by omega) (by omega) (by omega) (by omega)
        · refine ev_goto f342_90 ?_
          refine ev_iinc (w := (x7 + 1)) (L' := [(2, 42), (0, a1), (0, a2), (0, a3), (0, x4), (0, x5), (0, x6), (0, (x7 + 1))]) rfl (by unfold w32; omega) rfl ?_
          refine ev_goto f342_13 ?_
          exact ih _ _ _ _ _ g1 k1 (by omega) (by omega) (by omega) (by omega) (by omega) (by omega) (by omega) (by omega) (by omega) (by omega) (by omega) (by omega) (by omega) (by omega) (by omega)
set_option maxHeartbeats 4000000 in
theorem s342 {G : GH} {h : JH} (g : Gd G h) {a1 : Int} (la1 : 0 ≤ a1) (ua1 : a1 ≤ 3) {a2 : Int} (la2 : (-2147483648) ≤ a2) (ua2 : a2 ≤ 2147483647) {a3 : Int} (la3 : 0 ≤ a3) (ua3 : a3 ≤ 99) : jOk 2 0 0 342 [(2, 42), (0, a1), (0, a2), (0, a3)] h (PI G [] h 0 0 1) := by
  refine ⟨by decide, by rw [ml342]; exact Nat.le_of_ble_eq_true rfl, ?_⟩
  rw [ml342, pp342]
  show jEv _ none _ c342_0 0 0 _ (c342_0, [(2, 42), (0, a1), (0, a2), (0, a3), (9, 0), (9, 0), (9, 0), (9, 0)], [], h, 0, 0)
  have k0 := Kp.rf [] h
  refine ev_iconst ?_
  refine ev_istore (L' := [(2, 42), (0, a1), (0, a2), (0, a3), (0, 0), (9, 0), (9, 0), (9, 0)]) (Nat.le_of_ble_eq_true rfl) rfl ?_
  refine ev_iconst ?_
  refine ev_istore (L' := [(2, 42), (0, a1), (0, a2), (0, a3), (0, 0), (0, 0), (9, 0), (9, 0)]) (Nat.le_of_ble_eq_true rfl) rfl ?_
  refine ev_bipush ?_
  refine ev_istore (L' := [(2, 42), (0, a1), (0, a2), (0, a3), (0, 0), (0, 0), (0, 99), (9, 0)]) (Nat.le_of_ble_eq_true rfl) rfl ?_
  refine ev_iconst ?_
  refine ev_istore (L' := [(2, 42), (0, a1), (0, a2), (0, a3), (0, 0), (0, 0), (0, 99), (0, 0)]) (Nat.le_of_ble_eq_true rfl) rfl ?_
  exact (s342_l la1 ua1 la2 ua2 la3 ua3 8) _ _ _ _ _ g k0 (by omega) (by omega) (by omega) (by omega) (by omega) (by omega) (by omega) (by omega) (by omega) (by omega) (by omega) (by omega) (by omega) (by omega) (by omega)
/-! 343 holdsFor -/
set_option maxHeartbeats 4000000 in
theorem s343_l {G : GH} {h : JH} {a1 : Int} (la1 : (-2147483648) ≤ a1) (ua1 : a1 ≤ 2147483647) {a2 : Int} (la2 : (-2147483648) ≤ a2) (ua2 : a2 ≤ 2147483647) {a3 : Int} (la3 : 0 ≤ a3) (ua3 : a3 ≤ 99) : ∀ N : Nat, (∀ (h1 : JH) (x4 : Int) (j5 j6 : AV), Gd G h1 → Kp [] h h1 → (-2147483648) ≤ a1 → a1 ≤ 2147483647 → (-2147483648) ≤ a2 → a2 ≤ 2147483647 → 0 ≤ a3 → a3 ≤ 99 → 0 ≤ x4 → x4 ≤ 3 → ((-10) * x4 + 85) < N → jEv (jOk 2) none (fun _ => 0) c343_0 0 0 (PI G [] h 0 0 1) (c343_3, [(2, 42), (0, a1), (0, a2), (0, a3), (0, x4), j5, j6], [], h1, 0, 0)) ∧ (∀ (h1 : JH) (x4 x5 x6 : Int), Gd G h1 → Kp [] h h1 → (-2147483648) ≤ a1 → a1 ≤ 2147483647 → (-2147483648) ≤ a2 → a2 ≤ 2147483647 → 0 ≤ a3 → a3 ≤ 99 → 0 ≤ x4 → x4 ≤ 2 → 0 ≤ x5 → x5 ≤ 3 → 0 ≤ x6 → x6 ≤ 4 → ((-10) * x4 + (-x6) + 84) < N → jEv (jOk 2) none (fun _ => 0) c343_0 0 0 (PI G [] h 0 0 1) (c343_43, [(2, 42), (0, a1), (0, a2), (0, a3), (0, x4), (0, x5), (0, x6)], [], h1, 0, 0)) ∧ (∀ (h1 : JH) (x4 : Int) (j5 j6 : AV), Gd G h1 → Kp [] h h1 → (-2147483648) ≤ a1 → a1 ≤ 2147483647 → (-2147483648) ≤ a2 → a2 ≤ 2147483647 → 0 ≤ a3 → a3 ≤ 99 → 0 ≤ x4 → x4 ≤ 4 → ((-10) * x4 + 45) < N → jEv (jOk 2) none (fun _ => 0) c343_0 0 0 (PI G [] h 0 0 1) (c343_90, [(2, 42), (0, a1), (0, a2), (0, a3), (0, x4), j5, j6], [], h1, 0, 0)) := by
  intro N
  induction N with
  | zero => exact ⟨fun h1 x4 j5 j6 g1 k1 b0 b1 b2 b3 b4 b5 b6 b7 hm => absurd hm (by omega), fun h1 x4 x5 x6 g1 k1 b0 b1 b2 b3 b4 b5 b6 b7 b8 b9 b10 b11 hm => absurd hm (by omega), fun h1 x4 j5 j6 g1 k1 b0 b1 b2 b3 b4 b5 b6 b7 hm => absurd hm (by omega)⟩
  | succ N ih =>
    refine ⟨?_, ?_, ?_⟩
    · intro h1 x4 j5 j6 g1 k1 b0 b1 b2 b3 b4 b5 b6 b7 hm
      refine ev_iload rfl ?_
      refine ev_aload_n rfl ?_
      obtain ⟨v47712, ev47712, lv47712, uv47712⟩ := g1.rd ad42 (show 47 < 66 by decide) rf42_47
      refine g_getv (r := 42) (v := v47712) g1 ad42 (by decide) ft12_47 ev47712 ?_
      refine ev_icmpge f343_87 (fun c47713 => ?_) (fun c47713 => ?_)
      · refine ev_iconst ?_
        refine ev_istore (L' := [(2, 42), (0, a1), (0, a2), (0, a3), (0, 0), j5, j6]) (Nat.le_of_ble_eq_true rfl) rfl ?_
        exact ih.2.2 _ _ _ _ g1 k1 (by omega) (by omega) (by omega) (by omega) (by omega) (by omega) (by omega) (by omega) (by omega)
      · refine ev_iload_n rfl ?_
        refine ev_iconst ?_
        refine ev_aload_n rfl ?_
        refine g_getv (r := 42) (v := v47712) g1 ad42 (by decide) ft12_47 (ev47712) ?_
        refine ev_iconst ?_
        refine ev_isub (r := (v47712 - 1)) (by unfold w32; omega) ?_
        refine ev_iload rfl ?_
        refine ev_isub (r := (v47712 + (-x4) - 1)) (by unfold w32; omega) ?_
        refine ev_imul (r := (2 * v47712 + (-2) * x4 - 2)) (by unfold w32; omega) ?_
        refine g_ishrG (fun v47714 ev47714 lv47714 uv47714 => ?_)
        refine ev_iconst ?_
        refine g_iandB (b := 3) (by omega) (by omega) (by decide) (fun v47715 ev47715 lv47715 uv47715 => ?_)
        refine ev_istore (L' := [(2, 42), (0, a1), (0, a2), (0, a3), (0, x4), (0, v47715), j6]) (Nat.le_of_ble_eq_true rfl) rfl ?_
        refine ev_iload rfl ?_
        refine ev_aload_n rfl ?_
        obtain ⟨v47716, ev47716, lv47716, uv47716⟩ := g1.rd ad42 (show 51 < 66 by decide) rf42_51
        refine g_getv (r := 42) (v := v47716) g1 ad42 (by decide) ft12_51 ev47716 ?_
        refine ev_icmplt f343_40 (fun c47717 => ?_) (fun c47717 => ?_)
        · refine ev_iconst ?_
          refine ev_istore (L' := [(2, 42), (0, a1), (0, a2), (0, a3), (0, x4), (0, v47715), (0, 0)]) (Nat.le_of_ble_eq_true rfl) rfl ?_
          exact ih.2.1 _ _ _ _ g1 k1 (by omega) (by omega) (by omega) (by omega) (by omega) (by omega) (by omega) (by omega) (by omega) (by omega) (by omega) (by omega) (by omega)
        · refine ev_iconst ?_
          exact ev_ret rfl (by decide) (by decide) ⟨_, rfl, by omega, by omega, g1, k1⟩
    · intro h1 x4 x5 x6 g1 k1 b0 b1 b2 b3 b4 b5 b6 b7 b8 b9 b10 b11 hm
      refine ev_iload rfl ?_
      refine ev_aload_n rfl ?_
      obtain ⟨v47718, ev47718, lv47718, uv47718⟩ := g1.rd ad42 (show 51 < 66 by decide) rf42_51
      refine g_getv (r := 42) (v := v47718) g1 ad42 (by decide) ft12_51 ev47718 ?_
      refine ev_icmpge f343_81 (fun c47719 => ?_) (fun c47719 => ?_)
      · refine ev_iinc (w := (x4 + 1)) (L' := [(2, 42), (0, a1), (0, a2), (0, a3), (0, (x4 + 1)), (0, x5), (0, x6)]) rfl (by unfold w32; omega) rfl ?_
        refine ev_goto f343_3 ?_
        exact ih.1 _ _ _ _ g1 k1 (by omega) (by omega) (by omega) (by omega) (by omega) (by omega) (by omega) (by omega) (by omega)
      · refine ev_aload_n rfl ?_
        refine ev_iload rfl ?_
        refine ev_iload rfl ?_
        refine ev_iload_n rfl ?_
        refine ev_in (d := 1) (a := 0) (b := 0) (cd' := c341_0) (m := 4) (L0 := [(2, 42), (0, x4), (0, x6), (0, a2)]) (jcall_v (A := [(0, a2), (0, x6), (0, x4)]) (S' := []) (r := 42) rfl (g1.lt ad42) (g1.tg ad42) (Nat.le_of_ble_eq_true rfl)) (by decide) ml341 pp341 (Nat.le_of_ble_eq_true rfl) rfl (by decide) (by decide) ?_
        refine ev_iload_n rfl ?_
        refine ev_iload_n rfl ?_
        refine g_ishrG (fun v47720 ev47720 lv47720 uv47720 => ?_)
        refine ev_iconst ?_
        refine g_iandB (b := 1) (by omega) (by omega) (by decide) (fun v47721 ev47721 lv47721 uv47721 => ?_)
        refine ev_iconst ?_
        refine ev_icmpne f341_18 (fun c47722 => ?_) (fun c47722 => ?_)
        · refine ev_aload_n rfl ?_
          refine g_getp (r := 42) (c := 69) g1 ad42 (by decide) (by decide) rf42_49 ft12_49 ?_
          refine ev_iload_n rfl ?_
          refine g_iald g1 ad69 rt69 (by omega) (by omega) (fun v47723 ev47723 lv47723 uv47723 => ?_)
          refine ev_aload_n rfl ?_
          refine g_getp (r := 42) (c := 70) g1 ad42 (by decide) (by decide) rf42_50 ft12_50 ?_
          refine ev_iload_n rfl ?_
          refine g_iald g1 ad70 rt70 (by omega) (by omega) (fun v47724 ev47724 lv47724 uv47724 => ?_)
          refine ev_isub (r := (v47723 + (-v47724))) (by unfold w32; omega) ?_
          refine ev_ret rfl (by decide) (by decide) ?_
          show jEv _ _ _ _ _ _ _ (_, [(2, 42), (0, a1), (0, a2), (0, a3), (0, x4), (0, x5), (0, x6)], [(0, (v47723 + (-v47724)))], _, _, _)
          refine ev_aload_n rfl ?_
          refine ev_iload rfl ?_
          refine ev_iload rfl ?_
          refine ev_iload_n rfl ?_
          refine ev_in (d := 1) (a := 0) (b := 0) (cd' := c341_0) (m := 4) (L0 := [(2, 42), (0, x4), (0, x5), (0, a2)]) (jcall_v (A := [(0, a2), (0, x5), (0, x4)]) (S' := [(0, (v47723 + (-v47724)))]) (r := 42) rfl (g1.lt ad42) (g1.tg ad42) (Nat.le_of_ble_eq_true rfl)) (by decide) ml341 pp341 (Nat.le_of_ble_eq_true rfl) rfl (by decide) (by decide) ?_
          refine ev_iload_n rfl ?_
          refine ev_iload_n rfl ?_
          refine g_ishrG (fun v47725 ev47725 lv47725 uv47725 => ?_)
          refine ev_iconst ?_
          refine g_iandB (b := 1) (by omega) (by omega) (by decide) (fun v47726 ev47726 lv47726 uv47726 => ?_)
          refine ev_iconst ?_
          refine ev_icmpne f341_18 (fun c47727 => ?_) (fun c47727 => ?_)
          · refine ev_aload_n rfl ?_
            refine g_getp (r := 42) (c := 69) g1 ad42 (by decide) (by decide) rf42_49 ft12_49 ?_
            refine ev_iload_n rfl ?_
            refine g_ialdv (v := v47723) g1 ad69 (by omega) (by omega) (ev47723) ?_
            refine ev_aload_n rfl ?_
            refine g_getp (r := 42) (c := 70) g1 ad42 (by decide) (by decide) rf42_50 ft12_50 ?_
            refine ev_iload_n rfl ?_
            refine g_ialdv (v := v47724) g1 ad70 (by omega) (by omega) (ev47724) ?_
            refine ev_isub (r := (v47723 + (-v47724))) (by unfold w32; omega) ?_
            refine ev_ret rfl (by decide) (by decide) ?_
            show jEv _ _ _ _ _ _ _ (_, [(2, 42), (0, a1), (0, a2), (0, a3), (0, x4), (0, x5), (0, x6)], [(0, (v47723 + (-v47724))), (0, (v47723 + (-v47724)))], _, _, _)
            refine ev_icmple f343_75 (fun c47728 => ?_) (fun c47728 => absurd c47728 (by omega))
            refine ev_iinc (w := (x6 + 1)) (L' := [(2, 42), (0, a1), (0, a2), (0, a3), (0, x4), (0, x5), (0, (x6 + 1))]) rfl (by unfold w32; omega) rfl ?_
            refine ev_goto f343_43 ?_
            exact ih.2.1 _ _ _ _ g1 k1 (by omega) (by omega) (by omega) (by omega) (by omega) (by omega) (by omega) (by omega) (by omega) (by omega) (by omega) (by omega) (by omega)
          · refine ev_aload_n rfl ?_
            refine g_getp (r := 42) (c := 71) g1 ad42 (by decide) (by decide) rf42_52 ft12_52 ?_
            refine ev_iload_n rfl ?_
            refine g_iald g1 ad71 rt71 (by omega) (by omega) (fun v47729 ev47729 lv47729 uv47729 => ?_)
            refine ev_goto f341_31 ?_
            refine ev_ret rfl (by decide) (by decide) ?_
            show jEv _ _ _ _ _ _ _ (_, [(2, 42), (0, a1), (0, a2), (0, a3), (0, x4), (0, x5), (0, x6)], [(0, v47729), (0, (v47723 + (-v47724)))], _, _, _)
            refine ev_icmple f343_75 (fun c47730 => ?_) (fun c47730 => ?_)
            · refine ev_iinc (w := (x6 + 1)) (L' := [(2, 42), (0, a1), (0, a2), (0, a3), (0, x4), (0, x5), (0, (x6 + 1))]) rfl (by unfold w32; omega) rfl ?_
              refine ev_goto f343_43 ?_
              exact ih.2.1 _ _ _ _ g1 k1 (by omega) (by omega) (by omega) (by omega) (by omega) (by omega) (by omega) (by omega) (by omega) (by omega) (by omega) (by omega) (by omega)
            · refine ev_iconst ?_
              exact ev_ret rfl (by decide) (by decide) ⟨_, rfl, by omega, by omega, g1, k1⟩
        · refine ev_aload_n rfl ?_
          refine g_getp (r := 42) (c := 71) g1 ad42 (by decide) (by decide) rf42_52 ft12_52 ?_
          refine ev_iload_n rfl ?_
          refine g_iald g1 ad71 rt71 (by omega) (by omega) (fun v47731 ev47731 lv47731 uv47731 => ?_)
          refine ev_goto f341_31 ?_
          refine ev_ret rfl (by decide) (by decide) ?_
          show jEv _ _ _ _ _ _ _ (_, [(2, 42), (0, a1), (0, a2), (0, a3), (0, x4), (0, x5), (0, x6)], [(0, v47731)], _, _, _)
          refine ev_aload_n rfl ?_
          refine ev_iload rfl ?_
          refine ev_iload rfl ?_
          refine ev_iload_n rfl ?_
          refine ev_in (d := 1) (a := 0) (b := 0) (cd' := c341_0) (m := 4) (L0 := [(2, 42), (0, x4), (0, x5), (0, a2)]) (jcall_v (A := [(0, a2), (0, x5), (0, x4)]) (S' := [(0, v47731)]) (r := 42) rfl (g1.lt ad42) (g1.tg ad42) (Nat.le_of_ble_eq_true rfl)) (by decide) ml341 pp341 (Nat.le_of_ble_eq_true rfl) rfl (by decide) (by decide) ?_
          refine ev_iload_n rfl ?_
          refine ev_iload_n rfl ?_
          refine g_ishrG (fun v47732 ev47732 lv47732 uv47732 => ?_)
          refine ev_iconst ?_
          refine g_iandB (b := 1) (by omega) (by omega) (by decide) (fun v47733 ev47733 lv47733 uv47733 => ?_)
          refine ev_iconst ?_
          refine ev_icmpne f341_18 (fun c47734 => ?_) (fun c47734 => ?_)
          · refine ev_aload_n rfl ?_
            refine g_getp (r := 42) (c := 69) g1 ad42 (by decide) (by decide) rf42_49 ft12_49 ?_
            refine ev_iload_n rfl ?_
            refine g_iald g1 ad69 rt69 (by omega) (by omega) (fun v47735 ev47735 lv47735 uv47735 => ?_)
            refine ev_aload_n rfl ?_
            refine g_getp (r := 42) (c := 70) g1 ad42 (by decide) (by decide) rf42_50 ft12_50 ?_
            refine ev_iload_n rfl ?_
            refine g_iald g1 ad70 rt70 (by omega) (by omega) (fun v47736 ev47736 lv47736 uv47736 => ?_)
            refine ev_isub (r := (v47735 + (-v47736))) (by unfold w32; omega) ?_
            refine ev_ret rfl (by decide) (by decide) ?_
            show jEv _ _ _ _ _ _ _ (_, [(2, 42), (0, a1), (0, a2), (0, a3), (0, x4), (0, x5), (0, x6)], [(0, (v47735 + (-v47736))), (0, v47731)], _, _, _)
            refine ev_icmple f343_75 (fun c47737 => ?_) (fun c47737 => ?_)
            · refine ev_iinc (w := (x6 + 1)) (L' := [(2, 42), (0, a1), (0, a2), (0, a3), (0, x4), (0, x5), (0, (x6 + 1))]) rfl (by unfold w32; omega) rfl ?_
              refine ev_goto f343_43 ?_
              exact ih.2.1 _ _ _ _ g1 k1 (by omega) (by omega) (by omega) (by omega) (by omega) (by omega) (by omega) (by omega) (by omega) (by omega) (by omega) (by omega) (by omega)
            · refine ev_iconst ?_
              exact ev_ret rfl (by decide) (by decide) ⟨_, rfl, by omega, by omega, g1, k1⟩
          · refine ev_aload_n rfl ?_
            refine g_getp (r := 42) (c := 71) g1 ad42 (by decide) (by decide) rf42_52 ft12_52 ?_
            refine ev_iload_n rfl ?_
            refine g_iald g1 ad71 rt71 (by omega) (by omega) (fun v47738 ev47738 lv47738 uv47738 => ?_)
            refine ev_goto f341_31 ?_
            refine ev_ret rfl (by decide) (by decide) ?_
            show jEv _ _ _ _ _ _ _ (_, [(2, 42), (0, a1), (0, a2), (0, a3), (0, x4), (0, x5), (0, x6)], [(0, v47738), (0, v47731)], _, _, _)
            refine ev_icmple f343_75 (fun c47739 => ?_) (fun c47739 => ?_)
            · refine ev_iinc (w := (x6 + 1)) (L' := [(2, 42), (0, a1), (0, a2), (0, a3), (0, x4), (0, x5), (0, (x6 + 1))]) rfl (by unfold w32; omega) rfl ?_
              refine ev_goto f343_43 ?_
              exact ih.2.1 _ _ _ _ g1 k1 (by omega) (by omega) (by omega) (by omega) (by omega) (by omega) (by omega) (by omega) (by omega) (by omega) (by omega) (by omega) (by omega)
            · refine ev_iconst ?_
              exact ev_ret rfl (by decide) (by decide) ⟨_, rfl, by omega, by omega, g1, k1⟩
    · intro h1 x4 j5 j6 g1 k1 b0 b1 b2 b3 b4 b5 b6 b7 hm
      refine ev_iload rfl ?_
      refine ev_aload_n rfl ?_
      obtain ⟨v47740, ev47740, lv47740, uv47740⟩ := g1.rd ad42 (show 51 < 66 by decide) rf42_51
      refine g_getv (r := 42) (v := v47740) g1 ad42 (by decide) ft12_51 ev47740 ?_
      refine ev_icmpge f343_133 (fun c47741 => ?_) (fun c47741 => ?_)
      · refine ev_iconst ?_
        exact ev_ret rfl (by decide) (by decide) ⟨_, rfl, by omega, by omega, g1, k1⟩
      · refine ev_aload_n rfl ?_
        refine ev_iload rfl ?_
        refine ev_iload_n rfl ?_
        refine ev_iload_n rfl ?_
        refine ev_call (jcall_v (A := [(0, a3), (0, a1), (0, x4)]) (S' := []) (r := 42) rfl (g1.lt ad42) (g1.tg ad42) (Nat.le_of_ble_eq_true rfl)) (jOk_le (by decide) (s342 g1 (by omega) (by omega) (by omega) (by omega) (by omega) (by omega))) (by decide) (by decide) (fun w47742 h47742 q47742 => ?_)
        obtain ⟨v47743, rfl, lv47743, uv47743, g47742, kk47742⟩ := q47742
        have k47742 := k1.tr kk47742 (by decide)
        show jEv _ _ _ _ _ _ _ (_, [(2, 42), (0, a1), (0, a2), (0, a3), (0, x4), j5, j6], [(0, v47743)], _, _, _)
        refine ev_iload_n rfl ?_
        refine ev_iload rfl ?_
        refine g_ishrG (fun v47744 ev47744 lv47744 uv47744 => ?_)
        refine ev_iconst ?_
        refine g_iandB (b := 1) (by omega) (by omega) (by decide) (fun v47745 ev47745 lv47745 uv47745 => ?_)
        refine ev_iconst ?_
        refine ev_icmpne f343_121 (fun c47746 => ?_) (fun c47746 => ?_)
        · refine ev_iconst ?_
          refine ev_icmpeq f343_127 (fun c47747 => ?_) (fun c47747 => ?_)
          · refine ev_iinc (w := (x4 + 1)) (L' := [(2, 42), (0, a1), (0, a2), (0, a3), (0, (x4 + 1)), j5, j6]) rfl (by unfold w32; omega) rfl ?_
            refine ev_goto f343_90 ?_
            exact ih.2.2 _ _ _ _ g47742 k47742 (by omega) (by omega) (by omega) (by omega) (by omega) (by omega) (by omega) (by omega) (by omega)
          · refine ev_iconst ?_
            exact ev_ret rfl (by decide) (by decide) ⟨_, rfl, by omega, by omega, g47742, k47742⟩
        · refine ev_iconst ?_
          refine ev_goto f343_122 ?_
          refine ev_icmpeq f343_127 (fun c47748 => ?_) (fun c47748 => ?_)
          · refine ev_iinc (w := (x4 + 1)) (L' := [(2, 42), (0, a1), (0, a2), (0, a3), (0, (x4 + 1)), j5, j6]) rfl (by unfold w32; omega) rfl ?_
            refine ev_goto f343_90 ?_
            exact ih.2.2 _ _ _ _ g47742 k47742 (by omega) (by omega) (by omega) (by omega) (by omega) (by omega) (by omega) (by omega) (by omega)
          · refine ev_iconst ?_
            exact ev_ret rfl (by decide) (by decide) ⟨_, rfl, by omega, by omega, g47742, k47742⟩
set_option maxHeartbeats 4000000 in
theorem s343 {G : GH} {h : JH} (g : Gd G h) {a1 : Int} (la1 : (-2147483648) ≤ a1) (ua1 : a1 ≤ 2147483647) {a2 : Int} (la2 : (-2147483648) ≤ a2) (ua2 : a2 ≤ 2147483647) {a3 : Int} (la3 : 0 ≤ a3) (ua3 : a3 ≤ 99) : jOk 3 0 0 343 [(2, 42), (0, a1), (0, a2), (0, a3)] h (PI G [] h 0 0 1) := by
  refine ⟨by decide, by rw [ml343]; exact Nat.le_of_ble_eq_true rfl, ?_⟩
  rw [ml343, pp343]
  show jEv _ none _ c343_0 0 0 _ (c343_0, [(2, 42), (0, a1), (0, a2), (0, a3), (9, 0), (9, 0), (9, 0)], [], h, 0, 0)
  have k0 := Kp.rf [] h
  refine ev_iconst ?_
  refine ev_istore (L' := [(2, 42), (0, a1), (0, a2), (0, a3), (0, 0), (9, 0), (9, 0)]) (Nat.le_of_ble_eq_true rfl) rfl ?_
  exact (s343_l la1 ua1 la2 ua2 la3 ua3 150).1 _ _ _ _ g k0 (by omega) (by omega) (by omega) (by omega) (by omega) (by omega) (by omega) (by omega) (by omega)
/-! 344 digitsOf -/
set_option maxHeartbeats 4000000 in
theorem s344_l {G : GH} {h : JH} {a0 : Int} (la0 : (-2147483648) ≤ a0) (ua0 : a0 ≤ 2147483647) {a1 : Int} (la1 : 0 ≤ a1) (ua1 : a1 ≤ 3) : ∀ N : Nat, (∀ (h1 : JH) (x2 x3 : Int), Gd G h1 → Kp [] h h1 → (-2147483648) ≤ a0 → a0 ≤ 2147483647 → 0 ≤ a1 → a1 ≤ 3 → (-2147483648) ≤ x2 → x2 ≤ 2147483647 → 0 ≤ x3 → x3 ≤ 3 → ((-x3) + 3) < N → jEv (jOk 0) none (fun _ => 0) c344_0 0 0 (PI G [] h 0 (-2147483648) 2147483647) (c344_4, [(0, a0), (0, a1), (0, x2), (0, x3)], [], h1, 0, 0)) := by
  intro N
  induction N with
  | zero => exact fun h1 x2 x3 g1 k1 b0 b1 b2 b3 b4 b5 b6 b7 hm => absurd hm (by omega)
  | succ N ih =>
    show _
    intro h1 x2 x3 g1 k1 b0 b1 b2 b3 b4 b5 b6 b7 hm
    refine ev_iload_n rfl ?_
    refine ev_iload_n rfl ?_
    refine ev_icmpge f344_31 (fun c47791 => ?_) (fun c47791 => ?_)
    · refine ev_iload_n rfl ?_
      exact ev_ret rfl (by decide) (by decide) ⟨_, rfl, by omega, by omega, g1, k1⟩
    · refine ev_iconst ?_
      refine ev_iload_n rfl ?_
      refine g_imulG (fun v47792 ev47792 lv47792 uv47792 => ?_)
      refine ev_iload_n rfl ?_
      refine ev_iconst ?_
      refine ev_iload_n rfl ?_
      refine ev_iconst ?_
      refine ev_isub (r := (a1 - 1)) (by unfold w32; omega) ?_
      refine ev_iload_n rfl ?_
      refine ev_isub (r := (a1 + (-x3) - 1)) (by unfold w32; omega) ?_
      refine ev_imul (r := (2 * a1 + (-2) * x3 - 2)) (by unfold w32; omega) ?_
      refine g_ishrG (fun v47793 ev47793 lv47793 uv47793 => ?_)
      refine ev_iconst ?_
      refine g_iandB (b := 3) (by omega) (by omega) (by decide) (fun v47794 ev47794 lv47794 uv47794 => ?_)
      refine g_iaddG (fun v47795 ev47795 lv47795 uv47795 => ?_)
      refine ev_istore_n (L' := [(0, a0), (0, a1), (0, v47795), (0, x3)]) (Nat.le_of_ble_eq_true rfl) rfl ?_
      refine ev_iinc (w := (x3 + 1)) (L' := [(0, a0), (0, a1), (0, v47795), (0, (x3 + 1))]) rfl (by unfold w32; omega) rfl ?_
      refine ev_goto f344_4 ?_
      exact ih _ _ _ g1 k1 (by omega) (by omega) (by omega) (by omega) (by omega) (by omega) (by omega) (by omega) (by omega)
set_option maxHeartbeats 4000000 in
theorem s344 {G : GH} {h : JH} (g : Gd G h) {a0 : Int} (la0 : (-2147483648) ≤ a0) (ua0 : a0 ≤ 2147483647) {a1 : Int} (la1 : 0 ≤ a1) (ua1 : a1 ≤ 3) : jOk 1 0 0 344 [(0, a0), (0, a1)] h (PI G [] h 0 (-2147483648) 2147483647) := by
  refine ⟨by decide, by rw [ml344]; exact Nat.le_of_ble_eq_true rfl, ?_⟩
  rw [ml344, pp344]
  show jEv _ none _ c344_0 0 0 _ (c344_0, [(0, a0), (0, a1), (9, 0), (9, 0)], [], h, 0, 0)
  have k0 := Kp.rf [] h
  refine ev_iconst ?_
  refine ev_istore_n (L' := [(0, a0), (0, a1), (0, 0), (9, 0)]) (Nat.le_of_ble_eq_true rfl) rfl ?_
  refine ev_iconst ?_
  refine ev_istore_n (L' := [(0, a0), (0, a1), (0, 0), (0, 0)]) (Nat.le_of_ble_eq_true rfl) rfl ?_
  exact (s344_l la0 ua0 la1 ua1 8) _ _ _ g k0 (by omega) (by omega) (by omega) (by omega) (by omega) (by omega) (by omega) (by omega) (by omega)
