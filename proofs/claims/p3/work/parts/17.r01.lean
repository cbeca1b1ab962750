set_option maxHeartbeats 4000000 in
theorem s309_l {G : GH} {h : JH} {a1 : Int} (la1 : 0 ≤ a1) (ua1 : a1 ≤ 5) {a2 : Int} (la2 : 0 ≤ a2) (ua2 : a2 ≤ 3) {a3 : Int} (la3 : (-1) ≤ a3) (ua3 : a3 ≤ 3) {w0 : Int} (ew0 : h.2.2 42 9 = w0) (lw0 : 0 ≤ w0) (uw0 : w0 ≤ 6) {w1 : Int} (ew1 : h.2.2 48 (a1).toNat = w1) (lw1 : 1 ≤ w1) (uw1 : w1 ≤ 100) (F0 : (a1 + (-w0)) ≤ (-1)) : ∀ N : Nat, (∀ (h1 : JH) (x4 x6 : Int) (j7 j8 : AV), Gd G h1 → Kp [(42, 37), (42, 38), (42, 39), (42, 40), (64, 0), (65, 0)] h h1 → 0 ≤ a1 → a1 ≤ 5 → 0 ≤ a2 → a2 ≤ 3 → (-1) ≤ a3 → a3 ≤ 3 → (-9223372036854775808) ≤ x4 → x4 ≤ 9223372036854775807 → 0 ≤ x6 → x6 ≤ 3 → ((-8) * x6 + 28) < N → jEv (jOk 203) none (fun _ => 0) c309_0 0 0 (PI G [(42, 37), (42, 38), (42, 39), (42, 40), (64, 0), (65, 0)] h 1 (-9223372036854775808) 9223372036854775807) (c309_6, [(2, 42), (0, a1), (0, a2), (0, a3), (1, x4), (9, 0), (0, x6), j7, j8], [], h1, 0, 0)) ∧ (∀ (h1 : JH) (x4 x6 x7 x8 : Int), Gd G h1 → Kp [(42, 37), (42, 38), (42, 39), (42, 40), (64, 0), (65, 0)] h h1 → 0 ≤ a1 → a1 ≤ 5 → 0 ≤ a2 → a2 ≤ 3 → (-1) ≤ a3 → a3 ≤ 3 → (-9223372036854775808) ≤ x4 → x4 ≤ 9223372036854775807 → 0 ≤ x6 → x6 ≤ 2 → 0 ≤ x7 → x7 ≤ 3 → 0 ≤ x8 → x8 ≤ 3 → ((-8) * x6 + (-x8) + 27) < N → jEv (jOk 203) none (fun _ => 0) c309_0 0 0 (PI G [(42, 37), (42, 38), (42, 39), (42, 40), (64, 0), (65, 0)] h 1 (-9223372036854775808) 9223372036854775807) (c309_36, [(2, 42), (0, a1), (0, a2), (0, a3), (1, x4), (9, 0), (0, x6), (0, x7), (0, x8)], [], h1, 0, 0)) := by
  intro N
  induction N with
  | zero => exact ⟨fun h1 x4 x6 j7 j8 g1 k1 b0 b1 b2 b3 b4 b5 b6 b7 b8 b9 hm => absurd hm (by omega), fun h1 x4 x6 x7 x8 g1 k1 b0 b1 b2 b3 b4 b5 b6 b7 b8 b9 b10 b11 b12 b13 hm => absurd hm (by omega)⟩
  | succ N ih =>
    refine ⟨?_, ?_⟩
    · intro h1 x4 x6 j7 j8 g1 k1 b0 b1 b2 b3 b4 b5 b6 b7 b8 b9 hm
      refine ev_iload rfl ?_
      refine ev_aload_n rfl ?_
      refine g_getp (r := 42) (c := 43) g1 ad42 (by decide) (by decide) rf42_2 ft12_2 ?_
      refine ev_iload_n rfl ?_
      refine g_iald g1 ad43 rt43 (by omega) (by omega) (fun v56384 ev56384 lv56384 uv56384 => ?_)
      refine ev_icmpge f309_94 (fun c56385 => ?_) (fun c56385 => ?_)
      · refine ev_lload rfl ?_
        exact ev_ret rfl (by decide) (by decide) ⟨_, rfl, by omega, by omega, g1, k1⟩
      · refine ev_iload_n rfl ?_
        refine ev_ifge f309_25 (fun c56386 => ?_) (fun c56386 => ?_)
        · refine ev_aload_n rfl ?_
          refine g_getp (r := 42) (c := 43) g1 ad42 (by decide) (by decide) rf42_2 ft12_2 ?_
          refine ev_iload_n rfl ?_
          refine g_iald g1 ad43 rt43 (by omega) (by omega) (fun v56387 ev56387 lv56387 uv56387 => ?_)
          refine ev_istore (L' := [(2, 42), (0, a1), (0, a2), (0, a3), (1, x4), (9, 0), (0, x6), (0, v56387), j8]) (Nat.le_of_ble_eq_true rfl) rfl ?_
          refine ev_iconst ?_
          refine ev_istore (L' := [(2, 42), (0, a1), (0, a2), (0, a3), (1, x4), (9, 0), (0, x6), (0, v56387), (0, 0)]) (Nat.le_of_ble_eq_true rfl) rfl ?_
          exact ih.2 _ _ _ _ _ g1 k1 (by omega) (by omega) (by omega) (by omega) (by omega) (by omega) (by omega) (by omega) (by omega) (by omega) (by omega) (by omega) (by omega) (by omega) (by omega)
        · refine ev_iconst ?_
          refine ev_goto f309_31 ?_
          refine ev_istore (L' := [(2, 42), (0, a1), (0, a2), (0, a3), (1, x4), (9, 0), (0, x6), (0, 1), j8]) (Nat.le_of_ble_eq_true rfl) rfl ?_
          refine ev_iconst ?_
          refine ev_istore (L' := [(2, 42), (0, a1), (0, a2), (0, a3), (1, x4), (9, 0), (0, x6), (0, 1), (0, 0)]) (Nat.le_of_ble_eq_true rfl) rfl ?_
          exact ih.2 _ _ _ _ _ g1 k1 (by omega) (by omega) (by omega) (by omega) (by omega) (by omega) (by omega) (by omega) (by omega) (by omega) (by omega) (by omega) (by omega) (by omega) (by omega)
    · intro h1 x4 x6 x7 x8 g1 k1 b0 b1 b2 b3 b4 b5 b6 b7 b8 b9 b10 b11 b12 b13 hm
      refine ev_iload rfl ?_
      refine ev_iload rfl ?_
      refine ev_icmpge f309_88 (fun c56388 => ?_) (fun c56388 => ?_)
      · refine ev_iinc (w := (x6 + 1)) (L' := [(2, 42), (0, a1), (0, a2), (0, a3), (1, x4), (9, 0), (0, (x6 + 1)), (0, x7), (0, x8)]) rfl (by unfold w32; omega) rfl ?_
        refine ev_goto f309_6 ?_
        exact ih.1 _ _ _ _ _ g1 k1 (by omega) (by omega) (by omega) (by omega) (by omega) (by omega) (by omega) (by omega) (by omega) (by omega) (by omega)
      · refine ev_aload_n rfl ?_
        refine ev_iload_n rfl ?_
        refine ev_iconst ?_
        refine ev_iconst ?_
        refine ev_iconst ?_
        refine ev_in (d := 202) (a := 0) (b := 0) (cd' := c291_0) (m := 6) (L0 := [(2, 42), (0, a1), (0, 0), (0, 0), (0, 0), (9, 0)]) (jcall_v (A := [(0, 0), (0, 0), (0, 0), (0, a1)]) (S' := []) (r := 42) rfl (g1.lt ad42) (g1.tg ad42) (Nat.le_of_ble_eq_true rfl)) (by decide) ml291 pp291 (Nat.le_of_ble_eq_true rfl) rfl (by decide) (by decide) ?_
        refine ev_aload_n rfl ?_
        refine ev_iload_n rfl ?_
        refine g_putf (r := 42) g1 ad42 (by decide) ft12_36 (by decide) (fun e => absurd e nz12_36) rf42_36 (by decide) (by omega) (by omega) (fun h56389 e56389 g56389 => ?_)
        have k56389 := k1.wr e56389 rfl
        refine ev_aload_n rfl ?_
        refine ev_iload_n rfl ?_
        refine g_putf (r := 42) g56389 ad42 (by decide) ft12_37 (by decide) (fun e => absurd e nz12_37) rf42_37 (by decide) (by omega) (by omega) (fun h56390 e56390 g56390 => ?_)
        have k56390 := k56389.wr e56390 rfl
        refine ev_aload_n rfl ?_
        refine ev_iload_n rfl ?_
        refine g_putf (r := 42) g56390 ad42 (by decide) ft12_38 (by decide) (fun e => absurd e nz12_38) rf42_38 (by decide) (by omega) (by omega) (fun h56391 e56391 g56391 => ?_)
        have k56391 := k56390.wr e56391 rfl
        refine ev_aload_n rfl ?_
        refine ev_iload rfl ?_
        refine g_putf (r := 42) g56391 ad42 (by decide) ft12_39 (by decide) (fun _ => by omega) rf42_39 (by decide) (by omega) (by omega) (fun h56392 e56392 g56392 => ?_)
        have k56392 := k56391.wr e56392 rfl
        refine ev_iconst ?_
        refine ev_istore (L' := [(2, 42), (0, a1), (0, 0), (0, 0), (0, 0), (0, 0)]) (Nat.le_of_ble_eq_true rfl) rfl ?_
        refine ev_iload rfl ?_
        refine ev_iconst ?_
        refine ev_icmpge f291_44 (fun c56393 => absurd c56393 (by omega)) (fun c56393 => ?_)
        refine ev_aload_n rfl ?_
        refine g_getp (r := 42) (c := 64) g56392 ad42 (by decide) (by decide) rf42_34 ft12_34 ?_
        refine ev_iload rfl ?_
        refine ev_iconst ?_
        refine g_iast g56392 ad64 rt64 (fun _ => rfl) (by omega) (by omega) (by omega) (by omega) (fun h56394 e56394 g56394 => ?_)
        have k56394 := k56392.wr e56394 rfl
        refine ev_iinc (w := 1) (L' := [(2, 42), (0, a1), (0, 0), (0, 0), (0, 0), (0, 1)]) rfl (by decide) rfl ?_
        refine ev_goto f291_24 ?_
        refine ev_iload rfl ?_
        refine ev_iconst ?_
        refine ev_icmpge f291_44 (fun c56395 => absurd c56395 (by omega)) (fun c56395 => ?_)
        refine ev_aload_n rfl ?_
        refine g_getp (r := 42) (c := 64) g56394 ad42 (by decide) (by decide) rf42_34 ft12_34 ?_
        refine ev_iload rfl ?_
        refine ev_iconst ?_
        refine g_iast g56394 ad64 rt64 (fun _ => rfl) (by omega) (by omega) (by omega) (by omega) (fun h56396 e56396 g56396 => ?_)
        have k56396 := k56394.wr e56396 rfl
        refine ev_iinc (w := 2) (L' := [(2, 42), (0, a1), (0, 0), (0, 0), (0, 0), (0, 2)]) rfl (by decide) rfl ?_
        refine ev_goto f291_24 ?_
        refine ev_iload rfl ?_
        refine ev_iconst ?_
        refine ev_icmpge f291_44 (fun c56397 => absurd c56397 (by omega)) (fun c56397 => ?_)
        refine ev_aload_n rfl ?_
        refine g_getp (r := 42) (c := 64) g56396 ad42 (by decide) (by decide) rf42_34 ft12_34 ?_
        refine ev_iload rfl ?_
        refine ev_iconst ?_
        refine g_iast g56396 ad64 rt64 (fun _ => rfl) (by omega) (by omega) (by omega) (by omega) (fun h56398 e56398 g56398 => ?_)
        have k56398 := k56396.wr e56398 rfl
        refine ev_iinc (w := 3) (L' := [(2, 42), (0, a1), (0, 0), (0, 0), (0, 0), (0, 3)]) rfl (by decide) rfl ?_
        refine ev_goto f291_24 ?_
        refine ev_iload rfl ?_
        refine ev_iconst ?_
        refine ev_icmpge f291_44 (fun c56399 => absurd c56399 (by omega)) (fun c56399 => ?_)
        refine ev_aload_n rfl ?_
        refine g_getp (r := 42) (c := 64) g56398 ad42 (by decide) (by decide) rf42_34 ft12_34 ?_
        refine ev_iload rfl ?_
        refine ev_iconst ?_
        refine g_iast g56398 ad64 rt64 (fun _ => rfl) (by omega) (by omega) (by omega) (by omega) (fun h56400 e56400 g56400 => ?_)
        have k56400 := k56398.wr e56400 rfl
        refine ev_iinc (w := 4) (L' := [(2, 42), (0, a1), (0, 0), (0, 0), (0, 0), (0, 4)]) rfl (by decide) rfl ?_
        refine ev_goto f291_24 ?_
        refine ev_iload rfl ?_
        refine ev_iconst ?_
        refine ev_icmpge f291_44 (fun c56401 => ?_) (fun c56401 => absurd c56401 (by omega))
        refine ev_ret rfl (by decide) (by decide) ?_
        show jEv _ _ _ _ _ _ _ (_, [(2, 42), (0, a1), (0, a2), (0, a3), (1, x4), (9, 0), (0, x6), (0, x7), (0, x8)], [], _, _, _)
        refine ev_aload_n rfl ?_
        refine g_getp (r := 42) (c := 64) g56400 ad42 (by decide) (by decide) rf42_34 ft12_34 ?_
        refine ev_iload_n rfl ?_
        refine ev_iload rfl ?_
        refine g_iast g56400 ad64 rt64 (fun _ => rfl) (by omega) (by omega) (by omega) (by omega) (fun h56402 e56402 g56402 => ?_)
        have k56402 := k56400.wr e56402 rfl
        refine ev_iload_n rfl ?_
        refine ev_iflt f309_71 (fun c56403 => ?_) (fun c56403 => ?_)
        · refine ev_lload rfl ?_
          refine ev_aload_n rfl ?_
          refine ev_iconst ?_
          refine ev_iconst ?_
          refine ev_call (jcall_v (A := [(0, 0), (0, 0)]) (S' := [(1, x4)]) (r := 42) rfl (g56402.lt ad42) (g56402.tg ad42) (Nat.le_of_ble_eq_true rfl)) (jOk_le (by decide) (s294 g56402 (by omega) (by omega) (by omega) (by omega) (((jw_ne e56402 (Or.inl (by decide))).trans ((jw_ne e56400 (Or.inl (by decide))).trans ((jw_ne e56398 (Or.inl (by decide))).trans ((jw_ne e56396 (Or.inl (by decide))).trans ((jw_ne e56394 (Or.inl (by decide))).trans ((jw_ne e56392 (Or.inr (by decide))).trans ((jw_ne e56391 (Or.inr (by decide))).trans ((jw_ne e56390 (Or.inr (by decide))).trans (jw_eq e56389)))))))))) (by omega) (by omega) (((jw_ne e56402 (Or.inl (by decide))).trans ((jw_ne e56400 (Or.inl (by decide))).trans ((jw_ne e56398 (Or.inl (by decide))).trans ((jw_ne e56396 (Or.inl (by decide))).trans ((jw_ne e56394 (Or.inl (by decide))).trans ((jw_ne e56392 (Or.inr (by decide))).trans ((jw_ne e56391 (Or.inr (by decide))).trans ((jw_ne e56390 (Or.inr (by decide))).trans ((jw_ne e56389 (Or.inr (by decide))).trans ((k1.v (by decide)).trans ew0))))))))))) (by omega) (by omega) (((jw_ne e56402 (Or.inl (by decide))).trans ((jw_ne e56400 (Or.inl (by decide))).trans ((jw_ne e56398 (Or.inl (by decide))).trans ((jw_ne e56396 (Or.inl (by decide))).trans ((jw_ne e56394 (Or.inl (by decide))).trans ((jw_ne e56392 (Or.inl (by decide))).trans ((jw_ne e56391 (Or.inl (by decide))).trans ((jw_ne e56390 (Or.inl (by decide))).trans ((jw_ne e56389 (Or.inl (by decide))).trans ((k1.v rfl).trans ew1))))))))))) (by omega) (by omega) (by omega) (by omega) (by omega) (g56402.ex.2.2.2.1 (a1).toNat (by rw [(((jw_ne e56402 (Or.inl (by decide))).trans ((jw_ne e56400 (Or.inl (by decide))).trans ((jw_ne e56398 (Or.inl (by decide))).trans ((jw_ne e56396 (Or.inl (by decide))).trans ((jw_ne e56394 (Or.inl (by decide))).trans ((jw_ne e56392 (Or.inr (by decide))).trans ((jw_ne e56391 (Or.inr (by decide))).trans ((jw_ne e56390 (Or.inr (by decide))).trans ((jw_ne e56389 (Or.inr (by decide))).trans ((k1.v (by decide)).trans ew0)))))))))))]; omega)))) (by decide) (by decide) (fun w56404 h56404 q56404 => ?_)
          obtain ⟨q56404, vs56404⟩ := q56404
          obtain ⟨v56405, rfl, lv56405, uv56405, g56404, kk56404⟩ := q56404
          have k56404 := k56402.tr kk56404 (by decide)
          show jEv _ _ _ _ _ _ _ (_, [(2, 42), (0, a1), (0, a2), (0, a3), (1, x4), (9, 0), (0, x6), (0, x7), (0, x8)], [(1, v56405), (1, x4)], _, _, _)
          refine g_laddG (fun v56406 ev56406 lv56406 uv56406 => ?_)
          refine ev_lstore (L' := [(2, 42), (0, a1), (0, a2), (0, a3), (1, v56406), (9, 0), (0, x6), (0, x7), (0, x8)]) (Nat.le_of_ble_eq_true rfl) rfl ?_
          refine ev_iinc (w := (x8 + 1)) (L' := [(2, 42), (0, a1), (0, a2), (0, a3), (1, v56406), (9, 0), (0, x6), (0, x7), (0, (x8 + 1))]) rfl (by unfold w32; omega) rfl ?_
          refine ev_goto f309_36 ?_
          exact ih.2 _ _ _ _ _ g56404 k56404 (by omega) (by omega) (by omega) (by omega) (by omega) (by omega) (by omega) (by omega) (by omega) (by omega) (by omega) (by omega) (by omega) (by omega) (by omega)
        · refine ev_aload_n rfl ?_
          refine g_getp (r := 42) (c := 64) g56402 ad42 (by decide) (by decide) rf42_34 ft12_34 ?_
          refine ev_iload_n rfl ?_
          refine ev_iload rfl ?_
          refine g_iast g56402 ad64 rt64 (fun _ => rfl) (by omega) (by omega) (by omega) (by omega) (fun h56407 e56407 g56407 => ?_)
          have k56407 := k56402.wr e56407 rfl
          refine ev_lload rfl ?_
          refine ev_aload_n rfl ?_
          refine ev_iconst ?_
          refine ev_iconst ?_
          refine ev_call (jcall_v (A := [(0, 0), (0, 0)]) (S' := [(1, x4)]) (r := 42) rfl (g56407.lt ad42) (g56407.tg ad42) (Nat.le_of_ble_eq_true rfl)) (jOk_le (by decide) (s294 g56407 (by omega) (by omega) (by omega) (by omega) (((jw_ne e56407 (Or.inl (by decide))).trans ((jw_ne e56402 (Or.inl (by decide))).trans ((jw_ne e56400 (Or.inl (by decide))).trans ((jw_ne e56398 (Or.inl (by decide))).trans ((jw_ne e56396 (Or.inl (by decide))).trans ((jw_ne e56394 (Or.inl (by decide))).trans ((jw_ne e56392 (Or.inr (by decide))).trans ((jw_ne e56391 (Or.inr (by decide))).trans ((jw_ne e56390 (Or.inr (by decide))).trans (jw_eq e56389))))))))))) (by omega) (by omega) (((jw_ne e56407 (Or.inl (by decide))).trans ((jw_ne e56402 (Or.inl (by decide))).trans ((jw_ne e56400 (Or.inl (by decide))).trans ((jw_ne e56398 (Or.inl (by decide))).trans ((jw_ne e56396 (Or.inl (by decide))).trans ((jw_ne e56394 (Or.inl (by decide))).trans ((jw_ne e56392 (Or.inr (by decide))).trans ((jw_ne e56391 (Or.inr (by decide))).trans ((jw_ne e56390 (Or.inr (by decide))).trans ((jw_ne e56389 (Or.inr (by decide))).trans ((k1.v (by decide)).trans ew0)))))))))))) (by omega) (by omega) (((jw_ne e56407 (Or.inl (by decide))).trans ((jw_ne e56402 (Or.inl (by decide))).trans ((jw_ne e56400 (Or.inl (by decide))).trans ((jw_ne e56398 (Or.inl (by decide))).trans ((jw_ne e56396 (Or.inl (by decide))).trans ((jw_ne e56394 (Or.inl (by decide))).trans ((jw_ne e56392 (Or.inl (by decide))).trans ((jw_ne e56391 (Or.inl (by decide))).trans ((jw_ne e56390 (Or.inl (by decide))).trans ((jw_ne e56389 (Or.inl (by decide))).trans ((k1.v rfl).trans ew1)))))))))))) (by omega) (by omega) (by omega) (by omega) (by omega) (g56407.ex.2.2.2.1 (a1).toNat (by rw [(((jw_ne e56407 (Or.inl (by decide))).trans ((jw_ne e56402 (Or.inl (by decide))).trans ((jw_ne e56400 (Or.inl (by decide))).trans ((jw_ne e56398 (Or.inl (by decide))).trans ((jw_ne e56396 (Or.inl (by decide))).trans ((jw_ne e56394 (Or.inl (by decide))).trans ((jw_ne e56392 (Or.inr (by decide))).trans ((jw_ne e56391 (Or.inr (by decide))).trans ((jw_ne e56390 (Or.inr (by decide))).trans ((jw_ne e56389 (Or.inr (by decide))).trans ((k1.v (by decide)).trans ew0))))))))))))]; omega)))) (by decide) (by decide) (fun w56408 h56408 q56408 => ?_)
          obtain ⟨q56408, vs56408⟩ := q56408
          obtain ⟨v56409, rfl, lv56409, uv56409, g56408, kk56408⟩ := q56408
          have k56408 := k56407.tr kk56408 (by decide)
          show jEv _ _ _ _ _ _ _ (_, [(2, 42), (0, a1), (0, a2), (0, a3), (1, x4), (9, 0), (0, x6), (0, x7), (0, x8)], [(1, v56409), (1, x4)], _, _, _)
          refine g_laddG (fun v56410 ev56410 lv56410 uv56410 => ?_)
          refine ev_lstore (L' := [(2, 42), (0, a1), (0, a2), (0, a3), (1, v56410), (9, 0), (0, x6), (0, x7), (0, x8)]) (Nat.le_of_ble_eq_true rfl) rfl ?_
          refine ev_iinc (w := (x8 + 1)) (L' := [(2, 42), (0, a1), (0, a2), (0, a3), (1, v56410), (9, 0), (0, x6), (0, x7), (0, (x8 + 1))]) rfl (by unfold w32; omega) rfl ?_
          refine ev_goto f309_36 ?_
          exact ih.2 _ _ _ _ _ g56408 k56408 (by omega) (by omega) (by omega) (by omega) (by omega) (by omega) (by omega) (by omega) (by omega) (by omega) (by omega) (by omega) (by omega) (by omega) (by omega)
set_option maxHeartbeats 4000000 in
theorem s309 {G : GH} {h : JH} (g : Gd G h) {a1 : Int} (la1 : 0 ≤ a1) (ua1 : a1 ≤ 5) {a2 : Int} (la2 : 0 ≤ a2) (ua2 : a2 ≤ 3) {a3 : Int} (la3 : (-1) ≤ a3) (ua3 : a3 ≤ 3) {w0 : Int} (ew0 : h.2.2 42 9 = w0) (lw0 : 0 ≤ w0) (uw0 : w0 ≤ 6) {w1 : Int} (ew1 : h.2.2 48 (a1).toNat = w1) (lw1 : 1 ≤ w1) (uw1 : w1 ≤ 100) (F0 : (a1 + (-w0)) ≤ (-1)) : jOk 204 0 0 309 [(2, 42), (0, a1), (0, a2), (0, a3)] h (PI G [(42, 37), (42, 38), (42, 39), (42, 40), (64, 0), (65, 0)] h 1 (-9223372036854775808) 9223372036854775807) := by
  refine ⟨by decide, by rw [ml309]; exact Nat.le_of_ble_eq_true rfl, ?_⟩
  rw [ml309, pp309]
  show jEv _ none _ c309_0 0 0 _ (c309_0, [(2, 42), (0, a1), (0, a2), (0, a3), (9, 0), (9, 0), (9, 0), (9, 0), (9, 0)], [], h, 0, 0)
  have k0 := Kp.rf [(42, 37), (42, 38), (42, 39), (42, 40), (64, 0), (65, 0)] h
  refine ev_lconst ?_
  refine ev_lstore (L' := [(2, 42), (0, a1), (0, a2), (0, a3), (1, 0), (9, 0), (9, 0), (9, 0), (9, 0)]) (Nat.le_of_ble_eq_true rfl) rfl ?_
  refine ev_iconst ?_
  refine ev_istore (L' := [(2, 42), (0, a1), (0, a2), (0, a3), (1, 0), (9, 0), (0, 0), (9, 0), (9, 0)]) (Nat.le_of_ble_eq_true rfl) rfl ?_
  exact (s309_l la1 ua1 la2 ua2 la3 ua3 ew0 lw0 uw0 ew1 lw1 uw1 F0 64).1 _ _ _ _ _ g k0 (by omega) (by omega) (by omega) (by omega) (by omega) (by omega) (by omega) (by omega) (by omega) (by omega) (by omega)
set_option maxHeartbeats 4000000 in
theorem s310 {G : GH} {h : JH} (g : Gd G h) {a1 : Int} (la1 : 0 ≤ a1) (ua1 : a1 ≤ 5) {a2 : Int} (la2 : 0 ≤ a2) (ua2 : a2 ≤ 3) {w0 : Int} (ew0 : h.2.2 42 9 = w0) (lw0 : 0 ≤ w0) (uw0 : w0 ≤ 6) {w1 : Int} (ew1 : h.2.2 48 (a1).toNat = w1) (lw1 : 1 ≤ w1) (uw1 : w1 ≤ 100) (F0 : (a1 + (-w0)) ≤ (-1)) : jOk 205 0 0 310 [(2, 42), (0, a1), (0, a2)] h (PI G [(42, 37), (42, 38), (42, 39), (42, 40), (64, 0), (65, 0)] h 1 (-9223372036854775808) 9223372036854775807) := by
  refine ⟨by decide, by rw [ml310]; exact Nat.le_of_ble_eq_true rfl, ?_⟩
  rw [ml310, pp310]
  show jEv _ none _ c310_0 0 0 _ (c310_0, [(2, 42), (0, a1), (0, a2)], [], h, 0, 0)
  have k0 := Kp.rf [(42, 37), (42, 38), (42, 39), (42, 40), (64, 0), (65, 0)] h
  refine ev_aload_n rfl ?_
  refine ev_iload_n rfl ?_
  refine ev_iload_n rfl ?_
  refine ev_iconst ?_
  refine ev_call (jcall_v (A := [(0, (-1)), (0, a2), (0, a1)]) (S' := []) (r := 42) rfl (g.lt ad42) (g.tg ad42) (Nat.le_of_ble_eq_true rfl)) (jOk_le (by decide) (s309 g (by omega) (by omega) (by omega) (by omega) (by omega) (by omega) (ew0) (by omega) (by omega) (ew1) (by omega) (by omega) (by omega))) (by decide) (by decide) (fun w56421 h56421 q56421 => ?_)
  obtain ⟨v56422, rfl, lv56422, uv56422, g56421, kk56421⟩ := q56421
  have k56421 := k0.tr kk56421 (by decide)
  show jEv _ _ _ _ _ _ _ (_, [(2, 42), (0, a1), (0, a2)], [(1, v56422)], _, _, _)
  refine ev_aload_n rfl ?_
  refine ev_iload_n rfl ?_
  refine ev_iconst ?_
  refine ev_iconst ?_
  refine ev_iconst ?_
  refine ev_call (jcall_v (A := [(0, 0), (0, 0), (0, 0), (0, a1)]) (S' := [(1, v56422)]) (r := 42) rfl (g56421.lt ad42) (g56421.tg ad42) (Nat.le_of_ble_eq_true rfl)) (jOk_le (by decide) (s298 g56421 (by omega) (by omega) (by omega) (by omega) (by omega) (by omega) (by omega) (by omega) (((kk56421.v (by decide)).trans ew0)) (by omega) (by omega) (((kk56421.v rfl).trans ew1)) (by omega) (by omega) (by omega))) (by decide) (by decide) (fun w56423 h56423 q56423 => ?_)
  obtain ⟨q56423, qn56423, bk56423⟩ := q56423
  obtain ⟨v56424, rfl, lv56424, uv56424, g56423, kk56423⟩ := q56423
  have k56423 := k56421.tr kk56423 (by decide)
  show jEv _ _ _ _ _ _ _ (_, [(2, 42), (0, a1), (0, a2)], [(1, v56424), (1, v56422)], _, _, _)
  refine g_lsubG (fun v56425 ev56425 lv56425 uv56425 => ?_)
  exact ev_ret rfl (by decide) (by decide) ⟨_, rfl, by omega, by omega, g56423, k56423⟩
set_option maxHeartbeats 4000000 in
theorem s311_l {G : GH} {h : JH} {a1 : Int} (la1 : 0 ≤ a1) (ua1 : a1 ≤ 5) {w0 : Int} (ew0 : h.2.2 42 9 = w0) (lw0 : 0 ≤ w0) (uw0 : w0 ≤ 6) {w1 : Int} (ew1 : h.2.2 48 (a1).toNat = w1) (lw1 : 1 ≤ w1) (uw1 : w1 ≤ 100) (F0 : (a1 + (-w0)) ≤ (-1)) : ∀ N : Nat, (∀ (h1 : JH) (x2 x4 x6 y0 : Int), Gd G h1 → Kp [(42, 37), (42, 38), (42, 39), (42, 40), (64, 0), (65, 0)] h h1 → 0 ≤ a1 → a1 ≤ 5 → (-9223372036854775808) ≤ x2 → x2 ≤ 9223372036854775807 → (-9223372036854775808) ≤ x4 → x4 ≤ 9223372036854775807 → 0 ≤ x6 → x6 ≤ 81 → ((-a1) + y0) ≤ 0 → (a1 + (-y0)) ≤ 0 → h1.2.2 42 36 = y0 → 0 ≤ y0 → y0 ≤ 5 → ((-x6) + 81) < N → jEv (jOk 204) none (fun _ => 0) c311_0 0 0 (PI G [(42, 37), (42, 38), (42, 39), (42, 40), (64, 0), (65, 0)] h 1 (-9223372036854775808) 9223372036854775807) (c311_15, [(2, 42), (0, a1), (1, x2), (9, 0), (1, x4), (9, 0), (0, x6)], [], h1, 0, 0)) := by
  intro N
  induction N with
  | zero => exact fun h1 x2 x4 x6 y0 g1 k1 b0 b1 b2 b3 b4 b5 b6 b7 b8 b9 b10 b11 b12 hm => absurd hm (by omega)
  | succ N ih =>
    show _
    intro h1 x2 x4 x6 y0 g1 k1 b0 b1 b2 b3 b4 b5 b6 b7 b8 b9 ey0 ly0 uy0 hm
    refine ev_iload rfl ?_
    refine ev_aload_n rfl ?_
    obtain ⟨v56769, ev56769, lv56769, uv56769⟩ := g1.rd ad42 (show 5 < 66 by decide) rf42_5
    refine g_getv (r := 42) (v := v56769) g1 ad42 (by decide) ft12_5 ev56769 ?_
    refine ev_icmpge f311_56 (fun c56770 => ?_) (fun c56770 => ?_)
    · refine ev_lload rfl ?_
      refine ev_lload_n rfl ?_
      refine g_lsubG (fun v56771 ev56771 lv56771 uv56771 => ?_)
      exact ev_ret rfl (by decide) (by decide) ⟨_, rfl, by omega, by omega, g1, k1⟩
    · refine ev_lload rfl ?_
      refine ev_aload_n rfl ?_
      refine g_getp (r := 42) (c := 47) g1 ad42 (by decide) (by decide) rf42_7 ft12_7 ?_
      refine ev_iload rfl ?_
      refine g_lald g1 ad47 rt47 (by omega) (by omega) (fun v56772 ev56772 lv56772 uv56772 => ?_)
      refine ev_ldc2_w ?_
      refine g_lmulG (fun v56773 ev56773 lv56773 uv56773 => ?_)
      refine ev_aload_n rfl ?_
      refine ev_iconst ?_
      refine ev_iload rfl ?_
      refine ev_iconst ?_
      obtain ⟨v56774, ev56774, lv56774, uv56774⟩ := g1.rd ad48 (show (y0).toNat < 7 by omega) (rt48 _)
      have zv56774 := g1.n48 (q := y0) (by omega) (by rw [(((k1.v (by decide)).trans ew0))]; omega) ev56774
      refine ev_call (jcall_v (A := [(0, 0), (0, x6), (0, 0)]) (S' := [(1, v56773), (1, x4)]) (r := 42) rfl (g1.lt ad42) (g1.tg ad42) (Nat.le_of_ble_eq_true rfl)) (jOk_le (by decide) (s296 g1 (by omega) (by omega) (by omega) (by omega) (by omega) (by omega) (ey0) (by omega) (by omega) (((k1.v (by decide)).trans ew0)) (by omega) (by omega) ev56774 (by omega) (by omega) (by omega) (by omega) (by omega))) (by decide) (by decide) (fun w56775 h56775 q56775 => ?_)
      obtain ⟨v56776, rfl, lv56776, uv56776, g56775, kk56775⟩ := q56775
      have k56775 := k1.tr kk56775 (by decide)
      show jEv _ _ _ _ _ _ _ (_, [(2, 42), (0, a1), (1, x2), (9, 0), (1, x4), (9, 0), (0, x6)], [(0, v56776), (1, v56773), (1, x4)], _, _, _)
      refine ev_i2l ?_
      refine g_lmulG (fun v56777 ev56777 lv56777 uv56777 => ?_)
      refine g_laddG (fun v56778 ev56778 lv56778 uv56778 => ?_)
      refine ev_lstore (L' := [(2, 42), (0, a1), (1, x2), (9, 0), (1, v56778), (9, 0), (0, x6)]) (Nat.le_of_ble_eq_true rfl) rfl ?_
      refine ev_iinc (w := (x6 + 1)) (L' := [(2, 42), (0, a1), (1, x2), (9, 0), (1, v56778), (9, 0), (0, (x6 + 1))]) rfl (by unfold w32; omega) rfl ?_
      refine ev_goto f311_15 ?_
      exact ih _ _ _ _ _ g56775 k56775 (by omega) (by omega) (by omega) (by omega) (by omega) (by omega) (by omega) (by omega) (by omega) (by omega) (((kk56775.v (by decide)).trans ey0)) (by omega) (by omega) (by omega)
set_option maxHeartbeats 4000000 in
theorem s311 {G : GH} {h : JH} (g : Gd G h) {a1 : Int} (la1 : 0 ≤ a1) (ua1 : a1 ≤ 5) {w0 : Int} (ew0 : h.2.2 42 9 = w0) (lw0 : 0 ≤ w0) (uw0 : w0 ≤ 6) {w1 : Int} (ew1 : h.2.2 48 (a1).toNat = w1) (lw1 : 1 ≤ w1) (uw1 : w1 ≤ 100) (F0 : (a1 + (-w0)) ≤ (-1)) : jOk 205 0 0 311 [(2, 42), (0, a1)] h (PI G [(42, 37), (42, 38), (42, 39), (42, 40), (64, 0), (65, 0)] h 1 (-9223372036854775808) 9223372036854775807) := by
  refine ⟨by decide, by rw [ml311]; exact Nat.le_of_ble_eq_true rfl, ?_⟩
  rw [ml311, pp311]
  show jEv _ none _ c311_0 0 0 _ (c311_0, [(2, 42), (0, a1), (9, 0), (9, 0), (9, 0), (9, 0), (9, 0)], [], h, 0, 0)
  have k0 := Kp.rf [(42, 37), (42, 38), (42, 39), (42, 40), (64, 0), (65, 0)] h
  refine ev_aload_n rfl ?_
  refine ev_iload_n rfl ?_
  refine ev_iconst ?_
  refine ev_iconst ?_
  refine ev_iconst ?_
  refine ev_call (jcall_v (A := [(0, 0), (0, 0), (0, 0), (0, a1)]) (S' := []) (r := 42) rfl (g.lt ad42) (g.tg ad42) (Nat.le_of_ble_eq_true rfl)) (jOk_le (by decide) (s298 g (by omega) (by omega) (by omega) (by omega) (by omega) (by omega) (by omega) (by omega) (ew0) (by omega) (by omega) (ew1) (by omega) (by omega) (by omega))) (by decide) (by decide) (fun w56779 h56779 q56779 => ?_)
  obtain ⟨q56779, qn56779, bk56779⟩ := q56779
  obtain ⟨v56780, rfl, lv56780, uv56780, g56779, kk56779⟩ := q56779
  have k56779 := k0.tr kk56779 (by decide)
  show jEv _ _ _ _ _ _ _ (_, [(2, 42), (0, a1), (9, 0), (9, 0), (9, 0), (9, 0), (9, 0)], [(1, v56780)], _, _, _)
  refine ev_lstore_n (L' := [(2, 42), (0, a1), (1, v56780), (9, 0), (9, 0), (9, 0), (9, 0)]) (Nat.le_of_ble_eq_true rfl) rfl ?_
  refine ev_lconst ?_
  refine ev_lstore (L' := [(2, 42), (0, a1), (1, v56780), (9, 0), (1, 0), (9, 0), (9, 0)]) (Nat.le_of_ble_eq_true rfl) rfl ?_
  refine ev_iconst ?_
  refine ev_istore (L' := [(2, 42), (0, a1), (1, v56780), (9, 0), (1, 0), (9, 0), (0, 0)]) (Nat.le_of_ble_eq_true rfl) rfl ?_
  exact (s311_l la1 ua1 ew0 lw0 uw0 ew1 lw1 uw1 F0 164) _ _ _ _ _ g56779 k56779 (by omega) (by omega) (by omega) (by omega) (by omega) (by omega) (by omega) (by omega) (by omega) (by omega) (qn56779) (by omega) (by omega) (by omega)
set_option maxHeartbeats 4000000 in
theorem s312 {G : GH} {h : JH} (g : Gd G h) {a1 : Int} (la1 : (-2147483648) ≤ a1) (ua1 : a1 ≤ 2147483647) {a2 : Int} (la2 : (-2147483648) ≤ a2) (ua2 : a2 ≤ 2147483647) {a3 : Int} (la3 : (-2147483648) ≤ a3) (ua3 : a3 ≤ 2147483647) : jOk 206 0 0 312 [(2, 42), (0, a1), (0, a2), (0, a3)] h (PI G [(46, 0), (47, 0), (42, 6), (42, 9), (42, 37), (42, 38), (42, 39), (42, 40), (64, 0), (65, 0)] h 1 (-9223372036854775808) 9223372036854775807) := by
  refine ⟨by decide, by rw [ml312]; exact Nat.le_of_ble_eq_true rfl, ?_⟩
  rw [ml312, pp312]
  show jEv _ none _ c312_0 0 0 _ (c312_0, [(2, 42), (0, a1), (0, a2), (0, a3)], [], h, 0, 0)
  have k0 := Kp.rf [(46, 0), (47, 0), (42, 6), (42, 9), (42, 37), (42, 38), (42, 39), (42, 40), (64, 0), (65, 0)] h
  refine ev_aload_n rfl ?_
  refine ev_iload_n rfl ?_
  refine ev_in (d := 204) (a := 0) (b := 0) (cd' := c261_0) (m := 2) (L0 := [(2, 42), (0, a1)]) (jcall_v (A := [(0, a1)]) (S' := []) (r := 42) rfl (g.lt ad42) (g.tg ad42) (Nat.le_of_ble_eq_true rfl)) (by decide) ml261 pp261 (Nat.le_of_ble_eq_true rfl) rfl (by decide) (by decide) ?_
  refine ev_iload_n rfl ?_
  refine ev_iconst ?_
  refine ev_aload_n rfl ?_
  obtain ⟨v56871, ev56871, lv56871, uv56871⟩ := g.rd ad42 (show 9 < 66 by decide) rf42_9
  refine g_getv (r := 42) (v := v56871) g ad42 (by decide) ft12_9 ev56871 ?_
  refine ev_iconst ?_
  refine ev_isub (r := (v56871 - 1)) (by unfold w32; omega) ?_
  refine ev_in (d := 203) (a := 0) (b := 0) (cd' := c242_0) (m := 3) (L0 := [(0, a1), (0, 0), (0, (v56871 - 1))]) (jcall_s (A := [(0, (v56871 - 1)), (0, 0), (0, a1)]) (S' := []) (by decide) rfl (Nat.le_of_ble_eq_true rfl)) (by decide) ml242 pp242 (Nat.le_of_ble_eq_true rfl) rfl (by decide) (by decide) ?_
  refine ev_iload_n rfl ?_
  refine ev_iload_n rfl ?_
  refine ev_icmplt f242_14 (fun c56872 => ?_) (fun c56872 => ?_)
  · refine ev_iconst ?_
    refine ev_ret rfl (by decide) (by decide) ?_
    show jEv _ _ _ _ _ _ _ (_, [(2, 42), (0, a1)], [(0, 0)], _, _, _)
    refine ev_ret rfl (by decide) (by decide) ?_
    show jEv _ _ _ _ _ _ _ (_, [(2, 42), (0, a1), (0, a2), (0, a3)], [(0, 0)], _, _, _)
    refine ev_ifeq f312_30 (fun c56873 => ?_) (fun c56873 => absurd c56873 (by omega))
    refine ev_ldc2_w ?_
    exact ev_ret rfl (by decide) (by decide) ⟨_, rfl, by omega, by omega, g, k0⟩
  · refine ev_iload_n rfl ?_
    refine ev_iload_n rfl ?_
    refine ev_icmpgt f242_14 (fun c56874 => ?_) (fun c56874 => ?_)
    · refine ev_iconst ?_
      refine ev_ret rfl (by decide) (by decide) ?_
      show jEv _ _ _ _ _ _ _ (_, [(2, 42), (0, a1)], [(0, 0)], _, _, _)
      refine ev_ret rfl (by decide) (by decide) ?_
      show jEv _ _ _ _ _ _ _ (_, [(2, 42), (0, a1), (0, a2), (0, a3)], [(0, 0)], _, _, _)
      refine ev_ifeq f312_30 (fun c56875 => ?_) (fun c56875 => absurd c56875 (by omega))
      refine ev_ldc2_w ?_
      exact ev_ret rfl (by decide) (by decide) ⟨_, rfl, by omega, by omega, g, k0⟩
    · refine ev_iconst ?_
      refine ev_goto f242_15 ?_
      refine ev_ret rfl (by decide) (by decide) ?_
      show jEv _ _ _ _ _ _ _ (_, [(2, 42), (0, a1)], [(0, 1)], _, _, _)
      refine ev_ret rfl (by decide) (by decide) ?_
      show jEv _ _ _ _ _ _ _ (_, [(2, 42), (0, a1), (0, a2), (0, a3)], [(0, 1)], _, _, _)
      refine ev_ifeq f312_30 (fun c56876 => absurd c56876 (by omega)) (fun c56876 => ?_)
      refine ev_iload_n rfl ?_
      refine ev_iconst ?_
      refine ev_icmpeq f312_21 (fun c56877 => ?_) (fun c56877 => ?_)
      · refine ev_iload_n rfl ?_
        refine ev_iconst ?_
        refine ev_iconst ?_
        refine ev_in (d := 204) (a := 0) (b := 0) (cd' := c242_0) (m := 3) (L0 := [(0, a3), (0, 0), (0, 1)]) (jcall_s (A := [(0, 1), (0, 0), (0, a3)]) (S' := []) (by decide) rfl (Nat.le_of_ble_eq_true rfl)) (by decide) ml242 pp242 (Nat.le_of_ble_eq_true rfl) rfl (by decide) (by decide) ?_
        refine ev_iload_n rfl ?_
        refine ev_iload_n rfl ?_
        refine ev_icmplt f242_14 (fun c56878 => ?_) (fun c56878 => ?_)
        · refine ev_iconst ?_
          refine ev_ret rfl (by decide) (by decide) ?_
          show jEv _ _ _ _ _ _ _ (_, [(2, 42), (0, a1), (0, a2), (0, a3)], [(0, 0)], _, _, _)
          refine ev_ifne f312_34 (fun c56879 => absurd c56879 (by omega)) (fun c56879 => ?_)
          refine ev_ldc2_w ?_
          exact ev_ret rfl (by decide) (by decide) ⟨_, rfl, by omega, by omega, g, k0⟩
        · refine ev_iload_n rfl ?_
          refine ev_iload_n rfl ?_
          refine ev_icmpgt f242_14 (fun c56880 => ?_) (fun c56880 => ?_)
          · refine ev_iconst ?_
            refine ev_ret rfl (by decide) (by decide) ?_
            show jEv _ _ _ _ _ _ _ (_, [(2, 42), (0, a1), (0, a2), (0, a3)], [(0, 0)], _, _, _)
            refine ev_ifne f312_34 (fun c56881 => absurd c56881 (by omega)) (fun c56881 => ?_)
            refine ev_ldc2_w ?_
            exact ev_ret rfl (by decide) (by decide) ⟨_, rfl, by omega, by omega, g, k0⟩
          · refine ev_iconst ?_
            refine ev_goto f242_15 ?_
            refine ev_ret rfl (by decide) (by decide) ?_
            show jEv _ _ _ _ _ _ _ (_, [(2, 42), (0, a1), (0, a2), (0, a3)], [(0, 1)], _, _, _)
            refine ev_ifne f312_34 (fun c56882 => ?_) (fun c56882 => absurd c56882 (by omega))
            refine ev_aload_n rfl ?_
            refine ev_call (jcall_v (A := []) (S' := []) (r := 42) rfl (g.lt ad42) (g.tg ad42) (Nat.le_of_ble_eq_true rfl)) (jOk_le (by decide) (s256 g )) (by decide) (by decide) (fun w56883 h56883 q56883 => ?_)
            obtain ⟨v56884, rfl, lv56884, uv56884, g56883, kk56883⟩ := q56883
            have k56883 := k0.tr kk56883 (by decide)
            show jEv _ _ _ _ _ _ _ (_, [(2, 42), (0, a1), (0, a2), (0, a3)], [(0, v56884)], _, _, _)
            refine ev_ifne f312_45 (fun c56885 => ?_) (fun c56885 => ?_)
            · refine ev_iload_n rfl ?_
              refine ev_ifge f312_57 (fun c56886 => absurd c56886 (by omega)) (fun c56886 => ?_)
              refine ev_aload_n rfl ?_
              refine ev_iload_n rfl ?_
              obtain ⟨v56887, ev56887, lv56887, uv56887⟩ := g56883.rd ad48 (show (a1).toNat < 7 by omega) (rt48 _)
              have zv56887 := g56883.n48 (q := a1) (by omega) (by rw [(((kk56883.v (by decide)).trans ev56871))]; omega) ev56887
              refine ev_call (jcall_v (A := [(0, a1)]) (S' := []) (r := 42) rfl (g56883.lt ad42) (g56883.tg ad42) (Nat.le_of_ble_eq_true rfl)) (jOk_le (by decide) (s311 g56883 (by omega) (by omega) (((kk56883.v (by decide)).trans ev56871)) (by omega) (by omega) ev56887 (by omega) (by omega) (by omega))) (by decide) (by decide) (fun w56888 h56888 q56888 => ?_)
              obtain ⟨v56889, rfl, lv56889, uv56889, g56888, kk56888⟩ := q56888
              have k56888 := k56883.tr kk56888 (by decide)
              show jEv _ _ _ _ _ _ _ (_, [(2, 42), (0, a1), (0, a2), (0, a3)], [(1, v56889)], _, _, _)
              refine ev_goto f312_63 ?_
              refine ev_ldc2_w ?_
              refine ev_aload_n rfl ?_
              obtain ⟨v56890, ev56890, lv56890, uv56890⟩ := g56888.rd ad42 (show 8 < 66 by decide) rf42_8
              refine g_getv (r := 42) (v := v56890) g56888 ad42 (by decide) ft12_8 ev56890 ?_
              refine g_lmulG (fun v56891 ev56891 lv56891 uv56891 => ?_)
              refine ev_iload_n rfl ?_
              refine ev_call (jcall_s (A := [(0, a3), (1, v56891), (1, v56889)]) (S' := []) (by decide) rfl (Nat.le_of_ble_eq_true rfl)) (jOk_le (by decide) (s244 g56888 (by omega) (by omega) (by omega) (by omega) (by omega) (by omega))) (by decide) (by decide) (fun w56892 h56892 q56892 => ?_)
              obtain ⟨v56893, rfl, lv56893, uv56893, g56892, kk56892⟩ := q56892
              have k56892 := k56888.tr kk56892 (by decide)
              show jEv _ _ _ _ _ _ _ (_, [(2, 42), (0, a1), (0, a2), (0, a3)], [(1, v56893)], _, _, _)
              exact ev_ret rfl (by decide) (by decide) ⟨_, rfl, by omega, by omega, g56892, k56892⟩
            · refine ev_ldc2_w ?_
              exact ev_ret rfl (by decide) (by decide) ⟨_, rfl, by omega, by omega, g56883, k56883⟩
      · refine ev_aload_n rfl ?_
        refine ev_iload_n rfl ?_
        refine ev_in (d := 204) (a := 0) (b := 0) (cd' := c245_0) (m := 2) (L0 := [(2, 42), (0, a2)]) (jcall_v (A := [(0, a2)]) (S' := []) (r := 42) rfl (g.lt ad42) (g.tg ad42) (Nat.le_of_ble_eq_true rfl)) (by decide) ml245 pp245 (Nat.le_of_ble_eq_true rfl) rfl (by decide) (by decide) ?_
        refine ev_iload_n rfl ?_
        refine ev_iconst ?_
        refine ev_aload_n rfl ?_
        obtain ⟨v56894, ev56894, lv56894, uv56894⟩ := g.rd ad42 (show 1 < 66 by decide) rf42_1
        refine g_getv (r := 42) (v := v56894) g ad42 (by decide) ft12_1 ev56894 ?_
        refine ev_iconst ?_
        refine ev_isub (r := (v56894 - 1)) (by unfold w32; omega) ?_
        refine ev_in (d := 203) (a := 0) (b := 0) (cd' := c242_0) (m := 3) (L0 := [(0, a2), (0, 0), (0, (v56894 - 1))]) (jcall_s (A := [(0, (v56894 - 1)), (0, 0), (0, a2)]) (S' := []) (by decide) rfl (Nat.le_of_ble_eq_true rfl)) (by decide) ml242 pp242 (Nat.le_of_ble_eq_true rfl) rfl (by decide) (by decide) ?_
        refine ev_iload_n rfl ?_
        refine ev_iload_n rfl ?_
        refine ev_icmplt f242_14 (fun c56895 => ?_) (fun c56895 => ?_)
        · refine ev_iconst ?_
          refine ev_ret rfl (by decide) (by decide) ?_
          show jEv _ _ _ _ _ _ _ (_, [(2, 42), (0, a2)], [(0, 0)], _, _, _)
          refine ev_ret rfl (by decide) (by decide) ?_
          show jEv _ _ _ _ _ _ _ (_, [(2, 42), (0, a1), (0, a2), (0, a3)], [(0, 0)], _, _, _)
          refine ev_ifeq f312_30 (fun c56896 => ?_) (fun c56896 => absurd c56896 (by omega))
          refine ev_ldc2_w ?_
          exact ev_ret rfl (by decide) (by decide) ⟨_, rfl, by omega, by omega, g, k0⟩
        · refine ev_iload_n rfl ?_
          refine ev_iload_n rfl ?_
          refine ev_icmpgt f242_14 (fun c56897 => ?_) (fun c56897 => ?_)
          · refine ev_iconst ?_
            refine ev_ret rfl (by decide) (by decide) ?_
            show jEv _ _ _ _ _ _ _ (_, [(2, 42), (0, a2)], [(0, 0)], _, _, _)
            refine ev_ret rfl (by decide) (by decide) ?_
            show jEv _ _ _ _ _ _ _ (_, [(2, 42), (0, a1), (0, a2), (0, a3)], [(0, 0)], _, _, _)
            refine ev_ifeq f312_30 (fun c56898 => ?_) (fun c56898 => absurd c56898 (by omega))
            refine ev_ldc2_w ?_
            exact ev_ret rfl (by decide) (by decide) ⟨_, rfl, by omega, by omega, g, k0⟩
          · refine ev_iconst ?_
            refine ev_goto f242_15 ?_
            refine ev_ret rfl (by decide) (by decide) ?_
            show jEv _ _ _ _ _ _ _ (_, [(2, 42), (0, a2)], [(0, 1)], _, _, _)
            refine ev_ret rfl (by decide) (by decide) ?_
            show jEv _ _ _ _ _ _ _ (_, [(2, 42), (0, a1), (0, a2), (0, a3)], [(0, 1)], _, _, _)
            refine ev_ifeq f312_30 (fun c56899 => absurd c56899 (by omega)) (fun c56899 => ?_)
            refine ev_iload_n rfl ?_
            refine ev_iconst ?_
            refine ev_iconst ?_
            refine ev_in (d := 204) (a := 0) (b := 0) (cd' := c242_0) (m := 3) (L0 := [(0, a3), (0, 0), (0, 1)]) (jcall_s (A := [(0, 1), (0, 0), (0, a3)]) (S' := []) (by decide) rfl (Nat.le_of_ble_eq_true rfl)) (by decide) ml242 pp242 (Nat.le_of_ble_eq_true rfl) rfl (by decide) (by decide) ?_
            refine ev_iload_n rfl ?_
            refine ev_iload_n rfl ?_
            refine ev_icmplt f242_14 (fun c56900 => ?_) (fun c56900 => ?_)
            · refine ev_iconst ?_
              refine ev_ret rfl (by decide) (by decide) ?_
              show jEv _ _ _ _ _ _ _ (_, [(2, 42), (0, a1), (0, a2), (0, a3)], [(0, 0)], _, _, _)
              refine ev_ifne f312_34 (fun c56901 => absurd c56901 (by omega)) (fun c56901 => ?_)
              refine ev_ldc2_w ?_
              exact ev_ret rfl (by decide) (by decide) ⟨_, rfl, by omega, by omega, g, k0⟩
            · refine ev_iload_n rfl ?_
              refine ev_iload_n rfl ?_
              refine ev_icmpgt f242_14 (fun c56902 => ?_) (fun c56902 => ?_)
              · refine ev_iconst ?_
                refine ev_ret rfl (by decide) (by decide) ?_
                show jEv _ _ _ _ _ _ _ (_, [(2, 42), (0, a1), (0, a2), (0, a3)], [(0, 0)], _, _, _)
                refine ev_ifne f312_34 (fun c56903 => absurd c56903 (by omega)) (fun c56903 => ?_)
                refine ev_ldc2_w ?_
                exact ev_ret rfl (by decide) (by decide) ⟨_, rfl, by omega, by omega, g, k0⟩
              · refine ev_iconst ?_
                refine ev_goto f242_15 ?_
                refine ev_ret rfl (by decide) (by decide) ?_
                show jEv _ _ _ _ _ _ _ (_, [(2, 42), (0, a1), (0, a2), (0, a3)], [(0, 1)], _, _, _)
                refine ev_ifne f312_34 (fun c56904 => ?_) (fun c56904 => absurd c56904 (by omega))
                refine ev_aload_n rfl ?_
                refine ev_call (jcall_v (A := []) (S' := []) (r := 42) rfl (g.lt ad42) (g.tg ad42) (Nat.le_of_ble_eq_true rfl)) (jOk_le (by decide) (s256 g )) (by decide) (by decide) (fun w56905 h56905 q56905 => ?_)
                obtain ⟨v56906, rfl, lv56906, uv56906, g56905, kk56905⟩ := q56905
                have k56905 := k0.tr kk56905 (by decide)
                show jEv _ _ _ _ _ _ _ (_, [(2, 42), (0, a1), (0, a2), (0, a3)], [(0, v56906)], _, _, _)
                refine ev_ifne f312_45 (fun c56907 => ?_) (fun c56907 => ?_)
                · refine ev_iload_n rfl ?_
                  refine ev_ifge f312_57 (fun c56908 => ?_) (fun c56908 => absurd c56908 (by omega))
                  refine ev_aload_n rfl ?_
                  refine ev_iload_n rfl ?_
                  refine ev_iload_n rfl ?_
                  obtain ⟨v56909, ev56909, lv56909, uv56909⟩ := g56905.rd ad48 (show (a1).toNat < 7 by omega) (rt48 _)
                  have zv56909 := g56905.n48 (q := a1) (by omega) (by rw [(((kk56905.v (by decide)).trans ev56871))]; omega) ev56909
                  refine ev_call (jcall_v (A := [(0, a2), (0, a1)]) (S' := []) (r := 42) rfl (g56905.lt ad42) (g56905.tg ad42) (Nat.le_of_ble_eq_true rfl)) (jOk_le (by decide) (s310 g56905 (by omega) (by omega) (by omega) (by omega) (((kk56905.v (by decide)).trans ev56871)) (by omega) (by omega) ev56909 (by omega) (by omega) (by omega))) (by decide) (by decide) (fun w56910 h56910 q56910 => ?_)
                  obtain ⟨v56911, rfl, lv56911, uv56911, g56910, kk56910⟩ := q56910
                  have k56910 := k56905.tr kk56910 (by decide)
                  show jEv _ _ _ _ _ _ _ (_, [(2, 42), (0, a1), (0, a2), (0, a3)], [(1, v56911)], _, _, _)
                  refine ev_ldc2_w ?_
                  refine ev_aload_n rfl ?_
                  obtain ⟨v56912, ev56912, lv56912, uv56912⟩ := g56910.rd ad42 (show 8 < 66 by decide) rf42_8
                  refine g_getv (r := 42) (v := v56912) g56910 ad42 (by decide) ft12_8 ev56912 ?_
                  refine g_lmulG (fun v56913 ev56913 lv56913 uv56913 => ?_)
                  refine ev_iload_n rfl ?_
                  refine ev_call (jcall_s (A := [(0, a3), (1, v56913), (1, v56911)]) (S' := []) (by decide) rfl (Nat.le_of_ble_eq_true rfl)) (jOk_le (by decide) (s244 g56910 (by omega) (by omega) (by omega) (by omega) (by omega) (by omega))) (by decide) (by decide) (fun w56914 h56914 q56914 => ?_)
                  obtain ⟨v56915, rfl, lv56915, uv56915, g56914, kk56914⟩ := q56914
                  have k56914 := k56910.tr kk56914 (by decide)
                  show jEv _ _ _ _ _ _ _ (_, [(2, 42), (0, a1), (0, a2), (0, a3)], [(1, v56915)], _, _, _)
                  exact ev_ret rfl (by decide) (by decide) ⟨_, rfl, by omega, by omega, g56914, k56914⟩
                · refine ev_ldc2_w ?_
                  exact ev_ret rfl (by decide) (by decide) ⟨_, rfl, by omega, by omega, g56905, k56905⟩
set_option maxHeartbeats 4000000 in
theorem s313 {G : GH} {h : JH} (g : Gd G h) {a1 : Int} (la1 : (-2147483648) ≤ a1) (ua1 : a1 ≤ 2147483647) {a2 : Int} (la2 : (-2147483648) ≤ a2) (ua2 : a2 ≤ 2147483647) {a3 : Int} (la3 : (-2147483648) ≤ a3) (ua3 : a3 ≤ 2147483647) {a4 : Int} (la4 : (-2147483648) ≤ a4) (ua4 : a4 ≤ 2147483647) : jOk 206 0 0 313 [(2, 42), (0, a1), (0, a2), (0, a3), (0, a4)] h (PI G [(46, 0), (47, 0), (42, 6), (42, 9), (42, 37), (42, 38), (42, 39), (42, 40), (64, 0), (65, 0)] h 1 (-9223372036854775808) 9223372036854775807) := by
  refine ⟨by decide, by rw [ml313]; exact Nat.le_of_ble_eq_true rfl, ?_⟩
  rw [ml313, pp313]
  show jEv _ none _ c313_0 0 0 _ (c313_0, [(2, 42), (0, a1), (0, a2), (0, a3), (0, a4), (9, 0), (9, 0)], [], h, 0, 0)
  have k0 := Kp.rf [(46, 0), (47, 0), (42, 6), (42, 9), (42, 37), (42, 38), (42, 39), (42, 40), (64, 0), (65, 0)] h
  refine ev_aload_n rfl ?_
  refine ev_iload_n rfl ?_
  refine ev_in (d := 204) (a := 0) (b := 0) (cd' := c261_0) (m := 2) (L0 := [(2, 42), (0, a1)]) (jcall_v (A := [(0, a1)]) (S' := []) (r := 42) rfl (g.lt ad42) (g.tg ad42) (Nat.le_of_ble_eq_true rfl)) (by decide) ml261 pp261 (Nat.le_of_ble_eq_true rfl) rfl (by decide) (by decide) ?_
  refine ev_iload_n rfl ?_
  refine ev_iconst ?_
  refine ev_aload_n rfl ?_
  obtain ⟨v57000, ev57000, lv57000, uv57000⟩ := g.rd ad42 (show 9 < 66 by decide) rf42_9
  refine g_getv (r := 42) (v := v57000) g ad42 (by decide) ft12_9 ev57000 ?_
  refine ev_iconst ?_
  refine ev_isub (r := (v57000 - 1)) (by unfold w32; omega) ?_
  refine ev_in (d := 203) (a := 0) (b := 0) (cd' := c242_0) (m := 3) (L0 := [(0, a1), (0, 0), (0, (v57000 - 1))]) (jcall_s (A := [(0, (v57000 - 1)), (0, 0), (0, a1)]) (S' := []) (by decide) rfl (Nat.le_of_ble_eq_true rfl)) (by decide) ml242 pp242 (Nat.le_of_ble_eq_true rfl) rfl (by decide) (by decide) ?_
  refine ev_iload_n rfl ?_
  refine ev_iload_n rfl ?_
  refine ev_icmplt f242_14 (fun c57001 => ?_) (fun c57001 => ?_)
  · refine ev_iconst ?_
    refine ev_ret rfl (by decide) (by decide) ?_
    show jEv _ _ _ _ _ _ _ (_, [(2, 42), (0, a1)], [(0, 0)], _, _, _)
    refine ev_ret rfl (by decide) (by decide) ?_
    show jEv _ _ _ _ _ _ _ (_, [(2, 42), (0, a1), (0, a2), (0, a3), (0, a4), (9, 0), (9, 0)], [(0, 0)], _, _, _)
    refine ev_ifeq f313_39 (fun c57002 => ?_) (fun c57002 => absurd c57002 (by omega))
    refine ev_ldc2_w ?_
    exact ev_ret rfl (by decide) (by decide) ⟨_, rfl, by omega, by omega, g, k0⟩
  · refine ev_iload_n rfl ?_
    refine ev_iload_n rfl ?_
    refine ev_icmpgt f242_14 (fun c57003 => ?_) (fun c57003 => ?_)
    · refine ev_iconst ?_
      refine ev_ret rfl (by decide) (by decide) ?_
      show jEv _ _ _ _ _ _ _ (_, [(2, 42), (0, a1)], [(0, 0)], _, _, _)
      refine ev_ret rfl (by decide) (by decide) ?_
      show jEv _ _ _ _ _ _ _ (_, [(2, 42), (0, a1), (0, a2), (0, a3), (0, a4), (9, 0), (9, 0)], [(0, 0)], _, _, _)
      refine ev_ifeq f313_39 (fun c57004 => ?_) (fun c57004 => absurd c57004 (by omega))
      refine ev_ldc2_w ?_
      exact ev_ret rfl (by decide) (by decide) ⟨_, rfl, by omega, by omega, g, k0⟩
    · refine ev_iconst ?_
      refine ev_goto f242_15 ?_
      refine ev_ret rfl (by decide) (by decide) ?_
      show jEv _ _ _ _ _ _ _ (_, [(2, 42), (0, a1)], [(0, 1)], _, _, _)
      refine ev_ret rfl (by decide) (by decide) ?_
      show jEv _ _ _ _ _ _ _ (_, [(2, 42), (0, a1), (0, a2), (0, a3), (0, a4), (9, 0), (9, 0)], [(0, 1)], _, _, _)
      refine ev_ifeq f313_39 (fun c57005 => absurd c57005 (by omega)) (fun c57005 => ?_)
      refine ev_aload_n rfl ?_
      refine ev_iload_n rfl ?_
      refine ev_in (d := 204) (a := 0) (b := 0) (cd' := c245_0) (m := 2) (L0 := [(2, 42), (0, a2)]) (jcall_v (A := [(0, a2)]) (S' := []) (r := 42) rfl (g.lt ad42) (g.tg ad42) (Nat.le_of_ble_eq_true rfl)) (by decide) ml245 pp245 (Nat.le_of_ble_eq_true rfl) rfl (by decide) (by decide) ?_
      refine ev_iload_n rfl ?_
      refine ev_iconst ?_
      refine ev_aload_n rfl ?_
      obtain ⟨v57006, ev57006, lv57006, uv57006⟩ := g.rd ad42 (show 1 < 66 by decide) rf42_1
      refine g_getv (r := 42) (v := v57006) g ad42 (by decide) ft12_1 ev57006 ?_
      refine ev_iconst ?_
      refine ev_isub (r := (v57006 - 1)) (by unfold w32; omega) ?_
      refine ev_in (d := 203) (a := 0) (b := 0) (cd' := c242_0) (m := 3) (L0 := [(0, a2), (0, 0), (0, (v57006 - 1))]) (jcall_s (A := [(0, (v57006 - 1)), (0, 0), (0, a2)]) (S' := []) (by decide) rfl (Nat.le_of_ble_eq_true rfl)) (by decide) ml242 pp242 (Nat.le_of_ble_eq_true rfl) rfl (by decide) (by decide) ?_
      refine ev_iload_n rfl ?_
      refine ev_iload_n rfl ?_
      refine ev_icmplt f242_14 (fun c57007 => ?_) (fun c57007 => ?_)
      · refine ev_iconst ?_
        refine ev_ret rfl (by decide) (by decide) ?_
        show jEv _ _ _ _ _ _ _ (_, [(2, 42), (0, a2)], [(0, 0)], _, _, _)
        refine ev_ret rfl (by decide) (by decide) ?_
        show jEv _ _ _ _ _ _ _ (_, [(2, 42), (0, a1), (0, a2), (0, a3), (0, a4), (9, 0), (9, 0)], [(0, 0)], _, _, _)
        refine ev_ifeq f313_39 (fun c57008 => ?_) (fun c57008 => absurd c57008 (by omega))
        refine ev_ldc2_w ?_
        exact ev_ret rfl (by decide) (by decide) ⟨_, rfl, by omega, by omega, g, k0⟩
      · refine ev_iload_n rfl ?_
        refine ev_iload_n rfl ?_
        refine ev_icmpgt f242_14 (fun c57009 => ?_) (fun c57009 => ?_)
        · refine ev_iconst ?_
          refine ev_ret rfl (by decide) (by decide) ?_
          show jEv _ _ _ _ _ _ _ (_, [(2, 42), (0, a2)], [(0, 0)], _, _, _)
          refine ev_ret rfl (by decide) (by decide) ?_
          show jEv _ _ _ _ _ _ _ (_, [(2, 42), (0, a1), (0, a2), (0, a3), (0, a4), (9, 0), (9, 0)], [(0, 0)], _, _, _)
          refine ev_ifeq f313_39 (fun c57010 => ?_) (fun c57010 => absurd c57010 (by omega))
          refine ev_ldc2_w ?_
          exact ev_ret rfl (by decide) (by decide) ⟨_, rfl, by omega, by omega, g, k0⟩
        · refine ev_iconst ?_
          refine ev_goto f242_15 ?_
          refine ev_ret rfl (by decide) (by decide) ?_
          show jEv _ _ _ _ _ _ _ (_, [(2, 42), (0, a2)], [(0, 1)], _, _, _)
          refine ev_ret rfl (by decide) (by decide) ?_
          show jEv _ _ _ _ _ _ _ (_, [(2, 42), (0, a1), (0, a2), (0, a3), (0, a4), (9, 0), (9, 0)], [(0, 1)], _, _, _)
          refine ev_ifeq f313_39 (fun c57011 => absurd c57011 (by omega)) (fun c57011 => ?_)
          refine ev_aload_n rfl ?_
          refine ev_iload_n rfl ?_
          refine ev_in (d := 204) (a := 0) (b := 0) (cd' := c245_0) (m := 2) (L0 := [(2, 42), (0, a3)]) (jcall_v (A := [(0, a3)]) (S' := []) (r := 42) rfl (g.lt ad42) (g.tg ad42) (Nat.le_of_ble_eq_true rfl)) (by decide) ml245 pp245 (Nat.le_of_ble_eq_true rfl) rfl (by decide) (by decide) ?_
          refine ev_iload_n rfl ?_
          refine ev_iconst ?_
          refine ev_aload_n rfl ?_
          refine g_getv (r := 42) (v := v57006) g ad42 (by decide) ft12_1 (ev57006) ?_
          refine ev_iconst ?_
          refine ev_isub (r := (v57006 - 1)) (by unfold w32; omega) ?_
          refine ev_in (d := 203) (a := 0) (b := 0) (cd' := c242_0) (m := 3) (L0 := [(0, a3), (0, 0), (0, (v57006 - 1))]) (jcall_s (A := [(0, (v57006 - 1)), (0, 0), (0, a3)]) (S' := []) (by decide) rfl (Nat.le_of_ble_eq_true rfl)) (by decide) ml242 pp242 (Nat.le_of_ble_eq_true rfl) rfl (by decide) (by decide) ?_
          refine ev_iload_n rfl ?_
          refine ev_iload_n rfl ?_
          refine ev_icmplt f242_14 (fun c57012 => ?_) (fun c57012 => ?_)
          · refine ev_iconst ?_
            refine ev_ret rfl (by decide) (by decide) ?_
            show jEv _ _ _ _ _ _ _ (_, [(2, 42), (0, a3)], [(0, 0)], _, _, _)
            refine ev_ret rfl (by decide) (by decide) ?_
            show jEv _ _ _ _ _ _ _ (_, [(2, 42), (0, a1), (0, a2), (0, a3), (0, a4), (9, 0), (9, 0)], [(0, 0)], _, _, _)
            refine ev_ifeq f313_39 (fun c57013 => ?_) (fun c57013 => absurd c57013 (by omega))
            refine ev_ldc2_w ?_
            exact ev_ret rfl (by decide) (by decide) ⟨_, rfl, by omega, by omega, g, k0⟩
          · refine ev_iload_n rfl ?_
            refine ev_iload_n rfl ?_
            refine ev_icmpgt f242_14 (fun c57014 => ?_) (fun c57014 => ?_)
            · refine ev_iconst ?_
              refine ev_ret rfl (by decide) (by decide) ?_
              show jEv _ _ _ _ _ _ _ (_, [(2, 42), (0, a3)], [(0, 0)], _, _, _)
              refine ev_ret rfl (by decide) (by decide) ?_
              show jEv _ _ _ _ _ _ _ (_, [(2, 42), (0, a1), (0, a2), (0, a3), (0, a4), (9, 0), (9, 0)], [(0, 0)], _, _, _)
              refine ev_ifeq f313_39 (fun c57015 => ?_) (fun c57015 => absurd c57015 (by omega))
              refine ev_ldc2_w ?_
              exact ev_ret rfl (by decide) (by decide) ⟨_, rfl, by omega, by omega, g, k0⟩
            · refine ev_iconst ?_
              refine ev_goto f242_15 ?_
              refine ev_ret rfl (by decide) (by decide) ?_
              show jEv _ _ _ _ _ _ _ (_, [(2, 42), (0, a3)], [(0, 1)], _, _, _)
              refine ev_ret rfl (by decide) (by decide) ?_
              show jEv _ _ _ _ _ _ _ (_, [(2, 42), (0, a1), (0, a2), (0, a3), (0, a4), (9, 0), (9, 0)], [(0, 1)], _, _, _)
              refine ev_ifeq f313_39 (fun c57016 => absurd c57016 (by omega)) (fun c57016 => ?_)
              refine ev_iload_n rfl ?_
              refine ev_iload_n rfl ?_
              refine ev_icmpeq f313_39 (fun c57017 => ?_) (fun c57017 => ?_)
              · refine ev_ldc2_w ?_
                exact ev_ret rfl (by decide) (by decide) ⟨_, rfl, by omega, by omega, g, k0⟩
              · refine ev_iload rfl ?_
                refine ev_iconst ?_
                refine ev_iconst ?_
                refine ev_in (d := 204) (a := 0) (b := 0) (cd' := c242_0) (m := 3) (L0 := [(0, a4), (0, 0), (0, 1)]) (jcall_s (A := [(0, 1), (0, 0), (0, a4)]) (S' := []) (by decide) rfl (Nat.le_of_ble_eq_true rfl)) (by decide) ml242 pp242 (Nat.le_of_ble_eq_true rfl) rfl (by decide) (by decide) ?_
                refine ev_iload_n rfl ?_
                refine ev_iload_n rfl ?_
                refine ev_icmplt f242_14 (fun c57018 => ?_) (fun c57018 => ?_)
                · refine ev_iconst ?_
                  refine ev_ret rfl (by decide) (by decide) ?_
                  show jEv _ _ _ _ _ _ _ (_, [(2, 42), (0, a1), (0, a2), (0, a3), (0, a4), (9, 0), (9, 0)], [(0, 0)], _, _, _)
                  refine ev_ifne f313_43 (fun c57019 => absurd c57019 (by omega)) (fun c57019 => ?_)
                  refine ev_ldc2_w ?_
                  exact ev_ret rfl (by decide) (by decide) ⟨_, rfl, by omega, by omega, g, k0⟩
                · refine ev_iload_n rfl ?_
                  refine ev_iload_n rfl ?_
                  refine ev_icmpgt f242_14 (fun c57020 => ?_) (fun c57020 => ?_)
                  · refine ev_iconst ?_
                    refine ev_ret rfl (by decide) (by decide) ?_
                    show jEv _ _ _ _ _ _ _ (_, [(2, 42), (0, a1), (0, a2), (0, a3), (0, a4), (9, 0), (9, 0)], [(0, 0)], _, _, _)
                    refine ev_ifne f313_43 (fun c57021 => absurd c57021 (by omega)) (fun c57021 => ?_)
                    refine ev_ldc2_w ?_
                    exact ev_ret rfl (by decide) (by decide) ⟨_, rfl, by omega, by omega, g, k0⟩
                  · refine ev_iconst ?_
                    refine ev_goto f242_15 ?_
                    refine ev_ret rfl (by decide) (by decide) ?_
                    show jEv _ _ _ _ _ _ _ (_, [(2, 42), (0, a1), (0, a2), (0, a3), (0, a4), (9, 0), (9, 0)], [(0, 1)], _, _, _)
                    refine ev_ifne f313_43 (fun c57022 => ?_) (fun c57022 => absurd c57022 (by omega))
                    refine ev_aload_n rfl ?_
                    refine ev_call (jcall_v (A := []) (S' := []) (r := 42) rfl (g.lt ad42) (g.tg ad42) (Nat.le_of_ble_eq_true rfl)) (jOk_le (by decide) (s256 g )) (by decide) (by decide) (fun w57023 h57023 q57023 => ?_)
                    obtain ⟨v57024, rfl, lv57024, uv57024, g57023, kk57023⟩ := q57023
                    have k57023 := k0.tr kk57023 (by decide)
                    show jEv _ _ _ _ _ _ _ (_, [(2, 42), (0, a1), (0, a2), (0, a3), (0, a4), (9, 0), (9, 0)], [(0, v57024)], _, _, _)
                    refine ev_ifne f313_54 (fun c57025 => ?_) (fun c57025 => ?_)
                    · refine ev_aload_n rfl ?_
                      refine ev_iload_n rfl ?_
                      refine ev_iload_n rfl ?_
                      refine ev_iload_n rfl ?_
                      obtain ⟨v57026, ev57026, lv57026, uv57026⟩ := g57023.rd ad48 (show (a1).toNat < 7 by omega) (rt48 _)
                      have zv57026 := g57023.n48 (q := a1) (by omega) (by rw [(((kk57023.v (by decide)).trans ev57000))]; omega) ev57026
                      refine ev_call (jcall_v (A := [(0, a3), (0, a2), (0, a1)]) (S' := []) (r := 42) rfl (g57023.lt ad42) (g57023.tg ad42) (Nat.le_of_ble_eq_true rfl)) (jOk_le (by decide) (s309 g57023 (by omega) (by omega) (by omega) (by omega) (by omega) (by omega) (((kk57023.v (by decide)).trans ev57000)) (by omega) (by omega) ev57026 (by omega) (by omega) (by omega))) (by decide) (by decide) (fun w57027 h57027 q57027 => ?_)
                      obtain ⟨v57028, rfl, lv57028, uv57028, g57027, kk57027⟩ := q57027
                      have k57027 := k57023.tr kk57027 (by decide)
                      show jEv _ _ _ _ _ _ _ (_, [(2, 42), (0, a1), (0, a2), (0, a3), (0, a4), (9, 0), (9, 0)], [(1, v57028)], _, _, _)
                      refine ev_aload_n rfl ?_
                      refine ev_iload_n rfl ?_
                      refine ev_iconst ?_
                      refine ev_iconst ?_
                      refine ev_iconst ?_
                      refine ev_call (jcall_v (A := [(0, 0), (0, 0), (0, 0), (0, a1)]) (S' := [(1, v57028)]) (r := 42) rfl (g57027.lt ad42) (g57027.tg ad42) (Nat.le_of_ble_eq_true rfl)) (jOk_le (by decide) (s298 g57027 (by omega) (by omega) (by omega) (by omega) (by omega) (by omega) (by omega) (by omega) (((kk57027.v (by decide)).trans ((kk57023.v (by decide)).trans ev57000))) (by omega) (by omega) (((kk57027.v rfl).trans ev57026)) (by omega) (by omega) (by omega))) (by decide) (by decide) (fun w57029 h57029 q57029 => ?_)
                      obtain ⟨q57029, qn57029, bk57029⟩ := q57029
                      obtain ⟨v57030, rfl, lv57030, uv57030, g57029, kk57029⟩ := q57029
                      have k57029 := k57027.tr kk57029 (by decide)
                      show jEv _ _ _ _ _ _ _ (_, [(2, 42), (0, a1), (0, a2), (0, a3), (0, a4), (9, 0), (9, 0)], [(1, v57030), (1, v57028)], _, _, _)
                      refine g_lsubG (fun v57031 ev57031 lv57031 uv57031 => ?_)
                      refine ev_lstore (L' := [(2, 42), (0, a1), (0, a2), (0, a3), (0, a4), (1, v57031), (9, 0)]) (Nat.le_of_ble_eq_true rfl) rfl ?_
                      refine ev_lload rfl ?_
                      refine ev_aload_n rfl ?_
                      refine ev_iload_n rfl ?_
                      refine ev_iload_n rfl ?_
                      refine ev_call (jcall_v (A := [(0, a2), (0, a1)]) (S' := [(1, v57031)]) (r := 42) rfl (g57029.lt ad42) (g57029.tg ad42) (Nat.le_of_ble_eq_true rfl)) (jOk_le (by decide) (s310 g57029 (by omega) (by omega) (by omega) (by omega) (((kk57029.v (by decide)).trans ((kk57027.v (by decide)).trans ((kk57023.v (by decide)).trans ev57000)))) (by omega) (by omega) (((kk57029.v rfl).trans ((kk57027.v rfl).trans ev57026))) (by omega) (by omega) (by omega))) (by decide) (by decide) (fun w57032 h57032 q57032 => ?_)
                      obtain ⟨v57033, rfl, lv57033, uv57033, g57032, kk57032⟩ := q57032
                      have k57032 := k57029.tr kk57032 (by decide)
                      show jEv _ _ _ _ _ _ _ (_, [(2, 42), (0, a1), (0, a2), (0, a3), (0, a4), (1, v57031), (9, 0)], [(1, v57033), (1, v57031)], _, _, _)
                      refine g_lsubG (fun v57034 ev57034 lv57034 uv57034 => ?_)
                      refine ev_aload_n rfl ?_
                      refine ev_iload_n rfl ?_
                      refine ev_iload_n rfl ?_
                      refine ev_call (jcall_v (A := [(0, a3), (0, a1)]) (S' := [(1, v57034)]) (r := 42) rfl (g57032.lt ad42) (g57032.tg ad42) (Nat.le_of_ble_eq_true rfl)) (jOk_le (by decide) (s310 g57032 (by omega) (by omega) (by omega) (by omega) (((kk57032.v (by decide)).trans ((kk57029.v (by decide)).trans ((kk57027.v (by decide)).trans ((kk57023.v (by decide)).trans ev57000))))) (by omega) (by omega) (((kk57032.v rfl).trans ((kk57029.v rfl).trans ((kk57027.v rfl).trans ev57026)))) (by omega) (by omega) (by omega))) (by decide) (by decide) (fun w57035 h57035 q57035 => ?_)
                      obtain ⟨v57036, rfl, lv57036, uv57036, g57035, kk57035⟩ := q57035
                      have k57035 := k57032.tr kk57035 (by decide)
                      show jEv _ _ _ _ _ _ _ (_, [(2, 42), (0, a1), (0, a2), (0, a3), (0, a4), (1, v57031), (9, 0)], [(1, v57036), (1, v57034)], _, _, _)
                      refine g_lsubG (fun v57037 ev57037 lv57037 uv57037 => ?_)
                      refine ev_ldc2_w ?_
                      refine ev_aload_n rfl ?_
                      obtain ⟨v57038, ev57038, lv57038, uv57038⟩ := g57035.rd ad42 (show 8 < 66 by decide) rf42_8
                      refine g_getv (r := 42) (v := v57038) g57035 ad42 (by decide) ft12_8 ev57038 ?_
                      refine g_lmulG (fun v57039 ev57039 lv57039 uv57039 => ?_)
                      refine ev_iload rfl ?_
                      refine ev_call (jcall_s (A := [(0, a4), (1, v57039), (1, v57037)]) (S' := []) (by decide) rfl (Nat.le_of_ble_eq_true rfl)) (jOk_le (by decide) (s244 g57035 (by omega) (by omega) (by omega) (by omega) (by omega) (by omega))) (by decide) (by decide) (fun w57040 h57040 q57040 => ?_)
                      obtain ⟨v57041, rfl, lv57041, uv57041, g57040, kk57040⟩ := q57040
                      have k57040 := k57035.tr kk57040 (by decide)
                      show jEv _ _ _ _ _ _ _ (_, [(2, 42), (0, a1), (0, a2), (0, a3), (0, a4), (1, v57031), (9, 0)], [(1, v57041)], _, _, _)
                      exact ev_ret rfl (by decide) (by decide) ⟨_, rfl, by omega, by omega, g57040, k57040⟩
                    · refine ev_ldc2_w ?_
                      exact ev_ret rfl (by decide) (by decide) ⟨_, rfl, by omega, by omega, g57023, k57023⟩
set_option maxHeartbeats 4000000 in
theorem s314_l {G : GH} {h : JH} {a1 : Int} (la1 : (-2147483648) ≤ a1) (ua1 : a1 ≤ 2147483647) : ∀ N : Nat, (∀ (h1 : JH) (x2 x3 y0 y1 y2 : Int), Gd G h1 → Kp [(46, 0), (47, 0), (42, 6), (42, 9), (42, 37), (42, 38), (42, 39), (42, 40), (64, 0), (65, 0)] h h1 → 0 ≤ a1 → a1 ≤ 5 → 0 ≤ x2 → x2 ≤ 3 → 1 ≤ x3 → x3 ≤ 4 → (a1 + (-y0)) ≤ (-1) → (x2 + (-y2)) ≤ (-1) → h1.2.2 42 9 = y0 → 0 ≤ y0 → y0 ≤ 6 → h1.2.2 48 (a1).toNat = y1 → 1 ≤ y1 → y1 ≤ 100 → h1.2.2 42 1 = y2 → 0 ≤ y2 → y2 ≤ 4 → ((-x3) + 4) < N → jEv (jOk 205) none (fun _ => 0) c314_0 0 0 (PI G [(46, 0), (47, 0), (42, 6), (42, 9), (42, 37), (42, 38), (42, 39), (42, 40), (64, 0), (65, 0)] h 0 (-4) 3) (c314_31, [(2, 42), (0, a1), (0, x2), (0, x3)], [], h1, 0, 0)) := by
  intro N
  induction N with
  | zero => exact fun h1 x2 x3 y0 y1 y2 g1 k1 b0 b1 b2 b3 b4 b5 b6 b7 b8 b9 b10 b11 b12 b13 b14 b15 b16 hm => absurd hm (by omega)
  | succ N ih =>
    show _
    intro h1 x2 x3 y0 y1 y2 g1 k1 b0 b1 b2 b3 b4 b5 b6 b7 ey0 ly0 uy0 ey1 ly1 uy1 ey2 ly2 uy2 hm
    refine ev_iload_n rfl ?_
    refine ev_aload_n rfl ?_
    refine g_getv (r := 42) (v := y2) g1 ad42 (by decide) ft12_1 (ey2) ?_
    refine ev_icmpge f314_63 (fun c57096 => ?_) (fun c57096 => ?_)
    · refine ev_iload_n rfl ?_
      exact ev_ret rfl (by decide) (by decide) ⟨_, rfl, by omega, by omega, g1, k1⟩
    · refine ev_aload_n rfl ?_
      refine ev_iload_n rfl ?_
      refine ev_iload_n rfl ?_
      refine ev_call (jcall_v (A := [(0, x3), (0, a1)]) (S' := []) (r := 42) rfl (g1.lt ad42) (g1.tg ad42) (Nat.le_of_ble_eq_true rfl)) (jOk_le (by decide) (s310 g1 (by omega) (by omega) (by omega) (by omega) (ey0) (by omega) (by omega) (ey1) (by omega) (by omega) (by omega))) (by decide) (by decide) (fun w57097 h57097 q57097 => ?_)
      obtain ⟨v57098, rfl, lv57098, uv57098, g57097, kk57097⟩ := q57097
      have k57097 := k1.tr kk57097 (by decide)
      show jEv _ _ _ _ _ _ _ (_, [(2, 42), (0, a1), (0, x2), (0, x3)], [(1, v57098)], _, _, _)
      refine ev_aload_n rfl ?_
      refine ev_iload_n rfl ?_
      refine ev_iload_n rfl ?_
      refine ev_call (jcall_v (A := [(0, x2), (0, a1)]) (S' := [(1, v57098)]) (r := 42) rfl (g57097.lt ad42) (g57097.tg ad42) (Nat.le_of_ble_eq_true rfl)) (jOk_le (by decide) (s310 g57097 (by omega) (by omega) (by omega) (by omega) (((kk57097.v (by decide)).trans ey0)) (by omega) (by omega) (((kk57097.v rfl).trans ey1)) (by omega) (by omega) (by omega))) (by decide) (by decide) (fun w57099 h57099 q57099 => ?_)
      obtain ⟨v57100, rfl, lv57100, uv57100, g57099, kk57099⟩ := q57099
      have k57099 := k57097.tr kk57099 (by decide)
      show jEv _ _ _ _ _ _ _ (_, [(2, 42), (0, a1), (0, x2), (0, x3)], [(1, v57100), (1, v57098)], _, _, _)
      refine ev_lcmp ?_
      refine ev_ifle f314_57 (fun c57101 => ?_) (fun c57101 => ?_)
      · have c57101b := jcmpL_le c57101
        refine ev_iinc (w := (x3 + 1)) (L' := [(2, 42), (0, a1), (0, x2), (0, (x3 + 1))]) rfl (by unfold w32; omega) rfl ?_
        refine ev_goto f314_31 ?_
        exact ih _ _ _ _ _ _ g57099 k57099 (by omega) (by omega) (by omega) (by omega) (by omega) (by omega) (by omega) (by omega) (((kk57099.v (by decide)).trans ((kk57097.v (by decide)).trans ey0))) (by omega) (by omega) (((kk57099.v rfl).trans ((kk57097.v rfl).trans ey1))) (by omega) (by omega) (((kk57099.v (by decide)).trans ((kk57097.v (by decide)).trans ey2))) (by omega) (by omega) (by omega)
      · have c57101b := jcmpL_leN c57101
        refine ev_iload_n rfl ?_
        refine ev_istore_n (L' := [(2, 42), (0, a1), (0, x3), (0, x3)]) (Nat.le_of_ble_eq_true rfl) rfl ?_
        refine ev_iinc (w := (x3 + 1)) (L' := [(2, 42), (0, a1), (0, x3), (0, (x3 + 1))]) rfl (by unfold w32; omega) rfl ?_
        refine ev_goto f314_31 ?_
        exact ih _ _ _ _ _ _ g57099 k57099 (by omega) (by omega) (by omega) (by omega) (by omega) (by omega) (by omega) (by omega) (((kk57099.v (by decide)).trans ((kk57097.v (by decide)).trans ey0))) (by omega) (by omega) (((kk57099.v rfl).trans ((kk57097.v rfl).trans ey1))) (by omega) (by omega) (((kk57099.v (by decide)).trans ((kk57097.v (by decide)).trans ey2))) (by omega) (by omega) (by omega)
set_option maxHeartbeats 4000000 in
theorem s314 {G : GH} {h : JH} (g : Gd G h) {a1 : Int} (la1 : (-2147483648) ≤ a1) (ua1 : a1 ≤ 2147483647) : jOk 206 0 0 314 [(2, 42), (0, a1)] h (PI G [(46, 0), (47, 0), (42, 6), (42, 9), (42, 37), (42, 38), (42, 39), (42, 40), (64, 0), (65, 0)] h 0 (-4) 3) := by
  refine ⟨by decide, by rw [ml314]; exact Nat.le_of_ble_eq_true rfl, ?_⟩
  rw [ml314, pp314]
  show jEv _ none _ c314_0 0 0 _ (c314_0, [(2, 42), (0, a1), (9, 0), (9, 0)], [], h, 0, 0)
  have k0 := Kp.rf [(46, 0), (47, 0), (42, 6), (42, 9), (42, 37), (42, 38), (42, 39), (42, 40), (64, 0), (65, 0)] h
  refine ev_aload_n rfl ?_
  refine ev_iload_n rfl ?_
  refine ev_in (d := 204) (a := 0) (b := 0) (cd' := c261_0) (m := 2) (L0 := [(2, 42), (0, a1)]) (jcall_v (A := [(0, a1)]) (S' := []) (r := 42) rfl (g.lt ad42) (g.tg ad42) (Nat.le_of_ble_eq_true rfl)) (by decide) ml261 pp261 (Nat.le_of_ble_eq_true rfl) rfl (by decide) (by decide) ?_
  refine ev_iload_n rfl ?_
  refine ev_iconst ?_
  refine ev_aload_n rfl ?_
  obtain ⟨v57102, ev57102, lv57102, uv57102⟩ := g.rd ad42 (show 9 < 66 by decide) rf42_9
  refine g_getv (r := 42) (v := v57102) g ad42 (by decide) ft12_9 ev57102 ?_
  refine ev_iconst ?_
  refine ev_isub (r := (v57102 - 1)) (by unfold w32; omega) ?_
  refine ev_in (d := 203) (a := 0) (b := 0) (cd' := c242_0) (m := 3) (L0 := [(0, a1), (0, 0), (0, (v57102 - 1))]) (jcall_s (A := [(0, (v57102 - 1)), (0, 0), (0, a1)]) (S' := []) (by decide) rfl (Nat.le_of_ble_eq_true rfl)) (by decide) ml242 pp242 (Nat.le_of_ble_eq_true rfl) rfl (by decide) (by decide) ?_
  refine ev_iload_n rfl ?_
  refine ev_iload_n rfl ?_
  refine ev_icmplt f242_14 (fun c57103 => ?_) (fun c57103 => ?_)
  · refine ev_iconst ?_
    refine ev_ret rfl (by decide) (by decide) ?_
    show jEv _ _ _ _ _ _ _ (_, [(2, 42), (0, a1)], [(0, 0)], _, _, _)
    refine ev_ret rfl (by decide) (by decide) ?_
    show jEv _ _ _ _ _ _ _ (_, [(2, 42), (0, a1), (9, 0), (9, 0)], [(0, 0)], _, _, _)
    refine ev_ifeq f314_15 (fun c57104 => ?_) (fun c57104 => absurd c57104 (by omega))
    refine ev_iconst ?_
    exact ev_ret rfl (by decide) (by decide) ⟨_, rfl, by omega, by omega, g, k0⟩
  · refine ev_iload_n rfl ?_
    refine ev_iload_n rfl ?_
    refine ev_icmpgt f242_14 (fun c57105 => ?_) (fun c57105 => ?_)
    · refine ev_iconst ?_
      refine ev_ret rfl (by decide) (by decide) ?_
      show jEv _ _ _ _ _ _ _ (_, [(2, 42), (0, a1)], [(0, 0)], _, _, _)
      refine ev_ret rfl (by decide) (by decide) ?_
      show jEv _ _ _ _ _ _ _ (_, [(2, 42), (0, a1), (9, 0), (9, 0)], [(0, 0)], _, _, _)
      refine ev_ifeq f314_15 (fun c57106 => ?_) (fun c57106 => absurd c57106 (by omega))
      refine ev_iconst ?_
      exact ev_ret rfl (by decide) (by decide) ⟨_, rfl, by omega, by omega, g, k0⟩
    · refine ev_iconst ?_
      refine ev_goto f242_15 ?_
      refine ev_ret rfl (by decide) (by decide) ?_
      show jEv _ _ _ _ _ _ _ (_, [(2, 42), (0, a1)], [(0, 1)], _, _, _)
      refine ev_ret rfl (by decide) (by decide) ?_
      show jEv _ _ _ _ _ _ _ (_, [(2, 42), (0, a1), (9, 0), (9, 0)], [(0, 1)], _, _, _)
      refine ev_ifeq f314_15 (fun c57107 => absurd c57107 (by omega)) (fun c57107 => ?_)
      refine ev_aload_n rfl ?_
      obtain ⟨v57108, ev57108, lv57108, uv57108⟩ := g.rd ad42 (show 1 < 66 by decide) rf42_1
      refine g_getv (r := 42) (v := v57108) g ad42 (by decide) ft12_1 ev57108 ?_
      refine ev_ifne f314_17 (fun c57109 => ?_) (fun c57109 => ?_)
      · refine ev_aload_n rfl ?_
        refine ev_call (jcall_v (A := []) (S' := []) (r := 42) rfl (g.lt ad42) (g.tg ad42) (Nat.le_of_ble_eq_true rfl)) (jOk_le (by decide) (s256 g )) (by decide) (by decide) (fun w57110 h57110 q57110 => ?_)
        obtain ⟨v57111, rfl, lv57111, uv57111, g57110, kk57110⟩ := q57110
        have k57110 := k0.tr kk57110 (by decide)
        show jEv _ _ _ _ _ _ _ (_, [(2, 42), (0, a1), (9, 0), (9, 0)], [(0, v57111)], _, _, _)
        refine ev_ifne f314_27 (fun c57112 => ?_) (fun c57112 => ?_)
        · refine ev_iconst ?_
          refine ev_istore_n (L' := [(2, 42), (0, a1), (0, 0), (9, 0)]) (Nat.le_of_ble_eq_true rfl) rfl ?_
          refine ev_iconst ?_
          refine ev_istore_n (L' := [(2, 42), (0, a1), (0, 0), (0, 1)]) (Nat.le_of_ble_eq_true rfl) rfl ?_
          obtain ⟨v57113, ev57113, lv57113, uv57113⟩ := g57110.rd ad48 (show (a1).toNat < 7 by omega) (rt48 _)
          have zv57113 := g57110.n48 (q := a1) (by omega) (by rw [(((kk57110.v (by decide)).trans ev57102))]; omega) ev57113
          exact (s314_l la1 ua1 8) _ _ _ _ _ _ g57110 k57110 (by omega) (by omega) (by omega) (by omega) (by omega) (by omega) (by omega) (by omega) (((kk57110.v (by decide)).trans ev57102)) (by omega) (by omega) ev57113 (by omega) (by omega) (((kk57110.v (by decide)).trans ev57108)) (by omega) (by omega) (by omega)
        · refine ev_bipush ?_
          exact ev_ret rfl (by decide) (by decide) ⟨_, rfl, by omega, by omega, g57110, k57110⟩
      · refine ev_iconst ?_
        exact ev_ret rfl (by decide) (by decide) ⟨_, rfl, by omega, by omega, g, k0⟩
set_option maxHeartbeats 4000000 in
theorem s315_l {G : GH} {h : JH} {a1 : Int} (la1 : 0 ≤ a1) (ua1 : a1 ≤ 5) {w0 : Int} (ew0 : h.2.2 42 9 = w0) (lw0 : 0 ≤ w0) (uw0 : w0 ≤ 6) {w1 : Int} (ew1 : h.2.2 48 (a1).toNat = w1) (lw1 : 1 ≤ w1) (uw1 : w1 ≤ 100) (F0 : (a1 + (-w0)) ≤ (-1)) : ∀ N : Nat, (∀ (h1 : JH) (x2 : Int), Gd G h1 → Kp [] h h1 → 0 ≤ a1 → a1 ≤ 5 → 0 ≤ x2 → x2 ≤ 100 → ((-x2) + 100) < N → jEv (jOk 0) none (fun _ => 0) c315_0 0 0 (PI G [] h 0 (-1) 99) (c315_2, [(2, 42), (0, a1), (0, x2)], [], h1, 0, 0)) := by
  intro N
  induction N with
  | zero => exact fun h1 x2 g1 k1 b0 b1 b2 b3 hm => absurd hm (by omega)
  | succ N ih =>
    show _
    intro h1 x2 g1 k1 b0 b1 b2 b3 hm
    refine ev_iload_n rfl ?_
    refine ev_aload_n rfl ?_
    refine g_getp (r := 42) (c := 48) g1 ad42 (by decide) (by decide) rf42_10 ft12_10 ?_
    refine ev_iload_n rfl ?_
    refine g_ialdv (v := w1) g1 ad48 (by omega) (by omega) (((k1.v rfl).trans ew1)) ?_
    refine ev_icmpge f315_35 (fun c57231 => ?_) (fun c57231 => ?_)
    · refine ev_iconst ?_
      exact ev_ret rfl (by decide) (by decide) ⟨_, rfl, by omega, by omega, g1, k1⟩
    · refine ev_aload_n rfl ?_
      refine g_getp (r := 42) (c := 49) g1 ad42 (by decide) (by decide) rf42_11 ft12_11 ?_
      refine ev_bipush ?_
      refine ev_iload_n rfl ?_
      refine ev_imul (r := (100 * a1)) (by unfold w32; omega) ?_
      refine ev_iload_n rfl ?_
      refine ev_iadd (r := (100 * a1 + x2)) (by unfold w32; omega) ?_
      refine g_bald g1 ad49 rt49 (by omega) (by omega) (fun v57232 ev57232 lv57232 uv57232 => ?_)
      refine ev_iconst ?_
      refine ev_icmpne f315_29 (fun c57233 => ?_) (fun c57233 => ?_)
      · refine ev_iinc (w := (x2 + 1)) (L' := [(2, 42), (0, a1), (0, (x2 + 1))]) rfl (by unfold w32; omega) rfl ?_
        refine ev_goto f315_2 ?_
        exact ih _ _ g1 k1 (by omega) (by omega) (by omega) (by omega) (by omega)
      · refine ev_iload_n rfl ?_
        exact ev_ret rfl (by decide) (by decide) ⟨_, rfl, by omega, by omega, g1, k1⟩
set_option maxHeartbeats 4000000 in
theorem s315 {G : GH} {h : JH} (g : Gd G h) {a1 : Int} (la1 : 0 ≤ a1) (ua1 : a1 ≤ 5) {w0 : Int} (ew0 : h.2.2 42 9 = w0) (lw0 : 0 ≤ w0) (uw0 : w0 ≤ 6) {w1 : Int} (ew1 : h.2.2 48 (a1).toNat = w1) (lw1 : 1 ≤ w1) (uw1 : w1 ≤ 100) (F0 : (a1 + (-w0)) ≤ (-1)) : jOk 1 0 0 315 [(2, 42), (0, a1)] h (PI G [] h 0 (-1) 99) := by
  refine ⟨by decide, by rw [ml315]; exact Nat.le_of_ble_eq_true rfl, ?_⟩
  rw [ml315, pp315]
  show jEv _ none _ c315_0 0 0 _ (c315_0, [(2, 42), (0, a1), (9, 0)], [], h, 0, 0)
  have k0 := Kp.rf [] h
  refine ev_iconst ?_
  refine ev_istore_n (L' := [(2, 42), (0, a1), (0, 0)]) (Nat.le_of_ble_eq_true rfl) rfl ?_
  exact (s315_l la1 ua1 ew0 lw0 uw0 ew1 lw1 uw1 F0 202) _ _ g k0 (by omega) (by omega) (by omega) (by omega) (by omega)
set_option maxHeartbeats 4000000 in
theorem s316 {G : GH} {h : JH} (g : Gd G h) {a1 : Int} (la1 : 0 ≤ a1) (ua1 : a1 ≤ 5) {w0 : Int} (ew0 : h.2.2 42 9 = w0) (lw0 : 0 ≤ w0) (uw0 : w0 ≤ 6) {w1 : Int} (ew1 : h.2.2 48 (a1).toNat = w1) (lw1 : 1 ≤ w1) (uw1 : w1 ≤ 100) (F0 : (a1 + (-w0)) ≤ (-1)) : jOk 205 0 0 316 [(2, 42), (0, a1)] h (PI G [(46, 0), (47, 0), (42, 6), (42, 9), (42, 37), (42, 38), (42, 39), (42, 40), (64, 0), (65, 0)] h 0 (-4) 3) := by
  refine ⟨by decide, by rw [ml316]; exact Nat.le_of_ble_eq_true rfl, ?_⟩
  rw [ml316, pp316]
  show jEv _ none _ c316_0 0 0 _ (c316_0, [(2, 42), (0, a1), (9, 0)], [], h, 0, 0)
  have k0 := Kp.rf [(46, 0), (47, 0), (42, 6), (42, 9), (42, 37), (42, 38), (42, 39), (42, 40), (64, 0), (65, 0)] h
  refine ev_aload_n rfl ?_
  refine ev_iload_n rfl ?_
  refine ev_call (jcall_v (A := [(0, a1)]) (S' := []) (r := 42) rfl (g.lt ad42) (g.tg ad42) (Nat.le_of_ble_eq_true rfl)) (jOk_le (by decide) (s315 g (by omega) (by omega) (ew0) (by omega) (by omega) (ew1) (by omega) (by omega) (by omega))) (by decide) (by decide) (fun w57252 h57252 q57252 => ?_)
  obtain ⟨v57253, rfl, lv57253, uv57253, g57252, kk57252⟩ := q57252
  have k57252 := k0.tr kk57252 (by decide)
  show jEv _ _ _ _ _ _ _ (_, [(2, 42), (0, a1), (9, 0)], [(0, v57253)], _, _, _)
  refine ev_istore_n (L' := [(2, 42), (0, a1), (0, v57253)]) (Nat.le_of_ble_eq_true rfl) rfl ?_
  refine ev_iload_n rfl ?_
  refine ev_ifge f316_12 (fun c57254 => ?_) (fun c57254 => ?_)
  · refine ev_aload_n rfl ?_
    refine ev_call (jcall_v (A := []) (S' := []) (r := 42) rfl (g57252.lt ad42) (g57252.tg ad42) (Nat.le_of_ble_eq_true rfl)) (jOk_le (by decide) (s256 g57252 )) (by decide) (by decide) (fun w57255 h57255 q57255 => ?_)
    obtain ⟨v57256, rfl, lv57256, uv57256, g57255, kk57255⟩ := q57255
    have k57255 := k57252.tr kk57255 (by decide)
    show jEv _ _ _ _ _ _ _ (_, [(2, 42), (0, a1), (0, v57253)], [(0, v57256)], _, _, _)
    refine ev_ifne f316_22 (fun c57257 => ?_) (fun c57257 => ?_)
    · refine ev_aload_n rfl ?_
      refine ev_iload_n rfl ?_
      refine ev_iconst ?_
      refine ev_iconst ?_
      refine ev_iconst ?_
      refine ev_call (jcall_v (A := [(0, 0), (0, 0), (0, 0), (0, a1)]) (S' := []) (r := 42) rfl (g57255.lt ad42) (g57255.tg ad42) (Nat.le_of_ble_eq_true rfl)) (jOk_le (by decide) (s298 g57255 (by omega) (by omega) (by omega) (by omega) (by omega) (by omega) (by omega) (by omega) (((kk57255.v (by decide)).trans ((kk57252.v (by decide)).trans ew0))) (by omega) (by omega) (((kk57255.v rfl).trans ((kk57252.v rfl).trans ew1))) (by omega) (by omega) (by omega))) (by decide) (by decide) (fun w57258 h57258 q57258 => ?_)
      obtain ⟨q57258, qn57258, bk57258⟩ := q57258
      obtain ⟨v57259, rfl, lv57259, uv57259, g57258, kk57258⟩ := q57258
      have k57258 := k57255.tr kk57258 (by decide)
      show jEv _ _ _ _ _ _ _ (_, [(2, 42), (0, a1), (0, v57253)], [(1, v57259)], _, _, _)
      refine ev_pop2 ?_
      refine ev_aload_n rfl ?_
      refine g_getp (r := 42) (c := 65) g57258 ad42 (by decide) (by decide) rf42_35 ft12_35 ?_
      refine ev_iload_n rfl ?_
      refine g_bald g57258 ad65 rt65 (by omega) (by omega) (fun v57260 ev57260 lv57260 uv57260 => ?_)
      exact ev_ret rfl (by decide) (by decide) ⟨_, rfl, by omega, by omega, g57258, k57258⟩
    · refine ev_bipush ?_
      exact ev_ret rfl (by decide) (by decide) ⟨_, rfl, by omega, by omega, g57255, k57255⟩
  · refine ev_iconst ?_
    exact ev_ret rfl (by decide) (by decide) ⟨_, rfl, by omega, by omega, g57252, k57252⟩
