set_option maxHeartbeats 4000000 in
theorem s292_l {G : GH} {h : JH} {a1 : Int} (la1 : 0 ≤ a1) (ua1 : a1 ≤ 80) : ∀ N : Nat, (∀ (h1 : JH) (x2 : Int), Gd G h1 → Kp [] h h1 → 0 ≤ a1 → a1 ≤ 80 → 0 ≤ x2 → x2 ≤ 4 → ((-x2) + 4) < N → jEv (jOk 0) none (fun _ => 0) c292_0 0 0 (PI G [] h 0 0 1) (c292_2, [(2, 42), (0, a1), (0, x2)], [], h1, 0, 0)) := by
  intro N
  induction N with
  | zero => exact fun h1 x2 g1 k1 b0 b1 b2 b3 hm => absurd hm (by omega)
  | succ N ih =>
    show _
    intro h1 x2 g1 k1 b0 b1 b2 b3 hm
    refine ev_iload_n rfl ?_
    refine ev_aload_n rfl ?_
    obtain ⟨v54311, ev54311, lv54311, uv54311⟩ := g1.rd ad42 (show 1 < 66 by decide) rf42_1
    refine g_getv (r := 42) (v := v54311) g1 ad42 (by decide) ft12_1 ev54311 ?_
    refine ev_icmpge f292_46 (fun c54312 => ?_) (fun c54312 => ?_)
    · refine ev_iconst ?_
      exact ev_ret rfl (by decide) (by decide) ⟨_, rfl, by omega, by omega, g1, k1⟩
    · refine ev_aload_n rfl ?_
      refine g_getp (r := 42) (c := 64) g1 ad42 (by decide) (by decide) rf42_34 ft12_34 ?_
      refine ev_iload_n rfl ?_
      refine g_iald g1 ad64 rt64 (by omega) (by omega) (fun v54313 ev54313 lv54313 uv54313 => ?_)
      refine ev_iflt f292_40 (fun c54314 => ?_) (fun c54314 => ?_)
      · refine ev_iinc (w := (x2 + 1)) (L' := [(2, 42), (0, a1), (0, (x2 + 1))]) rfl (by unfold w32; omega) rfl ?_
        refine ev_goto f292_2 ?_
        exact ih _ _ g1 k1 (by omega) (by omega) (by omega) (by omega) (by omega)
      · refine ev_aload_n rfl ?_
        refine g_getp (r := 42) (c := 46) g1 ad42 (by decide) (by decide) rf42_6 ft12_6 ?_
        refine ev_iconst ?_
        refine ev_iload_n rfl ?_
        refine ev_imul (r := (4 * a1)) (by unfold w32; omega) ?_
        refine ev_iload_n rfl ?_
        refine ev_iadd (r := (4 * a1 + x2)) (by unfold w32; omega) ?_
        refine g_iald g1 ad46 rt46 (by omega) (by omega) (fun v54315 ev54315 lv54315 uv54315 => ?_)
        refine ev_aload_n rfl ?_
        refine g_getp (r := 42) (c := 64) g1 ad42 (by decide) (by decide) rf42_34 ft12_34 ?_
        refine ev_iload_n rfl ?_
        refine g_ialdv (v := v54313) g1 ad64 (by omega) (by omega) (ev54313) ?_
        refine ev_icmpeq f292_40 (fun c54316 => ?_) (fun c54316 => ?_)
        · refine ev_iinc (w := (x2 + 1)) (L' := [(2, 42), (0, a1), (0, (x2 + 1))]) rfl (by unfold w32; omega) rfl ?_
          refine ev_goto f292_2 ?_
          exact ih _ _ g1 k1 (by omega) (by omega) (by omega) (by omega) (by omega)
        · refine ev_iconst ?_
          exact ev_ret rfl (by decide) (by decide) ⟨_, rfl, by omega, by omega, g1, k1⟩
set_option maxHeartbeats 4000000 in
theorem s292 {G : GH} {h : JH} (g : Gd G h) {a1 : Int} (la1 : 0 ≤ a1) (ua1 : a1 ≤ 80) : jOk 1 0 0 292 [(2, 42), (0, a1)] h (PI G [] h 0 0 1) := by
  refine ⟨by decide, by rw [ml292]; exact Nat.le_of_ble_eq_true rfl, ?_⟩
  rw [ml292, pp292]
  show jEv _ none _ c292_0 0 0 _ (c292_0, [(2, 42), (0, a1), (9, 0)], [], h, 0, 0)
  have k0 := Kp.rf [] h
  refine ev_iconst ?_
  refine ev_istore_n (L' := [(2, 42), (0, a1), (0, 0)]) (Nat.le_of_ble_eq_true rfl) rfl ?_
  exact (s292_l la1 ua1 10) _ _ g k0 (by omega) (by omega) (by omega) (by omega) (by omega)
set_option maxHeartbeats 4000000 in
theorem s293_l {G : GH} {h : JH}  : ∀ N : Nat, (∀ (h1 : JH) (x1 x3 : Int), Gd G h1 → Kp [] h h1 → (-9223372036854775808) ≤ x1 → x1 ≤ 9223372036854775807 → 0 ≤ x3 → x3 ≤ 81 → ((-x3) + 81) < N → jEv (jOk 1) none (fun _ => 0) c293_0 0 0 (PI G [] h 1 (-9223372036854775808) 9223372036854775807) (c293_4, [(2, 42), (1, x1), (9, 0), (0, x3)], [], h1, 0, 0)) := by
  intro N
  induction N with
  | zero => exact fun h1 x1 x3 g1 k1 b0 b1 b2 b3 hm => absurd hm (by omega)
  | succ N ih =>
    show _
    intro h1 x1 x3 g1 k1 b0 b1 b2 b3 hm
    refine ev_iload_n rfl ?_
    refine ev_aload_n rfl ?_
    obtain ⟨v54554, ev54554, lv54554, uv54554⟩ := g1.rd ad42 (show 5 < 66 by decide) rf42_5
    refine g_getv (r := 42) (v := v54554) g1 ad42 (by decide) ft12_5 ev54554 ?_
    refine ev_icmpge f293_35 (fun c54555 => ?_) (fun c54555 => ?_)
    · refine ev_lload_n rfl ?_
      exact ev_ret rfl (by decide) (by decide) ⟨_, rfl, by omega, by omega, g1, k1⟩
    · refine ev_aload_n rfl ?_
      refine ev_iload_n rfl ?_
      refine ev_call (jcall_v (A := [(0, x3)]) (S' := []) (r := 42) rfl (g1.lt ad42) (g1.tg ad42) (Nat.le_of_ble_eq_true rfl)) (jOk_le (by decide) (s292 g1 (by omega) (by omega))) (by decide) (by decide) (fun w54556 h54556 q54556 => ?_)
      obtain ⟨v54557, rfl, lv54557, uv54557, g54556, kk54556⟩ := q54556
      have k54556 := k1.tr kk54556 (by decide)
      show jEv _ _ _ _ _ _ _ (_, [(2, 42), (1, x1), (9, 0), (0, x3)], [(0, v54557)], _, _, _)
      refine ev_ifeq f293_29 (fun c54558 => ?_) (fun c54558 => ?_)
      · refine ev_iinc (w := (x3 + 1)) (L' := [(2, 42), (1, x1), (9, 0), (0, (x3 + 1))]) rfl (by unfold w32; omega) rfl ?_
        refine ev_goto f293_4 ?_
        exact ih _ _ _ g54556 k54556 (by omega) (by omega) (by omega) (by omega) (by omega)
      · refine ev_lload_n rfl ?_
        refine ev_aload_n rfl ?_
        refine g_getp (r := 42) (c := 47) g54556 ad42 (by decide) (by decide) rf42_7 ft12_7 ?_
        refine ev_iload_n rfl ?_
        refine g_lald g54556 ad47 rt47 (by omega) (by omega) (fun v54559 ev54559 lv54559 uv54559 => ?_)
        refine g_laddG (fun v54560 ev54560 lv54560 uv54560 => ?_)
        refine ev_lstore_n (L' := [(2, 42), (1, v54560), (9, 0), (0, x3)]) (Nat.le_of_ble_eq_true rfl) rfl ?_
        refine ev_iinc (w := (x3 + 1)) (L' := [(2, 42), (1, v54560), (9, 0), (0, (x3 + 1))]) rfl (by unfold w32; omega) rfl ?_
        refine ev_goto f293_4 ?_
        exact ih _ _ _ g54556 k54556 (by omega) (by omega) (by omega) (by omega) (by omega)
set_option maxHeartbeats 4000000 in
theorem s293 {G : GH} {h : JH} (g : Gd G h)  : jOk 2 0 0 293 [(2, 42)] h (PI G [] h 1 (-9223372036854775808) 9223372036854775807) := by
  refine ⟨by decide, by rw [ml293]; exact Nat.le_of_ble_eq_true rfl, ?_⟩
  rw [ml293, pp293]
  show jEv _ none _ c293_0 0 0 _ (c293_0, [(2, 42), (9, 0), (9, 0), (9, 0)], [], h, 0, 0)
  have k0 := Kp.rf [] h
  refine ev_lconst ?_
  refine ev_lstore_n (L' := [(2, 42), (1, 0), (9, 0), (9, 0)]) (Nat.le_of_ble_eq_true rfl) rfl ?_
  refine ev_iconst ?_
  refine ev_istore_n (L' := [(2, 42), (1, 0), (9, 0), (0, 0)]) (Nat.le_of_ble_eq_true rfl) rfl ?_
  exact (s293_l  164) _ _ _ g k0 (by omega) (by omega) (by omega) (by omega) (by omega)
set_option maxHeartbeats 4000000 in
theorem s295_s_l {G : GH} {h : JH} {n0 : Int} (ln0 : 0 ≤ n0) (un0 : n0 ≤ 99) {a2 : Int} (la2 : 0 ≤ a2) (ua2 : a2 ≤ 9801) {w0 : Int} (ew0 : h.2.2 42 36 = w0) (lw0 : 0 ≤ w0) (uw0 : w0 ≤ 5) {w1 : Int} (ew1 : h.2.2 42 9 = w1) (lw1 : 0 ≤ w1) (uw1 : w1 ≤ 6) {w2 : Int} (ew2 : h.2.2 48 (w0).toNat = w2) (lw2 : 0 ≤ w2) (uw2 : w2 ≤ 100) (ew3 : h.2.2 49 ((n0 + 100 * w0)).toNat = 2) (F0 : (w0 + (-w1)) ≤ (-1)) (F1 : (n0 + (-w2)) ≤ (-1)) (F2 : (a2 + (-99) * n0) ≤ 0) {Nf : Nat} {e : Nat} {S : List Nat} (tr : Tr h (w0).toNat Nf (n0).toNat e S) {M : Int} (hM : M = n0) {d : Nat} (hd : 0 ≤ d) (rih : ∀ {G : GH} {h : JH} (g : Gd G h) {a1 : Int} (la1 : 0 ≤ a1) (ua1 : a1 ≤ 99) {a2 : Int} (la2 : 0 ≤ a2) (ua2 : a2 ≤ 9801) {w0 : Int} (ew0 : h.2.2 42 36 = w0) (lw0 : 0 ≤ w0) (uw0 : w0 ≤ 5) {w1 : Int} (ew1 : h.2.2 42 9 = w1) (lw1 : 0 ≤ w1) (uw1 : w1 ≤ 6) {w2 : Int} (ew2 : h.2.2 48 (w0).toNat = w2) (lw2 : 0 ≤ w2) (uw2 : w2 ≤ 100) (F0 : (w0 + (-w1)) ≤ (-1)) (F1 : (a1 + (-w2)) ≤ (-1)) (F2 : ((-99) * a1 + a2) ≤ 0) {Nf : Nat} {e : Nat} {S : List Nat} (tr : Tr h (w0).toNat Nf (a1).toNat e S) (hm : M + 1 ≤ a1), jOk d 0 0 294 [(2, 42), (0, a1), (0, a2)] h (fun v h' => PI G [(64, 0), (65, 0)] h 1 (-9223372036854775808) 9223372036854775807 v h' ∧ Vis h h' (w0).toNat (a1).toNat e (Cpl h S))) : ∀ N : Nat, (∀ (h1 : JH) (x4 x5 x7 x8 y0 : Int) (j9 : AV), Gd G h1 → Kp [(64, 0), (65, 0)] h h1 → 0 ≤ n0 → n0 ≤ 99 → 0 ≤ w0 → w0 ≤ 5 → 0 ≤ a2 → a2 ≤ 9801 → (-1) ≤ x4 → x4 ≤ 2 → (-9223372036854775808) ≤ x5 → x5 ≤ 9223372036854775807 → 0 ≤ x7 → x7 ≤ 1 → 0 ≤ x8 → x8 ≤ 3 → h1.2.2 50 ((n0 + 100 * w0)).toNat = y0 → 0 ≤ y0 → y0 ≤ 3 → VT h h1 (w0).toNat (n0).toNat e S y0 x8 x4 → ((-x8) + 3) < N → jEv (jOk (d + 0)) none (fun _ => 0) c295_0 0 0 (fun v h' => PI G [(64, 0), (65, 0)] h 1 (-9223372036854775808) 9223372036854775807 v h' ∧ Vis h h' (w0).toNat (n0).toNat e (Cpl h S)) (c295_24, [(2, 42), (0, (n0 + 100 * w0)), (0, a2), (0, y0), (0, x4), (1, x5), (9, 0), (0, x7), (0, x8), j9, (9, 0)], [], h1, 0, 0)) := by
  intro N
  induction N with
  | zero => exact fun h1 x4 x5 x7 x8 y0 j9 g1 k1 b0 b1 b2 b3 b4 b5 b6 b7 b8 b9 b10 b11 b12 b13 b14 b15 b16 b17 hm => absurd hm (by omega)
  | succ N ih =>
    show _
    intro h1 x4 x5 x7 x8 y0 j9 g1 k1 b0 b1 b2 b3 b4 b5 b6 b7 b8 b9 b10 b11 b12 b13 ey0 ly0 uy0 H0 hm
    refine ev_iload rfl ?_
    refine ev_aload_n rfl ?_
    refine g_getp (r := 42) (c := 43) g1 ad42 (by decide) (by decide) rf42_2 ft12_2 ?_
    refine ev_iload_n rfl ?_
    refine g_iald g1 ad43 rt43 (by omega) (by omega) (fun v54688 ev54688 lv54688 uv54688 => ?_)
    refine ev_icmpge f295_123 (fun c54689 => ?_) (fun c54689 => ?_)
    · refine ev_aload_n rfl ?_
      refine g_getp (r := 42) (c := 64) g1 ad42 (by decide) (by decide) rf42_34 ft12_34 ?_
      refine ev_iload_n rfl ?_
      refine ev_iload rfl ?_
      refine g_iast g1 ad64 rt64 (fun _ => rfl) (by omega) (by omega) (by omega) (by omega) (fun h54690 e54690 g54690 => ?_)
      have k54690 := k1.wr e54690 rfl
      refine ev_lload rfl ?_
      exact ev_ret rfl (by decide) (by decide) ⟨⟨_, rfl, by omega, by omega, g54690, k54690⟩, VT.fin H0 k1 ev54688 (by omega) e54690⟩
    · refine ev_iload rfl ?_
      refine ev_iflt f295_50 (fun c54691 => ?_) (fun c54691 => ?_)
      · refine ev_aload_n rfl ?_
        refine g_getp (r := 42) (c := 64) g1 ad42 (by decide) (by decide) rf42_34 ft12_34 ?_
        refine ev_iload_n rfl ?_
        refine ev_iload rfl ?_
        refine g_iast g1 ad64 rt64 (fun _ => rfl) (by omega) (by omega) (by omega) (by omega) (fun h54692 e54692 g54692 => ?_)
        have k54692 := k1.wr e54692 rfl
        refine ev_aload_n rfl ?_
        refine ev_aload_n rfl ?_
        refine g_getp (r := 42) (c := 51) g54692 ad42 (by decide) (by decide) rf42_13 ft12_13 ?_
        refine ev_iconst ?_
        refine ev_iload_n rfl ?_
        refine ev_imul (r := (4 * n0 + 400 * w0)) (by unfold w32; omega) ?_
        refine ev_iload rfl ?_
        refine ev_iadd (r := (4 * n0 + 400 * w0 + x8)) (by unfold w32; omega) ?_
        refine g_bald g54692 ad51 rt51 (by omega) (by omega) (fun v54693 ev54693 lv54693 uv54693 => ?_)
        have xv54693 := g54692.nd2c (q := w0) (n := n0) (by omega) (by rw [(((jw_ne e54692 (Or.inl (by decide))).trans ((k1.v (by decide)).trans ew1)))]; omega) (by omega) (by rw [(((jw_ne e54692 (Or.inl (by decide))).trans ((k1.v rfl).trans ew2)))]; omega) (i := (n0 + 100 * w0)) (by omega) (((jw_ne e54692 (Or.inl (by decide))).trans ((k1.v rfl).trans ew3))) (((jw_ne e54692 (Or.inl (by decide))).trans ey0)) (t := y0) (by omega) (((jw_ne e54692 (Or.inl (by decide))).trans ev54688)) (w := x8) (by omega) (by omega) (j := (4 * n0 + 400 * w0 + x8)) (by omega) ev54693
        rw [(((jw_ne e54692 (Or.inl (by decide))).trans ((k1.v rfl).trans ew2)))] at xv54693
        refine ev_iload_n rfl ?_
        obtain ⟨N54694, e54694, tr54694, nx54694⟩ := VT.child H0 e54692 k54692 (by omega) (by omega) (i := (n0 + 100 * w0)) (by omega) (((jw_ne e54692 (Or.inl (by decide))).trans ev54688)) (by omega) (j := (4 * n0 + 400 * w0 + x8)) (by omega) (ev54693)
        refine ev_call (jcall_v (A := [(0, a2), (0, v54693)]) (S' := []) (r := 42) rfl (g54692.lt ad42) (g54692.tg ad42) (Nat.le_of_ble_eq_true rfl)) (jOk_le (by omega) (rih g54692 (by omega) (by omega) (by omega) (by omega) (((jw_ne e54692 (Or.inl (by decide))).trans ((k1.v (by decide)).trans ew0))) (by omega) (by omega) (((jw_ne e54692 (Or.inl (by decide))).trans ((k1.v (by decide)).trans ew1))) (by omega) (by omega) (((jw_ne e54692 (Or.inl (by decide))).trans ((k1.v rfl).trans ew2))) (by omega) (by omega) (by omega) (by omega) (by omega) tr54694 (by omega))) (by decide) (by decide) (fun w54695 h54695 q54695 => ?_)
        obtain ⟨q54695, vs54695⟩ := q54695
        obtain ⟨v54696, rfl, lv54696, uv54696, g54695, kk54695⟩ := q54695
        have k54695 := k54692.tr kk54695 (by decide)
        show jEv _ _ _ _ _ _ _ (_, [(2, 42), (0, (n0 + 100 * w0)), (0, a2), (0, y0), (0, x4), (1, x5), (9, 0), (0, x7), (0, x8), j9, (9, 0)], [(1, v54696)], _, _, _)
        refine ev_lstore (L' := [(2, 42), (0, (n0 + 100 * w0)), (0, a2), (0, y0), (0, x4), (1, x5), (9, 0), (0, x7), (0, x8), (1, v54696), (9, 0)]) (Nat.le_of_ble_eq_true rfl) rfl ?_
        refine ev_aload_n rfl ?_
        obtain ⟨v54697, ev54697, lv54697, uv54697⟩ := g54695.rd ad42 (show 37 < 66 by decide) rf42_37
        refine g_getv (r := 42) (v := v54697) g54695 ad42 (by decide) ft12_37 ev54697 ?_
        refine ev_iconst ?_
        refine ev_icmpeq f295_92 (fun c54698 => ?_) (fun c54698 => ?_)
        · refine ev_iload rfl ?_
          refine ev_ifeq f295_110 (fun c54699 => ?_) (fun c54699 => ?_)
          · refine ev_lload rfl ?_
            refine ev_lstore (L' := [(2, 42), (0, (n0 + 100 * w0)), (0, a2), (0, y0), (0, x4), (1, v54696), (9, 0), (0, x7), (0, x8), (1, v54696), (9, 0)]) (Nat.le_of_ble_eq_true rfl) rfl ?_
            refine ev_iconst ?_
            refine ev_istore (L' := [(2, 42), (0, (n0 + 100 * w0)), (0, a2), (0, y0), (0, x4), (1, v54696), (9, 0), (0, 1), (0, x8), (1, v54696), (9, 0)]) (Nat.le_of_ble_eq_true rfl) rfl ?_
            refine ev_iinc (w := (x8 + 1)) (L' := [(2, 42), (0, (n0 + 100 * w0)), (0, a2), (0, y0), (0, x4), (1, v54696), (9, 0), (0, 1), (0, (x8 + 1)), (1, v54696), (9, 0)]) rfl (by unfold w32; omega) rfl ?_
            refine ev_goto f295_24 ?_
            exact ih _ _ _ _ _ _ _ g54695 k54695 (by omega) (by omega) (by omega) (by omega) (by omega) (by omega) (by omega) (by omega) (by omega) (by omega) (by omega) (by omega) (by omega) (by omega) (((kk54695.v rfl).trans ((jw_ne e54692 (Or.inl (by decide))).trans ey0))) (by omega) (by omega) (nx54694 _ kk54695 vs54695) (by omega)
          · refine ev_lload rfl ?_
            refine ev_lload rfl ?_
            refine ev_lcmp ?_
            refine ev_ifge f295_110 (fun c54700 => ?_) (fun c54700 => ?_)
            · have c54700b := jcmpL_ge c54700
              refine ev_lload rfl ?_
              refine ev_lstore (L' := [(2, 42), (0, (n0 + 100 * w0)), (0, a2), (0, y0), (0, x4), (1, v54696), (9, 0), (0, x7), (0, x8), (1, v54696), (9, 0)]) (Nat.le_of_ble_eq_true rfl) rfl ?_
              refine ev_iconst ?_
              refine ev_istore (L' := [(2, 42), (0, (n0 + 100 * w0)), (0, a2), (0, y0), (0, x4), (1, v54696), (9, 0), (0, 1), (0, x8), (1, v54696), (9, 0)]) (Nat.le_of_ble_eq_true rfl) rfl ?_
              refine ev_iinc (w := (x8 + 1)) (L' := [(2, 42), (0, (n0 + 100 * w0)), (0, a2), (0, y0), (0, x4), (1, v54696), (9, 0), (0, 1), (0, (x8 + 1)), (1, v54696), (9, 0)]) rfl (by unfold w32; omega) rfl ?_
              refine ev_goto f295_24 ?_
              exact ih _ _ _ _ _ _ _ g54695 k54695 (by omega) (by omega) (by omega) (by omega) (by omega) (by omega) (by omega) (by omega) (by omega) (by omega) (by omega) (by omega) (by omega) (by omega) (((kk54695.v rfl).trans ((jw_ne e54692 (Or.inl (by decide))).trans ey0))) (by omega) (by omega) (nx54694 _ kk54695 vs54695) (by omega)
            · have c54700b := jcmpL_geN c54700
              refine ev_lload rfl ?_
              refine ev_goto f295_112 ?_
              refine ev_lstore (L' := [(2, 42), (0, (n0 + 100 * w0)), (0, a2), (0, y0), (0, x4), (1, x5), (9, 0), (0, x7), (0, x8), (1, v54696), (9, 0)]) (Nat.le_of_ble_eq_true rfl) rfl ?_
              refine ev_iconst ?_
              refine ev_istore (L' := [(2, 42), (0, (n0 + 100 * w0)), (0, a2), (0, y0), (0, x4), (1, x5), (9, 0), (0, 1), (0, x8), (1, v54696), (9, 0)]) (Nat.le_of_ble_eq_true rfl) rfl ?_
              refine ev_iinc (w := (x8 + 1)) (L' := [(2, 42), (0, (n0 + 100 * w0)), (0, a2), (0, y0), (0, x4), (1, x5), (9, 0), (0, 1), (0, (x8 + 1)), (1, v54696), (9, 0)]) rfl (by unfold w32; omega) rfl ?_
              refine ev_goto f295_24 ?_
              exact ih _ _ _ _ _ _ _ g54695 k54695 (by omega) (by omega) (by omega) (by omega) (by omega) (by omega) (by omega) (by omega) (by omega) (by omega) (by omega) (by omega) (by omega) (by omega) (((kk54695.v rfl).trans ((jw_ne e54692 (Or.inl (by decide))).trans ey0))) (by omega) (by omega) (nx54694 _ kk54695 vs54695) (by omega)
        · refine ev_lload rfl ?_
          refine ev_lload rfl ?_
          refine g_laddG (fun v54701 ev54701 lv54701 uv54701 => ?_)
          refine ev_goto f295_112 ?_
          refine ev_lstore (L' := [(2, 42), (0, (n0 + 100 * w0)), (0, a2), (0, y0), (0, x4), (1, v54701), (9, 0), (0, x7), (0, x8), (1, v54696), (9, 0)]) (Nat.le_of_ble_eq_true rfl) rfl ?_
          refine ev_iconst ?_
          refine ev_istore (L' := [(2, 42), (0, (n0 + 100 * w0)), (0, a2), (0, y0), (0, x4), (1, v54701), (9, 0), (0, 1), (0, x8), (1, v54696), (9, 0)]) (Nat.le_of_ble_eq_true rfl) rfl ?_
          refine ev_iinc (w := (x8 + 1)) (L' := [(2, 42), (0, (n0 + 100 * w0)), (0, a2), (0, y0), (0, x4), (1, v54701), (9, 0), (0, 1), (0, (x8 + 1)), (1, v54696), (9, 0)]) rfl (by unfold w32; omega) rfl ?_
          refine ev_goto f295_24 ?_
          exact ih _ _ _ _ _ _ _ g54695 k54695 (by omega) (by omega) (by omega) (by omega) (by omega) (by omega) (by omega) (by omega) (by omega) (by omega) (by omega) (by omega) (by omega) (by omega) (((kk54695.v rfl).trans ((jw_ne e54692 (Or.inl (by decide))).trans ey0))) (by omega) (by omega) (nx54694 _ kk54695 vs54695) (by omega)
      · refine ev_iload rfl ?_
        refine ev_iload rfl ?_
        refine ev_icmpeq f295_50 (fun c54702 => ?_) (fun c54702 => ?_)
        · refine ev_aload_n rfl ?_
          refine g_getp (r := 42) (c := 64) g1 ad42 (by decide) (by decide) rf42_34 ft12_34 ?_
          refine ev_iload_n rfl ?_
          refine ev_iload rfl ?_
          refine g_iast g1 ad64 rt64 (fun _ => rfl) (by omega) (by omega) (by omega) (by omega) (fun h54703 e54703 g54703 => ?_)
          have k54703 := k1.wr e54703 rfl
          refine ev_aload_n rfl ?_
          refine ev_aload_n rfl ?_
          refine g_getp (r := 42) (c := 51) g54703 ad42 (by decide) (by decide) rf42_13 ft12_13 ?_
          refine ev_iconst ?_
          refine ev_iload_n rfl ?_
          refine ev_imul (r := (4 * n0 + 400 * w0)) (by unfold w32; omega) ?_
          refine ev_iload rfl ?_
          refine ev_iadd (r := (4 * n0 + 400 * w0 + x8)) (by unfold w32; omega) ?_
          refine g_bald g54703 ad51 rt51 (by omega) (by omega) (fun v54704 ev54704 lv54704 uv54704 => ?_)
          have xv54704 := g54703.nd2c (q := w0) (n := n0) (by omega) (by rw [(((jw_ne e54703 (Or.inl (by decide))).trans ((k1.v (by decide)).trans ew1)))]; omega) (by omega) (by rw [(((jw_ne e54703 (Or.inl (by decide))).trans ((k1.v rfl).trans ew2)))]; omega) (i := (n0 + 100 * w0)) (by omega) (((jw_ne e54703 (Or.inl (by decide))).trans ((k1.v rfl).trans ew3))) (((jw_ne e54703 (Or.inl (by decide))).trans ey0)) (t := y0) (by omega) (((jw_ne e54703 (Or.inl (by decide))).trans ev54688)) (w := x8) (by omega) (by omega) (j := (4 * n0 + 400 * w0 + x8)) (by omega) ev54704
          rw [(((jw_ne e54703 (Or.inl (by decide))).trans ((k1.v rfl).trans ew2)))] at xv54704
          refine ev_iload_n rfl ?_
          obtain ⟨N54705, e54705, tr54705, nx54705⟩ := VT.child H0 e54703 k54703 (by omega) (by omega) (i := (n0 + 100 * w0)) (by omega) (((jw_ne e54703 (Or.inl (by decide))).trans ev54688)) (by omega) (j := (4 * n0 + 400 * w0 + x8)) (by omega) (ev54704)
          refine ev_call (jcall_v (A := [(0, a2), (0, v54704)]) (S' := []) (r := 42) rfl (g54703.lt ad42) (g54703.tg ad42) (Nat.le_of_ble_eq_true rfl)) (jOk_le (by omega) (rih g54703 (by omega) (by omega) (by omega) (by omega) (((jw_ne e54703 (Or.inl (by decide))).trans ((k1.v (by decide)).trans ew0))) (by omega) (by omega) (((jw_ne e54703 (Or.inl (by decide))).trans ((k1.v (by decide)).trans ew1))) (by omega) (by omega) (((jw_ne e54703 (Or.inl (by decide))).trans ((k1.v rfl).trans ew2))) (by omega) (by omega) (by omega) (by omega) (by omega) tr54705 (by omega))) (by decide) (by decide) (fun w54706 h54706 q54706 => ?_)
          obtain ⟨q54706, vs54706⟩ := q54706
          obtain ⟨v54707, rfl, lv54707, uv54707, g54706, kk54706⟩ := q54706
          have k54706 := k54703.tr kk54706 (by decide)
          show jEv _ _ _ _ _ _ _ (_, [(2, 42), (0, (n0 + 100 * w0)), (0, a2), (0, y0), (0, x4), (1, x5), (9, 0), (0, x7), (0, x8), j9, (9, 0)], [(1, v54707)], _, _, _)
          refine ev_lstore (L' := [(2, 42), (0, (n0 + 100 * w0)), (0, a2), (0, y0), (0, x4), (1, x5), (9, 0), (0, x7), (0, x8), (1, v54707), (9, 0)]) (Nat.le_of_ble_eq_true rfl) rfl ?_
          refine ev_aload_n rfl ?_
          obtain ⟨v54708, ev54708, lv54708, uv54708⟩ := g54706.rd ad42 (show 37 < 66 by decide) rf42_37
          refine g_getv (r := 42) (v := v54708) g54706 ad42 (by decide) ft12_37 ev54708 ?_
          refine ev_iconst ?_
          refine ev_icmpeq f295_92 (fun c54709 => ?_) (fun c54709 => ?_)
          · refine ev_iload rfl ?_
            refine ev_ifeq f295_110 (fun c54710 => ?_) (fun c54710 => ?_)
            · refine ev_lload rfl ?_
              refine ev_lstore (L' := [(2, 42), (0, (n0 + 100 * w0)), (0, a2), (0, y0), (0, x4), (1, v54707), (9, 0), (0, x7), (0, x8), (1, v54707), (9, 0)]) (Nat.le_of_ble_eq_true rfl) rfl ?_
              refine ev_iconst ?_
              refine ev_istore (L' := [(2, 42), (0, (n0 + 100 * w0)), (0, a2), (0, y0), (0, x4), (1, v54707), (9, 0), (0, 1), (0, x8), (1, v54707), (9, 0)]) (Nat.le_of_ble_eq_true rfl) rfl ?_
              refine ev_iinc (w := (x8 + 1)) (L' := [(2, 42), (0, (n0 + 100 * w0)), (0, a2), (0, y0), (0, x4), (1, v54707), (9, 0), (0, 1), (0, (x8 + 1)), (1, v54707), (9, 0)]) rfl (by unfold w32; omega) rfl ?_
              refine ev_goto f295_24 ?_
              exact ih _ _ _ _ _ _ _ g54706 k54706 (by omega) (by omega) (by omega) (by omega) (by omega) (by omega) (by omega) (by omega) (by omega) (by omega) (by omega) (by omega) (by omega) (by omega) (((kk54706.v rfl).trans ((jw_ne e54703 (Or.inl (by decide))).trans ey0))) (by omega) (by omega) (nx54705 _ kk54706 vs54706) (by omega)
            · refine ev_lload rfl ?_
              refine ev_lload rfl ?_
              refine ev_lcmp ?_
              refine ev_ifge f295_110 (fun c54711 => ?_) (fun c54711 => ?_)
              · have c54711b := jcmpL_ge c54711
                refine ev_lload rfl ?_
                refine ev_lstore (L' := [(2, 42), (0, (n0 + 100 * w0)), (0, a2), (0, y0), (0, x4), (1, v54707), (9, 0), (0, x7), (0, x8), (1, v54707), (9, 0)]) (Nat.le_of_ble_eq_true rfl) rfl ?_
                refine ev_iconst ?_
                refine ev_istore (L' := [(2, 42), (0, (n0 + 100 * w0)), (0, a2), (0, y0), (0, x4), (1, v54707), (9, 0), (0, 1), (0, x8), (1, v54707), (9, 0)]) (Nat.le_of_ble_eq_true rfl) rfl ?_
                refine ev_iinc (w := (x8 + 1)) (L' := [(2, 42), (0, (n0 + 100 * w0)), (0, a2), (0, y0), (0, x4), (1, v54707), (9, 0), (0, 1), (0, (x8 + 1)), (1, v54707), (9, 0)]) rfl (by unfold w32; omega) rfl ?_
                refine ev_goto f295_24 ?_
                exact ih _ _ _ _ _ _ _ g54706 k54706 (by omega) (by omega) (by omega) (by omega) (by omega) (by omega) (by omega) (by omega) (by omega) (by omega) (by omega) (by omega) (by omega) (by omega) (((kk54706.v rfl).trans ((jw_ne e54703 (Or.inl (by decide))).trans ey0))) (by omega) (by omega) (nx54705 _ kk54706 vs54706) (by omega)
              · have c54711b := jcmpL_geN c54711
                refine ev_lload rfl ?_
                refine ev_goto f295_112 ?_
                refine ev_lstore (L' := [(2, 42), (0, (n0 + 100 * w0)), (0, a2), (0, y0), (0, x4), (1, x5), (9, 0), (0, x7), (0, x8), (1, v54707), (9, 0)]) (Nat.le_of_ble_eq_true rfl) rfl ?_
                refine ev_iconst ?_
                refine ev_istore (L' := [(2, 42), (0, (n0 + 100 * w0)), (0, a2), (0, y0), (0, x4), (1, x5), (9, 0), (0, 1), (0, x8), (1, v54707), (9, 0)]) (Nat.le_of_ble_eq_true rfl) rfl ?_
                refine ev_iinc (w := (x8 + 1)) (L' := [(2, 42), (0, (n0 + 100 * w0)), (0, a2), (0, y0), (0, x4), (1, x5), (9, 0), (0, 1), (0, (x8 + 1)), (1, v54707), (9, 0)]) rfl (by unfold w32; omega) rfl ?_
                refine ev_goto f295_24 ?_
                exact ih _ _ _ _ _ _ _ g54706 k54706 (by omega) (by omega) (by omega) (by omega) (by omega) (by omega) (by omega) (by omega) (by omega) (by omega) (by omega) (by omega) (by omega) (by omega) (((kk54706.v rfl).trans ((jw_ne e54703 (Or.inl (by decide))).trans ey0))) (by omega) (by omega) (nx54705 _ kk54706 vs54706) (by omega)
          · refine ev_lload rfl ?_
            refine ev_lload rfl ?_
            refine g_laddG (fun v54712 ev54712 lv54712 uv54712 => ?_)
            refine ev_goto f295_112 ?_
            refine ev_lstore (L' := [(2, 42), (0, (n0 + 100 * w0)), (0, a2), (0, y0), (0, x4), (1, v54712), (9, 0), (0, x7), (0, x8), (1, v54707), (9, 0)]) (Nat.le_of_ble_eq_true rfl) rfl ?_
            refine ev_iconst ?_
            refine ev_istore (L' := [(2, 42), (0, (n0 + 100 * w0)), (0, a2), (0, y0), (0, x4), (1, v54712), (9, 0), (0, 1), (0, x8), (1, v54707), (9, 0)]) (Nat.le_of_ble_eq_true rfl) rfl ?_
            refine ev_iinc (w := (x8 + 1)) (L' := [(2, 42), (0, (n0 + 100 * w0)), (0, a2), (0, y0), (0, x4), (1, v54712), (9, 0), (0, 1), (0, (x8 + 1)), (1, v54707), (9, 0)]) rfl (by unfold w32; omega) rfl ?_
            refine ev_goto f295_24 ?_
            exact ih _ _ _ _ _ _ _ g54706 k54706 (by omega) (by omega) (by omega) (by omega) (by omega) (by omega) (by omega) (by omega) (by omega) (by omega) (by omega) (by omega) (by omega) (by omega) (((kk54706.v rfl).trans ((jw_ne e54703 (Or.inl (by decide))).trans ey0))) (by omega) (by omega) (nx54705 _ kk54706 vs54706) (by omega)
        · refine ev_goto f295_117 ?_
          refine ev_iinc (w := (x8 + 1)) (L' := [(2, 42), (0, (n0 + 100 * w0)), (0, a2), (0, y0), (0, x4), (1, x5), (9, 0), (0, x7), (0, (x8 + 1)), j9, (9, 0)]) rfl (by unfold w32; omega) rfl ?_
          refine ev_goto f295_24 ?_
          exact ih _ _ _ _ _ _ _ g1 k1 (by omega) (by omega) (by omega) (by omega) (by omega) (by omega) (by omega) (by omega) (by omega) (by omega) (by omega) (by omega) (by omega) (by omega) (ey0) (by omega) (by omega) (VT.skip H0 k1 (ev54688) (by omega) (by omega)) (by omega)
set_option maxHeartbeats 4000000 in
theorem s295_s {G : GH} {h : JH} (g : Gd G h) {n0 : Int} (ln0 : 0 ≤ n0) (un0 : n0 ≤ 99) {a2 : Int} (la2 : 0 ≤ a2) (ua2 : a2 ≤ 9801) {w0 : Int} (ew0 : h.2.2 42 36 = w0) (lw0 : 0 ≤ w0) (uw0 : w0 ≤ 5) {w1 : Int} (ew1 : h.2.2 42 9 = w1) (lw1 : 0 ≤ w1) (uw1 : w1 ≤ 6) {w2 : Int} (ew2 : h.2.2 48 (w0).toNat = w2) (lw2 : 0 ≤ w2) (uw2 : w2 ≤ 100) (ew3 : h.2.2 49 ((n0 + 100 * w0)).toNat = 2) (F0 : (w0 + (-w1)) ≤ (-1)) (F1 : (n0 + (-w2)) ≤ (-1)) (F2 : (a2 + (-99) * n0) ≤ 0) {Nf : Nat} {e : Nat} {S : List Nat} (tr : Tr h (w0).toNat Nf (n0).toNat e S) {M : Int} (hM : M = n0) {d : Nat} (hd : 0 ≤ d) (rih : ∀ {G : GH} {h : JH} (g : Gd G h) {a1 : Int} (la1 : 0 ≤ a1) (ua1 : a1 ≤ 99) {a2 : Int} (la2 : 0 ≤ a2) (ua2 : a2 ≤ 9801) {w0 : Int} (ew0 : h.2.2 42 36 = w0) (lw0 : 0 ≤ w0) (uw0 : w0 ≤ 5) {w1 : Int} (ew1 : h.2.2 42 9 = w1) (lw1 : 0 ≤ w1) (uw1 : w1 ≤ 6) {w2 : Int} (ew2 : h.2.2 48 (w0).toNat = w2) (lw2 : 0 ≤ w2) (uw2 : w2 ≤ 100) (F0 : (w0 + (-w1)) ≤ (-1)) (F1 : (a1 + (-w2)) ≤ (-1)) (F2 : ((-99) * a1 + a2) ≤ 0) {Nf : Nat} {e : Nat} {S : List Nat} (tr : Tr h (w0).toNat Nf (a1).toNat e S) (hm : M + 1 ≤ a1), jOk d 0 0 294 [(2, 42), (0, a1), (0, a2)] h (fun v h' => PI G [(64, 0), (65, 0)] h 1 (-9223372036854775808) 9223372036854775807 v h' ∧ Vis h h' (w0).toNat (a1).toNat e (Cpl h S))) : jOk (d + 1) 0 0 295 [(2, 42), (0, (n0 + 100 * w0)), (0, a2)] h (fun v h' => PI G [(64, 0), (65, 0)] h 1 (-9223372036854775808) 9223372036854775807 v h' ∧ Vis h h' (w0).toNat (n0).toNat e (Cpl h S)) := by
  refine ⟨by decide, by rw [ml295]; exact Nat.le_of_ble_eq_true rfl, ?_⟩
  rw [ml295, pp295]
  show jEv _ none _ c295_0 0 0 _ (c295_0, [(2, 42), (0, (n0 + 100 * w0)), (0, a2), (9, 0), (9, 0), (9, 0), (9, 0), (9, 0), (9, 0), (9, 0), (9, 0)], [], h, 0, 0)
  have k0 := Kp.rf [(64, 0), (65, 0)] h
  refine ev_aload_n rfl ?_
  refine g_getp (r := 42) (c := 50) g ad42 (by decide) (by decide) rf42_12 ft12_12 ?_
  refine ev_iload_n rfl ?_
  refine g_iald g ad50 rt50 (by omega) (by omega) (fun v54713 ev54713 lv54713 uv54713 => ?_)
  obtain ⟨v54714, ev54714, lv54714, uv54714⟩ := g.rd ad42 (show 1 < 66 by decide) rf42_1
  have xv54713 := g.nd2 (q := w0) (n := n0) (by omega) (by rw [(ew1)]; omega) (by omega) (by rw [(ew2)]; omega) (i := (n0 + 100 * w0)) (by omega) (ew3) ev54713
  rw [ev54714] at xv54713
  refine ev_istore_n (L' := [(2, 42), (0, (n0 + 100 * w0)), (0, a2), (0, v54713), (9, 0), (9, 0), (9, 0), (9, 0), (9, 0), (9, 0), (9, 0)]) (Nat.le_of_ble_eq_true rfl) rfl ?_
  refine ev_aload_n rfl ?_
  refine g_getp (r := 42) (c := 64) g ad42 (by decide) (by decide) rf42_34 ft12_34 ?_
  refine ev_iload_n rfl ?_
  refine g_iald g ad64 rt64 (by omega) (by omega) (fun v54715 ev54715 lv54715 uv54715 => ?_)
  refine ev_istore (L' := [(2, 42), (0, (n0 + 100 * w0)), (0, a2), (0, v54713), (0, v54715), (9, 0), (9, 0), (9, 0), (9, 0), (9, 0), (9, 0)]) (Nat.le_of_ble_eq_true rfl) rfl ?_
  refine ev_lconst ?_
  refine ev_lstore (L' := [(2, 42), (0, (n0 + 100 * w0)), (0, a2), (0, v54713), (0, v54715), (1, 0), (9, 0), (9, 0), (9, 0), (9, 0), (9, 0)]) (Nat.le_of_ble_eq_true rfl) rfl ?_
  refine ev_iconst ?_
  refine ev_istore (L' := [(2, 42), (0, (n0 + 100 * w0)), (0, a2), (0, v54713), (0, v54715), (1, 0), (9, 0), (0, 0), (9, 0), (9, 0), (9, 0)]) (Nat.le_of_ble_eq_true rfl) rfl ?_
  refine ev_iconst ?_
  refine ev_istore (L' := [(2, 42), (0, (n0 + 100 * w0)), (0, a2), (0, v54713), (0, v54715), (1, 0), (9, 0), (0, 0), (0, 0), (9, 0), (9, 0)]) (Nat.le_of_ble_eq_true rfl) rfl ?_
  exact (s295_s_l ln0 un0 la2 ua2 ew0 lw0 uw0 ew1 lw1 uw1 ew2 lw2 uw2 ew3 F0 F1 F2 tr hM hd rih 8) _ _ _ _ _ _ _ g k0 (by omega) (by omega) (by omega) (by omega) (by omega) (by omega) (by omega) (by omega) (by omega) (by omega) (by omega) (by omega) (by omega) (by omega) (ev54713) (by omega) (by omega) (VT.start tr (by omega) (by omega) (i := (n0 + 100 * w0)) (by omega) (ew3) (ev54713) (g.rg ad42 (i := 1) (by decide) rf42_1).2 (ev54715)) (by omega)
set_option maxHeartbeats 4000000 in
theorem s294_s_l {G : GH} {h : JH} {a1 : Int} (la1 : 0 ≤ a1) (ua1 : a1 ≤ 99) {a2 : Int} (la2 : 0 ≤ a2) (ua2 : a2 ≤ 9801) {w0 : Int} (ew0 : h.2.2 42 36 = w0) (lw0 : 0 ≤ w0) (uw0 : w0 ≤ 5) {w1 : Int} (ew1 : h.2.2 42 9 = w1) (lw1 : 0 ≤ w1) (uw1 : w1 ≤ 6) {w2 : Int} (ew2 : h.2.2 48 (w0).toNat = w2) (lw2 : 0 ≤ w2) (uw2 : w2 ≤ 100) (F0 : (w0 + (-w1)) ≤ (-1)) (F1 : (a1 + (-w2)) ≤ (-1)) (F2 : ((-99) * a1 + a2) ≤ 0) {Nf : Nat} {e : Nat} {S : List Nat} (tr : Tr h (w0).toNat Nf (a1).toNat e S) {M : Int} (hM : M = a1) {d : Nat} (hd : 3 ≤ d) (rih : ∀ {G : GH} {h : JH} (g : Gd G h) {a1 : Int} (la1 : 0 ≤ a1) (ua1 : a1 ≤ 99) {a2 : Int} (la2 : 0 ≤ a2) (ua2 : a2 ≤ 9801) {w0 : Int} (ew0 : h.2.2 42 36 = w0) (lw0 : 0 ≤ w0) (uw0 : w0 ≤ 5) {w1 : Int} (ew1 : h.2.2 42 9 = w1) (lw1 : 0 ≤ w1) (uw1 : w1 ≤ 6) {w2 : Int} (ew2 : h.2.2 48 (w0).toNat = w2) (lw2 : 0 ≤ w2) (uw2 : w2 ≤ 100) (F0 : (w0 + (-w1)) ≤ (-1)) (F1 : (a1 + (-w2)) ≤ (-1)) (F2 : ((-99) * a1 + a2) ≤ 0) {Nf : Nat} {e : Nat} {S : List Nat} (tr : Tr h (w0).toNat Nf (a1).toNat e S) (hm : M + 1 ≤ a1), jOk d 0 0 294 [(2, 42), (0, a1), (0, a2)] h (fun v h' => PI G [(64, 0), (65, 0)] h 1 (-9223372036854775808) 9223372036854775807 v h' ∧ Vis h h' (w0).toNat (a1).toNat e (Cpl h S))) : ∀ N : Nat, (∀ (h1 : JH) (x4 x6 y0 y1 : Int) (j7 : AV), Gd G h1 → Kp [(64, 0), (65, 0)] h h1 → 0 ≤ a1 → a1 ≤ 99 → 0 ≤ a2 → a2 ≤ 9801 → (-9223372036854775808) ≤ x4 → x4 ≤ 9223372036854775807 → 0 ≤ x6 → x6 ≤ 4 → h1.2.2 49 ((a1 + 100 * w0)).toNat = y0 → 1 ≤ y0 → y0 ≤ 1 → h1.2.2 50 ((a1 + 100 * w0)).toNat = y1 → 1 ≤ y1 → y1 ≤ 4 → VC h h1 (w0).toNat (a1).toNat e S x6 → ((-x6) + 4) < N → jEv (jOk (d + 1)) none (fun _ => 0) c294_0 0 0 (fun v h' => PI G [(64, 0), (65, 0)] h 1 (-9223372036854775808) 9223372036854775807 v h' ∧ Vis h h' (w0).toNat (a1).toNat e (Cpl h S)) (c294_131, [(2, 42), (0, a1), (0, a2), (0, (a1 + 100 * w0)), (1, x4), (9, 0), (0, x6), j7, (9, 0)], [], h1, 0, 0)) := by
  intro N
  induction N with
  | zero => exact fun h1 x4 x6 y0 y1 j7 g1 k1 b0 b1 b2 b3 b4 b5 b6 b7 b8 b9 b10 b11 b12 b13 b14 hm => absurd hm (by omega)
  | succ N ih =>
    show _
    intro h1 x4 x6 y0 y1 j7 g1 k1 b0 b1 b2 b3 b4 b5 b6 b7 ey0 ly0 uy0 ey1 ly1 uy1 H0 hm
    refine ev_iload rfl ?_
    refine ev_aload_n rfl ?_
    refine g_getp (r := 42) (c := 50) g1 ad42 (by decide) (by decide) rf42_12 ft12_12 ?_
    refine ev_iload_n rfl ?_
    refine g_ialdv (v := y1) g1 ad50 (by omega) (by omega) (ey1) ?_
    refine ev_icmpge f294_207 (fun c54822 => ?_) (fun c54822 => ?_)
    · refine ev_lload rfl ?_
      exact ev_ret rfl (by decide) (by decide) ⟨⟨_, rfl, by omega, by omega, g1, k1⟩, VC.fin H0 k1 (by omega) (by omega) (i := (a1 + 100 * w0)) (by omega) (ey1) (by omega)⟩
    · refine ev_aload_n rfl ?_
      refine ev_aload_n rfl ?_
      refine g_getp (r := 42) (c := 51) g1 ad42 (by decide) (by decide) rf42_13 ft12_13 ?_
      refine ev_iconst ?_
      refine ev_iload_n rfl ?_
      refine ev_imul (r := (4 * a1 + 400 * w0)) (by unfold w32; omega) ?_
      refine ev_iload rfl ?_
      refine ev_iadd (r := (4 * a1 + 400 * w0 + x6)) (by unfold w32; omega) ?_
      refine g_bald g1 ad51 rt51 (by omega) (by omega) (fun v54823 ev54823 lv54823 uv54823 => ?_)
      have xv54823 := g1.nd1c (q := w0) (n := a1) (by omega) (by rw [(((k1.v (by decide)).trans ew1))]; omega) (by omega) (by rw [(((k1.v rfl).trans ew2))]; omega) (i := (a1 + 100 * w0)) (by omega) (by rw [(ey0)]; omega) (ey1) (w := x6) (by omega) (by omega) (j := (4 * a1 + 400 * w0 + x6)) (by omega) ev54823
      rw [(((k1.v rfl).trans ew2))] at xv54823
      refine ev_iload_n rfl ?_
      refine ev_aload_n rfl ?_
      refine g_getp (r := 42) (c := 52) g1 ad42 (by decide) (by decide) rf42_14 ft12_14 ?_
      refine ev_iconst ?_
      refine ev_iload_n rfl ?_
      refine ev_imul (r := (4 * a1 + 400 * w0)) (by unfold w32; omega) ?_
      refine ev_iload rfl ?_
      refine ev_iadd (r := (4 * a1 + 400 * w0 + x6)) (by unfold w32; omega) ?_
      refine g_iald g1 ad52 rt52 (by omega) (by omega) (fun v54824 ev54824 lv54824 uv54824 => ?_)
      refine ev_iadd (r := (a2 + v54824)) (by unfold w32; omega) ?_
      obtain ⟨N54825, e54825, tr54825, nx54825⟩ := VC.child H0 k1 (by omega) (by omega) (i := (a1 + 100 * w0)) (by omega) (ey1) (by omega) (j := (4 * a1 + 400 * w0 + x6)) (by omega) (ev54823)
      refine ev_call (jcall_v (A := [(0, (a2 + v54824)), (0, v54823)]) (S' := []) (r := 42) rfl (g1.lt ad42) (g1.tg ad42) (Nat.le_of_ble_eq_true rfl)) (jOk_le (by omega) (rih g1 (by omega) (by omega) (by omega) (by omega) (((k1.v (by decide)).trans ew0)) (by omega) (by omega) (((k1.v (by decide)).trans ew1)) (by omega) (by omega) (((k1.v rfl).trans ew2)) (by omega) (by omega) (by omega) (by omega) (by omega) tr54825 (by omega))) (by decide) (by decide) (fun w54826 h54826 q54826 => ?_)
      obtain ⟨q54826, vs54826⟩ := q54826
      obtain ⟨v54827, rfl, lv54827, uv54827, g54826, kk54826⟩ := q54826
      have k54826 := k1.tr kk54826 (by decide)
      show jEv _ _ _ _ _ _ _ (_, [(2, 42), (0, a1), (0, a2), (0, (a1 + 100 * w0)), (1, x4), (9, 0), (0, x6), j7, (9, 0)], [(1, v54827)], _, _, _)
      refine ev_lstore (L' := [(2, 42), (0, a1), (0, a2), (0, (a1 + 100 * w0)), (1, x4), (9, 0), (0, x6), (1, v54827), (9, 0)]) (Nat.le_of_ble_eq_true rfl) rfl ?_
      refine ev_iload rfl ?_
      refine ev_ifle f294_188 (fun c54828 => ?_) (fun c54828 => ?_)
      · refine ev_lload rfl ?_
        refine ev_lstore (L' := [(2, 42), (0, a1), (0, a2), (0, (a1 + 100 * w0)), (1, v54827), (9, 0), (0, x6), (1, v54827), (9, 0)]) (Nat.le_of_ble_eq_true rfl) rfl ?_
        refine ev_aload_n rfl ?_
        refine g_getp (r := 42) (c := 65) g54826 ad42 (by decide) (by decide) rf42_35 ft12_35 ?_
        refine ev_iload_n rfl ?_
        refine ev_iload rfl ?_
        refine ev_i2b (r := x6) (by unfold w8; omega) ?_
        refine g_bast (w := x6) g54826 ad65 rt65 (fun _ => rfl) (by omega) (by omega) (by unfold w8; omega) (by omega) (by omega) (fun h54829 e54829 g54829 => ?_)
        have k54829 := k54826.wr e54829 rfl
        refine ev_iinc (w := (x6 + 1)) (L' := [(2, 42), (0, a1), (0, a2), (0, (a1 + 100 * w0)), (1, v54827), (9, 0), (0, (x6 + 1)), (1, v54827), (9, 0)]) rfl (by unfold w32; omega) rfl ?_
        refine ev_goto f294_131 ?_
        exact ih _ _ _ _ _ _ g54829 k54829 (by omega) (by omega) (by omega) (by omega) (by omega) (by omega) (by omega) (by omega) (((jw_ne e54829 (Or.inl (by decide))).trans ((kk54826.v rfl).trans ey0))) (by omega) (by omega) (((jw_ne e54829 (Or.inl (by decide))).trans ((kk54826.v rfl).trans ey1))) (by omega) (by omega) ((nx54825 _ kk54826 vs54826).2 _ e54829) (by omega)
      · refine ev_lload rfl ?_
        refine ev_lload rfl ?_
        refine ev_lcmp ?_
        refine ev_ifgt f294_188 (fun c54830 => ?_) (fun c54830 => ?_)
        · have c54830b := jcmpL_gt c54830
          refine ev_lload rfl ?_
          refine ev_lstore (L' := [(2, 42), (0, a1), (0, a2), (0, (a1 + 100 * w0)), (1, v54827), (9, 0), (0, x6), (1, v54827), (9, 0)]) (Nat.le_of_ble_eq_true rfl) rfl ?_
          refine ev_aload_n rfl ?_
          refine g_getp (r := 42) (c := 65) g54826 ad42 (by decide) (by decide) rf42_35 ft12_35 ?_
          refine ev_iload_n rfl ?_
          refine ev_iload rfl ?_
          refine ev_i2b (r := x6) (by unfold w8; omega) ?_
          refine g_bast (w := x6) g54826 ad65 rt65 (fun _ => rfl) (by omega) (by omega) (by unfold w8; omega) (by omega) (by omega) (fun h54831 e54831 g54831 => ?_)
          have k54831 := k54826.wr e54831 rfl
          refine ev_iinc (w := (x6 + 1)) (L' := [(2, 42), (0, a1), (0, a2), (0, (a1 + 100 * w0)), (1, v54827), (9, 0), (0, (x6 + 1)), (1, v54827), (9, 0)]) rfl (by unfold w32; omega) rfl ?_
          refine ev_goto f294_131 ?_
          exact ih _ _ _ _ _ _ g54831 k54831 (by omega) (by omega) (by omega) (by omega) (by omega) (by omega) (by omega) (by omega) (((jw_ne e54831 (Or.inl (by decide))).trans ((kk54826.v rfl).trans ey0))) (by omega) (by omega) (((jw_ne e54831 (Or.inl (by decide))).trans ((kk54826.v rfl).trans ey1))) (by omega) (by omega) ((nx54825 _ kk54826 vs54826).2 _ e54831) (by omega)
        · have c54830b := jcmpL_gtN c54830
          refine ev_goto f294_201 ?_
          refine ev_iinc (w := (x6 + 1)) (L' := [(2, 42), (0, a1), (0, a2), (0, (a1 + 100 * w0)), (1, x4), (9, 0), (0, (x6 + 1)), (1, v54827), (9, 0)]) rfl (by unfold w32; omega) rfl ?_
          refine ev_goto f294_131 ?_
          exact ih _ _ _ _ _ _ g54826 k54826 (by omega) (by omega) (by omega) (by omega) (by omega) (by omega) (by omega) (by omega) (((kk54826.v rfl).trans ey0)) (by omega) (by omega) (((kk54826.v rfl).trans ey1)) (by omega) (by omega) ((nx54825 _ kk54826 vs54826).1 (by omega)) (by omega)
set_option maxHeartbeats 4000000 in
theorem s294_s {G : GH} {h : JH} (g : Gd G h) {a1 : Int} (la1 : 0 ≤ a1) (ua1 : a1 ≤ 99) {a2 : Int} (la2 : 0 ≤ a2) (ua2 : a2 ≤ 9801) {w0 : Int} (ew0 : h.2.2 42 36 = w0) (lw0 : 0 ≤ w0) (uw0 : w0 ≤ 5) {w1 : Int} (ew1 : h.2.2 42 9 = w1) (lw1 : 0 ≤ w1) (uw1 : w1 ≤ 6) {w2 : Int} (ew2 : h.2.2 48 (w0).toNat = w2) (lw2 : 0 ≤ w2) (uw2 : w2 ≤ 100) (F0 : (w0 + (-w1)) ≤ (-1)) (F1 : (a1 + (-w2)) ≤ (-1)) (F2 : ((-99) * a1 + a2) ≤ 0) {Nf : Nat} {e : Nat} {S : List Nat} (tr : Tr h (w0).toNat Nf (a1).toNat e S) {M : Int} (hM : M = a1) {d : Nat} (hd : 3 ≤ d) (rih : ∀ {G : GH} {h : JH} (g : Gd G h) {a1 : Int} (la1 : 0 ≤ a1) (ua1 : a1 ≤ 99) {a2 : Int} (la2 : 0 ≤ a2) (ua2 : a2 ≤ 9801) {w0 : Int} (ew0 : h.2.2 42 36 = w0) (lw0 : 0 ≤ w0) (uw0 : w0 ≤ 5) {w1 : Int} (ew1 : h.2.2 42 9 = w1) (lw1 : 0 ≤ w1) (uw1 : w1 ≤ 6) {w2 : Int} (ew2 : h.2.2 48 (w0).toNat = w2) (lw2 : 0 ≤ w2) (uw2 : w2 ≤ 100) (F0 : (w0 + (-w1)) ≤ (-1)) (F1 : (a1 + (-w2)) ≤ (-1)) (F2 : ((-99) * a1 + a2) ≤ 0) {Nf : Nat} {e : Nat} {S : List Nat} (tr : Tr h (w0).toNat Nf (a1).toNat e S) (hm : M + 1 ≤ a1), jOk d 0 0 294 [(2, 42), (0, a1), (0, a2)] h (fun v h' => PI G [(64, 0), (65, 0)] h 1 (-9223372036854775808) 9223372036854775807 v h' ∧ Vis h h' (w0).toNat (a1).toNat e (Cpl h S))) : jOk (d + 2) 0 0 294 [(2, 42), (0, a1), (0, a2)] h (fun v h' => PI G [(64, 0), (65, 0)] h 1 (-9223372036854775808) 9223372036854775807 v h' ∧ Vis h h' (w0).toNat (a1).toNat e (Cpl h S)) := by
  refine ⟨by decide, by rw [ml294]; exact Nat.le_of_ble_eq_true rfl, ?_⟩
  rw [ml294, pp294]
  show jEv _ none _ c294_0 0 0 _ (c294_0, [(2, 42), (0, a1), (0, a2), (9, 0), (9, 0), (9, 0), (9, 0), (9, 0), (9, 0)], [], h, 0, 0)
  have k0 := Kp.rf [(64, 0), (65, 0)] h
  refine ev_bipush ?_
  refine ev_aload_n rfl ?_
  refine g_getv (r := 42) (v := w0) g ad42 (by decide) ft12_36 (ew0) ?_
  refine ev_imul (r := (100 * w0)) (by unfold w32; omega) ?_
  refine ev_iload_n rfl ?_
  refine ev_iadd (r := (a1 + 100 * w0)) (by unfold w32; omega) ?_
  refine ev_istore_n (L' := [(2, 42), (0, a1), (0, a2), (0, (a1 + 100 * w0)), (9, 0), (9, 0), (9, 0), (9, 0), (9, 0)]) (Nat.le_of_ble_eq_true rfl) rfl ?_
  refine ev_aload_n rfl ?_
  refine g_getp (r := 42) (c := 49) g ad42 (by decide) (by decide) rf42_11 ft12_11 ?_
  refine ev_iload_n rfl ?_
  refine g_bald g ad49 rt49 (by omega) (by omega) (fun v54832 ev54832 lv54832 uv54832 => ?_)
  refine ev_ifne f294_64 (fun c54833 => ?_) (fun c54833 => ?_)
  · refine ev_aload_n rfl ?_
    refine g_getp (r := 42) (c := 49) g ad42 (by decide) (by decide) rf42_11 ft12_11 ?_
    refine ev_iload_n rfl ?_
    refine g_baldv (v := v54832) g ad49 (by omega) (by omega) (ev54832) ?_
    refine ev_iconst ?_
    refine ev_icmpne f294_81 (fun c54834 => ?_) (fun c54834 => ?_)
    · refine ev_aload_n rfl ?_
      obtain ⟨v54835, ev54835, lv54835, uv54835⟩ := g.rd ad42 (show 39 < 66 by decide) rf42_39
      refine g_getv (r := 42) (v := v54835) g ad42 (by decide) ft12_39 ev54835 ?_
      refine ev_ifeq f294_125 (fun c54836 => ?_) (fun c54836 => ?_)
      · refine ev_lconst ?_
        refine ev_lstore (L' := [(2, 42), (0, a1), (0, a2), (0, (a1 + 100 * w0)), (1, 0), (9, 0), (9, 0), (9, 0), (9, 0)]) (Nat.le_of_ble_eq_true rfl) rfl ?_
        refine ev_iconst ?_
        refine ev_istore (L' := [(2, 42), (0, a1), (0, a2), (0, (a1 + 100 * w0)), (1, 0), (9, 0), (0, 0), (9, 0), (9, 0)]) (Nat.le_of_ble_eq_true rfl) rfl ?_
        obtain ⟨v54837, ev54837, lv54837, uv54837⟩ := g.rd ad50 (show ((a1 + 100 * w0)).toNat < 700 by omega) (rt50 _)
        have xv54837 := g.nd1 (q := w0) (n := a1) (by omega) (by rw [(ew1)]; omega) (by omega) (by rw [(ew2)]; omega) (i := (a1 + 100 * w0)) (by omega) (by rw [(ev54832)]; omega) ev54837
        exact (s294_s_l la1 ua1 la2 ua2 ew0 lw0 uw0 ew1 lw1 uw1 ew2 lw2 uw2 F0 F1 F2 tr hM hd rih 10) _ _ _ _ _ _ g k0 (by omega) (by omega) (by omega) (by omega) (by omega) (by omega) (by omega) (by omega) (ev54832) (by omega) (by omega) ev54837 (by omega) (by omega) (VC.start tr (by omega) (by omega) (i := (a1 + 100 * w0)) (by omega) (by rw [(ev54832)]; omega)) (by omega)
      · refine ev_aload_n rfl ?_
        refine ev_aload_n rfl ?_
        refine g_getp (r := 42) (c := 51) g ad42 (by decide) (by decide) rf42_13 ft12_13 ?_
        refine ev_iconst ?_
        refine ev_iload_n rfl ?_
        refine ev_imul (r := (4 * a1 + 400 * w0)) (by unfold w32; omega) ?_
        refine ev_aload_n rfl ?_
        refine g_getp (r := 42) (c := 53) g ad42 (by decide) (by decide) rf42_15 ft12_15 ?_
        refine ev_iload_n rfl ?_
        refine g_bald g ad53 rt53 (by omega) (by omega) (fun v54838 ev54838 lv54838 uv54838 => ?_)
        obtain ⟨v54839, ev54839, lv54839, uv54839⟩ := g.rd ad50 (show ((a1 + 100 * w0)).toNat < 700 by omega) (rt50 _)
        have xv54839 := g.nd1 (q := w0) (n := a1) (by omega) (by rw [(ew1)]; omega) (by omega) (by rw [(ew2)]; omega) (i := (a1 + 100 * w0)) (by omega) (by rw [(ev54832)]; omega) ev54839
        have xv54838 := g.nd1p (q := w0) (n := a1) (by omega) (by rw [(ew1)]; omega) (by omega) (by rw [(ew2)]; omega) (i := (a1 + 100 * w0)) (by omega) (by rw [(ev54832)]; omega) ev54839 ev54838
        refine ev_iadd (r := (4 * a1 + v54838 + 400 * w0)) (by unfold w32; omega) ?_
        refine g_bald g ad51 rt51 (by omega) (by omega) (fun v54840 ev54840 lv54840 uv54840 => ?_)
        have xv54840 := g.nd1c (q := w0) (n := a1) (by omega) (by rw [(ew1)]; omega) (by omega) (by rw [(ew2)]; omega) (i := (a1 + 100 * w0)) (by omega) (by rw [(ev54832)]; omega) (ev54839) (w := v54838) (by omega) (by omega) (j := (4 * a1 + v54838 + 400 * w0)) (by omega) ev54840
        rw [(ew2)] at xv54840
        refine ev_iload_n rfl ?_
        refine ev_aload_n rfl ?_
        refine g_getp (r := 42) (c := 52) g ad42 (by decide) (by decide) rf42_14 ft12_14 ?_
        refine ev_iconst ?_
        refine ev_iload_n rfl ?_
        refine ev_imul (r := (4 * a1 + 400 * w0)) (by unfold w32; omega) ?_
        refine ev_aload_n rfl ?_
        refine g_getp (r := 42) (c := 53) g ad42 (by decide) (by decide) rf42_15 ft12_15 ?_
        refine ev_iload_n rfl ?_
        refine g_baldv (v := v54838) g ad53 (by omega) (by omega) (ev54838) ?_
        refine ev_iadd (r := (4 * a1 + v54838 + 400 * w0)) (by unfold w32; omega) ?_
        refine g_iald g ad52 rt52 (by omega) (by omega) (fun v54841 ev54841 lv54841 uv54841 => ?_)
        refine ev_iadd (r := (a2 + v54841)) (by unfold w32; omega) ?_
        obtain ⟨N54842, e54842, tr54842, pn54842⟩ := Tr.planned tr (by omega) (by omega) (i := (a1 + 100 * w0)) (p := v54838) (by omega) (by rw [(ev54832)]; omega) (ev54839) (by omega) (by omega) (j := (4 * a1 + v54838 + 400 * w0)) (by omega) (ev54840) (by rw [(ev54835)]; omega)
        refine ev_call (jcall_v (A := [(0, (a2 + v54841)), (0, v54840)]) (S' := []) (r := 42) rfl (g.lt ad42) (g.tg ad42) (Nat.le_of_ble_eq_true rfl)) (jOk_le (by omega) (rih g (by omega) (by omega) (by omega) (by omega) (ew0) (by omega) (by omega) (ew1) (by omega) (by omega) (ew2) (by omega) (by omega) (by omega) (by omega) (by omega) tr54842 (by omega))) (by decide) (by decide) (fun w54843 h54843 q54843 => ?_)
        obtain ⟨q54843, vs54843⟩ := q54843
        obtain ⟨v54844, rfl, lv54844, uv54844, g54843, kk54843⟩ := q54843
        have k54843 := k0.tr kk54843 (by decide)
        show jEv _ _ _ _ _ _ _ (_, [(2, 42), (0, a1), (0, a2), (0, (a1 + 100 * w0)), (9, 0), (9, 0), (9, 0), (9, 0), (9, 0)], [(1, v54844)], _, _, _)
        exact ev_ret rfl (by decide) (by decide) ⟨⟨_, rfl, by omega, by omega, g54843, k54843⟩, pn54842 _ vs54843⟩
    · refine ev_aload_n rfl ?_
      refine ev_iload_n rfl ?_
      refine ev_iload_n rfl ?_
      refine ev_call (jcall_v (A := [(0, a2), (0, (a1 + 100 * w0))]) (S' := []) (r := 42) rfl (g.lt ad42) (g.tg ad42) (Nat.le_of_ble_eq_true rfl)) (jOk_le (by omega) (s295_s g (by omega) (by omega) (by omega) (by omega) (ew0) (by omega) (by omega) (ew1) (by omega) (by omega) (ew2) (by omega) (by omega) (by rw [(ev54832)]; omega) (n0 := a1) (by omega) (by omega) (by omega) tr hM (by omega) rih)) (by decide) (by decide) (fun w54845 h54845 q54845 => ?_)
      obtain ⟨q54845, vs54845⟩ := q54845
      obtain ⟨v54846, rfl, lv54846, uv54846, g54845, kk54845⟩ := q54845
      have k54845 := k0.tr kk54845 (by decide)
      show jEv _ _ _ _ _ _ _ (_, [(2, 42), (0, a1), (0, a2), (0, (a1 + 100 * w0)), (9, 0), (9, 0), (9, 0), (9, 0), (9, 0)], [(1, v54846)], _, _, _)
      exact ev_ret rfl (by decide) (by decide) ⟨⟨_, rfl, by omega, by omega, g54845, k54845⟩, vs54845⟩
  · refine ev_aload_n rfl ?_
    refine ev_aload_n rfl ?_
    obtain ⟨v54847, ev54847, lv54847, uv54847⟩ := g.rd ad42 (show 37 < 66 by decide) rf42_37
    refine g_getv (r := 42) (v := v54847) g ad42 (by decide) ft12_37 ev54847 ?_
    refine ev_aload_n rfl ?_
    obtain ⟨v54848, ev54848, lv54848, uv54848⟩ := g.rd ad42 (show 38 < 66 by decide) rf42_38
    refine g_getv (r := 42) (v := v54848) g ad42 (by decide) ft12_38 ev54848 ?_
    refine ev_aload_n rfl ?_
    refine g_getp (r := 42) (c := 50) g ad42 (by decide) (by decide) rf42_12 ft12_12 ?_
    refine ev_iload_n rfl ?_
    refine g_iald g ad50 rt50 (by omega) (by omega) (fun v54849 ev54849 lv54849 uv54849 => ?_)
    refine ev_iload_n rfl ?_
    refine ev_isub (r := ((-a2) + v54849)) (by unfold w32; omega) ?_
    refine ev_call (jcall_v (A := [(0, ((-a2) + v54849)), (0, v54848), (0, v54847)]) (S' := []) (r := 42) rfl (g.lt ad42) (g.tg ad42) (Nat.le_of_ble_eq_true rfl)) (jOk_le (by omega) (s289 g (by omega) (by omega) (by omega) (by omega) (by omega) (by omega))) (by decide) (by decide) (fun w54850 h54850 q54850 => ?_)
    obtain ⟨v54851, rfl, lv54851, uv54851, g54850, kk54850⟩ := q54850
    have k54850 := k0.tr kk54850 (by decide)
    show jEv _ _ _ _ _ _ _ (_, [(2, 42), (0, a1), (0, a2), (0, (a1 + 100 * w0)), (9, 0), (9, 0), (9, 0), (9, 0), (9, 0)], [(0, v54851)], _, _, _)
    refine ev_istore (L' := [(2, 42), (0, a1), (0, a2), (0, (a1 + 100 * w0)), (0, v54851), (9, 0), (9, 0), (9, 0), (9, 0)]) (Nat.le_of_ble_eq_true rfl) rfl ?_
    refine ev_aload_n rfl ?_
    refine g_getv (r := 42) (v := v54847) g54850 ad42 (by decide) ft12_37 (((kk54850.v (by decide)).trans ev54847)) ?_
    refine ev_iconst ?_
    refine ev_icmpne f294_55 (fun c54852 => ?_) (fun c54852 => ?_)
    · refine ev_aload_n rfl ?_
      refine ev_call (jcall_v (A := []) (S' := []) (r := 42) rfl (g54850.lt ad42) (g54850.tg ad42) (Nat.le_of_ble_eq_true rfl)) (jOk_le (by omega) (s293 g54850 )) (by decide) (by decide) (fun w54853 h54853 q54853 => ?_)
      obtain ⟨v54854, rfl, lv54854, uv54854, g54853, kk54853⟩ := q54853
      have k54853 := k54850.tr kk54853 (by decide)
      show jEv _ _ _ _ _ _ _ (_, [(2, 42), (0, a1), (0, a2), (0, (a1 + 100 * w0)), (0, v54851), (9, 0), (9, 0), (9, 0), (9, 0)], [(1, v54854)], _, _, _)
      refine ev_iload rfl ?_
      refine ev_i2l ?_
      refine g_lmulG (fun v54855 ev54855 lv54855 uv54855 => ?_)
      exact ev_ret rfl (by decide) (by decide) ⟨⟨_, rfl, by omega, by omega, g54853, k54853⟩, Vis.none tr (by omega) (by omega) (i := (a1 + 100 * w0)) (by omega) (by rw [ev54832]; omega) (((Kp.rf [] h).tr kk54850 (by decide)).tr kk54853 (by decide))⟩
    · refine ev_iload rfl ?_
      refine ev_i2l ?_
      refine ev_goto f294_63 ?_
      exact ev_ret rfl (by decide) (by decide) ⟨⟨_, rfl, by omega, by omega, g54850, k54850⟩, Vis.none tr (by omega) (by omega) (i := (a1 + 100 * w0)) (by omega) (by rw [ev54832]; omega) ((Kp.rf [] h).tr kk54850 (by decide))⟩
theorem s294_n (N : Nat) : ∀ {G : GH} {h : JH} (g : Gd G h) {a1 : Int} (la1 : 0 ≤ a1) (ua1 : a1 ≤ 99) {a2 : Int} (la2 : 0 ≤ a2) (ua2 : a2 ≤ 9801) {w0 : Int} (ew0 : h.2.2 42 36 = w0) (lw0 : 0 ≤ w0) (uw0 : w0 ≤ 5) {w1 : Int} (ew1 : h.2.2 42 9 = w1) (lw1 : 0 ≤ w1) (uw1 : w1 ≤ 6) {w2 : Int} (ew2 : h.2.2 48 (w0).toNat = w2) (lw2 : 0 ≤ w2) (uw2 : w2 ≤ 100) (F0 : (w0 + (-w1)) ≤ (-1)) (F1 : (a1 + (-w2)) ≤ (-1)) (F2 : ((-99) * a1 + a2) ≤ 0) {Nf : Nat} {e : Nat} {S : List Nat} (tr : Tr h (w0).toNat Nf (a1).toNat e S) (hN : 100 - a1 ≤ (N : Int)), jOk (3 + 2 * N) 0 0 294 [(2, 42), (0, a1), (0, a2)] h (fun v h' => PI G [(64, 0), (65, 0)] h 1 (-9223372036854775808) 9223372036854775807 v h' ∧ Vis h h' (w0).toNat (a1).toNat e (Cpl h S)) := by
  induction N with
  | zero => intro G h g a1 la1 ua1 a2 la2 ua2 w0 ew0 lw0 uw0 w1 ew1 lw1 uw1 w2 ew2 lw2 uw2 F0 F1 F2 Nf e S tr hN; exfalso; omega
  | succ N ih =>
    intro G h g a1 la1 ua1 a2 la2 ua2 w0 ew0 lw0 uw0 w1 ew1 lw1 uw1 w2 ew2 lw2 uw2 F0 F1 F2 Nf e S tr hN
    exact jOk_le (by omega) (s294_s g la1 ua1 la2 ua2 ew0 lw0 uw0 ew1 lw1 uw1 ew2 lw2 uw2 F0 F1 F2 tr (M := a1) rfl (d := 3 + 2 * N) (by omega) (fun {G} {h} g {a1} la1 ua1 {a2} la2 ua2 {w0} ew0 lw0 uw0 {w1} ew1 lw1 uw1 {w2} ew2 lw2 uw2 F0 F1 F2 {Nf} {e} {S} tr hm => ih g la1 ua1 la2 ua2 ew0 lw0 uw0 ew1 lw1 uw1 ew2 lw2 uw2 F0 F1 F2 tr (by omega)))
theorem s294 {G : GH} {h : JH} (g : Gd G h) {a1 : Int} (la1 : 0 ≤ a1) (ua1 : a1 ≤ 99) {a2 : Int} (la2 : 0 ≤ a2) (ua2 : a2 ≤ 9801) {w0 : Int} (ew0 : h.2.2 42 36 = w0) (lw0 : 0 ≤ w0) (uw0 : w0 ≤ 5) {w1 : Int} (ew1 : h.2.2 42 9 = w1) (lw1 : 0 ≤ w1) (uw1 : w1 ≤ 6) {w2 : Int} (ew2 : h.2.2 48 (w0).toNat = w2) (lw2 : 0 ≤ w2) (uw2 : w2 ≤ 100) (F0 : (w0 + (-w1)) ≤ (-1)) (F1 : (a1 + (-w2)) ≤ (-1)) (F2 : ((-99) * a1 + a2) ≤ 0) {Nf : Nat} {e : Nat} {S : List Nat} (tr : Tr h (w0).toNat Nf (a1).toNat e S) : jOk 203 0 0 294 [(2, 42), (0, a1), (0, a2)] h (fun v h' => PI G [(64, 0), (65, 0)] h 1 (-9223372036854775808) 9223372036854775807 v h' ∧ Vis h h' (w0).toNat (a1).toNat e (Cpl h S)) := jOk_le (by decide) (s294_n 100 g la1 ua1 la2 ua2 ew0 lw0 uw0 ew1 lw1 uw1 ew2 lw2 uw2 F0 F1 F2 tr (by omega))
