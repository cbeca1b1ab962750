set_option maxHeartbeats 4000000 in
theorem s297_l {G : GH} {h : JH} {w0 : Int} (ew0 : h.2.2 42 36 = w0) (lw0 : 0 ≤ w0) (uw0 : w0 ≤ 5) {w1 : Int} (ew1 : h.2.2 42 9 = w1) (lw1 : 0 ≤ w1) (uw1 : w1 ≤ 6) {w2 : Int} (ew2 : h.2.2 48 (w0).toNat = w2) (lw2 : 1 ≤ w2) (uw2 : w2 ≤ 100) (F0 : (w0 + (-w1)) ≤ (-1)) : ∀ N : Nat, (∀ (h1 : JH) (x1 x3 : Int), Gd G h1 → Kp [] h h1 → (-9223372036854775808) ≤ x1 → x1 ≤ 9223372036854775807 → 0 ≤ x3 → x3 ≤ 81 → ((-x3) + 81) < N → jEv (jOk 100) none (fun _ => 0) c297_0 0 0 (PI G [] h 1 (-9223372036854775808) 9223372036854775807) (c297_14, [(2, 42), (1, x1), (9, 0), (0, x3)], [], h1, 0, 0)) := by
  intro N
  induction N with
  | zero => exact fun h1 x1 x3 g1 k1 b0 b1 b2 b3 hm => absurd hm (by omega)
  | succ N ih =>
    show _
    intro h1 x1 x3 g1 k1 b0 b1 b2 b3 hm
    refine ev_iload_n rfl ?_
    refine ev_aload_n rfl ?_
    obtain ⟨v55165, ev55165, lv55165, uv55165⟩ := g1.rd ad42 (show 5 < 66 by decide) rf42_5
    refine g_getv (r := 42) (v := v55165) g1 ad42 (by decide) ft12_5 ev55165 ?_
    refine ev_icmpge f297_50 (fun c55166 => ?_) (fun c55166 => ?_)
    · refine ev_lload_n rfl ?_
      exact ev_ret rfl (by decide) (by decide) ⟨_, rfl, by omega, by omega, g1, k1⟩
    · refine ev_lload_n rfl ?_
      refine ev_aload_n rfl ?_
      refine g_getp (r := 42) (c := 47) g1 ad42 (by decide) (by decide) rf42_7 ft12_7 ?_
      refine ev_iload_n rfl ?_
      refine g_lald g1 ad47 rt47 (by omega) (by omega) (fun v55167 ev55167 lv55167 uv55167 => ?_)
      refine ev_aload_n rfl ?_
      refine ev_aload_n rfl ?_
      refine ev_iconst ?_
      refine ev_iload_n rfl ?_
      refine ev_iconst ?_
      refine ev_call (jcall_v (A := [(0, 0), (0, x3), (0, 0)]) (S' := [(2, 42), (1, v55167), (1, x1)]) (r := 42) rfl (g1.lt ad42) (g1.tg ad42) (Nat.le_of_ble_eq_true rfl)) (jOk_le (by decide) (s296 g1 (by omega) (by omega) (by omega) (by omega) (by omega) (by omega) (((k1.v (by decide)).trans ew0)) (by omega) (by omega) (((k1.v (by decide)).trans ew1)) (by omega) (by omega) (((k1.v rfl).trans ew2)) (by omega) (by omega) (by omega) (by omega) (by omega))) (by decide) (by decide) (fun w55168 h55168 q55168 => ?_)
      obtain ⟨v55169, rfl, lv55169, uv55169, g55168, kk55168⟩ := q55168
      have k55168 := k1.tr kk55168 (by decide)
      show jEv _ _ _ _ _ _ _ (_, [(2, 42), (1, x1), (9, 0), (0, x3)], [(0, v55169), (2, 42), (1, v55167), (1, x1)], _, _, _)
      refine ev_call (jcall_v (A := [(0, v55169)]) (S' := [(1, v55167), (1, x1)]) (r := 42) rfl (g55168.lt ad42) (g55168.tg ad42) (Nat.le_of_ble_eq_true rfl)) (jOk_le (by decide) (s288 g55168 (by omega) (by omega))) (by decide) (by decide) (fun w55170 h55170 q55170 => ?_)
      obtain ⟨v55171, rfl, lv55171, uv55171, g55170, kk55170⟩ := q55170
      have k55170 := k55168.tr kk55170 (by decide)
      show jEv _ _ _ _ _ _ _ (_, [(2, 42), (1, x1), (9, 0), (0, x3)], [(0, v55171), (1, v55167), (1, x1)], _, _, _)
      refine ev_i2l ?_
      refine g_lmulG (fun v55172 ev55172 lv55172 uv55172 => ?_)
      refine g_laddG (fun v55173 ev55173 lv55173 uv55173 => ?_)
      refine ev_lstore_n (L' := [(2, 42), (1, v55173), (9, 0), (0, x3)]) (Nat.le_of_ble_eq_true rfl) rfl ?_
      refine ev_iinc (w := (x3 + 1)) (L' := [(2, 42), (1, v55173), (9, 0), (0, (x3 + 1))]) rfl (by unfold w32; omega) rfl ?_
      refine ev_goto f297_14 ?_
      exact ih _ _ _ g55170 k55170 (by omega) (by omega) (by omega) (by omega) (by omega)
set_option maxHeartbeats 4000000 in
theorem s297 {G : GH} {h : JH} (g : Gd G h) {w0 : Int} (ew0 : h.2.2 42 36 = w0) (lw0 : 0 ≤ w0) (uw0 : w0 ≤ 5) {w1 : Int} (ew1 : h.2.2 42 9 = w1) (lw1 : 0 ≤ w1) (uw1 : w1 ≤ 6) {w2 : Int} (ew2 : h.2.2 48 (w0).toNat = w2) (lw2 : 1 ≤ w2) (uw2 : w2 ≤ 100) (F0 : (w0 + (-w1)) ≤ (-1)) : jOk 101 0 0 297 [(2, 42)] h (PI G [] h 1 (-9223372036854775808) 9223372036854775807) := by
  refine ⟨by decide, by rw [ml297]; exact Nat.le_of_ble_eq_true rfl, ?_⟩
  rw [ml297, pp297]
  show jEv _ none _ c297_0 0 0 _ (c297_0, [(2, 42), (9, 0), (9, 0), (9, 0)], [], h, 0, 0)
  have k0 := Kp.rf [] h
  refine ev_aload_n rfl ?_
  obtain ⟨v55174, ev55174, lv55174, uv55174⟩ := g.rd ad42 (show 37 < 66 by decide) rf42_37
  refine g_getv (r := 42) (v := v55174) g ad42 (by decide) ft12_37 ev55174 ?_
  refine ev_iconst ?_
  refine ev_icmpeq f297_10 (fun c55175 => ?_) (fun c55175 => ?_)
  · refine ev_lconst ?_
    refine ev_lstore_n (L' := [(2, 42), (1, 0), (9, 0), (9, 0)]) (Nat.le_of_ble_eq_true rfl) rfl ?_
    refine ev_iconst ?_
    refine ev_istore_n (L' := [(2, 42), (1, 0), (9, 0), (0, 0)]) (Nat.le_of_ble_eq_true rfl) rfl ?_
    exact (s297_l ew0 lw0 uw0 ew1 lw1 uw1 ew2 lw2 uw2 F0 164) _ _ _ g k0 (by omega) (by omega) (by omega) (by omega) (by omega)
  · refine ev_lconst ?_
    exact ev_ret rfl (by decide) (by decide) ⟨_, rfl, by omega, by omega, g, k0⟩
set_option maxHeartbeats 4000000 in
theorem s298 {G : GH} {h : JH} (g : Gd G h) {a1 : Int} (la1 : 0 ≤ a1) (ua1 : a1 ≤ 5) {a2 : Int} (la2 : (-2147483648) ≤ a2) (ua2 : a2 ≤ 2147483647) {a3 : Int} (la3 : (-2147483648) ≤ a3) (ua3 : a3 ≤ 2147483647) {a4 : Int} (la4 : 0 ≤ a4) (ua4 : a4 ≤ 1) {w0 : Int} (ew0 : h.2.2 42 9 = w0) (lw0 : 0 ≤ w0) (uw0 : w0 ≤ 6) {w1 : Int} (ew1 : h.2.2 48 (a1).toNat = w1) (lw1 : 1 ≤ w1) (uw1 : w1 ≤ 100) (F0 : (a1 + (-w0)) ≤ (-1)) : jOk 204 0 0 298 [(2, 42), (0, a1), (0, a2), (0, a3), (0, a4)] h (fun v h' => PI G [(42, 37), (42, 38), (42, 39), (42, 40), (64, 0), (65, 0)] h 1 (-9223372036854775808) 9223372036854775807 v h' ∧ h'.2.2 42 36 = a1 ∧ (a4 = 0 → ∀ m : Nat, (m : Int) < w1 → Bok h' (a1).toNat m)) := by
  refine ⟨by decide, by rw [ml298]; exact Nat.le_of_ble_eq_true rfl, ?_⟩
  rw [ml298, pp298]
  show jEv _ none _ c298_0 0 0 _ (c298_0, [(2, 42), (0, a1), (0, a2), (0, a3), (0, a4)], [], h, 0, 0)
  have k0 := Kp.rf [(42, 37), (42, 38), (42, 39), (42, 40), (64, 0), (65, 0)] h
  refine ev_aload_n rfl ?_
  refine ev_iload_n rfl ?_
  refine ev_iload_n rfl ?_
  refine ev_iload_n rfl ?_
  refine ev_iload rfl ?_
  refine ev_in (d := 202) (a := 0) (b := 0) (cd' := c291_0) (m := 6) (L0 := [(2, 42), (0, a1), (0, a2), (0, a3), (0, a4), (9, 0)]) (jcall_v (A := [(0, a4), (0, a3), (0, a2), (0, a1)]) (S' := []) (r := 42) rfl (g.lt ad42) (g.tg ad42) (Nat.le_of_ble_eq_true rfl)) (by decide) ml291 pp291 (Nat.le_of_ble_eq_true rfl) rfl (by decide) (by decide) ?_
  refine ev_aload_n rfl ?_
  refine ev_iload_n rfl ?_
  refine g_putf (r := 42) g ad42 (by decide) ft12_36 (by decide) (fun e => absurd e nz12_36) rf42_36 (by decide) (by omega) (by omega) (fun h55212 e55212 g55212 => ?_)
  have k55212 := k0.wr e55212 rfl
  refine ev_aload_n rfl ?_
  refine ev_iload_n rfl ?_
  refine g_putf (r := 42) g55212 ad42 (by decide) ft12_37 (by decide) (fun e => absurd e nz12_37) rf42_37 (by decide) (by omega) (by omega) (fun h55213 e55213 g55213 => ?_)
  have k55213 := k55212.wr e55213 rfl
  refine ev_aload_n rfl ?_
  refine ev_iload_n rfl ?_
  refine g_putf (r := 42) g55213 ad42 (by decide) ft12_38 (by decide) (fun e => absurd e nz12_38) rf42_38 (by decide) (by omega) (by omega) (fun h55214 e55214 g55214 => ?_)
  have k55214 := k55213.wr e55214 rfl
  refine ev_aload_n rfl ?_
  refine ev_iload rfl ?_
  refine g_putf (r := 42) g55214 ad42 (by decide) ft12_39 (by decide) (fun _ => by omega) rf42_39 (by decide) (by omega) (by omega) (fun h55215 e55215 g55215 => ?_)
  have k55215 := k55214.wr e55215 rfl
  refine ev_iconst ?_
  refine ev_istore (L' := [(2, 42), (0, a1), (0, a2), (0, a3), (0, a4), (0, 0)]) (Nat.le_of_ble_eq_true rfl) rfl ?_
  refine ev_iload rfl ?_
  refine ev_iconst ?_
  refine ev_icmpge f291_44 (fun c55216 => absurd c55216 (by omega)) (fun c55216 => ?_)
  refine ev_aload_n rfl ?_
  refine g_getp (r := 42) (c := 64) g55215 ad42 (by decide) (by decide) rf42_34 ft12_34 ?_
  refine ev_iload rfl ?_
  refine ev_iconst ?_
  refine g_iast g55215 ad64 rt64 (fun _ => rfl) (by omega) (by omega) (by omega) (by omega) (fun h55217 e55217 g55217 => ?_)
  have k55217 := k55215.wr e55217 rfl
  refine ev_iinc (w := 1) (L' := [(2, 42), (0, a1), (0, a2), (0, a3), (0, a4), (0, 1)]) rfl (by decide) rfl ?_
  refine ev_goto f291_24 ?_
  refine ev_iload rfl ?_
  refine ev_iconst ?_
  refine ev_icmpge f291_44 (fun c55218 => absurd c55218 (by omega)) (fun c55218 => ?_)
  refine ev_aload_n rfl ?_
  refine g_getp (r := 42) (c := 64) g55217 ad42 (by decide) (by decide) rf42_34 ft12_34 ?_
  refine ev_iload rfl ?_
  refine ev_iconst ?_
  refine g_iast g55217 ad64 rt64 (fun _ => rfl) (by omega) (by omega) (by omega) (by omega) (fun h55219 e55219 g55219 => ?_)
  have k55219 := k55217.wr e55219 rfl
  refine ev_iinc (w := 2) (L' := [(2, 42), (0, a1), (0, a2), (0, a3), (0, a4), (0, 2)]) rfl (by decide) rfl ?_
  refine ev_goto f291_24 ?_
  refine ev_iload rfl ?_
  refine ev_iconst ?_
  refine ev_icmpge f291_44 (fun c55220 => absurd c55220 (by omega)) (fun c55220 => ?_)
  refine ev_aload_n rfl ?_
  refine g_getp (r := 42) (c := 64) g55219 ad42 (by decide) (by decide) rf42_34 ft12_34 ?_
  refine ev_iload rfl ?_
  refine ev_iconst ?_
  refine g_iast g55219 ad64 rt64 (fun _ => rfl) (by omega) (by omega) (by omega) (by omega) (fun h55221 e55221 g55221 => ?_)
  have k55221 := k55219.wr e55221 rfl
  refine ev_iinc (w := 3) (L' := [(2, 42), (0, a1), (0, a2), (0, a3), (0, a4), (0, 3)]) rfl (by decide) rfl ?_
  refine ev_goto f291_24 ?_
  refine ev_iload rfl ?_
  refine ev_iconst ?_
  refine ev_icmpge f291_44 (fun c55222 => absurd c55222 (by omega)) (fun c55222 => ?_)
  refine ev_aload_n rfl ?_
  refine g_getp (r := 42) (c := 64) g55221 ad42 (by decide) (by decide) rf42_34 ft12_34 ?_
  refine ev_iload rfl ?_
  refine ev_iconst ?_
  refine g_iast g55221 ad64 rt64 (fun _ => rfl) (by omega) (by omega) (by omega) (by omega) (fun h55223 e55223 g55223 => ?_)
  have k55223 := k55221.wr e55223 rfl
  refine ev_iinc (w := 4) (L' := [(2, 42), (0, a1), (0, a2), (0, a3), (0, a4), (0, 4)]) rfl (by decide) rfl ?_
  refine ev_goto f291_24 ?_
  refine ev_iload rfl ?_
  refine ev_iconst ?_
  refine ev_icmpge f291_44 (fun c55224 => ?_) (fun c55224 => absurd c55224 (by omega))
  refine ev_ret rfl (by decide) (by decide) ?_
  show jEv _ _ _ _ _ _ _ (_, [(2, 42), (0, a1), (0, a2), (0, a3), (0, a4)], [], _, _, _)
  refine ev_aload_n rfl ?_
  refine ev_iconst ?_
  refine ev_iconst ?_
  refine ev_call (jcall_v (A := [(0, 0), (0, 0)]) (S' := []) (r := 42) rfl (g55223.lt ad42) (g55223.tg ad42) (Nat.le_of_ble_eq_true rfl)) (jOk_le (by decide) (s294 g55223 (by omega) (by omega) (by omega) (by omega) (((jw_ne e55223 (Or.inl (by decide))).trans ((jw_ne e55221 (Or.inl (by decide))).trans ((jw_ne e55219 (Or.inl (by decide))).trans ((jw_ne e55217 (Or.inl (by decide))).trans ((jw_ne e55215 (Or.inr (by decide))).trans ((jw_ne e55214 (Or.inr (by decide))).trans ((jw_ne e55213 (Or.inr (by decide))).trans (jw_eq e55212))))))))) (by omega) (by omega) (((jw_ne e55223 (Or.inl (by decide))).trans ((jw_ne e55221 (Or.inl (by decide))).trans ((jw_ne e55219 (Or.inl (by decide))).trans ((jw_ne e55217 (Or.inl (by decide))).trans ((jw_ne e55215 (Or.inr (by decide))).trans ((jw_ne e55214 (Or.inr (by decide))).trans ((jw_ne e55213 (Or.inr (by decide))).trans ((jw_ne e55212 (Or.inr (by decide))).trans ew0))))))))) (by omega) (by omega) (((jw_ne e55223 (Or.inl (by decide))).trans ((jw_ne e55221 (Or.inl (by decide))).trans ((jw_ne e55219 (Or.inl (by decide))).trans ((jw_ne e55217 (Or.inl (by decide))).trans ((jw_ne e55215 (Or.inl (by decide))).trans ((jw_ne e55214 (Or.inl (by decide))).trans ((jw_ne e55213 (Or.inl (by decide))).trans ((jw_ne e55212 (Or.inl (by decide))).trans ew1))))))))) (by omega) (by omega) (by omega) (by omega) (by omega) (g55223.ex.2.2.2.1 (a1).toNat (by rw [(((jw_ne e55223 (Or.inl (by decide))).trans ((jw_ne e55221 (Or.inl (by decide))).trans ((jw_ne e55219 (Or.inl (by decide))).trans ((jw_ne e55217 (Or.inl (by decide))).trans ((jw_ne e55215 (Or.inr (by decide))).trans ((jw_ne e55214 (Or.inr (by decide))).trans ((jw_ne e55213 (Or.inr (by decide))).trans ((jw_ne e55212 (Or.inr (by decide))).trans ew0)))))))))]; omega)))) (by decide) (by decide) (fun w55225 h55225 q55225 => ?_)
  obtain ⟨q55225, vs55225⟩ := q55225
  obtain ⟨v55226, rfl, lv55226, uv55226, g55225, kk55225⟩ := q55225
  have k55225 := k55223.tr kk55225 (by decide)
  show jEv _ _ _ _ _ _ _ (_, [(2, 42), (0, a1), (0, a2), (0, a3), (0, a4)], [(1, v55226)], _, _, _)
  refine ev_aload_n rfl ?_
  refine ev_call (jcall_v (A := []) (S' := [(1, v55226)]) (r := 42) rfl (g55225.lt ad42) (g55225.tg ad42) (Nat.le_of_ble_eq_true rfl)) (jOk_le (by decide) (s297 g55225 (((kk55225.v (by decide)).trans ((jw_ne e55223 (Or.inl (by decide))).trans ((jw_ne e55221 (Or.inl (by decide))).trans ((jw_ne e55219 (Or.inl (by decide))).trans ((jw_ne e55217 (Or.inl (by decide))).trans ((jw_ne e55215 (Or.inr (by decide))).trans ((jw_ne e55214 (Or.inr (by decide))).trans ((jw_ne e55213 (Or.inr (by decide))).trans (jw_eq e55212)))))))))) (by omega) (by omega) (((kk55225.v (by decide)).trans ((jw_ne e55223 (Or.inl (by decide))).trans ((jw_ne e55221 (Or.inl (by decide))).trans ((jw_ne e55219 (Or.inl (by decide))).trans ((jw_ne e55217 (Or.inl (by decide))).trans ((jw_ne e55215 (Or.inr (by decide))).trans ((jw_ne e55214 (Or.inr (by decide))).trans ((jw_ne e55213 (Or.inr (by decide))).trans ((jw_ne e55212 (Or.inr (by decide))).trans ew0)))))))))) (by omega) (by omega) (((kk55225.v rfl).trans ((jw_ne e55223 (Or.inl (by decide))).trans ((jw_ne e55221 (Or.inl (by decide))).trans ((jw_ne e55219 (Or.inl (by decide))).trans ((jw_ne e55217 (Or.inl (by decide))).trans ((jw_ne e55215 (Or.inl (by decide))).trans ((jw_ne e55214 (Or.inl (by decide))).trans ((jw_ne e55213 (Or.inl (by decide))).trans ((jw_ne e55212 (Or.inl (by decide))).trans ew1)))))))))) (by omega) (by omega) (by omega))) (by decide) (by decide) (fun w55227 h55227 q55227 => ?_)
  obtain ⟨v55228, rfl, lv55228, uv55228, g55227, kk55227⟩ := q55227
  have k55227 := k55225.tr kk55227 (by decide)
  show jEv _ _ _ _ _ _ _ (_, [(2, 42), (0, a1), (0, a2), (0, a3), (0, a4)], [(1, v55228), (1, v55226)], _, _, _)
  refine g_lsubG (fun v55229 ev55229 lv55229 uv55229 => ?_)
  exact ev_ret rfl (by decide) (by decide) ⟨⟨_, rfl, by omega, by omega, g55227, k55227⟩, (((kk55227.v (by decide)).trans ((kk55225.v (by decide)).trans ((jw_ne e55223 (Or.inl (by decide))).trans ((jw_ne e55221 (Or.inl (by decide))).trans ((jw_ne e55219 (Or.inl (by decide))).trans ((jw_ne e55217 (Or.inl (by decide))).trans ((jw_ne e55215 (Or.inr (by decide))).trans ((jw_ne e55214 (Or.inr (by decide))).trans ((jw_ne e55213 (Or.inr (by decide))).trans (jw_eq e55212))))))))))), fun z m hm => ((vs55225.all (Cpl.mk (((jw_ne e55223 (Or.inl (by decide))).trans ((jw_ne e55221 (Or.inl (by decide))).trans ((jw_ne e55219 (Or.inl (by decide))).trans ((jw_ne e55217 (Or.inl (by decide))).trans (jw_eq e55215)))))) z (((jw_ne e55223 (Or.inr (by decide))).trans ((jw_ne e55221 (Or.inr (by decide))).trans ((jw_ne e55219 (Or.inr (by decide))).trans (jw_eq e55217))))) (((jw_ne e55223 (Or.inr (by decide))).trans ((jw_ne e55221 (Or.inr (by decide))).trans (jw_eq e55219)))) (((jw_ne e55223 (Or.inr (by decide))).trans (jw_eq e55221))) ((jw_eq e55223))) (by rw [(((jw_ne e55223 (Or.inl (by decide))).trans ((jw_ne e55221 (Or.inl (by decide))).trans ((jw_ne e55219 (Or.inl (by decide))).trans ((jw_ne e55217 (Or.inl (by decide))).trans ((jw_ne e55215 (Or.inl (by decide))).trans ((jw_ne e55214 (Or.inl (by decide))).trans ((jw_ne e55213 (Or.inl (by decide))).trans ((jw_ne e55212 (Or.inl (by decide))).trans ew1)))))))))]; omega) hm).kg kk55227 (fun _ => rfl) (fun _ => rfl) (fun _ => rfl))⟩
set_option maxHeartbeats 4000000 in
theorem s300_l {G : GH} {h : JH} {a1 : Int} (la1 : 0 ≤ a1) (ua1 : a1 ≤ 5) {w0 : Int} (ew0 : h.2.2 42 9 = w0) (lw0 : 0 ≤ w0) (uw0 : w0 ≤ 6) {w1 : Int} (ew1 : h.2.2 48 (a1).toNat = w1) (lw1 : 1 ≤ w1) (uw1 : w1 ≤ 100) (F0 : (a1 + (-w0)) ≤ (-1)) (hB : ∀ m : Nat, (m : Int) < w1 → Bok h (a1).toNat m) : ∀ N : Nat, (∀ (h1 : JH) (x2 : Int), Gd G h1 → Kp [(53, 0)] h h1 → 0 ≤ a1 → a1 ≤ 5 → 0 ≤ x2 → x2 ≤ 100 → ((-x2) + 100) < N → jEv (jOk 0) none (fun _ => 0) c300_0 0 0 (PV G [(53, 0)] h) (c300_2, [(2, 42), (0, a1), (0, x2)], [], h1, 0, 0)) := by
  intro N
  induction N with
  | zero => exact fun h1 x2 g1 k1 b0 b1 b2 b3 hm => absurd hm (by omega)
  | succ N ih =>
    show _
    intro h1 x2 g1 k1 b0 b1 b2 b3 hm
    refine ev_iload_n rfl ?_
    refine ev_aload_n rfl ?_
    refine g_getp (r := 42) (c := 48) g1 ad42 (by decide) (by decide) rf42_10 ft12_10 ?_
    refine ev_iload_n rfl ?_
    refine g_ialdv (v := w1) g1 ad48 (by omega) (by omega) (((k1.v rfl).trans ew1)) ?_
    refine ev_icmpge f300_50 (fun c55464 => ?_) (fun c55464 => ?_)
    · exact ev_ret rfl (by decide) (by decide) ⟨rfl, g1, k1⟩
    · refine ev_aload_n rfl ?_
      refine g_getp (r := 42) (c := 49) g1 ad42 (by decide) (by decide) rf42_11 ft12_11 ?_
      refine ev_bipush ?_
      refine ev_iload_n rfl ?_
      refine ev_imul (r := (100 * a1)) (by unfold w32; omega) ?_
      refine ev_iload_n rfl ?_
      refine ev_iadd (r := (100 * a1 + x2)) (by unfold w32; omega) ?_
      refine g_bald g1 ad49 rt49 (by omega) (by omega) (fun v55465 ev55465 lv55465 uv55465 => ?_)
      refine ev_iconst ?_
      refine ev_icmpne f300_44 (fun c55466 => ?_) (fun c55466 => ?_)
      · refine ev_iinc (w := (x2 + 1)) (L' := [(2, 42), (0, a1), (0, (x2 + 1))]) rfl (by unfold w32; omega) rfl ?_
        refine ev_goto f300_2 ?_
        exact ih _ _ g1 k1 (by omega) (by omega) (by omega) (by omega) (by omega)
      · refine ev_aload_n rfl ?_
        refine g_getp (r := 42) (c := 53) g1 ad42 (by decide) (by decide) rf42_15 ft12_15 ?_
        refine ev_bipush ?_
        refine ev_iload_n rfl ?_
        refine ev_imul (r := (100 * a1)) (by unfold w32; omega) ?_
        refine ev_iload_n rfl ?_
        refine ev_iadd (r := (100 * a1 + x2)) (by unfold w32; omega) ?_
        refine ev_aload_n rfl ?_
        refine g_getp (r := 42) (c := 65) g1 ad42 (by decide) (by decide) rf42_35 ft12_35 ?_
        refine ev_iload_n rfl ?_
        refine g_bald g1 ad65 rt65 (by omega) (by omega) (fun v55467 ev55467 lv55467 uv55467 => ?_)
        obtain ⟨v55468, ev55468, lv55468, uv55468⟩ := g1.rd ad50 (show ((100 * a1 + x2)).toNat < 700 by omega) (rt50 _)
        have xv55468 := g1.nd1 (q := a1) (n := x2) (by omega) (by rw [(((k1.v (by decide)).trans ew0))]; omega) (by omega) (by rw [(((k1.v rfl).trans ew1))]; omega) (i := (100 * a1 + x2)) (by omega) (by rw [(ev55465)]; omega) ev55468
        have zv55467 := ((hB (x2).toNat (by omega)).kg k1 (fun _ => rfl) (fun _ => rfl) (fun _ => rfl)).at (q := a1) (n := x2) (by omega) (by omega) (i := (100 * a1 + x2)) (by omega) (by rw [(ev55465)]; omega) (ev55467) ev55468
        refine ev_bastG (r := 53) (j := ((100 * a1 + x2)).toNat) (w := v55467) (g1.lt ad53) (g1.tg ad53) (by omega) (by rw [g1.ln ad53]; omega) (by unfold w8; omega) (fun h55469 e55469 => ?_)
        have g55469 := g1.s53 e55469 (Or.inr ⟨by omega, by rw [(ev55468)]; omega⟩) (by omega) (by omega)
        have k55469 := k1.wr e55469 rfl
        refine ev_iinc (w := (x2 + 1)) (L' := [(2, 42), (0, a1), (0, (x2 + 1))]) rfl (by unfold w32; omega) rfl ?_
        refine ev_goto f300_2 ?_
        exact ih _ _ g55469 k55469 (by omega) (by omega) (by omega) (by omega) (by omega)
set_option maxHeartbeats 4000000 in
theorem s300 {G : GH} {h : JH} (g : Gd G h) {a1 : Int} (la1 : 0 ≤ a1) (ua1 : a1 ≤ 5) {w0 : Int} (ew0 : h.2.2 42 9 = w0) (lw0 : 0 ≤ w0) (uw0 : w0 ≤ 6) {w1 : Int} (ew1 : h.2.2 48 (a1).toNat = w1) (lw1 : 1 ≤ w1) (uw1 : w1 ≤ 100) (F0 : (a1 + (-w0)) ≤ (-1)) (hB : ∀ m : Nat, (m : Int) < w1 → Bok h (a1).toNat m) : jOk 1 0 0 300 [(2, 42), (0, a1)] h (PV G [(53, 0)] h) := by
  refine ⟨by decide, by rw [ml300]; exact Nat.le_of_ble_eq_true rfl, ?_⟩
  rw [ml300, pp300]
  show jEv _ none _ c300_0 0 0 _ (c300_0, [(2, 42), (0, a1), (9, 0)], [], h, 0, 0)
  have k0 := Kp.rf [(53, 0)] h
  refine ev_iconst ?_
  refine ev_istore_n (L' := [(2, 42), (0, a1), (0, 0)]) (Nat.le_of_ble_eq_true rfl) rfl ?_
  exact (s300_l la1 ua1 ew0 lw0 uw0 ew1 lw1 uw1 F0 hB 202) _ _ g k0 (by omega) (by omega) (by omega) (by omega) (by omega)
set_option maxHeartbeats 4000000 in
theorem s301 {G : GH} {h : JH} (g : Gd G h) {a1 : Int} (la1 : (-2147483648) ≤ a1) (ua1 : a1 ≤ 2147483647) {a2 : Int} (la2 : (-2147483648) ≤ a2) (ua2 : a2 ≤ 2147483647) {a3 : Int} (la3 : (-2147483648) ≤ a3) (ua3 : a3 ≤ 2147483647) : jOk 205 0 0 301 [(2, 42), (0, a1), (0, a2), (0, a3)] h (PI G [(46, 0), (47, 0), (42, 6), (42, 9), (42, 37), (42, 38), (42, 39), (42, 40), (64, 0), (65, 0), (53, 0)] h 1 (-9223372036854775808) 9223372036854775807) := by
  refine ⟨by decide, by rw [ml301]; exact Nat.le_of_ble_eq_true rfl, ?_⟩
  rw [ml301, pp301]
  show jEv _ none _ c301_0 0 0 _ (c301_0, [(2, 42), (0, a1), (0, a2), (0, a3), (9, 0), (9, 0)], [], h, 0, 0)
  have k0 := Kp.rf [(46, 0), (47, 0), (42, 6), (42, 9), (42, 37), (42, 38), (42, 39), (42, 40), (64, 0), (65, 0), (53, 0)] h
  refine ev_aload_n rfl ?_
  refine ev_iload_n rfl ?_
  refine ev_in (d := 203) (a := 0) (b := 0) (cd' := c261_0) (m := 2) (L0 := [(2, 42), (0, a1)]) (jcall_v (A := [(0, a1)]) (S' := []) (r := 42) rfl (g.lt ad42) (g.tg ad42) (Nat.le_of_ble_eq_true rfl)) (by decide) ml261 pp261 (Nat.le_of_ble_eq_true rfl) rfl (by decide) (by decide) ?_
  refine ev_iload_n rfl ?_
  refine ev_iconst ?_
  refine ev_aload_n rfl ?_
  obtain ⟨v55538, ev55538, lv55538, uv55538⟩ := g.rd ad42 (show 9 < 66 by decide) rf42_9
  refine g_getv (r := 42) (v := v55538) g ad42 (by decide) ft12_9 ev55538 ?_
  refine ev_iconst ?_
  refine ev_isub (r := (v55538 - 1)) (by unfold w32; omega) ?_
  refine ev_in (d := 202) (a := 0) (b := 0) (cd' := c242_0) (m := 3) (L0 := [(0, a1), (0, 0), (0, (v55538 - 1))]) (jcall_s (A := [(0, (v55538 - 1)), (0, 0), (0, a1)]) (S' := []) (by decide) rfl (Nat.le_of_ble_eq_true rfl)) (by decide) ml242 pp242 (Nat.le_of_ble_eq_true rfl) rfl (by decide) (by decide) ?_
  refine ev_iload_n rfl ?_
  refine ev_iload_n rfl ?_
  refine ev_icmplt f242_14 (fun c55539 => ?_) (fun c55539 => ?_)
  · refine ev_iconst ?_
    refine ev_ret rfl (by decide) (by decide) ?_
    show jEv _ _ _ _ _ _ _ (_, [(2, 42), (0, a1)], [(0, 0)], _, _, _)
    refine ev_ret rfl (by decide) (by decide) ?_
    show jEv _ _ _ _ _ _ _ (_, [(2, 42), (0, a1), (0, a2), (0, a3), (9, 0), (9, 0)], [(0, 0)], _, _, _)
    refine ev_ifeq f301_25 (fun c55540 => ?_) (fun c55540 => absurd c55540 (by omega))
    refine ev_ldc2_w ?_
    exact ev_ret rfl (by decide) (by decide) ⟨_, rfl, by omega, by omega, g, k0⟩
  · refine ev_iload_n rfl ?_
    refine ev_iload_n rfl ?_
    refine ev_icmpgt f242_14 (fun c55541 => ?_) (fun c55541 => ?_)
    · refine ev_iconst ?_
      refine ev_ret rfl (by decide) (by decide) ?_
      show jEv _ _ _ _ _ _ _ (_, [(2, 42), (0, a1)], [(0, 0)], _, _, _)
      refine ev_ret rfl (by decide) (by decide) ?_
      show jEv _ _ _ _ _ _ _ (_, [(2, 42), (0, a1), (0, a2), (0, a3), (9, 0), (9, 0)], [(0, 0)], _, _, _)
      refine ev_ifeq f301_25 (fun c55542 => ?_) (fun c55542 => absurd c55542 (by omega))
      refine ev_ldc2_w ?_
      exact ev_ret rfl (by decide) (by decide) ⟨_, rfl, by omega, by omega, g, k0⟩
    · refine ev_iconst ?_
      refine ev_goto f242_15 ?_
      refine ev_ret rfl (by decide) (by decide) ?_
      show jEv _ _ _ _ _ _ _ (_, [(2, 42), (0, a1)], [(0, 1)], _, _, _)
      refine ev_ret rfl (by decide) (by decide) ?_
      show jEv _ _ _ _ _ _ _ (_, [(2, 42), (0, a1), (0, a2), (0, a3), (9, 0), (9, 0)], [(0, 1)], _, _, _)
      refine ev_ifeq f301_25 (fun c55543 => absurd c55543 (by omega)) (fun c55543 => ?_)
      refine ev_aload_n rfl ?_
      refine ev_iload_n rfl ?_
      refine ev_in (d := 203) (a := 0) (b := 0) (cd' := c284_0) (m := 2) (L0 := [(2, 42), (0, a2)]) (jcall_v (A := [(0, a2)]) (S' := []) (r := 42) rfl (g.lt ad42) (g.tg ad42) (Nat.le_of_ble_eq_true rfl)) (by decide) ml284 pp284 (Nat.le_of_ble_eq_true rfl) rfl (by decide) (by decide) ?_
      refine ev_iload_n rfl ?_
      refine ev_iconst ?_
      refine ev_aload_n rfl ?_
      obtain ⟨v55544, ev55544, lv55544, uv55544⟩ := g.rd ad42 (show 28 < 66 by decide) rf42_28
      refine g_getv (r := 42) (v := v55544) g ad42 (by decide) ft12_28 ev55544 ?_
      refine ev_iconst ?_
      refine ev_isub (r := (v55544 - 1)) (by unfold w32; omega) ?_
      refine ev_in (d := 202) (a := 0) (b := 0) (cd' := c242_0) (m := 3) (L0 := [(0, a2), (0, 0), (0, (v55544 - 1))]) (jcall_s (A := [(0, (v55544 - 1)), (0, 0), (0, a2)]) (S' := []) (by decide) rfl (Nat.le_of_ble_eq_true rfl)) (by decide) ml242 pp242 (Nat.le_of_ble_eq_true rfl) rfl (by decide) (by decide) ?_
      refine ev_iload_n rfl ?_
      refine ev_iload_n rfl ?_
      refine ev_icmplt f242_14 (fun c55545 => ?_) (fun c55545 => ?_)
      · refine ev_iconst ?_
        refine ev_ret rfl (by decide) (by decide) ?_
        show jEv _ _ _ _ _ _ _ (_, [(2, 42), (0, a2)], [(0, 0)], _, _, _)
        refine ev_ret rfl (by decide) (by decide) ?_
        show jEv _ _ _ _ _ _ _ (_, [(2, 42), (0, a1), (0, a2), (0, a3), (9, 0), (9, 0)], [(0, 0)], _, _, _)
        refine ev_ifeq f301_25 (fun c55546 => ?_) (fun c55546 => absurd c55546 (by omega))
        refine ev_ldc2_w ?_
        exact ev_ret rfl (by decide) (by decide) ⟨_, rfl, by omega, by omega, g, k0⟩
      · refine ev_iload_n rfl ?_
        refine ev_iload_n rfl ?_
        refine ev_icmpgt f242_14 (fun c55547 => ?_) (fun c55547 => ?_)
        · refine ev_iconst ?_
          refine ev_ret rfl (by decide) (by decide) ?_
          show jEv _ _ _ _ _ _ _ (_, [(2, 42), (0, a2)], [(0, 0)], _, _, _)
          refine ev_ret rfl (by decide) (by decide) ?_
          show jEv _ _ _ _ _ _ _ (_, [(2, 42), (0, a1), (0, a2), (0, a3), (9, 0), (9, 0)], [(0, 0)], _, _, _)
          refine ev_ifeq f301_25 (fun c55548 => ?_) (fun c55548 => absurd c55548 (by omega))
          refine ev_ldc2_w ?_
          exact ev_ret rfl (by decide) (by decide) ⟨_, rfl, by omega, by omega, g, k0⟩
        · refine ev_iconst ?_
          refine ev_goto f242_15 ?_
          refine ev_ret rfl (by decide) (by decide) ?_
          show jEv _ _ _ _ _ _ _ (_, [(2, 42), (0, a2)], [(0, 1)], _, _, _)
          refine ev_ret rfl (by decide) (by decide) ?_
          show jEv _ _ _ _ _ _ _ (_, [(2, 42), (0, a1), (0, a2), (0, a3), (9, 0), (9, 0)], [(0, 1)], _, _, _)
          refine ev_ifeq f301_25 (fun c55549 => absurd c55549 (by omega)) (fun c55549 => ?_)
          refine ev_iload_n rfl ?_
          refine ev_iconst ?_
          refine ev_iconst ?_
          refine ev_in (d := 203) (a := 0) (b := 0) (cd' := c242_0) (m := 3) (L0 := [(0, a3), (0, 0), (0, 2)]) (jcall_s (A := [(0, 2), (0, 0), (0, a3)]) (S' := []) (by decide) rfl (Nat.le_of_ble_eq_true rfl)) (by decide) ml242 pp242 (Nat.le_of_ble_eq_true rfl) rfl (by decide) (by decide) ?_
          refine ev_iload_n rfl ?_
          refine ev_iload_n rfl ?_
          refine ev_icmplt f242_14 (fun c55550 => ?_) (fun c55550 => ?_)
          · refine ev_iconst ?_
            refine ev_ret rfl (by decide) (by decide) ?_
            show jEv _ _ _ _ _ _ _ (_, [(2, 42), (0, a1), (0, a2), (0, a3), (9, 0), (9, 0)], [(0, 0)], _, _, _)
            refine ev_ifne f301_29 (fun c55551 => absurd c55551 (by omega)) (fun c55551 => ?_)
            refine ev_ldc2_w ?_
            exact ev_ret rfl (by decide) (by decide) ⟨_, rfl, by omega, by omega, g, k0⟩
          · refine ev_iload_n rfl ?_
            refine ev_iload_n rfl ?_
            refine ev_icmpgt f242_14 (fun c55552 => ?_) (fun c55552 => ?_)
            · refine ev_iconst ?_
              refine ev_ret rfl (by decide) (by decide) ?_
              show jEv _ _ _ _ _ _ _ (_, [(2, 42), (0, a1), (0, a2), (0, a3), (9, 0), (9, 0)], [(0, 0)], _, _, _)
              refine ev_ifne f301_29 (fun c55553 => absurd c55553 (by omega)) (fun c55553 => ?_)
              refine ev_ldc2_w ?_
              exact ev_ret rfl (by decide) (by decide) ⟨_, rfl, by omega, by omega, g, k0⟩
            · refine ev_iconst ?_
              refine ev_goto f242_15 ?_
              refine ev_ret rfl (by decide) (by decide) ?_
              show jEv _ _ _ _ _ _ _ (_, [(2, 42), (0, a1), (0, a2), (0, a3), (9, 0), (9, 0)], [(0, 1)], _, _, _)
              refine ev_ifne f301_29 (fun c55554 => ?_) (fun c55554 => absurd c55554 (by omega))
              refine ev_aload_n rfl ?_
              refine ev_call (jcall_v (A := []) (S' := []) (r := 42) rfl (g.lt ad42) (g.tg ad42) (Nat.le_of_ble_eq_true rfl)) (jOk_le (by decide) (s256 g )) (by decide) (by decide) (fun w55555 h55555 q55555 => ?_)
              obtain ⟨v55556, rfl, lv55556, uv55556, g55555, kk55555⟩ := q55555
              have k55555 := k0.tr kk55555 (by decide)
              show jEv _ _ _ _ _ _ _ (_, [(2, 42), (0, a1), (0, a2), (0, a3), (9, 0), (9, 0)], [(0, v55556)], _, _, _)
              refine ev_ifne f301_40 (fun c55557 => ?_) (fun c55557 => ?_)
              · refine ev_aload_n rfl ?_
                refine ev_iload_n rfl ?_
                refine ev_aload_n rfl ?_
                refine g_getp (r := 42) (c := 60) g55555 ad42 (by decide) (by decide) rf42_29 ft12_29 ?_
                refine ev_iload_n rfl ?_
                refine g_iald g55555 ad60 rt60 (by omega) (by omega) (fun v55558 ev55558 lv55558 uv55558 => ?_)
                refine ev_aload_n rfl ?_
                refine g_getp (r := 42) (c := 61) g55555 ad42 (by decide) (by decide) rf42_30 ft12_30 ?_
                refine ev_iload_n rfl ?_
                refine g_iald g55555 ad61 rt61 (by omega) (by omega) (fun v55559 ev55559 lv55559 uv55559 => ?_)
                refine ev_iconst ?_
                obtain ⟨v55560, ev55560, lv55560, uv55560⟩ := g55555.rd ad48 (show (a1).toNat < 7 by omega) (rt48 _)
                have zv55560 := g55555.n48 (q := a1) (by omega) (by rw [(((kk55555.v (by decide)).trans ev55538))]; omega) ev55560
                refine ev_call (jcall_v (A := [(0, 0), (0, v55559), (0, v55558), (0, a1)]) (S' := []) (r := 42) rfl (g55555.lt ad42) (g55555.tg ad42) (Nat.le_of_ble_eq_true rfl)) (jOk_le (by decide) (s298 g55555 (by omega) (by omega) (by omega) (by omega) (by omega) (by omega) (by omega) (by omega) (((kk55555.v (by decide)).trans ev55538)) (by omega) (by omega) ev55560 (by omega) (by omega) (by omega))) (by decide) (by decide) (fun w55561 h55561 q55561 => ?_)
                obtain ⟨q55561, qn55561, bk55561⟩ := q55561
                obtain ⟨v55562, rfl, lv55562, uv55562, g55561, kk55561⟩ := q55561
                have k55561 := k55555.tr kk55561 (by decide)
                show jEv _ _ _ _ _ _ _ (_, [(2, 42), (0, a1), (0, a2), (0, a3), (9, 0), (9, 0)], [(1, v55562)], _, _, _)
                refine ev_lstore (L' := [(2, 42), (0, a1), (0, a2), (0, a3), (1, v55562), (9, 0)]) (Nat.le_of_ble_eq_true rfl) rfl ?_
                refine ev_iload_n rfl ?_
                refine ev_iconst ?_
                refine ev_icmpge f301_82 (fun c55563 => ?_) (fun c55563 => ?_)
                · refine ev_aload_n rfl ?_
                  refine ev_iload_n rfl ?_
                  refine ev_call (jcall_v (A := [(0, a1)]) (S' := []) (r := 42) rfl (g55561.lt ad42) (g55561.tg ad42) (Nat.le_of_ble_eq_true rfl)) (jOk_le (by decide) (s300 g55561 (by omega) (by omega) (((kk55561.v (by decide)).trans ((kk55555.v (by decide)).trans ev55538))) (by omega) (by omega) (((kk55561.v rfl).trans ev55560)) (by omega) (by omega) (by omega) (bk55561 rfl))) (by decide) (by decide) (fun w55564 h55564 q55564 => ?_)
                  obtain ⟨rfl, g55564, kk55564⟩ := q55564
                  have k55564 := k55561.tr kk55564 (by decide)
                  show jEv _ _ _ _ _ _ _ (_, [(2, 42), (0, a1), (0, a2), (0, a3), (1, v55562), (9, 0)], [], _, _, _)
                  refine ev_lconst ?_
                  exact ev_ret rfl (by decide) (by decide) ⟨_, rfl, by omega, by omega, g55564, k55564⟩
                · refine ev_lload rfl ?_
                  refine ev_aload_n rfl ?_
                  refine ev_aload_n rfl ?_
                  refine g_getp (r := 42) (c := 60) g55561 ad42 (by decide) (by decide) rf42_29 ft12_29 ?_
                  refine ev_iload_n rfl ?_
                  refine g_ialdv (v := v55558) g55561 ad60 (by omega) (by omega) (((kk55561.v rfl).trans ev55558)) ?_
                  refine ev_in (d := 203) (a := 0) (b := 0) (cd' := c299_0) (m := 2) (L0 := [(2, 42), (0, v55558)]) (jcall_v (A := [(0, v55558)]) (S' := [(1, v55562)]) (r := 42) rfl (g55561.lt ad42) (g55561.tg ad42) (Nat.le_of_ble_eq_true rfl)) (by decide) ml299 pp299 (Nat.le_of_ble_eq_true rfl) rfl (by decide) (by decide) ?_
                  refine ev_iload_n rfl ?_
                  refine ev_iconst ?_
                  refine ev_icmpne f299_11 (fun c55565 => ?_) (fun c55565 => ?_)
                  · refine ev_ldc2_w ?_
                    refine ev_aload_n rfl ?_
                    obtain ⟨v55566, ev55566, lv55566, uv55566⟩ := g55561.rd ad42 (show 8 < 66 by decide) rf42_8
                    refine g_getv (r := 42) (v := v55566) g55561 ad42 (by decide) ft12_8 ev55566 ?_
                    refine g_lmulG (fun v55567 ev55567 lv55567 uv55567 => ?_)
                    refine ev_ret rfl (by decide) (by decide) ?_
                    show jEv _ _ _ _ _ _ _ (_, [(2, 42), (0, a1), (0, a2), (0, a3), (1, v55562), (9, 0)], [(1, v55567), (1, v55562)], _, _, _)
                    refine ev_iload_n rfl ?_
                    refine ev_call (jcall_s (A := [(0, a3), (1, v55567), (1, v55562)]) (S' := []) (by decide) rfl (Nat.le_of_ble_eq_true rfl)) (jOk_le (by decide) (s244 g55561 (by omega) (by omega) (by omega) (by omega) (by omega) (by omega))) (by decide) (by decide) (fun w55568 h55568 q55568 => ?_)
                    obtain ⟨v55569, rfl, lv55569, uv55569, g55568, kk55568⟩ := q55568
                    have k55568 := k55561.tr kk55568 (by decide)
                    show jEv _ _ _ _ _ _ _ (_, [(2, 42), (0, a1), (0, a2), (0, a3), (1, v55562), (9, 0)], [(1, v55569)], _, _, _)
                    exact ev_ret rfl (by decide) (by decide) ⟨_, rfl, by omega, by omega, g55568, k55568⟩
                  · refine ev_ldc2_w ?_
                    refine ev_goto f299_19 ?_
                    refine ev_ret rfl (by decide) (by decide) ?_
                    show jEv _ _ _ _ _ _ _ (_, [(2, 42), (0, a1), (0, a2), (0, a3), (1, v55562), (9, 0)], [(1, 100), (1, v55562)], _, _, _)
                    refine ev_iload_n rfl ?_
                    refine ev_call (jcall_s (A := [(0, a3), (1, 100), (1, v55562)]) (S' := []) (by decide) rfl (Nat.le_of_ble_eq_true rfl)) (jOk_le (by decide) (s244 g55561 (by omega) (by omega) (by omega) (by omega) (by omega) (by omega))) (by decide) (by decide) (fun w55570 h55570 q55570 => ?_)
                    obtain ⟨v55571, rfl, lv55571, uv55571, g55570, kk55570⟩ := q55570
                    have k55570 := k55561.tr kk55570 (by decide)
                    show jEv _ _ _ _ _ _ _ (_, [(2, 42), (0, a1), (0, a2), (0, a3), (1, v55562), (9, 0)], [(1, v55571)], _, _, _)
                    exact ev_ret rfl (by decide) (by decide) ⟨_, rfl, by omega, by omega, g55570, k55570⟩
              · refine ev_ldc2_w ?_
                exact ev_ret rfl (by decide) (by decide) ⟨_, rfl, by omega, by omega, g55555, k55555⟩
set_option maxHeartbeats 4000000 in
theorem s303 {G : GH} {h : JH} (g : Gd G h) {a1 : Int} (la1 : (-2147483648) ≤ a1) (ua1 : a1 ≤ 2147483647) {a2 : Int} (la2 : (-2147483648) ≤ a2) (ua2 : a2 ≤ 2147483647) {a3 : Int} (la3 : (-2147483648) ≤ a3) (ua3 : a3 ≤ 2147483647) : jOk 205 0 0 303 [(2, 42), (0, a1), (0, a2), (0, a3)] h (PI G [(46, 0), (47, 0), (42, 6), (42, 9), (42, 37), (42, 38), (42, 39), (42, 40), (64, 0), (65, 0)] h 1 (-9223372036854775808) 9223372036854775807) := by
  refine ⟨by decide, by rw [ml303]; exact Nat.le_of_ble_eq_true rfl, ?_⟩
  rw [ml303, pp303]
  show jEv _ none _ c303_0 0 0 _ (c303_0, [(2, 42), (0, a1), (0, a2), (0, a3)], [], h, 0, 0)
  have k0 := Kp.rf [(46, 0), (47, 0), (42, 6), (42, 9), (42, 37), (42, 38), (42, 39), (42, 40), (64, 0), (65, 0)] h
  refine ev_aload_n rfl ?_
  refine ev_iload_n rfl ?_
  refine ev_in (d := 203) (a := 0) (b := 0) (cd' := c261_0) (m := 2) (L0 := [(2, 42), (0, a1)]) (jcall_v (A := [(0, a1)]) (S' := []) (r := 42) rfl (g.lt ad42) (g.tg ad42) (Nat.le_of_ble_eq_true rfl)) (by decide) ml261 pp261 (Nat.le_of_ble_eq_true rfl) rfl (by decide) (by decide) ?_
  refine ev_iload_n rfl ?_
  refine ev_iconst ?_
  refine ev_aload_n rfl ?_
  obtain ⟨v55636, ev55636, lv55636, uv55636⟩ := g.rd ad42 (show 9 < 66 by decide) rf42_9
  refine g_getv (r := 42) (v := v55636) g ad42 (by decide) ft12_9 ev55636 ?_
  refine ev_iconst ?_
  refine ev_isub (r := (v55636 - 1)) (by unfold w32; omega) ?_
  refine ev_in (d := 202) (a := 0) (b := 0) (cd' := c242_0) (m := 3) (L0 := [(0, a1), (0, 0), (0, (v55636 - 1))]) (jcall_s (A := [(0, (v55636 - 1)), (0, 0), (0, a1)]) (S' := []) (by decide) rfl (Nat.le_of_ble_eq_true rfl)) (by decide) ml242 pp242 (Nat.le_of_ble_eq_true rfl) rfl (by decide) (by decide) ?_
  refine ev_iload_n rfl ?_
  refine ev_iload_n rfl ?_
  refine ev_icmplt f242_14 (fun c55637 => ?_) (fun c55637 => ?_)
  · refine ev_iconst ?_
    refine ev_ret rfl (by decide) (by decide) ?_
    show jEv _ _ _ _ _ _ _ (_, [(2, 42), (0, a1)], [(0, 0)], _, _, _)
    refine ev_ret rfl (by decide) (by decide) ?_
    show jEv _ _ _ _ _ _ _ (_, [(2, 42), (0, a1), (0, a2), (0, a3)], [(0, 0)], _, _, _)
    refine ev_ifeq f303_25 (fun c55638 => ?_) (fun c55638 => absurd c55638 (by omega))
    refine ev_ldc2_w ?_
    exact ev_ret rfl (by decide) (by decide) ⟨_, rfl, by omega, by omega, g, k0⟩
  · refine ev_iload_n rfl ?_
    refine ev_iload_n rfl ?_
    refine ev_icmpgt f242_14 (fun c55639 => ?_) (fun c55639 => ?_)
    · refine ev_iconst ?_
      refine ev_ret rfl (by decide) (by decide) ?_
      show jEv _ _ _ _ _ _ _ (_, [(2, 42), (0, a1)], [(0, 0)], _, _, _)
      refine ev_ret rfl (by decide) (by decide) ?_
      show jEv _ _ _ _ _ _ _ (_, [(2, 42), (0, a1), (0, a2), (0, a3)], [(0, 0)], _, _, _)
      refine ev_ifeq f303_25 (fun c55640 => ?_) (fun c55640 => absurd c55640 (by omega))
      refine ev_ldc2_w ?_
      exact ev_ret rfl (by decide) (by decide) ⟨_, rfl, by omega, by omega, g, k0⟩
    · refine ev_iconst ?_
      refine ev_goto f242_15 ?_
      refine ev_ret rfl (by decide) (by decide) ?_
      show jEv _ _ _ _ _ _ _ (_, [(2, 42), (0, a1)], [(0, 1)], _, _, _)
      refine ev_ret rfl (by decide) (by decide) ?_
      show jEv _ _ _ _ _ _ _ (_, [(2, 42), (0, a1), (0, a2), (0, a3)], [(0, 1)], _, _, _)
      refine ev_ifeq f303_25 (fun c55641 => absurd c55641 (by omega)) (fun c55641 => ?_)
      refine ev_aload_n rfl ?_
      refine ev_iload_n rfl ?_
      refine ev_in (d := 203) (a := 0) (b := 0) (cd' := c284_0) (m := 2) (L0 := [(2, 42), (0, a2)]) (jcall_v (A := [(0, a2)]) (S' := []) (r := 42) rfl (g.lt ad42) (g.tg ad42) (Nat.le_of_ble_eq_true rfl)) (by decide) ml284 pp284 (Nat.le_of_ble_eq_true rfl) rfl (by decide) (by decide) ?_
      refine ev_iload_n rfl ?_
      refine ev_iconst ?_
      refine ev_aload_n rfl ?_
      obtain ⟨v55642, ev55642, lv55642, uv55642⟩ := g.rd ad42 (show 28 < 66 by decide) rf42_28
      refine g_getv (r := 42) (v := v55642) g ad42 (by decide) ft12_28 ev55642 ?_
      refine ev_iconst ?_
      refine ev_isub (r := (v55642 - 1)) (by unfold w32; omega) ?_
      refine ev_in (d := 202) (a := 0) (b := 0) (cd' := c242_0) (m := 3) (L0 := [(0, a2), (0, 0), (0, (v55642 - 1))]) (jcall_s (A := [(0, (v55642 - 1)), (0, 0), (0, a2)]) (S' := []) (by decide) rfl (Nat.le_of_ble_eq_true rfl)) (by decide) ml242 pp242 (Nat.le_of_ble_eq_true rfl) rfl (by decide) (by decide) ?_
      refine ev_iload_n rfl ?_
      refine ev_iload_n rfl ?_
      refine ev_icmplt f242_14 (fun c55643 => ?_) (fun c55643 => ?_)
      · refine ev_iconst ?_
        refine ev_ret rfl (by decide) (by decide) ?_
        show jEv _ _ _ _ _ _ _ (_, [(2, 42), (0, a2)], [(0, 0)], _, _, _)
        refine ev_ret rfl (by decide) (by decide) ?_
        show jEv _ _ _ _ _ _ _ (_, [(2, 42), (0, a1), (0, a2), (0, a3)], [(0, 0)], _, _, _)
        refine ev_ifeq f303_25 (fun c55644 => ?_) (fun c55644 => absurd c55644 (by omega))
        refine ev_ldc2_w ?_
        exact ev_ret rfl (by decide) (by decide) ⟨_, rfl, by omega, by omega, g, k0⟩
      · refine ev_iload_n rfl ?_
        refine ev_iload_n rfl ?_
        refine ev_icmpgt f242_14 (fun c55645 => ?_) (fun c55645 => ?_)
        · refine ev_iconst ?_
          refine ev_ret rfl (by decide) (by decide) ?_
          show jEv _ _ _ _ _ _ _ (_, [(2, 42), (0, a2)], [(0, 0)], _, _, _)
          refine ev_ret rfl (by decide) (by decide) ?_
          show jEv _ _ _ _ _ _ _ (_, [(2, 42), (0, a1), (0, a2), (0, a3)], [(0, 0)], _, _, _)
          refine ev_ifeq f303_25 (fun c55646 => ?_) (fun c55646 => absurd c55646 (by omega))
          refine ev_ldc2_w ?_
          exact ev_ret rfl (by decide) (by decide) ⟨_, rfl, by omega, by omega, g, k0⟩
        · refine ev_iconst ?_
          refine ev_goto f242_15 ?_
          refine ev_ret rfl (by decide) (by decide) ?_
          show jEv _ _ _ _ _ _ _ (_, [(2, 42), (0, a2)], [(0, 1)], _, _, _)
          refine ev_ret rfl (by decide) (by decide) ?_
          show jEv _ _ _ _ _ _ _ (_, [(2, 42), (0, a1), (0, a2), (0, a3)], [(0, 1)], _, _, _)
          refine ev_ifeq f303_25 (fun c55647 => absurd c55647 (by omega)) (fun c55647 => ?_)
          refine ev_iload_n rfl ?_
          refine ev_iconst ?_
          refine ev_iconst ?_
          refine ev_in (d := 203) (a := 0) (b := 0) (cd' := c242_0) (m := 3) (L0 := [(0, a3), (0, 0), (0, 1)]) (jcall_s (A := [(0, 1), (0, 0), (0, a3)]) (S' := []) (by decide) rfl (Nat.le_of_ble_eq_true rfl)) (by decide) ml242 pp242 (Nat.le_of_ble_eq_true rfl) rfl (by decide) (by decide) ?_
          refine ev_iload_n rfl ?_
          refine ev_iload_n rfl ?_
          refine ev_icmplt f242_14 (fun c55648 => ?_) (fun c55648 => ?_)
          · refine ev_iconst ?_
            refine ev_ret rfl (by decide) (by decide) ?_
            show jEv _ _ _ _ _ _ _ (_, [(2, 42), (0, a1), (0, a2), (0, a3)], [(0, 0)], _, _, _)
            refine ev_ifne f303_29 (fun c55649 => absurd c55649 (by omega)) (fun c55649 => ?_)
            refine ev_ldc2_w ?_
            exact ev_ret rfl (by decide) (by decide) ⟨_, rfl, by omega, by omega, g, k0⟩
          · refine ev_iload_n rfl ?_
            refine ev_iload_n rfl ?_
            refine ev_icmpgt f242_14 (fun c55650 => ?_) (fun c55650 => ?_)
            · refine ev_iconst ?_
              refine ev_ret rfl (by decide) (by decide) ?_
              show jEv _ _ _ _ _ _ _ (_, [(2, 42), (0, a1), (0, a2), (0, a3)], [(0, 0)], _, _, _)
              refine ev_ifne f303_29 (fun c55651 => absurd c55651 (by omega)) (fun c55651 => ?_)
              refine ev_ldc2_w ?_
              exact ev_ret rfl (by decide) (by decide) ⟨_, rfl, by omega, by omega, g, k0⟩
            · refine ev_iconst ?_
              refine ev_goto f242_15 ?_
              refine ev_ret rfl (by decide) (by decide) ?_
              show jEv _ _ _ _ _ _ _ (_, [(2, 42), (0, a1), (0, a2), (0, a3)], [(0, 1)], _, _, _)
              refine ev_ifne f303_29 (fun c55652 => ?_) (fun c55652 => absurd c55652 (by omega))
              refine ev_aload_n rfl ?_
              refine ev_call (jcall_v (A := []) (S' := []) (r := 42) rfl (g.lt ad42) (g.tg ad42) (Nat.le_of_ble_eq_true rfl)) (jOk_le (by decide) (s256 g )) (by decide) (by decide) (fun w55653 h55653 q55653 => ?_)
              obtain ⟨v55654, rfl, lv55654, uv55654, g55653, kk55653⟩ := q55653
              have k55653 := k0.tr kk55653 (by decide)
              show jEv _ _ _ _ _ _ _ (_, [(2, 42), (0, a1), (0, a2), (0, a3)], [(0, v55654)], _, _, _)
              refine ev_ifeq f303_71 (fun c55655 => ?_) (fun c55655 => ?_)
              · refine ev_ldc2_w ?_
                exact ev_ret rfl (by decide) (by decide) ⟨_, rfl, by omega, by omega, g55653, k55653⟩
              · refine ev_aload_n rfl ?_
                refine ev_iload_n rfl ?_
                refine ev_aload_n rfl ?_
                refine g_getp (r := 42) (c := 60) g55653 ad42 (by decide) (by decide) rf42_29 ft12_29 ?_
                refine ev_iload_n rfl ?_
                refine g_iald g55653 ad60 rt60 (by omega) (by omega) (fun v55656 ev55656 lv55656 uv55656 => ?_)
                refine ev_aload_n rfl ?_
                refine g_getp (r := 42) (c := 61) g55653 ad42 (by decide) (by decide) rf42_30 ft12_30 ?_
                refine ev_iload_n rfl ?_
                refine g_iald g55653 ad61 rt61 (by omega) (by omega) (fun v55657 ev55657 lv55657 uv55657 => ?_)
                refine ev_iconst ?_
                obtain ⟨v55658, ev55658, lv55658, uv55658⟩ := g55653.rd ad48 (show (a1).toNat < 7 by omega) (rt48 _)
                have zv55658 := g55653.n48 (q := a1) (by omega) (by rw [(((kk55653.v (by decide)).trans ev55636))]; omega) ev55658
                refine ev_call (jcall_v (A := [(0, 1), (0, v55657), (0, v55656), (0, a1)]) (S' := []) (r := 42) rfl (g55653.lt ad42) (g55653.tg ad42) (Nat.le_of_ble_eq_true rfl)) (jOk_le (by decide) (s298 g55653 (by omega) (by omega) (by omega) (by omega) (by omega) (by omega) (by omega) (by omega) (((kk55653.v (by decide)).trans ev55636)) (by omega) (by omega) ev55658 (by omega) (by omega) (by omega))) (by decide) (by decide) (fun w55659 h55659 q55659 => ?_)
                obtain ⟨q55659, qn55659, bk55659⟩ := q55659
                obtain ⟨v55660, rfl, lv55660, uv55660, g55659, kk55659⟩ := q55659
                have k55659 := k55653.tr kk55659 (by decide)
                show jEv _ _ _ _ _ _ _ (_, [(2, 42), (0, a1), (0, a2), (0, a3)], [(1, v55660)], _, _, _)
                refine ev_aload_n rfl ?_
                refine ev_aload_n rfl ?_
                refine g_getp (r := 42) (c := 60) g55659 ad42 (by decide) (by decide) rf42_29 ft12_29 ?_
                refine ev_iload_n rfl ?_
                refine g_ialdv (v := v55656) g55659 ad60 (by omega) (by omega) (((kk55659.v rfl).trans ev55656)) ?_
                refine ev_in (d := 203) (a := 0) (b := 0) (cd' := c299_0) (m := 2) (L0 := [(2, 42), (0, v55656)]) (jcall_v (A := [(0, v55656)]) (S' := [(1, v55660)]) (r := 42) rfl (g55659.lt ad42) (g55659.tg ad42) (Nat.le_of_ble_eq_true rfl)) (by decide) ml299 pp299 (Nat.le_of_ble_eq_true rfl) rfl (by decide) (by decide) ?_
                refine ev_iload_n rfl ?_
                refine ev_iconst ?_
                refine ev_icmpne f299_11 (fun c55661 => ?_) (fun c55661 => ?_)
                · refine ev_ldc2_w ?_
                  refine ev_aload_n rfl ?_
                  obtain ⟨v55662, ev55662, lv55662, uv55662⟩ := g55659.rd ad42 (show 8 < 66 by decide) rf42_8
                  refine g_getv (r := 42) (v := v55662) g55659 ad42 (by decide) ft12_8 ev55662 ?_
                  refine g_lmulG (fun v55663 ev55663 lv55663 uv55663 => ?_)
                  refine ev_ret rfl (by decide) (by decide) ?_
                  show jEv _ _ _ _ _ _ _ (_, [(2, 42), (0, a1), (0, a2), (0, a3)], [(1, v55663), (1, v55660)], _, _, _)
                  refine ev_iload_n rfl ?_
                  refine ev_call (jcall_s (A := [(0, a3), (1, v55663), (1, v55660)]) (S' := []) (by decide) rfl (Nat.le_of_ble_eq_true rfl)) (jOk_le (by decide) (s244 g55659 (by omega) (by omega) (by omega) (by omega) (by omega) (by omega))) (by decide) (by decide) (fun w55664 h55664 q55664 => ?_)
                  obtain ⟨v55665, rfl, lv55665, uv55665, g55664, kk55664⟩ := q55664
                  have k55664 := k55659.tr kk55664 (by decide)
                  show jEv _ _ _ _ _ _ _ (_, [(2, 42), (0, a1), (0, a2), (0, a3)], [(1, v55665)], _, _, _)
                  refine ev_goto f303_74 ?_
                  exact ev_ret rfl (by decide) (by decide) ⟨_, rfl, by omega, by omega, g55664, k55664⟩
                · refine ev_ldc2_w ?_
                  refine ev_goto f299_19 ?_
                  refine ev_ret rfl (by decide) (by decide) ?_
                  show jEv _ _ _ _ _ _ _ (_, [(2, 42), (0, a1), (0, a2), (0, a3)], [(1, 100), (1, v55660)], _, _, _)
                  refine ev_iload_n rfl ?_
                  refine ev_call (jcall_s (A := [(0, a3), (1, 100), (1, v55660)]) (S' := []) (by decide) rfl (Nat.le_of_ble_eq_true rfl)) (jOk_le (by decide) (s244 g55659 (by omega) (by omega) (by omega) (by omega) (by omega) (by omega))) (by decide) (by decide) (fun w55666 h55666 q55666 => ?_)
                  obtain ⟨v55667, rfl, lv55667, uv55667, g55666, kk55666⟩ := q55666
                  have k55666 := k55659.tr kk55666 (by decide)
                  show jEv _ _ _ _ _ _ _ (_, [(2, 42), (0, a1), (0, a2), (0, a3)], [(1, v55667)], _, _, _)
                  refine ev_goto f303_74 ?_
                  exact ev_ret rfl (by decide) (by decide) ⟨_, rfl, by omega, by omega, g55666, k55666⟩
set_option maxHeartbeats 4000000 in
theorem s304_l {G : GH} {h : JH} {a1 : Int} (la1 : (-2147483648) ≤ a1) (ua1 : a1 ≤ 2147483647) {a2 : Int} (la2 : (-2147483648) ≤ a2) (ua2 : a2 ≤ 2147483647) : ∀ N : Nat, (∀ (h1 : JH) (x3 x5 y0 y1 : Int) (j6 j7 j8 j9 : AV), Gd G h1 → Kp [(46, 0), (47, 0), (42, 6), (42, 9), (42, 37), (42, 38), (42, 39), (42, 40), (64, 0), (65, 0), (53, 0)] h h1 → 0 ≤ a1 → a1 ≤ 5 → 0 ≤ a2 → a2 ≤ 19 → (-9223372036854775808) ≤ x3 → x3 ≤ 9223372036854775807 → 0 ≤ x5 → x5 ≤ 100 → (a1 + (-y0)) ≤ (-1) → h1.2.2 42 9 = y0 → 0 ≤ y0 → y0 ≤ 6 → h1.2.2 48 (a1).toNat = y1 → 1 ≤ y1 → y1 ≤ 100 → ((-10) * x5 + 1005) < N → jEv (jOk 204) none (fun _ => 0) c304_0 0 0 (PI G [(46, 0), (47, 0), (42, 6), (42, 9), (42, 37), (42, 38), (42, 39), (42, 40), (64, 0), (65, 0), (53, 0)] h 0 (-4) 99) (c304_50, [(2, 42), (0, a1), (0, a2), (1, x3), (9, 0), (0, x5), j6, j7, j8, j9], [], h1, 0, 0)) ∧ (∀ (h1 : JH) (x3 x5 x7 x8 x9 y0 y1 y2 y3 : Int), Gd G h1 → Kp [(46, 0), (47, 0), (42, 6), (42, 9), (42, 37), (42, 38), (42, 39), (42, 40), (64, 0), (65, 0), (53, 0)] h h1 → 0 ≤ a1 → a1 ≤ 5 → 0 ≤ a2 → a2 ≤ 19 → (-9223372036854775808) ≤ x3 → x3 ≤ 9223372036854775807 → 0 ≤ x5 → x5 ≤ 99 → 0 ≤ x7 → x7 ≤ 3 → 0 ≤ x8 → x8 ≤ 1 → 0 ≤ x9 → x9 ≤ 4 → (a1 + (-y0)) ≤ (-1) → (x5 + (-y1)) ≤ (-1) → (x7 + (-y3)) ≤ (-1) → h1.2.2 42 9 = y0 → 0 ≤ y0 → y0 ≤ 6 → h1.2.2 48 (a1).toNat = y1 → 1 ≤ y1 → y1 ≤ 100 → h1.2.2 49 ((100 * a1 + x5)).toNat = y2 → 1 ≤ y2 → y2 ≤ 1 → h1.2.2 50 ((100 * a1 + x5)).toNat = y3 → 1 ≤ y3 → y3 ≤ 4 → ((-10) * x5 + (-x9) + 1004) < N → jEv (jOk 204) none (fun _ => 0) c304_0 0 0 (PI G [(46, 0), (47, 0), (42, 6), (42, 9), (42, 37), (42, 38), (42, 39), (42, 40), (64, 0), (65, 0), (53, 0)] h 0 (-4) 99) (c304_99, [(2, 42), (0, a1), (0, a2), (1, x3), (9, 0), (0, x5), (0, (100 * a1 + x5)), (0, x7), (0, x8), (0, x9)], [], h1, 0, 0)) := by
  intro N
  induction N with
  | zero => exact ⟨fun h1 x3 x5 y0 y1 j6 j7 j8 j9 g1 k1 b0 b1 b2 b3 b4 b5 b6 b7 b8 b9 b10 b11 b12 b13 b14 hm => absurd hm (by omega), fun h1 x3 x5 x7 x8 x9 y0 y1 y2 y3 g1 k1 b0 b1 b2 b3 b4 b5 b6 b7 b8 b9 b10 b11 b12 b13 b14 b15 b16 b17 b18 b19 b20 b21 b22 b23 b24 b25 b26 b27 b28 hm => absurd hm (by omega)⟩
  | succ N ih =>
    refine ⟨?_, ?_⟩
    · intro h1 x3 x5 y0 y1 j6 j7 j8 j9 g1 k1 b0 b1 b2 b3 b4 b5 b6 b7 b8 ey0 ly0 uy0 ey1 ly1 uy1 hm
      refine ev_iload rfl ?_
      refine ev_aload_n rfl ?_
      refine g_getp (r := 42) (c := 48) g1 ad42 (by decide) (by decide) rf42_10 ft12_10 ?_
      refine ev_iload_n rfl ?_
      refine g_ialdv (v := y1) g1 ad48 (by omega) (by omega) (ey1) ?_
      refine ev_icmpge f304_186 (fun c55971 => ?_) (fun c55971 => ?_)
      · refine ev_bipush ?_
        exact ev_ret rfl (by decide) (by decide) ⟨_, rfl, by omega, by omega, g1, k1⟩
      · refine ev_bipush ?_
        refine ev_iload_n rfl ?_
        refine ev_imul (r := (100 * a1)) (by unfold w32; omega) ?_
        refine ev_iload rfl ?_
        refine ev_iadd (r := (100 * a1 + x5)) (by unfold w32; omega) ?_
        refine ev_istore (L' := [(2, 42), (0, a1), (0, a2), (1, x3), (9, 0), (0, x5), (0, (100 * a1 + x5)), j7, j8, j9]) (Nat.le_of_ble_eq_true rfl) rfl ?_
        refine ev_aload_n rfl ?_
        refine g_getp (r := 42) (c := 49) g1 ad42 (by decide) (by decide) rf42_11 ft12_11 ?_
        refine ev_iload rfl ?_
        refine g_bald g1 ad49 rt49 (by omega) (by omega) (fun v55972 ev55972 lv55972 uv55972 => ?_)
        refine ev_iconst ?_
        refine ev_icmpeq f304_84 (fun c55973 => ?_) (fun c55973 => ?_)
        · refine ev_aload_n rfl ?_
          refine g_getp (r := 42) (c := 53) g1 ad42 (by decide) (by decide) rf42_15 ft12_15 ?_
          refine ev_iload rfl ?_
          refine g_bald g1 ad53 rt53 (by omega) (by omega) (fun v55974 ev55974 lv55974 uv55974 => ?_)
          obtain ⟨v55975, ev55975, lv55975, uv55975⟩ := g1.rd ad50 (show ((100 * a1 + x5)).toNat < 700 by omega) (rt50 _)
          have xv55975 := g1.nd1 (q := a1) (n := x5) (by omega) (by rw [(ey0)]; omega) (by omega) (by rw [(ey1)]; omega) (i := (100 * a1 + x5)) (by omega) (by rw [(ev55972)]; omega) ev55975
          have xv55974 := g1.nd1p (q := a1) (n := x5) (by omega) (by rw [(ey0)]; omega) (by omega) (by rw [(ey1)]; omega) (i := (100 * a1 + x5)) (by omega) (by rw [(ev55972)]; omega) ev55975 ev55974
          refine ev_istore (L' := [(2, 42), (0, a1), (0, a2), (1, x3), (9, 0), (0, x5), (0, (100 * a1 + x5)), (0, v55974), j8, j9]) (Nat.le_of_ble_eq_true rfl) rfl ?_
          refine ev_iconst ?_
          refine ev_istore (L' := [(2, 42), (0, a1), (0, a2), (1, x3), (9, 0), (0, x5), (0, (100 * a1 + x5)), (0, v55974), (0, 0), j9]) (Nat.le_of_ble_eq_true rfl) rfl ?_
          refine ev_iconst ?_
          refine ev_istore (L' := [(2, 42), (0, a1), (0, a2), (1, x3), (9, 0), (0, x5), (0, (100 * a1 + x5)), (0, v55974), (0, 0), (0, 0)]) (Nat.le_of_ble_eq_true rfl) rfl ?_
          exact ih.2 _ _ _ _ _ _ _ _ _ _ g1 k1 (by omega) (by omega) (by omega) (by omega) (by omega) (by omega) (by omega) (by omega) (by omega) (by omega) (by omega) (by omega) (by omega) (by omega) (by omega) (by omega) (by omega) (ey0) (by omega) (by omega) (ey1) (by omega) (by omega) (ev55972) (by omega) (by omega) (ev55975) (by omega) (by omega) (by omega)
        · refine ev_goto f304_180 ?_
          refine ev_iinc (w := (x5 + 1)) (L' := [(2, 42), (0, a1), (0, a2), (1, x3), (9, 0), (0, (x5 + 1)), (0, (100 * a1 + x5)), j7, j8, j9]) rfl (by unfold w32; omega) rfl ?_
          refine ev_goto f304_50 ?_
          exact ih.1 _ _ _ _ _ _ _ _ _ g1 k1 (by omega) (by omega) (by omega) (by omega) (by omega) (by omega) (by omega) (by omega) (by omega) (ey0) (by omega) (by omega) (ey1) (by omega) (by omega) (by omega)
    · intro h1 x3 x5 x7 x8 x9 y0 y1 y2 y3 g1 k1 b0 b1 b2 b3 b4 b5 b6 b7 b8 b9 b10 b11 b12 b13 b14 b15 b16 ey0 ly0 uy0 ey1 ly1 uy1 ey2 ly2 uy2 ey3 ly3 uy3 hm
      refine ev_iload rfl ?_
      refine ev_aload_n rfl ?_
      refine g_getp (r := 42) (c := 50) g1 ad42 (by decide) (by decide) rf42_12 ft12_12 ?_
      refine ev_iload rfl ?_
      refine g_ialdv (v := y3) g1 ad50 (by omega) (by omega) (ey3) ?_
      refine ev_icmpge f304_162 (fun c55976 => ?_) (fun c55976 => ?_)
      · refine ev_aload_n rfl ?_
        refine g_getp (r := 42) (c := 53) g1 ad42 (by decide) (by decide) rf42_15 ft12_15 ?_
        refine ev_iload rfl ?_
        refine ev_iload rfl ?_
        refine ev_i2b (r := x7) (by unfold w8; omega) ?_
        refine ev_bastG (r := 53) (j := ((100 * a1 + x5)).toNat) (w := x7) (g1.lt ad53) (g1.tg ad53) (by omega) (by rw [g1.ln ad53]; omega) (by unfold w8; omega) (fun h55977 e55977 => ?_)
        have g55977 := g1.s53 e55977 (Or.inr ⟨by omega, by rw [(ey3)]; omega⟩) (by omega) (by omega)
        have k55977 := k1.wr e55977 rfl
        refine ev_iload rfl ?_
        refine ev_ifeq f304_180 (fun c55978 => ?_) (fun c55978 => ?_)
        · refine ev_iinc (w := (x5 + 1)) (L' := [(2, 42), (0, a1), (0, a2), (1, x3), (9, 0), (0, (x5 + 1)), (0, (100 * a1 + x5)), (0, x7), (0, x8), (0, x9)]) rfl (by unfold w32; omega) rfl ?_
          refine ev_goto f304_50 ?_
          exact ih.1 _ _ _ _ _ _ _ _ _ g55977 k55977 (by omega) (by omega) (by omega) (by omega) (by omega) (by omega) (by omega) (by omega) (by omega) (((jw_ne e55977 (Or.inl (by decide))).trans ey0)) (by omega) (by omega) (((jw_ne e55977 (Or.inl (by decide))).trans ey1)) (by omega) (by omega) (by omega)
        · refine ev_iload rfl ?_
          exact ev_ret rfl (by decide) (by decide) ⟨_, rfl, by omega, by omega, g55977, k55977⟩
      · refine ev_iload rfl ?_
        refine ev_ifne f304_162 (fun c55979 => ?_) (fun c55979 => ?_)
        · refine ev_aload_n rfl ?_
          refine g_getp (r := 42) (c := 53) g1 ad42 (by decide) (by decide) rf42_15 ft12_15 ?_
          refine ev_iload rfl ?_
          refine ev_iload rfl ?_
          refine ev_i2b (r := x7) (by unfold w8; omega) ?_
          refine ev_bastG (r := 53) (j := ((100 * a1 + x5)).toNat) (w := x7) (g1.lt ad53) (g1.tg ad53) (by omega) (by rw [g1.ln ad53]; omega) (by unfold w8; omega) (fun h55980 e55980 => ?_)
          have g55980 := g1.s53 e55980 (Or.inr ⟨by omega, by rw [(ey3)]; omega⟩) (by omega) (by omega)
          have k55980 := k1.wr e55980 rfl
          refine ev_iload rfl ?_
          refine ev_ifeq f304_180 (fun c55981 => absurd c55981 (by omega)) (fun c55981 => ?_)
          refine ev_iload rfl ?_
          exact ev_ret rfl (by decide) (by decide) ⟨_, rfl, by omega, by omega, g55980, k55980⟩
        · refine ev_aload_n rfl ?_
          refine g_getp (r := 42) (c := 53) g1 ad42 (by decide) (by decide) rf42_15 ft12_15 ?_
          refine ev_iload rfl ?_
          refine ev_iload rfl ?_
          refine ev_i2b (r := x9) (by unfold w8; omega) ?_
          refine ev_bastG (r := 53) (j := ((100 * a1 + x5)).toNat) (w := x9) (g1.lt ad53) (g1.tg ad53) (by omega) (by rw [g1.ln ad53]; omega) (by unfold w8; omega) (fun h55982 e55982 => ?_)
          have g55982 := g1.s53 e55982 (Or.inr ⟨by omega, by rw [(ey3)]; omega⟩) (by omega) (by omega)
          have k55982 := k1.wr e55982 rfl
          refine ev_aload_n rfl ?_
          refine ev_iload_n rfl ?_
          refine ev_aload_n rfl ?_
          refine g_getp (r := 42) (c := 60) g55982 ad42 (by decide) (by decide) rf42_29 ft12_29 ?_
          refine ev_iload_n rfl ?_
          refine g_iald g55982 ad60 rt60 (by omega) (by omega) (fun v55983 ev55983 lv55983 uv55983 => ?_)
          refine ev_aload_n rfl ?_
          refine g_getp (r := 42) (c := 61) g55982 ad42 (by decide) (by decide) rf42_30 ft12_30 ?_
          refine ev_iload_n rfl ?_
          refine g_iald g55982 ad61 rt61 (by omega) (by omega) (fun v55984 ev55984 lv55984 uv55984 => ?_)
          refine ev_iconst ?_
          refine ev_call (jcall_v (A := [(0, 1), (0, v55984), (0, v55983), (0, a1)]) (S' := []) (r := 42) rfl (g55982.lt ad42) (g55982.tg ad42) (Nat.le_of_ble_eq_true rfl)) (jOk_le (by decide) (s298 g55982 (by omega) (by omega) (by omega) (by omega) (by omega) (by omega) (by omega) (by omega) (((jw_ne e55982 (Or.inl (by decide))).trans ey0)) (by omega) (by omega) (((jw_ne e55982 (Or.inl (by decide))).trans ey1)) (by omega) (by omega) (by omega))) (by decide) (by decide) (fun w55985 h55985 q55985 => ?_)
          obtain ⟨q55985, qn55985, bk55985⟩ := q55985
          obtain ⟨v55986, rfl, lv55986, uv55986, g55985, kk55985⟩ := q55985
          have k55985 := k55982.tr kk55985 (by decide)
          show jEv _ _ _ _ _ _ _ (_, [(2, 42), (0, a1), (0, a2), (1, x3), (9, 0), (0, x5), (0, (100 * a1 + x5)), (0, x7), (0, x8), (0, x9)], [(1, v55986)], _, _, _)
          refine ev_lload_n rfl ?_
          refine ev_lcmp ?_
          refine ev_ifle f304_153 (fun c55987 => ?_) (fun c55987 => ?_)
          · have c55987b := jcmpL_le c55987
            refine ev_iconst ?_
            refine ev_istore (L' := [(2, 42), (0, a1), (0, a2), (1, x3), (9, 0), (0, x5), (0, (100 * a1 + x5)), (0, x7), (0, 0), (0, x9)]) (Nat.le_of_ble_eq_true rfl) rfl ?_
            refine ev_iinc (w := (x9 + 1)) (L' := [(2, 42), (0, a1), (0, a2), (1, x3), (9, 0), (0, x5), (0, (100 * a1 + x5)), (0, x7), (0, 0), (0, (x9 + 1))]) rfl (by unfold w32; omega) rfl ?_
            refine ev_goto f304_99 ?_
            exact ih.2 _ _ _ _ _ _ _ _ _ _ g55985 k55985 (by omega) (by omega) (by omega) (by omega) (by omega) (by omega) (by omega) (by omega) (by omega) (by omega) (by omega) (by omega) (by omega) (by omega) (by omega) (by omega) (by omega) (((kk55985.v (by decide)).trans ((jw_ne e55982 (Or.inl (by decide))).trans ey0))) (by omega) (by omega) (((kk55985.v rfl).trans ((jw_ne e55982 (Or.inl (by decide))).trans ey1))) (by omega) (by omega) (((kk55985.v rfl).trans ((jw_ne e55982 (Or.inl (by decide))).trans ey2))) (by omega) (by omega) (((kk55985.v rfl).trans ((jw_ne e55982 (Or.inl (by decide))).trans ey3))) (by omega) (by omega) (by omega)
          · have c55987b := jcmpL_leN c55987
            refine ev_iconst ?_
            refine ev_goto f304_154 ?_
            refine ev_istore (L' := [(2, 42), (0, a1), (0, a2), (1, x3), (9, 0), (0, x5), (0, (100 * a1 + x5)), (0, x7), (0, 1), (0, x9)]) (Nat.le_of_ble_eq_true rfl) rfl ?_
            refine ev_iinc (w := (x9 + 1)) (L' := [(2, 42), (0, a1), (0, a2), (1, x3), (9, 0), (0, x5), (0, (100 * a1 + x5)), (0, x7), (0, 1), (0, (x9 + 1))]) rfl (by unfold w32; omega) rfl ?_
            refine ev_goto f304_99 ?_
            exact ih.2 _ _ _ _ _ _ _ _ _ _ g55985 k55985 (by omega) (by omega) (by omega) (by omega) (by omega) (by omega) (by omega) (by omega) (by omega) (by omega) (by omega) (by omega) (by omega) (by omega) (by omega) (by omega) (by omega) (((kk55985.v (by decide)).trans ((jw_ne e55982 (Or.inl (by decide))).trans ey0))) (by omega) (by omega) (((kk55985.v rfl).trans ((jw_ne e55982 (Or.inl (by decide))).trans ey1))) (by omega) (by omega) (((kk55985.v rfl).trans ((jw_ne e55982 (Or.inl (by decide))).trans ey2))) (by omega) (by omega) (((kk55985.v rfl).trans ((jw_ne e55982 (Or.inl (by decide))).trans ey3))) (by omega) (by omega) (by omega)
set_option maxHeartbeats 4000000 in
theorem s304 {G : GH} {h : JH} (g : Gd G h) {a1 : Int} (la1 : (-2147483648) ≤ a1) (ua1 : a1 ≤ 2147483647) {a2 : Int} (la2 : (-2147483648) ≤ a2) (ua2 : a2 ≤ 2147483647) : jOk 205 0 0 304 [(2, 42), (0, a1), (0, a2)] h (PI G [(46, 0), (47, 0), (42, 6), (42, 9), (42, 37), (42, 38), (42, 39), (42, 40), (64, 0), (65, 0), (53, 0)] h 0 (-4) 99) := by
  refine ⟨by decide, by rw [ml304]; exact Nat.le_of_ble_eq_true rfl, ?_⟩
  rw [ml304, pp304]
  show jEv _ none _ c304_0 0 0 _ (c304_0, [(2, 42), (0, a1), (0, a2), (9, 0), (9, 0), (9, 0), (9, 0), (9, 0), (9, 0), (9, 0)], [], h, 0, 0)
  have k0 := Kp.rf [(46, 0), (47, 0), (42, 6), (42, 9), (42, 37), (42, 38), (42, 39), (42, 40), (64, 0), (65, 0), (53, 0)] h
  refine ev_aload_n rfl ?_
  refine ev_iload_n rfl ?_
  refine ev_in (d := 203) (a := 0) (b := 0) (cd' := c261_0) (m := 2) (L0 := [(2, 42), (0, a1)]) (jcall_v (A := [(0, a1)]) (S' := []) (r := 42) rfl (g.lt ad42) (g.tg ad42) (Nat.le_of_ble_eq_true rfl)) (by decide) ml261 pp261 (Nat.le_of_ble_eq_true rfl) rfl (by decide) (by decide) ?_
  refine ev_iload_n rfl ?_
  refine ev_iconst ?_
  refine ev_aload_n rfl ?_
  obtain ⟨v55988, ev55988, lv55988, uv55988⟩ := g.rd ad42 (show 9 < 66 by decide) rf42_9
  refine g_getv (r := 42) (v := v55988) g ad42 (by decide) ft12_9 ev55988 ?_
  refine ev_iconst ?_
  refine ev_isub (r := (v55988 - 1)) (by unfold w32; omega) ?_
  refine ev_in (d := 202) (a := 0) (b := 0) (cd' := c242_0) (m := 3) (L0 := [(0, a1), (0, 0), (0, (v55988 - 1))]) (jcall_s (A := [(0, (v55988 - 1)), (0, 0), (0, a1)]) (S' := []) (by decide) rfl (Nat.le_of_ble_eq_true rfl)) (by decide) ml242 pp242 (Nat.le_of_ble_eq_true rfl) rfl (by decide) (by decide) ?_
  refine ev_iload_n rfl ?_
  refine ev_iload_n rfl ?_
  refine ev_icmplt f242_14 (fun c55989 => ?_) (fun c55989 => ?_)
  · refine ev_iconst ?_
    refine ev_ret rfl (by decide) (by decide) ?_
    show jEv _ _ _ _ _ _ _ (_, [(2, 42), (0, a1)], [(0, 0)], _, _, _)
    refine ev_ret rfl (by decide) (by decide) ?_
    show jEv _ _ _ _ _ _ _ (_, [(2, 42), (0, a1), (0, a2), (9, 0), (9, 0), (9, 0), (9, 0), (9, 0), (9, 0), (9, 0)], [(0, 0)], _, _, _)
    refine ev_ifeq f304_16 (fun c55990 => ?_) (fun c55990 => absurd c55990 (by omega))
    refine ev_iconst ?_
    exact ev_ret rfl (by decide) (by decide) ⟨_, rfl, by omega, by omega, g, k0⟩
  · refine ev_iload_n rfl ?_
    refine ev_iload_n rfl ?_
    refine ev_icmpgt f242_14 (fun c55991 => ?_) (fun c55991 => ?_)
    · refine ev_iconst ?_
      refine ev_ret rfl (by decide) (by decide) ?_
      show jEv _ _ _ _ _ _ _ (_, [(2, 42), (0, a1)], [(0, 0)], _, _, _)
      refine ev_ret rfl (by decide) (by decide) ?_
      show jEv _ _ _ _ _ _ _ (_, [(2, 42), (0, a1), (0, a2), (9, 0), (9, 0), (9, 0), (9, 0), (9, 0), (9, 0), (9, 0)], [(0, 0)], _, _, _)
      refine ev_ifeq f304_16 (fun c55992 => ?_) (fun c55992 => absurd c55992 (by omega))
      refine ev_iconst ?_
      exact ev_ret rfl (by decide) (by decide) ⟨_, rfl, by omega, by omega, g, k0⟩
    · refine ev_iconst ?_
      refine ev_goto f242_15 ?_
      refine ev_ret rfl (by decide) (by decide) ?_
      show jEv _ _ _ _ _ _ _ (_, [(2, 42), (0, a1)], [(0, 1)], _, _, _)
      refine ev_ret rfl (by decide) (by decide) ?_
      show jEv _ _ _ _ _ _ _ (_, [(2, 42), (0, a1), (0, a2), (9, 0), (9, 0), (9, 0), (9, 0), (9, 0), (9, 0), (9, 0)], [(0, 1)], _, _, _)
      refine ev_ifeq f304_16 (fun c55993 => absurd c55993 (by omega)) (fun c55993 => ?_)
      refine ev_aload_n rfl ?_
      refine ev_iload_n rfl ?_
      refine ev_in (d := 203) (a := 0) (b := 0) (cd' := c284_0) (m := 2) (L0 := [(2, 42), (0, a2)]) (jcall_v (A := [(0, a2)]) (S' := []) (r := 42) rfl (g.lt ad42) (g.tg ad42) (Nat.le_of_ble_eq_true rfl)) (by decide) ml284 pp284 (Nat.le_of_ble_eq_true rfl) rfl (by decide) (by decide) ?_
      refine ev_iload_n rfl ?_
      refine ev_iconst ?_
      refine ev_aload_n rfl ?_
      obtain ⟨v55994, ev55994, lv55994, uv55994⟩ := g.rd ad42 (show 28 < 66 by decide) rf42_28
      refine g_getv (r := 42) (v := v55994) g ad42 (by decide) ft12_28 ev55994 ?_
      refine ev_iconst ?_
      refine ev_isub (r := (v55994 - 1)) (by unfold w32; omega) ?_
      refine ev_in (d := 202) (a := 0) (b := 0) (cd' := c242_0) (m := 3) (L0 := [(0, a2), (0, 0), (0, (v55994 - 1))]) (jcall_s (A := [(0, (v55994 - 1)), (0, 0), (0, a2)]) (S' := []) (by decide) rfl (Nat.le_of_ble_eq_true rfl)) (by decide) ml242 pp242 (Nat.le_of_ble_eq_true rfl) rfl (by decide) (by decide) ?_
      refine ev_iload_n rfl ?_
      refine ev_iload_n rfl ?_
      refine ev_icmplt f242_14 (fun c55995 => ?_) (fun c55995 => ?_)
      · refine ev_iconst ?_
        refine ev_ret rfl (by decide) (by decide) ?_
        show jEv _ _ _ _ _ _ _ (_, [(2, 42), (0, a2)], [(0, 0)], _, _, _)
        refine ev_ret rfl (by decide) (by decide) ?_
        show jEv _ _ _ _ _ _ _ (_, [(2, 42), (0, a1), (0, a2), (9, 0), (9, 0), (9, 0), (9, 0), (9, 0), (9, 0), (9, 0)], [(0, 0)], _, _, _)
        refine ev_ifne f304_18 (fun c55996 => absurd c55996 (by omega)) (fun c55996 => ?_)
        refine ev_iconst ?_
        exact ev_ret rfl (by decide) (by decide) ⟨_, rfl, by omega, by omega, g, k0⟩
      · refine ev_iload_n rfl ?_
        refine ev_iload_n rfl ?_
        refine ev_icmpgt f242_14 (fun c55997 => ?_) (fun c55997 => ?_)
        · refine ev_iconst ?_
          refine ev_ret rfl (by decide) (by decide) ?_
          show jEv _ _ _ _ _ _ _ (_, [(2, 42), (0, a2)], [(0, 0)], _, _, _)
          refine ev_ret rfl (by decide) (by decide) ?_
          show jEv _ _ _ _ _ _ _ (_, [(2, 42), (0, a1), (0, a2), (9, 0), (9, 0), (9, 0), (9, 0), (9, 0), (9, 0), (9, 0)], [(0, 0)], _, _, _)
          refine ev_ifne f304_18 (fun c55998 => absurd c55998 (by omega)) (fun c55998 => ?_)
          refine ev_iconst ?_
          exact ev_ret rfl (by decide) (by decide) ⟨_, rfl, by omega, by omega, g, k0⟩
        · refine ev_iconst ?_
          refine ev_goto f242_15 ?_
          refine ev_ret rfl (by decide) (by decide) ?_
          show jEv _ _ _ _ _ _ _ (_, [(2, 42), (0, a2)], [(0, 1)], _, _, _)
          refine ev_ret rfl (by decide) (by decide) ?_
          show jEv _ _ _ _ _ _ _ (_, [(2, 42), (0, a1), (0, a2), (9, 0), (9, 0), (9, 0), (9, 0), (9, 0), (9, 0), (9, 0)], [(0, 1)], _, _, _)
          refine ev_ifne f304_18 (fun c55999 => ?_) (fun c55999 => absurd c55999 (by omega))
          refine ev_aload_n rfl ?_
          refine ev_call (jcall_v (A := []) (S' := []) (r := 42) rfl (g.lt ad42) (g.tg ad42) (Nat.le_of_ble_eq_true rfl)) (jOk_le (by decide) (s256 g )) (by decide) (by decide) (fun w56000 h56000 q56000 => ?_)
          obtain ⟨v56001, rfl, lv56001, uv56001, g56000, kk56000⟩ := q56000
          have k56000 := k0.tr kk56000 (by decide)
          show jEv _ _ _ _ _ _ _ (_, [(2, 42), (0, a1), (0, a2), (9, 0), (9, 0), (9, 0), (9, 0), (9, 0), (9, 0), (9, 0)], [(0, v56001)], _, _, _)
          refine ev_ifne f304_28 (fun c56002 => ?_) (fun c56002 => ?_)
          · refine ev_aload_n rfl ?_
            refine ev_iload_n rfl ?_
            refine ev_aload_n rfl ?_
            refine g_getp (r := 42) (c := 60) g56000 ad42 (by decide) (by decide) rf42_29 ft12_29 ?_
            refine ev_iload_n rfl ?_
            refine g_iald g56000 ad60 rt60 (by omega) (by omega) (fun v56003 ev56003 lv56003 uv56003 => ?_)
            refine ev_aload_n rfl ?_
            refine g_getp (r := 42) (c := 61) g56000 ad42 (by decide) (by decide) rf42_30 ft12_30 ?_
            refine ev_iload_n rfl ?_
            refine g_iald g56000 ad61 rt61 (by omega) (by omega) (fun v56004 ev56004 lv56004 uv56004 => ?_)
            refine ev_iconst ?_
            obtain ⟨v56005, ev56005, lv56005, uv56005⟩ := g56000.rd ad48 (show (a1).toNat < 7 by omega) (rt48 _)
            have zv56005 := g56000.n48 (q := a1) (by omega) (by rw [(((kk56000.v (by decide)).trans ev55988))]; omega) ev56005
            refine ev_call (jcall_v (A := [(0, 1), (0, v56004), (0, v56003), (0, a1)]) (S' := []) (r := 42) rfl (g56000.lt ad42) (g56000.tg ad42) (Nat.le_of_ble_eq_true rfl)) (jOk_le (by decide) (s298 g56000 (by omega) (by omega) (by omega) (by omega) (by omega) (by omega) (by omega) (by omega) (((kk56000.v (by decide)).trans ev55988)) (by omega) (by omega) ev56005 (by omega) (by omega) (by omega))) (by decide) (by decide) (fun w56006 h56006 q56006 => ?_)
            obtain ⟨q56006, qn56006, bk56006⟩ := q56006
            obtain ⟨v56007, rfl, lv56007, uv56007, g56006, kk56006⟩ := q56006
            have k56006 := k56000.tr kk56006 (by decide)
            show jEv _ _ _ _ _ _ _ (_, [(2, 42), (0, a1), (0, a2), (9, 0), (9, 0), (9, 0), (9, 0), (9, 0), (9, 0), (9, 0)], [(1, v56007)], _, _, _)
            refine ev_lstore_n (L' := [(2, 42), (0, a1), (0, a2), (1, v56007), (9, 0), (9, 0), (9, 0), (9, 0), (9, 0), (9, 0)]) (Nat.le_of_ble_eq_true rfl) rfl ?_
            refine ev_iconst ?_
            refine ev_istore (L' := [(2, 42), (0, a1), (0, a2), (1, v56007), (9, 0), (0, 0), (9, 0), (9, 0), (9, 0), (9, 0)]) (Nat.le_of_ble_eq_true rfl) rfl ?_
            exact (s304_l la1 ua1 la2 ua2 2020).1 _ _ _ _ _ _ _ _ _ g56006 k56006 (by omega) (by omega) (by omega) (by omega) (by omega) (by omega) (by omega) (by omega) (by omega) (((kk56006.v (by decide)).trans ((kk56000.v (by decide)).trans ev55988))) (by omega) (by omega) (((kk56006.v rfl).trans ev56005)) (by omega) (by omega) (by omega)
          · refine ev_bipush ?_
            exact ev_ret rfl (by decide) (by decide) ⟨_, rfl, by omega, by omega, g56000, k56000⟩
set_option maxHeartbeats 4000000 in
theorem s306 {G : GH} {h : JH} (g : Gd G h) {a1 : Int} (la1 : (-2147483648) ≤ a1) (ua1 : a1 ≤ 2147483647) {a2 : Int} (la2 : (-2147483648) ≤ a2) (ua2 : a2 ≤ 2147483647) {a3 : Int} (la3 : (-2147483648) ≤ a3) (ua3 : a3 ≤ 2147483647) {a4 : Int} (la4 : (-2147483648) ≤ a4) (ua4 : a4 ≤ 2147483647) : jOk 204 0 0 306 [(2, 42), (0, a1), (0, a2), (0, a3), (0, a4)] h (PI G [(46, 0), (47, 0), (42, 6), (42, 9), (42, 37), (42, 38), (42, 39), (42, 40), (64, 0), (65, 0)] h 1 (-9223372036854775808) 9223372036854775807) := by
  refine ⟨by decide, by rw [ml306]; exact Nat.le_of_ble_eq_true rfl, ?_⟩
  rw [ml306, pp306]
  show jEv _ none _ c306_0 0 0 _ (c306_0, [(2, 42), (0, a1), (0, a2), (0, a3), (0, a4), (9, 0)], [], h, 0, 0)
  have k0 := Kp.rf [(46, 0), (47, 0), (42, 6), (42, 9), (42, 37), (42, 38), (42, 39), (42, 40), (64, 0), (65, 0)] h
  refine ev_aload_n rfl ?_
  refine ev_iload_n rfl ?_
  refine ev_iload_n rfl ?_
  refine ev_in (d := 202) (a := 0) (b := 0) (cd' := c277_0) (m := 3) (L0 := [(2, 42), (0, a1), (0, a2)]) (jcall_v (A := [(0, a2), (0, a1)]) (S' := []) (r := 42) rfl (g.lt ad42) (g.tg ad42) (Nat.le_of_ble_eq_true rfl)) (by decide) ml277 pp277 (Nat.le_of_ble_eq_true rfl) rfl (by decide) (by decide) ?_
  refine ev_aload_n rfl ?_
  refine ev_iload_n rfl ?_
  refine ev_iload_n rfl ?_
  refine ev_in (d := 201) (a := 0) (b := 0) (cd' := c262_0) (m := 3) (L0 := [(2, 42), (0, a1), (0, a2)]) (jcall_v (A := [(0, a2), (0, a1)]) (S' := []) (r := 42) rfl (g.lt ad42) (g.tg ad42) (Nat.le_of_ble_eq_true rfl)) (by decide) ml262 pp262 (Nat.le_of_ble_eq_true rfl) rfl (by decide) (by decide) ?_
  refine ev_aload_n rfl ?_
  refine ev_iload_n rfl ?_
  refine ev_in (d := 200) (a := 0) (b := 0) (cd' := c261_0) (m := 2) (L0 := [(2, 42), (0, a1)]) (jcall_v (A := [(0, a1)]) (S' := []) (r := 42) rfl (g.lt ad42) (g.tg ad42) (Nat.le_of_ble_eq_true rfl)) (by decide) ml261 pp261 (Nat.le_of_ble_eq_true rfl) rfl (by decide) (by decide) ?_
  refine ev_iload_n rfl ?_
  refine ev_iconst ?_
  refine ev_aload_n rfl ?_
  obtain ⟨v56138, ev56138, lv56138, uv56138⟩ := g.rd ad42 (show 9 < 66 by decide) rf42_9
  refine g_getv (r := 42) (v := v56138) g ad42 (by decide) ft12_9 ev56138 ?_
  refine ev_iconst ?_
  refine ev_isub (r := (v56138 - 1)) (by unfold w32; omega) ?_
  refine ev_in (d := 199) (a := 0) (b := 0) (cd' := c242_0) (m := 3) (L0 := [(0, a1), (0, 0), (0, (v56138 - 1))]) (jcall_s (A := [(0, (v56138 - 1)), (0, 0), (0, a1)]) (S' := []) (by decide) rfl (Nat.le_of_ble_eq_true rfl)) (by decide) ml242 pp242 (Nat.le_of_ble_eq_true rfl) rfl (by decide) (by decide) ?_
  refine ev_iload_n rfl ?_
  refine ev_iload_n rfl ?_
  refine ev_icmplt f242_14 (fun c56139 => ?_) (fun c56139 => ?_)
  · refine ev_iconst ?_
    refine ev_ret rfl (by decide) (by decide) ?_
    show jEv _ _ _ _ _ _ _ (_, [(2, 42), (0, a1)], [(0, 0)], _, _, _)
    refine ev_ret rfl (by decide) (by decide) ?_
    show jEv _ _ _ _ _ _ _ (_, [(2, 42), (0, a1), (0, a2)], [(0, 0)], _, _, _)
    refine ev_ifeq f262_28 (fun c56140 => ?_) (fun c56140 => absurd c56140 (by omega))
    refine ev_iconst ?_
    refine ev_ret rfl (by decide) (by decide) ?_
    show jEv _ _ _ _ _ _ _ (_, [(2, 42), (0, a1), (0, a2)], [(0, 0)], _, _, _)
    refine ev_ifeq f277_28 (fun c56141 => ?_) (fun c56141 => absurd c56141 (by omega))
    refine ev_iconst ?_
    refine ev_ret rfl (by decide) (by decide) ?_
    show jEv _ _ _ _ _ _ _ (_, [(2, 42), (0, a1), (0, a2), (0, a3), (0, a4), (9, 0)], [(0, 0)], _, _, _)
    refine ev_ifeq f306_40 (fun c56142 => ?_) (fun c56142 => absurd c56142 (by omega))
    refine ev_ldc2_w ?_
    exact ev_ret rfl (by decide) (by decide) ⟨_, rfl, by omega, by omega, g, k0⟩
  · refine ev_iload_n rfl ?_
    refine ev_iload_n rfl ?_
    refine ev_icmpgt f242_14 (fun c56143 => ?_) (fun c56143 => ?_)
    · refine ev_iconst ?_
      refine ev_ret rfl (by decide) (by decide) ?_
      show jEv _ _ _ _ _ _ _ (_, [(2, 42), (0, a1)], [(0, 0)], _, _, _)
      refine ev_ret rfl (by decide) (by decide) ?_
      show jEv _ _ _ _ _ _ _ (_, [(2, 42), (0, a1), (0, a2)], [(0, 0)], _, _, _)
      refine ev_ifeq f262_28 (fun c56144 => ?_) (fun c56144 => absurd c56144 (by omega))
      refine ev_iconst ?_
      refine ev_ret rfl (by decide) (by decide) ?_
      show jEv _ _ _ _ _ _ _ (_, [(2, 42), (0, a1), (0, a2)], [(0, 0)], _, _, _)
      refine ev_ifeq f277_28 (fun c56145 => ?_) (fun c56145 => absurd c56145 (by omega))
      refine ev_iconst ?_
      refine ev_ret rfl (by decide) (by decide) ?_
      show jEv _ _ _ _ _ _ _ (_, [(2, 42), (0, a1), (0, a2), (0, a3), (0, a4), (9, 0)], [(0, 0)], _, _, _)
      refine ev_ifeq f306_40 (fun c56146 => ?_) (fun c56146 => absurd c56146 (by omega))
      refine ev_ldc2_w ?_
      exact ev_ret rfl (by decide) (by decide) ⟨_, rfl, by omega, by omega, g, k0⟩
    · refine ev_iconst ?_
      refine ev_goto f242_15 ?_
      refine ev_ret rfl (by decide) (by decide) ?_
      show jEv _ _ _ _ _ _ _ (_, [(2, 42), (0, a1)], [(0, 1)], _, _, _)
      refine ev_ret rfl (by decide) (by decide) ?_
      show jEv _ _ _ _ _ _ _ (_, [(2, 42), (0, a1), (0, a2)], [(0, 1)], _, _, _)
      refine ev_ifeq f262_28 (fun c56147 => absurd c56147 (by omega)) (fun c56147 => ?_)
      refine ev_iload_n rfl ?_
      refine ev_iconst ?_
      refine ev_aload_n rfl ?_
      refine g_getp (r := 42) (c := 48) g ad42 (by decide) (by decide) rf42_10 ft12_10 ?_
      refine ev_iload_n rfl ?_
      refine g_iald g ad48 rt48 (by omega) (by omega) (fun v56148 ev56148 lv56148 uv56148 => ?_)
      have zv56148 := g.n48 (q := a1) (by omega) (by rw [(ev56138)]; omega) ev56148
      refine ev_iconst ?_
      refine ev_isub (r := (v56148 - 1)) (by unfold w32; omega) ?_
      refine ev_in (d := 200) (a := 0) (b := 0) (cd' := c242_0) (m := 3) (L0 := [(0, a2), (0, 0), (0, (v56148 - 1))]) (jcall_s (A := [(0, (v56148 - 1)), (0, 0), (0, a2)]) (S' := []) (by decide) rfl (Nat.le_of_ble_eq_true rfl)) (by decide) ml242 pp242 (Nat.le_of_ble_eq_true rfl) rfl (by decide) (by decide) ?_
      refine ev_iload_n rfl ?_
      refine ev_iload_n rfl ?_
      refine ev_icmplt f242_14 (fun c56149 => ?_) (fun c56149 => ?_)
      · refine ev_iconst ?_
        refine ev_ret rfl (by decide) (by decide) ?_
        show jEv _ _ _ _ _ _ _ (_, [(2, 42), (0, a1), (0, a2)], [(0, 0)], _, _, _)
        refine ev_ifeq f262_28 (fun c56150 => ?_) (fun c56150 => absurd c56150 (by omega))
        refine ev_iconst ?_
        refine ev_ret rfl (by decide) (by decide) ?_
        show jEv _ _ _ _ _ _ _ (_, [(2, 42), (0, a1), (0, a2)], [(0, 0)], _, _, _)
        refine ev_ifeq f277_28 (fun c56151 => ?_) (fun c56151 => absurd c56151 (by omega))
        refine ev_iconst ?_
        refine ev_ret rfl (by decide) (by decide) ?_
        show jEv _ _ _ _ _ _ _ (_, [(2, 42), (0, a1), (0, a2), (0, a3), (0, a4), (9, 0)], [(0, 0)], _, _, _)
        refine ev_ifeq f306_40 (fun c56152 => ?_) (fun c56152 => absurd c56152 (by omega))
        refine ev_ldc2_w ?_
        exact ev_ret rfl (by decide) (by decide) ⟨_, rfl, by omega, by omega, g, k0⟩
      · refine ev_iload_n rfl ?_
        refine ev_iload_n rfl ?_
        refine ev_icmpgt f242_14 (fun c56153 => ?_) (fun c56153 => ?_)
        · refine ev_iconst ?_
          refine ev_ret rfl (by decide) (by decide) ?_
          show jEv _ _ _ _ _ _ _ (_, [(2, 42), (0, a1), (0, a2)], [(0, 0)], _, _, _)
          refine ev_ifeq f262_28 (fun c56154 => ?_) (fun c56154 => absurd c56154 (by omega))
          refine ev_iconst ?_
          refine ev_ret rfl (by decide) (by decide) ?_
          show jEv _ _ _ _ _ _ _ (_, [(2, 42), (0, a1), (0, a2)], [(0, 0)], _, _, _)
          refine ev_ifeq f277_28 (fun c56155 => ?_) (fun c56155 => absurd c56155 (by omega))
          refine ev_iconst ?_
          refine ev_ret rfl (by decide) (by decide) ?_
          show jEv _ _ _ _ _ _ _ (_, [(2, 42), (0, a1), (0, a2), (0, a3), (0, a4), (9, 0)], [(0, 0)], _, _, _)
          refine ev_ifeq f306_40 (fun c56156 => ?_) (fun c56156 => absurd c56156 (by omega))
          refine ev_ldc2_w ?_
          exact ev_ret rfl (by decide) (by decide) ⟨_, rfl, by omega, by omega, g, k0⟩
        · refine ev_iconst ?_
          refine ev_goto f242_15 ?_
          refine ev_ret rfl (by decide) (by decide) ?_
          show jEv _ _ _ _ _ _ _ (_, [(2, 42), (0, a1), (0, a2)], [(0, 1)], _, _, _)
          refine ev_ifeq f262_28 (fun c56157 => absurd c56157 (by omega)) (fun c56157 => ?_)
          refine ev_iconst ?_
          refine ev_goto f262_29 ?_
          refine ev_ret rfl (by decide) (by decide) ?_
          show jEv _ _ _ _ _ _ _ (_, [(2, 42), (0, a1), (0, a2)], [(0, 1)], _, _, _)
          refine ev_ifeq f277_28 (fun c56158 => absurd c56158 (by omega)) (fun c56158 => ?_)
          refine ev_aload_n rfl ?_
          refine g_getp (r := 42) (c := 49) g ad42 (by decide) (by decide) rf42_11 ft12_11 ?_
          refine ev_bipush ?_
          refine ev_iload_n rfl ?_
          refine ev_imul (r := (100 * a1)) (by unfold w32; omega) ?_
          refine ev_iload_n rfl ?_
          refine ev_iadd (r := (100 * a1 + a2)) (by unfold w32; omega) ?_
          refine g_bald g ad49 rt49 (by omega) (by omega) (fun v56159 ev56159 lv56159 uv56159 => ?_)
          refine ev_iconst ?_
          refine ev_icmpne f277_28 (fun c56160 => ?_) (fun c56160 => ?_)
          · refine ev_iconst ?_
            refine ev_ret rfl (by decide) (by decide) ?_
            show jEv _ _ _ _ _ _ _ (_, [(2, 42), (0, a1), (0, a2), (0, a3), (0, a4), (9, 0)], [(0, 0)], _, _, _)
            refine ev_ifeq f306_40 (fun c56161 => ?_) (fun c56161 => absurd c56161 (by omega))
            refine ev_ldc2_w ?_
            exact ev_ret rfl (by decide) (by decide) ⟨_, rfl, by omega, by omega, g, k0⟩
          · refine ev_iconst ?_
            refine ev_goto f277_29 ?_
            refine ev_ret rfl (by decide) (by decide) ?_
            show jEv _ _ _ _ _ _ _ (_, [(2, 42), (0, a1), (0, a2), (0, a3), (0, a4), (9, 0)], [(0, 1)], _, _, _)
            refine ev_ifeq f306_40 (fun c56162 => absurd c56162 (by omega)) (fun c56162 => ?_)
            refine ev_iload_n rfl ?_
            refine ev_iconst ?_
            refine ev_aload_n rfl ?_
            refine g_getp (r := 42) (c := 50) g ad42 (by decide) (by decide) rf42_12 ft12_12 ?_
            refine ev_bipush ?_
            refine ev_iload_n rfl ?_
            refine ev_imul (r := (100 * a1)) (by unfold w32; omega) ?_
            refine ev_iload_n rfl ?_
            refine ev_iadd (r := (100 * a1 + a2)) (by unfold w32; omega) ?_
            refine g_iald g ad50 rt50 (by omega) (by omega) (fun v56163 ev56163 lv56163 uv56163 => ?_)
            have xv56163 := g.nd1 (q := a1) (n := a2) (by omega) (by rw [(ev56138)]; omega) (by omega) (by rw [(ev56148)]; omega) (i := (100 * a1 + a2)) (by omega) (by rw [(ev56159)]; omega) ev56163
            refine ev_iconst ?_
            refine ev_isub (r := (v56163 - 1)) (by unfold w32; omega) ?_
            refine ev_in (d := 202) (a := 0) (b := 0) (cd' := c242_0) (m := 3) (L0 := [(0, a3), (0, 0), (0, (v56163 - 1))]) (jcall_s (A := [(0, (v56163 - 1)), (0, 0), (0, a3)]) (S' := []) (by decide) rfl (Nat.le_of_ble_eq_true rfl)) (by decide) ml242 pp242 (Nat.le_of_ble_eq_true rfl) rfl (by decide) (by decide) ?_
            refine ev_iload_n rfl ?_
            refine ev_iload_n rfl ?_
            refine ev_icmplt f242_14 (fun c56164 => ?_) (fun c56164 => ?_)
            · refine ev_iconst ?_
              refine ev_ret rfl (by decide) (by decide) ?_
              show jEv _ _ _ _ _ _ _ (_, [(2, 42), (0, a1), (0, a2), (0, a3), (0, a4), (9, 0)], [(0, 0)], _, _, _)
              refine ev_ifeq f306_40 (fun c56165 => ?_) (fun c56165 => absurd c56165 (by omega))
              refine ev_ldc2_w ?_
              exact ev_ret rfl (by decide) (by decide) ⟨_, rfl, by omega, by omega, g, k0⟩
            · refine ev_iload_n rfl ?_
              refine ev_iload_n rfl ?_
              refine ev_icmpgt f242_14 (fun c56166 => ?_) (fun c56166 => ?_)
              · refine ev_iconst ?_
                refine ev_ret rfl (by decide) (by decide) ?_
                show jEv _ _ _ _ _ _ _ (_, [(2, 42), (0, a1), (0, a2), (0, a3), (0, a4), (9, 0)], [(0, 0)], _, _, _)
                refine ev_ifeq f306_40 (fun c56167 => ?_) (fun c56167 => absurd c56167 (by omega))
                refine ev_ldc2_w ?_
                exact ev_ret rfl (by decide) (by decide) ⟨_, rfl, by omega, by omega, g, k0⟩
              · refine ev_iconst ?_
                refine ev_goto f242_15 ?_
                refine ev_ret rfl (by decide) (by decide) ?_
                show jEv _ _ _ _ _ _ _ (_, [(2, 42), (0, a1), (0, a2), (0, a3), (0, a4), (9, 0)], [(0, 1)], _, _, _)
                refine ev_ifeq f306_40 (fun c56168 => absurd c56168 (by omega)) (fun c56168 => ?_)
                refine ev_iload rfl ?_
                refine ev_iconst ?_
                refine ev_iconst ?_
                refine ev_in (d := 202) (a := 0) (b := 0) (cd' := c242_0) (m := 3) (L0 := [(0, a4), (0, 0), (0, 1)]) (jcall_s (A := [(0, 1), (0, 0), (0, a4)]) (S' := []) (by decide) rfl (Nat.le_of_ble_eq_true rfl)) (by decide) ml242 pp242 (Nat.le_of_ble_eq_true rfl) rfl (by decide) (by decide) ?_
                refine ev_iload_n rfl ?_
                refine ev_iload_n rfl ?_
                refine ev_icmplt f242_14 (fun c56169 => ?_) (fun c56169 => ?_)
                · refine ev_iconst ?_
                  refine ev_ret rfl (by decide) (by decide) ?_
                  show jEv _ _ _ _ _ _ _ (_, [(2, 42), (0, a1), (0, a2), (0, a3), (0, a4), (9, 0)], [(0, 0)], _, _, _)
                  refine ev_ifne f306_44 (fun c56170 => absurd c56170 (by omega)) (fun c56170 => ?_)
                  refine ev_ldc2_w ?_
                  exact ev_ret rfl (by decide) (by decide) ⟨_, rfl, by omega, by omega, g, k0⟩
                · refine ev_iload_n rfl ?_
                  refine ev_iload_n rfl ?_
                  refine ev_icmpgt f242_14 (fun c56171 => ?_) (fun c56171 => ?_)
                  · refine ev_iconst ?_
                    refine ev_ret rfl (by decide) (by decide) ?_
                    show jEv _ _ _ _ _ _ _ (_, [(2, 42), (0, a1), (0, a2), (0, a3), (0, a4), (9, 0)], [(0, 0)], _, _, _)
                    refine ev_ifne f306_44 (fun c56172 => absurd c56172 (by omega)) (fun c56172 => ?_)
                    refine ev_ldc2_w ?_
                    exact ev_ret rfl (by decide) (by decide) ⟨_, rfl, by omega, by omega, g, k0⟩
                  · refine ev_iconst ?_
                    refine ev_goto f242_15 ?_
                    refine ev_ret rfl (by decide) (by decide) ?_
                    show jEv _ _ _ _ _ _ _ (_, [(2, 42), (0, a1), (0, a2), (0, a3), (0, a4), (9, 0)], [(0, 1)], _, _, _)
                    refine ev_ifne f306_44 (fun c56173 => ?_) (fun c56173 => absurd c56173 (by omega))
                    refine ev_aload_n rfl ?_
                    refine ev_call (jcall_v (A := []) (S' := []) (r := 42) rfl (g.lt ad42) (g.tg ad42) (Nat.le_of_ble_eq_true rfl)) (jOk_le (by decide) (s256 g )) (by decide) (by decide) (fun w56174 h56174 q56174 => ?_)
                    obtain ⟨v56175, rfl, lv56175, uv56175, g56174, kk56174⟩ := q56174
                    have k56174 := k0.tr kk56174 (by decide)
                    show jEv _ _ _ _ _ _ _ (_, [(2, 42), (0, a1), (0, a2), (0, a3), (0, a4), (9, 0)], [(0, v56175)], _, _, _)
                    refine ev_ifne f306_55 (fun c56176 => ?_) (fun c56176 => ?_)
                    · refine ev_aload_n rfl ?_
                      refine ev_iload_n rfl ?_
                      refine ev_iconst ?_
                      refine ev_iconst ?_
                      refine ev_iconst ?_
                      refine ev_in (d := 202) (a := 0) (b := 0) (cd' := c291_0) (m := 6) (L0 := [(2, 42), (0, a1), (0, 0), (0, 0), (0, 0), (9, 0)]) (jcall_v (A := [(0, 0), (0, 0), (0, 0), (0, a1)]) (S' := []) (r := 42) rfl (g56174.lt ad42) (g56174.tg ad42) (Nat.le_of_ble_eq_true rfl)) (by decide) ml291 pp291 (Nat.le_of_ble_eq_true rfl) rfl (by decide) (by decide) ?_
                      refine ev_aload_n rfl ?_
                      refine ev_iload_n rfl ?_
                      refine g_putf (r := 42) g56174 ad42 (by decide) ft12_36 (by decide) (fun e => absurd e nz12_36) rf42_36 (by decide) (by omega) (by omega) (fun h56177 e56177 g56177 => ?_)
                      have k56177 := k56174.wr e56177 rfl
                      refine ev_aload_n rfl ?_
                      refine ev_iload_n rfl ?_
                      refine g_putf (r := 42) g56177 ad42 (by decide) ft12_37 (by decide) (fun e => absurd e nz12_37) rf42_37 (by decide) (by omega) (by omega) (fun h56178 e56178 g56178 => ?_)
                      have k56178 := k56177.wr e56178 rfl
                      refine ev_aload_n rfl ?_
                      refine ev_iload_n rfl ?_
                      refine g_putf (r := 42) g56178 ad42 (by decide) ft12_38 (by decide) (fun e => absurd e nz12_38) rf42_38 (by decide) (by omega) (by omega) (fun h56179 e56179 g56179 => ?_)
                      have k56179 := k56178.wr e56179 rfl
                      refine ev_aload_n rfl ?_
                      refine ev_iload rfl ?_
                      refine g_putf (r := 42) g56179 ad42 (by decide) ft12_39 (by decide) (fun _ => by omega) rf42_39 (by decide) (by omega) (by omega) (fun h56180 e56180 g56180 => ?_)
                      have k56180 := k56179.wr e56180 rfl
                      refine ev_iconst ?_
                      refine ev_istore (L' := [(2, 42), (0, a1), (0, 0), (0, 0), (0, 0), (0, 0)]) (Nat.le_of_ble_eq_true rfl) rfl ?_
                      refine ev_iload rfl ?_
                      refine ev_iconst ?_
                      refine ev_icmpge f291_44 (fun c56181 => absurd c56181 (by omega)) (fun c56181 => ?_)
                      refine ev_aload_n rfl ?_
                      refine g_getp (r := 42) (c := 64) g56180 ad42 (by decide) (by decide) rf42_34 ft12_34 ?_
                      refine ev_iload rfl ?_
                      refine ev_iconst ?_
                      refine g_iast g56180 ad64 rt64 (fun _ => rfl) (by omega) (by omega) (by omega) (by omega) (fun h56182 e56182 g56182 => ?_)
                      have k56182 := k56180.wr e56182 rfl
                      refine ev_iinc (w := 1) (L' := [(2, 42), (0, a1), (0, 0), (0, 0), (0, 0), (0, 1)]) rfl (by decide) rfl ?_
                      refine ev_goto f291_24 ?_
                      refine ev_iload rfl ?_
                      refine ev_iconst ?_
                      refine ev_icmpge f291_44 (fun c56183 => absurd c56183 (by omega)) (fun c56183 => ?_)
                      refine ev_aload_n rfl ?_
                      refine g_getp (r := 42) (c := 64) g56182 ad42 (by decide) (by decide) rf42_34 ft12_34 ?_
                      refine ev_iload rfl ?_
                      refine ev_iconst ?_
                      refine g_iast g56182 ad64 rt64 (fun _ => rfl) (by omega) (by omega) (by omega) (by omega) (fun h56184 e56184 g56184 => ?_)
                      have k56184 := k56182.wr e56184 rfl
                      refine ev_iinc (w := 2) (L' := [(2, 42), (0, a1), (0, 0), (0, 0), (0, 0), (0, 2)]) rfl (by decide) rfl ?_
                      refine ev_goto f291_24 ?_
                      refine ev_iload rfl ?_
                      refine ev_iconst ?_
                      refine ev_icmpge f291_44 (fun c56185 => absurd c56185 (by omega)) (fun c56185 => ?_)
                      refine ev_aload_n rfl ?_
                      refine g_getp (r := 42) (c := 64) g56184 ad42 (by decide) (by decide) rf42_34 ft12_34 ?_
                      refine ev_iload rfl ?_
                      refine ev_iconst ?_
                      refine g_iast g56184 ad64 rt64 (fun _ => rfl) (by omega) (by omega) (by omega) (by omega) (fun h56186 e56186 g56186 => ?_)
                      have k56186 := k56184.wr e56186 rfl
                      refine ev_iinc (w := 3) (L' := [(2, 42), (0, a1), (0, 0), (0, 0), (0, 0), (0, 3)]) rfl (by decide) rfl ?_
                      refine ev_goto f291_24 ?_
                      refine ev_iload rfl ?_
                      refine ev_iconst ?_
                      refine ev_icmpge f291_44 (fun c56187 => absurd c56187 (by omega)) (fun c56187 => ?_)
                      refine ev_aload_n rfl ?_
                      refine g_getp (r := 42) (c := 64) g56186 ad42 (by decide) (by decide) rf42_34 ft12_34 ?_
                      refine ev_iload rfl ?_
                      refine ev_iconst ?_
                      refine g_iast g56186 ad64 rt64 (fun _ => rfl) (by omega) (by omega) (by omega) (by omega) (fun h56188 e56188 g56188 => ?_)
                      have k56188 := k56186.wr e56188 rfl
                      refine ev_iinc (w := 4) (L' := [(2, 42), (0, a1), (0, 0), (0, 0), (0, 0), (0, 4)]) rfl (by decide) rfl ?_
                      refine ev_goto f291_24 ?_
                      refine ev_iload rfl ?_
                      refine ev_iconst ?_
                      refine ev_icmpge f291_44 (fun c56189 => ?_) (fun c56189 => absurd c56189 (by omega))
                      refine ev_ret rfl (by decide) (by decide) ?_
                      show jEv _ _ _ _ _ _ _ (_, [(2, 42), (0, a1), (0, a2), (0, a3), (0, a4), (9, 0)], [], _, _, _)
                      refine ev_aload_n rfl ?_
                      refine ev_iconst ?_
                      refine ev_iload_n rfl ?_
                      refine ev_call (jcall_v (A := [(0, a2), (0, 0)]) (S' := []) (r := 42) rfl (g56188.lt ad42) (g56188.tg ad42) (Nat.le_of_ble_eq_true rfl)) (jOk_le (by decide) (s305 g56188 (by omega) (by omega) (by omega) (by omega) (((jw_ne e56188 (Or.inl (by decide))).trans ((jw_ne e56186 (Or.inl (by decide))).trans ((jw_ne e56184 (Or.inl (by decide))).trans ((jw_ne e56182 (Or.inl (by decide))).trans ((jw_ne e56180 (Or.inr (by decide))).trans ((jw_ne e56179 (Or.inr (by decide))).trans ((jw_ne e56178 (Or.inr (by decide))).trans (jw_eq e56177))))))))) (by omega) (by omega) (((jw_ne e56188 (Or.inl (by decide))).trans ((jw_ne e56186 (Or.inl (by decide))).trans ((jw_ne e56184 (Or.inl (by decide))).trans ((jw_ne e56182 (Or.inl (by decide))).trans ((jw_ne e56180 (Or.inr (by decide))).trans ((jw_ne e56179 (Or.inr (by decide))).trans ((jw_ne e56178 (Or.inr (by decide))).trans ((jw_ne e56177 (Or.inr (by decide))).trans ((kk56174.v (by decide)).trans ev56138)))))))))) (by omega) (by omega) (((jw_ne e56188 (Or.inl (by decide))).trans ((jw_ne e56186 (Or.inl (by decide))).trans ((jw_ne e56184 (Or.inl (by decide))).trans ((jw_ne e56182 (Or.inl (by decide))).trans ((jw_ne e56180 (Or.inl (by decide))).trans ((jw_ne e56179 (Or.inl (by decide))).trans ((jw_ne e56178 (Or.inl (by decide))).trans ((jw_ne e56177 (Or.inl (by decide))).trans ((kk56174.v rfl).trans ev56148)))))))))) (by omega) (by omega) (by omega) (by omega))) (by decide) (by decide) (fun w56190 h56190 q56190 => ?_)
                      obtain ⟨v56191, rfl, lv56191, uv56191, g56190, kk56190⟩ := q56190
                      have k56190 := k56188.tr kk56190 (by decide)
                      show jEv _ _ _ _ _ _ _ (_, [(2, 42), (0, a1), (0, a2), (0, a3), (0, a4), (9, 0)], [(0, v56191)], _, _, _)
                      refine ev_ifne f306_76 (fun c56192 => ?_) (fun c56192 => ?_)
                      · refine ev_iconst ?_
                        refine ev_bipush ?_
                        refine ev_iload_n rfl ?_
                        refine ev_imul (r := (100 * a1)) (by unfold w32; omega) ?_
                        refine ev_iload_n rfl ?_
                        refine ev_iadd (r := (100 * a1 + a2)) (by unfold w32; omega) ?_
                        refine ev_imul (r := (400 * a1 + 4 * a2)) (by unfold w32; omega) ?_
                        refine ev_iload_n rfl ?_
                        refine ev_iadd (r := (400 * a1 + 4 * a2 + a3)) (by unfold w32; omega) ?_
                        refine ev_istore (L' := [(2, 42), (0, a1), (0, a2), (0, a3), (0, a4), (0, (400 * a1 + 4 * a2 + a3))]) (Nat.le_of_ble_eq_true rfl) rfl ?_
                        refine ev_aload_n rfl ?_
                        refine ev_aload_n rfl ?_
                        refine g_getp (r := 42) (c := 51) g56190 ad42 (by decide) (by decide) rf42_13 ft12_13 ?_
                        refine ev_iload rfl ?_
                        refine g_bald g56190 ad51 rt51 (by omega) (by omega) (fun v56193 ev56193 lv56193 uv56193 => ?_)
                        have xv56193 := g56190.nd1c (q := a1) (n := a2) (by omega) (by rw [(((kk56190.v (by decide)).trans ((jw_ne e56188 (Or.inl (by decide))).trans ((jw_ne e56186 (Or.inl (by decide))).trans ((jw_ne e56184 (Or.inl (by decide))).trans ((jw_ne e56182 (Or.inl (by decide))).trans ((jw_ne e56180 (Or.inr (by decide))).trans ((jw_ne e56179 (Or.inr (by decide))).trans ((jw_ne e56178 (Or.inr (by decide))).trans ((jw_ne e56177 (Or.inr (by decide))).trans ((kk56174.v (by decide)).trans ev56138)))))))))))]; omega) (by omega) (by rw [(((kk56190.v rfl).trans ((jw_ne e56188 (Or.inl (by decide))).trans ((jw_ne e56186 (Or.inl (by decide))).trans ((jw_ne e56184 (Or.inl (by decide))).trans ((jw_ne e56182 (Or.inl (by decide))).trans ((jw_ne e56180 (Or.inl (by decide))).trans ((jw_ne e56179 (Or.inl (by decide))).trans ((jw_ne e56178 (Or.inl (by decide))).trans ((jw_ne e56177 (Or.inl (by decide))).trans ((kk56174.v rfl).trans ev56148)))))))))))]; omega) (i := (100 * a1 + a2)) (by omega) (by rw [(((kk56190.v rfl).trans ((jw_ne e56188 (Or.inl (by decide))).trans ((jw_ne e56186 (Or.inl (by decide))).trans ((jw_ne e56184 (Or.inl (by decide))).trans ((jw_ne e56182 (Or.inl (by decide))).trans ((jw_ne e56180 (Or.inl (by decide))).trans ((jw_ne e56179 (Or.inl (by decide))).trans ((jw_ne e56178 (Or.inl (by decide))).trans ((jw_ne e56177 (Or.inl (by decide))).trans ((kk56174.v rfl).trans ev56159)))))))))))]; omega) (((kk56190.v rfl).trans ((jw_ne e56188 (Or.inl (by decide))).trans ((jw_ne e56186 (Or.inl (by decide))).trans ((jw_ne e56184 (Or.inl (by decide))).trans ((jw_ne e56182 (Or.inl (by decide))).trans ((jw_ne e56180 (Or.inl (by decide))).trans ((jw_ne e56179 (Or.inl (by decide))).trans ((jw_ne e56178 (Or.inl (by decide))).trans ((jw_ne e56177 (Or.inl (by decide))).trans ((kk56174.v rfl).trans ev56163))))))))))) (w := a3) (by omega) (by omega) (j := (400 * a1 + 4 * a2 + a3)) (by omega) ev56193
                        rw [(((kk56190.v rfl).trans ((jw_ne e56188 (Or.inl (by decide))).trans ((jw_ne e56186 (Or.inl (by decide))).trans ((jw_ne e56184 (Or.inl (by decide))).trans ((jw_ne e56182 (Or.inl (by decide))).trans ((jw_ne e56180 (Or.inl (by decide))).trans ((jw_ne e56179 (Or.inl (by decide))).trans ((jw_ne e56178 (Or.inl (by decide))).trans ((jw_ne e56177 (Or.inl (by decide))).trans ((kk56174.v rfl).trans ev56148)))))))))))] at xv56193
                        refine ev_aload_n rfl ?_
                        refine g_getp (r := 42) (c := 52) g56190 ad42 (by decide) (by decide) rf42_14 ft12_14 ?_
                        refine ev_iload rfl ?_
                        refine g_iald g56190 ad52 rt52 (by omega) (by omega) (fun v56194 ev56194 lv56194 uv56194 => ?_)
                        obtain ⟨N56195, e56195, S56195, tr56195⟩ := g56190.tr (q := a1) (n := v56193) (by omega) (by rw [(((kk56190.v (by decide)).trans ((jw_ne e56188 (Or.inl (by decide))).trans ((jw_ne e56186 (Or.inl (by decide))).trans ((jw_ne e56184 (Or.inl (by decide))).trans ((jw_ne e56182 (Or.inl (by decide))).trans ((jw_ne e56180 (Or.inr (by decide))).trans ((jw_ne e56179 (Or.inr (by decide))).trans ((jw_ne e56178 (Or.inr (by decide))).trans ((jw_ne e56177 (Or.inr (by decide))).trans ((kk56174.v (by decide)).trans ev56138)))))))))))]; omega) (by omega) (by rw [(((kk56190.v rfl).trans ((jw_ne e56188 (Or.inl (by decide))).trans ((jw_ne e56186 (Or.inl (by decide))).trans ((jw_ne e56184 (Or.inl (by decide))).trans ((jw_ne e56182 (Or.inl (by decide))).trans ((jw_ne e56180 (Or.inl (by decide))).trans ((jw_ne e56179 (Or.inl (by decide))).trans ((jw_ne e56178 (Or.inl (by decide))).trans ((jw_ne e56177 (Or.inl (by decide))).trans ((kk56174.v rfl).trans ev56148)))))))))))]; omega)
                        refine ev_call (jcall_v (A := [(0, v56194), (0, v56193)]) (S' := []) (r := 42) rfl (g56190.lt ad42) (g56190.tg ad42) (Nat.le_of_ble_eq_true rfl)) (jOk_le (by decide) (s294 g56190 (by omega) (by omega) (by omega) (by omega) (((kk56190.v (by decide)).trans ((jw_ne e56188 (Or.inl (by decide))).trans ((jw_ne e56186 (Or.inl (by decide))).trans ((jw_ne e56184 (Or.inl (by decide))).trans ((jw_ne e56182 (Or.inl (by decide))).trans ((jw_ne e56180 (Or.inr (by decide))).trans ((jw_ne e56179 (Or.inr (by decide))).trans ((jw_ne e56178 (Or.inr (by decide))).trans (jw_eq e56177)))))))))) (by omega) (by omega) (((kk56190.v (by decide)).trans ((jw_ne e56188 (Or.inl (by decide))).trans ((jw_ne e56186 (Or.inl (by decide))).trans ((jw_ne e56184 (Or.inl (by decide))).trans ((jw_ne e56182 (Or.inl (by decide))).trans ((jw_ne e56180 (Or.inr (by decide))).trans ((jw_ne e56179 (Or.inr (by decide))).trans ((jw_ne e56178 (Or.inr (by decide))).trans ((jw_ne e56177 (Or.inr (by decide))).trans ((kk56174.v (by decide)).trans ev56138))))))))))) (by omega) (by omega) (((kk56190.v rfl).trans ((jw_ne e56188 (Or.inl (by decide))).trans ((jw_ne e56186 (Or.inl (by decide))).trans ((jw_ne e56184 (Or.inl (by decide))).trans ((jw_ne e56182 (Or.inl (by decide))).trans ((jw_ne e56180 (Or.inl (by decide))).trans ((jw_ne e56179 (Or.inl (by decide))).trans ((jw_ne e56178 (Or.inl (by decide))).trans ((jw_ne e56177 (Or.inl (by decide))).trans ((kk56174.v rfl).trans ev56148))))))))))) (by omega) (by omega) (by omega) (by omega) (by omega) tr56195)) (by decide) (by decide) (fun w56196 h56196 q56196 => ?_)
                        obtain ⟨q56196, vs56196⟩ := q56196
                        obtain ⟨v56197, rfl, lv56197, uv56197, g56196, kk56196⟩ := q56196
                        have k56196 := k56190.tr kk56196 (by decide)
                        show jEv _ _ _ _ _ _ _ (_, [(2, 42), (0, a1), (0, a2), (0, a3), (0, a4), (0, (400 * a1 + 4 * a2 + a3))], [(1, v56197)], _, _, _)
                        refine ev_ldc2_w ?_
                        refine ev_aload_n rfl ?_
                        refine ev_call (jcall_v (A := []) (S' := [(1, 100), (1, v56197)]) (r := 42) rfl (g56196.lt ad42) (g56196.tg ad42) (Nat.le_of_ble_eq_true rfl)) (jOk_le (by decide) (s293 g56196 )) (by decide) (by decide) (fun w56198 h56198 q56198 => ?_)
                        obtain ⟨v56199, rfl, lv56199, uv56199, g56198, kk56198⟩ := q56198
                        have k56198 := k56196.tr kk56198 (by decide)
                        show jEv _ _ _ _ _ _ _ (_, [(2, 42), (0, a1), (0, a2), (0, a3), (0, a4), (0, (400 * a1 + 4 * a2 + a3))], [(1, v56199), (1, 100), (1, v56197)], _, _, _)
                        refine g_lmulG (fun v56200 ev56200 lv56200 uv56200 => ?_)
                        refine ev_iload rfl ?_
                        refine ev_call (jcall_s (A := [(0, a4), (1, v56200), (1, v56197)]) (S' := []) (by decide) rfl (Nat.le_of_ble_eq_true rfl)) (jOk_le (by decide) (s244 g56198 (by omega) (by omega) (by omega) (by omega) (by omega) (by omega))) (by decide) (by decide) (fun w56201 h56201 q56201 => ?_)
                        obtain ⟨v56202, rfl, lv56202, uv56202, g56201, kk56201⟩ := q56201
                        have k56201 := k56198.tr kk56201 (by decide)
                        show jEv _ _ _ _ _ _ _ (_, [(2, 42), (0, a1), (0, a2), (0, a3), (0, a4), (0, (400 * a1 + 4 * a2 + a3))], [(1, v56202)], _, _, _)
                        exact ev_ret rfl (by decide) (by decide) ⟨_, rfl, by omega, by omega, g56201, k56201⟩
                      · refine ev_ldc2_w ?_
                        exact ev_ret rfl (by decide) (by decide) ⟨_, rfl, by omega, by omega, g56190, k56190⟩
                    · refine ev_ldc2_w ?_
                      exact ev_ret rfl (by decide) (by decide) ⟨_, rfl, by omega, by omega, g56174, k56174⟩
set_option maxHeartbeats 4000000 in
theorem s308 {G : GH} {h : JH} (g : Gd G h) {a1 : Int} (la1 : (-2147483648) ≤ a1) (ua1 : a1 ≤ 2147483647) {a2 : Int} (la2 : (-2147483648) ≤ a2) (ua2 : a2 ≤ 2147483647) : jOk 101 0 0 308 [(2, 42), (0, a1), (0, a2)] h (PI G [(42, 41), (42, 42), (42, 43)] h 0 (-2147483648) 2147483647) := by
  refine ⟨by decide, by rw [ml308]; exact Nat.le_of_ble_eq_true rfl, ?_⟩
  rw [ml308, pp308]
  show jEv _ none _ c308_0 0 0 _ (c308_0, [(2, 42), (0, a1), (0, a2)], [], h, 0, 0)
  have k0 := Kp.rf [(42, 41), (42, 42), (42, 43)] h
  refine ev_aload_n rfl ?_
  refine ev_iload_n rfl ?_
  refine ev_in (d := 99) (a := 0) (b := 0) (cd' := c261_0) (m := 2) (L0 := [(2, 42), (0, a1)]) (jcall_v (A := [(0, a1)]) (S' := []) (r := 42) rfl (g.lt ad42) (g.tg ad42) (Nat.le_of_ble_eq_true rfl)) (by decide) ml261 pp261 (Nat.le_of_ble_eq_true rfl) rfl (by decide) (by decide) ?_
  refine ev_iload_n rfl ?_
  refine ev_iconst ?_
  refine ev_aload_n rfl ?_
  obtain ⟨v56235, ev56235, lv56235, uv56235⟩ := g.rd ad42 (show 9 < 66 by decide) rf42_9
  refine g_getv (r := 42) (v := v56235) g ad42 (by decide) ft12_9 ev56235 ?_
  refine ev_iconst ?_
  refine ev_isub (r := (v56235 - 1)) (by unfold w32; omega) ?_
  refine ev_in (d := 98) (a := 0) (b := 0) (cd' := c242_0) (m := 3) (L0 := [(0, a1), (0, 0), (0, (v56235 - 1))]) (jcall_s (A := [(0, (v56235 - 1)), (0, 0), (0, a1)]) (S' := []) (by decide) rfl (Nat.le_of_ble_eq_true rfl)) (by decide) ml242 pp242 (Nat.le_of_ble_eq_true rfl) rfl (by decide) (by decide) ?_
  refine ev_iload_n rfl ?_
  refine ev_iload_n rfl ?_
  refine ev_icmplt f242_14 (fun c56236 => ?_) (fun c56236 => ?_)
  · refine ev_iconst ?_
    refine ev_ret rfl (by decide) (by decide) ?_
    show jEv _ _ _ _ _ _ _ (_, [(2, 42), (0, a1)], [(0, 0)], _, _, _)
    refine ev_ret rfl (by decide) (by decide) ?_
    show jEv _ _ _ _ _ _ _ (_, [(2, 42), (0, a1), (0, a2)], [(0, 0)], _, _, _)
    refine ev_ifeq f308_13 (fun c56237 => ?_) (fun c56237 => absurd c56237 (by omega))
    refine ev_iconst ?_
    exact ev_ret rfl (by decide) (by decide) ⟨_, rfl, by omega, by omega, g, k0⟩
  · refine ev_iload_n rfl ?_
    refine ev_iload_n rfl ?_
    refine ev_icmpgt f242_14 (fun c56238 => ?_) (fun c56238 => ?_)
    · refine ev_iconst ?_
      refine ev_ret rfl (by decide) (by decide) ?_
      show jEv _ _ _ _ _ _ _ (_, [(2, 42), (0, a1)], [(0, 0)], _, _, _)
      refine ev_ret rfl (by decide) (by decide) ?_
      show jEv _ _ _ _ _ _ _ (_, [(2, 42), (0, a1), (0, a2)], [(0, 0)], _, _, _)
      refine ev_ifeq f308_13 (fun c56239 => ?_) (fun c56239 => absurd c56239 (by omega))
      refine ev_iconst ?_
      exact ev_ret rfl (by decide) (by decide) ⟨_, rfl, by omega, by omega, g, k0⟩
    · refine ev_iconst ?_
      refine ev_goto f242_15 ?_
      refine ev_ret rfl (by decide) (by decide) ?_
      show jEv _ _ _ _ _ _ _ (_, [(2, 42), (0, a1)], [(0, 1)], _, _, _)
      refine ev_ret rfl (by decide) (by decide) ?_
      show jEv _ _ _ _ _ _ _ (_, [(2, 42), (0, a1), (0, a2)], [(0, 1)], _, _, _)
      refine ev_ifeq f308_13 (fun c56240 => absurd c56240 (by omega)) (fun c56240 => ?_)
      refine ev_iload_n rfl ?_
      refine ev_iconst ?_
      refine ev_icmpge f308_15 (fun c56241 => ?_) (fun c56241 => ?_)
      · refine ev_aload_n rfl ?_
        refine ev_iconst ?_
        refine g_putf (r := 42) g ad42 (by decide) ft12_40 (by decide) (fun e => absurd e nz12_40) rf42_40 (by decide) (by omega) (by omega) (fun h56242 e56242 g56242 => ?_)
        have k56242 := k0.wr e56242 rfl
        refine ev_aload_n rfl ?_
        refine ev_iload_n rfl ?_
        refine g_putf (r := 42) g56242 ad42 (by decide) ft12_41 (by decide) (fun e => absurd e nz12_41) rf42_41 (by decide) (by omega) (by omega) (fun h56243 e56243 g56243 => ?_)
        have k56243 := k56242.wr e56243 rfl
        refine ev_aload_n rfl ?_
        refine ev_iload_n rfl ?_
        refine ev_iconst ?_
        obtain ⟨v56244, ev56244, lv56244, uv56244⟩ := g56243.rd ad48 (show (a1).toNat < 7 by omega) (rt48 _)
        have zv56244 := g56243.n48 (q := a1) (by omega) (by rw [(((jw_ne e56243 (Or.inr (by decide))).trans ((jw_ne e56242 (Or.inr (by decide))).trans ev56235)))]; omega) ev56244
        refine ev_call (jcall_v (A := [(0, 0), (0, a1)]) (S' := []) (r := 42) rfl (g56243.lt ad42) (g56243.tg ad42) (Nat.le_of_ble_eq_true rfl)) (jOk_le (by decide) (s307 g56243 (by omega) (by omega) (by omega) (by omega) (((jw_ne e56243 (Or.inr (by decide))).trans ((jw_ne e56242 (Or.inr (by decide))).trans ev56235))) (by omega) (by omega) ev56244 (by omega) (by omega) (by omega) (by omega))) (by decide) (by decide) (fun w56245 h56245 q56245 => ?_)
        obtain ⟨rfl, g56245, kk56245⟩ := q56245
        have k56245 := k56243.tr kk56245 (by decide)
        show jEv _ _ _ _ _ _ _ (_, [(2, 42), (0, a1), (0, a2)], [], _, _, _)
        refine ev_iload_n rfl ?_
        refine ev_ifge f308_42 (fun c56246 => ?_) (fun c56246 => ?_)
        · refine ev_iload_n rfl ?_
          refine ev_aload_n rfl ?_
          obtain ⟨v56247, ev56247, lv56247, uv56247⟩ := g56245.rd ad42 (show 40 < 66 by decide) rf42_40
          refine g_getv (r := 42) (v := v56247) g56245 ad42 (by decide) ft12_40 ev56247 ?_
          refine ev_icmpge f308_57 (fun c56248 => ?_) (fun c56248 => ?_)
          · refine ev_iconst ?_
            exact ev_ret rfl (by decide) (by decide) ⟨_, rfl, by omega, by omega, g56245, k56245⟩
          · refine ev_aload_n rfl ?_
            obtain ⟨v56249, ev56249, lv56249, uv56249⟩ := g56245.rd ad42 (show 42 < 66 by decide) rf42_42
            refine g_getv (r := 42) (v := v56249) g56245 ad42 (by decide) ft12_42 ev56249 ?_
            refine ev_goto f308_58 ?_
            exact ev_ret rfl (by decide) (by decide) ⟨_, rfl, by omega, by omega, g56245, k56245⟩
        · refine ev_aload_n rfl ?_
          obtain ⟨v56250, ev56250, lv56250, uv56250⟩ := g56245.rd ad42 (show 40 < 66 by decide) rf42_40
          refine g_getv (r := 42) (v := v56250) g56245 ad42 (by decide) ft12_40 ev56250 ?_
          refine ev_goto f308_58 ?_
          exact ev_ret rfl (by decide) (by decide) ⟨_, rfl, by omega, by omega, g56245, k56245⟩
      · refine ev_iconst ?_
        exact ev_ret rfl (by decide) (by decide) ⟨_, rfl, by omega, by omega, g, k0⟩
