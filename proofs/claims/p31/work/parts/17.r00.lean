set_option maxHeartbeats 4000000 in
theorem s256w_0_l {G : GH} {h : JH} (ew0 : h.2.2 42 1 = 0) : ∀ N : Nat, (∀ (h1 : JH) (x1 y0 y1 : Int) (j2 j3 : AV), Gd G h1 → Kp [(46, 0), (47, 0), (42, 6), (42, 9)] h h1 → 0 ≤ x1 → x1 ≤ 1 → h1.2.2 42 1 = y0 → 0 ≤ y0 → y0 ≤ 0 → h1.2.2 42 5 = y1 → 0 ≤ y1 → y1 ≤ 1 → (∀ s t : Nat, (s : Int) < x1 → (t : Int) < 0 → h1.2.2 46 (4 * s + t) < h1.2.2 43 t) → ((-x1) + 1) < N → jEv (jOk 3) none (fun _ => 0) c256_0 0 0 (fun v h' => PI G [(46, 0), (47, 0), (42, 6), (42, 9)] h 0 0 1 v h' ∧ ∀ r, v = some (0, r) → r ≠ 0 → Sw h') (c256_57, [(2, 42), (0, x1), j2, j3], [], h1, 0, 0)) := by
  intro N
  induction N with
  | zero => exact fun h1 x1 y0 y1 j2 j3 g1 k1 b0 b1 b2 b3 b4 b5 b6 b7 b8 hm => absurd hm (by omega)
  | succ N ih =>
    show _
    intro h1 x1 y0 y1 j2 j3 g1 k1 b0 b1 ey0 ly0 uy0 ey1 ly1 uy1 H0 hm
    refine ev_iload_n rfl ?_
    refine ev_aload_n rfl ?_
    refine g_getv (r := 42) (v := y1) g1 ad42 (by decide) ft12_5 (ey1) ?_
    refine ev_icmpge f256_127 (fun c54883 => ?_) (fun c54883 => ?_)
    · refine ev_iconst ?_
      exact ev_ret rfl (by decide) (by decide) ⟨⟨_, rfl, by omega, by omega, g1, k1⟩, fun r e n => fun s t hs ht => H0 s t (by rw [(ey1)] at hs; omega) (by rw [(ey0)] at ht; omega)⟩
    · refine ev_iload_n rfl ?_
      refine ev_istore_n (L' := [(2, 42), (0, x1), (0, x1), j3]) (Nat.le_of_ble_eq_true rfl) rfl ?_
      refine ev_iconst ?_
      refine ev_istore_n (L' := [(2, 42), (0, x1), (0, x1), (0, 0)]) (Nat.le_of_ble_eq_true rfl) rfl ?_
      refine ev_iload_n rfl ?_
      refine ev_aload_n rfl ?_
      refine g_getv (r := 42) (v := y0) g1 ad42 (by decide) ft12_1 (ey0) ?_
      refine ev_icmpge f256_110 (fun c54884 => ?_) (fun c54884 => absurd c54884 (by omega))
      refine ev_aload_n rfl ?_
      refine g_getp (r := 42) (c := 47) g1 ad42 (by decide) (by decide) rf42_7 ft12_7 ?_
      refine ev_iload_n rfl ?_
      refine ev_aload_n rfl ?_
      refine ev_iload_n rfl ?_
      refine ev_call (jcall_v (A := [(0, x1)]) (S' := [(0, x1), (2, 47)]) (r := 42) rfl (g1.lt ad42) (g1.tg ad42) (Nat.le_of_ble_eq_true rfl)) (jOk_le (by decide) (s255 g1 (by omega) (by omega))) (by decide) (by decide) (fun w54885 h54885 q54885 => ?_)
      obtain ⟨v54886, rfl, lv54886, uv54886, g54885, kk54885⟩ := q54885
      have k54885 := k1.tr kk54885 (by decide)
      show jEv _ _ _ _ _ _ _ (_, [(2, 42), (0, x1), (0, x1), (0, 0)], [(1, v54886), (0, x1), (2, 47)], _, _, _)
      refine g_last g54885 ad47 rt47 (fun _ => rfl) (by omega) (by omega) (by omega) (by omega) (fun h54887 e54887 g54887 => ?_)
      have k54887 := k54885.wr e54887 rfl
      refine ev_iinc (w := (x1 + 1)) (L' := [(2, 42), (0, (x1 + 1)), (0, x1), (0, 0)]) rfl (by unfold w32; omega) rfl ?_
      refine ev_goto f256_57 ?_
      exact ih _ _ _ _ _ _ g54887 k54887 (by omega) (by omega) (((jw_ne e54887 (Or.inl (by decide))).trans ((kk54885.v (by decide)).trans ey0))) (by omega) (by omega) (((jw_ne e54887 (Or.inl (by decide))).trans ((kk54885.v (by decide)).trans ey1))) (by omega) (by omega) (Sw_step H0 (fun i hi => by rw [jw_ne (k := 46) (j := i) e54887 (Or.inl (by decide)), kk54885.v (a := 46) (i := i) rfl]) (fun i => by rw [jw_ne (k := 43) (j := i) e54887 (Or.inl (by decide)), kk54885.v (a := 43) (i := i) rfl]) (by omega) (by decide) (fun t ht => by omega)) (by omega)
set_option maxHeartbeats 4000000 in
theorem s256w_0 {G : GH} {h : JH} (g : Gd G h) (ew0 : h.2.2 42 1 = 0) : jOk 4 0 0 256 [(2, 42)] h (fun v h' => PI G [(46, 0), (47, 0), (42, 6), (42, 9)] h 0 0 1 v h' ∧ ∀ r, v = some (0, r) → r ≠ 0 → Sw h') := by
  refine ⟨by decide, by rw [ml256]; exact Nat.le_of_ble_eq_true rfl, ?_⟩
  rw [ml256, pp256]
  show jEv _ none _ c256_0 0 0 _ (c256_0, [(2, 42), (9, 0), (9, 0), (9, 0)], [], h, 0, 0)
  have k0 := Kp.rf [(46, 0), (47, 0), (42, 6), (42, 9)] h
  refine ev_aload_n rfl ?_
  refine ev_aload_n rfl ?_
  refine ev_call (jcall_v (A := []) (S' := [(2, 42)]) (r := 42) rfl (g.lt ad42) (g.tg ad42) (Nat.le_of_ble_eq_true rfl)) (jOk_le (by decide) (s253 g )) (by decide) (by decide) (fun w54888 h54888 q54888 => ?_)
  obtain ⟨v54889, rfl, lv54889, uv54889, g54888, kk54888⟩ := q54888
  have k54888 := k0.tr kk54888 (by decide)
  show jEv _ _ _ _ _ _ _ (_, [(2, 42), (9, 0), (9, 0), (9, 0)], [(1, v54889), (2, 42)], _, _, _)
  refine g_putf (r := 42) g54888 ad42 (by decide) ft12_8 (by decide) (fun e => absurd e nz12_8) rf42_8 (by decide) (by omega) (by omega) (fun h54890 e54890 g54890 => ?_)
  have k54890 := k54888.wr e54890 rfl
  refine ev_aload_n rfl ?_
  refine g_getv (r := 42) (v := v54889) g54890 ad42 (by decide) ft12_8 ((jw_eq e54890)) ?_
  refine ev_lconst ?_
  refine ev_lcmp ?_
  refine ev_ifge f256_19 (fun c54891 => ?_) (fun c54891 => ?_)
  · have c54891b := jcmpL_ge c54891
    refine ev_aload_n rfl ?_
    refine ev_iconst ?_
    refine g_putf (r := 42) g54890 ad42 (by decide) ft12_5 (by decide) (fun e => absurd e nz12_5) rf42_5 (by decide) (by omega) (by omega) (fun h54892 e54892 g54892 => ?_)
    have k54892 := k54890.wr e54892 rfl
    refine ev_iconst ?_
    refine ev_istore_n (L' := [(2, 42), (0, 0), (9, 0), (9, 0)]) (Nat.le_of_ble_eq_true rfl) rfl ?_
    refine ev_iload_n rfl ?_
    refine ev_aload_n rfl ?_
    refine g_getv (r := 42) (v := 0) g54892 ad42 (by decide) ft12_1 (((jw_ne e54892 (Or.inr (by decide))).trans ((jw_ne e54890 (Or.inr (by decide))).trans ((kk54888.v (by decide)).trans ew0)))) ?_
    refine ev_icmpge f256_55 (fun c54893 => ?_) (fun c54893 => absurd c54893 (by omega))
    refine ev_iconst ?_
    refine ev_istore_n (L' := [(2, 42), (0, 0), (9, 0), (9, 0)]) (Nat.le_of_ble_eq_true rfl) rfl ?_
    exact (s256w_0_l ew0 4) _ _ _ _ _ _ g54892 k54892 (by omega) (by omega) (((jw_ne e54892 (Or.inr (by decide))).trans ((jw_ne e54890 (Or.inr (by decide))).trans ((kk54888.v (by decide)).trans ew0)))) (by omega) (by omega) ((jw_eq e54892)) (by omega) (by omega) (fun s t hs ht => by omega) (by omega)
  · have c54891b := jcmpL_geN c54891
    refine ev_iconst ?_
    exact ev_ret rfl (by decide) (by decide) ⟨⟨_, rfl, by omega, by omega, g54890, k54890⟩, fun r e n => by cases e; exact absurd rfl n⟩
set_option maxHeartbeats 4000000 in
theorem s256w_1_l {G : GH} {h : JH} (ew0 : h.2.2 42 1 = 1) : ∀ N : Nat, (∀ (h1 : JH) (x1 y0 y1 : Int) (j2 j3 : AV), Gd G h1 → Kp [(46, 0), (47, 0), (42, 6), (42, 9)] h h1 → 0 ≤ x1 → x1 ≤ 3 → h1.2.2 42 1 = y0 → 1 ≤ y0 → y0 ≤ 1 → h1.2.2 42 5 = y1 → 0 ≤ y1 → y1 ≤ 3 → (∀ s t : Nat, (s : Int) < x1 → (t : Int) < 1 → h1.2.2 46 (4 * s + t) < h1.2.2 43 t) → ((-x1) + 3) < N → jEv (jOk 3) none (fun _ => 0) c256_0 0 0 (fun v h' => PI G [(46, 0), (47, 0), (42, 6), (42, 9)] h 0 0 1 v h' ∧ ∀ r, v = some (0, r) → r ≠ 0 → Sw h') (c256_57, [(2, 42), (0, x1), j2, j3], [], h1, 0, 0)) := by
  intro N
  induction N with
  | zero => exact fun h1 x1 y0 y1 j2 j3 g1 k1 b0 b1 b2 b3 b4 b5 b6 b7 b8 hm => absurd hm (by omega)
  | succ N ih =>
    show _
    intro h1 x1 y0 y1 j2 j3 g1 k1 b0 b1 ey0 ly0 uy0 ey1 ly1 uy1 H0 hm
    refine ev_iload_n rfl ?_
    refine ev_aload_n rfl ?_
    refine g_getv (r := 42) (v := y1) g1 ad42 (by decide) ft12_5 (ey1) ?_
    refine ev_icmpge f256_127 (fun c54962 => ?_) (fun c54962 => ?_)
    · refine ev_iconst ?_
      exact ev_ret rfl (by decide) (by decide) ⟨⟨_, rfl, by omega, by omega, g1, k1⟩, fun r e n => fun s t hs ht => H0 s t (by rw [(ey1)] at hs; omega) (by rw [(ey0)] at ht; omega)⟩
    · refine ev_iload_n rfl ?_
      refine ev_istore_n (L' := [(2, 42), (0, x1), (0, x1), j3]) (Nat.le_of_ble_eq_true rfl) rfl ?_
      refine ev_iconst ?_
      refine ev_istore_n (L' := [(2, 42), (0, x1), (0, x1), (0, 0)]) (Nat.le_of_ble_eq_true rfl) rfl ?_
      refine ev_iload_n rfl ?_
      refine ev_aload_n rfl ?_
      refine g_getv (r := 42) (v := y0) g1 ad42 (by decide) ft12_1 (ey0) ?_
      refine ev_icmpge f256_110 (fun c54963 => absurd c54963 (by omega)) (fun c54963 => ?_)
      refine ev_aload_n rfl ?_
      refine g_getp (r := 42) (c := 46) g1 ad42 (by decide) (by decide) rf42_6 ft12_6 ?_
      refine ev_iconst ?_
      refine ev_iload_n rfl ?_
      refine ev_imul (r := (4 * x1)) (by unfold w32; omega) ?_
      refine ev_iload_n rfl ?_
      refine ev_iadd (r := (4 * x1)) (by unfold w32; omega) ?_
      refine ev_iload_n rfl ?_
      refine ev_aload_n rfl ?_
      refine g_getp (r := 42) (c := 43) g1 ad42 (by decide) (by decide) rf42_2 ft12_2 ?_
      refine ev_iload_n rfl ?_
      refine g_iald g1 ad43 rt43 (by omega) (by omega) (fun v54964 ev54964 lv54964 uv54964 => ?_)
      have xv54964 := (g1.ex.2.1 (0 : Int).toNat (by rw [(ey0)]; omega))
      rw [ev54964] at xv54964
      refine g_iremQ (by omega) (by omega) (fun v54965 ev54965 lv54965 uv54965 wv54965 => ?_)
      refine g_iast g1 ad46 rt46 (fun _ => rfl) (by omega) (by omega) (by omega) (by omega) (fun h54966 e54966 g54966 => ?_)
      have k54966 := k1.wr e54966 rfl
      refine ev_iload_n rfl ?_
      refine ev_aload_n rfl ?_
      refine g_getp (r := 42) (c := 43) g54966 ad42 (by decide) (by decide) rf42_2 ft12_2 ?_
      refine ev_iload_n rfl ?_
      refine g_ialdv (v := v54964) g54966 ad43 (by omega) (by omega) (((jw_ne e54966 (Or.inl (by decide))).trans ev54964)) ?_
      refine g_idivM (by omega) (by omega) (by omega) (fun v54967 ev54967 lv54967 uv54967 => ?_)
      refine ev_istore_n (L' := [(2, 42), (0, x1), (0, v54967), (0, 0)]) (Nat.le_of_ble_eq_true rfl) rfl ?_
      refine ev_iinc (w := 1) (L' := [(2, 42), (0, x1), (0, v54967), (0, 1)]) rfl (by decide) rfl ?_
      refine ev_goto f256_69 ?_
      refine ev_iload_n rfl ?_
      refine ev_aload_n rfl ?_
      refine g_getv (r := 42) (v := y0) g54966 ad42 (by decide) ft12_1 (((jw_ne e54966 (Or.inl (by decide))).trans ey0)) ?_
      refine ev_icmpge f256_110 (fun c54968 => ?_) (fun c54968 => absurd c54968 (by omega))
      refine ev_aload_n rfl ?_
      refine g_getp (r := 42) (c := 47) g54966 ad42 (by decide) (by decide) rf42_7 ft12_7 ?_
      refine ev_iload_n rfl ?_
      refine ev_aload_n rfl ?_
      refine ev_iload_n rfl ?_
      refine ev_call (jcall_v (A := [(0, x1)]) (S' := [(0, x1), (2, 47)]) (r := 42) rfl (g54966.lt ad42) (g54966.tg ad42) (Nat.le_of_ble_eq_true rfl)) (jOk_le (by decide) (s255 g54966 (by omega) (by omega))) (by decide) (by decide) (fun w54969 h54969 q54969 => ?_)
      obtain ⟨v54970, rfl, lv54970, uv54970, g54969, kk54969⟩ := q54969
      have k54969 := k54966.tr kk54969 (by decide)
      show jEv _ _ _ _ _ _ _ (_, [(2, 42), (0, x1), (0, v54967), (0, 1)], [(1, v54970), (0, x1), (2, 47)], _, _, _)
      refine g_last g54969 ad47 rt47 (fun _ => rfl) (by omega) (by omega) (by omega) (by omega) (fun h54971 e54971 g54971 => ?_)
      have k54971 := k54969.wr e54971 rfl
      refine ev_iinc (w := (x1 + 1)) (L' := [(2, 42), (0, (x1 + 1)), (0, v54967), (0, 1)]) rfl (by unfold w32; omega) rfl ?_
      refine ev_goto f256_57 ?_
      exact ih _ _ _ _ _ _ g54971 k54971 (by omega) (by omega) (((jw_ne e54971 (Or.inl (by decide))).trans ((kk54969.v (by decide)).trans ((jw_ne e54966 (Or.inl (by decide))).trans ey0)))) (by omega) (by omega) (((jw_ne e54971 (Or.inl (by decide))).trans ((kk54969.v (by decide)).trans ((jw_ne e54966 (Or.inl (by decide))).trans ey1)))) (by omega) (by omega) (Sw_step H0 (fun i hi => by rw [jw_ne (k := 46) (j := i) e54971 (Or.inl (by decide)), kk54969.v (a := 46) (i := i) rfl, jw_ne (k := 46) (j := i) e54966 (Or.inr (by omega))]) (fun i => by rw [jw_ne (k := 43) (j := i) e54971 (Or.inl (by decide)), kk54969.v (a := 43) (i := i) rfl, jw_ne (k := 43) (j := i) e54966 (Or.inl (by decide))]) (by omega) (by decide) (fun t ht => by rcases (show t = 0 by omega) with r <;> subst r <;> first | exact lt_eq ((congrArg (fun z => h54971.2.2 46 (Int.toNat z)) (show 4 * x1 + ((0 : Nat) : Int) = 4 * x1 by omega)).trans (((jw_ne e54971 (Or.inl (by decide))).trans ((kk54969.v rfl).trans (jw_eq e54966))))) (((jw_ne e54971 (Or.inl (by decide))).trans ((kk54969.v (by decide)).trans ((jw_ne e54966 (Or.inl (by decide))).trans ev54964)))) (by omega))) (by omega)
set_option maxHeartbeats 4000000 in
theorem s256w_1 {G : GH} {h : JH} (g : Gd G h) (ew0 : h.2.2 42 1 = 1) : jOk 4 0 0 256 [(2, 42)] h (fun v h' => PI G [(46, 0), (47, 0), (42, 6), (42, 9)] h 0 0 1 v h' ∧ ∀ r, v = some (0, r) → r ≠ 0 → Sw h') := by
  refine ⟨by decide, by rw [ml256]; exact Nat.le_of_ble_eq_true rfl, ?_⟩
  rw [ml256, pp256]
  show jEv _ none _ c256_0 0 0 _ (c256_0, [(2, 42), (9, 0), (9, 0), (9, 0)], [], h, 0, 0)
  have k0 := Kp.rf [(46, 0), (47, 0), (42, 6), (42, 9)] h
  refine ev_aload_n rfl ?_
  refine ev_aload_n rfl ?_
  refine ev_call (jcall_v (A := []) (S' := [(2, 42)]) (r := 42) rfl (g.lt ad42) (g.tg ad42) (Nat.le_of_ble_eq_true rfl)) (jOk_le (by decide) (s253 g )) (by decide) (by decide) (fun w54972 h54972 q54972 => ?_)
  obtain ⟨v54973, rfl, lv54973, uv54973, g54972, kk54972⟩ := q54972
  have k54972 := k0.tr kk54972 (by decide)
  show jEv _ _ _ _ _ _ _ (_, [(2, 42), (9, 0), (9, 0), (9, 0)], [(1, v54973), (2, 42)], _, _, _)
  refine g_putf (r := 42) g54972 ad42 (by decide) ft12_8 (by decide) (fun e => absurd e nz12_8) rf42_8 (by decide) (by omega) (by omega) (fun h54974 e54974 g54974 => ?_)
  have k54974 := k54972.wr e54974 rfl
  refine ev_aload_n rfl ?_
  refine g_getv (r := 42) (v := v54973) g54974 ad42 (by decide) ft12_8 ((jw_eq e54974)) ?_
  refine ev_lconst ?_
  refine ev_lcmp ?_
  refine ev_ifge f256_19 (fun c54975 => ?_) (fun c54975 => ?_)
  · have c54975b := jcmpL_ge c54975
    refine ev_aload_n rfl ?_
    refine ev_iconst ?_
    refine g_putf (r := 42) g54974 ad42 (by decide) ft12_5 (by decide) (fun e => absurd e nz12_5) rf42_5 (by decide) (by omega) (by omega) (fun h54976 e54976 g54976 => ?_)
    have k54976 := k54974.wr e54976 rfl
    refine ev_iconst ?_
    refine ev_istore_n (L' := [(2, 42), (0, 0), (9, 0), (9, 0)]) (Nat.le_of_ble_eq_true rfl) rfl ?_
    refine ev_iload_n rfl ?_
    refine ev_aload_n rfl ?_
    refine g_getv (r := 42) (v := 1) g54976 ad42 (by decide) ft12_1 (((jw_ne e54976 (Or.inr (by decide))).trans ((jw_ne e54974 (Or.inr (by decide))).trans ((kk54972.v (by decide)).trans ew0)))) ?_
    refine ev_icmpge f256_55 (fun c54977 => absurd c54977 (by omega)) (fun c54977 => ?_)
    refine ev_aload_n rfl ?_
    refine ev_dup (by decide) ?_
    refine g_getv (r := 42) (v := 1) g54976 ad42 (by decide) ft12_5 ((jw_eq e54976)) ?_
    refine ev_aload_n rfl ?_
    refine g_getp (r := 42) (c := 43) g54976 ad42 (by decide) (by decide) rf42_2 ft12_2 ?_
    refine ev_iload_n rfl ?_
    refine g_iald g54976 ad43 rt43 (by omega) (by omega) (fun v54978 ev54978 lv54978 uv54978 => ?_)
    have xv54978 := (g54976.ex.2.1 (0 : Int).toNat (by rw [(((jw_ne e54976 (Or.inr (by decide))).trans ((jw_ne e54974 (Or.inr (by decide))).trans ((kk54972.v (by decide)).trans ew0))))]; omega))
    rw [ev54978] at xv54978
    refine ev_imul (r := v54978) (by unfold w32; omega) ?_
    refine g_putf (r := 42) g54976 ad42 (by decide) ft12_5 (by decide) (fun e => absurd e nz12_5) rf42_5 (by decide) (by omega) (by omega) (fun h54979 e54979 g54979 => ?_)
    have k54979 := k54976.wr e54979 rfl
    refine ev_iinc (w := 1) (L' := [(2, 42), (0, 1), (9, 0), (9, 0)]) rfl (by decide) rfl ?_
    refine ev_goto f256_26 ?_
    refine ev_iload_n rfl ?_
    refine ev_aload_n rfl ?_
    refine g_getv (r := 42) (v := 1) g54979 ad42 (by decide) ft12_1 (((jw_ne e54979 (Or.inr (by decide))).trans ((jw_ne e54976 (Or.inr (by decide))).trans ((jw_ne e54974 (Or.inr (by decide))).trans ((kk54972.v (by decide)).trans ew0))))) ?_
    refine ev_icmpge f256_55 (fun c54980 => ?_) (fun c54980 => absurd c54980 (by omega))
    refine ev_iconst ?_
    refine ev_istore_n (L' := [(2, 42), (0, 0), (9, 0), (9, 0)]) (Nat.le_of_ble_eq_true rfl) rfl ?_
    exact (s256w_1_l ew0 8) _ _ _ _ _ _ g54979 k54979 (by omega) (by omega) (((jw_ne e54979 (Or.inr (by decide))).trans ((jw_ne e54976 (Or.inr (by decide))).trans ((jw_ne e54974 (Or.inr (by decide))).trans ((kk54972.v (by decide)).trans ew0))))) (by omega) (by omega) ((jw_eq e54979)) (by omega) (by omega) (fun s t hs ht => by omega) (by omega)
  · have c54975b := jcmpL_geN c54975
    refine ev_iconst ?_
    exact ev_ret rfl (by decide) (by decide) ⟨⟨_, rfl, by omega, by omega, g54974, k54974⟩, fun r e n => by cases e; exact absurd rfl n⟩
set_option maxHeartbeats 4000000 in
theorem s256w_2_l {G : GH} {h : JH} (ew0 : h.2.2 42 1 = 2) : ∀ N : Nat, (∀ (h1 : JH) (x1 y0 y1 : Int) (j2 j3 : AV), Gd G h1 → Kp [(46, 0), (47, 0), (42, 6), (42, 9)] h h1 → 0 ≤ x1 → x1 ≤ 9 → h1.2.2 42 1 = y0 → 2 ≤ y0 → y0 ≤ 2 → h1.2.2 42 5 = y1 → 0 ≤ y1 → y1 ≤ 9 → (∀ s t : Nat, (s : Int) < x1 → (t : Int) < 2 → h1.2.2 46 (4 * s + t) < h1.2.2 43 t) → ((-x1) + 9) < N → jEv (jOk 3) none (fun _ => 0) c256_0 0 0 (fun v h' => PI G [(46, 0), (47, 0), (42, 6), (42, 9)] h 0 0 1 v h' ∧ ∀ r, v = some (0, r) → r ≠ 0 → Sw h') (c256_57, [(2, 42), (0, x1), j2, j3], [], h1, 0, 0)) := by
  intro N
  induction N with
  | zero => exact fun h1 x1 y0 y1 j2 j3 g1 k1 b0 b1 b2 b3 b4 b5 b6 b7 b8 hm => absurd hm (by omega)
  | succ N ih =>
    show _
    intro h1 x1 y0 y1 j2 j3 g1 k1 b0 b1 ey0 ly0 uy0 ey1 ly1 uy1 H0 hm
    refine ev_iload_n rfl ?_
    refine ev_aload_n rfl ?_
    refine g_getv (r := 42) (v := y1) g1 ad42 (by decide) ft12_5 (ey1) ?_
    refine ev_icmpge f256_127 (fun c55172 => ?_) (fun c55172 => ?_)
    · refine ev_iconst ?_
      exact ev_ret rfl (by decide) (by decide) ⟨⟨_, rfl, by omega, by omega, g1, k1⟩, fun r e n => fun s t hs ht => H0 s t (by rw [(ey1)] at hs; omega) (by rw [(ey0)] at ht; omega)⟩
    · refine ev_iload_n rfl ?_
      refine ev_istore_n (L' := [(2, 42), (0, x1), (0, x1), j3]) (Nat.le_of_ble_eq_true rfl) rfl ?_
      refine ev_iconst ?_
      refine ev_istore_n (L' := [(2, 42), (0, x1), (0, x1), (0, 0)]) (Nat.le_of_ble_eq_true rfl) rfl ?_
      refine ev_iload_n rfl ?_
      refine ev_aload_n rfl ?_
      refine g_getv (r := 42) (v := y0) g1 ad42 (by decide) ft12_1 (ey0) ?_
      refine ev_icmpge f256_110 (fun c55173 => absurd c55173 (by omega)) (fun c55173 => ?_)
      refine ev_aload_n rfl ?_
      refine g_getp (r := 42) (c := 46) g1 ad42 (by decide) (by decide) rf42_6 ft12_6 ?_
      refine ev_iconst ?_
      refine ev_iload_n rfl ?_
      refine ev_imul (r := (4 * x1)) (by unfold w32; omega) ?_
      refine ev_iload_n rfl ?_
      refine ev_iadd (r := (4 * x1)) (by unfold w32; omega) ?_
      refine ev_iload_n rfl ?_
      refine ev_aload_n rfl ?_
      refine g_getp (r := 42) (c := 43) g1 ad42 (by decide) (by decide) rf42_2 ft12_2 ?_
      refine ev_iload_n rfl ?_
      refine g_iald g1 ad43 rt43 (by omega) (by omega) (fun v55174 ev55174 lv55174 uv55174 => ?_)
      have xv55174 := (g1.ex.2.1 (0 : Int).toNat (by rw [(ey0)]; omega))
      rw [ev55174] at xv55174
      refine g_iremQ (by omega) (by omega) (fun v55175 ev55175 lv55175 uv55175 wv55175 => ?_)
      refine g_iast g1 ad46 rt46 (fun _ => rfl) (by omega) (by omega) (by omega) (by omega) (fun h55176 e55176 g55176 => ?_)
      have k55176 := k1.wr e55176 rfl
      refine ev_iload_n rfl ?_
      refine ev_aload_n rfl ?_
      refine g_getp (r := 42) (c := 43) g55176 ad42 (by decide) (by decide) rf42_2 ft12_2 ?_
      refine ev_iload_n rfl ?_
      refine g_ialdv (v := v55174) g55176 ad43 (by omega) (by omega) (((jw_ne e55176 (Or.inl (by decide))).trans ev55174)) ?_
      refine g_idivM (by omega) (by omega) (by omega) (fun v55177 ev55177 lv55177 uv55177 => ?_)
      refine ev_istore_n (L' := [(2, 42), (0, x1), (0, v55177), (0, 0)]) (Nat.le_of_ble_eq_true rfl) rfl ?_
      refine ev_iinc (w := 1) (L' := [(2, 42), (0, x1), (0, v55177), (0, 1)]) rfl (by decide) rfl ?_
      refine ev_goto f256_69 ?_
      refine ev_iload_n rfl ?_
      refine ev_aload_n rfl ?_
      refine g_getv (r := 42) (v := y0) g55176 ad42 (by decide) ft12_1 (((jw_ne e55176 (Or.inl (by decide))).trans ey0)) ?_
      refine ev_icmpge f256_110 (fun c55178 => absurd c55178 (by omega)) (fun c55178 => ?_)
      refine ev_aload_n rfl ?_
      refine g_getp (r := 42) (c := 46) g55176 ad42 (by decide) (by decide) rf42_6 ft12_6 ?_
      refine ev_iconst ?_
      refine ev_iload_n rfl ?_
      refine ev_imul (r := (4 * x1)) (by unfold w32; omega) ?_
      refine ev_iload_n rfl ?_
      refine ev_iadd (r := (4 * x1 + 1)) (by unfold w32; omega) ?_
      refine ev_iload_n rfl ?_
      refine ev_aload_n rfl ?_
      refine g_getp (r := 42) (c := 43) g55176 ad42 (by decide) (by decide) rf42_2 ft12_2 ?_
      refine ev_iload_n rfl ?_
      refine g_iald g55176 ad43 rt43 (by omega) (by omega) (fun v55179 ev55179 lv55179 uv55179 => ?_)
      have xv55179 := (g55176.ex.2.1 (1 : Int).toNat (by rw [(((jw_ne e55176 (Or.inl (by decide))).trans ey0))]; omega))
      rw [ev55179] at xv55179
      refine g_iremQ (by omega) (by omega) (fun v55180 ev55180 lv55180 uv55180 wv55180 => ?_)
      refine g_iast g55176 ad46 rt46 (fun _ => rfl) (by omega) (by omega) (by omega) (by omega) (fun h55181 e55181 g55181 => ?_)
      have k55181 := k55176.wr e55181 rfl
      refine ev_iload_n rfl ?_
      refine ev_aload_n rfl ?_
      refine g_getp (r := 42) (c := 43) g55181 ad42 (by decide) (by decide) rf42_2 ft12_2 ?_
      refine ev_iload_n rfl ?_
      refine g_ialdv (v := v55179) g55181 ad43 (by omega) (by omega) (((jw_ne e55181 (Or.inl (by decide))).trans ev55179)) ?_
      refine g_idivM (by omega) (by omega) (by omega) (fun v55182 ev55182 lv55182 uv55182 => ?_)
      refine ev_istore_n (L' := [(2, 42), (0, x1), (0, v55182), (0, 1)]) (Nat.le_of_ble_eq_true rfl) rfl ?_
      refine ev_iinc (w := 2) (L' := [(2, 42), (0, x1), (0, v55182), (0, 2)]) rfl (by decide) rfl ?_
      refine ev_goto f256_69 ?_
      refine ev_iload_n rfl ?_
      refine ev_aload_n rfl ?_
      refine g_getv (r := 42) (v := y0) g55181 ad42 (by decide) ft12_1 (((jw_ne e55181 (Or.inl (by decide))).trans ((jw_ne e55176 (Or.inl (by decide))).trans ey0))) ?_
      refine ev_icmpge f256_110 (fun c55183 => ?_) (fun c55183 => absurd c55183 (by omega))
      refine ev_aload_n rfl ?_
      refine g_getp (r := 42) (c := 47) g55181 ad42 (by decide) (by decide) rf42_7 ft12_7 ?_
      refine ev_iload_n rfl ?_
      refine ev_aload_n rfl ?_
      refine ev_iload_n rfl ?_
      refine ev_call (jcall_v (A := [(0, x1)]) (S' := [(0, x1), (2, 47)]) (r := 42) rfl (g55181.lt ad42) (g55181.tg ad42) (Nat.le_of_ble_eq_true rfl)) (jOk_le (by decide) (s255 g55181 (by omega) (by omega))) (by decide) (by decide) (fun w55184 h55184 q55184 => ?_)
      obtain ⟨v55185, rfl, lv55185, uv55185, g55184, kk55184⟩ := q55184
      have k55184 := k55181.tr kk55184 (by decide)
      show jEv _ _ _ _ _ _ _ (_, [(2, 42), (0, x1), (0, v55182), (0, 2)], [(1, v55185), (0, x1), (2, 47)], _, _, _)
      refine g_last g55184 ad47 rt47 (fun _ => rfl) (by omega) (by omega) (by omega) (by omega) (fun h55186 e55186 g55186 => ?_)
      have k55186 := k55184.wr e55186 rfl
      refine ev_iinc (w := (x1 + 1)) (L' := [(2, 42), (0, (x1 + 1)), (0, v55182), (0, 2)]) rfl (by unfold w32; omega) rfl ?_
      refine ev_goto f256_57 ?_
      exact ih _ _ _ _ _ _ g55186 k55186 (by omega) (by omega) (((jw_ne e55186 (Or.inl (by decide))).trans ((kk55184.v (by decide)).trans ((jw_ne e55181 (Or.inl (by decide))).trans ((jw_ne e55176 (Or.inl (by decide))).trans ey0))))) (by omega) (by omega) (((jw_ne e55186 (Or.inl (by decide))).trans ((kk55184.v (by decide)).trans ((jw_ne e55181 (Or.inl (by decide))).trans ((jw_ne e55176 (Or.inl (by decide))).trans ey1))))) (by omega) (by omega) (Sw_step H0 (fun i hi => by rw [jw_ne (k := 46) (j := i) e55186 (Or.inl (by decide)), kk55184.v (a := 46) (i := i) rfl, jw_ne (k := 46) (j := i) e55181 (Or.inr (by omega)), jw_ne (k := 46) (j := i) e55176 (Or.inr (by omega))]) (fun i => by rw [jw_ne (k := 43) (j := i) e55186 (Or.inl (by decide)), kk55184.v (a := 43) (i := i) rfl, jw_ne (k := 43) (j := i) e55181 (Or.inl (by decide)), jw_ne (k := 43) (j := i) e55176 (Or.inl (by decide))]) (by omega) (by decide) (fun t ht => by rcases (show t = 0 ∨ t = 1 by omega) with r | r <;> subst r <;> first | exact lt_eq ((congrArg (fun z => h55186.2.2 46 (Int.toNat z)) (show 4 * x1 + ((0 : Nat) : Int) = 4 * x1 by omega)).trans (((jw_ne e55186 (Or.inl (by decide))).trans ((kk55184.v rfl).trans ((jw_ne e55181 (Or.inr (by omega))).trans (jw_eq e55176)))))) (((jw_ne e55186 (Or.inl (by decide))).trans ((kk55184.v (by decide)).trans ((jw_ne e55181 (Or.inl (by decide))).trans ((jw_ne e55176 (Or.inl (by decide))).trans ev55174))))) (by omega) | exact lt_eq (((jw_ne e55186 (Or.inl (by decide))).trans ((kk55184.v rfl).trans (jw_eq e55181)))) (((jw_ne e55186 (Or.inl (by decide))).trans ((kk55184.v (by decide)).trans ((jw_ne e55181 (Or.inl (by decide))).trans ev55179)))) (by omega))) (by omega)
set_option maxHeartbeats 4000000 in
theorem s256w_2 {G : GH} {h : JH} (g : Gd G h) (ew0 : h.2.2 42 1 = 2) : jOk 4 0 0 256 [(2, 42)] h (fun v h' => PI G [(46, 0), (47, 0), (42, 6), (42, 9)] h 0 0 1 v h' ∧ ∀ r, v = some (0, r) → r ≠ 0 → Sw h') := by
  refine ⟨by decide, by rw [ml256]; exact Nat.le_of_ble_eq_true rfl, ?_⟩
  rw [ml256, pp256]
  show jEv _ none _ c256_0 0 0 _ (c256_0, [(2, 42), (9, 0), (9, 0), (9, 0)], [], h, 0, 0)
  have k0 := Kp.rf [(46, 0), (47, 0), (42, 6), (42, 9)] h
  refine ev_aload_n rfl ?_
  refine ev_aload_n rfl ?_
  refine ev_call (jcall_v (A := []) (S' := [(2, 42)]) (r := 42) rfl (g.lt ad42) (g.tg ad42) (Nat.le_of_ble_eq_true rfl)) (jOk_le (by decide) (s253 g )) (by decide) (by decide) (fun w55187 h55187 q55187 => ?_)
  obtain ⟨v55188, rfl, lv55188, uv55188, g55187, kk55187⟩ := q55187
  have k55187 := k0.tr kk55187 (by decide)
  show jEv _ _ _ _ _ _ _ (_, [(2, 42), (9, 0), (9, 0), (9, 0)], [(1, v55188), (2, 42)], _, _, _)
  refine g_putf (r := 42) g55187 ad42 (by decide) ft12_8 (by decide) (fun e => absurd e nz12_8) rf42_8 (by decide) (by omega) (by omega) (fun h55189 e55189 g55189 => ?_)
  have k55189 := k55187.wr e55189 rfl
  refine ev_aload_n rfl ?_
  refine g_getv (r := 42) (v := v55188) g55189 ad42 (by decide) ft12_8 ((jw_eq e55189)) ?_
  refine ev_lconst ?_
  refine ev_lcmp ?_
  refine ev_ifge f256_19 (fun c55190 => ?_) (fun c55190 => ?_)
  · have c55190b := jcmpL_ge c55190
    refine ev_aload_n rfl ?_
    refine ev_iconst ?_
    refine g_putf (r := 42) g55189 ad42 (by decide) ft12_5 (by decide) (fun e => absurd e nz12_5) rf42_5 (by decide) (by omega) (by omega) (fun h55191 e55191 g55191 => ?_)
    have k55191 := k55189.wr e55191 rfl
    refine ev_iconst ?_
    refine ev_istore_n (L' := [(2, 42), (0, 0), (9, 0), (9, 0)]) (Nat.le_of_ble_eq_true rfl) rfl ?_
    refine ev_iload_n rfl ?_
    refine ev_aload_n rfl ?_
    refine g_getv (r := 42) (v := 2) g55191 ad42 (by decide) ft12_1 (((jw_ne e55191 (Or.inr (by decide))).trans ((jw_ne e55189 (Or.inr (by decide))).trans ((kk55187.v (by decide)).trans ew0)))) ?_
    refine ev_icmpge f256_55 (fun c55192 => absurd c55192 (by omega)) (fun c55192 => ?_)
    refine ev_aload_n rfl ?_
    refine ev_dup (by decide) ?_
    refine g_getv (r := 42) (v := 1) g55191 ad42 (by decide) ft12_5 ((jw_eq e55191)) ?_
    refine ev_aload_n rfl ?_
    refine g_getp (r := 42) (c := 43) g55191 ad42 (by decide) (by decide) rf42_2 ft12_2 ?_
    refine ev_iload_n rfl ?_
    refine g_iald g55191 ad43 rt43 (by omega) (by omega) (fun v55193 ev55193 lv55193 uv55193 => ?_)
    have xv55193 := (g55191.ex.2.1 (0 : Int).toNat (by rw [(((jw_ne e55191 (Or.inr (by decide))).trans ((jw_ne e55189 (Or.inr (by decide))).trans ((kk55187.v (by decide)).trans ew0))))]; omega))
    rw [ev55193] at xv55193
    refine ev_imul (r := v55193) (by unfold w32; omega) ?_
    refine g_putf (r := 42) g55191 ad42 (by decide) ft12_5 (by decide) (fun e => absurd e nz12_5) rf42_5 (by decide) (by omega) (by omega) (fun h55194 e55194 g55194 => ?_)
    have k55194 := k55191.wr e55194 rfl
    refine ev_iinc (w := 1) (L' := [(2, 42), (0, 1), (9, 0), (9, 0)]) rfl (by decide) rfl ?_
    refine ev_goto f256_26 ?_
    refine ev_iload_n rfl ?_
    refine ev_aload_n rfl ?_
    refine g_getv (r := 42) (v := 2) g55194 ad42 (by decide) ft12_1 (((jw_ne e55194 (Or.inr (by decide))).trans ((jw_ne e55191 (Or.inr (by decide))).trans ((jw_ne e55189 (Or.inr (by decide))).trans ((kk55187.v (by decide)).trans ew0))))) ?_
    refine ev_icmpge f256_55 (fun c55195 => absurd c55195 (by omega)) (fun c55195 => ?_)
    refine ev_aload_n rfl ?_
    refine ev_dup (by decide) ?_
    refine g_getv (r := 42) (v := v55193) g55194 ad42 (by decide) ft12_5 ((jw_eq e55194)) ?_
    refine ev_aload_n rfl ?_
    refine g_getp (r := 42) (c := 43) g55194 ad42 (by decide) (by decide) rf42_2 ft12_2 ?_
    refine ev_iload_n rfl ?_
    refine g_iald g55194 ad43 rt43 (by omega) (by omega) (fun v55196 ev55196 lv55196 uv55196 => ?_)
    have xv55196 := (g55194.ex.2.1 (1 : Int).toNat (by rw [(((jw_ne e55194 (Or.inr (by decide))).trans ((jw_ne e55191 (Or.inr (by decide))).trans ((jw_ne e55189 (Or.inr (by decide))).trans ((kk55187.v (by decide)).trans ew0)))))]; omega))
    rw [ev55196] at xv55196
    refine g_imulB (a := 3) (b := 3) (a' := 2) (b' := 2) (by omega) (by omega) (by omega) (by omega) (by decide) (lo := 4) (hi := 9) (by decide) (by decide) (fun v55197 ev55197 lv55197 uv55197 => ?_)
    refine g_putf (r := 42) g55194 ad42 (by decide) ft12_5 (by decide) (fun e => absurd e nz12_5) rf42_5 (by decide) (by omega) (by omega) (fun h55198 e55198 g55198 => ?_)
    have k55198 := k55194.wr e55198 rfl
    refine ev_iinc (w := 2) (L' := [(2, 42), (0, 2), (9, 0), (9, 0)]) rfl (by decide) rfl ?_
    refine ev_goto f256_26 ?_
    refine ev_iload_n rfl ?_
    refine ev_aload_n rfl ?_
    refine g_getv (r := 42) (v := 2) g55198 ad42 (by decide) ft12_1 (((jw_ne e55198 (Or.inr (by decide))).trans ((jw_ne e55194 (Or.inr (by decide))).trans ((jw_ne e55191 (Or.inr (by decide))).trans ((jw_ne e55189 (Or.inr (by decide))).trans ((kk55187.v (by decide)).trans ew0)))))) ?_
    refine ev_icmpge f256_55 (fun c55199 => ?_) (fun c55199 => absurd c55199 (by omega))
    refine ev_iconst ?_
    refine ev_istore_n (L' := [(2, 42), (0, 0), (9, 0), (9, 0)]) (Nat.le_of_ble_eq_true rfl) rfl ?_
    exact (s256w_2_l ew0 20) _ _ _ _ _ _ g55198 k55198 (by omega) (by omega) (((jw_ne e55198 (Or.inr (by decide))).trans ((jw_ne e55194 (Or.inr (by decide))).trans ((jw_ne e55191 (Or.inr (by decide))).trans ((jw_ne e55189 (Or.inr (by decide))).trans ((kk55187.v (by decide)).trans ew0)))))) (by omega) (by omega) ((jw_eq e55198)) (by omega) (by omega) (fun s t hs ht => by omega) (by omega)
  · have c55190b := jcmpL_geN c55190
    refine ev_iconst ?_
    exact ev_ret rfl (by decide) (by decide) ⟨⟨_, rfl, by omega, by omega, g55189, k55189⟩, fun r e n => by cases e; exact absurd rfl n⟩
set_option maxHeartbeats 4000000 in
theorem s256w_3_l {G : GH} {h : JH} (ew0 : h.2.2 42 1 = 3) : ∀ N : Nat, (∀ (h1 : JH) (x1 y0 y1 : Int) (j2 j3 : AV), Gd G h1 → Kp [(46, 0), (47, 0), (42, 6), (42, 9)] h h1 → 0 ≤ x1 → x1 ≤ 27 → h1.2.2 42 1 = y0 → 3 ≤ y0 → y0 ≤ 3 → h1.2.2 42 5 = y1 → 0 ≤ y1 → y1 ≤ 27 → (∀ s t : Nat, (s : Int) < x1 → (t : Int) < 3 → h1.2.2 46 (4 * s + t) < h1.2.2 43 t) → ((-x1) + 27) < N → jEv (jOk 3) none (fun _ => 0) c256_0 0 0 (fun v h' => PI G [(46, 0), (47, 0), (42, 6), (42, 9)] h 0 0 1 v h' ∧ ∀ r, v = some (0, r) → r ≠ 0 → Sw h') (c256_57, [(2, 42), (0, x1), j2, j3], [], h1, 0, 0)) := by
  intro N
  induction N with
  | zero => exact fun h1 x1 y0 y1 j2 j3 g1 k1 b0 b1 b2 b3 b4 b5 b6 b7 b8 hm => absurd hm (by omega)
  | succ N ih =>
    show _
    intro h1 x1 y0 y1 j2 j3 g1 k1 b0 b1 ey0 ly0 uy0 ey1 ly1 uy1 H0 hm
    refine ev_iload_n rfl ?_
    refine ev_aload_n rfl ?_
    refine g_getv (r := 42) (v := y1) g1 ad42 (by decide) ft12_5 (ey1) ?_
    refine ev_icmpge f256_127 (fun c55654 => ?_) (fun c55654 => ?_)
    · refine ev_iconst ?_
      exact ev_ret rfl (by decide) (by decide) ⟨⟨_, rfl, by omega, by omega, g1, k1⟩, fun r e n => fun s t hs ht => H0 s t (by rw [(ey1)] at hs; omega) (by rw [(ey0)] at ht; omega)⟩
    · refine ev_iload_n rfl ?_
      refine ev_istore_n (L' := [(2, 42), (0, x1), (0, x1), j3]) (Nat.le_of_ble_eq_true rfl) rfl ?_
      refine ev_iconst ?_
      refine ev_istore_n (L' := [(2, 42), (0, x1), (0, x1), (0, 0)]) (Nat.le_of_ble_eq_true rfl) rfl ?_
      refine ev_iload_n rfl ?_
      refine ev_aload_n rfl ?_
      refine g_getv (r := 42) (v := y0) g1 ad42 (by decide) ft12_1 (ey0) ?_
      refine ev_icmpge f256_110 (fun c55655 => absurd c55655 (by omega)) (fun c55655 => ?_)
      refine ev_aload_n rfl ?_
      refine g_getp (r := 42) (c := 46) g1 ad42 (by decide) (by decide) rf42_6 ft12_6 ?_
      refine ev_iconst ?_
      refine ev_iload_n rfl ?_
      refine ev_imul (r := (4 * x1)) (by unfold w32; omega) ?_
      refine ev_iload_n rfl ?_
      refine ev_iadd (r := (4 * x1)) (by unfold w32; omega) ?_
      refine ev_iload_n rfl ?_
      refine ev_aload_n rfl ?_
      refine g_getp (r := 42) (c := 43) g1 ad42 (by decide) (by decide) rf42_2 ft12_2 ?_
      refine ev_iload_n rfl ?_
      refine g_iald g1 ad43 rt43 (by omega) (by omega) (fun v55656 ev55656 lv55656 uv55656 => ?_)
      have xv55656 := (g1.ex.2.1 (0 : Int).toNat (by rw [(ey0)]; omega))
      rw [ev55656] at xv55656
      refine g_iremQ (by omega) (by omega) (fun v55657 ev55657 lv55657 uv55657 wv55657 => ?_)
      refine g_iast g1 ad46 rt46 (fun _ => rfl) (by omega) (by omega) (by omega) (by omega) (fun h55658 e55658 g55658 => ?_)
      have k55658 := k1.wr e55658 rfl
      refine ev_iload_n rfl ?_
      refine ev_aload_n rfl ?_
      refine g_getp (r := 42) (c := 43) g55658 ad42 (by decide) (by decide) rf42_2 ft12_2 ?_
      refine ev_iload_n rfl ?_
      refine g_ialdv (v := v55656) g55658 ad43 (by omega) (by omega) (((jw_ne e55658 (Or.inl (by decide))).trans ev55656)) ?_
      refine g_idivM (by omega) (by omega) (by omega) (fun v55659 ev55659 lv55659 uv55659 => ?_)
      refine ev_istore_n (L' := [(2, 42), (0, x1), (0, v55659), (0, 0)]) (Nat.le_of_ble_eq_true rfl) rfl ?_
      refine ev_iinc (w := 1) (L' := [(2, 42), (0, x1), (0, v55659), (0, 1)]) rfl (by decide) rfl ?_
      refine ev_goto f256_69 ?_
      refine ev_iload_n rfl ?_
      refine ev_aload_n rfl ?_
      refine g_getv (r := 42) (v := y0) g55658 ad42 (by decide) ft12_1 (((jw_ne e55658 (Or.inl (by decide))).trans ey0)) ?_
      refine ev_icmpge f256_110 (fun c55660 => absurd c55660 (by omega)) (fun c55660 => ?_)
      refine ev_aload_n rfl ?_
      refine g_getp (r := 42) (c := 46) g55658 ad42 (by decide) (by decide) rf42_6 ft12_6 ?_
      refine ev_iconst ?_
      refine ev_iload_n rfl ?_
      refine ev_imul (r := (4 * x1)) (by unfold w32; omega) ?_
      refine ev_iload_n rfl ?_
      refine ev_iadd (r := (4 * x1 + 1)) (by unfold w32; omega) ?_
      refine ev_iload_n rfl ?_
      refine ev_aload_n rfl ?_
      refine g_getp (r := 42) (c := 43) g55658 ad42 (by decide) (by decide) rf42_2 ft12_2 ?_
      refine ev_iload_n rfl ?_
      refine g_iald g55658 ad43 rt43 (by omega) (by omega) (fun v55661 ev55661 lv55661 uv55661 => ?_)
      have xv55661 := (g55658.ex.2.1 (1 : Int).toNat (by rw [(((jw_ne e55658 (Or.inl (by decide))).trans ey0))]; omega))
      rw [ev55661] at xv55661
      refine g_iremQ (by omega) (by omega) (fun v55662 ev55662 lv55662 uv55662 wv55662 => ?_)
      refine g_iast g55658 ad46 rt46 (fun _ => rfl) (by omega) (by omega) (by omega) (by omega) (fun h55663 e55663 g55663 => ?_)
      have k55663 := k55658.wr e55663 rfl
      refine ev_iload_n rfl ?_
      refine ev_aload_n rfl ?_
      refine g_getp (r := 42) (c := 43) g55663 ad42 (by decide) (by decide) rf42_2 ft12_2 ?_
      refine ev_iload_n rfl ?_
      refine g_ialdv (v := v55661) g55663 ad43 (by omega) (by omega) (((jw_ne e55663 (Or.inl (by decide))).trans ev55661)) ?_
      refine g_idivM (by omega) (by omega) (by omega) (fun v55664 ev55664 lv55664 uv55664 => ?_)
      refine ev_istore_n (L' := [(2, 42), (0, x1), (0, v55664), (0, 1)]) (Nat.le_of_ble_eq_true rfl) rfl ?_
      refine ev_iinc (w := 2) (L' := [(2, 42), (0, x1), (0, v55664), (0, 2)]) rfl (by decide) rfl ?_
      refine ev_goto f256_69 ?_
      refine ev_iload_n rfl ?_
      refine ev_aload_n rfl ?_
      refine g_getv (r := 42) (v := y0) g55663 ad42 (by decide) ft12_1 (((jw_ne e55663 (Or.inl (by decide))).trans ((jw_ne e55658 (Or.inl (by decide))).trans ey0))) ?_
      refine ev_icmpge f256_110 (fun c55665 => absurd c55665 (by omega)) (fun c55665 => ?_)
      refine ev_aload_n rfl ?_
      refine g_getp (r := 42) (c := 46) g55663 ad42 (by decide) (by decide) rf42_6 ft12_6 ?_
      refine ev_iconst ?_
      refine ev_iload_n rfl ?_
      refine ev_imul (r := (4 * x1)) (by unfold w32; omega) ?_
      refine ev_iload_n rfl ?_
      refine ev_iadd (r := (4 * x1 + 2)) (by unfold w32; omega) ?_
      refine ev_iload_n rfl ?_
      refine ev_aload_n rfl ?_
      refine g_getp (r := 42) (c := 43) g55663 ad42 (by decide) (by decide) rf42_2 ft12_2 ?_
      refine ev_iload_n rfl ?_
      refine g_iald g55663 ad43 rt43 (by omega) (by omega) (fun v55666 ev55666 lv55666 uv55666 => ?_)
      have xv55666 := (g55663.ex.2.1 (2 : Int).toNat (by rw [(((jw_ne e55663 (Or.inl (by decide))).trans ((jw_ne e55658 (Or.inl (by decide))).trans ey0)))]; omega))
      rw [ev55666] at xv55666
      refine g_iremQ (by omega) (by omega) (fun v55667 ev55667 lv55667 uv55667 wv55667 => ?_)
      refine g_iast g55663 ad46 rt46 (fun _ => rfl) (by omega) (by omega) (by omega) (by omega) (fun h55668 e55668 g55668 => ?_)
      have k55668 := k55663.wr e55668 rfl
      refine ev_iload_n rfl ?_
      refine ev_aload_n rfl ?_
      refine g_getp (r := 42) (c := 43) g55668 ad42 (by decide) (by decide) rf42_2 ft12_2 ?_
      refine ev_iload_n rfl ?_
      refine g_ialdv (v := v55666) g55668 ad43 (by omega) (by omega) (((jw_ne e55668 (Or.inl (by decide))).trans ev55666)) ?_
      refine g_idivM (by omega) (by omega) (by omega) (fun v55669 ev55669 lv55669 uv55669 => ?_)
      refine ev_istore_n (L' := [(2, 42), (0, x1), (0, v55669), (0, 2)]) (Nat.le_of_ble_eq_true rfl) rfl ?_
      refine ev_iinc (w := 3) (L' := [(2, 42), (0, x1), (0, v55669), (0, 3)]) rfl (by decide) rfl ?_
      refine ev_goto f256_69 ?_
      refine ev_iload_n rfl ?_
      refine ev_aload_n rfl ?_
      refine g_getv (r := 42) (v := y0) g55668 ad42 (by decide) ft12_1 (((jw_ne e55668 (Or.inl (by decide))).trans ((jw_ne e55663 (Or.inl (by decide))).trans ((jw_ne e55658 (Or.inl (by decide))).trans ey0)))) ?_
      refine ev_icmpge f256_110 (fun c55670 => ?_) (fun c55670 => absurd c55670 (by omega))
      refine ev_aload_n rfl ?_
      refine g_getp (r := 42) (c := 47) g55668 ad42 (by decide) (by decide) rf42_7 ft12_7 ?_
      refine ev_iload_n rfl ?_
      refine ev_aload_n rfl ?_
      refine ev_iload_n rfl ?_
      refine ev_call (jcall_v (A := [(0, x1)]) (S' := [(0, x1), (2, 47)]) (r := 42) rfl (g55668.lt ad42) (g55668.tg ad42) (Nat.le_of_ble_eq_true rfl)) (jOk_le (by decide) (s255 g55668 (by omega) (by omega))) (by decide) (by decide) (fun w55671 h55671 q55671 => ?_)
      obtain ⟨v55672, rfl, lv55672, uv55672, g55671, kk55671⟩ := q55671
      have k55671 := k55668.tr kk55671 (by decide)
      show jEv _ _ _ _ _ _ _ (_, [(2, 42), (0, x1), (0, v55669), (0, 3)], [(1, v55672), (0, x1), (2, 47)], _, _, _)
      refine g_last g55671 ad47 rt47 (fun _ => rfl) (by omega) (by omega) (by omega) (by omega) (fun h55673 e55673 g55673 => ?_)
      have k55673 := k55671.wr e55673 rfl
      refine ev_iinc (w := (x1 + 1)) (L' := [(2, 42), (0, (x1 + 1)), (0, v55669), (0, 3)]) rfl (by unfold w32; omega) rfl ?_
      refine ev_goto f256_57 ?_
      exact ih _ _ _ _ _ _ g55673 k55673 (by omega) (by omega) (((jw_ne e55673 (Or.inl (by decide))).trans ((kk55671.v (by decide)).trans ((jw_ne e55668 (Or.inl (by decide))).trans ((jw_ne e55663 (Or.inl (by decide))).trans ((jw_ne e55658 (Or.inl (by decide))).trans ey0)))))) (by omega) (by omega) (((jw_ne e55673 (Or.inl (by decide))).trans ((kk55671.v (by decide)).trans ((jw_ne e55668 (Or.inl (by decide))).trans ((jw_ne e55663 (Or.inl (by decide))).trans ((jw_ne e55658 (Or.inl (by decide))).trans ey1)))))) (by omega) (by omega) (Sw_step H0 (fun i hi => by rw [jw_ne (k := 46) (j := i) e55673 (Or.inl (by decide)), kk55671.v (a := 46) (i := i) rfl, jw_ne (k := 46) (j := i) e55668 (Or.inr (by omega)), jw_ne (k := 46) (j := i) e55663 (Or.inr (by omega)), jw_ne (k := 46) (j := i) e55658 (Or.inr (by omega))]) (fun i => by rw [jw_ne (k := 43) (j := i) e55673 (Or.inl (by decide)), kk55671.v (a := 43) (i := i) rfl, jw_ne (k := 43) (j := i) e55668 (Or.inl (by decide)), jw_ne (k := 43) (j := i) e55663 (Or.inl (by decide)), jw_ne (k := 43) (j := i) e55658 (Or.inl (by decide))]) (by omega) (by decide) (fun t ht => by rcases (show t = 0 ∨ t = 1 ∨ t = 2 by omega) with r | r | r <;> subst r <;> first | exact lt_eq ((congrArg (fun z => h55673.2.2 46 (Int.toNat z)) (show 4 * x1 + ((0 : Nat) : Int) = 4 * x1 by omega)).trans (((jw_ne e55673 (Or.inl (by decide))).trans ((kk55671.v rfl).trans ((jw_ne e55668 (Or.inr (by omega))).trans ((jw_ne e55663 (Or.inr (by omega))).trans (jw_eq e55658))))))) (((jw_ne e55673 (Or.inl (by decide))).trans ((kk55671.v (by decide)).trans ((jw_ne e55668 (Or.inl (by decide))).trans ((jw_ne e55663 (Or.inl (by decide))).trans ((jw_ne e55658 (Or.inl (by decide))).trans ev55656)))))) (by omega) | exact lt_eq (((jw_ne e55673 (Or.inl (by decide))).trans ((kk55671.v rfl).trans ((jw_ne e55668 (Or.inr (by omega))).trans (jw_eq e55663))))) (((jw_ne e55673 (Or.inl (by decide))).trans ((kk55671.v (by decide)).trans ((jw_ne e55668 (Or.inl (by decide))).trans ((jw_ne e55663 (Or.inl (by decide))).trans ev55661))))) (by omega) | exact lt_eq (((jw_ne e55673 (Or.inl (by decide))).trans ((kk55671.v rfl).trans (jw_eq e55668)))) (((jw_ne e55673 (Or.inl (by decide))).trans ((kk55671.v (by decide)).trans ((jw_ne e55668 (Or.inl (by decide))).trans ev55666)))) (by omega))) (by omega)
set_option maxHeartbeats 4000000 in
theorem s256w_3 {G : GH} {h : JH} (g : Gd G h) (ew0 : h.2.2 42 1 = 3) : jOk 4 0 0 256 [(2, 42)] h (fun v h' => PI G [(46, 0), (47, 0), (42, 6), (42, 9)] h 0 0 1 v h' ∧ ∀ r, v = some (0, r) → r ≠ 0 → Sw h') := by
  refine ⟨by decide, by rw [ml256]; exact Nat.le_of_ble_eq_true rfl, ?_⟩
  rw [ml256, pp256]
  show jEv _ none _ c256_0 0 0 _ (c256_0, [(2, 42), (9, 0), (9, 0), (9, 0)], [], h, 0, 0)
  have k0 := Kp.rf [(46, 0), (47, 0), (42, 6), (42, 9)] h
  refine ev_aload_n rfl ?_
  refine ev_aload_n rfl ?_
  refine ev_call (jcall_v (A := []) (S' := [(2, 42)]) (r := 42) rfl (g.lt ad42) (g.tg ad42) (Nat.le_of_ble_eq_true rfl)) (jOk_le (by decide) (s253 g )) (by decide) (by decide) (fun w55674 h55674 q55674 => ?_)
  obtain ⟨v55675, rfl, lv55675, uv55675, g55674, kk55674⟩ := q55674
  have k55674 := k0.tr kk55674 (by decide)
  show jEv _ _ _ _ _ _ _ (_, [(2, 42), (9, 0), (9, 0), (9, 0)], [(1, v55675), (2, 42)], _, _, _)
  refine g_putf (r := 42) g55674 ad42 (by decide) ft12_8 (by decide) (fun e => absurd e nz12_8) rf42_8 (by decide) (by omega) (by omega) (fun h55676 e55676 g55676 => ?_)
  have k55676 := k55674.wr e55676 rfl
  refine ev_aload_n rfl ?_
  refine g_getv (r := 42) (v := v55675) g55676 ad42 (by decide) ft12_8 ((jw_eq e55676)) ?_
  refine ev_lconst ?_
  refine ev_lcmp ?_
  refine ev_ifge f256_19 (fun c55677 => ?_) (fun c55677 => ?_)
  · have c55677b := jcmpL_ge c55677
    refine ev_aload_n rfl ?_
    refine ev_iconst ?_
    refine g_putf (r := 42) g55676 ad42 (by decide) ft12_5 (by decide) (fun e => absurd e nz12_5) rf42_5 (by decide) (by omega) (by omega) (fun h55678 e55678 g55678 => ?_)
    have k55678 := k55676.wr e55678 rfl
    refine ev_iconst ?_
    refine ev_istore_n (L' := [(2, 42), (0, 0), (9, 0), (9, 0)]) (Nat.le_of_ble_eq_true rfl) rfl ?_
    refine ev_iload_n rfl ?_
    refine ev_aload_n rfl ?_
    refine g_getv (r := 42) (v := 3) g55678 ad42 (by decide) ft12_1 (((jw_ne e55678 (Or.inr (by decide))).trans ((jw_ne e55676 (Or.inr (by decide))).trans ((kk55674.v (by decide)).trans ew0)))) ?_
    refine ev_icmpge f256_55 (fun c55679 => absurd c55679 (by omega)) (fun c55679 => ?_)
    refine ev_aload_n rfl ?_
    refine ev_dup (by decide) ?_
    refine g_getv (r := 42) (v := 1) g55678 ad42 (by decide) ft12_5 ((jw_eq e55678)) ?_
    refine ev_aload_n rfl ?_
    refine g_getp (r := 42) (c := 43) g55678 ad42 (by decide) (by decide) rf42_2 ft12_2 ?_
    refine ev_iload_n rfl ?_
    refine g_iald g55678 ad43 rt43 (by omega) (by omega) (fun v55680 ev55680 lv55680 uv55680 => ?_)
    have xv55680 := (g55678.ex.2.1 (0 : Int).toNat (by rw [(((jw_ne e55678 (Or.inr (by decide))).trans ((jw_ne e55676 (Or.inr (by decide))).trans ((kk55674.v (by decide)).trans ew0))))]; omega))
    rw [ev55680] at xv55680
    refine ev_imul (r := v55680) (by unfold w32; omega) ?_
    refine g_putf (r := 42) g55678 ad42 (by decide) ft12_5 (by decide) (fun e => absurd e nz12_5) rf42_5 (by decide) (by omega) (by omega) (fun h55681 e55681 g55681 => ?_)
    have k55681 := k55678.wr e55681 rfl
    refine ev_iinc (w := 1) (L' := [(2, 42), (0, 1), (9, 0), (9, 0)]) rfl (by decide) rfl ?_
    refine ev_goto f256_26 ?_
    refine ev_iload_n rfl ?_
    refine ev_aload_n rfl ?_
    refine g_getv (r := 42) (v := 3) g55681 ad42 (by decide) ft12_1 (((jw_ne e55681 (Or.inr (by decide))).trans ((jw_ne e55678 (Or.inr (by decide))).trans ((jw_ne e55676 (Or.inr (by decide))).trans ((kk55674.v (by decide)).trans ew0))))) ?_
    refine ev_icmpge f256_55 (fun c55682 => absurd c55682 (by omega)) (fun c55682 => ?_)
    refine ev_aload_n rfl ?_
    refine ev_dup (by decide) ?_
    refine g_getv (r := 42) (v := v55680) g55681 ad42 (by decide) ft12_5 ((jw_eq e55681)) ?_
    refine ev_aload_n rfl ?_
    refine g_getp (r := 42) (c := 43) g55681 ad42 (by decide) (by decide) rf42_2 ft12_2 ?_
    refine ev_iload_n rfl ?_
    refine g_iald g55681 ad43 rt43 (by omega) (by omega) (fun v55683 ev55683 lv55683 uv55683 => ?_)
    have xv55683 := (g55681.ex.2.1 (1 : Int).toNat (by rw [(((jw_ne e55681 (Or.inr (by decide))).trans ((jw_ne e55678 (Or.inr (by decide))).trans ((jw_ne e55676 (Or.inr (by decide))).trans ((kk55674.v (by decide)).trans ew0)))))]; omega))
    rw [ev55683] at xv55683
    refine g_imulB (a := 3) (b := 3) (a' := 2) (b' := 2) (by omega) (by omega) (by omega) (by omega) (by decide) (lo := 4) (hi := 9) (by decide) (by decide) (fun v55684 ev55684 lv55684 uv55684 => ?_)
    refine g_putf (r := 42) g55681 ad42 (by decide) ft12_5 (by decide) (fun e => absurd e nz12_5) rf42_5 (by decide) (by omega) (by omega) (fun h55685 e55685 g55685 => ?_)
    have k55685 := k55681.wr e55685 rfl
    refine ev_iinc (w := 2) (L' := [(2, 42), (0, 2), (9, 0), (9, 0)]) rfl (by decide) rfl ?_
    refine ev_goto f256_26 ?_
    refine ev_iload_n rfl ?_
    refine ev_aload_n rfl ?_
    refine g_getv (r := 42) (v := 3) g55685 ad42 (by decide) ft12_1 (((jw_ne e55685 (Or.inr (by decide))).trans ((jw_ne e55681 (Or.inr (by decide))).trans ((jw_ne e55678 (Or.inr (by decide))).trans ((jw_ne e55676 (Or.inr (by decide))).trans ((kk55674.v (by decide)).trans ew0)))))) ?_
    refine ev_icmpge f256_55 (fun c55686 => absurd c55686 (by omega)) (fun c55686 => ?_)
    refine ev_aload_n rfl ?_
    refine ev_dup (by decide) ?_
    refine g_getv (r := 42) (v := v55684) g55685 ad42 (by decide) ft12_5 ((jw_eq e55685)) ?_
    refine ev_aload_n rfl ?_
    refine g_getp (r := 42) (c := 43) g55685 ad42 (by decide) (by decide) rf42_2 ft12_2 ?_
    refine ev_iload_n rfl ?_
    refine g_iald g55685 ad43 rt43 (by omega) (by omega) (fun v55687 ev55687 lv55687 uv55687 => ?_)
    have xv55687 := (g55685.ex.2.1 (2 : Int).toNat (by rw [(((jw_ne e55685 (Or.inr (by decide))).trans ((jw_ne e55681 (Or.inr (by decide))).trans ((jw_ne e55678 (Or.inr (by decide))).trans ((jw_ne e55676 (Or.inr (by decide))).trans ((kk55674.v (by decide)).trans ew0))))))]; omega))
    rw [ev55687] at xv55687
    refine g_imulB (a := 9) (b := 3) (a' := 4) (b' := 2) (by omega) (by omega) (by omega) (by omega) (by decide) (lo := 8) (hi := 27) (by decide) (by decide) (fun v55688 ev55688 lv55688 uv55688 => ?_)
    refine g_putf (r := 42) g55685 ad42 (by decide) ft12_5 (by decide) (fun e => absurd e nz12_5) rf42_5 (by decide) (by omega) (by omega) (fun h55689 e55689 g55689 => ?_)
    have k55689 := k55685.wr e55689 rfl
    refine ev_iinc (w := 3) (L' := [(2, 42), (0, 3), (9, 0), (9, 0)]) rfl (by decide) rfl ?_
    refine ev_goto f256_26 ?_
    refine ev_iload_n rfl ?_
    refine ev_aload_n rfl ?_
    refine g_getv (r := 42) (v := 3) g55689 ad42 (by decide) ft12_1 (((jw_ne e55689 (Or.inr (by decide))).trans ((jw_ne e55685 (Or.inr (by decide))).trans ((jw_ne e55681 (Or.inr (by decide))).trans ((jw_ne e55678 (Or.inr (by decide))).trans ((jw_ne e55676 (Or.inr (by decide))).trans ((kk55674.v (by decide)).trans ew0))))))) ?_
    refine ev_icmpge f256_55 (fun c55690 => ?_) (fun c55690 => absurd c55690 (by omega))
    refine ev_iconst ?_
    refine ev_istore_n (L' := [(2, 42), (0, 0), (9, 0), (9, 0)]) (Nat.le_of_ble_eq_true rfl) rfl ?_
    exact (s256w_3_l ew0 56) _ _ _ _ _ _ g55689 k55689 (by omega) (by omega) (((jw_ne e55689 (Or.inr (by decide))).trans ((jw_ne e55685 (Or.inr (by decide))).trans ((jw_ne e55681 (Or.inr (by decide))).trans ((jw_ne e55678 (Or.inr (by decide))).trans ((jw_ne e55676 (Or.inr (by decide))).trans ((kk55674.v (by decide)).trans ew0))))))) (by omega) (by omega) ((jw_eq e55689)) (by omega) (by omega) (fun s t hs ht => by omega) (by omega)
  · have c55677b := jcmpL_geN c55677
    refine ev_iconst ?_
    exact ev_ret rfl (by decide) (by decide) ⟨⟨_, rfl, by omega, by omega, g55676, k55676⟩, fun r e n => by cases e; exact absurd rfl n⟩
set_option maxHeartbeats 4000000 in
theorem s256w_4_l {G : GH} {h : JH} (ew0 : h.2.2 42 1 = 4) : ∀ N : Nat, (∀ (h1 : JH) (x1 y0 y1 : Int) (j2 j3 : AV), Gd G h1 → Kp [(46, 0), (47, 0), (42, 6), (42, 9)] h h1 → 0 ≤ x1 → x1 ≤ 81 → h1.2.2 42 1 = y0 → 4 ≤ y0 → y0 ≤ 4 → h1.2.2 42 5 = y1 → 0 ≤ y1 → y1 ≤ 81 → (∀ s t : Nat, (s : Int) < x1 → (t : Int) < 4 → h1.2.2 46 (4 * s + t) < h1.2.2 43 t) → ((-x1) + 81) < N → jEv (jOk 3) none (fun _ => 0) c256_0 0 0 (fun v h' => PI G [(46, 0), (47, 0), (42, 6), (42, 9)] h 0 0 1 v h' ∧ ∀ r, v = some (0, r) → r ≠ 0 → Sw h') (c256_57, [(2, 42), (0, x1), j2, j3], [], h1, 0, 0)) := by
  intro N
  induction N with
  | zero => exact fun h1 x1 y0 y1 j2 j3 g1 k1 b0 b1 b2 b3 b4 b5 b6 b7 b8 hm => absurd hm (by omega)
  | succ N ih =>
    show _
    intro h1 x1 y0 y1 j2 j3 g1 k1 b0 b1 ey0 ly0 uy0 ey1 ly1 uy1 H0 hm
    refine ev_iload_n rfl ?_
    refine ev_aload_n rfl ?_
    refine g_getv (r := 42) (v := y1) g1 ad42 (by decide) ft12_5 (ey1) ?_
    refine ev_icmpge f256_127 (fun c56583 => ?_) (fun c56583 => ?_)
    · refine ev_iconst ?_
      exact ev_ret rfl (by decide) (by decide) ⟨⟨_, rfl, by omega, by omega, g1, k1⟩, fun r e n => fun s t hs ht => H0 s t (by rw [(ey1)] at hs; omega) (by rw [(ey0)] at ht; omega)⟩
    · refine ev_iload_n rfl ?_
      refine ev_istore_n (L' := [(2, 42), (0, x1), (0, x1), j3]) (Nat.le_of_ble_eq_true rfl) rfl ?_
      refine ev_iconst ?_
      refine ev_istore_n (L' := [(2, 42), (0, x1), (0, x1), (0, 0)]) (Nat.le_of_ble_eq_true rfl) rfl ?_
      refine ev_iload_n rfl ?_
      refine ev_aload_n rfl ?_
      refine g_getv (r := 42) (v := y0) g1 ad42 (by decide) ft12_1 (ey0) ?_
      refine ev_icmpge f256_110 (fun c56584 => absurd c56584 (by omega)) (fun c56584 => ?_)
      refine ev_aload_n rfl ?_
      refine g_getp (r := 42) (c := 46) g1 ad42 (by decide) (by decide) rf42_6 ft12_6 ?_
      refine ev_iconst ?_
      refine ev_iload_n rfl ?_
      refine ev_imul (r := (4 * x1)) (by unfold w32; omega) ?_
      refine ev_iload_n rfl ?_
      refine ev_iadd (r := (4 * x1)) (by unfold w32; omega) ?_
      refine ev_iload_n rfl ?_
      refine ev_aload_n rfl ?_
      refine g_getp (r := 42) (c := 43) g1 ad42 (by decide) (by decide) rf42_2 ft12_2 ?_
      refine ev_iload_n rfl ?_
      refine g_iald g1 ad43 rt43 (by omega) (by omega) (fun v56585 ev56585 lv56585 uv56585 => ?_)
      have xv56585 := (g1.ex.2.1 (0 : Int).toNat (by rw [(ey0)]; omega))
      rw [ev56585] at xv56585
      refine g_iremQ (by omega) (by omega) (fun v56586 ev56586 lv56586 uv56586 wv56586 => ?_)
      refine g_iast g1 ad46 rt46 (fun _ => rfl) (by omega) (by omega) (by omega) (by omega) (fun h56587 e56587 g56587 => ?_)
      have k56587 := k1.wr e56587 rfl
      refine ev_iload_n rfl ?_
      refine ev_aload_n rfl ?_
      refine g_getp (r := 42) (c := 43) g56587 ad42 (by decide) (by decide) rf42_2 ft12_2 ?_
      refine ev_iload_n rfl ?_
      refine g_ialdv (v := v56585) g56587 ad43 (by omega) (by omega) (((jw_ne e56587 (Or.inl (by decide))).trans ev56585)) ?_
      refine g_idivM (by omega) (by omega) (by omega) (fun v56588 ev56588 lv56588 uv56588 => ?_)
      refine ev_istore_n (L' := [(2, 42), (0, x1), (0, v56588), (0, 0)]) (Nat.le_of_ble_eq_true rfl) rfl ?_
      refine ev_iinc (w := 1) (L' := [(2, 42), (0, x1), (0, v56588), (0, 1)]) rfl (by decide) rfl ?_
      refine ev_goto f256_69 ?_
      refine ev_iload_n rfl ?_
      refine ev_aload_n rfl ?_
      refine g_getv (r := 42) (v := y0) g56587 ad42 (by decide) ft12_1 (((jw_ne e56587 (Or.inl (by decide))).trans ey0)) ?_
      refine ev_icmpge f256_110 (fun c56589 => absurd c56589 (by omega)) (fun c56589 => ?_)
      refine ev_aload_n rfl ?_
      refine g_getp (r := 42) (c := 46) g56587 ad42 (by decide) (by decide) rf42_6 ft12_6 ?_
      refine ev_iconst ?_
      refine ev_iload_n rfl ?_
      refine ev_imul (r := (4 * x1)) (by unfold w32; omega) ?_
      refine ev_iload_n rfl ?_
      refine ev_iadd (r := (4 * x1 + 1)) (by unfold w32; omega) ?_
      refine ev_iload_n rfl ?_
      refine ev_aload_n rfl ?_
      refine g_getp (r := 42) (c := 43) g56587 ad42 (by decide) (by decide) rf42_2 ft12_2 ?_
      refine ev_iload_n rfl ?_
      refine g_iald g56587 ad43 rt43 (by omega) (by omega) (fun v56590 ev56590 lv56590 uv56590 => ?_)
      have xv56590 := (g56587.ex.2.1 (1 : Int).toNat (by rw [(((jw_ne e56587 (Or.inl (by decide))).trans ey0))]; omega))
      rw [ev56590] at xv56590
      refine g_iremQ (by omega) (by omega) (fun v56591 ev56591 lv56591 uv56591 wv56591 => ?_)
      refine g_iast g56587 ad46 rt46 (fun _ => rfl) (by omega) (by omega) (by omega) (by omega) (fun h56592 e56592 g56592 => ?_)
      have k56592 := k56587.wr e56592 rfl
      refine ev_iload_n rfl ?_
      refine ev_aload_n rfl ?_
      refine g_getp (r := 42) (c := 43) g56592 ad42 (by decide) (by decide) rf42_2 ft12_2 ?_
      refine ev_iload_n rfl ?_
      refine g_ialdv (v := v56590) g56592 ad43 (by omega) (by omega) (((jw_ne e56592 (Or.inl (by decide))).trans ev56590)) ?_
      refine g_idivM (by omega) (by omega) (by omega) (fun v56593 ev56593 lv56593 uv56593 => ?_)
      refine ev_istore_n (L' := [(2, 42), (0, x1), (0, v56593), (0, 1)]) (Nat.le_of_ble_eq_true rfl) rfl ?_
      refine ev_iinc (w := 2) (L' := [(2, 42), (0, x1), (0, v56593), (0, 2)]) rfl (by decide) rfl ?_
      refine ev_goto f256_69 ?_
      refine ev_iload_n rfl ?_
      refine ev_aload_n rfl ?_
      refine g_getv (r := 42) (v := y0) g56592 ad42 (by decide) ft12_1 (((jw_ne e56592 (Or.inl (by decide))).trans ((jw_ne e56587 (Or.inl (by decide))).trans ey0))) ?_
      refine ev_icmpge f256_110 (fun c56594 => absurd c56594 (by omega)) (fun c56594 => ?_)
      refine ev_aload_n rfl ?_
      refine g_getp (r := 42) (c := 46) g56592 ad42 (by decide) (by decide) rf42_6 ft12_6 ?_
      refine ev_iconst ?_
      refine ev_iload_n rfl ?_
      refine ev_imul (r := (4 * x1)) (by unfold w32; omega) ?_
      refine ev_iload_n rfl ?_
      refine ev_iadd (r := (4 * x1 + 2)) (by unfold w32; omega) ?_
      refine ev_iload_n rfl ?_
      refine ev_aload_n rfl ?_
      refine g_getp (r := 42) (c := 43) g56592 ad42 (by decide) (by decide) rf42_2 ft12_2 ?_
      refine ev_iload_n rfl ?_
      refine g_iald g56592 ad43 rt43 (by omega) (by omega) (fun v56595 ev56595 lv56595 uv56595 => ?_)
      have xv56595 := (g56592.ex.2.1 (2 : Int).toNat (by rw [(((jw_ne e56592 (Or.inl (by decide))).trans ((jw_ne e56587 (Or.inl (by decide))).trans ey0)))]; omega))
      rw [ev56595] at xv56595
      refine g_iremQ (by omega) (by omega) (fun v56596 ev56596 lv56596 uv56596 wv56596 => ?_)
      refine g_iast g56592 ad46 rt46 (fun _ => rfl) (by omega) (by omega) (by omega) (by omega) (fun h56597 e56597 g56597 => ?_)
      have k56597 := k56592.wr e56597 rfl
      refine ev_iload_n rfl ?_
      refine ev_aload_n rfl ?_
      refine g_getp (r := 42) (c := 43) g56597 ad42 (by decide) (by decide) rf42_2 ft12_2 ?_
      refine ev_iload_n rfl ?_
      refine g_ialdv (v := v56595) g56597 ad43 (by omega) (by omega) (((jw_ne e56597 (Or.inl (by decide))).trans ev56595)) ?_
      refine g_idivM (by omega) (by omega) (by omega) (fun v56598 ev56598 lv56598 uv56598 => ?_)
      refine ev_istore_n (L' := [(2, 42), (0, x1), (0, v56598), (0, 2)]) (Nat.le_of_ble_eq_true rfl) rfl ?_
      refine ev_iinc (w := 3) (L' := [(2, 42), (0, x1), (0, v56598), (0, 3)]) rfl (by decide) rfl ?_
      refine ev_goto f256_69 ?_
      refine ev_iload_n rfl ?_
      refine ev_aload_n rfl ?_
      refine g_getv (r := 42) (v := y0) g56597 ad42 (by decide) ft12_1 (((jw_ne e56597 (Or.inl (by decide))).trans ((jw_ne e56592 (Or.inl (by decide))).trans ((jw_ne e56587 (Or.inl (by decide))).trans ey0)))) ?_
      refine ev_icmpge f256_110 (fun c56599 => absurd c56599 (by omega)) (fun c56599 => ?_)
      refine ev_aload_n rfl ?_
      refine g_getp (r := 42) (c := 46) g56597 ad42 (by decide) (by decide) rf42_6 ft12_6 ?_
      refine ev_iconst ?_
      refine ev_iload_n rfl ?_
      refine ev_imul (r := (4 * x1)) (by unfold w32; omega) ?_
      refine ev_iload_n rfl ?_
      refine ev_iadd (r := (4 * x1 + 3)) (by unfold w32; omega) ?_
      refine ev_iload_n rfl ?_
      refine ev_aload_n rfl ?_
      refine g_getp (r := 42) (c := 43) g56597 ad42 (by decide) (by decide) rf42_2 ft12_2 ?_
      refine ev_iload_n rfl ?_
      refine g_iald g56597 ad43 rt43 (by omega) (by omega) (fun v56600 ev56600 lv56600 uv56600 => ?_)
      have xv56600 := (g56597.ex.2.1 (3 : Int).toNat (by rw [(((jw_ne e56597 (Or.inl (by decide))).trans ((jw_ne e56592 (Or.inl (by decide))).trans ((jw_ne e56587 (Or.inl (by decide))).trans ey0))))]; omega))
      rw [ev56600] at xv56600
      refine g_iremQ (by omega) (by omega) (fun v56601 ev56601 lv56601 uv56601 wv56601 => ?_)
      refine g_iast g56597 ad46 rt46 (fun _ => rfl) (by omega) (by omega) (by omega) (by omega) (fun h56602 e56602 g56602 => ?_)
      have k56602 := k56597.wr e56602 rfl
      refine ev_iload_n rfl ?_
      refine ev_aload_n rfl ?_
      refine g_getp (r := 42) (c := 43) g56602 ad42 (by decide) (by decide) rf42_2 ft12_2 ?_
      refine ev_iload_n rfl ?_
      refine g_ialdv (v := v56600) g56602 ad43 (by omega) (by omega) (((jw_ne e56602 (Or.inl (by decide))).trans ev56600)) ?_
      refine g_idivM (by omega) (by omega) (by omega) (fun v56603 ev56603 lv56603 uv56603 => ?_)
      refine ev_istore_n (L' := [(2, 42), (0, x1), (0, v56603), (0, 3)]) (Nat.le_of_ble_eq_true rfl) rfl ?_
      refine ev_iinc (w := 4) (L' := [(2, 42), (0, x1), (0, v56603), (0, 4)]) rfl (by decide) rfl ?_
      refine ev_goto f256_69 ?_
      refine ev_iload_n rfl ?_
      refine ev_aload_n rfl ?_
      refine g_getv (r := 42) (v := y0) g56602 ad42 (by decide) ft12_1 (((jw_ne e56602 (Or.inl (by decide))).trans ((jw_ne e56597 (Or.inl (by decide))).trans ((jw_ne e56592 (Or.inl (by decide))).trans ((jw_ne e56587 (Or.inl (by decide))).trans ey0))))) ?_
      refine ev_icmpge f256_110 (fun c56604 => ?_) (fun c56604 => absurd c56604 (by omega))
      refine ev_aload_n rfl ?_
      refine g_getp (r := 42) (c := 47) g56602 ad42 (by decide) (by decide) rf42_7 ft12_7 ?_
      refine ev_iload_n rfl ?_
      refine ev_aload_n rfl ?_
      refine ev_iload_n rfl ?_
      refine ev_call (jcall_v (A := [(0, x1)]) (S' := [(0, x1), (2, 47)]) (r := 42) rfl (g56602.lt ad42) (g56602.tg ad42) (Nat.le_of_ble_eq_true rfl)) (jOk_le (by decide) (s255 g56602 (by omega) (by omega))) (by decide) (by decide) (fun w56605 h56605 q56605 => ?_)
      obtain ⟨v56606, rfl, lv56606, uv56606, g56605, kk56605⟩ := q56605
      have k56605 := k56602.tr kk56605 (by decide)
      show jEv _ _ _ _ _ _ _ (_, [(2, 42), (0, x1), (0, v56603), (0, 4)], [(1, v56606), (0, x1), (2, 47)], _, _, _)
      refine g_last g56605 ad47 rt47 (fun _ => rfl) (by omega) (by omega) (by omega) (by omega) (fun h56607 e56607 g56607 => ?_)
      have k56607 := k56605.wr e56607 rfl
      refine ev_iinc (w := (x1 + 1)) (L' := [(2, 42), (0, (x1 + 1)), (0, v56603), (0, 4)]) rfl (by unfold w32; omega) rfl ?_
      refine ev_goto f256_57 ?_
      exact ih _ _ _ _ _ _ g56607 k56607 (by omega) (by omega) (((jw_ne e56607 (Or.inl (by decide))).trans ((kk56605.v (by decide)).trans ((jw_ne e56602 (Or.inl (by decide))).trans ((jw_ne e56597 (Or.inl (by decide))).trans ((jw_ne e56592 (Or.inl (by decide))).trans ((jw_ne e56587 (Or.inl (by decide))).trans ey0))))))) (by omega) (by omega) (((jw_ne e56607 (Or.inl (by decide))).trans ((kk56605.v (by decide)).trans ((jw_ne e56602 (Or.inl (by decide))).trans ((jw_ne e56597 (Or.inl (by decide))).trans ((jw_ne e56592 (Or.inl (by decide))).trans ((jw_ne e56587 (Or.inl (by decide))).trans ey1))))))) (by omega) (by omega) (Sw_step H0 (fun i hi => by rw [jw_ne (k := 46) (j := i) e56607 (Or.inl (by decide)), kk56605.v (a := 46) (i := i) rfl, jw_ne (k := 46) (j := i) e56602 (Or.inr (by omega)), jw_ne (k := 46) (j := i) e56597 (Or.inr (by omega)), jw_ne (k := 46) (j := i) e56592 (Or.inr (by omega)), jw_ne (k := 46) (j := i) e56587 (Or.inr (by omega))]) (fun i => by rw [jw_ne (k := 43) (j := i) e56607 (Or.inl (by decide)), kk56605.v (a := 43) (i := i) rfl, jw_ne (k := 43) (j := i) e56602 (Or.inl (by decide)), jw_ne (k := 43) (j := i) e56597 (Or.inl (by decide)), jw_ne (k := 43) (j := i) e56592 (Or.inl (by decide)), jw_ne (k := 43) (j := i) e56587 (Or.inl (by decide))]) (by omega) (by decide) (fun t ht => by rcases (show t = 0 ∨ t = 1 ∨ t = 2 ∨ t = 3 by omega) with r | r | r | r <;> subst r <;> first | exact lt_eq ((congrArg (fun z => h56607.2.2 46 (Int.toNat z)) (show 4 * x1 + ((0 : Nat) : Int) = 4 * x1 by omega)).trans (((jw_ne e56607 (Or.inl (by decide))).trans ((kk56605.v rfl).trans ((jw_ne e56602 (Or.inr (by omega))).trans ((jw_ne e56597 (Or.inr (by omega))).trans ((jw_ne e56592 (Or.inr (by omega))).trans (jw_eq e56587)))))))) (((jw_ne e56607 (Or.inl (by decide))).trans ((kk56605.v (by decide)).trans ((jw_ne e56602 (Or.inl (by decide))).trans ((jw_ne e56597 (Or.inl (by decide))).trans ((jw_ne e56592 (Or.inl (by decide))).trans ((jw_ne e56587 (Or.inl (by decide))).trans ev56585))))))) (by omega) | exact lt_eq (((jw_ne e56607 (Or.inl (by decide))).trans ((kk56605.v rfl).trans ((jw_ne e56602 (Or.inr (by omega))).trans ((jw_ne e56597 (Or.inr (by omega))).trans (jw_eq e56592)))))) (((jw_ne e56607 (Or.inl (by decide))).trans ((kk56605.v (by decide)).trans ((jw_ne e56602 (Or.inl (by decide))).trans ((jw_ne e56597 (Or.inl (by decide))).trans ((jw_ne e56592 (Or.inl (by decide))).trans ev56590)))))) (by omega) | exact lt_eq (((jw_ne e56607 (Or.inl (by decide))).trans ((kk56605.v rfl).trans ((jw_ne e56602 (Or.inr (by omega))).trans (jw_eq e56597))))) (((jw_ne e56607 (Or.inl (by decide))).trans ((kk56605.v (by decide)).trans ((jw_ne e56602 (Or.inl (by decide))).trans ((jw_ne e56597 (Or.inl (by decide))).trans ev56595))))) (by omega) | exact lt_eq (((jw_ne e56607 (Or.inl (by decide))).trans ((kk56605.v rfl).trans (jw_eq e56602)))) (((jw_ne e56607 (Or.inl (by decide))).trans ((kk56605.v (by decide)).trans ((jw_ne e56602 (Or.inl (by decide))).trans ev56600)))) (by omega))) (by omega)
set_option maxHeartbeats 4000000 in
theorem s256w_4 {G : GH} {h : JH} (g : Gd G h) (ew0 : h.2.2 42 1 = 4) : jOk 4 0 0 256 [(2, 42)] h (fun v h' => PI G [(46, 0), (47, 0), (42, 6), (42, 9)] h 0 0 1 v h' ∧ ∀ r, v = some (0, r) → r ≠ 0 → Sw h') := by
  refine ⟨by decide, by rw [ml256]; exact Nat.le_of_ble_eq_true rfl, ?_⟩
  rw [ml256, pp256]
  show jEv _ none _ c256_0 0 0 _ (c256_0, [(2, 42), (9, 0), (9, 0), (9, 0)], [], h, 0, 0)
  have k0 := Kp.rf [(46, 0), (47, 0), (42, 6), (42, 9)] h
  refine ev_aload_n rfl ?_
  refine ev_aload_n rfl ?_
  refine ev_call (jcall_v (A := []) (S' := [(2, 42)]) (r := 42) rfl (g.lt ad42) (g.tg ad42) (Nat.le_of_ble_eq_true rfl)) (jOk_le (by decide) (s253 g )) (by decide) (by decide) (fun w56608 h56608 q56608 => ?_)
  obtain ⟨v56609, rfl, lv56609, uv56609, g56608, kk56608⟩ := q56608
  have k56608 := k0.tr kk56608 (by decide)
  show jEv _ _ _ _ _ _ _ (_, [(2, 42), (9, 0), (9, 0), (9, 0)], [(1, v56609), (2, 42)], _, _, _)
  refine g_putf (r := 42) g56608 ad42 (by decide) ft12_8 (by decide) (fun e => absurd e nz12_8) rf42_8 (by decide) (by omega) (by omega) (fun h56610 e56610 g56610 => ?_)
  have k56610 := k56608.wr e56610 rfl
  refine ev_aload_n rfl ?_
  refine g_getv (r := 42) (v := v56609) g56610 ad42 (by decide) ft12_8 ((jw_eq e56610)) ?_
  refine ev_lconst ?_
  refine ev_lcmp ?_
  refine ev_ifge f256_19 (fun c56611 => ?_) (fun c56611 => ?_)
  · have c56611b := jcmpL_ge c56611
    refine ev_aload_n rfl ?_
    refine ev_iconst ?_
    refine g_putf (r := 42) g56610 ad42 (by decide) ft12_5 (by decide) (fun e => absurd e nz12_5) rf42_5 (by decide) (by omega) (by omega) (fun h56612 e56612 g56612 => ?_)
    have k56612 := k56610.wr e56612 rfl
    refine ev_iconst ?_
    refine ev_istore_n (L' := [(2, 42), (0, 0), (9, 0), (9, 0)]) (Nat.le_of_ble_eq_true rfl) rfl ?_
    refine ev_iload_n rfl ?_
    refine ev_aload_n rfl ?_
    refine g_getv (r := 42) (v := 4) g56612 ad42 (by decide) ft12_1 (((jw_ne e56612 (Or.inr (by decide))).trans ((jw_ne e56610 (Or.inr (by decide))).trans ((kk56608.v (by decide)).trans ew0)))) ?_
    refine ev_icmpge f256_55 (fun c56613 => absurd c56613 (by omega)) (fun c56613 => ?_)
    refine ev_aload_n rfl ?_
    refine ev_dup (by decide) ?_
    refine g_getv (r := 42) (v := 1) g56612 ad42 (by decide) ft12_5 ((jw_eq e56612)) ?_
    refine ev_aload_n rfl ?_
    refine g_getp (r := 42) (c := 43) g56612 ad42 (by decide) (by decide) rf42_2 ft12_2 ?_
    refine ev_iload_n rfl ?_
    refine g_iald g56612 ad43 rt43 (by omega) (by omega) (fun v56614 ev56614 lv56614 uv56614 => ?_)
    have xv56614 := (g56612.ex.2.1 (0 : Int).toNat (by rw [(((jw_ne e56612 (Or.inr (by decide))).trans ((jw_ne e56610 (Or.inr (by decide))).trans ((kk56608.v (by decide)).trans ew0))))]; omega))
    rw [ev56614] at xv56614
    refine ev_imul (r := v56614) (by unfold w32; omega) ?_
    refine g_putf (r := 42) g56612 ad42 (by decide) ft12_5 (by decide) (fun e => absurd e nz12_5) rf42_5 (by decide) (by omega) (by omega) (fun h56615 e56615 g56615 => ?_)
    have k56615 := k56612.wr e56615 rfl
    refine ev_iinc (w := 1) (L' := [(2, 42), (0, 1), (9, 0), (9, 0)]) rfl (by decide) rfl ?_
    refine ev_goto f256_26 ?_
    refine ev_iload_n rfl ?_
    refine ev_aload_n rfl ?_
    refine g_getv (r := 42) (v := 4) g56615 ad42 (by decide) ft12_1 (((jw_ne e56615 (Or.inr (by decide))).trans ((jw_ne e56612 (Or.inr (by decide))).trans ((jw_ne e56610 (Or.inr (by decide))).trans ((kk56608.v (by decide)).trans ew0))))) ?_
    refine ev_icmpge f256_55 (fun c56616 => absurd c56616 (by omega)) (fun c56616 => ?_)
    refine ev_aload_n rfl ?_
    refine ev_dup (by decide) ?_
    refine g_getv (r := 42) (v := v56614) g56615 ad42 (by decide) ft12_5 ((jw_eq e56615)) ?_
    refine ev_aload_n rfl ?_
    refine g_getp (r := 42) (c := 43) g56615 ad42 (by decide) (by decide) rf42_2 ft12_2 ?_
    refine ev_iload_n rfl ?_
    refine g_iald g56615 ad43 rt43 (by omega) (by omega) (fun v56617 ev56617 lv56617 uv56617 => ?_)
    have xv56617 := (g56615.ex.2.1 (1 : Int).toNat (by rw [(((jw_ne e56615 (Or.inr (by decide))).trans ((jw_ne e56612 (Or.inr (by decide))).trans ((jw_ne e56610 (Or.inr (by decide))).trans ((kk56608.v (by decide)).trans ew0)))))]; omega))
    rw [ev56617] at xv56617
    refine g_imulB (a := 3) (b := 3) (a' := 2) (b' := 2) (by omega) (by omega) (by omega) (by omega) (by decide) (lo := 4) (hi := 9) (by decide) (by decide) (fun v56618 ev56618 lv56618 uv56618 => ?_)
    refine g_putf (r := 42) g56615 ad42 (by decide) ft12_5 (by decide) (fun e => absurd e nz12_5) rf42_5 (by decide) (by omega) (by omega) (fun h56619 e56619 g56619 => ?_)
    have k56619 := k56615.wr e56619 rfl
    refine ev_iinc (w := 2) (L' := [(2, 42), (0, 2), (9, 0), (9, 0)]) rfl (by decide) rfl ?_
    refine ev_goto f256_26 ?_
    refine ev_iload_n rfl ?_
    refine ev_aload_n rfl ?_
    refine g_getv (r := 42) (v := 4) g56619 ad42 (by decide) ft12_1 (((jw_ne e56619 (Or.inr (by decide))).trans ((jw_ne e56615 (Or.inr (by decide))).trans ((jw_ne e56612 (Or.inr (by decide))).trans ((jw_ne e56610 (Or.inr (by decide))).trans ((kk56608.v (by decide)).trans ew0)))))) ?_
    refine ev_icmpge f256_55 (fun c56620 => absurd c56620 (by omega)) (fun c56620 => ?_)
    refine ev_aload_n rfl ?_
    refine ev_dup (by decide) ?_
    refine g_getv (r := 42) (v := v56618) g56619 ad42 (by decide) ft12_5 ((jw_eq e56619)) ?_
    refine ev_aload_n rfl ?_
    refine g_getp (r := 42) (c := 43) g56619 ad42 (by decide) (by decide) rf42_2 ft12_2 ?_
    refine ev_iload_n rfl ?_
    refine g_iald g56619 ad43 rt43 (by omega) (by omega) (fun v56621 ev56621 lv56621 uv56621 => ?_)
    have xv56621 := (g56619.ex.2.1 (2 : Int).toNat (by rw [(((jw_ne e56619 (Or.inr (by decide))).trans ((jw_ne e56615 (Or.inr (by decide))).trans ((jw_ne e56612 (Or.inr (by decide))).trans ((jw_ne e56610 (Or.inr (by decide))).trans ((kk56608.v (by decide)).trans ew0))))))]; omega))
    rw [ev56621] at xv56621
    refine g_imulB (a := 9) (b := 3) (a' := 4) (b' := 2) (by omega) (by omega) (by omega) (by omega) (by decide) (lo := 8) (hi := 27) (by decide) (by decide) (fun v56622 ev56622 lv56622 uv56622 => ?_)
    refine g_putf (r := 42) g56619 ad42 (by decide) ft12_5 (by decide) (fun e => absurd e nz12_5) rf42_5 (by decide) (by omega) (by omega) (fun h56623 e56623 g56623 => ?_)
    have k56623 := k56619.wr e56623 rfl
    refine ev_iinc (w := 3) (L' := [(2, 42), (0, 3), (9, 0), (9, 0)]) rfl (by decide) rfl ?_
    refine ev_goto f256_26 ?_
    refine ev_iload_n rfl ?_
    refine ev_aload_n rfl ?_
    refine g_getv (r := 42) (v := 4) g56623 ad42 (by decide) ft12_1 (((jw_ne e56623 (Or.inr (by decide))).trans ((jw_ne e56619 (Or.inr (by decide))).trans ((jw_ne e56615 (Or.inr (by decide))).trans ((jw_ne e56612 (Or.inr (by decide))).trans ((jw_ne e56610 (Or.inr (by decide))).trans ((kk56608.v (by decide)).trans ew0))))))) ?_
    refine ev_icmpge f256_55 (fun c56624 => absurd c56624 (by omega)) (fun c56624 => ?_)
    refine ev_aload_n rfl ?_
    refine ev_dup (by decide) ?_
    refine g_getv (r := 42) (v := v56622) g56623 ad42 (by decide) ft12_5 ((jw_eq e56623)) ?_
    refine ev_aload_n rfl ?_
    refine g_getp (r := 42) (c := 43) g56623 ad42 (by decide) (by decide) rf42_2 ft12_2 ?_
    refine ev_iload_n rfl ?_
    refine g_iald g56623 ad43 rt43 (by omega) (by omega) (fun v56625 ev56625 lv56625 uv56625 => ?_)
    have xv56625 := (g56623.ex.2.1 (3 : Int).toNat (by rw [(((jw_ne e56623 (Or.inr (by decide))).trans ((jw_ne e56619 (Or.inr (by decide))).trans ((jw_ne e56615 (Or.inr (by decide))).trans ((jw_ne e56612 (Or.inr (by decide))).trans ((jw_ne e56610 (Or.inr (by decide))).trans ((kk56608.v (by decide)).trans ew0)))))))]; omega))
    rw [ev56625] at xv56625
    refine g_imulB (a := 27) (b := 3) (a' := 8) (b' := 2) (by omega) (by omega) (by omega) (by omega) (by decide) (lo := 16) (hi := 81) (by decide) (by decide) (fun v56626 ev56626 lv56626 uv56626 => ?_)
    refine g_putf (r := 42) g56623 ad42 (by decide) ft12_5 (by decide) (fun e => absurd e nz12_5) rf42_5 (by decide) (by omega) (by omega) (fun h56627 e56627 g56627 => ?_)
    have k56627 := k56623.wr e56627 rfl
    refine ev_iinc (w := 4) (L' := [(2, 42), (0, 4), (9, 0), (9, 0)]) rfl (by decide) rfl ?_
    refine ev_goto f256_26 ?_
    refine ev_iload_n rfl ?_
    refine ev_aload_n rfl ?_
    refine g_getv (r := 42) (v := 4) g56627 ad42 (by decide) ft12_1 (((jw_ne e56627 (Or.inr (by decide))).trans ((jw_ne e56623 (Or.inr (by decide))).trans ((jw_ne e56619 (Or.inr (by decide))).trans ((jw_ne e56615 (Or.inr (by decide))).trans ((jw_ne e56612 (Or.inr (by decide))).trans ((jw_ne e56610 (Or.inr (by decide))).trans ((kk56608.v (by decide)).trans ew0)))))))) ?_
    refine ev_icmpge f256_55 (fun c56628 => ?_) (fun c56628 => absurd c56628 (by omega))
    refine ev_iconst ?_
    refine ev_istore_n (L' := [(2, 42), (0, 0), (9, 0), (9, 0)]) (Nat.le_of_ble_eq_true rfl) rfl ?_
    exact (s256w_4_l ew0 164) _ _ _ _ _ _ g56627 k56627 (by omega) (by omega) (((jw_ne e56627 (Or.inr (by decide))).trans ((jw_ne e56623 (Or.inr (by decide))).trans ((jw_ne e56619 (Or.inr (by decide))).trans ((jw_ne e56615 (Or.inr (by decide))).trans ((jw_ne e56612 (Or.inr (by decide))).trans ((jw_ne e56610 (Or.inr (by decide))).trans ((kk56608.v (by decide)).trans ew0)))))))) (by omega) (by omega) ((jw_eq e56627)) (by omega) (by omega) (fun s t hs ht => by omega) (by omega)
  · have c56611b := jcmpL_geN c56611
    refine ev_iconst ?_
    exact ev_ret rfl (by decide) (by decide) ⟨⟨_, rfl, by omega, by omega, g56610, k56610⟩, fun r e n => by cases e; exact absurd rfl n⟩
theorem s256w {G : GH} {h : JH} (g : Gd G h) : jOk 4 0 0 256 [(2, 42)] h (fun v h' => PI G [(46, 0), (47, 0), (42, 6), (42, 9)] h 0 0 1 v h' ∧ ∀ r, v = some (0, r) → r ≠ 0 → Sw h') := by
  obtain ⟨w, e, l, u⟩ := g.rd ad42 (show 1 < 66 by decide) rf42_1
  rcases (show w = 0 ∨ w = 1 ∨ w = 2 ∨ w = 3 ∨ w = 4 by omega) with f | f | f | f | f <;> subst f
  · exact jOk_le (by decide) (s256w_0 g e)
  · exact jOk_le (by decide) (s256w_1 g e)
  · exact jOk_le (by decide) (s256w_2 g e)
  · exact jOk_le (by decide) (s256w_3 g e)
  · exact jOk_le (by decide) (s256w_4 g e)
set_option maxHeartbeats 4000000 in
theorem s297_l {G : GH} {h : JH} {w0 : Int} (ew0 : h.2.2 42 36 = w0) (lw0 : 0 ≤ w0) (uw0 : w0 ≤ 5) {w1 : Int} (ew1 : h.2.2 42 9 = w1) (lw1 : 0 ≤ w1) (uw1 : w1 ≤ 6) {w2 : Int} (ew2 : h.2.2 48 (w0).toNat = w2) (lw2 : 1 ≤ w2) (uw2 : w2 ≤ 100) (F0 : (w0 + (-w1)) ≤ (-1)) (hS : Sw h) : ∀ N : Nat, (∀ (h1 : JH) (x1 x3 : Int), Gd G h1 → Kp [] h h1 → (-9223372036854775808) ≤ x1 → x1 ≤ 9223372036854775807 → 0 ≤ x3 → x3 ≤ 81 → ((-x3) + 81) < N → jEv (jOk 100) none (fun _ => 0) c297_0 0 0 (PI G [] h 1 (-9223372036854775808) 9223372036854775807) (c297_14, [(2, 42), (1, x1), (9, 0), (0, x3)], [], h1, 0, 0)) := by
  intro N
  induction N with
  | zero => exact fun h1 x1 x3 g1 k1 b0 b1 b2 b3 hm => absurd hm (by omega)
  | succ N ih =>
    show _
    intro h1 x1 x3 g1 k1 b0 b1 b2 b3 hm
    refine ev_iload_n rfl ?_
    refine ev_aload_n rfl ?_
    obtain ⟨v56938, ev56938, lv56938, uv56938⟩ := g1.rd ad42 (show 5 < 66 by decide) rf42_5
    refine g_getv (r := 42) (v := v56938) g1 ad42 (by decide) ft12_5 ev56938 ?_
    refine ev_icmpge f297_50 (fun c56939 => ?_) (fun c56939 => ?_)
    · refine ev_lload_n rfl ?_
      exact ev_ret rfl (by decide) (by decide) ⟨_, rfl, by omega, by omega, g1, k1⟩
    · refine ev_lload_n rfl ?_
      refine ev_aload_n rfl ?_
      refine g_getp (r := 42) (c := 47) g1 ad42 (by decide) (by decide) rf42_7 ft12_7 ?_
      refine ev_iload_n rfl ?_
      refine g_lald g1 ad47 rt47 (by omega) (by omega) (fun v56940 ev56940 lv56940 uv56940 => ?_)
      refine ev_aload_n rfl ?_
      refine ev_aload_n rfl ?_
      refine ev_iconst ?_
      refine ev_iload_n rfl ?_
      refine ev_iconst ?_
      refine ev_call (jcall_v (A := [(0, 0), (0, x3), (0, 0)]) (S' := [(2, 42), (1, v56940), (1, x1)]) (r := 42) rfl (g1.lt ad42) (g1.tg ad42) (Nat.le_of_ble_eq_true rfl)) (jOk_le (by decide) (s296 g1 (by omega) (by omega) (by omega) (by omega) (by omega) (by omega) (((k1.v (by decide)).trans ew0)) (by omega) (by omega) (((k1.v (by decide)).trans ew1)) (by omega) (by omega) (((k1.v rfl).trans ew2)) (by omega) (by omega) (ev56938) (by omega) (by omega) (by omega) (by omega) (by omega) (by omega) (hS.kp k1 rfl rfl (fun _ => rfl) (fun _ => rfl)))) (by decide) (by decide) (fun w56941 h56941 q56941 => ?_)
      obtain ⟨v56942, rfl, lv56942, uv56942, g56941, kk56941⟩ := q56941
      have k56941 := k1.tr kk56941 (by decide)
      show jEv _ _ _ _ _ _ _ (_, [(2, 42), (1, x1), (9, 0), (0, x3)], [(0, v56942), (2, 42), (1, v56940), (1, x1)], _, _, _)
      refine ev_call (jcall_v (A := [(0, v56942)]) (S' := [(1, v56940), (1, x1)]) (r := 42) rfl (g56941.lt ad42) (g56941.tg ad42) (Nat.le_of_ble_eq_true rfl)) (jOk_le (by decide) (s288 g56941 (by omega) (by omega))) (by decide) (by decide) (fun w56943 h56943 q56943 => ?_)
      obtain ⟨v56944, rfl, lv56944, uv56944, g56943, kk56943⟩ := q56943
      have k56943 := k56941.tr kk56943 (by decide)
      show jEv _ _ _ _ _ _ _ (_, [(2, 42), (1, x1), (9, 0), (0, x3)], [(0, v56944), (1, v56940), (1, x1)], _, _, _)
      refine ev_i2l ?_
      refine g_lmulG (fun v56945 ev56945 lv56945 uv56945 => ?_)
      refine g_laddG (fun v56946 ev56946 lv56946 uv56946 => ?_)
      refine ev_lstore_n (L' := [(2, 42), (1, v56946), (9, 0), (0, x3)]) (Nat.le_of_ble_eq_true rfl) rfl ?_
      refine ev_iinc (w := (x3 + 1)) (L' := [(2, 42), (1, v56946), (9, 0), (0, (x3 + 1))]) rfl (by unfold w32; omega) rfl ?_
      refine ev_goto f297_14 ?_
      exact ih _ _ _ g56943 k56943 (by omega) (by omega) (by omega) (by omega) (by omega)
set_option maxHeartbeats 4000000 in
theorem s297 {G : GH} {h : JH} (g : Gd G h) {w0 : Int} (ew0 : h.2.2 42 36 = w0) (lw0 : 0 ≤ w0) (uw0 : w0 ≤ 5) {w1 : Int} (ew1 : h.2.2 42 9 = w1) (lw1 : 0 ≤ w1) (uw1 : w1 ≤ 6) {w2 : Int} (ew2 : h.2.2 48 (w0).toNat = w2) (lw2 : 1 ≤ w2) (uw2 : w2 ≤ 100) (F0 : (w0 + (-w1)) ≤ (-1)) (hS : Sw h) : jOk 101 0 0 297 [(2, 42)] h (PI G [] h 1 (-9223372036854775808) 9223372036854775807) := by
  refine ⟨by decide, by rw [ml297]; exact Nat.le_of_ble_eq_true rfl, ?_⟩
  rw [ml297, pp297]
  show jEv _ none _ c297_0 0 0 _ (c297_0, [(2, 42), (9, 0), (9, 0), (9, 0)], [], h, 0, 0)
  have k0 := Kp.rf [] h
  refine ev_aload_n rfl ?_
  obtain ⟨v56947, ev56947, lv56947, uv56947⟩ := g.rd ad42 (show 37 < 66 by decide) rf42_37
  refine g_getv (r := 42) (v := v56947) g ad42 (by decide) ft12_37 ev56947 ?_
  refine ev_iconst ?_
  refine ev_icmpeq f297_10 (fun c56948 => ?_) (fun c56948 => ?_)
  · refine ev_lconst ?_
    refine ev_lstore_n (L' := [(2, 42), (1, 0), (9, 0), (9, 0)]) (Nat.le_of_ble_eq_true rfl) rfl ?_
    refine ev_iconst ?_
    refine ev_istore_n (L' := [(2, 42), (1, 0), (9, 0), (0, 0)]) (Nat.le_of_ble_eq_true rfl) rfl ?_
    exact (s297_l ew0 lw0 uw0 ew1 lw1 uw1 ew2 lw2 uw2 F0 hS 164) _ _ _ g k0 (by omega) (by omega) (by omega) (by omega) (by omega)
  · refine ev_lconst ?_
    exact ev_ret rfl (by decide) (by decide) ⟨_, rfl, by omega, by omega, g, k0⟩
set_option maxHeartbeats 4000000 in
theorem s298 {G : GH} {h : JH} (g : Gd G h) {a1 : Int} (la1 : 0 ≤ a1) (ua1 : a1 ≤ 5) {a2 : Int} (la2 : (-2147483648) ≤ a2) (ua2 : a2 ≤ 2147483647) {a3 : Int} (la3 : (-2147483648) ≤ a3) (ua3 : a3 ≤ 2147483647) {a4 : Int} (la4 : 0 ≤ a4) (ua4 : a4 ≤ 1) {w0 : Int} (ew0 : h.2.2 42 9 = w0) (lw0 : 0 ≤ w0) (uw0 : w0 ≤ 6) {w1 : Int} (ew1 : h.2.2 48 (a1).toNat = w1) (lw1 : 1 ≤ w1) (uw1 : w1 ≤ 100) (F0 : (a1 + (-w0)) ≤ (-1)) (hS : Sw h) : jOk 204 0 0 298 [(2, 42), (0, a1), (0, a2), (0, a3), (0, a4)] h (fun v h' => PI G [(42, 37), (42, 38), (42, 39), (42, 40), (64, 0), (65, 0)] h 1 (-9223372036854775808) 9223372036854775807 v h' ∧ (a4 = 0 → ∀ m : Nat, (m : Int) < w1 → Bok h' (a1).toNat m)) := by
  refine ⟨by decide, by rw [ml298]; exact Nat.le_of_ble_eq_true rfl, ?_⟩
  rw [ml298, pp298]
  show jEv _ none _ c298_0 0 0 _ (c298_0, [(2, 42), (0, a1), (0, a2), (0, a3), (0, a4)], [], h, 0, 0)
  have k0 := Kp.rf [(42, 37), (42, 38), (42, 39), (42, 40), (64, 0), (65, 0)] h
  refine ev_aload_n rfl ?_
  refine ev_iload_n rfl ?_
  refine ev_iload_n rfl ?_
  refine ev_iload_n rfl ?_
  refine ev_iload rfl ?_
  refine ev_in (d := 202) (a := 0) (b := 0) (cd' := c291_0) (m := 6) (L0 := [(2, 42), (0, a1), (0, a2), (0, a3), (0, a4), (9, 0)]) (jcall_v (A := [(0, a4), (0, a3), (0, a2), (0, a1)]) (S' := []) (r := 42) rfl (g.lt ad42) (g.tg ad42) (Nat.le_of_ble_eq_true rfl)) (by decide) ml291 pp291 (Nat.le_of_ble_eq_true rfl) rfl (by decide) (by decide) ?_
  refine ev_aload_n rfl ?_
  refine ev_iload_n rfl ?_
  refine g_putf (r := 42) g ad42 (by decide) ft12_36 (by decide) (fun e => absurd e nz12_36) rf42_36 (by decide) (by omega) (by omega) (fun h56985 e56985 g56985 => ?_)
  have k56985 := k0.wr e56985 rfl
  refine ev_aload_n rfl ?_
  refine ev_iload_n rfl ?_
  refine g_putf (r := 42) g56985 ad42 (by decide) ft12_37 (by decide) (fun e => absurd e nz12_37) rf42_37 (by decide) (by omega) (by omega) (fun h56986 e56986 g56986 => ?_)
  have k56986 := k56985.wr e56986 rfl
  refine ev_aload_n rfl ?_
  refine ev_iload_n rfl ?_
  refine g_putf (r := 42) g56986 ad42 (by decide) ft12_38 (by decide) (fun e => absurd e nz12_38) rf42_38 (by decide) (by omega) (by omega) (fun h56987 e56987 g56987 => ?_)
  have k56987 := k56986.wr e56987 rfl
  refine ev_aload_n rfl ?_
  refine ev_iload rfl ?_
  refine g_putf (r := 42) g56987 ad42 (by decide) ft12_39 (by decide) (fun _ => by omega) rf42_39 (by decide) (by omega) (by omega) (fun h56988 e56988 g56988 => ?_)
  have k56988 := k56987.wr e56988 rfl
  refine ev_iconst ?_
  refine ev_istore (L' := [(2, 42), (0, a1), (0, a2), (0, a3), (0, a4), (0, 0)]) (Nat.le_of_ble_eq_true rfl) rfl ?_
  refine ev_iload rfl ?_
  refine ev_iconst ?_
  refine ev_icmpge f291_44 (fun c56989 => absurd c56989 (by omega)) (fun c56989 => ?_)
  refine ev_aload_n rfl ?_
  refine g_getp (r := 42) (c := 64) g56988 ad42 (by decide) (by decide) rf42_34 ft12_34 ?_
  refine ev_iload rfl ?_
  refine ev_iconst ?_
  refine g_iast g56988 ad64 rt64 (fun _ => rfl) (by omega) (by omega) (by omega) (by omega) (fun h56990 e56990 g56990 => ?_)
  have k56990 := k56988.wr e56990 rfl
  refine ev_iinc (w := 1) (L' := [(2, 42), (0, a1), (0, a2), (0, a3), (0, a4), (0, 1)]) rfl (by decide) rfl ?_
  refine ev_goto f291_24 ?_
  refine ev_iload rfl ?_
  refine ev_iconst ?_
  refine ev_icmpge f291_44 (fun c56991 => absurd c56991 (by omega)) (fun c56991 => ?_)
  refine ev_aload_n rfl ?_
  refine g_getp (r := 42) (c := 64) g56990 ad42 (by decide) (by decide) rf42_34 ft12_34 ?_
  refine ev_iload rfl ?_
  refine ev_iconst ?_
  refine g_iast g56990 ad64 rt64 (fun _ => rfl) (by omega) (by omega) (by omega) (by omega) (fun h56992 e56992 g56992 => ?_)
  have k56992 := k56990.wr e56992 rfl
  refine ev_iinc (w := 2) (L' := [(2, 42), (0, a1), (0, a2), (0, a3), (0, a4), (0, 2)]) rfl (by decide) rfl ?_
  refine ev_goto f291_24 ?_
  refine ev_iload rfl ?_
  refine ev_iconst ?_
  refine ev_icmpge f291_44 (fun c56993 => absurd c56993 (by omega)) (fun c56993 => ?_)
  refine ev_aload_n rfl ?_
  refine g_getp (r := 42) (c := 64) g56992 ad42 (by decide) (by decide) rf42_34 ft12_34 ?_
  refine ev_iload rfl ?_
  refine ev_iconst ?_
  refine g_iast g56992 ad64 rt64 (fun _ => rfl) (by omega) (by omega) (by omega) (by omega) (fun h56994 e56994 g56994 => ?_)
  have k56994 := k56992.wr e56994 rfl
  refine ev_iinc (w := 3) (L' := [(2, 42), (0, a1), (0, a2), (0, a3), (0, a4), (0, 3)]) rfl (by decide) rfl ?_
  refine ev_goto f291_24 ?_
  refine ev_iload rfl ?_
  refine ev_iconst ?_
  refine ev_icmpge f291_44 (fun c56995 => absurd c56995 (by omega)) (fun c56995 => ?_)
  refine ev_aload_n rfl ?_
  refine g_getp (r := 42) (c := 64) g56994 ad42 (by decide) (by decide) rf42_34 ft12_34 ?_
  refine ev_iload rfl ?_
  refine ev_iconst ?_
  refine g_iast g56994 ad64 rt64 (fun _ => rfl) (by omega) (by omega) (by omega) (by omega) (fun h56996 e56996 g56996 => ?_)
  have k56996 := k56994.wr e56996 rfl
  refine ev_iinc (w := 4) (L' := [(2, 42), (0, a1), (0, a2), (0, a3), (0, a4), (0, 4)]) rfl (by decide) rfl ?_
  refine ev_goto f291_24 ?_
  refine ev_iload rfl ?_
  refine ev_iconst ?_
  refine ev_icmpge f291_44 (fun c56997 => ?_) (fun c56997 => absurd c56997 (by omega))
  refine ev_ret rfl (by decide) (by decide) ?_
  show jEv _ _ _ _ _ _ _ (_, [(2, 42), (0, a1), (0, a2), (0, a3), (0, a4)], [], _, _, _)
  refine ev_aload_n rfl ?_
  refine ev_iconst ?_
  refine ev_iconst ?_
  refine ev_call (jcall_v (A := [(0, 0), (0, 0)]) (S' := []) (r := 42) rfl (g56996.lt ad42) (g56996.tg ad42) (Nat.le_of_ble_eq_true rfl)) (jOk_le (by decide) (s294 g56996 (by omega) (by omega) (by omega) (by omega) (((jw_ne e56996 (Or.inl (by decide))).trans ((jw_ne e56994 (Or.inl (by decide))).trans ((jw_ne e56992 (Or.inl (by decide))).trans ((jw_ne e56990 (Or.inl (by decide))).trans ((jw_ne e56988 (Or.inr (by decide))).trans ((jw_ne e56987 (Or.inr (by decide))).trans ((jw_ne e56986 (Or.inr (by decide))).trans (jw_eq e56985))))))))) (by omega) (by omega) (((jw_ne e56996 (Or.inl (by decide))).trans ((jw_ne e56994 (Or.inl (by decide))).trans ((jw_ne e56992 (Or.inl (by decide))).trans ((jw_ne e56990 (Or.inl (by decide))).trans ((jw_ne e56988 (Or.inr (by decide))).trans ((jw_ne e56987 (Or.inr (by decide))).trans ((jw_ne e56986 (Or.inr (by decide))).trans ((jw_ne e56985 (Or.inr (by decide))).trans ew0))))))))) (by omega) (by omega) (((jw_ne e56996 (Or.inl (by decide))).trans ((jw_ne e56994 (Or.inl (by decide))).trans ((jw_ne e56992 (Or.inl (by decide))).trans ((jw_ne e56990 (Or.inl (by decide))).trans ((jw_ne e56988 (Or.inl (by decide))).trans ((jw_ne e56987 (Or.inl (by decide))).trans ((jw_ne e56986 (Or.inl (by decide))).trans ((jw_ne e56985 (Or.inl (by decide))).trans ew1))))))))) (by omega) (by omega) (by omega) (by omega) (by omega) (g56996.ex.2.2.2.1 (a1).toNat (by rw [(((jw_ne e56996 (Or.inl (by decide))).trans ((jw_ne e56994 (Or.inl (by decide))).trans ((jw_ne e56992 (Or.inl (by decide))).trans ((jw_ne e56990 (Or.inl (by decide))).trans ((jw_ne e56988 (Or.inr (by decide))).trans ((jw_ne e56987 (Or.inr (by decide))).trans ((jw_ne e56986 (Or.inr (by decide))).trans ((jw_ne e56985 (Or.inr (by decide))).trans ew0)))))))))]; omega)))) (by decide) (by decide) (fun w56998 h56998 q56998 => ?_)
  obtain ⟨q56998, vs56998⟩ := q56998
  obtain ⟨v56999, rfl, lv56999, uv56999, g56998, kk56998⟩ := q56998
  have k56998 := k56996.tr kk56998 (by decide)
  show jEv _ _ _ _ _ _ _ (_, [(2, 42), (0, a1), (0, a2), (0, a3), (0, a4)], [(1, v56999)], _, _, _)
  refine ev_aload_n rfl ?_
  refine ev_call (jcall_v (A := []) (S' := [(1, v56999)]) (r := 42) rfl (g56998.lt ad42) (g56998.tg ad42) (Nat.le_of_ble_eq_true rfl)) (jOk_le (by decide) (s297 g56998 (((kk56998.v (by decide)).trans ((jw_ne e56996 (Or.inl (by decide))).trans ((jw_ne e56994 (Or.inl (by decide))).trans ((jw_ne e56992 (Or.inl (by decide))).trans ((jw_ne e56990 (Or.inl (by decide))).trans ((jw_ne e56988 (Or.inr (by decide))).trans ((jw_ne e56987 (Or.inr (by decide))).trans ((jw_ne e56986 (Or.inr (by decide))).trans (jw_eq e56985)))))))))) (by omega) (by omega) (((kk56998.v (by decide)).trans ((jw_ne e56996 (Or.inl (by decide))).trans ((jw_ne e56994 (Or.inl (by decide))).trans ((jw_ne e56992 (Or.inl (by decide))).trans ((jw_ne e56990 (Or.inl (by decide))).trans ((jw_ne e56988 (Or.inr (by decide))).trans ((jw_ne e56987 (Or.inr (by decide))).trans ((jw_ne e56986 (Or.inr (by decide))).trans ((jw_ne e56985 (Or.inr (by decide))).trans ew0)))))))))) (by omega) (by omega) (((kk56998.v rfl).trans ((jw_ne e56996 (Or.inl (by decide))).trans ((jw_ne e56994 (Or.inl (by decide))).trans ((jw_ne e56992 (Or.inl (by decide))).trans ((jw_ne e56990 (Or.inl (by decide))).trans ((jw_ne e56988 (Or.inl (by decide))).trans ((jw_ne e56987 (Or.inl (by decide))).trans ((jw_ne e56986 (Or.inl (by decide))).trans ((jw_ne e56985 (Or.inl (by decide))).trans ew1)))))))))) (by omega) (by omega) (by omega) (((((((((hS.wr e56985 (by decide)).wr e56986 (by decide)).wr e56987 (by decide)).wr e56988 (by decide)).wrA e56990 (by decide)).wrA e56992 (by decide)).wrA e56994 (by decide)).wrA e56996 (by decide)).kp kk56998 rfl rfl (fun _ => rfl) (fun _ => rfl)))) (by decide) (by decide) (fun w57000 h57000 q57000 => ?_)
  obtain ⟨v57001, rfl, lv57001, uv57001, g57000, kk57000⟩ := q57000
  have k57000 := k56998.tr kk57000 (by decide)
  show jEv _ _ _ _ _ _ _ (_, [(2, 42), (0, a1), (0, a2), (0, a3), (0, a4)], [(1, v57001), (1, v56999)], _, _, _)
  refine g_lsubG (fun v57002 ev57002 lv57002 uv57002 => ?_)
  exact ev_ret rfl (by decide) (by decide) ⟨⟨_, rfl, by omega, by omega, g57000, k57000⟩, fun z m hm => ((vs56998.all (Cpl.mk (((jw_ne e56996 (Or.inl (by decide))).trans ((jw_ne e56994 (Or.inl (by decide))).trans ((jw_ne e56992 (Or.inl (by decide))).trans ((jw_ne e56990 (Or.inl (by decide))).trans (jw_eq e56988)))))) z (((jw_ne e56996 (Or.inr (by decide))).trans ((jw_ne e56994 (Or.inr (by decide))).trans ((jw_ne e56992 (Or.inr (by decide))).trans (jw_eq e56990))))) (((jw_ne e56996 (Or.inr (by decide))).trans ((jw_ne e56994 (Or.inr (by decide))).trans (jw_eq e56992)))) (((jw_ne e56996 (Or.inr (by decide))).trans (jw_eq e56994))) ((jw_eq e56996))) (by rw [(((jw_ne e56996 (Or.inl (by decide))).trans ((jw_ne e56994 (Or.inl (by decide))).trans ((jw_ne e56992 (Or.inl (by decide))).trans ((jw_ne e56990 (Or.inl (by decide))).trans ((jw_ne e56988 (Or.inl (by decide))).trans ((jw_ne e56987 (Or.inl (by decide))).trans ((jw_ne e56986 (Or.inl (by decide))).trans ((jw_ne e56985 (Or.inl (by decide))).trans ew1)))))))))]; omega) hm).kg kk57000 (fun _ => rfl) (fun _ => rfl) (fun _ => rfl))⟩
