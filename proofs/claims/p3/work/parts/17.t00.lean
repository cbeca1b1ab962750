set_option maxHeartbeats 4000000 in
theorem s326_l {G : GH} {h : JH} {a1 : Int} (la1 : 0 ≤ a1) (ua1 : a1 ≤ 5) {a2 : Int} (la2 : 0 ≤ a2) (ua2 : a2 ≤ 3) {a3 : Int} (la3 : 1 ≤ a3) (ua3 : a3 ≤ 99) {a4 : Int} (la4 : 1 ≤ a4) (ua4 : a4 ≤ 99) {w0 : Int} (ew0 : h.2.2 42 9 = w0) (lw0 : 0 ≤ w0) (uw0 : w0 ≤ 6) {w1 : Int} (ew1 : h.2.2 48 (a1).toNat = w1) (lw1 : 1 ≤ w1) (uw1 : w1 ≤ 100) {w2 : Int} (ew2 : h.2.2 42 1 = w2) (lw2 : 0 ≤ w2) (uw2 : w2 ≤ 4) (F0 : (a1 + (-w0)) ≤ (-1)) (F1 : (a2 + (-w2)) ≤ (-1)) (F2 : (a3 + (-a4)) ≤ 0) : ∀ N : Nat, (∀ (h1 : JH) (x5 x6 : Int) (j7 j8 j9 j10 : AV), Gd G h1 → Kp [(46, 0), (47, 0), (42, 6), (42, 9), (42, 37), (42, 38), (42, 39), (42, 40), (64, 0), (65, 0), (45, 0), (53, 0), (66, 0)] h h1 → 0 ≤ a1 → a1 ≤ 5 → 0 ≤ a2 → a2 ≤ 3 → 1 ≤ a3 → a3 ≤ 99 → 1 ≤ a4 → a4 ≤ 99 → 1 ≤ x5 → x5 ≤ 99 → 1 ≤ x6 → x6 ≤ 100 → ((-a4) + x6) ≤ 1 → (a3 + (-x6)) ≤ 0 → PB h1 (a1).toNat a3 x6 → ((-202) * x6 + 61105) < N → jEv (jOk 204) none (fun _ => 0) c326_0 0 0 (PI G [(46, 0), (47, 0), (42, 6), (42, 9), (42, 37), (42, 38), (42, 39), (42, 40), (64, 0), (65, 0), (45, 0), (53, 0), (66, 0)] h 0 0 2147483647) (c326_14, [(2, 42), (0, a1), (0, a2), (0, a3), (0, a4), (0, x5), (0, x6), j7, j8, j9, j10], [], h1, 0, 0)) ∧ (∀ (h1 : JH) (x5 x6 x7 : Int) (j8 j9 j10 : AV), Gd G h1 → Kp [(46, 0), (47, 0), (42, 6), (42, 9), (42, 37), (42, 38), (42, 39), (42, 40), (64, 0), (65, 0), (45, 0), (53, 0), (66, 0)] h h1 → 0 ≤ a1 → a1 ≤ 5 → 0 ≤ a2 → a2 ≤ 3 → 1 ≤ a3 → a3 ≤ 99 → 1 ≤ a4 → a4 ≤ 99 → 1 ≤ x5 → x5 ≤ 99 → 1 ≤ x6 → x6 ≤ 99 → 0 ≤ x7 → x7 ≤ 100 → ((-a4) + x6) ≤ 0 → (a3 + (-x6)) ≤ 0 → PB h1 (a1).toNat a3 x6 → (∀ m : Nat, (m : Int) < w1 → Bok h1 (a1).toNat m) → PR h1 (a1).toNat x6 x7 → ((-202) * x6 + (-x7) + 61104) < N → jEv (jOk 204) none (fun _ => 0) c326_0 0 0 (PI G [(46, 0), (47, 0), (42, 6), (42, 9), (42, 37), (42, 38), (42, 39), (42, 40), (64, 0), (65, 0), (45, 0), (53, 0), (66, 0)] h 0 0 2147483647) (c326_49, [(2, 42), (0, a1), (0, a2), (0, a3), (0, a4), (0, x5), (0, x6), (0, x7), j8, j9, j10], [], h1, 0, 0)) ∧ (∀ (h1 : JH) (x5 x6 x7 x8 : Int) (j9 j10 : AV), Gd G h1 → Kp [(46, 0), (47, 0), (42, 6), (42, 9), (42, 37), (42, 38), (42, 39), (42, 40), (64, 0), (65, 0), (45, 0), (53, 0), (66, 0)] h h1 → 0 ≤ a1 → a1 ≤ 5 → 0 ≤ a2 → a2 ≤ 3 → 1 ≤ a3 → a3 ≤ 99 → 1 ≤ a4 → a4 ≤ 99 → 1 ≤ x5 → x5 ≤ 99 → 1 ≤ x6 → x6 ≤ 99 → 0 ≤ x7 → x7 ≤ 2147483647 → 1 ≤ x8 → x8 ≤ 100 → ((-a4) + x6) ≤ 0 → (a3 + (-x6)) ≤ 0 → (a3 + (-x8)) ≤ 0 → PB h1 (a1).toNat a3 (a4 + 1) → ((-202) * x8 + 40703) < N → jEv (jOk 204) none (fun _ => 0) c326_0 0 0 (PI G [(46, 0), (47, 0), (42, 6), (42, 9), (42, 37), (42, 38), (42, 39), (42, 40), (64, 0), (65, 0), (45, 0), (53, 0), (66, 0)] h 0 0 2147483647) (c326_114, [(2, 42), (0, a1), (0, a2), (0, a3), (0, a4), (0, x5), (0, x6), (0, x7), (0, x8), j9, j10], [], h1, 0, 0)) ∧ (∀ (h1 : JH) (x5 x6 x7 x8 x9 x10 : Int), Gd G h1 → Kp [(46, 0), (47, 0), (42, 6), (42, 9), (42, 37), (42, 38), (42, 39), (42, 40), (64, 0), (65, 0), (45, 0), (53, 0), (66, 0)] h h1 → 0 ≤ a1 → a1 ≤ 5 → 0 ≤ a2 → a2 ≤ 3 → 1 ≤ a3 → a3 ≤ 99 → 1 ≤ a4 → a4 ≤ 99 → 1 ≤ x5 → x5 ≤ 99 → 1 ≤ x6 → x6 ≤ 99 → 0 ≤ x7 → x7 ≤ 2147483647 → 1 ≤ x8 → x8 ≤ 99 → (-2147483648) ≤ x9 → x9 ≤ 2147483647 → 1 ≤ x10 → x10 ≤ 100 → ((-a4) + x6) ≤ 0 → (a3 + (-x6)) ≤ 0 → ((-a4) + x8) ≤ 0 → (a3 + (-x8)) ≤ 0 → PB h1 (a1).toNat a3 (a4 + 1) → ((-x10) + (-202) * x8 + 40702) < N → jEv (jOk 204) none (fun _ => 0) c326_0 0 0 (PI G [(46, 0), (47, 0), (42, 6), (42, 9), (42, 37), (42, 38), (42, 39), (42, 40), (64, 0), (65, 0), (45, 0), (53, 0), (66, 0)] h 0 0 2147483647) (c326_127, [(2, 42), (0, a1), (0, a2), (0, a3), (0, a4), (0, x5), (0, x6), (0, x7), (0, x8), (0, x9), (0, x10)], [], h1, 0, 0)) ∧ (∀ (h1 : JH) (x5 x6 x7 x8 : Int) (j9 j10 : AV), Gd G h1 → Kp [(46, 0), (47, 0), (42, 6), (42, 9), (42, 37), (42, 38), (42, 39), (42, 40), (64, 0), (65, 0), (45, 0), (53, 0), (66, 0)] h h1 → 0 ≤ a1 → a1 ≤ 5 → 0 ≤ a2 → a2 ≤ 3 → 1 ≤ a3 → a3 ≤ 99 → 1 ≤ a4 → a4 ≤ 99 → 1 ≤ x5 → x5 ≤ 99 → 1 ≤ x6 → x6 ≤ 99 → 0 ≤ x7 → x7 ≤ 2147483647 → 0 ≤ x8 → x8 ≤ 100 → ((-a4) + x6) ≤ 0 → (a3 + (-x6)) ≤ 0 → PB h1 (a1).toNat a3 (a4 + 1) → ((-202) * x8 + 20301) < N → jEv (jOk 204) none (fun _ => 0) c326_0 0 0 (PI G [(46, 0), (47, 0), (42, 6), (42, 9), (42, 37), (42, 38), (42, 39), (42, 40), (64, 0), (65, 0), (45, 0), (53, 0), (66, 0)] h 0 0 2147483647) (c326_189, [(2, 42), (0, a1), (0, a2), (0, a3), (0, a4), (0, x5), (0, x6), (0, x7), (0, x8), j9, j10], [], h1, 0, 0)) := by
  intro N
  induction N with
  | zero => exact ⟨fun h1 x5 x6 j7 j8 j9 j10 g1 k1 b0 b1 b2 b3 b4 b5 b6 b7 b8 b9 b10 b11 b12 b13 b14 hm => absurd hm (by omega), fun h1 x5 x6 x7 j8 j9 j10 g1 k1 b0 b1 b2 b3 b4 b5 b6 b7 b8 b9 b10 b11 b12 b13 b14 b15 b16 b17 b18 hm => absurd hm (by omega), fun h1 x5 x6 x7 x8 j9 j10 g1 k1 b0 b1 b2 b3 b4 b5 b6 b7 b8 b9 b10 b11 b12 b13 b14 b15 b16 b17 b18 b19 hm => absurd hm (by omega), fun h1 x5 x6 x7 x8 x9 x10 g1 k1 b0 b1 b2 b3 b4 b5 b6 b7 b8 b9 b10 b11 b12 b13 b14 b15 b16 b17 b18 b19 b20 b21 b22 b23 b24 hm => absurd hm (by omega), fun h1 x5 x6 x7 x8 j9 j10 g1 k1 b0 b1 b2 b3 b4 b5 b6 b7 b8 b9 b10 b11 b12 b13 b14 b15 b16 b17 b18 hm => absurd hm (by omega)⟩
  | succ N ih =>
    refine ⟨?_, ?_, ?_, ?_, ?_⟩
    · intro h1 x5 x6 j7 j8 j9 j10 g1 k1 b0 b1 b2 b3 b4 b5 b6 b7 b8 b9 b10 b11 b12 b13 H0 hm
      refine ev_iload rfl ?_
      refine ev_iload rfl ?_
      refine ev_icmpgt f326_94 (fun c63057 => ?_) (fun c63057 => ?_)
      · refine ev_aload_n rfl ?_
        refine g_getp (r := 42) (c := 45) g1 ad42 (by decide) (by decide) rf42_4 ft12_4 ?_
        refine ev_bipush ?_
        refine ev_iload_n rfl ?_
        refine ev_imul (r := (9 * a2)) (by unfold w32; omega) ?_
        refine ev_iload rfl ?_
        refine ev_iastG (r := 45) (j := ((9 * a2)).toNat) (g1.lt ad45) (g1.tg ad45) (by omega) (by rw [g1.ln ad45]; omega) (fun h63058 e63058 => ?_)
        have g63058 := g1.s45 e63058 (by omega) (by omega)
        have k63058 := k1.wr e63058 rfl
        refine ev_iload_n rfl ?_
        refine ev_istore (L' := [(2, 42), (0, a1), (0, a2), (0, a3), (0, a4), (0, x5), (0, a3), j7, j8, j9, j10]) (Nat.le_of_ble_eq_true rfl) rfl ?_
        refine ev_iconst ?_
        refine ev_istore (L' := [(2, 42), (0, a1), (0, a2), (0, a3), (0, a4), (0, x5), (0, a3), (0, 0), j8, j9, j10]) (Nat.le_of_ble_eq_true rfl) rfl ?_
        refine ev_iload_n rfl ?_
        refine ev_istore (L' := [(2, 42), (0, a1), (0, a2), (0, a3), (0, a4), (0, x5), (0, a3), (0, 0), (0, a3), j9, j10]) (Nat.le_of_ble_eq_true rfl) rfl ?_
        exact ih.2.2.1 _ _ _ _ _ _ _ g63058 k63058 (by omega) (by omega) (by omega) (by omega) (by omega) (by omega) (by omega) (by omega) (by omega) (by omega) (by omega) (by omega) (by omega) (by omega) (by omega) (by omega) (by omega) (by omega) (by omega) (show PB _ _ _ _ from (show a4 + 1 = x6 by omega) ▸ (PB.kp H0 ((Kp.rf [(45, 0)] _).wr e63058 rfl) (fun _ => rfl) (fun _ => rfl) (fun _ => rfl) (fun _ => rfl))) (by omega)
      · refine ev_aload_n rfl ?_
        refine g_getp (r := 42) (c := 45) g1 ad42 (by decide) (by decide) rf42_4 ft12_4 ?_
        refine ev_bipush ?_
        refine ev_iload_n rfl ?_
        refine ev_imul (r := (9 * a2)) (by unfold w32; omega) ?_
        refine ev_iload rfl ?_
        refine ev_iastG (r := 45) (j := ((9 * a2)).toNat) (g1.lt ad45) (g1.tg ad45) (by omega) (by rw [g1.ln ad45]; omega) (fun h63059 e63059 => ?_)
        have g63059 := g1.s45 e63059 (by omega) (by omega)
        have k63059 := k1.wr e63059 rfl
        refine ev_aload_n rfl ?_
        refine ev_call (jcall_v (A := []) (S' := []) (r := 42) rfl (g63059.lt ad42) (g63059.tg ad42) (Nat.le_of_ble_eq_true rfl)) (jOk_le (by decide) (s256 g63059 )) (by decide) (by decide) (fun w63060 h63060 q63060 => ?_)
        obtain ⟨v63061, rfl, lv63061, uv63061, g63060, kk63060⟩ := q63060
        have k63060 := k63059.tr kk63060 (by decide)
        show jEv _ _ _ _ _ _ _ (_, [(2, 42), (0, a1), (0, a2), (0, a3), (0, a4), (0, x5), (0, x6), j7, j8, j9, j10], [(0, v63061)], _, _, _)
        refine ev_pop (by decide) ?_
        refine ev_aload_n rfl ?_
        refine ev_iload_n rfl ?_
        refine ev_iconst ?_
        refine ev_iconst ?_
        refine ev_iconst ?_
        refine ev_call (jcall_v (A := [(0, 0), (0, 0), (0, 0), (0, a1)]) (S' := []) (r := 42) rfl (g63060.lt ad42) (g63060.tg ad42) (Nat.le_of_ble_eq_true rfl)) (jOk_le (by decide) (s298 g63060 (by omega) (by omega) (by omega) (by omega) (by omega) (by omega) (by omega) (by omega) (((kk63060.v (by decide)).trans ((jw_ne e63059 (Or.inl (by decide))).trans ((k1.v (by decide)).trans ew0)))) (by omega) (by omega) (((kk63060.v rfl).trans ((jw_ne e63059 (Or.inl (by decide))).trans ((k1.v rfl).trans ew1)))) (by omega) (by omega) (by omega))) (by decide) (by decide) (fun w63062 h63062 q63062 => ?_)
        obtain ⟨q63062, qn63062, bk63062⟩ := q63062
        obtain ⟨v63063, rfl, lv63063, uv63063, g63062, kk63062⟩ := q63062
        have k63062 := k63060.tr kk63062 (by decide)
        show jEv _ _ _ _ _ _ _ (_, [(2, 42), (0, a1), (0, a2), (0, a3), (0, a4), (0, x5), (0, x6), j7, j8, j9, j10], [(1, v63063)], _, _, _)
        refine ev_pop2 ?_
        refine ev_iconst ?_
        refine ev_istore (L' := [(2, 42), (0, a1), (0, a2), (0, a3), (0, a4), (0, x5), (0, x6), (0, 0), j8, j9, j10]) (Nat.le_of_ble_eq_true rfl) rfl ?_
        exact ih.2.1 _ _ _ _ _ _ _ g63062 k63062 (by omega) (by omega) (by omega) (by omega) (by omega) (by omega) (by omega) (by omega) (by omega) (by omega) (by omega) (by omega) (by omega) (by omega) (by omega) (by omega) (PB.kp (PB.kp (PB.kp H0 ((Kp.rf [(45, 0)] _).wr e63059 rfl) (fun _ => rfl) (fun _ => rfl) (fun _ => rfl) (fun _ => rfl)) kk63060 (fun _ => rfl) (fun _ => rfl) (fun _ => rfl) (fun _ => rfl)) kk63062 (fun _ => rfl) (fun _ => rfl) (fun _ => rfl) (fun _ => rfl)) (bk63062 rfl) (PR.start _ _ _) (by omega)
    · intro h1 x5 x6 x7 j8 j9 j10 g1 k1 b0 b1 b2 b3 b4 b5 b6 b7 b8 b9 b10 b11 b12 b13 b14 b15 H0 H1 H2 hm
      refine ev_iload rfl ?_
      refine ev_aload_n rfl ?_
      refine g_getp (r := 42) (c := 48) g1 ad42 (by decide) (by decide) rf42_10 ft12_10 ?_
      refine ev_iload_n rfl ?_
      refine g_ialdv (v := w1) g1 ad48 (by omega) (by omega) (((k1.v rfl).trans ew1)) ?_
      refine ev_icmpge f326_88 (fun c63064 => ?_) (fun c63064 => ?_)
      · refine ev_iinc (w := (x6 + 1)) (L' := [(2, 42), (0, a1), (0, a2), (0, a3), (0, a4), (0, x5), (0, (x6 + 1)), (0, x7), j8, j9, j10]) rfl (by unfold w32; omega) rfl ?_
        refine ev_goto f326_14 ?_
        exact ih.1 _ _ _ _ _ _ _ g1 k1 (by omega) (by omega) (by omega) (by omega) (by omega) (by omega) (by omega) (by omega) (by omega) (by omega) (by omega) (by omega) (by omega) (by omega) (PB.next H0 H2 (((k1.v rfl).trans ew1)) (by omega)) (by omega)
      · refine ev_aload_n rfl ?_
        refine g_getp (r := 42) (c := 66) g1 ad42 (by decide) (by decide) rf42_43 ft12_43 ?_
        refine ev_bipush ?_
        refine ev_iload rfl ?_
        refine ev_iconst ?_
        refine ev_isub (r := (x6 - 1)) (by unfold w32; omega) ?_
        refine ev_imul (r := (100 * x6 - 100)) (by unfold w32; omega) ?_
        refine ev_iload rfl ?_
        refine ev_iadd (r := (100 * x6 + x7 - 100)) (by unfold w32; omega) ?_
        refine ev_aload_n rfl ?_
        refine g_getp (r := 42) (c := 65) g1 ad42 (by decide) (by decide) rf42_35 ft12_35 ?_
        refine ev_iload rfl ?_
        refine g_bald g1 ad65 rt65 (by omega) (by omega) (fun v63065 ev63065 lv63065 uv63065 => ?_)
        refine g_bast (w := v63065) g1 ad66 rt66 (fun _ => rfl) (by omega) (by omega) (by unfold w8; omega) (by omega) (by omega) (fun h63066 e63066 g63066 => ?_)
        have k63066 := k1.wr e63066 rfl
        refine ev_iinc (w := (x7 + 1)) (L' := [(2, 42), (0, a1), (0, a2), (0, a3), (0, a4), (0, x5), (0, x6), (0, (x7 + 1)), j8, j9, j10]) rfl (by unfold w32; omega) rfl ?_
        refine ev_goto f326_49 ?_
        exact ih.2.1 _ _ _ _ _ _ _ g63066 k63066 (by omega) (by omega) (by omega) (by omega) (by omega) (by omega) (by omega) (by omega) (by omega) (by omega) (by omega) (by omega) (by omega) (by omega) (by omega) (by omega) (PB.wr H0 e63066 (by omega) (by omega)) (fun m hm => (H1 m hm).kg ((Kp.rf [(66, 0)] _).wr e63066 rfl) (fun _ => rfl) (fun _ => rfl) (fun _ => rfl)) (PR.step H2 (H1 _ (by omega)) (ev63065) (by omega) (by omega) (i := (100 * x6 + x7 - 100)) (by omega) e63066) (by omega)
    · intro h1 x5 x6 x7 x8 j9 j10 g1 k1 b0 b1 b2 b3 b4 b5 b6 b7 b8 b9 b10 b11 b12 b13 b14 b15 b16 b17 b18 H0 hm
      refine ev_iload rfl ?_
      refine ev_iload rfl ?_
      refine ev_icmpgt f326_186 (fun c63067 => ?_) (fun c63067 => ?_)
      · refine ev_iconst ?_
        refine ev_istore (L' := [(2, 42), (0, a1), (0, a2), (0, a3), (0, a4), (0, x5), (0, x6), (0, x7), (0, 0), j9, j10]) (Nat.le_of_ble_eq_true rfl) rfl ?_
        exact ih.2.2.2.2 _ _ _ _ _ _ _ g1 k1 (by omega) (by omega) (by omega) (by omega) (by omega) (by omega) (by omega) (by omega) (by omega) (by omega) (by omega) (by omega) (by omega) (by omega) (by omega) (by omega) (by omega) (by omega) H0 (by omega)
      · refine ev_iconst ?_
        refine ev_istore (L' := [(2, 42), (0, a1), (0, a2), (0, a3), (0, a4), (0, x5), (0, x6), (0, x7), (0, x8), (0, 0), j10]) (Nat.le_of_ble_eq_true rfl) rfl ?_
        refine ev_iload_n rfl ?_
        refine ev_istore (L' := [(2, 42), (0, a1), (0, a2), (0, a3), (0, a4), (0, x5), (0, x6), (0, x7), (0, x8), (0, 0), (0, a3)]) (Nat.le_of_ble_eq_true rfl) rfl ?_
        exact ih.2.2.2.1 _ _ _ _ _ _ _ g1 k1 (by omega) (by omega) (by omega) (by omega) (by omega) (by omega) (by omega) (by omega) (by omega) (by omega) (by omega) (by omega) (by omega) (by omega) (by omega) (by omega) (by omega) (by omega) (by omega) (by omega) (by omega) (by omega) (by omega) (by omega) H0 (by omega)
    · intro h1 x5 x6 x7 x8 x9 x10 g1 k1 b0 b1 b2 b3 b4 b5 b6 b7 b8 b9 b10 b11 b12 b13 b14 b15 b16 b17 b18 b19 b20 b21 b22 b23 H0 hm
      refine ev_iload rfl ?_
      refine ev_iload rfl ?_
      refine ev_icmpgt f326_162 (fun c63068 => ?_) (fun c63068 => ?_)
      · refine ev_iload rfl ?_
        refine ev_iload rfl ?_
        refine ev_icmpgt f326_172 (fun c63069 => ?_) (fun c63069 => ?_)
        · refine ev_iload rfl ?_
          refine ev_istore (L' := [(2, 42), (0, a1), (0, a2), (0, a3), (0, a4), (0, x5), (0, x8), (0, x7), (0, x8), (0, x9), (0, x10)]) (Nat.le_of_ble_eq_true rfl) rfl ?_
          refine ev_iload rfl ?_
          refine ev_istore (L' := [(2, 42), (0, a1), (0, a2), (0, a3), (0, a4), (0, x5), (0, x8), (0, x9), (0, x8), (0, x9), (0, x10)]) (Nat.le_of_ble_eq_true rfl) rfl ?_
          refine ev_iinc (w := (x8 + 1)) (L' := [(2, 42), (0, a1), (0, a2), (0, a3), (0, a4), (0, x5), (0, x8), (0, x9), (0, (x8 + 1)), (0, x9), (0, x10)]) rfl (by unfold w32; omega) rfl ?_
          refine ev_goto f326_114 ?_
          exact ih.2.2.1 _ _ _ _ _ _ _ g1 k1 (by omega) (by omega) (by omega) (by omega) (by omega) (by omega) (by omega) (by omega) (by omega) (by omega) (by omega) (by omega) (by omega) (by omega) (by omega) (by omega) (by omega) (by omega) (by omega) H0 (by omega)
        · refine ev_goto f326_180 ?_
          refine ev_iinc (w := (x8 + 1)) (L' := [(2, 42), (0, a1), (0, a2), (0, a3), (0, a4), (0, x5), (0, x6), (0, x7), (0, (x8 + 1)), (0, x9), (0, x10)]) rfl (by unfold w32; omega) rfl ?_
          refine ev_goto f326_114 ?_
          exact ih.2.2.1 _ _ _ _ _ _ _ g1 k1 (by omega) (by omega) (by omega) (by omega) (by omega) (by omega) (by omega) (by omega) (by omega) (by omega) (by omega) (by omega) (by omega) (by omega) (by omega) (by omega) (by omega) (by omega) (by omega) H0 (by omega)
      · refine ev_iload rfl ?_
        refine ev_aload_n rfl ?_
        refine ev_iload_n rfl ?_
        refine ev_iload rfl ?_
        refine ev_iload rfl ?_
        refine ev_call (jcall_v (A := [(0, x10), (0, x8), (0, a1)]) (S' := [(0, x9)]) (r := 42) rfl (g1.lt ad42) (g1.tg ad42) (Nat.le_of_ble_eq_true rfl)) (jOk_le (by decide) (s325 g1 (by omega) (by omega) (by omega) (by omega) (by omega) (by omega) (((k1.v (by decide)).trans ew0)) (by omega) (by omega) (((k1.v rfl).trans ew1)) (by omega) (by omega) (by omega))) (by decide) (by decide) (fun w63070 h63070 q63070 => ?_)
        obtain ⟨v63071, rfl, lv63071, uv63071, g63070, kk63070⟩ := q63070
        have k63070 := k1.tr kk63070 (by decide)
        show jEv _ _ _ _ _ _ _ (_, [(2, 42), (0, a1), (0, a2), (0, a3), (0, a4), (0, x5), (0, x6), (0, x7), (0, x8), (0, x9), (0, x10)], [(0, v63071), (0, x9)], _, _, _)
        refine ev_ifeq f326_152 (fun c63072 => ?_) (fun c63072 => ?_)
        · refine ev_iconst ?_
          refine ev_iadd (r := x9) (by unfold w32; omega) ?_
          refine ev_istore (L' := [(2, 42), (0, a1), (0, a2), (0, a3), (0, a4), (0, x5), (0, x6), (0, x7), (0, x8), (0, x9), (0, x10)]) (Nat.le_of_ble_eq_true rfl) rfl ?_
          refine ev_iinc (w := (x10 + 1)) (L' := [(2, 42), (0, a1), (0, a2), (0, a3), (0, a4), (0, x5), (0, x6), (0, x7), (0, x8), (0, x9), (0, (x10 + 1))]) rfl (by unfold w32; omega) rfl ?_
          refine ev_goto f326_127 ?_
          exact ih.2.2.2.1 _ _ _ _ _ _ _ g63070 k63070 (by omega) (by omega) (by omega) (by omega) (by omega) (by omega) (by omega) (by omega) (by omega) (by omega) (by omega) (by omega) (by omega) (by omega) (by omega) (by omega) (by omega) (by omega) (by omega) (by omega) (by omega) (by omega) (by omega) (by omega) (PB.kp H0 kk63070 (fun _ => rfl) (fun _ => rfl) (fun _ => rfl) (fun _ => rfl)) (by omega)
        · refine ev_iconst ?_
          refine ev_goto f326_153 ?_
          refine g_iaddG (fun v63073 ev63073 lv63073 uv63073 => ?_)
          refine ev_istore (L' := [(2, 42), (0, a1), (0, a2), (0, a3), (0, a4), (0, x5), (0, x6), (0, x7), (0, x8), (0, v63073), (0, x10)]) (Nat.le_of_ble_eq_true rfl) rfl ?_
          refine ev_iinc (w := (x10 + 1)) (L' := [(2, 42), (0, a1), (0, a2), (0, a3), (0, a4), (0, x5), (0, x6), (0, x7), (0, x8), (0, v63073), (0, (x10 + 1))]) rfl (by unfold w32; omega) rfl ?_
          refine ev_goto f326_127 ?_
          exact ih.2.2.2.1 _ _ _ _ _ _ _ g63070 k63070 (by omega) (by omega) (by omega) (by omega) (by omega) (by omega) (by omega) (by omega) (by omega) (by omega) (by omega) (by omega) (by omega) (by omega) (by omega) (by omega) (by omega) (by omega) (by omega) (by omega) (by omega) (by omega) (by omega) (by omega) (PB.kp H0 kk63070 (fun _ => rfl) (fun _ => rfl) (fun _ => rfl) (fun _ => rfl)) (by omega)
    · intro h1 x5 x6 x7 x8 j9 j10 g1 k1 b0 b1 b2 b3 b4 b5 b6 b7 b8 b9 b10 b11 b12 b13 b14 b15 b16 b17 H0 hm
      refine ev_iload rfl ?_
      refine ev_aload_n rfl ?_
      refine g_getp (r := 42) (c := 48) g1 ad42 (by decide) (by decide) rf42_10 ft12_10 ?_
      refine ev_iload_n rfl ?_
      refine g_ialdv (v := w1) g1 ad48 (by omega) (by omega) (((k1.v rfl).trans ew1)) ?_
      refine ev_icmpge f326_249 (fun c63074 => ?_) (fun c63074 => ?_)
      · refine ev_iload rfl ?_
        exact ev_ret rfl (by decide) (by decide) ⟨_, rfl, by omega, by omega, g1, k1⟩
      · refine ev_aload_n rfl ?_
        refine g_getp (r := 42) (c := 49) g1 ad42 (by decide) (by decide) rf42_11 ft12_11 ?_
        refine ev_bipush ?_
        refine ev_iload_n rfl ?_
        refine ev_imul (r := (100 * a1)) (by unfold w32; omega) ?_
        refine ev_iload rfl ?_
        refine ev_iadd (r := (100 * a1 + x8)) (by unfold w32; omega) ?_
        refine g_bald g1 ad49 rt49 (by omega) (by omega) (fun v63075 ev63075 lv63075 uv63075 => ?_)
        refine ev_iconst ?_
        refine ev_icmpne f326_243 (fun c63076 => ?_) (fun c63076 => ?_)
        · refine ev_iinc (w := (x8 + 1)) (L' := [(2, 42), (0, a1), (0, a2), (0, a3), (0, a4), (0, x5), (0, x6), (0, x7), (0, (x8 + 1)), j9, j10]) rfl (by unfold w32; omega) rfl ?_
          refine ev_goto f326_189 ?_
          exact ih.2.2.2.2 _ _ _ _ _ _ _ g1 k1 (by omega) (by omega) (by omega) (by omega) (by omega) (by omega) (by omega) (by omega) (by omega) (by omega) (by omega) (by omega) (by omega) (by omega) (by omega) (by omega) (by omega) (by omega) H0 (by omega)
        · refine ev_aload_n rfl ?_
          refine g_getp (r := 42) (c := 53) g1 ad42 (by decide) (by decide) rf42_15 ft12_15 ?_
          refine ev_bipush ?_
          refine ev_iload_n rfl ?_
          refine ev_imul (r := (100 * a1)) (by unfold w32; omega) ?_
          refine ev_iload rfl ?_
          refine ev_iadd (r := (100 * a1 + x8)) (by unfold w32; omega) ?_
          refine ev_aload_n rfl ?_
          refine g_getp (r := 42) (c := 66) g1 ad42 (by decide) (by decide) rf42_43 ft12_43 ?_
          refine ev_bipush ?_
          refine ev_iload rfl ?_
          refine ev_iconst ?_
          refine ev_isub (r := (x6 - 1)) (by unfold w32; omega) ?_
          refine ev_imul (r := (100 * x6 - 100)) (by unfold w32; omega) ?_
          refine ev_iload rfl ?_
          refine ev_iadd (r := (100 * x6 + x8 - 100)) (by unfold w32; omega) ?_
          refine g_bald g1 ad66 rt66 (by omega) (by omega) (fun v63077 ev63077 lv63077 uv63077 => ?_)
          obtain ⟨v63078, ev63078, lv63078, uv63078⟩ := g1.rd ad50 (show ((100 * a1 + x8)).toNat < 700 by omega) (rt50 _)
          have xv63078 := g1.nd1 (q := a1) (n := x8) (by omega) (by rw [(((k1.v (by decide)).trans ew0))]; omega) (by omega) (by rw [(((k1.v rfl).trans ew1))]; omega) (i := (100 * a1 + x8)) (by omega) (by rw [(ev63075)]; omega) ev63078
          have zv63077 := PB.at (q := a1) (b := x6) (n := x8) H0 (by omega) (by omega) (by omega) (by omega) (by omega) (by omega) (((k1.v rfl).trans ew1)) (by omega) (i := (100 * a1 + x8)) (by omega) (by rw [(ev63075)]; omega) (j := (100 * x6 + x8 - 100)) (by omega) (ev63077) ev63078
          refine ev_bastG (r := 53) (j := ((100 * a1 + x8)).toNat) (w := v63077) (g1.lt ad53) (g1.tg ad53) (by omega) (by rw [g1.ln ad53]; omega) (by unfold w8; omega) (fun h63079 e63079 => ?_)
          have g63079 := g1.s53 e63079 (Or.inr ⟨by omega, by rw [(ev63078)]; omega⟩) (by omega) (by omega)
          have k63079 := k1.wr e63079 rfl
          refine ev_iinc (w := (x8 + 1)) (L' := [(2, 42), (0, a1), (0, a2), (0, a3), (0, a4), (0, x5), (0, x6), (0, x7), (0, (x8 + 1)), j9, j10]) rfl (by unfold w32; omega) rfl ?_
          refine ev_goto f326_189 ?_
          exact ih.2.2.2.2 _ _ _ _ _ _ _ g63079 k63079 (by omega) (by omega) (by omega) (by omega) (by omega) (by omega) (by omega) (by omega) (by omega) (by omega) (by omega) (by omega) (by omega) (by omega) (by omega) (by omega) (by omega) (by omega) (PB.wp H0 e63079) (by omega)
set_option maxHeartbeats 4000000 in
theorem s326 {G : GH} {h : JH} (g : Gd G h) {a1 : Int} (la1 : 0 ≤ a1) (ua1 : a1 ≤ 5) {a2 : Int} (la2 : 0 ≤ a2) (ua2 : a2 ≤ 3) {a3 : Int} (la3 : 1 ≤ a3) (ua3 : a3 ≤ 99) {a4 : Int} (la4 : 1 ≤ a4) (ua4 : a4 ≤ 99) {w0 : Int} (ew0 : h.2.2 42 9 = w0) (lw0 : 0 ≤ w0) (uw0 : w0 ≤ 6) {w1 : Int} (ew1 : h.2.2 48 (a1).toNat = w1) (lw1 : 1 ≤ w1) (uw1 : w1 ≤ 100) {w2 : Int} (ew2 : h.2.2 42 1 = w2) (lw2 : 0 ≤ w2) (uw2 : w2 ≤ 4) (F0 : (a1 + (-w0)) ≤ (-1)) (F1 : (a2 + (-w2)) ≤ (-1)) (F2 : (a3 + (-a4)) ≤ 0) : jOk 205 0 0 326 [(2, 42), (0, a1), (0, a2), (0, a3), (0, a4)] h (PI G [(46, 0), (47, 0), (42, 6), (42, 9), (42, 37), (42, 38), (42, 39), (42, 40), (64, 0), (65, 0), (45, 0), (53, 0), (66, 0)] h 0 0 2147483647) := by
  refine ⟨by decide, by rw [ml326]; exact Nat.le_of_ble_eq_true rfl, ?_⟩
  rw [ml326, pp326]
  show jEv _ none _ c326_0 0 0 _ (c326_0, [(2, 42), (0, a1), (0, a2), (0, a3), (0, a4), (9, 0), (9, 0), (9, 0), (9, 0), (9, 0), (9, 0)], [], h, 0, 0)
  have k0 := Kp.rf [(46, 0), (47, 0), (42, 6), (42, 9), (42, 37), (42, 38), (42, 39), (42, 40), (64, 0), (65, 0), (45, 0), (53, 0), (66, 0)] h
  refine ev_aload_n rfl ?_
  refine g_getp (r := 42) (c := 45) g ad42 (by decide) (by decide) rf42_4 ft12_4 ?_
  refine ev_bipush ?_
  refine ev_iload_n rfl ?_
  refine ev_imul (r := (9 * a2)) (by unfold w32; omega) ?_
  refine g_iald g ad45 rt45 (by omega) (by omega) (fun v63080 ev63080 lv63080 uv63080 => ?_)
  have xv63080 := (g.ex.2.2.1 ((9 * a2) : Int).toNat (by rw [(ew2)]; omega))
  rw [ev63080] at xv63080
  refine ev_istore (L' := [(2, 42), (0, a1), (0, a2), (0, a3), (0, a4), (0, v63080), (9, 0), (9, 0), (9, 0), (9, 0), (9, 0)]) (Nat.le_of_ble_eq_true rfl) rfl ?_
  refine ev_iload_n rfl ?_
  refine ev_istore (L' := [(2, 42), (0, a1), (0, a2), (0, a3), (0, a4), (0, v63080), (0, a3), (9, 0), (9, 0), (9, 0), (9, 0)]) (Nat.le_of_ble_eq_true rfl) rfl ?_
  exact (s326_l la1 ua1 la2 ua2 la3 ua3 la4 ua4 ew0 lw0 uw0 ew1 lw1 uw1 ew2 lw2 uw2 F0 F1 F2 81608).1 _ _ _ _ _ _ _ g k0 (by omega) (by omega) (by omega) (by omega) (by omega) (by omega) (by omega) (by omega) (by omega) (by omega) (by omega) (by omega) (by omega) (by omega) (PB.start _ _ _) (by omega)
set_option maxHeartbeats 4000000 in
theorem s327 {G : GH} {h : JH} (g : Gd G h) {a1 : Int} (la1 : (-2147483648) ≤ a1) (ua1 : a1 ≤ 2147483647) {a2 : Int} (la2 : (-2147483648) ≤ a2) (ua2 : a2 ≤ 2147483647) {a3 : Int} (la3 : (-2147483648) ≤ a3) (ua3 : a3 ≤ 2147483647) {a4 : Int} (la4 : (-2147483648) ≤ a4) (ua4 : a4 ≤ 2147483647) : jOk 206 0 0 327 [(2, 42), (0, a1), (0, a2), (0, a3), (0, a4)] h (PI G [(46, 0), (47, 0), (42, 6), (42, 9), (42, 37), (42, 38), (42, 39), (42, 40), (64, 0), (65, 0), (45, 0), (53, 0), (66, 0)] h 0 (-2147483648) 2147483647) := by
  refine ⟨by decide, by rw [ml327]; exact Nat.le_of_ble_eq_true rfl, ?_⟩
  rw [ml327, pp327]
  show jEv _ none _ c327_0 0 0 _ (c327_0, [(2, 42), (0, a1), (0, a2), (0, a3), (0, a4)], [], h, 0, 0)
  have k0 := Kp.rf [(46, 0), (47, 0), (42, 6), (42, 9), (42, 37), (42, 38), (42, 39), (42, 40), (64, 0), (65, 0), (45, 0), (53, 0), (66, 0)] h
  refine ev_aload_n rfl ?_
  refine ev_iload_n rfl ?_
  refine ev_iload_n rfl ?_
  refine ev_iload_n rfl ?_
  refine ev_in (d := 204) (a := 0) (b := 0) (cd' := c322_0) (m := 4) (L0 := [(2, 42), (0, a1), (0, a2), (0, a3)]) (jcall_v (A := [(0, a3), (0, a2), (0, a1)]) (S' := []) (r := 42) rfl (g.lt ad42) (g.tg ad42) (Nat.le_of_ble_eq_true rfl)) (by decide) ml322 pp322 (Nat.le_of_ble_eq_true rfl) rfl (by decide) (by decide) ?_
  refine ev_aload_n rfl ?_
  refine ev_iload_n rfl ?_
  refine ev_in (d := 203) (a := 0) (b := 0) (cd' := c261_0) (m := 2) (L0 := [(2, 42), (0, a1)]) (jcall_v (A := [(0, a1)]) (S' := []) (r := 42) rfl (g.lt ad42) (g.tg ad42) (Nat.le_of_ble_eq_true rfl)) (by decide) ml261 pp261 (Nat.le_of_ble_eq_true rfl) rfl (by decide) (by decide) ?_
  refine ev_iload_n rfl ?_
  refine ev_iconst ?_
  refine ev_aload_n rfl ?_
  obtain ⟨v63197, ev63197, lv63197, uv63197⟩ := g.rd ad42 (show 9 < 66 by decide) rf42_9
  refine g_getv (r := 42) (v := v63197) g ad42 (by decide) ft12_9 ev63197 ?_
  refine ev_iconst ?_
  refine ev_isub (r := (v63197 - 1)) (by unfold w32; omega) ?_
  refine ev_in (d := 202) (a := 0) (b := 0) (cd' := c242_0) (m := 3) (L0 := [(0, a1), (0, 0), (0, (v63197 - 1))]) (jcall_s (A := [(0, (v63197 - 1)), (0, 0), (0, a1)]) (S' := []) (by decide) rfl (Nat.le_of_ble_eq_true rfl)) (by decide) ml242 pp242 (Nat.le_of_ble_eq_true rfl) rfl (by decide) (by decide) ?_
  refine ev_iload_n rfl ?_
  refine ev_iload_n rfl ?_
  refine ev_icmplt f242_14 (fun c63198 => ?_) (fun c63198 => ?_)
  · refine ev_iconst ?_
    refine ev_ret rfl (by decide) (by decide) ?_
    show jEv _ _ _ _ _ _ _ (_, [(2, 42), (0, a1)], [(0, 0)], _, _, _)
    refine ev_ret rfl (by decide) (by decide) ?_
    show jEv _ _ _ _ _ _ _ (_, [(2, 42), (0, a1), (0, a2), (0, a3)], [(0, 0)], _, _, _)
    refine ev_ifeq f322_62 (fun c63199 => ?_) (fun c63199 => absurd c63199 (by omega))
    refine ev_iconst ?_
    refine ev_ret rfl (by decide) (by decide) ?_
    show jEv _ _ _ _ _ _ _ (_, [(2, 42), (0, a1), (0, a2), (0, a3), (0, a4)], [(0, 0)], _, _, _)
    refine ev_ifeq f327_20 (fun c63200 => ?_) (fun c63200 => absurd c63200 (by omega))
    refine ev_iconst ?_
    exact ev_ret rfl (by decide) (by decide) ⟨_, rfl, by omega, by omega, g, k0⟩
  · refine ev_iload_n rfl ?_
    refine ev_iload_n rfl ?_
    refine ev_icmpgt f242_14 (fun c63201 => ?_) (fun c63201 => ?_)
    · refine ev_iconst ?_
      refine ev_ret rfl (by decide) (by decide) ?_
      show jEv _ _ _ _ _ _ _ (_, [(2, 42), (0, a1)], [(0, 0)], _, _, _)
      refine ev_ret rfl (by decide) (by decide) ?_
      show jEv _ _ _ _ _ _ _ (_, [(2, 42), (0, a1), (0, a2), (0, a3)], [(0, 0)], _, _, _)
      refine ev_ifeq f322_62 (fun c63202 => ?_) (fun c63202 => absurd c63202 (by omega))
      refine ev_iconst ?_
      refine ev_ret rfl (by decide) (by decide) ?_
      show jEv _ _ _ _ _ _ _ (_, [(2, 42), (0, a1), (0, a2), (0, a3), (0, a4)], [(0, 0)], _, _, _)
      refine ev_ifeq f327_20 (fun c63203 => ?_) (fun c63203 => absurd c63203 (by omega))
      refine ev_iconst ?_
      exact ev_ret rfl (by decide) (by decide) ⟨_, rfl, by omega, by omega, g, k0⟩
    · refine ev_iconst ?_
      refine ev_goto f242_15 ?_
      refine ev_ret rfl (by decide) (by decide) ?_
      show jEv _ _ _ _ _ _ _ (_, [(2, 42), (0, a1)], [(0, 1)], _, _, _)
      refine ev_ret rfl (by decide) (by decide) ?_
      show jEv _ _ _ _ _ _ _ (_, [(2, 42), (0, a1), (0, a2), (0, a3)], [(0, 1)], _, _, _)
      refine ev_ifeq f322_62 (fun c63204 => absurd c63204 (by omega)) (fun c63204 => ?_)
      refine ev_aload_n rfl ?_
      refine ev_iload_n rfl ?_
      refine ev_in (d := 203) (a := 0) (b := 0) (cd' := c245_0) (m := 2) (L0 := [(2, 42), (0, a2)]) (jcall_v (A := [(0, a2)]) (S' := []) (r := 42) rfl (g.lt ad42) (g.tg ad42) (Nat.le_of_ble_eq_true rfl)) (by decide) ml245 pp245 (Nat.le_of_ble_eq_true rfl) rfl (by decide) (by decide) ?_
      refine ev_iload_n rfl ?_
      refine ev_iconst ?_
      refine ev_aload_n rfl ?_
      obtain ⟨v63205, ev63205, lv63205, uv63205⟩ := g.rd ad42 (show 1 < 66 by decide) rf42_1
      refine g_getv (r := 42) (v := v63205) g ad42 (by decide) ft12_1 ev63205 ?_
      refine ev_iconst ?_
      refine ev_isub (r := (v63205 - 1)) (by unfold w32; omega) ?_
      refine ev_in (d := 202) (a := 0) (b := 0) (cd' := c242_0) (m := 3) (L0 := [(0, a2), (0, 0), (0, (v63205 - 1))]) (jcall_s (A := [(0, (v63205 - 1)), (0, 0), (0, a2)]) (S' := []) (by decide) rfl (Nat.le_of_ble_eq_true rfl)) (by decide) ml242 pp242 (Nat.le_of_ble_eq_true rfl) rfl (by decide) (by decide) ?_
      refine ev_iload_n rfl ?_
      refine ev_iload_n rfl ?_
      refine ev_icmplt f242_14 (fun c63206 => ?_) (fun c63206 => ?_)
      · refine ev_iconst ?_
        refine ev_ret rfl (by decide) (by decide) ?_
        show jEv _ _ _ _ _ _ _ (_, [(2, 42), (0, a2)], [(0, 0)], _, _, _)
        refine ev_ret rfl (by decide) (by decide) ?_
        show jEv _ _ _ _ _ _ _ (_, [(2, 42), (0, a1), (0, a2), (0, a3)], [(0, 0)], _, _, _)
        refine ev_ifeq f322_62 (fun c63207 => ?_) (fun c63207 => absurd c63207 (by omega))
        refine ev_iconst ?_
        refine ev_ret rfl (by decide) (by decide) ?_
        show jEv _ _ _ _ _ _ _ (_, [(2, 42), (0, a1), (0, a2), (0, a3), (0, a4)], [(0, 0)], _, _, _)
        refine ev_ifeq f327_20 (fun c63208 => ?_) (fun c63208 => absurd c63208 (by omega))
        refine ev_iconst ?_
        exact ev_ret rfl (by decide) (by decide) ⟨_, rfl, by omega, by omega, g, k0⟩
      · refine ev_iload_n rfl ?_
        refine ev_iload_n rfl ?_
        refine ev_icmpgt f242_14 (fun c63209 => ?_) (fun c63209 => ?_)
        · refine ev_iconst ?_
          refine ev_ret rfl (by decide) (by decide) ?_
          show jEv _ _ _ _ _ _ _ (_, [(2, 42), (0, a2)], [(0, 0)], _, _, _)
          refine ev_ret rfl (by decide) (by decide) ?_
          show jEv _ _ _ _ _ _ _ (_, [(2, 42), (0, a1), (0, a2), (0, a3)], [(0, 0)], _, _, _)
          refine ev_ifeq f322_62 (fun c63210 => ?_) (fun c63210 => absurd c63210 (by omega))
          refine ev_iconst ?_
          refine ev_ret rfl (by decide) (by decide) ?_
          show jEv _ _ _ _ _ _ _ (_, [(2, 42), (0, a1), (0, a2), (0, a3), (0, a4)], [(0, 0)], _, _, _)
          refine ev_ifeq f327_20 (fun c63211 => ?_) (fun c63211 => absurd c63211 (by omega))
          refine ev_iconst ?_
          exact ev_ret rfl (by decide) (by decide) ⟨_, rfl, by omega, by omega, g, k0⟩
        · refine ev_iconst ?_
          refine ev_goto f242_15 ?_
          refine ev_ret rfl (by decide) (by decide) ?_
          show jEv _ _ _ _ _ _ _ (_, [(2, 42), (0, a2)], [(0, 1)], _, _, _)
          refine ev_ret rfl (by decide) (by decide) ?_
          show jEv _ _ _ _ _ _ _ (_, [(2, 42), (0, a1), (0, a2), (0, a3)], [(0, 1)], _, _, _)
          refine ev_ifeq f322_62 (fun c63212 => absurd c63212 (by omega)) (fun c63212 => ?_)
          refine ev_aload_n rfl ?_
          refine g_getp (r := 42) (c := 44) g ad42 (by decide) (by decide) rf42_3 ft12_3 ?_
          refine ev_iload_n rfl ?_
          refine g_iald g ad44 rt44 (by omega) (by omega) (fun v63213 ev63213 lv63213 uv63213 => ?_)
          refine ev_ifge f322_62 (fun c63214 => ?_) (fun c63214 => ?_)
          · refine ev_iconst ?_
            refine ev_ret rfl (by decide) (by decide) ?_
            show jEv _ _ _ _ _ _ _ (_, [(2, 42), (0, a1), (0, a2), (0, a3), (0, a4)], [(0, 0)], _, _, _)
            refine ev_ifeq f327_20 (fun c63215 => ?_) (fun c63215 => absurd c63215 (by omega))
            refine ev_iconst ?_
            exact ev_ret rfl (by decide) (by decide) ⟨_, rfl, by omega, by omega, g, k0⟩
          · refine ev_iload_n rfl ?_
            refine ev_iflt f322_62 (fun c63216 => ?_) (fun c63216 => ?_)
            · refine ev_iconst ?_
              refine ev_ret rfl (by decide) (by decide) ?_
              show jEv _ _ _ _ _ _ _ (_, [(2, 42), (0, a1), (0, a2), (0, a3), (0, a4)], [(0, 0)], _, _, _)
              refine ev_ifeq f327_20 (fun c63217 => ?_) (fun c63217 => absurd c63217 (by omega))
              refine ev_iconst ?_
              exact ev_ret rfl (by decide) (by decide) ⟨_, rfl, by omega, by omega, g, k0⟩
            · refine ev_iload_n rfl ?_
              refine ev_bipush ?_
              refine g_idivP (c := 100) rfl (by decide) (by omega) (by omega) (fun v63218 ev63218 lv63218 uv63218 => ?_)
              refine ev_iconst ?_
              refine ev_bipush ?_
              refine ev_in (d := 203) (a := 0) (b := 0) (cd' := c242_0) (m := 3) (L0 := [(0, v63218), (0, 1), (0, 99)]) (jcall_s (A := [(0, 99), (0, 1), (0, v63218)]) (S' := []) (by decide) rfl (Nat.le_of_ble_eq_true rfl)) (by decide) ml242 pp242 (Nat.le_of_ble_eq_true rfl) rfl (by decide) (by decide) ?_
              refine ev_iload_n rfl ?_
              refine ev_iload_n rfl ?_
              refine ev_icmplt f242_14 (fun c63219 => ?_) (fun c63219 => ?_)
              · refine ev_iconst ?_
                refine ev_ret rfl (by decide) (by decide) ?_
                show jEv _ _ _ _ _ _ _ (_, [(2, 42), (0, a1), (0, a2), (0, a3)], [(0, 0)], _, _, _)
                refine ev_ifeq f322_62 (fun c63220 => ?_) (fun c63220 => absurd c63220 (by omega))
                refine ev_iconst ?_
                refine ev_ret rfl (by decide) (by decide) ?_
                show jEv _ _ _ _ _ _ _ (_, [(2, 42), (0, a1), (0, a2), (0, a3), (0, a4)], [(0, 0)], _, _, _)
                refine ev_ifeq f327_20 (fun c63221 => ?_) (fun c63221 => absurd c63221 (by omega))
                refine ev_iconst ?_
                exact ev_ret rfl (by decide) (by decide) ⟨_, rfl, by omega, by omega, g, k0⟩
              · refine ev_iload_n rfl ?_
                refine ev_iload_n rfl ?_
                refine ev_icmpgt f242_14 (fun c63222 => ?_) (fun c63222 => ?_)
                · refine ev_iconst ?_
                  refine ev_ret rfl (by decide) (by decide) ?_
                  show jEv _ _ _ _ _ _ _ (_, [(2, 42), (0, a1), (0, a2), (0, a3)], [(0, 0)], _, _, _)
                  refine ev_ifeq f322_62 (fun c63223 => ?_) (fun c63223 => absurd c63223 (by omega))
                  refine ev_iconst ?_
                  refine ev_ret rfl (by decide) (by decide) ?_
                  show jEv _ _ _ _ _ _ _ (_, [(2, 42), (0, a1), (0, a2), (0, a3), (0, a4)], [(0, 0)], _, _, _)
                  refine ev_ifeq f327_20 (fun c63224 => ?_) (fun c63224 => absurd c63224 (by omega))
                  refine ev_iconst ?_
                  exact ev_ret rfl (by decide) (by decide) ⟨_, rfl, by omega, by omega, g, k0⟩
                · refine ev_iconst ?_
                  refine ev_goto f242_15 ?_
                  refine ev_ret rfl (by decide) (by decide) ?_
                  show jEv _ _ _ _ _ _ _ (_, [(2, 42), (0, a1), (0, a2), (0, a3)], [(0, 1)], _, _, _)
                  refine ev_ifeq f322_62 (fun c63225 => absurd c63225 (by omega)) (fun c63225 => ?_)
                  refine ev_iload_n rfl ?_
                  refine ev_bipush ?_
                  refine g_iremP (c := 100) rfl (by decide) (by omega) (fun v63226 ev63226 lv63226 uv63226 wv63226 => ?_)
                  refine ev_iload_n rfl ?_
                  refine ev_bipush ?_
                  refine g_idivP (c := 100) rfl (by decide) (by omega) (by omega) (fun v63227 ev63227 lv63227 uv63227 => ?_)
                  obtain rfl : v63218 = v63227 := by omega
                  refine ev_bipush ?_
                  refine ev_in (d := 203) (a := 0) (b := 0) (cd' := c242_0) (m := 3) (L0 := [(0, v63226), (0, v63218), (0, 99)]) (jcall_s (A := [(0, 99), (0, v63218), (0, v63226)]) (S' := []) (by decide) rfl (Nat.le_of_ble_eq_true rfl)) (by decide) ml242 pp242 (Nat.le_of_ble_eq_true rfl) rfl (by decide) (by decide) ?_
                  refine ev_iload_n rfl ?_
                  refine ev_iload_n rfl ?_
                  refine ev_icmplt f242_14 (fun c63228 => ?_) (fun c63228 => ?_)
                  · refine ev_iconst ?_
                    refine ev_ret rfl (by decide) (by decide) ?_
                    show jEv _ _ _ _ _ _ _ (_, [(2, 42), (0, a1), (0, a2), (0, a3)], [(0, 0)], _, _, _)
                    refine ev_ifeq f322_62 (fun c63229 => ?_) (fun c63229 => absurd c63229 (by omega))
                    refine ev_iconst ?_
                    refine ev_ret rfl (by decide) (by decide) ?_
                    show jEv _ _ _ _ _ _ _ (_, [(2, 42), (0, a1), (0, a2), (0, a3), (0, a4)], [(0, 0)], _, _, _)
                    refine ev_ifeq f327_20 (fun c63230 => ?_) (fun c63230 => absurd c63230 (by omega))
                    refine ev_iconst ?_
                    exact ev_ret rfl (by decide) (by decide) ⟨_, rfl, by omega, by omega, g, k0⟩
                  · refine ev_iload_n rfl ?_
                    refine ev_iload_n rfl ?_
                    refine ev_icmpgt f242_14 (fun c63231 => absurd c63231 (by omega)) (fun c63231 => ?_)
                    refine ev_iconst ?_
                    refine ev_goto f242_15 ?_
                    refine ev_ret rfl (by decide) (by decide) ?_
                    show jEv _ _ _ _ _ _ _ (_, [(2, 42), (0, a1), (0, a2), (0, a3)], [(0, 1)], _, _, _)
                    refine ev_ifeq f322_62 (fun c63232 => absurd c63232 (by omega)) (fun c63232 => ?_)
                    refine ev_iconst ?_
                    refine ev_goto f322_63 ?_
                    refine ev_ret rfl (by decide) (by decide) ?_
                    show jEv _ _ _ _ _ _ _ (_, [(2, 42), (0, a1), (0, a2), (0, a3), (0, a4)], [(0, 1)], _, _, _)
                    refine ev_ifeq f327_20 (fun c63233 => absurd c63233 (by omega)) (fun c63233 => ?_)
                    refine ev_iload rfl ?_
                    refine ev_iconst ?_
                    refine ev_iconst ?_
                    refine ev_in (d := 204) (a := 0) (b := 0) (cd' := c242_0) (m := 3) (L0 := [(0, a4), (0, 0), (0, 1)]) (jcall_s (A := [(0, 1), (0, 0), (0, a4)]) (S' := []) (by decide) rfl (Nat.le_of_ble_eq_true rfl)) (by decide) ml242 pp242 (Nat.le_of_ble_eq_true rfl) rfl (by decide) (by decide) ?_
                    refine ev_iload_n rfl ?_
                    refine ev_iload_n rfl ?_
                    refine ev_icmplt f242_14 (fun c63234 => ?_) (fun c63234 => ?_)
                    · refine ev_iconst ?_
                      refine ev_ret rfl (by decide) (by decide) ?_
                      show jEv _ _ _ _ _ _ _ (_, [(2, 42), (0, a1), (0, a2), (0, a3), (0, a4)], [(0, 0)], _, _, _)
                      refine ev_ifne f327_22 (fun c63235 => absurd c63235 (by omega)) (fun c63235 => ?_)
                      refine ev_iconst ?_
                      exact ev_ret rfl (by decide) (by decide) ⟨_, rfl, by omega, by omega, g, k0⟩
                    · refine ev_iload_n rfl ?_
                      refine ev_iload_n rfl ?_
                      refine ev_icmpgt f242_14 (fun c63236 => ?_) (fun c63236 => ?_)
                      · refine ev_iconst ?_
                        refine ev_ret rfl (by decide) (by decide) ?_
                        show jEv _ _ _ _ _ _ _ (_, [(2, 42), (0, a1), (0, a2), (0, a3), (0, a4)], [(0, 0)], _, _, _)
                        refine ev_ifne f327_22 (fun c63237 => absurd c63237 (by omega)) (fun c63237 => ?_)
                        refine ev_iconst ?_
                        exact ev_ret rfl (by decide) (by decide) ⟨_, rfl, by omega, by omega, g, k0⟩
                      · refine ev_iconst ?_
                        refine ev_goto f242_15 ?_
                        refine ev_ret rfl (by decide) (by decide) ?_
                        show jEv _ _ _ _ _ _ _ (_, [(2, 42), (0, a1), (0, a2), (0, a3), (0, a4)], [(0, 1)], _, _, _)
                        refine ev_ifne f327_22 (fun c63238 => ?_) (fun c63238 => absurd c63238 (by omega))
                        refine ev_aload_n rfl ?_
                        refine ev_iload_n rfl ?_
                        refine ev_iload_n rfl ?_
                        refine ev_bipush ?_
                        refine g_idivP (c := 100) rfl (by decide) (by omega) (by omega) (fun v63239 ev63239 lv63239 uv63239 => ?_)
                        obtain rfl : v63218 = v63239 := by omega
                        refine ev_iload_n rfl ?_
                        refine ev_bipush ?_
                        refine g_iremP (c := 100) rfl (by decide) (by omega) (fun v63240 ev63240 lv63240 uv63240 wv63240 => ?_)
                        obtain rfl : v63226 = v63240 := by omega
                        refine ev_call (jcall_v (A := [(0, v63226), (0, v63218), (0, a2)]) (S' := []) (r := 42) rfl (g.lt ad42) (g.tg ad42) (Nat.le_of_ble_eq_true rfl)) (jOk_le (by decide) (s323 g (by omega) (by omega) (by omega) (by omega) (by omega) (by omega) (ev63205) (by omega) (by omega) (by omega))) (by decide) (by decide) (fun w63241 h63241 q63241 => ?_)
                        obtain ⟨v63242, rfl, lv63242, uv63242, g63241, kk63241⟩ := q63241
                        have k63241 := k0.tr kk63241 (by decide)
                        show jEv _ _ _ _ _ _ _ (_, [(2, 42), (0, a1), (0, a2), (0, a3), (0, a4)], [(0, v63242)], _, _, _)
                        refine ev_ifne f327_41 (fun c63243 => ?_) (fun c63243 => ?_)
                        · refine ev_iload rfl ?_
                          refine ev_ifne f327_63 (fun c63244 => ?_) (fun c63244 => ?_)
                          · refine ev_aload_n rfl ?_
                            refine ev_iload_n rfl ?_
                            refine ev_iload_n rfl ?_
                            refine ev_iload_n rfl ?_
                            refine ev_bipush ?_
                            refine g_idivP (c := 100) rfl (by decide) (by omega) (by omega) (fun v63245 ev63245 lv63245 uv63245 => ?_)
                            obtain rfl : v63218 = v63245 := by omega
                            refine ev_iload_n rfl ?_
                            refine ev_bipush ?_
                            refine g_iremP (c := 100) rfl (by decide) (by omega) (fun v63246 ev63246 lv63246 uv63246 wv63246 => ?_)
                            obtain rfl : v63226 = v63246 := by omega
                            obtain ⟨v63247, ev63247, lv63247, uv63247⟩ := g63241.rd ad48 (show (a1).toNat < 7 by omega) (rt48 _)
                            have zv63247 := g63241.n48 (q := a1) (by omega) (by rw [(((kk63241.v (by decide)).trans ev63197))]; omega) ev63247
                            refine ev_call (jcall_v (A := [(0, v63226), (0, v63218), (0, a2), (0, a1)]) (S' := []) (r := 42) rfl (g63241.lt ad42) (g63241.tg ad42) (Nat.le_of_ble_eq_true rfl)) (jOk_le (by decide) (s326 g63241 (by omega) (by omega) (by omega) (by omega) (by omega) (by omega) (by omega) (by omega) (((kk63241.v (by decide)).trans ev63197)) (by omega) (by omega) ev63247 (by omega) (by omega) (((kk63241.v (by decide)).trans ev63205)) (by omega) (by omega) (by omega) (by omega) (by omega))) (by decide) (by decide) (fun w63248 h63248 q63248 => ?_)
                            obtain ⟨v63249, rfl, lv63249, uv63249, g63248, kk63248⟩ := q63248
                            have k63248 := k63241.tr kk63248 (by decide)
                            show jEv _ _ _ _ _ _ _ (_, [(2, 42), (0, a1), (0, a2), (0, a3), (0, a4)], [(0, v63249)], _, _, _)
                            exact ev_ret rfl (by decide) (by decide) ⟨_, rfl, by omega, by omega, g63248, k63248⟩
                          · refine ev_aload_n rfl ?_
                            refine ev_iload_n rfl ?_
                            refine ev_iload_n rfl ?_
                            refine ev_iload_n rfl ?_
                            refine ev_bipush ?_
                            refine g_idivP (c := 100) rfl (by decide) (by omega) (by omega) (fun v63250 ev63250 lv63250 uv63250 => ?_)
                            obtain rfl : v63218 = v63250 := by omega
                            refine ev_iload_n rfl ?_
                            refine ev_bipush ?_
                            refine g_iremP (c := 100) rfl (by decide) (by omega) (fun v63251 ev63251 lv63251 uv63251 wv63251 => ?_)
                            obtain rfl : v63226 = v63251 := by omega
                            obtain ⟨v63252, ev63252, lv63252, uv63252⟩ := g63241.rd ad48 (show (a1).toNat < 7 by omega) (rt48 _)
                            have zv63252 := g63241.n48 (q := a1) (by omega) (by rw [(((kk63241.v (by decide)).trans ev63197))]; omega) ev63252
                            refine ev_call (jcall_v (A := [(0, v63226), (0, v63218), (0, a2), (0, a1)]) (S' := []) (r := 42) rfl (g63241.lt ad42) (g63241.tg ad42) (Nat.le_of_ble_eq_true rfl)) (jOk_le (by decide) (s324 g63241 (by omega) (by omega) (by omega) (by omega) (by omega) (by omega) (by omega) (by omega) (((kk63241.v (by decide)).trans ev63197)) (by omega) (by omega) ev63252 (by omega) (by omega) (((kk63241.v (by decide)).trans ev63205)) (by omega) (by omega) (by omega) (by omega))) (by decide) (by decide) (fun w63253 h63253 q63253 => ?_)
                            obtain ⟨v63254, rfl, lv63254, uv63254, g63253, kk63253⟩ := q63253
                            have k63253 := k63241.tr kk63253 (by decide)
                            show jEv _ _ _ _ _ _ _ (_, [(2, 42), (0, a1), (0, a2), (0, a3), (0, a4)], [(0, v63254)], _, _, _)
                            refine ev_goto f327_77 ?_
                            exact ev_ret rfl (by decide) (by decide) ⟨_, rfl, by omega, by omega, g63253, k63253⟩
                        · refine ev_bipush ?_
                          exact ev_ret rfl (by decide) (by decide) ⟨_, rfl, by omega, by omega, g63241, k63241⟩
set_option maxHeartbeats 4000000 in
theorem s253z_l {G : GH} {h : JH}  : ∀ N : Nat, (∀ (h1 : JH) (x1 x3 : Int) (j4 : AV), Gd G h1 → Kp [] h h1 → 1 ≤ x1 → x1 ≤ 1000000000000 → 0 ≤ x3 → x3 ≤ 4 → ((-x3) + 4) < N → jEv (jOk 2) none (fun _ => 0) c253_0 0 0 (fun v h' => PI G [] h 1 (-4) 1000000000000 v h' ∧ ∀ r, v = some (1, r) → r ≠ 0) (c253_4, [(2, 42), (1, x1), (9, 0), (0, x3), j4, (9, 0)], [], h1, 0, 0)) := by
  intro N
  induction N with
  | zero => exact fun h1 x1 x3 j4 g1 k1 b0 b1 b2 b3 hm => absurd hm (by omega)
  | succ N ih =>
    show _
    intro h1 x1 x3 j4 g1 k1 b0 b1 b2 b3 hm
    refine ev_iload_n rfl ?_
    refine ev_aload_n rfl ?_
    obtain ⟨v63297, ev63297, lv63297, uv63297⟩ := g1.rd ad42 (show 1 < 66 by decide) rf42_1
    refine g_getv (r := 42) (v := v63297) g1 ad42 (by decide) ft12_1 ev63297 ?_
    refine ev_icmpge f253_45 (fun c63298 => ?_) (fun c63298 => ?_)
    · refine ev_lload_n rfl ?_
      exact ev_ret rfl (by decide) (by decide) ⟨⟨_, rfl, by omega, by omega, g1, k1⟩, fun r hr => by cases hr; omega⟩
    · refine ev_aload_n rfl ?_
      refine ev_iload_n rfl ?_
      refine ev_call (jcall_v (A := [(0, x3)]) (S' := []) (r := 42) rfl (g1.lt ad42) (g1.tg ad42) (Nat.le_of_ble_eq_true rfl)) (jOk_le (by decide) (s252 g1 (by omega) (by omega) (ev63297) (by omega) (by omega) (by omega))) (by decide) (by decide) (fun w63299 h63299 q63299 => ?_)
      obtain ⟨v63300, rfl, lv63300, uv63300, g63299, kk63299⟩ := q63299
      have k63299 := k1.tr kk63299 (by decide)
      show jEv _ _ _ _ _ _ _ (_, [(2, 42), (1, x1), (9, 0), (0, x3), j4, (9, 0)], [(1, v63300)], _, _, _)
      refine ev_lstore (L' := [(2, 42), (1, x1), (9, 0), (0, x3), (1, v63300), (9, 0)]) (Nat.le_of_ble_eq_true rfl) rfl ?_
      refine ev_lload_n rfl ?_
      refine ev_ldc2_w ?_
      refine ev_lload rfl ?_
      refine g_ldivM (by omega) (by omega) (by omega) (fun v63301 ev63301 lv63301 uv63301 => ?_)
      refine ev_lcmp ?_
      refine ev_ifle f253_34 (fun c63302 => ?_) (fun c63302 => ?_)
      · have c63302b := jcmpL_le c63302
        refine ev_lload_n rfl ?_
        refine ev_lload rfl ?_
        refine g_lmulM (M := 1000000000000) (by omega) (by omega) ev63301 (by decide) (by decide) (by omega) (fun v63303 ev63303 lv63303 uv63303 => ?_)
        refine ev_lstore_n (L' := [(2, 42), (1, v63303), (9, 0), (0, x3), (1, v63300), (9, 0)]) (Nat.le_of_ble_eq_true rfl) rfl ?_
        refine ev_iinc (w := (x3 + 1)) (L' := [(2, 42), (1, v63303), (9, 0), (0, (x3 + 1)), (1, v63300), (9, 0)]) rfl (by unfold w32; omega) rfl ?_
        refine ev_goto f253_4 ?_
        exact ih _ _ _ _ g63299 k63299 (by omega) (by omega) (by omega) (by omega) (by omega)
      · have c63302b := jcmpL_leN c63302
        refine ev_ldc2_w ?_
        exact ev_ret rfl (by decide) (by decide) ⟨⟨_, rfl, by omega, by omega, g63299, k63299⟩, fun r hr => by cases hr; omega⟩
set_option maxHeartbeats 4000000 in
theorem s253z {G : GH} {h : JH} (g : Gd G h)  : jOk 3 0 0 253 [(2, 42)] h (fun v h' => PI G [] h 1 (-4) 1000000000000 v h' ∧ ∀ r, v = some (1, r) → r ≠ 0) := by
  refine ⟨by decide, by rw [ml253]; exact Nat.le_of_ble_eq_true rfl, ?_⟩
  rw [ml253, pp253]
  show jEv _ none _ c253_0 0 0 _ (c253_0, [(2, 42), (9, 0), (9, 0), (9, 0), (9, 0), (9, 0)], [], h, 0, 0)
  have k0 := Kp.rf [] h
  refine ev_lconst ?_
  refine ev_lstore_n (L' := [(2, 42), (1, 1), (9, 0), (9, 0), (9, 0), (9, 0)]) (Nat.le_of_ble_eq_true rfl) rfl ?_
  refine ev_iconst ?_
  refine ev_istore_n (L' := [(2, 42), (1, 1), (9, 0), (0, 0), (9, 0), (9, 0)]) (Nat.le_of_ble_eq_true rfl) rfl ?_
  exact (s253z_l  10) _ _ _ _ g k0 (by omega) (by omega) (by omega) (by omega) (by omega)
set_option maxHeartbeats 4000000 in
theorem s256z_0_l {G : GH} {h : JH} (ew0 : h.2.2 42 1 = 0) : ∀ N : Nat, (∀ (h1 : JH) (x1 y0 y1 y2 : Int) (j2 j3 : AV), Gd G h1 → Kp [(46, 0), (47, 0), (42, 6), (42, 9)] h h1 → 0 ≤ x1 → x1 ≤ 1 → h1.2.2 42 1 = y0 → 0 ≤ y0 → y0 ≤ 0 → h1.2.2 42 5 = y1 → 0 ≤ y1 → y1 ≤ 1 → h1.2.2 42 8 = y2 → 1 ≤ y2 → y2 ≤ 1000000000000 → ((-x1) + 1) < N → jEv (jOk 3) none (fun _ => 0) c256_0 0 0 (fun v h' => ∃ r F : Int, v = some (0, r) ∧ 0 ≤ r ∧ r ≤ 1 ∧ Gd G h' ∧ Kp [(46, 0), (47, 0), (42, 6), (42, 9)] h h' ∧ h'.2.2 42 8 = F ∧ ((-F) + 5 * r) ≤ 4 ∧ (F + (-1000000000001) * r) ≤ (-1)) (c256_57, [(2, 42), (0, x1), j2, j3], [], h1, 0, 0)) := by
  intro N
  induction N with
  | zero => exact fun h1 x1 y0 y1 y2 j2 j3 g1 k1 b0 b1 b2 b3 b4 b5 b6 b7 b8 b9 b10 hm => absurd hm (by omega)
  | succ N ih =>
    show _
    intro h1 x1 y0 y1 y2 j2 j3 g1 k1 b0 b1 ey0 ly0 uy0 ey1 ly1 uy1 ey2 ly2 uy2 hm
    refine ev_iload_n rfl ?_
    refine ev_aload_n rfl ?_
    refine g_getv (r := 42) (v := y1) g1 ad42 (by decide) ft12_5 (ey1) ?_
    refine ev_icmpge f256_127 (fun c63331 => ?_) (fun c63331 => ?_)
    · refine ev_iconst ?_
      exact ev_ret rfl (by decide) (by decide) ⟨_, _, rfl, by omega, by omega, g1, k1, (ey2), by omega, by omega⟩
    · refine ev_iload_n rfl ?_
      refine ev_istore_n (L' := [(2, 42), (0, x1), (0, x1), j3]) (Nat.le_of_ble_eq_true rfl) rfl ?_
      refine ev_iconst ?_
      refine ev_istore_n (L' := [(2, 42), (0, x1), (0, x1), (0, 0)]) (Nat.le_of_ble_eq_true rfl) rfl ?_
      refine ev_iload_n rfl ?_
      refine ev_aload_n rfl ?_
      refine g_getv (r := 42) (v := y0) g1 ad42 (by decide) ft12_1 (ey0) ?_
      refine ev_icmpge f256_110 (fun c63332 => ?_) (fun c63332 => absurd c63332 (by omega))
      refine ev_aload_n rfl ?_
      refine g_getp (r := 42) (c := 47) g1 ad42 (by decide) (by decide) rf42_7 ft12_7 ?_
      refine ev_iload_n rfl ?_
      refine ev_aload_n rfl ?_
      refine ev_iload_n rfl ?_
      refine ev_call (jcall_v (A := [(0, x1)]) (S' := [(0, x1), (2, 47)]) (r := 42) rfl (g1.lt ad42) (g1.tg ad42) (Nat.le_of_ble_eq_true rfl)) (jOk_le (by decide) (s255 g1 (by omega) (by omega))) (by decide) (by decide) (fun w63333 h63333 q63333 => ?_)
      obtain ⟨v63334, rfl, lv63334, uv63334, g63333, kk63333⟩ := q63333
      have k63333 := k1.tr kk63333 (by decide)
      show jEv _ _ _ _ _ _ _ (_, [(2, 42), (0, x1), (0, x1), (0, 0)], [(1, v63334), (0, x1), (2, 47)], _, _, _)
      refine g_last g63333 ad47 rt47 (fun _ => rfl) (by omega) (by omega) (by omega) (by omega) (fun h63335 e63335 g63335 => ?_)
      have k63335 := k63333.wr e63335 rfl
      refine ev_iinc (w := (x1 + 1)) (L' := [(2, 42), (0, (x1 + 1)), (0, x1), (0, 0)]) rfl (by unfold w32; omega) rfl ?_
      refine ev_goto f256_57 ?_
      exact ih _ _ _ _ _ _ _ g63335 k63335 (by omega) (by omega) (((jw_ne e63335 (Or.inl (by decide))).trans ((kk63333.v (by decide)).trans ey0))) (by omega) (by omega) (((jw_ne e63335 (Or.inl (by decide))).trans ((kk63333.v (by decide)).trans ey1))) (by omega) (by omega) (((jw_ne e63335 (Or.inl (by decide))).trans ((kk63333.v (by decide)).trans ey2))) (by omega) (by omega) (by omega)
set_option maxHeartbeats 4000000 in
theorem s256z_0 {G : GH} {h : JH} (g : Gd G h) (ew0 : h.2.2 42 1 = 0) : jOk 4 0 0 256 [(2, 42)] h (fun v h' => ∃ r F : Int, v = some (0, r) ∧ 0 ≤ r ∧ r ≤ 1 ∧ Gd G h' ∧ Kp [(46, 0), (47, 0), (42, 6), (42, 9)] h h' ∧ h'.2.2 42 8 = F ∧ ((-F) + 5 * r) ≤ 4 ∧ (F + (-1000000000001) * r) ≤ (-1)) := by
  refine ⟨by decide, by rw [ml256]; exact Nat.le_of_ble_eq_true rfl, ?_⟩
  rw [ml256, pp256]
  show jEv _ none _ c256_0 0 0 _ (c256_0, [(2, 42), (9, 0), (9, 0), (9, 0)], [], h, 0, 0)
  have k0 := Kp.rf [(46, 0), (47, 0), (42, 6), (42, 9)] h
  refine ev_aload_n rfl ?_
  refine ev_aload_n rfl ?_
  refine ev_call (jcall_v (A := []) (S' := [(2, 42)]) (r := 42) rfl (g.lt ad42) (g.tg ad42) (Nat.le_of_ble_eq_true rfl)) (jOk_le (by decide) (s253z g )) (by decide) (by decide) (fun w63336 h63336 q63336 => ?_)
  obtain ⟨q63336, nz63336⟩ := q63336
  obtain ⟨v63337, rfl, lv63337, uv63337, g63336, kk63336⟩ := q63336
  have nz63336 := nz63336 _ rfl
  have k63336 := k0.tr kk63336 (by decide)
  show jEv _ _ _ _ _ _ _ (_, [(2, 42), (9, 0), (9, 0), (9, 0)], [(1, v63337), (2, 42)], _, _, _)
  refine g_putf (r := 42) g63336 ad42 (by decide) ft12_8 (by decide) (fun e => absurd e nz12_8) rf42_8 (by decide) (by omega) (by omega) (fun h63338 e63338 g63338 => ?_)
  have k63338 := k63336.wr e63338 rfl
  refine ev_aload_n rfl ?_
  refine g_getv (r := 42) (v := v63337) g63338 ad42 (by decide) ft12_8 ((jw_eq e63338)) ?_
  refine ev_lconst ?_
  refine ev_lcmp ?_
  refine ev_ifge f256_19 (fun c63339 => ?_) (fun c63339 => ?_)
  · have c63339b := jcmpL_ge c63339
    refine ev_aload_n rfl ?_
    refine ev_iconst ?_
    refine g_putf (r := 42) g63338 ad42 (by decide) ft12_5 (by decide) (fun e => absurd e nz12_5) rf42_5 (by decide) (by omega) (by omega) (fun h63340 e63340 g63340 => ?_)
    have k63340 := k63338.wr e63340 rfl
    refine ev_iconst ?_
    refine ev_istore_n (L' := [(2, 42), (0, 0), (9, 0), (9, 0)]) (Nat.le_of_ble_eq_true rfl) rfl ?_
    refine ev_iload_n rfl ?_
    refine ev_aload_n rfl ?_
    refine g_getv (r := 42) (v := 0) g63340 ad42 (by decide) ft12_1 (((jw_ne e63340 (Or.inr (by decide))).trans ((jw_ne e63338 (Or.inr (by decide))).trans ((kk63336.v (by decide)).trans ew0)))) ?_
    refine ev_icmpge f256_55 (fun c63341 => ?_) (fun c63341 => absurd c63341 (by omega))
    refine ev_iconst ?_
    refine ev_istore_n (L' := [(2, 42), (0, 0), (9, 0), (9, 0)]) (Nat.le_of_ble_eq_true rfl) rfl ?_
    exact (s256z_0_l ew0 4) _ _ _ _ _ _ _ g63340 k63340 (by omega) (by omega) (((jw_ne e63340 (Or.inr (by decide))).trans ((jw_ne e63338 (Or.inr (by decide))).trans ((kk63336.v (by decide)).trans ew0)))) (by omega) (by omega) ((jw_eq e63340)) (by omega) (by omega) (((jw_ne e63340 (Or.inr (by decide))).trans (jw_eq e63338))) (by omega) (by omega) (by omega)
  · have c63339b := jcmpL_geN c63339
    refine ev_iconst ?_
    exact ev_ret rfl (by decide) (by decide) ⟨_, _, rfl, by omega, by omega, g63338, k63338, ((jw_eq e63338)), by omega, by omega⟩
set_option maxHeartbeats 4000000 in
theorem s256z_1_l {G : GH} {h : JH} (ew0 : h.2.2 42 1 = 1) : ∀ N : Nat, (∀ (h1 : JH) (x1 y0 y1 y2 : Int) (j2 j3 : AV), Gd G h1 → Kp [(46, 0), (47, 0), (42, 6), (42, 9)] h h1 → 0 ≤ x1 → x1 ≤ 3 → h1.2.2 42 1 = y0 → 1 ≤ y0 → y0 ≤ 1 → h1.2.2 42 5 = y1 → 0 ≤ y1 → y1 ≤ 3 → h1.2.2 42 8 = y2 → 1 ≤ y2 → y2 ≤ 1000000000000 → ((-x1) + 3) < N → jEv (jOk 3) none (fun _ => 0) c256_0 0 0 (fun v h' => ∃ r F : Int, v = some (0, r) ∧ 0 ≤ r ∧ r ≤ 1 ∧ Gd G h' ∧ Kp [(46, 0), (47, 0), (42, 6), (42, 9)] h h' ∧ h'.2.2 42 8 = F ∧ ((-F) + 5 * r) ≤ 4 ∧ (F + (-1000000000001) * r) ≤ (-1)) (c256_57, [(2, 42), (0, x1), j2, j3], [], h1, 0, 0)) := by
  intro N
  induction N with
  | zero => exact fun h1 x1 y0 y1 y2 j2 j3 g1 k1 b0 b1 b2 b3 b4 b5 b6 b7 b8 b9 b10 hm => absurd hm (by omega)
  | succ N ih =>
    show _
    intro h1 x1 y0 y1 y2 j2 j3 g1 k1 b0 b1 ey0 ly0 uy0 ey1 ly1 uy1 ey2 ly2 uy2 hm
    refine ev_iload_n rfl ?_
    refine ev_aload_n rfl ?_
    refine g_getv (r := 42) (v := y1) g1 ad42 (by decide) ft12_5 (ey1) ?_
    refine ev_icmpge f256_127 (fun c63410 => ?_) (fun c63410 => ?_)
    · refine ev_iconst ?_
      exact ev_ret rfl (by decide) (by decide) ⟨_, _, rfl, by omega, by omega, g1, k1, (ey2), by omega, by omega⟩
    · refine ev_iload_n rfl ?_
      refine ev_istore_n (L' := [(2, 42), (0, x1), (0, x1), j3]) (Nat.le_of_ble_eq_true rfl) rfl ?_
      refine ev_iconst ?_
      refine ev_istore_n (L' := [(2, 42), (0, x1), (0, x1), (0, 0)]) (Nat.le_of_ble_eq_true rfl) rfl ?_
      refine ev_iload_n rfl ?_
      refine ev_aload_n rfl ?_
      refine g_getv (r := 42) (v := y0) g1 ad42 (by decide) ft12_1 (ey0) ?_
      refine ev_icmpge f256_110 (fun c63411 => absurd c63411 (by omega)) (fun c63411 => ?_)
      refine ev_aload_n rfl ?_
      refine g_getp (r := 42) (c := 46) g1 ad42 (by decide) (by decide) rf42_6 ft12_6 ?_
      refine ev_iconst ?_
      refine ev_iload_n rfl ?_
      refine ev_imul (r := (4 * x1)) (by unfold w32; omega) ?_
      refine ev_iload_n rfl ?_
      refine ev_iadd (r := (4 * x1)) (by unfold w32; omega) ?_
      refine ev_iload_n rfl ?_
      refine ev_aload_n rfl ?_
      refine g_getp (r := 42) (c := 43) g1 ad42 (by decide) (by decide) rf42_2 ft12_2 ?_
      refine ev_iload_n rfl ?_
      refine g_iald g1 ad43 rt43 (by omega) (by omega) (fun v63412 ev63412 lv63412 uv63412 => ?_)
      have xv63412 := (g1.ex.2.1 (0 : Int).toNat (by rw [(ey0)]; omega))
      rw [ev63412] at xv63412
      refine g_iremQ (by omega) (by omega) (fun v63413 ev63413 lv63413 uv63413 wv63413 => ?_)
      refine ev_iastG (r := 46) (j := ((4 * x1)).toNat) (g1.lt ad46) (g1.tg ad46) (by omega) (by rw [g1.ln ad46]; omega) (fun h63414 e63414 => ?_)
      have g63414 := g1.s46 (s := (x1).toNat) (t := 0) e63414 (by omega) (by decide) (lt_r (show ((0 : Nat) : Int) < y0 by omega) (ey0)) (lt_r (show v63413 < v63412 by omega) (ev63412)) (by omega) (by omega)
      have k63414 := k1.wr e63414 rfl
      refine ev_iload_n rfl ?_
      refine ev_aload_n rfl ?_
      refine g_getp (r := 42) (c := 43) g63414 ad42 (by decide) (by decide) rf42_2 ft12_2 ?_
      refine ev_iload_n rfl ?_
      refine g_ialdv (v := v63412) g63414 ad43 (by omega) (by omega) (((jw_ne e63414 (Or.inl (by decide))).trans ev63412)) ?_
      refine g_idivM (by omega) (by omega) (by omega) (fun v63415 ev63415 lv63415 uv63415 => ?_)
      refine ev_istore_n (L' := [(2, 42), (0, x1), (0, v63415), (0, 0)]) (Nat.le_of_ble_eq_true rfl) rfl ?_
      refine ev_iinc (w := 1) (L' := [(2, 42), (0, x1), (0, v63415), (0, 1)]) rfl (by decide) rfl ?_
      refine ev_goto f256_69 ?_
      refine ev_iload_n rfl ?_
      refine ev_aload_n rfl ?_
      refine g_getv (r := 42) (v := y0) g63414 ad42 (by decide) ft12_1 (((jw_ne e63414 (Or.inl (by decide))).trans ey0)) ?_
      refine ev_icmpge f256_110 (fun c63416 => ?_) (fun c63416 => absurd c63416 (by omega))
      refine ev_aload_n rfl ?_
      refine g_getp (r := 42) (c := 47) g63414 ad42 (by decide) (by decide) rf42_7 ft12_7 ?_
      refine ev_iload_n rfl ?_
      refine ev_aload_n rfl ?_
      refine ev_iload_n rfl ?_
      refine ev_call (jcall_v (A := [(0, x1)]) (S' := [(0, x1), (2, 47)]) (r := 42) rfl (g63414.lt ad42) (g63414.tg ad42) (Nat.le_of_ble_eq_true rfl)) (jOk_le (by decide) (s255 g63414 (by omega) (by omega))) (by decide) (by decide) (fun w63417 h63417 q63417 => ?_)
      obtain ⟨v63418, rfl, lv63418, uv63418, g63417, kk63417⟩ := q63417
      have k63417 := k63414.tr kk63417 (by decide)
      show jEv _ _ _ _ _ _ _ (_, [(2, 42), (0, x1), (0, v63415), (0, 1)], [(1, v63418), (0, x1), (2, 47)], _, _, _)
      refine g_last g63417 ad47 rt47 (fun _ => rfl) (by omega) (by omega) (by omega) (by omega) (fun h63419 e63419 g63419 => ?_)
      have k63419 := k63417.wr e63419 rfl
      refine ev_iinc (w := (x1 + 1)) (L' := [(2, 42), (0, (x1 + 1)), (0, v63415), (0, 1)]) rfl (by unfold w32; omega) rfl ?_
      refine ev_goto f256_57 ?_
      exact ih _ _ _ _ _ _ _ g63419 k63419 (by omega) (by omega) (((jw_ne e63419 (Or.inl (by decide))).trans ((kk63417.v (by decide)).trans ((jw_ne e63414 (Or.inl (by decide))).trans ey0)))) (by omega) (by omega) (((jw_ne e63419 (Or.inl (by decide))).trans ((kk63417.v (by decide)).trans ((jw_ne e63414 (Or.inl (by decide))).trans ey1)))) (by omega) (by omega) (((jw_ne e63419 (Or.inl (by decide))).trans ((kk63417.v (by decide)).trans ((jw_ne e63414 (Or.inl (by decide))).trans ey2)))) (by omega) (by omega) (by omega)
set_option maxHeartbeats 4000000 in
theorem s256z_1 {G : GH} {h : JH} (g : Gd G h) (ew0 : h.2.2 42 1 = 1) : jOk 4 0 0 256 [(2, 42)] h (fun v h' => ∃ r F : Int, v = some (0, r) ∧ 0 ≤ r ∧ r ≤ 1 ∧ Gd G h' ∧ Kp [(46, 0), (47, 0), (42, 6), (42, 9)] h h' ∧ h'.2.2 42 8 = F ∧ ((-F) + 5 * r) ≤ 4 ∧ (F + (-1000000000001) * r) ≤ (-1)) := by
  refine ⟨by decide, by rw [ml256]; exact Nat.le_of_ble_eq_true rfl, ?_⟩
  rw [ml256, pp256]
  show jEv _ none _ c256_0 0 0 _ (c256_0, [(2, 42), (9, 0), (9, 0), (9, 0)], [], h, 0, 0)
  have k0 := Kp.rf [(46, 0), (47, 0), (42, 6), (42, 9)] h
  refine ev_aload_n rfl ?_
  refine ev_aload_n rfl ?_
  refine ev_call (jcall_v (A := []) (S' := [(2, 42)]) (r := 42) rfl (g.lt ad42) (g.tg ad42) (Nat.le_of_ble_eq_true rfl)) (jOk_le (by decide) (s253z g )) (by decide) (by decide) (fun w63420 h63420 q63420 => ?_)
  obtain ⟨q63420, nz63420⟩ := q63420
  obtain ⟨v63421, rfl, lv63421, uv63421, g63420, kk63420⟩ := q63420
  have nz63420 := nz63420 _ rfl
  have k63420 := k0.tr kk63420 (by decide)
  show jEv _ _ _ _ _ _ _ (_, [(2, 42), (9, 0), (9, 0), (9, 0)], [(1, v63421), (2, 42)], _, _, _)
  refine g_putf (r := 42) g63420 ad42 (by decide) ft12_8 (by decide) (fun e => absurd e nz12_8) rf42_8 (by decide) (by omega) (by omega) (fun h63422 e63422 g63422 => ?_)
  have k63422 := k63420.wr e63422 rfl
  refine ev_aload_n rfl ?_
  refine g_getv (r := 42) (v := v63421) g63422 ad42 (by decide) ft12_8 ((jw_eq e63422)) ?_
  refine ev_lconst ?_
  refine ev_lcmp ?_
  refine ev_ifge f256_19 (fun c63423 => ?_) (fun c63423 => ?_)
  · have c63423b := jcmpL_ge c63423
    refine ev_aload_n rfl ?_
    refine ev_iconst ?_
    refine g_putf (r := 42) g63422 ad42 (by decide) ft12_5 (by decide) (fun e => absurd e nz12_5) rf42_5 (by decide) (by omega) (by omega) (fun h63424 e63424 g63424 => ?_)
    have k63424 := k63422.wr e63424 rfl
    refine ev_iconst ?_
    refine ev_istore_n (L' := [(2, 42), (0, 0), (9, 0), (9, 0)]) (Nat.le_of_ble_eq_true rfl) rfl ?_
    refine ev_iload_n rfl ?_
    refine ev_aload_n rfl ?_
    refine g_getv (r := 42) (v := 1) g63424 ad42 (by decide) ft12_1 (((jw_ne e63424 (Or.inr (by decide))).trans ((jw_ne e63422 (Or.inr (by decide))).trans ((kk63420.v (by decide)).trans ew0)))) ?_
    refine ev_icmpge f256_55 (fun c63425 => absurd c63425 (by omega)) (fun c63425 => ?_)
    refine ev_aload_n rfl ?_
    refine ev_dup (by decide) ?_
    refine g_getv (r := 42) (v := 1) g63424 ad42 (by decide) ft12_5 ((jw_eq e63424)) ?_
    refine ev_aload_n rfl ?_
    refine g_getp (r := 42) (c := 43) g63424 ad42 (by decide) (by decide) rf42_2 ft12_2 ?_
    refine ev_iload_n rfl ?_
    refine g_iald g63424 ad43 rt43 (by omega) (by omega) (fun v63426 ev63426 lv63426 uv63426 => ?_)
    have xv63426 := (g63424.ex.2.1 (0 : Int).toNat (by rw [(((jw_ne e63424 (Or.inr (by decide))).trans ((jw_ne e63422 (Or.inr (by decide))).trans ((kk63420.v (by decide)).trans ew0))))]; omega))
    rw [ev63426] at xv63426
    refine ev_imul (r := v63426) (by unfold w32; omega) ?_
    refine g_putf (r := 42) g63424 ad42 (by decide) ft12_5 (by decide) (fun e => absurd e nz12_5) rf42_5 (by decide) (by omega) (by omega) (fun h63427 e63427 g63427 => ?_)
    have k63427 := k63424.wr e63427 rfl
    refine ev_iinc (w := 1) (L' := [(2, 42), (0, 1), (9, 0), (9, 0)]) rfl (by decide) rfl ?_
    refine ev_goto f256_26 ?_
    refine ev_iload_n rfl ?_
    refine ev_aload_n rfl ?_
    refine g_getv (r := 42) (v := 1) g63427 ad42 (by decide) ft12_1 (((jw_ne e63427 (Or.inr (by decide))).trans ((jw_ne e63424 (Or.inr (by decide))).trans ((jw_ne e63422 (Or.inr (by decide))).trans ((kk63420.v (by decide)).trans ew0))))) ?_
    refine ev_icmpge f256_55 (fun c63428 => ?_) (fun c63428 => absurd c63428 (by omega))
    refine ev_iconst ?_
    refine ev_istore_n (L' := [(2, 42), (0, 0), (9, 0), (9, 0)]) (Nat.le_of_ble_eq_true rfl) rfl ?_
    exact (s256z_1_l ew0 8) _ _ _ _ _ _ _ g63427 k63427 (by omega) (by omega) (((jw_ne e63427 (Or.inr (by decide))).trans ((jw_ne e63424 (Or.inr (by decide))).trans ((jw_ne e63422 (Or.inr (by decide))).trans ((kk63420.v (by decide)).trans ew0))))) (by omega) (by omega) ((jw_eq e63427)) (by omega) (by omega) (((jw_ne e63427 (Or.inr (by decide))).trans ((jw_ne e63424 (Or.inr (by decide))).trans (jw_eq e63422)))) (by omega) (by omega) (by omega)
  · have c63423b := jcmpL_geN c63423
    refine ev_iconst ?_
    exact ev_ret rfl (by decide) (by decide) ⟨_, _, rfl, by omega, by omega, g63422, k63422, ((jw_eq e63422)), by omega, by omega⟩
set_option maxHeartbeats 4000000 in
theorem s256z_2_l {G : GH} {h : JH} (ew0 : h.2.2 42 1 = 2) : ∀ N : Nat, (∀ (h1 : JH) (x1 y0 y1 y2 : Int) (j2 j3 : AV), Gd G h1 → Kp [(46, 0), (47, 0), (42, 6), (42, 9)] h h1 → 0 ≤ x1 → x1 ≤ 9 → h1.2.2 42 1 = y0 → 2 ≤ y0 → y0 ≤ 2 → h1.2.2 42 5 = y1 → 0 ≤ y1 → y1 ≤ 9 → h1.2.2 42 8 = y2 → 1 ≤ y2 → y2 ≤ 1000000000000 → ((-x1) + 9) < N → jEv (jOk 3) none (fun _ => 0) c256_0 0 0 (fun v h' => ∃ r F : Int, v = some (0, r) ∧ 0 ≤ r ∧ r ≤ 1 ∧ Gd G h' ∧ Kp [(46, 0), (47, 0), (42, 6), (42, 9)] h h' ∧ h'.2.2 42 8 = F ∧ ((-F) + 5 * r) ≤ 4 ∧ (F + (-1000000000001) * r) ≤ (-1)) (c256_57, [(2, 42), (0, x1), j2, j3], [], h1, 0, 0)) := by
  intro N
  induction N with
  | zero => exact fun h1 x1 y0 y1 y2 j2 j3 g1 k1 b0 b1 b2 b3 b4 b5 b6 b7 b8 b9 b10 hm => absurd hm (by omega)
  | succ N ih =>
    show _
    intro h1 x1 y0 y1 y2 j2 j3 g1 k1 b0 b1 ey0 ly0 uy0 ey1 ly1 uy1 ey2 ly2 uy2 hm
    refine ev_iload_n rfl ?_
    refine ev_aload_n rfl ?_
    refine g_getv (r := 42) (v := y1) g1 ad42 (by decide) ft12_5 (ey1) ?_
    refine ev_icmpge f256_127 (fun c63620 => ?_) (fun c63620 => ?_)
    · refine ev_iconst ?_
      exact ev_ret rfl (by decide) (by decide) ⟨_, _, rfl, by omega, by omega, g1, k1, (ey2), by omega, by omega⟩
    · refine ev_iload_n rfl ?_
      refine ev_istore_n (L' := [(2, 42), (0, x1), (0, x1), j3]) (Nat.le_of_ble_eq_true rfl) rfl ?_
      refine ev_iconst ?_
      refine ev_istore_n (L' := [(2, 42), (0, x1), (0, x1), (0, 0)]) (Nat.le_of_ble_eq_true rfl) rfl ?_
      refine ev_iload_n rfl ?_
      refine ev_aload_n rfl ?_
      refine g_getv (r := 42) (v := y0) g1 ad42 (by decide) ft12_1 (ey0) ?_
      refine ev_icmpge f256_110 (fun c63621 => absurd c63621 (by omega)) (fun c63621 => ?_)
      refine ev_aload_n rfl ?_
      refine g_getp (r := 42) (c := 46) g1 ad42 (by decide) (by decide) rf42_6 ft12_6 ?_
      refine ev_iconst ?_
      refine ev_iload_n rfl ?_
      refine ev_imul (r := (4 * x1)) (by unfold w32; omega) ?_
      refine ev_iload_n rfl ?_
      refine ev_iadd (r := (4 * x1)) (by unfold w32; omega) ?_
      refine ev_iload_n rfl ?_
      refine ev_aload_n rfl ?_
      refine g_getp (r := 42) (c := 43) g1 ad42 (by decide) (by decide) rf42_2 ft12_2 ?_
      refine ev_iload_n rfl ?_
      refine g_iald g1 ad43 rt43 (by omega) (by omega) (fun v63622 ev63622 lv63622 uv63622 => ?_)
      have xv63622 := (g1.ex.2.1 (0 : Int).toNat (by rw [(ey0)]; omega))
      rw [ev63622] at xv63622
      refine g_iremQ (by omega) (by omega) (fun v63623 ev63623 lv63623 uv63623 wv63623 => ?_)
      refine ev_iastG (r := 46) (j := ((4 * x1)).toNat) (g1.lt ad46) (g1.tg ad46) (by omega) (by rw [g1.ln ad46]; omega) (fun h63624 e63624 => ?_)
      have g63624 := g1.s46 (s := (x1).toNat) (t := 0) e63624 (by omega) (by decide) (lt_r (show ((0 : Nat) : Int) < y0 by omega) (ey0)) (lt_r (show v63623 < v63622 by omega) (ev63622)) (by omega) (by omega)
      have k63624 := k1.wr e63624 rfl
      refine ev_iload_n rfl ?_
      refine ev_aload_n rfl ?_
      refine g_getp (r := 42) (c := 43) g63624 ad42 (by decide) (by decide) rf42_2 ft12_2 ?_
      refine ev_iload_n rfl ?_
      refine g_ialdv (v := v63622) g63624 ad43 (by omega) (by omega) (((jw_ne e63624 (Or.inl (by decide))).trans ev63622)) ?_
      refine g_idivM (by omega) (by omega) (by omega) (fun v63625 ev63625 lv63625 uv63625 => ?_)
      refine ev_istore_n (L' := [(2, 42), (0, x1), (0, v63625), (0, 0)]) (Nat.le_of_ble_eq_true rfl) rfl ?_
      refine ev_iinc (w := 1) (L' := [(2, 42), (0, x1), (0, v63625), (0, 1)]) rfl (by decide) rfl ?_
      refine ev_goto f256_69 ?_
      refine ev_iload_n rfl ?_
      refine ev_aload_n rfl ?_
      refine g_getv (r := 42) (v := y0) g63624 ad42 (by decide) ft12_1 (((jw_ne e63624 (Or.inl (by decide))).trans ey0)) ?_
      refine ev_icmpge f256_110 (fun c63626 => absurd c63626 (by omega)) (fun c63626 => ?_)
      refine ev_aload_n rfl ?_
      refine g_getp (r := 42) (c := 46) g63624 ad42 (by decide) (by decide) rf42_6 ft12_6 ?_
      refine ev_iconst ?_
      refine ev_iload_n rfl ?_
      refine ev_imul (r := (4 * x1)) (by unfold w32; omega) ?_
      refine ev_iload_n rfl ?_
      refine ev_iadd (r := (4 * x1 + 1)) (by unfold w32; omega) ?_
      refine ev_iload_n rfl ?_
      refine ev_aload_n rfl ?_
      refine g_getp (r := 42) (c := 43) g63624 ad42 (by decide) (by decide) rf42_2 ft12_2 ?_
      refine ev_iload_n rfl ?_
      refine g_iald g63624 ad43 rt43 (by omega) (by omega) (fun v63627 ev63627 lv63627 uv63627 => ?_)
      have xv63627 := (g63624.ex.2.1 (1 : Int).toNat (by rw [(((jw_ne e63624 (Or.inl (by decide))).trans ey0))]; omega))
      rw [ev63627] at xv63627
      refine g_iremQ (by omega) (by omega) (fun v63628 ev63628 lv63628 uv63628 wv63628 => ?_)
      refine ev_iastG (r := 46) (j := ((4 * x1 + 1)).toNat) (g63624.lt ad46) (g63624.tg ad46) (by omega) (by rw [g63624.ln ad46]; omega) (fun h63629 e63629 => ?_)
      have g63629 := g63624.s46 (s := (x1).toNat) (t := 1) e63629 (by omega) (by decide) (lt_r (show ((1 : Nat) : Int) < y0 by omega) (((jw_ne e63624 (Or.inl (by decide))).trans ey0))) (lt_r (show v63628 < v63627 by omega) (ev63627)) (by omega) (by omega)
      have k63629 := k63624.wr e63629 rfl
      refine ev_iload_n rfl ?_
      refine ev_aload_n rfl ?_
      refine g_getp (r := 42) (c := 43) g63629 ad42 (by decide) (by decide) rf42_2 ft12_2 ?_
      refine ev_iload_n rfl ?_
      refine g_ialdv (v := v63627) g63629 ad43 (by omega) (by omega) (((jw_ne e63629 (Or.inl (by decide))).trans ev63627)) ?_
      refine g_idivM (by omega) (by omega) (by omega) (fun v63630 ev63630 lv63630 uv63630 => ?_)
      refine ev_istore_n (L' := [(2, 42), (0, x1), (0, v63630), (0, 1)]) (Nat.le_of_ble_eq_true rfl) rfl ?_
      refine ev_iinc (w := 2) (L' := [(2, 42), (0, x1), (0, v63630), (0, 2)]) rfl (by decide) rfl ?_
      refine ev_goto f256_69 ?_
      refine ev_iload_n rfl ?_
      refine ev_aload_n rfl ?_
      refine g_getv (r := 42) (v := y0) g63629 ad42 (by decide) ft12_1 (((jw_ne e63629 (Or.inl (by decide))).trans ((jw_ne e63624 (Or.inl (by decide))).trans ey0))) ?_
      refine ev_icmpge f256_110 (fun c63631 => ?_) (fun c63631 => absurd c63631 (by omega))
      refine ev_aload_n rfl ?_
      refine g_getp (r := 42) (c := 47) g63629 ad42 (by decide) (by decide) rf42_7 ft12_7 ?_
      refine ev_iload_n rfl ?_
      refine ev_aload_n rfl ?_
      refine ev_iload_n rfl ?_
      refine ev_call (jcall_v (A := [(0, x1)]) (S' := [(0, x1), (2, 47)]) (r := 42) rfl (g63629.lt ad42) (g63629.tg ad42) (Nat.le_of_ble_eq_true rfl)) (jOk_le (by decide) (s255 g63629 (by omega) (by omega))) (by decide) (by decide) (fun w63632 h63632 q63632 => ?_)
      obtain ⟨v63633, rfl, lv63633, uv63633, g63632, kk63632⟩ := q63632
      have k63632 := k63629.tr kk63632 (by decide)
      show jEv _ _ _ _ _ _ _ (_, [(2, 42), (0, x1), (0, v63630), (0, 2)], [(1, v63633), (0, x1), (2, 47)], _, _, _)
      refine g_last g63632 ad47 rt47 (fun _ => rfl) (by omega) (by omega) (by omega) (by omega) (fun h63634 e63634 g63634 => ?_)
      have k63634 := k63632.wr e63634 rfl
      refine ev_iinc (w := (x1 + 1)) (L' := [(2, 42), (0, (x1 + 1)), (0, v63630), (0, 2)]) rfl (by unfold w32; omega) rfl ?_
      refine ev_goto f256_57 ?_
      exact ih _ _ _ _ _ _ _ g63634 k63634 (by omega) (by omega) (((jw_ne e63634 (Or.inl (by decide))).trans ((kk63632.v (by decide)).trans ((jw_ne e63629 (Or.inl (by decide))).trans ((jw_ne e63624 (Or.inl (by decide))).trans ey0))))) (by omega) (by omega) (((jw_ne e63634 (Or.inl (by decide))).trans ((kk63632.v (by decide)).trans ((jw_ne e63629 (Or.inl (by decide))).trans ((jw_ne e63624 (Or.inl (by decide))).trans ey1))))) (by omega) (by omega) (((jw_ne e63634 (Or.inl (by decide))).trans ((kk63632.v (by decide)).trans ((jw_ne e63629 (Or.inl (by decide))).trans ((jw_ne e63624 (Or.inl (by decide))).trans ey2))))) (by omega) (by omega) (by omega)
set_option maxHeartbeats 4000000 in
theorem s256z_2 {G : GH} {h : JH} (g : Gd G h) (ew0 : h.2.2 42 1 = 2) : jOk 4 0 0 256 [(2, 42)] h (fun v h' => ∃ r F : Int, v = some (0, r) ∧ 0 ≤ r ∧ r ≤ 1 ∧ Gd G h' ∧ Kp [(46, 0), (47, 0), (42, 6), (42, 9)] h h' ∧ h'.2.2 42 8 = F ∧ ((-F) + 5 * r) ≤ 4 ∧ (F + (-1000000000001) * r) ≤ (-1)) := by
  refine ⟨by decide, by rw [ml256]; exact Nat.le_of_ble_eq_true rfl, ?_⟩
  rw [ml256, pp256]
  show jEv _ none _ c256_0 0 0 _ (c256_0, [(2, 42), (9, 0), (9, 0), (9, 0)], [], h, 0, 0)
  have k0 := Kp.rf [(46, 0), (47, 0), (42, 6), (42, 9)] h
  refine ev_aload_n rfl ?_
  refine ev_aload_n rfl ?_
  refine ev_call (jcall_v (A := []) (S' := [(2, 42)]) (r := 42) rfl (g.lt ad42) (g.tg ad42) (Nat.le_of_ble_eq_true rfl)) (jOk_le (by decide) (s253z g )) (by decide) (by decide) (fun w63635 h63635 q63635 => ?_)
  obtain ⟨q63635, nz63635⟩ := q63635
  obtain ⟨v63636, rfl, lv63636, uv63636, g63635, kk63635⟩ := q63635
  have nz63635 := nz63635 _ rfl
  have k63635 := k0.tr kk63635 (by decide)
  show jEv _ _ _ _ _ _ _ (_, [(2, 42), (9, 0), (9, 0), (9, 0)], [(1, v63636), (2, 42)], _, _, _)
  refine g_putf (r := 42) g63635 ad42 (by decide) ft12_8 (by decide) (fun e => absurd e nz12_8) rf42_8 (by decide) (by omega) (by omega) (fun h63637 e63637 g63637 => ?_)
  have k63637 := k63635.wr e63637 rfl
  refine ev_aload_n rfl ?_
  refine g_getv (r := 42) (v := v63636) g63637 ad42 (by decide) ft12_8 ((jw_eq e63637)) ?_
  refine ev_lconst ?_
  refine ev_lcmp ?_
  refine ev_ifge f256_19 (fun c63638 => ?_) (fun c63638 => ?_)
  · have c63638b := jcmpL_ge c63638
    refine ev_aload_n rfl ?_
    refine ev_iconst ?_
    refine g_putf (r := 42) g63637 ad42 (by decide) ft12_5 (by decide) (fun e => absurd e nz12_5) rf42_5 (by decide) (by omega) (by omega) (fun h63639 e63639 g63639 => ?_)
    have k63639 := k63637.wr e63639 rfl
    refine ev_iconst ?_
    refine ev_istore_n (L' := [(2, 42), (0, 0), (9, 0), (9, 0)]) (Nat.le_of_ble_eq_true rfl) rfl ?_
    refine ev_iload_n rfl ?_
    refine ev_aload_n rfl ?_
    refine g_getv (r := 42) (v := 2) g63639 ad42 (by decide) ft12_1 (((jw_ne e63639 (Or.inr (by decide))).trans ((jw_ne e63637 (Or.inr (by decide))).trans ((kk63635.v (by decide)).trans ew0)))) ?_
    refine ev_icmpge f256_55 (fun c63640 => absurd c63640 (by omega)) (fun c63640 => ?_)
    refine ev_aload_n rfl ?_
    refine ev_dup (by decide) ?_
    refine g_getv (r := 42) (v := 1) g63639 ad42 (by decide) ft12_5 ((jw_eq e63639)) ?_
    refine ev_aload_n rfl ?_
    refine g_getp (r := 42) (c := 43) g63639 ad42 (by decide) (by decide) rf42_2 ft12_2 ?_
    refine ev_iload_n rfl ?_
    refine g_iald g63639 ad43 rt43 (by omega) (by omega) (fun v63641 ev63641 lv63641 uv63641 => ?_)
    have xv63641 := (g63639.ex.2.1 (0 : Int).toNat (by rw [(((jw_ne e63639 (Or.inr (by decide))).trans ((jw_ne e63637 (Or.inr (by decide))).trans ((kk63635.v (by decide)).trans ew0))))]; omega))
    rw [ev63641] at xv63641
    refine ev_imul (r := v63641) (by unfold w32; omega) ?_
    refine g_putf (r := 42) g63639 ad42 (by decide) ft12_5 (by decide) (fun e => absurd e nz12_5) rf42_5 (by decide) (by omega) (by omega) (fun h63642 e63642 g63642 => ?_)
    have k63642 := k63639.wr e63642 rfl
    refine ev_iinc (w := 1) (L' := [(2, 42), (0, 1), (9, 0), (9, 0)]) rfl (by decide) rfl ?_
    refine ev_goto f256_26 ?_
    refine ev_iload_n rfl ?_
    refine ev_aload_n rfl ?_
    refine g_getv (r := 42) (v := 2) g63642 ad42 (by decide) ft12_1 (((jw_ne e63642 (Or.inr (by decide))).trans ((jw_ne e63639 (Or.inr (by decide))).trans ((jw_ne e63637 (Or.inr (by decide))).trans ((kk63635.v (by decide)).trans ew0))))) ?_
    refine ev_icmpge f256_55 (fun c63643 => absurd c63643 (by omega)) (fun c63643 => ?_)
    refine ev_aload_n rfl ?_
    refine ev_dup (by decide) ?_
    refine g_getv (r := 42) (v := v63641) g63642 ad42 (by decide) ft12_5 ((jw_eq e63642)) ?_
    refine ev_aload_n rfl ?_
    refine g_getp (r := 42) (c := 43) g63642 ad42 (by decide) (by decide) rf42_2 ft12_2 ?_
    refine ev_iload_n rfl ?_
    refine g_iald g63642 ad43 rt43 (by omega) (by omega) (fun v63644 ev63644 lv63644 uv63644 => ?_)
    have xv63644 := (g63642.ex.2.1 (1 : Int).toNat (by rw [(((jw_ne e63642 (Or.inr (by decide))).trans ((jw_ne e63639 (Or.inr (by decide))).trans ((jw_ne e63637 (Or.inr (by decide))).trans ((kk63635.v (by decide)).trans ew0)))))]; omega))
    rw [ev63644] at xv63644
    refine g_imulB (a := 3) (b := 3) (a' := 2) (b' := 2) (by omega) (by omega) (by omega) (by omega) (by decide) (lo := 4) (hi := 9) (by decide) (by decide) (fun v63645 ev63645 lv63645 uv63645 => ?_)
    refine g_putf (r := 42) g63642 ad42 (by decide) ft12_5 (by decide) (fun e => absurd e nz12_5) rf42_5 (by decide) (by omega) (by omega) (fun h63646 e63646 g63646 => ?_)
    have k63646 := k63642.wr e63646 rfl
    refine ev_iinc (w := 2) (L' := [(2, 42), (0, 2), (9, 0), (9, 0)]) rfl (by decide) rfl ?_
    refine ev_goto f256_26 ?_
    refine ev_iload_n rfl ?_
    refine ev_aload_n rfl ?_
    refine g_getv (r := 42) (v := 2) g63646 ad42 (by decide) ft12_1 (((jw_ne e63646 (Or.inr (by decide))).trans ((jw_ne e63642 (Or.inr (by decide))).trans ((jw_ne e63639 (Or.inr (by decide))).trans ((jw_ne e63637 (Or.inr (by decide))).trans ((kk63635.v (by decide)).trans ew0)))))) ?_
    refine ev_icmpge f256_55 (fun c63647 => ?_) (fun c63647 => absurd c63647 (by omega))
    refine ev_iconst ?_
    refine ev_istore_n (L' := [(2, 42), (0, 0), (9, 0), (9, 0)]) (Nat.le_of_ble_eq_true rfl) rfl ?_
    exact (s256z_2_l ew0 20) _ _ _ _ _ _ _ g63646 k63646 (by omega) (by omega) (((jw_ne e63646 (Or.inr (by decide))).trans ((jw_ne e63642 (Or.inr (by decide))).trans ((jw_ne e63639 (Or.inr (by decide))).trans ((jw_ne e63637 (Or.inr (by decide))).trans ((kk63635.v (by decide)).trans ew0)))))) (by omega) (by omega) ((jw_eq e63646)) (by omega) (by omega) (((jw_ne e63646 (Or.inr (by decide))).trans ((jw_ne e63642 (Or.inr (by decide))).trans ((jw_ne e63639 (Or.inr (by decide))).trans (jw_eq e63637))))) (by omega) (by omega) (by omega)
  · have c63638b := jcmpL_geN c63638
    refine ev_iconst ?_
    exact ev_ret rfl (by decide) (by decide) ⟨_, _, rfl, by omega, by omega, g63637, k63637, ((jw_eq e63637)), by omega, by omega⟩
