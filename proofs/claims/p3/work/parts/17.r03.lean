set_option maxHeartbeats 4000000 in
theorem s325_l {G : GH} {h : JH} {a1 : Int} (la1 : 0 ≤ a1) (ua1 : a1 ≤ 5) {a2 : Int} (la2 : 1 ≤ a2) (ua2 : a2 ≤ 99) {a3 : Int} (la3 : 1 ≤ a3) (ua3 : a3 ≤ 99) {w0 : Int} (ew0 : h.2.2 42 9 = w0) (lw0 : 0 ≤ w0) (uw0 : w0 ≤ 6) {w1 : Int} (ew1 : h.2.2 48 (a1).toNat = w1) (lw1 : 1 ≤ w1) (uw1 : w1 ≤ 100) (F0 : (a1 + (-w0)) ≤ (-1)) : ∀ N : Nat, (∀ (h1 : JH) (x4 : Int), Gd G h1 → Kp [] h h1 → 0 ≤ a1 → a1 ≤ 5 → 1 ≤ a2 → a2 ≤ 99 → 1 ≤ a3 → a3 ≤ 99 → 0 ≤ x4 → x4 ≤ 100 → ((-x4) + 100) < N → jEv (jOk 0) none (fun _ => 0) c325_0 0 0 (PI G [] h 0 0 1) (c325_3, [(2, 42), (0, a1), (0, a2), (0, a3), (0, x4)], [], h1, 0, 0)) := by
  intro N
  induction N with
  | zero => exact fun h1 x4 g1 k1 b0 b1 b2 b3 b4 b5 b6 b7 hm => absurd hm (by omega)
  | succ N ih =>
    show _
    intro h1 x4 g1 k1 b0 b1 b2 b3 b4 b5 b6 b7 hm
    refine ev_iload rfl ?_
    refine ev_aload_n rfl ?_
    refine g_getp (r := 42) (c := 48) g1 ad42 (by decide) (by decide) rf42_10 ft12_10 ?_
    refine ev_iload_n rfl ?_
    refine g_ialdv (v := w1) g1 ad48 (by omega) (by omega) (((k1.v rfl).trans ew1)) ?_
    refine ev_icmpge f325_69 (fun c62225 => ?_) (fun c62225 => ?_)
    · refine ev_iconst ?_
      exact ev_ret rfl (by decide) (by decide) ⟨_, rfl, by omega, by omega, g1, k1⟩
    · refine ev_aload_n rfl ?_
      refine g_getp (r := 42) (c := 49) g1 ad42 (by decide) (by decide) rf42_11 ft12_11 ?_
      refine ev_bipush ?_
      refine ev_iload_n rfl ?_
      refine ev_imul (r := (100 * a1)) (by unfold w32; omega) ?_
      refine ev_iload rfl ?_
      refine ev_iadd (r := (100 * a1 + x4)) (by unfold w32; omega) ?_
      refine g_bald g1 ad49 rt49 (by omega) (by omega) (fun v62226 ev62226 lv62226 uv62226 => ?_)
      refine ev_iconst ?_
      refine ev_icmpne f325_63 (fun c62227 => ?_) (fun c62227 => ?_)
      · refine ev_iinc (w := (x4 + 1)) (L' := [(2, 42), (0, a1), (0, a2), (0, a3), (0, (x4 + 1))]) rfl (by unfold w32; omega) rfl ?_
        refine ev_goto f325_3 ?_
        exact ih _ _ g1 k1 (by omega) (by omega) (by omega) (by omega) (by omega) (by omega) (by omega) (by omega) (by omega)
      · refine ev_aload_n rfl ?_
        refine g_getp (r := 42) (c := 66) g1 ad42 (by decide) (by decide) rf42_43 ft12_43 ?_
        refine ev_bipush ?_
        refine ev_iload_n rfl ?_
        refine ev_iconst ?_
        refine ev_isub (r := (a2 - 1)) (by unfold w32; omega) ?_
        refine ev_imul (r := (100 * a2 - 100)) (by unfold w32; omega) ?_
        refine ev_iload rfl ?_
        refine ev_iadd (r := (100 * a2 + x4 - 100)) (by unfold w32; omega) ?_
        refine g_bald g1 ad66 rt66 (by omega) (by omega) (fun v62228 ev62228 lv62228 uv62228 => ?_)
        refine ev_aload_n rfl ?_
        refine g_getp (r := 42) (c := 66) g1 ad42 (by decide) (by decide) rf42_43 ft12_43 ?_
        refine ev_bipush ?_
        refine ev_iload_n rfl ?_
        refine ev_iconst ?_
        refine ev_isub (r := (a3 - 1)) (by unfold w32; omega) ?_
        refine ev_imul (r := (100 * a3 - 100)) (by unfold w32; omega) ?_
        refine ev_iload rfl ?_
        refine ev_iadd (r := (100 * a3 + x4 - 100)) (by unfold w32; omega) ?_
        refine g_bald g1 ad66 rt66 (by omega) (by omega) (fun v62229 ev62229 lv62229 uv62229 => ?_)
        refine ev_icmpeq f325_63 (fun c62230 => ?_) (fun c62230 => ?_)
        · refine ev_iinc (w := (x4 + 1)) (L' := [(2, 42), (0, a1), (0, a2), (0, a3), (0, (x4 + 1))]) rfl (by unfold w32; omega) rfl ?_
          refine ev_goto f325_3 ?_
          exact ih _ _ g1 k1 (by omega) (by omega) (by omega) (by omega) (by omega) (by omega) (by omega) (by omega) (by omega)
        · refine ev_iconst ?_
          exact ev_ret rfl (by decide) (by decide) ⟨_, rfl, by omega, by omega, g1, k1⟩
set_option maxHeartbeats 4000000 in
theorem s325 {G : GH} {h : JH} (g : Gd G h) {a1 : Int} (la1 : 0 ≤ a1) (ua1 : a1 ≤ 5) {a2 : Int} (la2 : 1 ≤ a2) (ua2 : a2 ≤ 99) {a3 : Int} (la3 : 1 ≤ a3) (ua3 : a3 ≤ 99) {w0 : Int} (ew0 : h.2.2 42 9 = w0) (lw0 : 0 ≤ w0) (uw0 : w0 ≤ 6) {w1 : Int} (ew1 : h.2.2 48 (a1).toNat = w1) (lw1 : 1 ≤ w1) (uw1 : w1 ≤ 100) (F0 : (a1 + (-w0)) ≤ (-1)) : jOk 1 0 0 325 [(2, 42), (0, a1), (0, a2), (0, a3)] h (PI G [] h 0 0 1) := by
  refine ⟨by decide, by rw [ml325]; exact Nat.le_of_ble_eq_true rfl, ?_⟩
  rw [ml325, pp325]
  show jEv _ none _ c325_0 0 0 _ (c325_0, [(2, 42), (0, a1), (0, a2), (0, a3), (9, 0)], [], h, 0, 0)
  have k0 := Kp.rf [] h
  refine ev_iconst ?_
  refine ev_istore (L' := [(2, 42), (0, a1), (0, a2), (0, a3), (0, 0)]) (Nat.le_of_ble_eq_true rfl) rfl ?_
  exact (s325_l la1 ua1 la2 ua2 la3 ua3 ew0 lw0 uw0 ew1 lw1 uw1 F0 202) _ _ g k0 (by omega) (by omega) (by omega) (by omega) (by omega) (by omega) (by omega) (by omega) (by omega)
theorem s257 {G : GH} {h : JH} (g : Gd G h) {a1 : Int} (la1 : (-2147483648) ≤ a1) (ua1 : a1 ≤ 2147483647) : jOk 5 0 0 257 [(2, 42), (0, a1)] h (PI G [(46, 0), (47, 0), (42, 6), (42, 9)] h 1 (-9223372036854775808) 9223372036854775807) := by
  obtain ⟨w, e, l, u⟩ := g.rd ad42 (show 1 < 66 by decide) rf42_1
  rcases (show w = 0 ∨ w = 1 ∨ w = 2 ∨ w = 3 ∨ w = 4 by omega) with f | f | f | f | f <;> subst f
  · exact jOk_le (by decide) (s257_0 g la1 ua1 e)
  · exact jOk_le (by decide) (s257_1 g la1 ua1 e)
  · exact jOk_le (by decide) (s257_2 g la1 ua1 e)
  · exact jOk_le (by decide) (s257_3 g la1 ua1 e)
  · exact jOk_le (by decide) (s257_4 g la1 ua1 e)
