/-! fam_fearsWorst  -/
theorem fam_fearsWorst {G : GH} {h : JH} (g : Gd G h) {f0 : Nat} (q0 : IsF G f0) : ∃ k, [3, 3, 15, 3, 3, 3].getD (jpos (h.2.1 f0).1) 0 = k ∧ k ≠ 9999 ∧ jOk 1 0 0 k [(2, (f0 : Int))] h (PI G [] h 0 0 1) := by
  have ht := jfam_in (g.ffam q0)
  simp only [jtags, if_true, List.mem_cons, List.not_mem_nil, or_false] at ht
  rcases ht with e | e | e | e | e | e
  · rw [e]
    exact ⟨3, rfl, by decide, jOk_post (fun v h' q => q) (jOk_le (by decide) (s3 g q0))⟩
  · rw [e]
    exact ⟨3, rfl, by decide, jOk_post (fun v h' q => q) (jOk_le (by decide) (s3 g q0))⟩
  · rw [e]
    exact ⟨15, rfl, by decide, jOk_post (fun v h' q => q) (jOk_le (by decide) (s15 g q0))⟩
  · rw [e]
    exact ⟨3, rfl, by decide, jOk_post (fun v h' q => q) (jOk_le (by decide) (s3 g q0))⟩
  · rw [e]
    exact ⟨3, rfl, by decide, jOk_post (fun v h' q => q) (jOk_le (by decide) (s3 g q0))⟩
  · rw [e]
    exact ⟨3, rfl, by decide, jOk_post (fun v h' q => q) (jOk_le (by decide) (s3 g q0))⟩

/-! 4 regrets -/
set_option maxHeartbeats 4000000 in
theorem s4 {G : GH} {h : JH} (g : Gd G h) {f0 : Nat} (q0 : IsF G f0) : jOk 1 0 0 4 [(2, (f0 : Int))] h (PI G [] h 0 0 1) := by
  refine ⟨by decide, by rw [ml4]; exact Nat.le_of_ble_eq_true rfl, ?_⟩
  rw [ml4, pp4]
  show jEv _ none _ c4_0 0 0 _ (c4_0, [(2, (f0 : Int))], [], h, 0, 0)
  have k0 := Kp.rf [] h
  refine ev_iconst ?_
  exact ev_ret rfl (by decide) (by decide) ⟨_, rfl, by omega, by omega, g, k0⟩
/-! 85 regrets -/
set_option maxHeartbeats 4000000 in
theorem s85 {G : GH} {h : JH} (g : Gd G h) {f0 : Nat} (q0 : IsF G f0) : jOk 1 0 0 85 [(2, (f0 : Int))] h (PI G [] h 0 0 1) := by
  refine ⟨by decide, by rw [ml85]; exact Nat.le_of_ble_eq_true rfl, ?_⟩
  rw [ml85, pp85]
  show jEv _ none _ c85_0 0 0 _ (c85_0, [(2, (f0 : Int))], [], h, 0, 0)
  have k0 := Kp.rf [] h
  refine ev_iconst ?_
  exact ev_ret rfl (by decide) (by decide) ⟨_, rfl, by omega, by omega, g, k0⟩
/-! fam_regrets  -/
theorem fam_regrets {G : GH} {h : JH} (g : Gd G h) {f0 : Nat} (q0 : IsF G f0) : ∃ k, [4, 4, 4, 4, 85, 4].getD (jpos (h.2.1 f0).1) 0 = k ∧ k ≠ 9999 ∧ jOk 1 0 0 k [(2, (f0 : Int))] h (PI G [] h 0 0 1) := by
  have ht := jfam_in (g.ffam q0)
  simp only [jtags, if_true, List.mem_cons, List.not_mem_nil, or_false] at ht
  rcases ht with e | e | e | e | e | e
  · rw [e]
    exact ⟨4, rfl, by decide, jOk_post (fun v h' q => q) (jOk_le (by decide) (s4 g q0))⟩
  · rw [e]
    exact ⟨4, rfl, by decide, jOk_post (fun v h' q => q) (jOk_le (by decide) (s4 g q0))⟩
  · rw [e]
    exact ⟨4, rfl, by decide, jOk_post (fun v h' q => q) (jOk_le (by decide) (s4 g q0))⟩
  · rw [e]
    exact ⟨4, rfl, by decide, jOk_post (fun v h' q => q) (jOk_le (by decide) (s4 g q0))⟩
  · rw [e]
    exact ⟨85, rfl, by decide, jOk_post (fun v h' q => q) (jOk_le (by decide) (s85 g q0))⟩
  · rw [e]
    exact ⟨4, rfl, by decide, jOk_post (fun v h' q => q) (jOk_le (by decide) (s4 g q0))⟩

/-! 1 kind -/
set_option maxHeartbeats 4000000 in
theorem s1 {G : GH} {h : JH} (g : Gd G h) {f0 : Nat} (q0 : IsF G f0) : jOk 1 0 0 1 [(2, (f0 : Int))] h (PI G [] h 0 0 5) := by
  refine ⟨by decide, by rw [ml1]; exact Nat.le_of_ble_eq_true rfl, ?_⟩
  rw [ml1, pp1]
  show jEv _ none _ c1_0 0 0 _ (c1_0, [(2, (f0 : Int))], [], h, 0, 0)
  have k0 := Kp.rf [] h
  refine ev_iconst ?_
  exact ev_ret rfl (by decide) (by decide) ⟨_, rfl, by omega, by omega, g, k0⟩
/-! 10 kind -/
set_option maxHeartbeats 4000000 in
theorem s10 {G : GH} {h : JH} (g : Gd G h) {f0 : Nat} (q0 : IsF G f0) : jOk 1 0 0 10 [(2, (f0 : Int))] h (PI G [] h 0 0 5) := by
  refine ⟨by decide, by rw [ml10]; exact Nat.le_of_ble_eq_true rfl, ?_⟩
  rw [ml10, pp10]
  show jEv _ none _ c10_0 0 0 _ (c10_0, [(2, (f0 : Int))], [], h, 0, 0)
  have k0 := Kp.rf [] h
  refine ev_iconst ?_
  exact ev_ret rfl (by decide) (by decide) ⟨_, rfl, by omega, by omega, g, k0⟩
/-! 14 kind -/
set_option maxHeartbeats 4000000 in
theorem s14 {G : GH} {h : JH} (g : Gd G h) {f0 : Nat} (q0 : IsF G f0) : jOk 1 0 0 14 [(2, (f0 : Int))] h (PI G [] h 0 0 5) := by
  refine ⟨by decide, by rw [ml14]; exact Nat.le_of_ble_eq_true rfl, ?_⟩
  rw [ml14, pp14]
  show jEv _ none _ c14_0 0 0 _ (c14_0, [(2, (f0 : Int))], [], h, 0, 0)
  have k0 := Kp.rf [] h
  refine ev_iconst ?_
  exact ev_ret rfl (by decide) (by decide) ⟨_, rfl, by omega, by omega, g, k0⟩
/-! 18 kind -/
set_option maxHeartbeats 4000000 in
theorem s18 {G : GH} {h : JH} (g : Gd G h) {f0 : Nat} (q0 : IsF G f0) : jOk 1 0 0 18 [(2, (f0 : Int))] h (PI G [] h 0 0 5) := by
  refine ⟨by decide, by rw [ml18]; exact Nat.le_of_ble_eq_true rfl, ?_⟩
  rw [ml18, pp18]
  show jEv _ none _ c18_0 0 0 _ (c18_0, [(2, (f0 : Int))], [], h, 0, 0)
  have k0 := Kp.rf [] h
  refine ev_iconst ?_
  exact ev_ret rfl (by decide) (by decide) ⟨_, rfl, by omega, by omega, g, k0⟩
/-! 84 kind -/
set_option maxHeartbeats 4000000 in
theorem s84 {G : GH} {h : JH} (g : Gd G h) {f0 : Nat} (q0 : IsF G f0) : jOk 1 0 0 84 [(2, (f0 : Int))] h (PI G [] h 0 0 5) := by
  refine ⟨by decide, by rw [ml84]; exact Nat.le_of_ble_eq_true rfl, ?_⟩
  rw [ml84, pp84]
  show jEv _ none _ c84_0 0 0 _ (c84_0, [(2, (f0 : Int))], [], h, 0, 0)
  have k0 := Kp.rf [] h
  refine ev_iconst ?_
  exact ev_ret rfl (by decide) (by decide) ⟨_, rfl, by omega, by omega, g, k0⟩
/-! 98 kind -/
set_option maxHeartbeats 4000000 in
theorem s98 {G : GH} {h : JH} (g : Gd G h) {f0 : Nat} (q0 : IsF G f0) : jOk 1 0 0 98 [(2, (f0 : Int))] h (PI G [] h 0 0 5) := by
  refine ⟨by decide, by rw [ml98]; exact Nat.le_of_ble_eq_true rfl, ?_⟩
  rw [ml98, pp98]
  show jEv _ none _ c98_0 0 0 _ (c98_0, [(2, (f0 : Int))], [], h, 0, 0)
  have k0 := Kp.rf [] h
  refine ev_iconst ?_
  exact ev_ret rfl (by decide) (by decide) ⟨_, rfl, by omega, by omega, g, k0⟩
/-! fam_kind  -/
theorem fam_kind {G : GH} {h : JH} (g : Gd G h) {f0 : Nat} (q0 : IsF G f0) : ∃ k, [1, 10, 14, 18, 84, 98].getD (jpos (h.2.1 f0).1) 0 = k ∧ k ≠ 9999 ∧ jOk 1 0 0 k [(2, (f0 : Int))] h (PI G [] h 0 0 5) := by
  have ht := jfam_in (g.ffam q0)
  simp only [jtags, if_true, List.mem_cons, List.not_mem_nil, or_false] at ht
  rcases ht with e | e | e | e | e | e
  · rw [e]
    exact ⟨1, rfl, by decide, jOk_post (fun v h' q => q) (jOk_le (by decide) (s1 g q0))⟩
  · rw [e]
    exact ⟨10, rfl, by decide, jOk_post (fun v h' q => q) (jOk_le (by decide) (s10 g q0))⟩
  · rw [e]
    exact ⟨14, rfl, by decide, jOk_post (fun v h' q => q) (jOk_le (by decide) (s14 g q0))⟩
  · rw [e]
    exact ⟨18, rfl, by decide, jOk_post (fun v h' q => q) (jOk_le (by decide) (s18 g q0))⟩
  · rw [e]
    exact ⟨84, rfl, by decide, jOk_post (fun v h' q => q) (jOk_le (by decide) (s84 g q0))⟩
  · rw [e]
    exact ⟨98, rfl, by decide, jOk_post (fun v h' q => q) (jOk_le (by decide) (s98 g q0))⟩

/-! 226 isUnder -/
set_option maxHeartbeats 4000000 in
theorem s226 {G : GH} {h : JH} (g : Gd G h) {f0 : Nat} (q0 : IsF G f0) {a1 : Int} (la1 : (-2147483648) ≤ a1) (ua1 : a1 ≤ 2147483647) : jOk 1 0 0 226 [(2, (f0 : Int)), (0, a1)] h (PI G [] h 0 0 1) := by
  refine ⟨by decide, by rw [ml226]; exact Nat.le_of_ble_eq_true rfl, ?_⟩
  rw [ml226, pp226]
  show jEv _ none _ c226_0 0 0 _ (c226_0, [(2, (f0 : Int)), (0, a1)], [], h, 0, 0)
  have k0 := Kp.rf [] h
  refine ev_iload_n rfl ?_
  rcases (show a1 = 0 ∨ a1 = 1 ∨ a1 = 2 ∨ a1 = 3 ∨ a1 = 4 ∨ a1 < 0 ∨ 4 < a1 by omega) with c4546 | c4546 | c4546 | c4546 | c4546 | c4546 | c4546
  · refine ev_sw (t := 36) (by rw [c4546]; decide) f226_36 ?_
    refine ev_iconst ?_
    exact ev_ret rfl (by decide) (by decide) ⟨_, rfl, by omega, by omega, g, k0⟩
  · refine ev_sw (t := 38) (by rw [c4546]; decide) f226_38 ?_
    refine ev_aload_n rfl ?_
    refine g_inst g q0 (fun v4547 ev4547 lv4547 uv4547 => ?_)
    exact ev_ret (jret_b (by omega)) (by decide) (by decide) ⟨_, rfl, by omega, by omega, g, k0⟩
  · refine ev_sw (t := 43) (by rw [c4546]; decide) f226_43 ?_
    refine ev_aload_n rfl ?_
    refine g_inst g q0 (fun v4548 ev4548 lv4548 uv4548 => ?_)
    exact ev_ret (jret_b (by omega)) (by decide) (by decide) ⟨_, rfl, by omega, by omega, g, k0⟩
  · refine ev_sw (t := 48) (by rw [c4546]; decide) f226_48 ?_
    refine ev_aload_n rfl ?_
    refine g_inst g q0 (fun v4549 ev4549 lv4549 uv4549 => ?_)
    exact ev_ret (jret_b (by omega)) (by decide) (by decide) ⟨_, rfl, by omega, by omega, g, k0⟩
  · refine ev_sw (t := 53) (by rw [c4546]; decide) f226_53 ?_
    refine ev_aload_n rfl ?_
    refine g_inst g q0 (fun v4550 ev4550 lv4550 uv4550 => ?_)
    exact ev_ret (jret_b (by omega)) (by decide) (by decide) ⟨_, rfl, by omega, by omega, g, k0⟩
  · refine ev_sw (t := 58) (by rw [if_pos (show _ ∨ _ by omega)]; rfl) f226_58 ?_
    refine ev_aload_n rfl ?_
    refine g_inst g q0 (fun v4551 ev4551 lv4551 uv4551 => ?_)
    exact ev_ret (jret_b (by omega)) (by decide) (by decide) ⟨_, rfl, by omega, by omega, g, k0⟩
  · refine ev_sw (t := 58) (by rw [if_pos (show _ ∨ _ by omega)]; rfl) f226_58 ?_
    refine ev_aload_n rfl ?_
    refine g_inst g q0 (fun v4552 ev4552 lv4552 uv4552 => ?_)
    exact ev_ret (jret_b (by omega)) (by decide) (by decide) ⟨_, rfl, by omega, by omega, g, k0⟩
/-! 224 commonDivisor -/
set_option maxHeartbeats 4000000 in
theorem s224_l {G : GH} {h : JH} {a0 : Int} (la0 : (-9223372036854775808) ≤ a0) (ua0 : a0 ≤ 9223372036854775807) {a1 : Int} (la1 : (-9223372036854775808) ≤ a1) (ua1 : a1 ≤ 9223372036854775807) : ∀ N : Nat, (∀ (h1 : JH) (x4 x6 x8 : Int) (j9 : AV), Gd G h1 → Kp [] h h1 → (-9223372036854775808) ≤ a0 → a0 ≤ 9223372036854775807 → (-9223372036854775808) ≤ a1 → a1 ≤ 9223372036854775807 → (-9223372036854775808) ≤ x4 → x4 ≤ 9223372036854775807 → (-9223372036854775808) ≤ x6 → x6 ≤ 9223372036854775807 → 0 ≤ x8 → x8 ≤ 200 → ((-x8) + 200) < N → jEv (jOk 0) none (fun _ => 0) c224_0 0 0 (PI G [] h 1 (-9223372036854775808) 9223372036854775807) (c224_9, [(1, a0), (9, 0), (1, a1), (9, 0), (1, x4), (9, 0), (1, x6), (9, 0), (0, x8), j9, (9, 0)], [], h1, 0, 0)) := by
  intro N
  induction N with
  | zero => exact fun h1 x4 x6 x8 j9 g1 k1 b0 b1 b2 b3 b4 b5 b6 b7 b8 b9 hm => absurd hm (by omega)
  | succ N ih =>
    show _
    intro h1 x4 x6 x8 j9 g1 k1 b0 b1 b2 b3 b4 b5 b6 b7 b8 b9 hm
    refine ev_iload rfl ?_
    refine ev_sipush ?_
    refine ev_icmpge f224_45 (fun c4691 => ?_) (fun c4691 => ?_)
    · refine ev_lload rfl ?_
      exact ev_ret rfl (by decide) (by decide) ⟨_, rfl, by omega, by omega, g1, k1⟩
    · refine ev_lload rfl ?_
      refine ev_lconst ?_
      refine ev_lcmp ?_
      refine ev_ifeq f224_45 (fun c4692 => ?_) (fun c4692 => ?_)
      · have c4692b := jcmpL_eq c4692
        refine ev_lload rfl ?_
        exact ev_ret rfl (by decide) (by decide) ⟨_, rfl, by omega, by omega, g1, k1⟩
      · have c4692b := jcmpL_eqN c4692
        refine ev_lload rfl ?_
        refine ev_lload rfl ?_
        refine g_lremG (by omega) (by omega) (by omega) (fun v4693 ev4693 lv4693 uv4693 => ?_)
        refine ev_lstore (L' := [(1, a0), (9, 0), (1, a1), (9, 0), (1, x4), (9, 0), (1, x6), (9, 0), (0, x8), (1, v4693), (9, 0)]) (Nat.le_of_ble_eq_true rfl) rfl ?_
        refine ev_lload rfl ?_
        refine ev_lstore (L' := [(1, a0), (9, 0), (1, a1), (9, 0), (1, x6), (9, 0), (1, x6), (9, 0), (0, x8), (1, v4693), (9, 0)]) (Nat.le_of_ble_eq_true rfl) rfl ?_
        refine ev_lload rfl ?_
        refine ev_lstore (L' := [(1, a0), (9, 0), (1, a1), (9, 0), (1, x6), (9, 0), (1, v4693), (9, 0), (0, x8), (1, v4693), (9, 0)]) (Nat.le_of_ble_eq_true rfl) rfl ?_
        refine ev_iinc (w := (x8 + 1)) (L' := [(1, a0), (9, 0), (1, a1), (9, 0), (1, x6), (9, 0), (1, v4693), (9, 0), (0, (x8 + 1)), (1, v4693), (9, 0)]) rfl (by unfold w32; omega) rfl ?_
        refine ev_goto f224_9 ?_
        exact ih _ _ _ _ _ g1 k1 (by omega) (by omega) (by omega) (by omega) (by omega) (by omega) (by omega) (by omega) (by omega) (by omega) (by omega)
set_option maxHeartbeats 4000000 in
theorem s224 {G : GH} {h : JH} (g : Gd G h) {a0 : Int} (la0 : (-9223372036854775808) ≤ a0) (ua0 : a0 ≤ 9223372036854775807) {a1 : Int} (la1 : (-9223372036854775808) ≤ a1) (ua1 : a1 ≤ 9223372036854775807) : jOk 1 0 0 224 [(1, a0), (1, a1)] h (PI G [] h 1 (-9223372036854775808) 9223372036854775807) := by
  refine ⟨by decide, by rw [ml224]; exact Nat.le_of_ble_eq_true rfl, ?_⟩
  rw [ml224, pp224]
  show jEv _ none _ c224_0 0 0 _ (c224_0, [(1, a0), (9, 0), (1, a1), (9, 0), (9, 0), (9, 0), (9, 0), (9, 0), (9, 0), (9, 0), (9, 0)], [], h, 0, 0)
  have k0 := Kp.rf [] h
  refine ev_lload_n rfl ?_
  refine ev_lstore (L' := [(1, a0), (9, 0), (1, a1), (9, 0), (1, a0), (9, 0), (9, 0), (9, 0), (9, 0), (9, 0), (9, 0)]) (Nat.le_of_ble_eq_true rfl) rfl ?_
  refine ev_lload_n rfl ?_
  refine ev_lstore (L' := [(1, a0), (9, 0), (1, a1), (9, 0), (1, a0), (9, 0), (1, a1), (9, 0), (9, 0), (9, 0), (9, 0)]) (Nat.le_of_ble_eq_true rfl) rfl ?_
  refine ev_iconst ?_
  refine ev_istore (L' := [(1, a0), (9, 0), (1, a1), (9, 0), (1, a0), (9, 0), (1, a1), (9, 0), (0, 0), (9, 0), (9, 0)]) (Nat.le_of_ble_eq_true rfl) rfl ?_
  exact (s224_l la0 ua0 la1 ua1 402) _ _ _ _ _ g k0 (by omega) (by omega) (by omega) (by omega) (by omega) (by omega) (by omega) (by omega) (by omega) (by omega) (by omega)
/-! 223 fraction -/
set_option maxHeartbeats 4000000 in
theorem s223 {G : GH} {h : JH} (g : Gd G h) {a0 : Int} (la0 : (-9223372036854775808) ≤ a0) (ua0 : a0 ≤ 9223372036854775807) {a1 : Int} (la1 : (-9223372036854775808) ≤ a1) (ua1 : a1 ≤ 9223372036854775807) {a2 : Int} (la2 : (-2147483648) ≤ a2) (ua2 : a2 ≤ 2147483647) : jOk 2 0 0 223 [(1, a0), (1, a1), (0, a2)] h (PI G [] h 1 (-9223372036854775808) 9223372036854775807) := by
  refine ⟨by decide, by rw [ml223]; exact Nat.le_of_ble_eq_true rfl, ?_⟩
  rw [ml223, pp223]
  show jEv _ none _ c223_0 0 0 _ (c223_0, [(1, a0), (9, 0), (1, a1), (9, 0), (0, a2), (9, 0), (9, 0), (9, 0), (9, 0)], [], h, 0, 0)
  have k0 := Kp.rf [] h
  refine ev_lload_n rfl ?_
  refine ev_lconst ?_
  refine ev_lcmp ?_
  refine ev_ifge f223_11 (fun c4726 => ?_) (fun c4726 => ?_)
  · have c4726b := jcmpL_ge c4726
    refine ev_lload_n rfl ?_
    refine ev_lload_n rfl ?_
    refine ev_call (jcall_s (A := [(1, a1), (1, a0)]) (S' := []) (by decide) rfl (Nat.le_of_ble_eq_true rfl)) (jOk_le (by decide) (s224 g (by omega) (by omega) (by omega) (by omega))) (by decide) (by decide) (fun w4727 h4727 q4727 => ?_)
    obtain ⟨v4728, rfl, lv4728, uv4728, g4727, kk4727⟩ := q4727
    have k4727 := k0.tr kk4727 (by decide)
    show jEv _ _ _ _ _ _ _ (_, [(1, a0), (9, 0), (1, a1), (9, 0), (0, a2), (9, 0), (9, 0), (9, 0), (9, 0)], [(1, v4728)], _, _, _)
    refine ev_lstore (L' := [(1, a0), (9, 0), (1, a1), (9, 0), (0, a2), (1, v4728), (9, 0), (9, 0), (9, 0)]) (Nat.le_of_ble_eq_true rfl) rfl ?_
    refine ev_iload rfl ?_
    refine ev_ifne f223_27 (fun c4729 => ?_) (fun c4729 => ?_)
    · refine ev_lload_n rfl ?_
      refine ev_lstore (L' := [(1, a0), (9, 0), (1, a1), (9, 0), (0, a2), (1, v4728), (9, 0), (1, a1), (9, 0)]) (Nat.le_of_ble_eq_true rfl) rfl ?_
      refine ev_lload rfl ?_
      refine ev_lconst ?_
      refine ev_lcmp ?_
      refine ev_ifgt f223_42 (fun c4730 => ?_) (fun c4730 => ?_)
      · have c4730b := jcmpL_gt c4730
        refine ev_lload rfl ?_
        refine ev_lload rfl ?_
        refine g_ldivG (by omega) (fun v4731 ev4731 lv4731 uv4731 => ?_)
        exact ev_ret rfl (by decide) (by decide) ⟨_, rfl, by omega, by omega, g4727, k4727⟩
      · have c4730b := jcmpL_gtN c4730
        refine ev_lload rfl ?_
        refine ev_goto f223_47 ?_
        exact ev_ret rfl (by decide) (by decide) ⟨_, rfl, by omega, by omega, g4727, k4727⟩
    · refine ev_lload_n rfl ?_
      refine ev_goto f223_28 ?_
      refine ev_lstore (L' := [(1, a0), (9, 0), (1, a1), (9, 0), (0, a2), (1, v4728), (9, 0), (1, a0), (9, 0)]) (Nat.le_of_ble_eq_true rfl) rfl ?_
      refine ev_lload rfl ?_
      refine ev_lconst ?_
      refine ev_lcmp ?_
      refine ev_ifgt f223_42 (fun c4732 => ?_) (fun c4732 => ?_)
      · have c4732b := jcmpL_gt c4732
        refine ev_lload rfl ?_
        refine ev_lload rfl ?_
        refine g_ldivM (by omega) (by omega) (by omega) (fun v4733 ev4733 lv4733 uv4733 => ?_)
        exact ev_ret rfl (by decide) (by decide) ⟨_, rfl, by omega, by omega, g4727, k4727⟩
      · have c4732b := jcmpL_gtN c4732
        refine ev_lload rfl ?_
        refine ev_goto f223_47 ?_
        exact ev_ret rfl (by decide) (by decide) ⟨_, rfl, by omega, by omega, g4727, k4727⟩
  · have c4726b := jcmpL_geN c4726
    refine ev_lload_n rfl ?_
    refine g_lnegG (fun v4734 ev4734 lv4734 uv4734 => ?_)
    refine ev_goto f223_12 ?_
    refine ev_lload_n rfl ?_
    refine ev_call (jcall_s (A := [(1, a1), (1, v4734)]) (S' := []) (by decide) rfl (Nat.le_of_ble_eq_true rfl)) (jOk_le (by decide) (s224 g (by omega) (by omega) (by omega) (by omega))) (by decide) (by decide) (fun w4735 h4735 q4735 => ?_)
    obtain ⟨v4736, rfl, lv4736, uv4736, g4735, kk4735⟩ := q4735
    have k4735 := k0.tr kk4735 (by decide)
    show jEv _ _ _ _ _ _ _ (_, [(1, a0), (9, 0), (1, a1), (9, 0), (0, a2), (9, 0), (9, 0), (9, 0), (9, 0)], [(1, v4736)], _, _, _)
    refine ev_lstore (L' := [(1, a0), (9, 0), (1, a1), (9, 0), (0, a2), (1, v4736), (9, 0), (9, 0), (9, 0)]) (Nat.le_of_ble_eq_true rfl) rfl ?_
    refine ev_iload rfl ?_
    refine ev_ifne f223_27 (fun c4737 => ?_) (fun c4737 => ?_)
    · refine ev_lload_n rfl ?_
      refine ev_lstore (L' := [(1, a0), (9, 0), (1, a1), (9, 0), (0, a2), (1, v4736), (9, 0), (1, a1), (9, 0)]) (Nat.le_of_ble_eq_true rfl) rfl ?_
      refine ev_lload rfl ?_
      refine ev_lconst ?_
      refine ev_lcmp ?_
      refine ev_ifgt f223_42 (fun c4738 => ?_) (fun c4738 => ?_)
      · have c4738b := jcmpL_gt c4738
        refine ev_lload rfl ?_
        refine ev_lload rfl ?_
        refine g_ldivG (by omega) (fun v4739 ev4739 lv4739 uv4739 => ?_)
        exact ev_ret rfl (by decide) (by decide) ⟨_, rfl, by omega, by omega, g4735, k4735⟩
      · have c4738b := jcmpL_gtN c4738
        refine ev_lload rfl ?_
        refine ev_goto f223_47 ?_
        exact ev_ret rfl (by decide) (by decide) ⟨_, rfl, by omega, by omega, g4735, k4735⟩
    · refine ev_lload_n rfl ?_
      refine ev_goto f223_28 ?_
      refine ev_lstore (L' := [(1, a0), (9, 0), (1, a1), (9, 0), (0, a2), (1, v4736), (9, 0), (1, a0), (9, 0)]) (Nat.le_of_ble_eq_true rfl) rfl ?_
      refine ev_lload rfl ?_
      refine ev_lconst ?_
      refine ev_lcmp ?_
      refine ev_ifgt f223_42 (fun c4740 => ?_) (fun c4740 => ?_)
      · have c4740b := jcmpL_gt c4740
        refine ev_lload rfl ?_
        refine ev_lload rfl ?_
        refine g_ldivG (by omega) (fun v4741 ev4741 lv4741 uv4741 => ?_)
        exact ev_ret rfl (by decide) (by decide) ⟨_, rfl, by omega, by omega, g4735, k4735⟩
      · have c4740b := jcmpL_gtN c4740
        refine ev_lload rfl ?_
        refine ev_goto f223_47 ?_
        exact ev_ret rfl (by decide) (by decide) ⟨_, rfl, by omega, by omega, g4735, k4735⟩
/-! 144 levelWeights -/
set_option maxHeartbeats 4000000 in
theorem s144_l {G : GH} {h : JH} {a1 : Int} (la1 : 0 ≤ a1) (ua1 : a1 ≤ 3) : ∀ N : Nat, (∀ (h1 : JH) (x2 : Int), Gd G h1 → Kp [(4, 0)] h h1 → 0 ≤ a1 → a1 ≤ 3 → 0 ≤ x2 → x2 ≤ 36 → ((-x2) + 36) < N → jEv (jOk 1) none (fun _ => 0) c144_0 0 0 (PV G [(4, 0)] h) (c144_7, [(2, 1), (0, a1), (0, x2)], [], h1, 0, 0)) := by
  intro N
  induction N with
  | zero => exact fun h1 x2 g1 k1 b0 b1 b2 b3 hm => absurd hm (by omega)
  | succ N ih =>
    show _
    intro h1 x2 g1 k1 b0 b1 b2 b3 hm
    refine ev_iload_n rfl ?_
    refine ev_iload_n rfl ?_
    refine ev_iconst ?_
    refine ev_iadd (r := (a1 + 1)) (by unfold w32; omega) ?_
    refine ev_iconst ?_
    refine ev_iconst ?_
    refine ev_in (d := 0) (a := 0) (b := 0) (cd' := c147_0) (m := 3) (L0 := [(0, (a1 + 1)), (0, 0), (0, 0)]) (jcall_s (A := [(0, 0), (0, 0), (0, (a1 + 1))]) (S' := [(0, x2)]) (by decide) rfl (Nat.le_of_ble_eq_true rfl)) (by decide) ml147 pp147 (Nat.le_of_ble_eq_true rfl) rfl (by decide) (by decide) ?_
    refine ev_bipush ?_
    refine ev_iload_n rfl ?_
    refine ev_imul (r := (9 * a1 + 9)) (by unfold w32; omega) ?_
    refine ev_iconst ?_
    refine ev_iload_n rfl ?_
    refine ev_imul (r := 0) (by decide) ?_
    refine ev_iadd (r := (9 * a1 + 9)) (by unfold w32; omega) ?_
    refine ev_iload_n rfl ?_
    refine ev_iadd (r := (9 * a1 + 9)) (by unfold w32; omega) ?_
    refine ev_ret rfl (by decide) (by decide) ?_
    show jEv _ _ _ _ _ _ _ (_, [(2, 1), (0, a1), (0, x2)], [(0, (9 * a1 + 9)), (0, x2)], _, _, _)
    refine ev_icmpge f144_38 (fun c4766 => ?_) (fun c4766 => ?_)
    · exact ev_ret rfl (by decide) (by decide) ⟨rfl, g1, k1⟩
    · refine ev_iload_n rfl ?_
      refine ev_bipush ?_
      refine ev_icmpge f144_38 (fun c4767 => absurd c4767 (by omega)) (fun c4767 => ?_)
      refine ev_aload_n rfl ?_
      refine g_getp (r := 1) (c := 4) g1 ad1 (by decide) (by decide) rf1_5 ft10_5 ?_
      refine ev_iload_n rfl ?_
      refine ev_iconst ?_
      refine g_iast g1 ad4 rt4 (fun _ => rfl) (by omega) (by omega) (by omega) (by omega) (fun h4768 e4768 g4768 => ?_)
      have k4768 := k1.wr e4768 rfl
      refine ev_iinc (w := (x2 + 1)) (L' := [(2, 1), (0, a1), (0, (x2 + 1))]) rfl (by unfold w32; omega) rfl ?_
      refine ev_goto f144_7 ?_
      exact ih _ _ g4768 k4768 (by omega) (by omega) (by omega) (by omega) (by omega)
set_option maxHeartbeats 4000000 in
theorem s144 {G : GH} {h : JH} (g : Gd G h) {a1 : Int} (la1 : 0 ≤ a1) (ua1 : a1 ≤ 3) : jOk 2 0 0 144 [(2, 1), (0, a1)] h (PV G [(4, 0)] h) := by
  refine ⟨by decide, by rw [ml144]; exact Nat.le_of_ble_eq_true rfl, ?_⟩
  rw [ml144, pp144]
  show jEv _ none _ c144_0 0 0 _ (c144_0, [(2, 1), (0, a1), (9, 0)], [], h, 0, 0)
  have k0 := Kp.rf [(4, 0)] h
  refine ev_iload_n rfl ?_
  refine ev_iconst ?_
  refine ev_iconst ?_
  refine ev_in (d := 0) (a := 0) (b := 0) (cd' := c147_0) (m := 3) (L0 := [(0, a1), (0, 0), (0, 0)]) (jcall_s (A := [(0, 0), (0, 0), (0, a1)]) (S' := []) (by decide) rfl (Nat.le_of_ble_eq_true rfl)) (by decide) ml147 pp147 (Nat.le_of_ble_eq_true rfl) rfl (by decide) (by decide) ?_
  refine ev_bipush ?_
  refine ev_iload_n rfl ?_
  refine ev_imul (r := (9 * a1)) (by unfold w32; omega) ?_
  refine ev_iconst ?_
  refine ev_iload_n rfl ?_
  refine ev_imul (r := 0) (by decide) ?_
  refine ev_iadd (r := (9 * a1)) (by unfold w32; omega) ?_
  refine ev_iload_n rfl ?_
  refine ev_iadd (r := (9 * a1)) (by unfold w32; omega) ?_
  refine ev_ret rfl (by decide) (by decide) ?_
  show jEv _ _ _ _ _ _ _ (_, [(2, 1), (0, a1), (9, 0)], [(0, (9 * a1))], _, _, _)
  refine ev_istore_n (L' := [(2, 1), (0, a1), (0, (9 * a1))]) (Nat.le_of_ble_eq_true rfl) rfl ?_
  exact (s144_l la1 ua1 74) _ _ g k0 (by omega) (by omega) (by omega) (by omega) (by omega)
/-! 150 rowSum -/
set_option maxHeartbeats 4000000 in
theorem s150_l {G : GH} {h : JH} {a1 : Int} (la1 : 0 ≤ a1) (ua1 : a1 ≤ 3) {a2 : Int} (la2 : 0 ≤ a2) (ua2 : a2 ≤ 2) : ∀ N : Nat, (∀ (h1 : JH) (x3 x4 : Int), Gd G h1 → Kp [] h h1 → 0 ≤ a1 → a1 ≤ 3 → 0 ≤ a2 → a2 ≤ 2 → (-2147483648) ≤ x3 → x3 ≤ 2147483647 → 0 ≤ x4 → x4 ≤ 3 → ((-x4) + 3) < N → jEv (jOk 1) none (fun _ => 0) c150_0 0 0 (PI G [] h 0 (-2147483648) 2147483647) (c150_5, [(2, 1), (0, a1), (0, a2), (0, x3), (0, x4)], [], h1, 0, 0)) := by
  intro N
  induction N with
  | zero => exact fun h1 x3 x4 g1 k1 b0 b1 b2 b3 b4 b5 b6 b7 hm => absurd hm (by omega)
  | succ N ih =>
    show _
    intro h1 x3 x4 g1 k1 b0 b1 b2 b3 b4 b5 b6 b7 hm
    refine ev_iload rfl ?_
    refine ev_aload_n rfl ?_
    refine g_getp (r := 1) (c := 2) g1 ad1 (by decide) (by decide) rf1_3 ft10_3 ?_
    refine ev_iload_n rfl ?_
    refine g_iald g1 ad2 rt2 (by omega) (by omega) (fun v4788 ev4788 lv4788 uv4788 => ?_)
    refine ev_icmpge f150_37 (fun c4789 => ?_) (fun c4789 => ?_)
    · refine ev_iload_n rfl ?_
      exact ev_ret rfl (by decide) (by decide) ⟨_, rfl, by omega, by omega, g1, k1⟩
    · refine ev_iload_n rfl ?_
      refine ev_aload_n rfl ?_
      refine g_getp (r := 1) (c := 4) g1 ad1 (by decide) (by decide) rf1_5 ft10_5 ?_
      refine ev_iload_n rfl ?_
      refine ev_iload_n rfl ?_
      refine ev_iload rfl ?_
      refine ev_in (d := 0) (a := 0) (b := 0) (cd' := c147_0) (m := 3) (L0 := [(0, a1), (0, a2), (0, x4)]) (jcall_s (A := [(0, x4), (0, a2), (0, a1)]) (S' := [(2, 4), (0, x3)]) (by decide) rfl (Nat.le_of_ble_eq_true rfl)) (by decide) ml147 pp147 (Nat.le_of_ble_eq_true rfl) rfl (by decide) (by decide) ?_
      refine ev_bipush ?_
      refine ev_iload_n rfl ?_
      refine ev_imul (r := (9 * a1)) (by unfold w32; omega) ?_
      refine ev_iconst ?_
      refine ev_iload_n rfl ?_
      refine ev_imul (r := (3 * a2)) (by unfold w32; omega) ?_
      refine ev_iadd (r := (9 * a1 + 3 * a2)) (by unfold w32; omega) ?_
      refine ev_iload_n rfl ?_
      refine ev_iadd (r := (9 * a1 + 3 * a2 + x4)) (by unfold w32; omega) ?_
      refine ev_ret rfl (by decide) (by decide) ?_
      show jEv _ _ _ _ _ _ _ (_, [(2, 1), (0, a1), (0, a2), (0, x3), (0, x4)], [(0, (9 * a1 + 3 * a2 + x4)), (2, 4), (0, x3)], _, _, _)
      refine g_iald g1 ad4 rt4 (by omega) (by omega) (fun v4790 ev4790 lv4790 uv4790 => ?_)
      refine g_iaddG (fun v4791 ev4791 lv4791 uv4791 => ?_)
      refine ev_istore_n (L' := [(2, 1), (0, a1), (0, a2), (0, v4791), (0, x4)]) (Nat.le_of_ble_eq_true rfl) rfl ?_
      refine ev_iinc (w := (x4 + 1)) (L' := [(2, 1), (0, a1), (0, a2), (0, v4791), (0, (x4 + 1))]) rfl (by unfold w32; omega) rfl ?_
      refine ev_goto f150_5 ?_
      exact ih _ _ _ g1 k1 (by omega) (by omega) (by omega) (by omega) (by omega) (by omega) (by omega) (by omega) (by omega)
set_option maxHeartbeats 4000000 in
theorem s150 {G : GH} {h : JH} (g : Gd G h) {a1 : Int} (la1 : 0 ≤ a1) (ua1 : a1 ≤ 3) {a2 : Int} (la2 : 0 ≤ a2) (ua2 : a2 ≤ 2) : jOk 2 0 0 150 [(2, 1), (0, a1), (0, a2)] h (PI G [] h 0 (-2147483648) 2147483647) := by
  refine ⟨by decide, by rw [ml150]; exact Nat.le_of_ble_eq_true rfl, ?_⟩
  rw [ml150, pp150]
  show jEv _ none _ c150_0 0 0 _ (c150_0, [(2, 1), (0, a1), (0, a2), (9, 0), (9, 0)], [], h, 0, 0)
  have k0 := Kp.rf [] h
  refine ev_iconst ?_
  refine ev_istore_n (L' := [(2, 1), (0, a1), (0, a2), (0, 0), (9, 0)]) (Nat.le_of_ble_eq_true rfl) rfl ?_
  refine ev_iconst ?_
  refine ev_istore (L' := [(2, 1), (0, a1), (0, a2), (0, 0), (0, 0)]) (Nat.le_of_ble_eq_true rfl) rfl ?_
  exact (s150_l la1 ua1 la2 ua2 8) _ _ _ g k0 (by omega) (by omega) (by omega) (by omega) (by omega) (by omega) (by omega) (by omega) (by omega)
/-! 151 commonMultiple -/
set_option maxHeartbeats 4000000 in
theorem s151_l {G : GH} {h : JH} {a1 : Int} (la1 : 0 ≤ a1) (ua1 : a1 ≤ 3) : ∀ N : Nat, (∀ (h1 : JH) (x2 x4 : Int) (j5 j7 : AV), Gd G h1 → Kp [] h h1 → 0 ≤ a1 → a1 ≤ 3 → (-9223372036854775808) ≤ x2 → x2 ≤ 9223372036854775807 → 0 ≤ x4 → x4 ≤ 3 → ((-x4) + 3) < N → jEv (jOk 2) none (fun _ => 0) c151_0 0 0 (PI G [] h 1 (-9223372036854775808) 9223372036854775807) (c151_5, [(2, 1), (0, a1), (1, x2), (9, 0), (0, x4), j5, (9, 0), j7, (9, 0)], [], h1, 0, 0)) := by
  intro N
  induction N with
  | zero => exact fun h1 x2 x4 j5 j7 g1 k1 b0 b1 b2 b3 b4 b5 hm => absurd hm (by omega)
  | succ N ih =>
    show _
    intro h1 x2 x4 j5 j7 g1 k1 b0 b1 b2 b3 b4 b5 hm
    refine ev_iload rfl ?_
    refine ev_aload_n rfl ?_
    refine ev_iload_n rfl ?_
    refine ev_in (d := 1) (a := 0) (b := 0) (cd' := c145_0) (m := 2) (L0 := [(2, 1), (0, a1)]) (jcall_v (A := [(0, a1)]) (S' := [(0, x4)]) (r := 1) rfl (g1.lt ad1) (g1.tg ad1) (Nat.le_of_ble_eq_true rfl)) (by decide) ml145 pp145 (Nat.le_of_ble_eq_true rfl) rfl (by decide) (by decide) ?_
    refine ev_aload_n rfl ?_
    refine g_getp (r := 1) (c := 3) g1 ad1 (by decide) (by decide) rf1_4 ft10_4 ?_
    refine ev_iload_n rfl ?_
    refine g_iald g1 ad3 rt3 (by omega) (by omega) (fun v4887 ev4887 lv4887 uv4887 => ?_)
    refine ev_ifge f145_13 (fun c4888 => ?_) (fun c4888 => ?_)
    · refine ev_aload_n rfl ?_
      refine g_getp (r := 1) (c := 2) g1 ad1 (by decide) (by decide) rf1_3 ft10_3 ?_
      refine ev_aload_n rfl ?_
      refine g_getp (r := 1) (c := 3) g1 ad1 (by decide) (by decide) rf1_4 ft10_4 ?_
      refine ev_iload_n rfl ?_
      refine g_ialdv (v := v4887) g1 ad3 (by omega) (by omega) (ev4887) ?_
      refine g_iald g1 ad2 rt2 (by omega) (by omega) (fun v4889 ev4889 lv4889 uv4889 => ?_)
      refine ev_ret rfl (by decide) (by decide) ?_
      show jEv _ _ _ _ _ _ _ (_, [(2, 1), (0, a1), (1, x2), (9, 0), (0, x4), j5, (9, 0), j7, (9, 0)], [(0, v4889), (0, x4)], _, _, _)
      refine ev_icmpge f151_58 (fun c4890 => ?_) (fun c4890 => ?_)
      · refine ev_lload_n rfl ?_
        exact ev_ret rfl (by decide) (by decide) ⟨_, rfl, by omega, by omega, g1, k1⟩
      · refine ev_aload_n rfl ?_
        refine ev_iload_n rfl ?_
        refine ev_iload rfl ?_
        refine ev_call (jcall_v (A := [(0, x4), (0, a1)]) (S' := []) (r := 1) rfl (g1.lt ad1) (g1.tg ad1) (Nat.le_of_ble_eq_true rfl)) (jOk_le (by decide) (s150 g1 (by omega) (by omega) (by omega) (by omega))) (by decide) (by decide) (fun w4891 h4891 q4891 => ?_)
        obtain ⟨v4892, rfl, lv4892, uv4892, g4891, kk4891⟩ := q4891
        have k4891 := k1.tr kk4891 (by decide)
        show jEv _ _ _ _ _ _ _ (_, [(2, 1), (0, a1), (1, x2), (9, 0), (0, x4), j5, (9, 0), j7, (9, 0)], [(0, v4892)], _, _, _)
        refine ev_i2l ?_
        refine ev_lstore (L' := [(2, 1), (0, a1), (1, x2), (9, 0), (0, x4), (1, v4892), (9, 0), j7, (9, 0)]) (Nat.le_of_ble_eq_true rfl) rfl ?_
        refine ev_lload_n rfl ?_
        refine ev_lload rfl ?_
        refine ev_call (jcall_s (A := [(1, v4892), (1, x2)]) (S' := []) (by decide) rfl (Nat.le_of_ble_eq_true rfl)) (jOk_le (by decide) (s224 g4891 (by omega) (by omega) (by omega) (by omega))) (by decide) (by decide) (fun w4893 h4893 q4893 => ?_)
        obtain ⟨v4894, rfl, lv4894, uv4894, g4893, kk4893⟩ := q4893
        have k4893 := k4891.tr kk4893 (by decide)
        show jEv _ _ _ _ _ _ _ (_, [(2, 1), (0, a1), (1, x2), (9, 0), (0, x4), (1, v4892), (9, 0), j7, (9, 0)], [(1, v4894)], _, _, _)
        refine ev_lstore (L' := [(2, 1), (0, a1), (1, x2), (9, 0), (0, x4), (1, v4892), (9, 0), (1, v4894), (9, 0)]) (Nat.le_of_ble_eq_true rfl) rfl ?_
        refine ev_lload rfl ?_
        refine ev_lconst ?_
        refine ev_lcmp ?_
        refine ev_ifge f151_44 (fun c4895 => ?_) (fun c4895 => ?_)
        · have c4895b := jcmpL_ge c4895
          refine ev_lload_n rfl ?_
          refine ev_lload rfl ?_
          refine g_ldivG (by omega) (fun v4896 ev4896 lv4896 uv4896 => ?_)
          refine ev_lload rfl ?_
          refine g_lmulG (fun v4897 ev4897 lv4897 uv4897 => ?_)
          refine ev_lstore_n (L' := [(2, 1), (0, a1), (1, v4897), (9, 0), (0, x4), (1, v4892), (9, 0), (1, v4894), (9, 0)]) (Nat.le_of_ble_eq_true rfl) rfl ?_
          refine ev_iinc (w := (x4 + 1)) (L' := [(2, 1), (0, a1), (1, v4897), (9, 0), (0, (x4 + 1)), (1, v4892), (9, 0), (1, v4894), (9, 0)]) rfl (by unfold w32; omega) rfl ?_
          refine ev_goto f151_5 ?_
          exact ih _ _ _ _ _ g4893 k4893 (by omega) (by omega) (by omega) (by omega) (by omega) (by omega) (by omega)
        · have c4895b := jcmpL_geN c4895
          refine ev_lload_n rfl ?_
          refine ev_goto f151_51 ?_
          refine ev_lstore_n (L' := [(2, 1), (0, a1), (1, x2), (9, 0), (0, x4), (1, v4892), (9, 0), (1, v4894), (9, 0)]) (Nat.le_of_ble_eq_true rfl) rfl ?_
          refine ev_iinc (w := (x4 + 1)) (L' := [(2, 1), (0, a1), (1, x2), (9, 0), (0, (x4 + 1)), (1, v4892), (9, 0), (1, v4894), (9, 0)]) rfl (by unfold w32; omega) rfl ?_
          refine ev_goto f151_5 ?_
          exact ih _ _ _ _ _ g4893 k4893 (by omega) (by omega) (by omega) (by omega) (by omega) (by omega) (by omega)
    · refine ev_iconst ?_
      refine ev_goto f145_24 ?_
      refine ev_ret rfl (by decide) (by decide) ?_
      show jEv _ _ _ _ _ _ _ (_, [(2, 1), (0, a1), (1, x2), (9, 0), (0, x4), j5, (9, 0), j7, (9, 0)], [(0, 1), (0, x4)], _, _, _)
      refine ev_icmpge f151_58 (fun c4898 => ?_) (fun c4898 => ?_)
      · refine ev_lload_n rfl ?_
        exact ev_ret rfl (by decide) (by decide) ⟨_, rfl, by omega, by omega, g1, k1⟩
      · refine ev_aload_n rfl ?_
        refine ev_iload_n rfl ?_
        refine ev_iload rfl ?_
        refine ev_call (jcall_v (A := [(0, x4), (0, a1)]) (S' := []) (r := 1) rfl (g1.lt ad1) (g1.tg ad1) (Nat.le_of_ble_eq_true rfl)) (jOk_le (by decide) (s150 g1 (by omega) (by omega) (by omega) (by omega))) (by decide) (by decide) (fun w4899 h4899 q4899 => ?_)
        obtain ⟨v4900, rfl, lv4900, uv4900, g4899, kk4899⟩ := q4899
        have k4899 := k1.tr kk4899 (by decide)
        show jEv _ _ _ _ _ _ _ (_, [(2, 1), (0, a1), (1, x2), (9, 0), (0, x4), j5, (9, 0), j7, (9, 0)], [(0, v4900)], _, _, _)
        refine ev_i2l ?_
        refine ev_lstore (L' := [(2, 1), (0, a1), (1, x2), (9, 0), (0, x4), (1, v4900), (9, 0), j7, (9, 0)]) (Nat.le_of_ble_eq_true rfl) rfl ?_
        refine ev_lload_n rfl ?_
        refine ev_lload rfl ?_
        refine ev_call (jcall_s (A := [(1, v4900), (1, x2)]) (S' := []) (by decide) rfl (Nat.le_of_ble_eq_true rfl)) (jOk_le (by decide) (s224 g4899 (by omega) (by omega) (by omega) (by omega))) (by decide) (by decide) (fun w4901 h4901 q4901 => ?_)
        obtain ⟨v4902, rfl, lv4902, uv4902, g4901, kk4901⟩ := q4901
        have k4901 := k4899.tr kk4901 (by decide)
        show jEv _ _ _ _ _ _ _ (_, [(2, 1), (0, a1), (1, x2), (9, 0), (0, x4), (1, v4900), (9, 0), j7, (9, 0)], [(1, v4902)], _, _, _)
        refine ev_lstore (L' := [(2, 1), (0, a1), (1, x2), (9, 0), (0, x4), (1, v4900), (9, 0), (1, v4902), (9, 0)]) (Nat.le_of_ble_eq_true rfl) rfl ?_
        refine ev_lload rfl ?_
        refine ev_lconst ?_
        refine ev_lcmp ?_
        refine ev_ifge f151_44 (fun c4903 => ?_) (fun c4903 => ?_)
        · have c4903b := jcmpL_ge c4903
          refine ev_lload_n rfl ?_
          refine ev_lload rfl ?_
          refine g_ldivG (by omega) (fun v4904 ev4904 lv4904 uv4904 => ?_)
          refine ev_lload rfl ?_
          refine g_lmulG (fun v4905 ev4905 lv4905 uv4905 => ?_)
          refine ev_lstore_n (L' := [(2, 1), (0, a1), (1, v4905), (9, 0), (0, x4), (1, v4900), (9, 0), (1, v4902), (9, 0)]) (Nat.le_of_ble_eq_true rfl) rfl ?_
          refine ev_iinc (w := (x4 + 1)) (L' := [(2, 1), (0, a1), (1, v4905), (9, 0), (0, (x4 + 1)), (1, v4900), (9, 0), (1, v4902), (9, 0)]) rfl (by unfold w32; omega) rfl ?_
          refine ev_goto f151_5 ?_
          exact ih _ _ _ _ _ g4901 k4901 (by omega) (by omega) (by omega) (by omega) (by omega) (by omega) (by omega)
        · have c4903b := jcmpL_geN c4903
          refine ev_lload_n rfl ?_
          refine ev_goto f151_51 ?_
          refine ev_lstore_n (L' := [(2, 1), (0, a1), (1, x2), (9, 0), (0, x4), (1, v4900), (9, 0), (1, v4902), (9, 0)]) (Nat.le_of_ble_eq_true rfl) rfl ?_
          refine ev_iinc (w := (x4 + 1)) (L' := [(2, 1), (0, a1), (1, x2), (9, 0), (0, (x4 + 1)), (1, v4900), (9, 0), (1, v4902), (9, 0)]) rfl (by unfold w32; omega) rfl ?_
          refine ev_goto f151_5 ?_
          exact ih _ _ _ _ _ g4901 k4901 (by omega) (by omega) (by omega) (by omega) (by omega) (by omega) (by omega)
set_option maxHeartbeats 4000000 in
theorem s151 {G : GH} {h : JH} (g : Gd G h) {a1 : Int} (la1 : 0 ≤ a1) (ua1 : a1 ≤ 3) : jOk 3 0 0 151 [(2, 1), (0, a1)] h (PI G [] h 1 (-9223372036854775808) 9223372036854775807) := by
  refine ⟨by decide, by rw [ml151]; exact Nat.le_of_ble_eq_true rfl, ?_⟩
  rw [ml151, pp151]
  show jEv _ none _ c151_0 0 0 _ (c151_0, [(2, 1), (0, a1), (9, 0), (9, 0), (9, 0), (9, 0), (9, 0), (9, 0), (9, 0)], [], h, 0, 0)
  have k0 := Kp.rf [] h
  refine ev_lconst ?_
  refine ev_lstore_n (L' := [(2, 1), (0, a1), (1, 1), (9, 0), (9, 0), (9, 0), (9, 0), (9, 0), (9, 0)]) (Nat.le_of_ble_eq_true rfl) rfl ?_
  refine ev_iconst ?_
  refine ev_istore (L' := [(2, 1), (0, a1), (1, 1), (9, 0), (0, 0), (9, 0), (9, 0), (9, 0), (9, 0)]) (Nat.le_of_ble_eq_true rfl) rfl ?_
  exact (s151_l la1 ua1 8) _ _ _ _ _ g k0 (by omega) (by omega) (by omega) (by omega) (by omega) (by omega) (by omega)
/-! 152 bottomOf -/
set_option maxHeartbeats 4000000 in
theorem s152_l {G : GH} {h : JH}  : ∀ N : Nat, (∀ (h1 : JH) (x1 x3 : Int) (j4 : AV), Gd G h1 → Kp [] h h1 → (-9223372036854775808) ≤ x1 → x1 ≤ 9223372036854775807 → 0 ≤ x3 → x3 ≤ 4 → ((-x3) + 4) < N → jEv (jOk 3) none (fun _ => 0) c152_0 0 0 (PI G [] h 1 (-9223372036854775808) 9223372036854775807) (c152_4, [(2, 1), (1, x1), (9, 0), (0, x3), j4, (9, 0)], [], h1, 0, 0)) := by
  intro N
  induction N with
  | zero => exact fun h1 x1 x3 j4 g1 k1 b0 b1 b2 b3 hm => absurd hm (by omega)
  | succ N ih =>
    show _
    intro h1 x1 x3 j4 g1 k1 b0 b1 b2 b3 hm
    refine ev_iload_n rfl ?_
    refine ev_aload_n rfl ?_
    obtain ⟨v4953, ev4953, lv4953, uv4953⟩ := g1.rd ad1 (show 0 < 8 by decide) rf1_0
    refine g_getv (r := 1) (v := v4953) g1 ad1 (by decide) ft10_0 ev4953 ?_
    refine ev_icmpge f152_50 (fun c4954 => ?_) (fun c4954 => ?_)
    · refine ev_lload_n rfl ?_
      exact ev_ret rfl (by decide) (by decide) ⟨_, rfl, by omega, by omega, g1, k1⟩
    · refine ev_aload_n rfl ?_
      refine ev_iload_n rfl ?_
      refine ev_call (jcall_v (A := [(0, x3)]) (S' := []) (r := 1) rfl (g1.lt ad1) (g1.tg ad1) (Nat.le_of_ble_eq_true rfl)) (jOk_le (by decide) (s151 g1 (by omega) (by omega))) (by decide) (by decide) (fun w4955 h4955 q4955 => ?_)
      obtain ⟨v4956, rfl, lv4956, uv4956, g4955, kk4955⟩ := q4955
      have k4955 := k1.tr kk4955 (by decide)
      show jEv _ _ _ _ _ _ _ (_, [(2, 1), (1, x1), (9, 0), (0, x3), j4, (9, 0)], [(1, v4956)], _, _, _)
      refine ev_lstore (L' := [(2, 1), (1, x1), (9, 0), (0, x3), (1, v4956), (9, 0)]) (Nat.le_of_ble_eq_true rfl) rfl ?_
      refine ev_lload rfl ?_
      refine ev_lconst ?_
      refine ev_lcmp ?_
      refine ev_iflt f152_37 (fun c4957 => ?_) (fun c4957 => ?_)
      · have c4957b := jcmpL_lt c4957
        refine ev_lconst ?_
        exact ev_ret rfl (by decide) (by decide) ⟨_, rfl, by omega, by omega, g4955, k4955⟩
      · have c4957b := jcmpL_ltN c4957
        refine ev_lload_n rfl ?_
        refine ev_ldc2_w ?_
        refine ev_lload rfl ?_
        refine g_ldivM (by omega) (by omega) (by omega) (fun v4958 ev4958 lv4958 uv4958 => ?_)
        refine ev_lcmp ?_
        refine ev_ifle f152_39 (fun c4959 => ?_) (fun c4959 => ?_)
        · have c4959b := jcmpL_le c4959
          refine ev_lload_n rfl ?_
          refine ev_lload rfl ?_
          refine g_lmulG (fun v4960 ev4960 lv4960 uv4960 => ?_)
          refine ev_lstore_n (L' := [(2, 1), (1, v4960), (9, 0), (0, x3), (1, v4956), (9, 0)]) (Nat.le_of_ble_eq_true rfl) rfl ?_
          refine ev_iinc (w := (x3 + 1)) (L' := [(2, 1), (1, v4960), (9, 0), (0, (x3 + 1)), (1, v4956), (9, 0)]) rfl (by unfold w32; omega) rfl ?_
          refine ev_goto f152_4 ?_
          exact ih _ _ _ _ g4955 k4955 (by omega) (by omega) (by omega) (by omega) (by omega)
        · have c4959b := jcmpL_leN c4959
          refine ev_lconst ?_
          exact ev_ret rfl (by decide) (by decide) ⟨_, rfl, by omega, by omega, g4955, k4955⟩
set_option maxHeartbeats 4000000 in
theorem s152 {G : GH} {h : JH} (g : Gd G h)  : jOk 4 0 0 152 [(2, 1)] h (PI G [] h 1 (-9223372036854775808) 9223372036854775807) := by
  refine ⟨by decide, by rw [ml152]; exact Nat.le_of_ble_eq_true rfl, ?_⟩
  rw [ml152, pp152]
  show jEv _ none _ c152_0 0 0 _ (c152_0, [(2, 1), (9, 0), (9, 0), (9, 0), (9, 0), (9, 0)], [], h, 0, 0)
  have k0 := Kp.rf [] h
  refine ev_lconst ?_
  refine ev_lstore_n (L' := [(2, 1), (1, 1), (9, 0), (9, 0), (9, 0), (9, 0)]) (Nat.le_of_ble_eq_true rfl) rfl ?_
  refine ev_iconst ?_
  refine ev_istore_n (L' := [(2, 1), (1, 1), (9, 0), (0, 0), (9, 0), (9, 0)]) (Nat.le_of_ble_eq_true rfl) rfl ?_
  exact (s152_l  10) _ _ _ _ g k0 (by omega) (by omega) (by omega) (by omega) (by omega)
/-! 155 spread -/
set_option maxHeartbeats 4000000 in
theorem s155_l {G : GH} {h : JH} {a1 : Int} (la1 : 0 ≤ a1) (ua1 : a1 ≤ 3) : ∀ N : Nat, (∀ (h1 : JH) (x2 : Int) (j3 j5 j6 j7 : AV), Gd G h1 → Kp [(6, 0)] h h1 → 0 ≤ a1 → a1 ≤ 3 → 0 ≤ x2 → x2 ≤ 64 → ((-8) * x2 + 516) < N → jEv (jOk 1) none (fun _ => 0) c155_0 0 0 (PV G [(6, 0)] h) (c155_2, [(2, 1), (0, a1), (0, x2), j3, (9, 0), j5, j6, j7], [], h1, 0, 0)) ∧ (∀ (h1 : JH) (x2 x3 x5 x6 : Int) (j7 : AV), Gd G h1 → Kp [(6, 0)] h h1 → 0 ≤ a1 → a1 ≤ 3 → 0 ≤ x2 → x2 ≤ 63 → (-9223372036854775808) ≤ x3 → x3 ≤ 9223372036854775807 → (-1) ≤ x5 → x5 ≤ 2 → 0 ≤ x6 → x6 ≤ 3 → ((-8) * x2 + (-x6) + 515) < N → jEv (jOk 1) none (fun _ => 0) c155_0 0 0 (PV G [(6, 0)] h) (c155_50, [(2, 1), (0, a1), (0, x2), (1, x3), (9, 0), (0, x5), (0, x6), j7], [], h1, 0, 0)) := by
  intro N
  induction N with
  | zero => exact ⟨fun h1 x2 j3 j5 j6 j7 g1 k1 b0 b1 b2 b3 hm => absurd hm (by omega), fun h1 x2 x3 x5 x6 j7 g1 k1 b0 b1 b2 b3 b4 b5 b6 b7 b8 b9 hm => absurd hm (by omega)⟩
  | succ N ih =>
    refine ⟨?_, ?_⟩
    · intro h1 x2 j3 j5 j6 j7 g1 k1 b0 b1 b2 b3 hm
      refine ev_iload_n rfl ?_
      refine ev_iconst ?_
      refine ev_iconst ?_
      refine ev_iload_n rfl ?_
      refine ev_imul (r := (2 * a1)) (by unfold w32; omega) ?_
      refine g_ishlB (a' := 1) (a := 1) (b := 6) (hi := 64) (by omega) (by omega) (by omega) (by omega) (by decide) (by decide) (fun v6066 ev6066 lv6066 uv6066 => ?_)
      refine ev_icmpge f155_156 (fun c6067 => ?_) (fun c6067 => ?_)
      · exact ev_ret rfl (by decide) (by decide) ⟨rfl, g1, k1⟩
      · refine ev_aload_n rfl ?_
        refine g_getp (r := 1) (c := 6) g1 ad1 (by decide) (by decide) rf1_7 ft10_7 ?_
        refine ev_iload_n rfl ?_
        refine g_lald g1 ad6 rt6 (by omega) (by omega) (fun v6068 ev6068 lv6068 uv6068 => ?_)
        refine ev_lstore_n (L' := [(2, 1), (0, a1), (0, x2), (1, v6068), (9, 0), j5, j6, j7]) (Nat.le_of_ble_eq_true rfl) rfl ?_
        refine ev_aload_n rfl ?_
        refine g_getp (r := 1) (c := 3) g1 ad1 (by decide) (by decide) rf1_4 ft10_4 ?_
        refine ev_iload_n rfl ?_
        refine g_iald g1 ad3 rt3 (by omega) (by omega) (fun v6069 ev6069 lv6069 uv6069 => ?_)
        refine ev_ifge f155_31 (fun c6070 => ?_) (fun c6070 => ?_)
        · refine ev_iload_n rfl ?_
          refine ev_iconst ?_
          refine ev_aload_n rfl ?_
          refine g_getp (r := 1) (c := 3) g1 ad1 (by decide) (by decide) rf1_4 ft10_4 ?_
          refine ev_iload_n rfl ?_
          refine g_ialdv (v := v6069) g1 ad3 (by omega) (by omega) (ev6069) ?_
          refine ev_imul (r := (2 * v6069)) (by unfold w32; omega) ?_
          refine g_ishrB (a := 63) (by omega) (by omega) (by decide) (fun v6071 ev6071 lv6071 uv6071 => ?_)
          refine ev_iconst ?_
          refine g_iandB (b := 3) (by omega) (by omega) (by decide) (fun v6072 ev6072 lv6072 uv6072 => ?_)
          refine ev_iconst ?_
          refine ev_isub (r := (v6072 - 1)) (by unfold w32; omega) ?_
          refine ev_istore (L' := [(2, 1), (0, a1), (0, x2), (1, v6068), (9, 0), (0, (v6072 - 1)), j6, j7]) (Nat.le_of_ble_eq_true rfl) rfl ?_
          refine ev_iconst ?_
          refine ev_istore (L' := [(2, 1), (0, a1), (0, x2), (1, v6068), (9, 0), (0, (v6072 - 1)), (0, 0), j7]) (Nat.le_of_ble_eq_true rfl) rfl ?_
          exact ih.2 _ _ _ _ _ _ g1 k1 (by omega) (by omega) (by omega) (by omega) (by omega) (by omega) (by omega) (by omega) (by omega) (by omega) (by omega)
        · refine ev_iconst ?_
          refine ev_goto f155_45 ?_
          refine ev_istore (L' := [(2, 1), (0, a1), (0, x2), (1, v6068), (9, 0), (0, 0), j6, j7]) (Nat.le_of_ble_eq_true rfl) rfl ?_
          refine ev_iconst ?_
          refine ev_istore (L' := [(2, 1), (0, a1), (0, x2), (1, v6068), (9, 0), (0, 0), (0, 0), j7]) (Nat.le_of_ble_eq_true rfl) rfl ?_
          exact ih.2 _ _ _ _ _ _ g1 k1 (by omega) (by omega) (by omega) (by omega) (by omega) (by omega) (by omega) (by omega) (by omega) (by omega) (by omega)
    · intro h1 x2 x3 x5 x6 j7 g1 k1 b0 b1 b2 b3 b4 b5 b6 b7 b8 b9 hm
      refine ev_iload rfl ?_
      refine ev_iconst ?_
      refine ev_icmpge f155_143 (fun c6073 => ?_) (fun c6073 => ?_)
      · refine ev_aload_n rfl ?_
        refine g_getp (r := 1) (c := 6) g1 ad1 (by decide) (by decide) rf1_7 ft10_7 ?_
        refine ev_iload_n rfl ?_
        refine ev_lconst ?_
        refine g_last g1 ad6 rt6 (fun _ => rfl) (by omega) (by omega) (by omega) (by omega) (fun h6074 e6074 g6074 => ?_)
        have k6074 := k1.wr e6074 rfl
        refine ev_iinc (w := (x2 + 1)) (L' := [(2, 1), (0, a1), (0, (x2 + 1)), (1, x3), (9, 0), (0, x5), (0, x6), j7]) rfl (by unfold w32; omega) rfl ?_
        refine ev_goto f155_2 ?_
        exact ih.1 _ _ _ _ _ _ g6074 k6074 (by omega) (by omega) (by omega) (by omega) (by omega)
      · refine ev_lload_n rfl ?_
        refine ev_lconst ?_
        refine ev_lcmp ?_
        refine ev_ifle f155_82 (fun c6075 => ?_) (fun c6075 => ?_)
        · have c6075b := jcmpL_le c6075
          refine ev_iconst ?_
          refine ev_istore (L' := [(2, 1), (0, a1), (0, x2), (1, x3), (9, 0), (0, x5), (0, x6), (0, 0)]) (Nat.le_of_ble_eq_true rfl) rfl ?_
          refine ev_aload_n rfl ?_
          refine g_getp (r := 1) (c := 6) g1 ad1 (by decide) (by decide) rf1_7 ft10_7 ?_
          refine ev_iload_n rfl ?_
          refine ev_iload rfl ?_
          refine ev_iconst ?_
          refine ev_iadd (r := (x6 + 1)) (by unfold w32; omega) ?_
          refine ev_iconst ?_
          refine ev_iload_n rfl ?_
          refine ev_imul (r := (2 * a1)) (by unfold w32; omega) ?_
          refine g_ishlB (a' := 1) (a := 3) (b := 6) (hi := 192) (by omega) (by omega) (by omega) (by omega) (by decide) (by decide) (fun v6076 ev6076 lv6076 uv6076 => ?_)
          refine g_iorB (k := 8) (hi := 255) (by decide) (by decide) (by omega) (by omega) (by omega) (by omega) (fun v6077 ev6077 lv6077 uv6077 => ?_)
          refine ev_iload rfl ?_
          refine ev_ifeq f155_135 (fun c6078 => ?_) (fun c6078 => absurd c6078 (by omega))
          refine ev_lconst ?_
          refine g_last g1 ad6 rt6 (fun _ => rfl) (by omega) (by omega) (by omega) (by omega) (fun h6079 e6079 g6079 => ?_)
          have k6079 := k1.wr e6079 rfl
          refine ev_iinc (w := (x6 + 1)) (L' := [(2, 1), (0, a1), (0, x2), (1, x3), (9, 0), (0, x5), (0, (x6 + 1)), (0, 0)]) rfl (by unfold w32; omega) rfl ?_
          refine ev_goto f155_50 ?_
          exact ih.2 _ _ _ _ _ _ g6079 k6079 (by omega) (by omega) (by omega) (by omega) (by omega) (by omega) (by omega) (by omega) (by omega) (by omega) (by omega)
        · have c6075b := jcmpL_leN c6075
          refine ev_iload rfl ?_
          refine ev_iflt f155_82 (fun c6080 => ?_) (fun c6080 => ?_)
          · refine ev_iconst ?_
            refine ev_istore (L' := [(2, 1), (0, a1), (0, x2), (1, x3), (9, 0), (0, x5), (0, x6), (0, 0)]) (Nat.le_of_ble_eq_true rfl) rfl ?_
            refine ev_aload_n rfl ?_
            refine g_getp (r := 1) (c := 6) g1 ad1 (by decide) (by decide) rf1_7 ft10_7 ?_
            refine ev_iload_n rfl ?_
            refine ev_iload rfl ?_
            refine ev_iconst ?_
            refine ev_iadd (r := (x6 + 1)) (by unfold w32; omega) ?_
            refine ev_iconst ?_
            refine ev_iload_n rfl ?_
            refine ev_imul (r := (2 * a1)) (by unfold w32; omega) ?_
            refine g_ishlB (a' := 1) (a := 3) (b := 6) (hi := 192) (by omega) (by omega) (by omega) (by omega) (by decide) (by decide) (fun v6081 ev6081 lv6081 uv6081 => ?_)
            refine g_iorB (k := 8) (hi := 255) (by decide) (by decide) (by omega) (by omega) (by omega) (by omega) (fun v6082 ev6082 lv6082 uv6082 => ?_)
            refine ev_iload rfl ?_
            refine ev_ifeq f155_135 (fun c6083 => ?_) (fun c6083 => absurd c6083 (by omega))
            refine ev_lconst ?_
            refine g_last g1 ad6 rt6 (fun _ => rfl) (by omega) (by omega) (by omega) (by omega) (fun h6084 e6084 g6084 => ?_)
            have k6084 := k1.wr e6084 rfl
            refine ev_iinc (w := (x6 + 1)) (L' := [(2, 1), (0, a1), (0, x2), (1, x3), (9, 0), (0, x5), (0, (x6 + 1)), (0, 0)]) rfl (by unfold w32; omega) rfl ?_
            refine ev_goto f155_50 ?_
            exact ih.2 _ _ _ _ _ _ g6084 k6084 (by omega) (by omega) (by omega) (by omega) (by omega) (by omega) (by omega) (by omega) (by omega) (by omega) (by omega)
          · refine ev_iload rfl ?_
            refine ev_aload_n rfl ?_
            refine g_getp (r := 1) (c := 2) g1 ad1 (by decide) (by decide) rf1_3 ft10_3 ?_
            refine ev_iload_n rfl ?_
            refine g_iald g1 ad2 rt2 (by omega) (by omega) (fun v6085 ev6085 lv6085 uv6085 => ?_)
            refine ev_icmpge f155_82 (fun c6086 => ?_) (fun c6086 => ?_)
            · refine ev_iconst ?_
              refine ev_istore (L' := [(2, 1), (0, a1), (0, x2), (1, x3), (9, 0), (0, x5), (0, x6), (0, 0)]) (Nat.le_of_ble_eq_true rfl) rfl ?_
              refine ev_aload_n rfl ?_
              refine g_getp (r := 1) (c := 6) g1 ad1 (by decide) (by decide) rf1_7 ft10_7 ?_
              refine ev_iload_n rfl ?_
              refine ev_iload rfl ?_
              refine ev_iconst ?_
              refine ev_iadd (r := (x6 + 1)) (by unfold w32; omega) ?_
              refine ev_iconst ?_
              refine ev_iload_n rfl ?_
              refine ev_imul (r := (2 * a1)) (by unfold w32; omega) ?_
              refine g_ishlB (a' := 1) (a := 3) (b := 6) (hi := 192) (by omega) (by omega) (by omega) (by omega) (by decide) (by decide) (fun v6087 ev6087 lv6087 uv6087 => ?_)
              refine g_iorB (k := 8) (hi := 255) (by decide) (by decide) (by omega) (by omega) (by omega) (by omega) (fun v6088 ev6088 lv6088 uv6088 => ?_)
              refine ev_iload rfl ?_
              refine ev_ifeq f155_135 (fun c6089 => ?_) (fun c6089 => absurd c6089 (by omega))
              refine ev_lconst ?_
              refine g_last g1 ad6 rt6 (fun _ => rfl) (by omega) (by omega) (by omega) (by omega) (fun h6090 e6090 g6090 => ?_)
              have k6090 := k1.wr e6090 rfl
              refine ev_iinc (w := (x6 + 1)) (L' := [(2, 1), (0, a1), (0, x2), (1, x3), (9, 0), (0, x5), (0, (x6 + 1)), (0, 0)]) rfl (by unfold w32; omega) rfl ?_
              refine ev_goto f155_50 ?_
              exact ih.2 _ _ _ _ _ _ g6090 k6090 (by omega) (by omega) (by omega) (by omega) (by omega) (by omega) (by omega) (by omega) (by omega) (by omega) (by omega)
            · refine ev_iconst ?_
              refine ev_goto f155_83 ?_
              refine ev_istore (L' := [(2, 1), (0, a1), (0, x2), (1, x3), (9, 0), (0, x5), (0, x6), (0, 1)]) (Nat.le_of_ble_eq_true rfl) rfl ?_
              refine ev_aload_n rfl ?_
              refine g_getp (r := 1) (c := 6) g1 ad1 (by decide) (by decide) rf1_7 ft10_7 ?_
              refine ev_iload_n rfl ?_
              refine ev_iload rfl ?_
              refine ev_iconst ?_
              refine ev_iadd (r := (x6 + 1)) (by unfold w32; omega) ?_
              refine ev_iconst ?_
              refine ev_iload_n rfl ?_
              refine ev_imul (r := (2 * a1)) (by unfold w32; omega) ?_
              refine g_ishlB (a' := 1) (a := 3) (b := 6) (hi := 192) (by omega) (by omega) (by omega) (by omega) (by decide) (by decide) (fun v6091 ev6091 lv6091 uv6091 => ?_)
              refine g_iorB (k := 8) (hi := 255) (by decide) (by decide) (by omega) (by omega) (by omega) (by omega) (fun v6092 ev6092 lv6092 uv6092 => ?_)
              refine ev_iload rfl ?_
              refine ev_ifeq f155_135 (fun c6093 => absurd c6093 (by omega)) (fun c6093 => ?_)
              refine ev_lload_n rfl ?_
              refine ev_aload_n rfl ?_
              refine g_getp (r := 1) (c := 4) g1 ad1 (by decide) (by decide) rf1_5 ft10_5 ?_
              refine ev_iload_n rfl ?_
              refine ev_iload rfl ?_
              refine ev_iload rfl ?_
              refine ev_in (d := 0) (a := 0) (b := 0) (cd' := c147_0) (m := 3) (L0 := [(0, a1), (0, x5), (0, x6)]) (jcall_s (A := [(0, x6), (0, x5), (0, a1)]) (S' := [(2, 4), (1, x3), (0, v6092), (2, 6)]) (by decide) rfl (Nat.le_of_ble_eq_true rfl)) (by decide) ml147 pp147 (Nat.le_of_ble_eq_true rfl) rfl (by decide) (by decide) ?_
              refine ev_bipush ?_
              refine ev_iload_n rfl ?_
              refine ev_imul (r := (9 * a1)) (by unfold w32; omega) ?_
              refine ev_iconst ?_
              refine ev_iload_n rfl ?_
              refine ev_imul (r := (3 * x5)) (by unfold w32; omega) ?_
              refine ev_iadd (r := (9 * a1 + 3 * x5)) (by unfold w32; omega) ?_
              refine ev_iload_n rfl ?_
              refine ev_iadd (r := (9 * a1 + 3 * x5 + x6)) (by unfold w32; omega) ?_
              refine ev_ret rfl (by decide) (by decide) ?_
              show jEv _ _ _ _ _ _ _ (_, [(2, 1), (0, a1), (0, x2), (1, x3), (9, 0), (0, x5), (0, x6), (0, 1)], [(0, (9 * a1 + 3 * x5 + x6)), (2, 4), (1, x3), (0, v6092), (2, 6)], _, _, _)
              refine g_iald g1 ad4 rt4 (by omega) (by omega) (fun v6094 ev6094 lv6094 uv6094 => ?_)
              refine ev_i2l ?_
              refine g_lmulG (fun v6095 ev6095 lv6095 uv6095 => ?_)
              refine ev_aload_n rfl ?_
              refine g_getp (r := 1) (c := 5) g1 ad1 (by decide) (by decide) rf1_6 ft10_6 ?_
              refine ev_iconst ?_
              refine ev_iload_n rfl ?_
              refine ev_imul (r := (3 * a1)) (by unfold w32; omega) ?_
              refine ev_iload rfl ?_
              refine ev_iadd (r := (3 * a1 + x5)) (by unfold w32; omega) ?_
              refine g_lald g1 ad5 rt5 (by omega) (by omega) (fun v6096 ev6096 lv6096 uv6096 => ?_)
              refine g_lmulG (fun v6097 ev6097 lv6097 uv6097 => ?_)
              refine ev_goto f155_136 ?_
              refine g_last g1 ad6 rt6 (fun _ => rfl) (by omega) (by omega) (by omega) (by omega) (fun h6098 e6098 g6098 => ?_)
              have k6098 := k1.wr e6098 rfl
              refine ev_iinc (w := (x6 + 1)) (L' := [(2, 1), (0, a1), (0, x2), (1, x3), (9, 0), (0, x5), (0, (x6 + 1)), (0, 1)]) rfl (by unfold w32; omega) rfl ?_
              refine ev_goto f155_50 ?_
              exact ih.2 _ _ _ _ _ _ g6098 k6098 (by omega) (by omega) (by omega) (by omega) (by omega) (by omega) (by omega) (by omega) (by omega) (by omega) (by omega)
set_option maxHeartbeats 4000000 in
theorem s155 {G : GH} {h : JH} (g : Gd G h) {a1 : Int} (la1 : 0 ≤ a1) (ua1 : a1 ≤ 3) : jOk 2 0 0 155 [(2, 1), (0, a1)] h (PV G [(6, 0)] h) := by
  refine ⟨by decide, by rw [ml155]; exact Nat.le_of_ble_eq_true rfl, ?_⟩
  rw [ml155, pp155]
  show jEv _ none _ c155_0 0 0 _ (c155_0, [(2, 1), (0, a1), (9, 0), (9, 0), (9, 0), (9, 0), (9, 0), (9, 0)], [], h, 0, 0)
  have k0 := Kp.rf [(6, 0)] h
  refine ev_iconst ?_
  refine ev_istore_n (L' := [(2, 1), (0, a1), (0, 0), (9, 0), (9, 0), (9, 0), (9, 0), (9, 0)]) (Nat.le_of_ble_eq_true rfl) rfl ?_
  exact (s155_l la1 ua1 1040).1 _ _ _ _ _ _ g k0 (by omega) (by omega) (by omega) (by omega) (by omega)
/-! 158 isTold -/
set_option maxHeartbeats 4000000 in
theorem s158_l {G : GH} {h : JH} {a1 : Int} (la1 : (-2147483648) ≤ a1) (ua1 : a1 ≤ 2147483647) : ∀ N : Nat, (∀ (h1 : JH) (x2 : Int), Gd G h1 → Kp [] h h1 → 0 ≤ a1 → a1 ≤ 255 → 0 ≤ x2 → x2 ≤ 4 → ((-x2) + 4) < N → jEv (jOk 1) none (fun _ => 0) c158_0 0 0 (PI G [] h 0 0 1) (c158_16, [(2, 1), (0, a1), (0, x2)], [], h1, 0, 0)) := by
  intro N
  induction N with
  | zero => exact fun h1 x2 g1 k1 b0 b1 b2 b3 hm => absurd hm (by omega)
  | succ N ih =>
    show _
    intro h1 x2 g1 k1 b0 b1 b2 b3 hm
    refine ev_iload_n rfl ?_
    refine ev_aload_n rfl ?_
    obtain ⟨v6142, ev6142, lv6142, uv6142⟩ := g1.rd ad1 (show 0 < 8 by decide) rf1_0
    refine g_getv (r := 1) (v := v6142) g1 ad1 (by decide) ft10_0 ev6142 ?_
    refine ev_icmpge f158_48 (fun c6143 => ?_) (fun c6143 => ?_)
    · refine ev_iconst ?_
      exact ev_ret rfl (by decide) (by decide) ⟨_, rfl, by omega, by omega, g1, k1⟩
    · refine ev_iload_n rfl ?_
      refine ev_iconst ?_
      refine ev_iload_n rfl ?_
      refine ev_imul (r := (2 * x2)) (by unfold w32; omega) ?_
      refine g_ishrB (a := 255) (by omega) (by omega) (by decide) (fun v6144 ev6144 lv6144 uv6144 => ?_)
      refine ev_iconst ?_
      refine g_iandB (b := 3) (by omega) (by omega) (by decide) (fun v6145 ev6145 lv6145 uv6145 => ?_)
      refine ev_aload_n rfl ?_
      refine g_getp (r := 1) (c := 2) g1 ad1 (by decide) (by decide) rf1_3 ft10_3 ?_
      refine ev_iload_n rfl ?_
      refine g_iald g1 ad2 rt2 (by omega) (by omega) (fun v6146 ev6146 lv6146 uv6146 => ?_)
      have xv6146 := (g1.ex.1.1 (x2 : Int).toNat (by rw [(ev6142)]; omega))
      rw [ev6146] at xv6146
      refine ev_icmple f158_42 (fun c6147 => ?_) (fun c6147 => ?_)
      · refine ev_iinc (w := (x2 + 1)) (L' := [(2, 1), (0, a1), (0, (x2 + 1))]) rfl (by unfold w32; omega) rfl ?_
        refine ev_goto f158_16 ?_
        exact ih _ _ g1 k1 (by omega) (by omega) (by omega) (by omega) (by omega)
      · refine ev_iconst ?_
        exact ev_ret rfl (by decide) (by decide) ⟨_, rfl, by omega, by omega, g1, k1⟩
set_option maxHeartbeats 4000000 in
theorem s158 {G : GH} {h : JH} (g : Gd G h) {a1 : Int} (la1 : (-2147483648) ≤ a1) (ua1 : a1 ≤ 2147483647) : jOk 2 0 0 158 [(2, 1), (0, a1)] h (PI G [] h 0 0 1) := by
  refine ⟨by decide, by rw [ml158]; exact Nat.le_of_ble_eq_true rfl, ?_⟩
  rw [ml158, pp158]
  show jEv _ none _ c158_0 0 0 _ (c158_0, [(2, 1), (0, a1), (9, 0)], [], h, 0, 0)
  have k0 := Kp.rf [] h
  refine ev_iload_n rfl ?_
  refine ev_iflt f158_12 (fun c6148 => ?_) (fun c6148 => ?_)
  · refine ev_iconst ?_
    exact ev_ret rfl (by decide) (by decide) ⟨_, rfl, by omega, by omega, g, k0⟩
  · refine ev_iload_n rfl ?_
    refine ev_aload_n rfl ?_
    refine ev_in (d := 0) (a := 0) (b := 0) (cd' := c157_0) (m := 1) (L0 := [(2, 1)]) (jcall_v (A := []) (S' := [(0, a1)]) (r := 1) rfl (g.lt ad1) (g.tg ad1) (Nat.le_of_ble_eq_true rfl)) (by decide) ml157 pp157 (Nat.le_of_ble_eq_true rfl) rfl (by decide) (by decide) ?_
    refine ev_iconst ?_
    refine ev_iconst ?_
    refine ev_aload_n rfl ?_
    obtain ⟨v6149, ev6149, lv6149, uv6149⟩ := g.rd ad1 (show 0 < 8 by decide) rf1_0
    refine g_getv (r := 1) (v := v6149) g ad1 (by decide) ft10_0 ev6149 ?_
    refine ev_imul (r := (2 * v6149)) (by unfold w32; omega) ?_
    refine g_ishlB (a' := 1) (a := 1) (b := 8) (hi := 256) (by omega) (by omega) (by omega) (by omega) (by decide) (by decide) (fun v6150 ev6150 lv6150 uv6150 => ?_)
    refine ev_ret rfl (by decide) (by decide) ?_
    show jEv _ _ _ _ _ _ _ (_, [(2, 1), (0, a1), (9, 0)], [(0, v6150), (0, a1)], _, _, _)
    refine ev_icmplt f158_14 (fun c6151 => ?_) (fun c6151 => ?_)
    · refine ev_iconst ?_
      refine ev_istore_n (L' := [(2, 1), (0, a1), (0, 0)]) (Nat.le_of_ble_eq_true rfl) rfl ?_
      exact (s158_l la1 ua1 10) _ _ g k0 (by omega) (by omega) (by omega) (by omega) (by omega)
    · refine ev_iconst ?_
      exact ev_ret rfl (by decide) (by decide) ⟨_, rfl, by omega, by omega, g, k0⟩
/-! 159 isState -/
set_option maxHeartbeats 4000000 in
theorem s159_l {G : GH} {h : JH} {a1 : Int} (la1 : (-2147483648) ≤ a1) (ua1 : a1 ≤ 2147483647) : ∀ N : Nat, (∀ (h1 : JH) (x2 : Int), Gd G h1 → Kp [] h h1 → 0 ≤ a1 → a1 ≤ 255 → 0 ≤ x2 → x2 ≤ 4 → ((-x2) + 4) < N → jEv (jOk 1) none (fun _ => 0) c159_0 0 0 (PI G [] h 0 0 1) (c159_16, [(2, 1), (0, a1), (0, x2)], [], h1, 0, 0)) := by
  intro N
  induction N with
  | zero => exact fun h1 x2 g1 k1 b0 b1 b2 b3 hm => absurd hm (by omega)
  | succ N ih =>
    show _
    intro h1 x2 g1 k1 b0 b1 b2 b3 hm
    refine ev_iload_n rfl ?_
    refine ev_aload_n rfl ?_
    obtain ⟨v6195, ev6195, lv6195, uv6195⟩ := g1.rd ad1 (show 0 < 8 by decide) rf1_0
    refine g_getv (r := 1) (v := v6195) g1 ad1 (by decide) ft10_0 ev6195 ?_
    refine ev_icmpge f159_48 (fun c6196 => ?_) (fun c6196 => ?_)
    · refine ev_iconst ?_
      exact ev_ret rfl (by decide) (by decide) ⟨_, rfl, by omega, by omega, g1, k1⟩
    · refine ev_iload_n rfl ?_
      refine ev_iconst ?_
      refine ev_iload_n rfl ?_
      refine ev_imul (r := (2 * x2)) (by unfold w32; omega) ?_
      refine g_ishrB (a := 255) (by omega) (by omega) (by decide) (fun v6197 ev6197 lv6197 uv6197 => ?_)
      refine ev_iconst ?_
      refine g_iandB (b := 3) (by omega) (by omega) (by decide) (fun v6198 ev6198 lv6198 uv6198 => ?_)
      refine ev_aload_n rfl ?_
      refine g_getp (r := 1) (c := 2) g1 ad1 (by decide) (by decide) rf1_3 ft10_3 ?_
      refine ev_iload_n rfl ?_
      refine g_iald g1 ad2 rt2 (by omega) (by omega) (fun v6199 ev6199 lv6199 uv6199 => ?_)
      have xv6199 := (g1.ex.1.1 (x2 : Int).toNat (by rw [(ev6195)]; omega))
      rw [ev6199] at xv6199
      refine ev_icmplt f159_42 (fun c6200 => ?_) (fun c6200 => ?_)
      · refine ev_iinc (w := (x2 + 1)) (L' := [(2, 1), (0, a1), (0, (x2 + 1))]) rfl (by unfold w32; omega) rfl ?_
        refine ev_goto f159_16 ?_
        exact ih _ _ g1 k1 (by omega) (by omega) (by omega) (by omega) (by omega)
      · refine ev_iconst ?_
        exact ev_ret rfl (by decide) (by decide) ⟨_, rfl, by omega, by omega, g1, k1⟩
set_option maxHeartbeats 4000000 in
theorem s159 {G : GH} {h : JH} (g : Gd G h) {a1 : Int} (la1 : (-2147483648) ≤ a1) (ua1 : a1 ≤ 2147483647) : jOk 2 0 0 159 [(2, 1), (0, a1)] h (PI G [] h 0 0 1) := by
  refine ⟨by decide, by rw [ml159]; exact Nat.le_of_ble_eq_true rfl, ?_⟩
  rw [ml159, pp159]
  show jEv _ none _ c159_0 0 0 _ (c159_0, [(2, 1), (0, a1), (9, 0)], [], h, 0, 0)
  have k0 := Kp.rf [] h
  refine ev_iload_n rfl ?_
  refine ev_iflt f159_12 (fun c6201 => ?_) (fun c6201 => ?_)
  · refine ev_iconst ?_
    exact ev_ret rfl (by decide) (by decide) ⟨_, rfl, by omega, by omega, g, k0⟩
  · refine ev_iload_n rfl ?_
    refine ev_aload_n rfl ?_
    refine ev_in (d := 0) (a := 0) (b := 0) (cd' := c157_0) (m := 1) (L0 := [(2, 1)]) (jcall_v (A := []) (S' := [(0, a1)]) (r := 1) rfl (g.lt ad1) (g.tg ad1) (Nat.le_of_ble_eq_true rfl)) (by decide) ml157 pp157 (Nat.le_of_ble_eq_true rfl) rfl (by decide) (by decide) ?_
    refine ev_iconst ?_
    refine ev_iconst ?_
    refine ev_aload_n rfl ?_
    obtain ⟨v6202, ev6202, lv6202, uv6202⟩ := g.rd ad1 (show 0 < 8 by decide) rf1_0
    refine g_getv (r := 1) (v := v6202) g ad1 (by decide) ft10_0 ev6202 ?_
    refine ev_imul (r := (2 * v6202)) (by unfold w32; omega) ?_
    refine g_ishlB (a' := 1) (a := 1) (b := 8) (hi := 256) (by omega) (by omega) (by omega) (by omega) (by decide) (by decide) (fun v6203 ev6203 lv6203 uv6203 => ?_)
    refine ev_ret rfl (by decide) (by decide) ?_
    show jEv _ _ _ _ _ _ _ (_, [(2, 1), (0, a1), (9, 0)], [(0, v6203), (0, a1)], _, _, _)
    refine ev_icmplt f159_14 (fun c6204 => ?_) (fun c6204 => ?_)
    · refine ev_iconst ?_
      refine ev_istore_n (L' := [(2, 1), (0, a1), (0, 0)]) (Nat.le_of_ble_eq_true rfl) rfl ?_
      exact (s159_l la1 ua1 10) _ _ g k0 (by omega) (by omega) (by omega) (by omega) (by omega)
    · refine ev_iconst ?_
      exact ev_ret rfl (by decide) (by decide) ⟨_, rfl, by omega, by omega, g, k0⟩
/-! 164 drawn -/
set_option maxHeartbeats 4000000 in
theorem s164_l {G : GH} {h : JH} {a1 : Int} (la1 : 0 ≤ a1) (ua1 : a1 ≤ 3) {a2 : Int} (la2 : (-2147483648) ≤ a2) (ua2 : a2 ≤ 2147483647) {a3 : Int} (la3 : 0 ≤ a3) (ua3 : a3 ≤ 16777215) {w0 : Int} (ew0 : h.2.2 1 0 = w0) (lw0 : 0 ≤ w0) (uw0 : w0 ≤ 4) (F0 : (a1 + (-w0)) ≤ (-1)) (hD : DS a1 a2) : ∀ N : Nat, (∀ (h1 : JH) (x4 x5 x6 x7 y0 : Int), Gd G h1 → Kp [] h h1 → 0 ≤ a1 → a1 ≤ 3 → (-2147483648) ≤ a2 → a2 ≤ 2147483647 → 0 ≤ a3 → a3 ≤ 16777215 → 0 ≤ x4 → x4 ≤ 2 → (-2147483648) ≤ x5 → x5 ≤ 2147483647 → 0 ≤ x6 → x6 ≤ 2147483647 → 0 ≤ x7 → x7 ≤ 2 → (a1 + (-y0)) ≤ (-1) → h1.2.2 1 0 = y0 → 0 ≤ y0 → y0 ≤ 4 → ((-x7) + 2) < N → jEv (jOk 2) none (fun _ => 0) c164_0 0 0 (PI G [] h 0 0 2) (c164_55, [(2, 1), (0, a1), (0, a2), (0, a3), (0, x4), (0, x5), (0, x6), (0, x7)], [], h1, 0, 0)) := by
  intro N
  induction N with
  | zero => exact fun h1 x4 x5 x6 x7 y0 g1 k1 b0 b1 b2 b3 b4 b5 b6 b7 b8 b9 b10 b11 b12 b13 b14 b15 b16 b17 hm => absurd hm (by omega)
  | succ N ih =>
    show _
    intro h1 x4 x5 x6 x7 y0 g1 k1 b0 b1 b2 b3 b4 b5 b6 b7 b8 b9 b10 b11 b12 b13 b14 ey0 ly0 uy0 hm
    refine ev_iload rfl ?_
    refine ev_aload_n rfl ?_
    refine g_getp (r := 1) (c := 2) g1 ad1 (by decide) (by decide) rf1_3 ft10_3 ?_
    refine ev_iload_n rfl ?_
    refine g_iald g1 ad2 rt2 (by omega) (by omega) (fun v6249 ev6249 lv6249 uv6249 => ?_)
    have xv6249 := (g1.ex.1.1 (a1 : Int).toNat (by rw [(ey0)]; omega))
    rw [ev6249] at xv6249
    refine ev_iconst ?_
    refine ev_isub (r := (v6249 - 1)) (by unfold w32; omega) ?_
    refine ev_icmpge f164_100 (fun c6250 => ?_) (fun c6250 => ?_)
    · refine ev_aload_n rfl ?_
      refine g_getp (r := 1) (c := 2) g1 ad1 (by decide) (by decide) rf1_3 ft10_3 ?_
      refine ev_iload_n rfl ?_
      refine g_ialdv (v := v6249) g1 ad2 (by omega) (by omega) (ev6249) ?_
      refine ev_iconst ?_
      refine ev_isub (r := (v6249 - 1)) (by unfold w32; omega) ?_
      exact ev_ret rfl (by decide) (by decide) ⟨_, rfl, by omega, by omega, g1, k1⟩
    · refine ev_iload rfl ?_
      refine ev_aload_n rfl ?_
      refine g_getp (r := 1) (c := 4) g1 ad1 (by decide) (by decide) rf1_5 ft10_5 ?_
      refine ev_iload_n rfl ?_
      refine ev_iload rfl ?_
      refine ev_iload rfl ?_
      refine ev_in (d := 1) (a := 0) (b := 0) (cd' := c147_0) (m := 3) (L0 := [(0, a1), (0, x4), (0, x7)]) (jcall_s (A := [(0, x7), (0, x4), (0, a1)]) (S' := [(2, 4), (0, x6)]) (by decide) rfl (Nat.le_of_ble_eq_true rfl)) (by decide) ml147 pp147 (Nat.le_of_ble_eq_true rfl) rfl (by decide) (by decide) ?_
      refine ev_bipush ?_
      refine ev_iload_n rfl ?_
      refine ev_imul (r := (9 * a1)) (by unfold w32; omega) ?_
      refine ev_iconst ?_
      refine ev_iload_n rfl ?_
      refine ev_imul (r := (3 * x4)) (by unfold w32; omega) ?_
      refine ev_iadd (r := (9 * a1 + 3 * x4)) (by unfold w32; omega) ?_
      refine ev_iload_n rfl ?_
      refine ev_iadd (r := (9 * a1 + 3 * x4 + x7)) (by unfold w32; omega) ?_
      refine ev_ret rfl (by decide) (by decide) ?_
      show jEv _ _ _ _ _ _ _ (_, [(2, 1), (0, a1), (0, a2), (0, a3), (0, x4), (0, x5), (0, x6), (0, x7)], [(0, (9 * a1 + 3 * x4 + x7)), (2, 4), (0, x6)], _, _, _)
      refine g_iald g1 ad4 rt4 (by omega) (by omega) (fun v6251 ev6251 lv6251 uv6251 => ?_)
      refine g_isubG (fun v6252 ev6252 lv6252 uv6252 => ?_)
      refine ev_istore (L' := [(2, 1), (0, a1), (0, a2), (0, a3), (0, x4), (0, x5), (0, v6252), (0, x7)]) (Nat.le_of_ble_eq_true rfl) rfl ?_
      refine ev_iload rfl ?_
      refine ev_ifge f164_94 (fun c6253 => ?_) (fun c6253 => ?_)
      · refine ev_iinc (w := (x7 + 1)) (L' := [(2, 1), (0, a1), (0, a2), (0, a3), (0, x4), (0, x5), (0, v6252), (0, (x7 + 1))]) rfl (by unfold w32; omega) rfl ?_
        refine ev_goto f164_55 ?_
        exact ih _ _ _ _ _ _ g1 k1 (by omega) (by omega) (by omega) (by omega) (by omega) (by omega) (by omega) (by omega) (by omega) (by omega) (by omega) (by omega) (by omega) (by omega) (by omega) (ey0) (by omega) (by omega) (by omega)
      · refine ev_iload rfl ?_
        exact ev_ret rfl (by decide) (by decide) ⟨_, rfl, by omega, by omega, g1, k1⟩
set_option maxHeartbeats 4000000 in
theorem s164 {G : GH} {h : JH} (g : Gd G h) {a1 : Int} (la1 : 0 ≤ a1) (ua1 : a1 ≤ 3) {a2 : Int} (la2 : (-2147483648) ≤ a2) (ua2 : a2 ≤ 2147483647) {a3 : Int} (la3 : 0 ≤ a3) (ua3 : a3 ≤ 16777215) {w0 : Int} (ew0 : h.2.2 1 0 = w0) (lw0 : 0 ≤ w0) (uw0 : w0 ≤ 4) (F0 : (a1 + (-w0)) ≤ (-1)) (hD : DS a1 a2) : jOk 3 0 0 164 [(2, 1), (0, a1), (0, a2), (0, a3)] h (PI G [] h 0 0 2) := by
  refine ⟨by decide, by rw [ml164]; exact Nat.le_of_ble_eq_true rfl, ?_⟩
  rw [ml164, pp164]
  show jEv _ none _ c164_0 0 0 _ (c164_0, [(2, 1), (0, a1), (0, a2), (0, a3), (9, 0), (9, 0), (9, 0), (9, 0)], [], h, 0, 0)
  have k0 := Kp.rf [] h
  refine ev_aload_n rfl ?_
  refine g_getp (r := 1) (c := 3) g ad1 (by decide) (by decide) rf1_4 ft10_4 ?_
  refine ev_iload_n rfl ?_
  refine g_iald g ad3 rt3 (by omega) (by omega) (fun v6254 ev6254 lv6254 uv6254 => ?_)
  refine ev_ifge f164_13 (fun c6255 => ?_) (fun c6255 => ?_)
  · refine ev_iload_n rfl ?_
    refine ev_iconst ?_
    refine ev_aload_n rfl ?_
    refine g_getp (r := 1) (c := 3) g ad1 (by decide) (by decide) rf1_4 ft10_4 ?_
    refine ev_iload_n rfl ?_
    refine g_ialdv (v := v6254) g ad3 (by omega) (by omega) (ev6254) ?_
    refine ev_imul (r := (2 * v6254)) (by unfold w32; omega) ?_
    refine g_ishrG (fun v6256 ev6256 lv6256 uv6256 => ?_)
    refine ev_iconst ?_
    refine g_iandB (b := 3) (by omega) (by omega) (by decide) (fun v6257 ev6257 lv6257 uv6257 => ?_)
    have dv6257 := DS_d hD (j := v6254) (by omega) (by omega) ev6256 ev6257
    refine ev_istore (L' := [(2, 1), (0, a1), (0, a2), (0, a3), (0, v6257), (9, 0), (9, 0), (9, 0)]) (Nat.le_of_ble_eq_true rfl) rfl ?_
    refine ev_aload_n rfl ?_
    refine ev_iload_n rfl ?_
    refine ev_iload rfl ?_
    refine ev_call (jcall_v (A := [(0, v6257), (0, a1)]) (S' := []) (r := 1) rfl (g.lt ad1) (g.tg ad1) (Nat.le_of_ble_eq_true rfl)) (jOk_le (by decide) (s150 g (by omega) (by omega) (by omega) (by omega))) (by decide) (by decide) (fun w6258 h6258 q6258 => ?_)
    obtain ⟨v6259, rfl, lv6259, uv6259, g6258, kk6258⟩ := q6258
    have k6258 := k0.tr kk6258 (by decide)
    show jEv _ _ _ _ _ _ _ (_, [(2, 1), (0, a1), (0, a2), (0, a3), (0, v6257), (9, 0), (9, 0), (9, 0)], [(0, v6259)], _, _, _)
    refine ev_istore (L' := [(2, 1), (0, a1), (0, a2), (0, a3), (0, v6257), (0, v6259), (9, 0), (9, 0)]) (Nat.le_of_ble_eq_true rfl) rfl ?_
    refine ev_iload rfl ?_
    refine ev_iconst ?_
    refine ev_icmpge f164_46 (fun c6260 => ?_) (fun c6260 => ?_)
    · refine ev_iload_n rfl ?_
      refine ev_iload rfl ?_
      refine g_iremQ (by omega) (by omega) (fun v6261 ev6261 lv6261 uv6261 wv6261 => ?_)
      refine ev_istore (L' := [(2, 1), (0, a1), (0, a2), (0, a3), (0, v6257), (0, v6259), (0, v6261), (9, 0)]) (Nat.le_of_ble_eq_true rfl) rfl ?_
      refine ev_iconst ?_
      refine ev_istore (L' := [(2, 1), (0, a1), (0, a2), (0, a3), (0, v6257), (0, v6259), (0, v6261), (0, 0)]) (Nat.le_of_ble_eq_true rfl) rfl ?_
      exact (s164_l la1 ua1 la2 ua2 la3 ua3 ew0 lw0 uw0 F0 hD 6) _ _ _ _ _ _ g6258 k6258 (by omega) (by omega) (by omega) (by omega) (by omega) (by omega) (by omega) (by omega) (by omega) (by omega) (by omega) (by omega) (by omega) (by omega) (by omega) (((kk6258.v (by decide)).trans ew0)) (by omega) (by omega) (by omega)
    · refine ev_iconst ?_
      refine ev_goto f164_50 ?_
      refine ev_istore (L' := [(2, 1), (0, a1), (0, a2), (0, a3), (0, v6257), (0, v6259), (0, 0), (9, 0)]) (Nat.le_of_ble_eq_true rfl) rfl ?_
      refine ev_iconst ?_
      refine ev_istore (L' := [(2, 1), (0, a1), (0, a2), (0, a3), (0, v6257), (0, v6259), (0, 0), (0, 0)]) (Nat.le_of_ble_eq_true rfl) rfl ?_
      exact (s164_l la1 ua1 la2 ua2 la3 ua3 ew0 lw0 uw0 F0 hD 6) _ _ _ _ _ _ g6258 k6258 (by omega) (by omega) (by omega) (by omega) (by omega) (by omega) (by omega) (by omega) (by omega) (by omega) (by omega) (by omega) (by omega) (by omega) (by omega) (((kk6258.v (by decide)).trans ew0)) (by omega) (by omega) (by omega)
  · refine ev_iconst ?_
    refine ev_goto f164_25 ?_
    refine ev_istore (L' := [(2, 1), (0, a1), (0, a2), (0, a3), (0, 0), (9, 0), (9, 0), (9, 0)]) (Nat.le_of_ble_eq_true rfl) rfl ?_
    refine ev_aload_n rfl ?_
    refine ev_iload_n rfl ?_
    refine ev_iload rfl ?_
    refine ev_call (jcall_v (A := [(0, 0), (0, a1)]) (S' := []) (r := 1) rfl (g.lt ad1) (g.tg ad1) (Nat.le_of_ble_eq_true rfl)) (jOk_le (by decide) (s150 g (by omega) (by omega) (by omega) (by omega))) (by decide) (by decide) (fun w6262 h6262 q6262 => ?_)
    obtain ⟨v6263, rfl, lv6263, uv6263, g6262, kk6262⟩ := q6262
    have k6262 := k0.tr kk6262 (by decide)
    show jEv _ _ _ _ _ _ _ (_, [(2, 1), (0, a1), (0, a2), (0, a3), (0, 0), (9, 0), (9, 0), (9, 0)], [(0, v6263)], _, _, _)
    refine ev_istore (L' := [(2, 1), (0, a1), (0, a2), (0, a3), (0, 0), (0, v6263), (9, 0), (9, 0)]) (Nat.le_of_ble_eq_true rfl) rfl ?_
    refine ev_iload rfl ?_
    refine ev_iconst ?_
    refine ev_icmpge f164_46 (fun c6264 => ?_) (fun c6264 => ?_)
    · refine ev_iload_n rfl ?_
      refine ev_iload rfl ?_
      refine g_iremQ (by omega) (by omega) (fun v6265 ev6265 lv6265 uv6265 wv6265 => ?_)
      refine ev_istore (L' := [(2, 1), (0, a1), (0, a2), (0, a3), (0, 0), (0, v6263), (0, v6265), (9, 0)]) (Nat.le_of_ble_eq_true rfl) rfl ?_
      refine ev_iconst ?_
      refine ev_istore (L' := [(2, 1), (0, a1), (0, a2), (0, a3), (0, 0), (0, v6263), (0, v6265), (0, 0)]) (Nat.le_of_ble_eq_true rfl) rfl ?_
      exact (s164_l la1 ua1 la2 ua2 la3 ua3 ew0 lw0 uw0 F0 hD 6) _ _ _ _ _ _ g6262 k6262 (by omega) (by omega) (by omega) (by omega) (by omega) (by omega) (by omega) (by omega) (by omega) (by omega) (by omega) (by omega) (by omega) (by omega) (by omega) (((kk6262.v (by decide)).trans ew0)) (by omega) (by omega) (by omega)
    · refine ev_iconst ?_
      refine ev_goto f164_50 ?_
      refine ev_istore (L' := [(2, 1), (0, a1), (0, a2), (0, a3), (0, 0), (0, v6263), (0, 0), (9, 0)]) (Nat.le_of_ble_eq_true rfl) rfl ?_
      refine ev_iconst ?_
      refine ev_istore (L' := [(2, 1), (0, a1), (0, a2), (0, a3), (0, 0), (0, v6263), (0, 0), (0, 0)]) (Nat.le_of_ble_eq_true rfl) rfl ?_
      exact (s164_l la1 ua1 la2 ua2 la3 ua3 ew0 lw0 uw0 F0 hD 6) _ _ _ _ _ _ g6262 k6262 (by omega) (by omega) (by omega) (by omega) (by omega) (by omega) (by omega) (by omega) (by omega) (by omega) (by omega) (by omega) (by omega) (by omega) (by omega) (((kk6262.v (by decide)).trans ew0)) (by omega) (by omega) (by omega)
/-! 139 addThing -/
set_option maxHeartbeats 4000000 in
theorem s139 {G : GH} {h : JH} (g : Gd G h) {a1 : Int} (la1 : 2 ≤ a1) (ua1 : a1 ≤ 3) : jOk 3 0 0 139 [(2, 1), (0, a1)] h (PI G [(1, 1), (1, 3), (2, 0), (3, 0), (4, 0)] h 0 (-3) 3) := by
  refine ⟨by decide, by rw [ml139]; exact Nat.le_of_ble_eq_true rfl, ?_⟩
  rw [ml139, pp139]
  show jEv _ none _ c139_0 0 0 _ (c139_0, [(2, 1), (0, a1)], [], h, 0, 0)
  have k0 := Kp.rf [(1, 1), (1, 3), (2, 0), (3, 0), (4, 0)] h
  refine ev_aload_n rfl ?_
  obtain ⟨v6280, ev6280, lv6280, uv6280⟩ := g.rd ad1 (show 0 < 8 by decide) rf1_0
  refine g_getv (r := 1) (v := v6280) g ad1 (by decide) ft10_0 ev6280 ?_
  refine ev_iconst ?_
  refine ev_icmplt f139_11 (fun c6281 => ?_) (fun c6281 => ?_)
  · refine ev_aload_n rfl ?_
    refine g_getp (r := 1) (c := 2) g ad1 (by decide) (by decide) rf1_3 ft10_3 ?_
    refine ev_aload_n rfl ?_
    refine g_getv (r := 1) (v := v6280) g ad1 (by decide) ft10_0 (ev6280) ?_
    refine ev_iload_n rfl ?_
    refine ev_iastG (r := 2) (j := (v6280).toNat) (g.lt ad2) (g.tg ad2) (by omega) (by rw [g.ln ad2]; omega) (fun h6282 e6282 => ?_)
    have g6282 := g.ways e6282 (by rw [(ev6280)]; omega) (by omega) (by omega)
    have k6282 := k0.wr e6282 rfl
    refine ev_aload_n rfl ?_
    refine g_getp (r := 1) (c := 3) g6282 ad1 (by decide) (by decide) rf1_4 ft10_4 ?_
    refine ev_aload_n rfl ?_
    refine g_getv (r := 1) (v := v6280) g6282 ad1 (by decide) ft10_0 (((jw_ne e6282 (Or.inl (by decide))).trans ev6280)) ?_
    refine ev_iconst ?_
    refine g_iast g6282 ad3 rt3 (fun _ => rfl) (by omega) (by omega) (by omega) (by omega) (fun h6283 e6283 g6283 => ?_)
    have k6283 := k6282.wr e6283 rfl
    refine ev_aload_n rfl ?_
    refine ev_aload_n rfl ?_
    refine g_getv (r := 1) (v := v6280) g6283 ad1 (by decide) ft10_0 (((jw_ne e6283 (Or.inl (by decide))).trans ((jw_ne e6282 (Or.inl (by decide))).trans ev6280))) ?_
    refine ev_call (jcall_v (A := [(0, v6280)]) (S' := []) (r := 1) rfl (g6283.lt ad1) (g6283.tg ad1) (Nat.le_of_ble_eq_true rfl)) (jOk_le (by decide) (s144 g6283 (by omega) (by omega))) (by decide) (by decide) (fun w6284 h6284 q6284 => ?_)
    obtain ⟨rfl, g6284, kk6284⟩ := q6284
    have k6284 := k6283.tr kk6284 (by decide)
    show jEv _ _ _ _ _ _ _ (_, [(2, 1), (0, a1)], [], _, _, _)
    refine ev_aload_n rfl ?_
    refine ev_dup (by decide) ?_
    refine g_getv (r := 1) (v := v6280) g6284 ad1 (by decide) ft10_0 (((kk6284.v (by decide)).trans ((jw_ne e6283 (Or.inl (by decide))).trans ((jw_ne e6282 (Or.inl (by decide))).trans ev6280)))) ?_
    refine ev_iconst ?_
    refine ev_iadd (r := (v6280 + 1)) (by unfold w32; omega) ?_
    refine ev_putfG (r := 1) (g6284.lt ad1) (g6284.fam ad1 (by decide)) ft10_0 (fun e => absurd e nz10_0) (fun e => absurd e (by decide)) (fun h6285 e6285 => ?_)
    have g6285 := g6284.size e6285 (((kk6284.v (by decide)).trans ((jw_ne e6283 (Or.inl (by decide))).trans ((jw_ne e6282 (Or.inl (by decide))).trans ev6280)))) (by rw [(((kk6284.v rfl).trans ((jw_ne e6283 (Or.inl (by decide))).trans (jw_eq e6282))))]; omega) (by omega) (by omega)
    have k6285 := k6284.wr e6285 rfl
    refine ev_aload_n rfl ?_
    refine ev_iconst ?_
    refine g_putf (r := 1) g6285 ad1 (by decide) ft10_2 (by decide) (fun _ => by omega) rf1_2 (by decide) (by omega) (by omega) (fun h6286 e6286 g6286 => ?_)
    have k6286 := k6285.wr e6286 rfl
    refine ev_aload_n rfl ?_
    refine g_getv (r := 1) (v := (v6280 + 1)) g6286 ad1 (by decide) ft10_0 (((jw_ne e6286 (Or.inr (by decide))).trans (jw_eq e6285))) ?_
    refine ev_iconst ?_
    refine ev_isub (r := v6280) (by unfold w32; omega) ?_
    exact ev_ret rfl (by decide) (by decide) ⟨_, rfl, by omega, by omega, g6286, k6286⟩
  · refine ev_bipush ?_
    exact ev_ret rfl (by decide) (by decide) ⟨_, rfl, by omega, by omega, g, k0⟩
/-! 143 hangOn -/
set_option maxHeartbeats 4000000 in
theorem s143 {G : GH} {h : JH} (g : Gd G h) {a1 : Int} (la1 : (-2147483648) ≤ a1) (ua1 : a1 ≤ 2147483647) {a2 : Int} (la2 : (-2147483648) ≤ a2) (ua2 : a2 ≤ 2147483647) : jOk 3 0 0 143 [(2, 1), (0, a1), (0, a2)] h (PV G [(1, 3), (3, 0), (4, 0)] h) := by
  refine ⟨by decide, by rw [ml143]; exact Nat.le_of_ble_eq_true rfl, ?_⟩
  rw [ml143, pp143]
  show jEv _ none _ c143_0 0 0 _ (c143_0, [(2, 1), (0, a1), (0, a2)], [], h, 0, 0)
  have k0 := Kp.rf [(1, 3), (3, 0), (4, 0)] h
  refine ev_aload_n rfl ?_
  refine ev_iload_n rfl ?_
  refine ev_in (d := 1) (a := 0) (b := 0) (cd' := c140_0) (m := 2) (L0 := [(2, 1), (0, a1)]) (jcall_v (A := [(0, a1)]) (S' := []) (r := 1) rfl (g.lt ad1) (g.tg ad1) (Nat.le_of_ble_eq_true rfl)) (by decide) ml140 pp140 (Nat.le_of_ble_eq_true rfl) rfl (by decide) (by decide) ?_
  refine ev_iload_n rfl ?_
  refine ev_iflt f140_16 (fun c6315 => ?_) (fun c6315 => ?_)
  · refine ev_iconst ?_
    refine ev_ret rfl (by decide) (by decide) ?_
    show jEv _ _ _ _ _ _ _ (_, [(2, 1), (0, a1), (0, a2)], [(0, 0)], _, _, _)
    refine ev_ifeq f143_33 (fun c6316 => ?_) (fun c6316 => absurd c6316 (by omega))
    exact ev_ret rfl (by decide) (by decide) ⟨rfl, g, k0⟩
  · refine ev_iload_n rfl ?_
    refine ev_aload_n rfl ?_
    obtain ⟨v6317, ev6317, lv6317, uv6317⟩ := g.rd ad1 (show 0 < 8 by decide) rf1_0
    refine g_getv (r := 1) (v := v6317) g ad1 (by decide) ft10_0 ev6317 ?_
    refine ev_icmpge f140_16 (fun c6318 => ?_) (fun c6318 => ?_)
    · refine ev_iconst ?_
      refine ev_ret rfl (by decide) (by decide) ?_
      show jEv _ _ _ _ _ _ _ (_, [(2, 1), (0, a1), (0, a2)], [(0, 0)], _, _, _)
      refine ev_ifeq f143_33 (fun c6319 => ?_) (fun c6319 => absurd c6319 (by omega))
      exact ev_ret rfl (by decide) (by decide) ⟨rfl, g, k0⟩
    · refine ev_iconst ?_
      refine ev_goto f140_17 ?_
      refine ev_ret rfl (by decide) (by decide) ?_
      show jEv _ _ _ _ _ _ _ (_, [(2, 1), (0, a1), (0, a2)], [(0, 1)], _, _, _)
      refine ev_ifeq f143_33 (fun c6320 => absurd c6320 (by omega)) (fun c6320 => ?_)
      refine ev_aload_n rfl ?_
      refine ev_iload_n rfl ?_
      refine ev_in (d := 1) (a := 0) (b := 0) (cd' := c140_0) (m := 2) (L0 := [(2, 1), (0, a2)]) (jcall_v (A := [(0, a2)]) (S' := []) (r := 1) rfl (g.lt ad1) (g.tg ad1) (Nat.le_of_ble_eq_true rfl)) (by decide) ml140 pp140 (Nat.le_of_ble_eq_true rfl) rfl (by decide) (by decide) ?_
      refine ev_iload_n rfl ?_
      refine ev_iflt f140_16 (fun c6321 => ?_) (fun c6321 => ?_)
      · refine ev_iconst ?_
        refine ev_ret rfl (by decide) (by decide) ?_
        show jEv _ _ _ _ _ _ _ (_, [(2, 1), (0, a1), (0, a2)], [(0, 0)], _, _, _)
        refine ev_ifeq f143_33 (fun c6322 => ?_) (fun c6322 => absurd c6322 (by omega))
        exact ev_ret rfl (by decide) (by decide) ⟨rfl, g, k0⟩
      · refine ev_iload_n rfl ?_
        refine ev_aload_n rfl ?_
        refine g_getv (r := 1) (v := v6317) g ad1 (by decide) ft10_0 (ev6317) ?_
        refine ev_icmpge f140_16 (fun c6323 => ?_) (fun c6323 => ?_)
        · refine ev_iconst ?_
          refine ev_ret rfl (by decide) (by decide) ?_
          show jEv _ _ _ _ _ _ _ (_, [(2, 1), (0, a1), (0, a2)], [(0, 0)], _, _, _)
          refine ev_ifeq f143_33 (fun c6324 => ?_) (fun c6324 => absurd c6324 (by omega))
          exact ev_ret rfl (by decide) (by decide) ⟨rfl, g, k0⟩
        · refine ev_iconst ?_
          refine ev_goto f140_17 ?_
          refine ev_ret rfl (by decide) (by decide) ?_
          show jEv _ _ _ _ _ _ _ (_, [(2, 1), (0, a1), (0, a2)], [(0, 1)], _, _, _)
          refine ev_ifeq f143_33 (fun c6325 => absurd c6325 (by omega)) (fun c6325 => ?_)
          refine ev_aload_n rfl ?_
          refine g_getp (r := 1) (c := 3) g ad1 (by decide) (by decide) rf1_4 ft10_4 ?_
          refine ev_iload_n rfl ?_
          refine ev_iload_n rfl ?_
          refine g_iast g ad3 rt3 (fun _ => rfl) (by omega) (by omega) (by omega) (by omega) (fun h6326 e6326 g6326 => ?_)
          have k6326 := k0.wr e6326 rfl
          refine ev_aload_n rfl ?_
          refine ev_iload_n rfl ?_
          refine ev_call (jcall_v (A := [(0, a1)]) (S' := []) (r := 1) rfl (g6326.lt ad1) (g6326.tg ad1) (Nat.le_of_ble_eq_true rfl)) (jOk_le (by decide) (s144 g6326 (by omega) (by omega))) (by decide) (by decide) (fun w6327 h6327 q6327 => ?_)
          obtain ⟨rfl, g6327, kk6327⟩ := q6327
          have k6327 := k6326.tr kk6327 (by decide)
          show jEv _ _ _ _ _ _ _ (_, [(2, 1), (0, a1), (0, a2)], [], _, _, _)
          refine ev_aload_n rfl ?_
          refine ev_iconst ?_
          refine g_putf (r := 1) g6327 ad1 (by decide) ft10_2 (by decide) (fun _ => by omega) rf1_2 (by decide) (by omega) (by omega) (fun h6328 e6328 g6328 => ?_)
          have k6328 := k6327.wr e6328 rfl
          exact ev_ret rfl (by decide) (by decide) ⟨rfl, g6328, k6328⟩
/-! 22 addNode -/
set_option maxHeartbeats 4000000 in
theorem s22 {G : GH} {h : JH} (g : Gd G h) {r0 : Nat} {m0 : Int} (q0 : IsQ G r0 m0) {a1 : Int} (la1 : 0 ≤ a1) (ua1 : a1 ≤ 2) {a2 : Int} (la2 : (-2147483648) ≤ a2) (ua2 : a2 ≤ 2147483647) {a3 : Int} (la3 : (-1) ≤ a3) (ua3 : a3 ≤ m0 - 1) {a4 : Int} (la4 : (-2147483648) ≤ a4) (ua4 : a4 ≤ 2147483647) : jOk 1 0 0 22 [(2, (r0 : Int)), (0, a1), (0, a2), (0, a3), (0, a4)] h (PM G [(1000000, 0)] h m0 0 (-1) (-1)) := by
  refine ⟨by decide, by rw [ml22]; exact Nat.le_of_ble_eq_true rfl, ?_⟩
  rw [ml22, pp22]
  show jEv _ none _ c22_0 0 0 _ (c22_0, [(2, (r0 : Int)), (0, a1), (0, a2), (0, a3), (0, a4), (9, 0)], [], h, 0, 0)
  have k0 := Kp.rf [(1000000, 0)] h
  have wr0 := g.qb q0
  have zr0 := q0.1
  refine ev_aload_n rfl ?_
  obtain ⟨v6355, ev6355, lv6355, uv6355⟩ := g.q0 q0
  refine g_qgetv (v := v6355) g q0 ft4_0 ev6355 ?_
  refine ev_aload_n rfl ?_
  refine g_qgetp g q0 (c := 2) (by decide) (by decide) ft4_2 ?_
  refine g_qaln g q0 (c := 2) (by decide) (by decide) ?_
  show jEv _ _ _ _ _ _ _ (_, _, [(0, m0), (0, v6355)], _, _, _)
  refine ev_icmplt f22_14 (fun c6356 => ?_) (fun c6356 => ?_)
  · refine ev_aload_n rfl ?_
    refine g_qgetv (v := v6355) g q0 ft4_0 (ev6355) ?_
    refine ev_istore (L' := [(2, (r0 : Int)), (0, a1), (0, a2), (0, a3), (0, a4), (0, v6355)]) (Nat.le_of_ble_eq_true rfl) rfl ?_
    refine ev_aload_n rfl ?_
    refine g_qgetp g q0 (c := 2) (by decide) (by decide) ft4_2 ?_
    refine ev_iload rfl ?_
    refine ev_iload_n rfl ?_
    refine g_qiast g q0 (c := 2) (by decide) (by decide) (by decide) (by omega) (by show v6355 < m0; omega) rfl (by omega) (by omega) (fun h6357 e6357 g6357 => ?_)
    have k6357 := k0.wr e6357 (inW_dyn rfl (by have := q0.1; omega))
    refine ev_aload_n rfl ?_
    refine g_qgetp g6357 q0 (c := 3) (by decide) (by decide) ft4_3 ?_
    refine ev_iload rfl ?_
    refine ev_iload_n rfl ?_
    refine g_qiast g6357 q0 (c := 3) (by decide) (by decide) (by decide) (by omega) (by show v6355 < m0; omega) rfl (by omega) (by omega) (fun h6358 e6358 g6358 => ?_)
    have k6358 := k6357.wr e6358 (inW_dyn rfl (by have := q0.1; omega))
    refine ev_aload_n rfl ?_
    refine g_qgetp g6358 q0 (c := 7) (by decide) (by decide) ft4_7 ?_
    refine ev_iload rfl ?_
    refine ev_iload_n rfl ?_
    refine g_qiast g6358 q0 (c := 7) (by decide) (by decide) (by decide) (by omega) (by show v6355 < m0; omega) rfl (by omega) (by omega) (fun h6359 e6359 g6359 => ?_)
    have k6359 := k6358.wr e6359 (inW_dyn rfl (by have := q0.1; omega))
    refine ev_aload_n rfl ?_
    refine g_qgetp g6359 q0 (c := 8) (by decide) (by decide) ft4_8 ?_
    refine ev_iload rfl ?_
    refine ev_iload rfl ?_
    refine g_qiast g6359 q0 (c := 8) (by decide) (by decide) (by decide) (by omega) (by show v6355 < m0; omega) rfl (by omega) (by omega) (fun h6360 e6360 g6360 => ?_)
    have k6360 := k6359.wr e6360 (inW_dyn rfl (by have := q0.1; omega))
    refine ev_iload_n rfl ?_
    refine ev_iconst ?_
    refine ev_icmpne f22_71 (fun c6361 => ?_) (fun c6361 => ?_)
    · refine ev_aload_n rfl ?_
      refine ev_dup (by decide) ?_
      refine g_qgetv (v := v6355) g6360 q0 ft4_0 (((jw_ne e6360 (Or.inl (by omega))).trans ((jw_ne e6359 (Or.inl (by omega))).trans ((jw_ne e6358 (Or.inl (by omega))).trans ((jw_ne e6357 (Or.inl (by omega))).trans ev6355))))) ?_
      refine ev_iconst ?_
      refine ev_iadd (r := (v6355 + 1)) (by unfold w32; omega) ?_
      refine g_qputf0 g6360 q0 ft4_0 nz4_0 (by omega) (by omega) (fun h6362 e6362 g6362 => ?_)
      have k6362 := k6360.wr e6362 (inW_dyn rfl q0.1)
      refine ev_iload rfl ?_
      exact ev_ret rfl (by decide) (by decide) ⟨_, rfl, by omega, by omega, g6362, k6362⟩
    · refine ev_aload_n rfl ?_
      obtain ⟨v6363, ev6363, lv6363, uv6363⟩ := g6360.q1 q0
      refine g_qgetv (v := v6363) g6360 q0 ft4_1 ev6363 ?_
      refine ev_ifge f22_71 (fun c6364 => ?_) (fun c6364 => ?_)
      · refine ev_aload_n rfl ?_
        refine ev_dup (by decide) ?_
        refine g_qgetv (v := v6355) g6360 q0 ft4_0 (((jw_ne e6360 (Or.inl (by omega))).trans ((jw_ne e6359 (Or.inl (by omega))).trans ((jw_ne e6358 (Or.inl (by omega))).trans ((jw_ne e6357 (Or.inl (by omega))).trans ev6355))))) ?_
        refine ev_iconst ?_
        refine ev_iadd (r := (v6355 + 1)) (by unfold w32; omega) ?_
        refine g_qputf0 g6360 q0 ft4_0 nz4_0 (by omega) (by omega) (fun h6365 e6365 g6365 => ?_)
        have k6365 := k6360.wr e6365 (inW_dyn rfl q0.1)
        refine ev_iload rfl ?_
        exact ev_ret rfl (by decide) (by decide) ⟨_, rfl, by omega, by omega, g6365, k6365⟩
      · refine ev_aload_n rfl ?_
        refine ev_iload rfl ?_
        refine g_qputf1 g6360 q0 ft4_1 nz4_1 (by omega) (by omega) (fun h6366 e6366 g6366 => ?_)
        have k6366 := k6360.wr e6366 (inW_dyn rfl q0.1)
        refine ev_aload_n rfl ?_
        refine ev_dup (by decide) ?_
        refine g_qgetv (v := v6355) g6366 q0 ft4_0 (((jw_ne e6366 (Or.inr (by decide))).trans ((jw_ne e6360 (Or.inl (by omega))).trans ((jw_ne e6359 (Or.inl (by omega))).trans ((jw_ne e6358 (Or.inl (by omega))).trans ((jw_ne e6357 (Or.inl (by omega))).trans ev6355)))))) ?_
        refine ev_iconst ?_
        refine ev_iadd (r := (v6355 + 1)) (by unfold w32; omega) ?_
        refine g_qputf0 g6366 q0 ft4_0 nz4_0 (by omega) (by omega) (fun h6367 e6367 g6367 => ?_)
        have k6367 := k6366.wr e6367 (inW_dyn rfl q0.1)
        refine ev_iload rfl ?_
        exact ev_ret rfl (by decide) (by decide) ⟨_, rfl, by omega, by omega, g6367, k6367⟩
  · refine ev_iconst ?_
    exact ev_ret rfl (by decide) (by decide) ⟨_, rfl, by omega, by omega, g, k0⟩
