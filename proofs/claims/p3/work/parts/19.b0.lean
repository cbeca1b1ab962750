set_option maxHeartbeats 4000000 in
theorem case_0 {xs : Nat → Int} (hr : ∀ j, -2147483648 ≤ xs j ∧ xs j < 2147483648) {L n : Nat} (hL : 6 * n + 6 ≤ L) (hn : n < 64) {G : GH} {h : JH} {cu su : Nat} (g : Gd G h) (hB : h.1 ≤ 83 + 13 * n) (hc : cu ≤ 83 + 13 * n) (hs : su ≤ 23761 + 1814 * n) (rl : Rl h) (kk : ∀ (G' : GH) (h' : JH) (cu' su' : Nat), Gd G' h' → h'.1 ≤ 83 + 13 * (n + 1) → cu' ≤ 83 + 13 * (n + 1) → su' ≤ 23761 + 1814 * (n + 1) → Rl h' → jEv (jOk 800) (some L) xs c384_0 600000 7302250 (fun v _ => v = some (0, 1)) (c384_2179, [(2, -2), (2, 0), (2, 42), (0, 6 * (n : Int))], [], h', cu', su')) : jEv (jOk 800) (some L) xs c384_0 600000 7302250 (fun v _ => v = some (0, 1)) (c384_260, [(2, -2), (2, 0), (2, 42), (0, 6 * (n : Int))], [], h, cu, su) := by
  have r1 := hr (6 * n + 1)
  refine ev_aload_n rfl ?_
  refine ev_aload_n rfl ?_
  refine ev_iload_n rfl ?_
  refine ev_iconst ?_
  refine ev_iadd (r := 6 * (n : Int) + 1) (by unfold w32; omega) ?_
  refine ev_sald (j := 6 * n + 1) (by omega) (by simp only [jxin, decide_eq_true_eq]; omega) rfl ?_
  obtain ⟨w0, ew0, lw0, uw0⟩ := g.rd ad1 (show 0 < 8 by decide) rf1_0
  obtain ⟨w1, ew1, lw1, uw1⟩ := g.rd ad0 (show 3 < 17 by decide) rf0_3
  refine ev_call (jcall_v (A := [(0, xs (6 * n + 1))]) (S' := []) (r := 0) rfl (g.lt ad0) (g.tg ad0) (Nat.le_of_ble_eq_true rfl)) (jOk_le (by decide) (t166 g (by omega) (by omega) ew0 lw0 uw0 ew1 lw1 uw1)) (by omega) (by omega) (fun w1 h1 q1 => ?_)
  obtain ⟨v1, rfl, g1, k1, b1, c1, f1, e1, t1, o1⟩ := q1
  have z1 := k1.1
  show jEv _ _ _ _ _ _ _ (_, [(2, -2), (2, 0), (2, 42), (0, 6 * (n : Int))], [(0, v1)], _, _, _)
  refine ev_pop (by decide) ?_
  refine ev_aload_n rfl ?_
  refine ev_aload_n rfl ?_
  refine ev_iload_n rfl ?_
  refine ev_iconst ?_
  refine ev_iadd (r := 6 * (n : Int) + 1) (by unfold w32; omega) ?_
  refine ev_sald (j := 6 * n + 1) (by omega) (by simp only [jxin, decide_eq_true_eq]; omega) rfl ?_
  have d0 : h1.2.2 42 1 = w0 := (k1.v rfl).trans ((show Rt h from rl.1).2.2.1.symm.trans ew0)
  have d1 : h1.2.2 42 9 = w1 := (k1.v rfl).trans ((show Rt h from rl.1).2.2.2.2.symm.trans ew1)
  refine ev_call (jcall_v (A := [(0, xs (6 * n + 1))]) (S' := []) (r := 42) rfl (g1.lt ad42) (g1.tg ad42) (Nat.le_of_ble_eq_true rfl)) (jOk_le (by decide) (t247 g1 (by omega) (by omega) d0 lw0 uw0 d1 lw1 uw1)) (by omega) (by omega) (fun w2 h2 q2 => ?_)
  obtain ⟨v2, rfl, g2, k2, b2, c2, f2, e2, t2⟩ := q2
  have z2 := k2.1
  have rr : Rl h2 := ⟨(show Rt h from rl.1).thing k1 k2 (fun c j z => (dsj_at (by decide) z).2) (fun c j z => (dsj_at (by decide) z).2) ew0 lw0 e1 e2 t1 t2, Rh.thing rl.2 ew0 lw0 uw0 ((k2.v rfl).trans e1) (fun _ => k2.v rfl) (fun _ => (k2.v rfl).trans (k1.v rfl)) o1⟩
  show jEv _ _ _ _ _ _ _ (_, [(2, -2), (2, 0), (2, 42), (0, 6 * (n : Int))], [(0, v2)], _, _, _)
  refine ev_pop (by decide) ?_
  refine ev_goto f384_2179 ?_
  exact kk _ _ _ _ g2 (by omega) (by omega) (by omega) rr

set_option maxHeartbeats 4000000 in
theorem case_1 {xs : Nat → Int} (hr : ∀ j, -2147483648 ≤ xs j ∧ xs j < 2147483648) {L n : Nat} (hL : 6 * n + 6 ≤ L) (hn : n < 64) {G : GH} {h : JH} {cu su : Nat} (g : Gd G h) (hB : h.1 ≤ 83 + 13 * n) (hc : cu ≤ 83 + 13 * n) (hs : su ≤ 23761 + 1814 * n) (rl : Rl h) (kk : ∀ (G' : GH) (h' : JH) (cu' su' : Nat), Gd G' h' → h'.1 ≤ 83 + 13 * (n + 1) → cu' ≤ 83 + 13 * (n + 1) → su' ≤ 23761 + 1814 * (n + 1) → Rl h' → jEv (jOk 800) (some L) xs c384_0 600000 7302250 (fun v _ => v = some (0, 1)) (c384_2179, [(2, -2), (2, 0), (2, 42), (0, 6 * (n : Int))], [], h', cu', su')) : jEv (jOk 800) (some L) xs c384_0 600000 7302250 (fun v _ => v = some (0, 1)) (c384_283, [(2, -2), (2, 0), (2, 42), (0, 6 * (n : Int))], [], h, cu, su) := by
  have r1 := hr (6 * n + 1)
  have r2 := hr (6 * n + 2)
  refine ev_aload_n rfl ?_
  refine ev_aload_n rfl ?_
  refine ev_iload_n rfl ?_
  refine ev_iconst ?_
  refine ev_iadd (r := 6 * (n : Int) + 1) (by unfold w32; omega) ?_
  refine ev_sald (j := 6 * n + 1) (by omega) (by simp only [jxin, decide_eq_true_eq]; omega) rfl ?_
  refine ev_aload_n rfl ?_
  refine ev_iload_n rfl ?_
  refine ev_iconst ?_
  refine ev_iadd (r := 6 * (n : Int) + 2) (by unfold w32; omega) ?_
  refine ev_sald (j := 6 * n + 2) (by omega) (by simp only [jxin, decide_eq_true_eq]; omega) rfl ?_
  obtain ⟨w0, ew0, lw0, uw0⟩ := g.rd ad1 (show 0 < 8 by decide) rf1_0
  obtain ⟨w1, ew1, lw1, uw1⟩ := g.rd ad0 (show 3 < 17 by decide) rf0_3
  refine ev_call (jcall_v (A := [(0, xs (6 * n + 2)), (0, xs (6 * n + 1))]) (S' := []) (r := 0) rfl (g.lt ad0) (g.tg ad0) (Nat.le_of_ble_eq_true rfl)) (jOk_le (by decide) (t167 g (by omega) (by omega) (by omega) (by omega) ew0 lw0 uw0 ew1 lw1 uw1)) (by omega) (by omega) (fun w1 h1 q1 => ?_)
  obtain ⟨v1, rfl, g1, k1, b1, c1, f1⟩ := q1
  have z1 := k1.1
  show jEv _ _ _ _ _ _ _ (_, [(2, -2), (2, 0), (2, 42), (0, 6 * (n : Int))], [(0, v1)], _, _, _)
  refine ev_aload_n rfl ?_
  refine ev_aload_n rfl ?_
  refine ev_iload_n rfl ?_
  refine ev_iconst ?_
  refine ev_iadd (r := 6 * (n : Int) + 1) (by unfold w32; omega) ?_
  refine ev_sald (j := 6 * n + 1) (by omega) (by simp only [jxin, decide_eq_true_eq]; omega) rfl ?_
  refine ev_aload_n rfl ?_
  refine ev_iload_n rfl ?_
  refine ev_iconst ?_
  refine ev_iadd (r := 6 * (n : Int) + 2) (by unfold w32; omega) ?_
  refine ev_sald (j := 6 * n + 2) (by omega) (by simp only [jxin, decide_eq_true_eq]; omega) rfl ?_
  have d0 : h1.2.2 42 1 = w0 := (k1.v rfl).trans ((show Rt h from rl.1).2.2.1.symm.trans ew0)
  have d1 : h1.2.2 42 9 = w1 := (k1.v rfl).trans ((show Rt h from rl.1).2.2.2.2.symm.trans ew1)
  refine ev_call (jcall_v (A := [(0, xs (6 * n + 2)), (0, xs (6 * n + 1))]) (S' := [(0, v1)]) (r := 42) rfl (g1.lt ad42) (g1.tg ad42) (Nat.le_of_ble_eq_true rfl)) (jOk_le (by decide) (t248 g1 (by omega) (by omega) (by omega) (by omega) d0 lw0 uw0 d1 lw1 uw1)) (by omega) (by omega) (fun w2 h2 q2 => ?_)
  obtain ⟨v2, rfl, g2, k2, b2, c2, f2⟩ := q2
  have z2 := k2.1
  have rh := Rh.hang rl.2 ew0 ((k2.v rfl).trans ((k1.v rfl).trans ew0)) (fun _ => k1.v rfl) (fun _ => k2.v rfl) f1 f2
  have rr : Rl h2 := ⟨rl.1.fr (fun a i z => (k2.v (dsj_at (by decide) z).2).trans (k1.v (dsj_at (by decide) z).2)), rh.2⟩
  show jEv _ _ _ _ _ _ _ (_, [(2, -2), (2, 0), (2, 42), (0, 6 * (n : Int))], [(0, v2), (0, v1)], _, _, _)
  have same : v1 = v2 := rh.1
  refine ev_icmpeq f384_2179 (fun c => ?_) (fun c => (c (by omega)).elim)
  exact kk _ _ _ _ g2 (by omega) (by omega) (by omega) rr

set_option maxHeartbeats 4000000 in
theorem case_2 {xs : Nat → Int} (hr : ∀ j, -2147483648 ≤ xs j ∧ xs j < 2147483648) {L n : Nat} (hL : 6 * n + 6 ≤ L) (hn : n < 64) {G : GH} {h : JH} {cu su : Nat} (g : Gd G h) (hB : h.1 ≤ 83 + 13 * n) (hc : cu ≤ 83 + 13 * n) (hs : su ≤ 23761 + 1814 * n) (rl : Rl h) (kk : ∀ (G' : GH) (h' : JH) (cu' su' : Nat), Gd G' h' → h'.1 ≤ 83 + 13 * (n + 1) → cu' ≤ 83 + 13 * (n + 1) → su' ≤ 23761 + 1814 * (n + 1) → Rl h' → jEv (jOk 800) (some L) xs c384_0 600000 7302250 (fun v _ => v = some (0, 1)) (c384_2179, [(2, -2), (2, 0), (2, 42), (0, 6 * (n : Int))], [], h', cu', su')) : jEv (jOk 800) (some L) xs c384_0 600000 7302250 (fun v _ => v = some (0, 1)) (c384_316, [(2, -2), (2, 0), (2, 42), (0, 6 * (n : Int))], [], h, cu, su) := by
  have r1 := hr (6 * n + 1)
  have r2 := hr (6 * n + 2)
  have r3 := hr (6 * n + 3)
  have r4 := hr (6 * n + 4)
  refine ev_aload_n rfl ?_
  refine ev_aload_n rfl ?_
  refine ev_iload_n rfl ?_
  refine ev_iconst ?_
  refine ev_iadd (r := 6 * (n : Int) + 1) (by unfold w32; omega) ?_
  refine ev_sald (j := 6 * n + 1) (by omega) (by simp only [jxin, decide_eq_true_eq]; omega) rfl ?_
  refine ev_aload_n rfl ?_
  refine ev_iload_n rfl ?_
  refine ev_iconst ?_
  refine ev_iadd (r := 6 * (n : Int) + 2) (by unfold w32; omega) ?_
  refine ev_sald (j := 6 * n + 2) (by omega) (by simp only [jxin, decide_eq_true_eq]; omega) rfl ?_
  refine ev_aload_n rfl ?_
  refine ev_iload_n rfl ?_
  refine ev_iconst ?_
  refine ev_iadd (r := 6 * (n : Int) + 3) (by unfold w32; omega) ?_
  refine ev_sald (j := 6 * n + 3) (by omega) (by simp only [jxin, decide_eq_true_eq]; omega) rfl ?_
  refine ev_aload_n rfl ?_
  refine ev_iload_n rfl ?_
  refine ev_iconst ?_
  refine ev_iadd (r := 6 * (n : Int) + 4) (by unfold w32; omega) ?_
  refine ev_sald (j := 6 * n + 4) (by omega) (by simp only [jxin, decide_eq_true_eq]; omega) rfl ?_
  refine ev_call (jcall_v (A := [(0, xs (6 * n + 4)), (0, xs (6 * n + 3)), (0, xs (6 * n + 2)), (0, xs (6 * n + 1))]) (S' := []) (r := 0) rfl (g.lt ad0) (g.tg ad0) (Nat.le_of_ble_eq_true rfl)) (jOk_le (by decide) (s168 g (by omega) (by omega) (by omega) (by omega) (by omega) (by omega) (by omega) (by omega))) (by omega) (by omega) (fun w1 h1 q1 => ?_)
  obtain ⟨v1, rfl, b1, c1, g1, k1⟩ := q1
  have z1 := k1.1
  have rl1 := Rl.kp rl k1 (by decide)
  show jEv _ _ _ _ _ _ _ (_, [(2, -2), (2, 0), (2, 42), (0, 6 * (n : Int))], [(0, v1)], _, _, _)
  refine ev_pop (by decide) ?_
  refine ev_aload_n rfl ?_
  refine ev_aload_n rfl ?_
  refine ev_iload_n rfl ?_
  refine ev_iconst ?_
  refine ev_iadd (r := 6 * (n : Int) + 1) (by unfold w32; omega) ?_
  refine ev_sald (j := 6 * n + 1) (by omega) (by simp only [jxin, decide_eq_true_eq]; omega) rfl ?_
  refine ev_aload_n rfl ?_
  refine ev_iload_n rfl ?_
  refine ev_iconst ?_
  refine ev_iadd (r := 6 * (n : Int) + 2) (by unfold w32; omega) ?_
  refine ev_sald (j := 6 * n + 2) (by omega) (by simp only [jxin, decide_eq_true_eq]; omega) rfl ?_
  refine ev_aload_n rfl ?_
  refine ev_iload_n rfl ?_
  refine ev_iconst ?_
  refine ev_iadd (r := 6 * (n : Int) + 3) (by unfold w32; omega) ?_
  refine ev_sald (j := 6 * n + 3) (by omega) (by simp only [jxin, decide_eq_true_eq]; omega) rfl ?_
  refine ev_aload_n rfl ?_
  refine ev_iload_n rfl ?_
  refine ev_iconst ?_
  refine ev_iadd (r := 6 * (n : Int) + 4) (by unfold w32; omega) ?_
  refine ev_sald (j := 6 * n + 4) (by omega) (by simp only [jxin, decide_eq_true_eq]; omega) rfl ?_
  refine ev_call (jcall_v (A := [(0, xs (6 * n + 4)), (0, xs (6 * n + 3)), (0, xs (6 * n + 2)), (0, xs (6 * n + 1))]) (S' := []) (r := 42) rfl (g1.lt ad42) (g1.tg ad42) (Nat.le_of_ble_eq_true rfl)) (jOk_le (by decide) (s250 g1 (by omega) (by omega) (by omega) (by omega) (by omega) (by omega) (by omega) (by omega))) (by omega) (by omega) (fun w2 h2 q2 => ?_)
  obtain ⟨v2, rfl, b2, c2, g2, k2⟩ := q2
  have z2 := k2.1
  have rl2 := Rl.kp rl1 k2 (by decide)
  show jEv _ _ _ _ _ _ _ (_, [(2, -2), (2, 0), (2, 42), (0, 6 * (n : Int))], [(0, v2)], _, _, _)
  refine ev_pop (by decide) ?_
  refine ev_goto f384_2179 ?_
  exact kk _ _ _ _ g2 (by omega) (by omega) (by omega) rl2

set_option maxHeartbeats 4000000 in
theorem case_3 {xs : Nat → Int} (hr : ∀ j, -2147483648 ≤ xs j ∧ xs j < 2147483648) {L n : Nat} (hL : 6 * n + 6 ≤ L) (hn : n < 64) {G : GH} {h : JH} {cu su : Nat} (g : Gd G h) (hB : h.1 ≤ 83 + 13 * n) (hc : cu ≤ 83 + 13 * n) (hs : su ≤ 23761 + 1814 * n) (rl : Rl h) (kk : ∀ (G' : GH) (h' : JH) (cu' su' : Nat), Gd G' h' → h'.1 ≤ 83 + 13 * (n + 1) → cu' ≤ 83 + 13 * (n + 1) → su' ≤ 23761 + 1814 * (n + 1) → Rl h' → jEv (jOk 800) (some L) xs c384_0 600000 7302250 (fun v _ => v = some (0, 1)) (c384_2179, [(2, -2), (2, 0), (2, 42), (0, 6 * (n : Int))], [], h', cu', su')) : jEv (jOk 800) (some L) xs c384_0 600000 7302250 (fun v _ => v = some (0, 1)) (c384_369, [(2, -2), (2, 0), (2, 42), (0, 6 * (n : Int))], [], h, cu, su) := by
  refine ev_aload_n rfl ?_
  refine ev_call (jcall_v (A := []) (S' := []) (r := 0) rfl (g.lt ad0) (g.tg ad0) (Nat.le_of_ble_eq_true rfl)) (jOk_le (by decide) (s169 g )) (by omega) (by omega) (fun w1 h1 q1 => ?_)
  obtain ⟨v1, rfl, b1, c1, g1, k1⟩ := q1
  have z1 := k1.1
  have rl1 := Rl.kp rl k1 (by decide)
  show jEv _ _ _ _ _ _ _ (_, [(2, -2), (2, 0), (2, 42), (0, 6 * (n : Int))], [(1, v1)], _, _, _)
  refine ev_pop2 ?_
  refine ev_aload_n rfl ?_
  refine ev_call (jcall_v (A := []) (S' := []) (r := 42) rfl (g1.lt ad42) (g1.tg ad42) (Nat.le_of_ble_eq_true rfl)) (jOk_le (by decide) (s254 g1 )) (by omega) (by omega) (fun w2 h2 q2 => ?_)
  obtain ⟨v2, rfl, b2, c2, g2, k2⟩ := q2
  have z2 := k2.1
  have rl2 := Rl.kp rl1 k2 (by decide)
  show jEv _ _ _ _ _ _ _ (_, [(2, -2), (2, 0), (2, 42), (0, 6 * (n : Int))], [(1, v2)], _, _, _)
  refine ev_pop2 ?_
  refine ev_goto f384_2179 ?_
  exact kk _ _ _ _ g2 (by omega) (by omega) (by omega) rl2

set_option maxHeartbeats 4000000 in
theorem case_4 {xs : Nat → Int} (hr : ∀ j, -2147483648 ≤ xs j ∧ xs j < 2147483648) {L n : Nat} (hL : 6 * n + 6 ≤ L) (hn : n < 64) {G : GH} {h : JH} {cu su : Nat} (g : Gd G h) (hB : h.1 ≤ 83 + 13 * n) (hc : cu ≤ 83 + 13 * n) (hs : su ≤ 23761 + 1814 * n) (rl : Rl h) (kk : ∀ (G' : GH) (h' : JH) (cu' su' : Nat), Gd G' h' → h'.1 ≤ 83 + 13 * (n + 1) → cu' ≤ 83 + 13 * (n + 1) → su' ≤ 23761 + 1814 * (n + 1) → Rl h' → jEv (jOk 800) (some L) xs c384_0 600000 7302250 (fun v _ => v = some (0, 1)) (c384_2179, [(2, -2), (2, 0), (2, 42), (0, 6 * (n : Int))], [], h', cu', su')) : jEv (jOk 800) (some L) xs c384_0 600000 7302250 (fun v _ => v = some (0, 1)) (c384_382, [(2, -2), (2, 0), (2, 42), (0, 6 * (n : Int))], [], h, cu, su) := by
  have r1 := hr (6 * n + 1)
  refine ev_aload_n rfl ?_
  refine ev_aload_n rfl ?_
  refine ev_iload_n rfl ?_
  refine ev_iconst ?_
  refine ev_iadd (r := 6 * (n : Int) + 1) (by unfold w32; omega) ?_
  refine ev_sald (j := 6 * n + 1) (by omega) (by simp only [jxin, decide_eq_true_eq]; omega) rfl ?_
  refine ev_call (jcall_v (A := [(0, xs (6 * n + 1))]) (S' := []) (r := 0) rfl (g.lt ad0) (g.tg ad0) (Nat.le_of_ble_eq_true rfl)) (jOk_le (by decide) (s170 g (by omega) (by omega))) (by omega) (by omega) (fun w1 h1 q1 => ?_)
  obtain ⟨v1, rfl, b1, c1, g1, k1⟩ := q1
  have z1 := k1.1
  have rl1 := Rl.kp rl k1 (by decide)
  show jEv _ _ _ _ _ _ _ (_, [(2, -2), (2, 0), (2, 42), (0, 6 * (n : Int))], [(1, v1)], _, _, _)
  refine ev_pop2 ?_
  refine ev_aload_n rfl ?_
  refine ev_aload_n rfl ?_
  refine ev_iload_n rfl ?_
  refine ev_iconst ?_
  refine ev_iadd (r := 6 * (n : Int) + 1) (by unfold w32; omega) ?_
  refine ev_sald (j := 6 * n + 1) (by omega) (by simp only [jxin, decide_eq_true_eq]; omega) rfl ?_
  refine ev_call (jcall_v (A := [(0, xs (6 * n + 1))]) (S' := []) (r := 42) rfl (g1.lt ad42) (g1.tg ad42) (Nat.le_of_ble_eq_true rfl)) (jOk_le (by decide) (s257 g1 (by omega) (by omega))) (by omega) (by omega) (fun w2 h2 q2 => ?_)
  obtain ⟨v2, rfl, b2, c2, g2, k2⟩ := q2
  have z2 := k2.1
  have rl2 := Rl.kp rl1 k2 (by decide)
  show jEv _ _ _ _ _ _ _ (_, [(2, -2), (2, 0), (2, 42), (0, 6 * (n : Int))], [(1, v2)], _, _, _)
  refine ev_pop2 ?_
  refine ev_goto f384_2179 ?_
  exact kk _ _ _ _ g2 (by omega) (by omega) (by omega) rl2

set_option maxHeartbeats 4000000 in
theorem case_5 {xs : Nat → Int} (hr : ∀ j, -2147483648 ≤ xs j ∧ xs j < 2147483648) {L n : Nat} (hL : 6 * n + 6 ≤ L) (hn : n < 64) {G : GH} {h : JH} {cu su : Nat} (g : Gd G h) (hB : h.1 ≤ 83 + 13 * n) (hc : cu ≤ 83 + 13 * n) (hs : su ≤ 23761 + 1814 * n) (rl : Rl h) (kk : ∀ (G' : GH) (h' : JH) (cu' su' : Nat), Gd G' h' → h'.1 ≤ 83 + 13 * (n + 1) → cu' ≤ 83 + 13 * (n + 1) → su' ≤ 23761 + 1814 * (n + 1) → Rl h' → jEv (jOk 800) (some L) xs c384_0 600000 7302250 (fun v _ => v = some (0, 1)) (c384_2179, [(2, -2), (2, 0), (2, 42), (0, 6 * (n : Int))], [], h', cu', su')) : jEv (jOk 800) (some L) xs c384_0 600000 7302250 (fun v _ => v = some (0, 1)) (c384_405, [(2, -2), (2, 0), (2, 42), (0, 6 * (n : Int))], [], h, cu, su) := by
  have r1 := hr (6 * n + 1)
  have r2 := hr (6 * n + 2)
  have r3 := hr (6 * n + 3)
  refine ev_aload_n rfl ?_
  refine ev_aload_n rfl ?_
  refine ev_iload_n rfl ?_
  refine ev_iconst ?_
  refine ev_iadd (r := 6 * (n : Int) + 1) (by unfold w32; omega) ?_
  refine ev_sald (j := 6 * n + 1) (by omega) (by simp only [jxin, decide_eq_true_eq]; omega) rfl ?_
  refine ev_aload_n rfl ?_
  refine ev_iload_n rfl ?_
  refine ev_iconst ?_
  refine ev_iadd (r := 6 * (n : Int) + 2) (by unfold w32; omega) ?_
  refine ev_sald (j := 6 * n + 2) (by omega) (by simp only [jxin, decide_eq_true_eq]; omega) rfl ?_
  refine ev_aload_n rfl ?_
  refine ev_iload_n rfl ?_
  refine ev_iconst ?_
  refine ev_iadd (r := 6 * (n : Int) + 3) (by unfold w32; omega) ?_
  refine ev_sald (j := 6 * n + 3) (by omega) (by simp only [jxin, decide_eq_true_eq]; omega) rfl ?_
  refine ev_call (jcall_v (A := [(0, xs (6 * n + 3)), (0, xs (6 * n + 2)), (0, xs (6 * n + 1))]) (S' := []) (r := 0) rfl (g.lt ad0) (g.tg ad0) (Nat.le_of_ble_eq_true rfl)) (jOk_le (by decide) (s171 g (by omega) (by omega) (by omega) (by omega) (by omega) (by omega))) (by omega) (by omega) (fun w1 h1 q1 => ?_)
  obtain ⟨v1, rfl, b1, c1, g1, k1⟩ := q1
  have z1 := k1.1
  have rl1 := Rl.kp rl k1 (by decide)
  show jEv _ _ _ _ _ _ _ (_, [(2, -2), (2, 0), (2, 42), (0, 6 * (n : Int))], [(1, v1)], _, _, _)
  refine ev_pop2 ?_
  refine ev_aload_n rfl ?_
  refine ev_aload_n rfl ?_
  refine ev_iload_n rfl ?_
  refine ev_iconst ?_
  refine ev_iadd (r := 6 * (n : Int) + 1) (by unfold w32; omega) ?_
  refine ev_sald (j := 6 * n + 1) (by omega) (by simp only [jxin, decide_eq_true_eq]; omega) rfl ?_
  refine ev_aload_n rfl ?_
  refine ev_iload_n rfl ?_
  refine ev_iconst ?_
  refine ev_iadd (r := 6 * (n : Int) + 2) (by unfold w32; omega) ?_
  refine ev_sald (j := 6 * n + 2) (by omega) (by simp only [jxin, decide_eq_true_eq]; omega) rfl ?_
  refine ev_aload_n rfl ?_
  refine ev_iload_n rfl ?_
  refine ev_iconst ?_
  refine ev_iadd (r := 6 * (n : Int) + 3) (by unfold w32; omega) ?_
  refine ev_sald (j := 6 * n + 3) (by omega) (by simp only [jxin, decide_eq_true_eq]; omega) rfl ?_
  refine ev_call (jcall_v (A := [(0, xs (6 * n + 3)), (0, xs (6 * n + 2)), (0, xs (6 * n + 1))]) (S' := []) (r := 42) rfl (g1.lt ad42) (g1.tg ad42) (Nat.le_of_ble_eq_true rfl)) (jOk_le (by decide) (s260 g1 (by omega) (by omega) (by omega) (by omega) (by omega) (by omega))) (by omega) (by omega) (fun w2 h2 q2 => ?_)
  obtain ⟨v2, rfl, b2, c2, g2, k2⟩ := q2
  have z2 := k2.1
  have rl2 := Rl.kp rl1 k2 (by decide)
  show jEv _ _ _ _ _ _ _ (_, [(2, -2), (2, 0), (2, 42), (0, 6 * (n : Int))], [(1, v2)], _, _, _)
  refine ev_pop2 ?_
  refine ev_goto f384_2179 ?_
  exact kk _ _ _ _ g2 (by omega) (by omega) (by omega) rl2

set_option maxHeartbeats 4000000 in
theorem case_6 {xs : Nat → Int} (hr : ∀ j, -2147483648 ≤ xs j ∧ xs j < 2147483648) {L n : Nat} (hL : 6 * n + 6 ≤ L) (hn : n < 64) {G : GH} {h : JH} {cu su : Nat} (g : Gd G h) (hB : h.1 ≤ 83 + 13 * n) (hc : cu ≤ 83 + 13 * n) (hs : su ≤ 23761 + 1814 * n) (rl : Rl h) (kk : ∀ (G' : GH) (h' : JH) (cu' su' : Nat), Gd G' h' → h'.1 ≤ 83 + 13 * (n + 1) → cu' ≤ 83 + 13 * (n + 1) → su' ≤ 23761 + 1814 * (n + 1) → Rl h' → jEv (jOk 800) (some L) xs c384_0 600000 7302250 (fun v _ => v = some (0, 1)) (c384_2179, [(2, -2), (2, 0), (2, 42), (0, 6 * (n : Int))], [], h', cu', su')) : jEv (jOk 800) (some L) xs c384_0 600000 7302250 (fun v _ => v = some (0, 1)) (c384_448, [(2, -2), (2, 0), (2, 42), (0, 6 * (n : Int))], [], h, cu, su) := by
  have r1 := hr (6 * n + 1)
  have r2 := hr (6 * n + 2)
  refine ev_aload_n rfl ?_
  refine ev_aload_n rfl ?_
  refine ev_iload_n rfl ?_
  refine ev_iconst ?_
  refine ev_iadd (r := 6 * (n : Int) + 1) (by unfold w32; omega) ?_
  refine ev_sald (j := 6 * n + 1) (by omega) (by simp only [jxin, decide_eq_true_eq]; omega) rfl ?_
  refine ev_aload_n rfl ?_
  refine ev_iload_n rfl ?_
  refine ev_iconst ?_
  refine ev_iadd (r := 6 * (n : Int) + 2) (by unfold w32; omega) ?_
  refine ev_sald (j := 6 * n + 2) (by omega) (by simp only [jxin, decide_eq_true_eq]; omega) rfl ?_
  obtain ⟨w0, ew0, lw0, uw0⟩ := g.rd ad7 (show 0 < 15 by decide) rf7_0
  refine ev_call (jcall_v (A := [(0, xs (6 * n + 2)), (0, xs (6 * n + 1))]) (S' := []) (r := 0) rfl (g.lt ad0) (g.tg ad0) (Nat.le_of_ble_eq_true rfl)) (jOk_le (by decide) (t172 g (by omega) (by omega) (by omega) (by omega) ew0 lw0 uw0)) (by omega) (by omega) (fun w1 h1 q1 => ?_)
  obtain ⟨v1, rfl, g1, k1, b1, c1, f1, e1, t1⟩ := q1
  have z1 := k1.1
  show jEv _ _ _ _ _ _ _ (_, [(2, -2), (2, 0), (2, 42), (0, 6 * (n : Int))], [(0, v1)], _, _, _)
  refine ev_pop (by decide) ?_
  refine ev_aload_n rfl ?_
  refine ev_aload_n rfl ?_
  refine ev_iload_n rfl ?_
  refine ev_iconst ?_
  refine ev_iadd (r := 6 * (n : Int) + 1) (by unfold w32; omega) ?_
  refine ev_sald (j := 6 * n + 1) (by omega) (by simp only [jxin, decide_eq_true_eq]; omega) rfl ?_
  refine ev_aload_n rfl ?_
  refine ev_iload_n rfl ?_
  refine ev_iconst ?_
  refine ev_iadd (r := 6 * (n : Int) + 2) (by unfold w32; omega) ?_
  refine ev_sald (j := 6 * n + 2) (by omega) (by simp only [jxin, decide_eq_true_eq]; omega) rfl ?_
  have d0 : h1.2.2 42 17 = w0 := (k1.v rfl).trans ((show Rt h from rl.1).1.symm.trans ew0)
  refine ev_call (jcall_v (A := [(0, xs (6 * n + 2)), (0, xs (6 * n + 1))]) (S' := []) (r := 42) rfl (g1.lt ad42) (g1.tg ad42) (Nat.le_of_ble_eq_true rfl)) (jOk_le (by decide) (t263 g1 (by omega) (by omega) (by omega) (by omega) d0 lw0 uw0)) (by omega) (by omega) (fun w2 h2 q2 => ?_)
  obtain ⟨v2, rfl, g2, k2, b2, c2, f2, e2, t2⟩ := q2
  have z2 := k2.1
  have rr : Rl h2 := ⟨(show Rt h from rl.1).feed k1 k2 ew0 e1 e2 t1 t2, rl.2.fr ((k2.v rfl).trans (k1.v rfl)) (fun _ => (k2.v rfl).trans (k1.v rfl)) (fun _ => (k2.v rfl).trans (k1.v rfl))⟩
  show jEv _ _ _ _ _ _ _ (_, [(2, -2), (2, 0), (2, 42), (0, 6 * (n : Int))], [(0, v2)], _, _, _)
  refine ev_pop (by decide) ?_
  refine ev_goto f384_2179 ?_
  exact kk _ _ _ _ g2 (by omega) (by omega) (by omega) rr

set_option maxHeartbeats 4000000 in
theorem case_7 {xs : Nat → Int} (hr : ∀ j, -2147483648 ≤ xs j ∧ xs j < 2147483648) {L n : Nat} (hL : 6 * n + 6 ≤ L) (hn : n < 64) {G : GH} {h : JH} {cu su : Nat} (g : Gd G h) (hB : h.1 ≤ 83 + 13 * n) (hc : cu ≤ 83 + 13 * n) (hs : su ≤ 23761 + 1814 * n) (rl : Rl h) (kk : ∀ (G' : GH) (h' : JH) (cu' su' : Nat), Gd G' h' → h'.1 ≤ 83 + 13 * (n + 1) → cu' ≤ 83 + 13 * (n + 1) → su' ≤ 23761 + 1814 * (n + 1) → Rl h' → jEv (jOk 800) (some L) xs c384_0 600000 7302250 (fun v _ => v = some (0, 1)) (c384_2179, [(2, -2), (2, 0), (2, 42), (0, 6 * (n : Int))], [], h', cu', su')) : jEv (jOk 800) (some L) xs c384_0 600000 7302250 (fun v _ => v = some (0, 1)) (c384_481, [(2, -2), (2, 0), (2, 42), (0, 6 * (n : Int))], [], h, cu, su) := by
  refine ev_aload_n rfl ?_
  obtain ⟨w0, ew0, lw0, uw0⟩ := g.rd ad0 (show 3 < 17 by decide) rf0_3
  obtain ⟨w1, ew1, lw1, uw1⟩ := g.rd ad7 (show 0 < 15 by decide) rf7_0
  refine ev_call (jcall_v (A := []) (S' := []) (r := 0) rfl (g.lt ad0) (g.tg ad0) (Nat.le_of_ble_eq_true rfl)) (jOk_le (by decide) (t173 g  ew0 lw0 uw0 ew1 lw1 uw1 (by omega))) (by omega) (by omega) (fun w1 h1 q1 => ?_)
  obtain ⟨v1, rfl, b1, c1, ⟨G1, g1⟩, x1, z1, f1, e1, t1⟩ := q1
  show jEv _ _ _ _ _ _ _ (_, [(2, -2), (2, 0), (2, 42), (0, 6 * (n : Int))], [(0, v1)], _, _, _)
  refine ev_pop (by decide) ?_
  refine ev_aload_n rfl ?_
  have d0 : h1.2.2 42 9 = w0 := (x1.2.2 42 9 (g.lt ad42) rfl).trans ((show Rt h from rl.1).2.2.2.2.symm.trans ew0)
  have d1 : h1.2.2 42 17 = w1 := (x1.2.2 42 17 (g.lt ad42) rfl).trans ((show Rt h from rl.1).1.symm.trans ew1)
  refine ev_call (jcall_v (A := []) (S' := []) (r := 42) rfl (g1.lt ad42) (g1.tg ad42) (Nat.le_of_ble_eq_true rfl)) (jOk_le (by decide) (t274 g1  d0 lw0 uw0 d1 lw1 uw1)) (by omega) (by omega) (fun w2 h2 q2 => ?_)
  obtain ⟨v2, rfl, g2, k2, b2, c2, f2, e2, t2⟩ := q2
  have z2 := k2.1
  have tq := (show Rt h from rl.1).quarrel g.2.1.1 x1 k2 (fun c j z => (dsj_at (by decide) z).2) (fun c j z => (dsj_at (by decide) z).2) ew1 ew0 t1 t2 lw1 e1 e2
  rw [tq.1] at f1
  have rr : Rl h2 := ⟨tq.2, rl.2.fr ((k2.v rfl).trans (x1.2.2 1 0 (g.lt ad1) rfl)) (fun j => (k2.v rfl).trans (x1.2.2 3 j (g.lt ad3) rfl)) (fun j => (k2.v rfl).trans (x1.2.2 44 j (g.lt ad44) rfl))⟩
  show jEv _ _ _ _ _ _ _ (_, [(2, -2), (2, 0), (2, 42), (0, 6 * (n : Int))], [(0, v2)], _, _, _)
  refine ev_pop (by decide) ?_
  refine ev_goto f384_2179 ?_
  exact kk _ _ _ _ g2 (by omega) (by omega) (by omega) rr

set_option maxHeartbeats 4000000 in
theorem case_8 {xs : Nat → Int} (hr : ∀ j, -2147483648 ≤ xs j ∧ xs j < 2147483648) {L n : Nat} (hL : 6 * n + 6 ≤ L) (hn : n < 64) {G : GH} {h : JH} {cu su : Nat} (g : Gd G h) (hB : h.1 ≤ 83 + 13 * n) (hc : cu ≤ 83 + 13 * n) (hs : su ≤ 23761 + 1814 * n) (rl : Rl h) (kk : ∀ (G' : GH) (h' : JH) (cu' su' : Nat), Gd G' h' → h'.1 ≤ 83 + 13 * (n + 1) → cu' ≤ 83 + 13 * (n + 1) → su' ≤ 23761 + 1814 * (n + 1) → Rl h' → jEv (jOk 800) (some L) xs c384_0 600000 7302250 (fun v _ => v = some (0, 1)) (c384_2179, [(2, -2), (2, 0), (2, 42), (0, 6 * (n : Int))], [], h', cu', su')) : jEv (jOk 800) (some L) xs c384_0 600000 7302250 (fun v _ => v = some (0, 1)) (c384_494, [(2, -2), (2, 0), (2, 42), (0, 6 * (n : Int))], [], h, cu, su) := by
  have r1 := hr (6 * n + 1)
  have r2 := hr (6 * n + 2)
  have r3 := hr (6 * n + 3)
  refine ev_aload_n rfl ?_
  refine ev_aload_n rfl ?_
  refine ev_iload_n rfl ?_
  refine ev_iconst ?_
  refine ev_iadd (r := 6 * (n : Int) + 1) (by unfold w32; omega) ?_
  refine ev_sald (j := 6 * n + 1) (by omega) (by simp only [jxin, decide_eq_true_eq]; omega) rfl ?_
  refine ev_aload_n rfl ?_
  refine ev_iload_n rfl ?_
  refine ev_iconst ?_
  refine ev_iadd (r := 6 * (n : Int) + 2) (by unfold w32; omega) ?_
  refine ev_sald (j := 6 * n + 2) (by omega) (by simp only [jxin, decide_eq_true_eq]; omega) rfl ?_
  refine ev_aload_n rfl ?_
  refine ev_iload_n rfl ?_
  refine ev_iconst ?_
  refine ev_iadd (r := 6 * (n : Int) + 3) (by unfold w32; omega) ?_
  refine ev_sald (j := 6 * n + 3) (by omega) (by simp only [jxin, decide_eq_true_eq]; omega) rfl ?_
  refine ev_call (jcall_v (A := [(0, xs (6 * n + 3)), (0, xs (6 * n + 2)), (0, xs (6 * n + 1))]) (S' := []) (r := 0) rfl (g.lt ad0) (g.tg ad0) (Nat.le_of_ble_eq_true rfl)) (jOk_le (by decide) (s174 g (by omega) (by omega) (by omega) (by omega) (by omega) (by omega))) (by omega) (by omega) (fun w1 h1 q1 => ?_)
  obtain ⟨v1, rfl, b1, c1, g1, k1⟩ := q1
  have z1 := k1.1
  have rl1 := Rl.kp rl k1 (by decide)
  show jEv _ _ _ _ _ _ _ (_, [(2, -2), (2, 0), (2, 42), (0, 6 * (n : Int))], [(0, v1)], _, _, _)
  refine ev_pop (by decide) ?_
  refine ev_aload_n rfl ?_
  refine ev_aload_n rfl ?_
  refine ev_iload_n rfl ?_
  refine ev_iconst ?_
  refine ev_iadd (r := 6 * (n : Int) + 1) (by unfold w32; omega) ?_
  refine ev_sald (j := 6 * n + 1) (by omega) (by simp only [jxin, decide_eq_true_eq]; omega) rfl ?_
  refine ev_aload_n rfl ?_
  refine ev_iload_n rfl ?_
  refine ev_iconst ?_
  refine ev_iadd (r := 6 * (n : Int) + 2) (by unfold w32; omega) ?_
  refine ev_sald (j := 6 * n + 2) (by omega) (by simp only [jxin, decide_eq_true_eq]; omega) rfl ?_
  refine ev_aload_n rfl ?_
  refine ev_iload_n rfl ?_
  refine ev_iconst ?_
  refine ev_iadd (r := 6 * (n : Int) + 3) (by unfold w32; omega) ?_
  refine ev_sald (j := 6 * n + 3) (by omega) (by simp only [jxin, decide_eq_true_eq]; omega) rfl ?_
  refine ev_call (jcall_v (A := [(0, xs (6 * n + 3)), (0, xs (6 * n + 2)), (0, xs (6 * n + 1))]) (S' := []) (r := 42) rfl (g1.lt ad42) (g1.tg ad42) (Nat.le_of_ble_eq_true rfl)) (jOk_le (by decide) (s275 g1 (by omega) (by omega) (by omega) (by omega) (by omega) (by omega))) (by omega) (by omega) (fun w2 h2 q2 => ?_)
  obtain ⟨v2, rfl, b2, c2, g2, k2⟩ := q2
  have z2 := k2.1
  have rl2 := Rl.kp rl1 k2 (by decide)
  show jEv _ _ _ _ _ _ _ (_, [(2, -2), (2, 0), (2, 42), (0, 6 * (n : Int))], [(0, v2)], _, _, _)
  refine ev_pop (by decide) ?_
  refine ev_goto f384_2179 ?_
  exact kk _ _ _ _ g2 (by omega) (by omega) (by omega) rl2

set_option maxHeartbeats 4000000 in
theorem case_9 {xs : Nat → Int} (hr : ∀ j, -2147483648 ≤ xs j ∧ xs j < 2147483648) {L n : Nat} (hL : 6 * n + 6 ≤ L) (hn : n < 64) {G : GH} {h : JH} {cu su : Nat} (g : Gd G h) (hB : h.1 ≤ 83 + 13 * n) (hc : cu ≤ 83 + 13 * n) (hs : su ≤ 23761 + 1814 * n) (rl : Rl h) (kk : ∀ (G' : GH) (h' : JH) (cu' su' : Nat), Gd G' h' → h'.1 ≤ 83 + 13 * (n + 1) → cu' ≤ 83 + 13 * (n + 1) → su' ≤ 23761 + 1814 * (n + 1) → Rl h' → jEv (jOk 800) (some L) xs c384_0 600000 7302250 (fun v _ => v = some (0, 1)) (c384_2179, [(2, -2), (2, 0), (2, 42), (0, 6 * (n : Int))], [], h', cu', su')) : jEv (jOk 800) (some L) xs c384_0 600000 7302250 (fun v _ => v = some (0, 1)) (c384_537, [(2, -2), (2, 0), (2, 42), (0, 6 * (n : Int))], [], h, cu, su) := by
  have r1 := hr (6 * n + 1)
  have r2 := hr (6 * n + 2)
  have r3 := hr (6 * n + 3)
  have r4 := hr (6 * n + 4)
  refine ev_aload_n rfl ?_
  refine ev_aload_n rfl ?_
  refine ev_iload_n rfl ?_
  refine ev_iconst ?_
  refine ev_iadd (r := 6 * (n : Int) + 1) (by unfold w32; omega) ?_
  refine ev_sald (j := 6 * n + 1) (by omega) (by simp only [jxin, decide_eq_true_eq]; omega) rfl ?_
  refine ev_aload_n rfl ?_
  refine ev_iload_n rfl ?_
  refine ev_iconst ?_
  refine ev_iadd (r := 6 * (n : Int) + 2) (by unfold w32; omega) ?_
  refine ev_sald (j := 6 * n + 2) (by omega) (by simp only [jxin, decide_eq_true_eq]; omega) rfl ?_
  refine ev_aload_n rfl ?_
  refine ev_iload_n rfl ?_
  refine ev_iconst ?_
  refine ev_iadd (r := 6 * (n : Int) + 3) (by unfold w32; omega) ?_
  refine ev_sald (j := 6 * n + 3) (by omega) (by simp only [jxin, decide_eq_true_eq]; omega) rfl ?_
  refine ev_aload_n rfl ?_
  refine ev_iload_n rfl ?_
  refine ev_iconst ?_
  refine ev_iadd (r := 6 * (n : Int) + 4) (by unfold w32; omega) ?_
  refine ev_sald (j := 6 * n + 4) (by omega) (by simp only [jxin, decide_eq_true_eq]; omega) rfl ?_
  refine ev_call (jcall_v (A := [(0, xs (6 * n + 4)), (0, xs (6 * n + 3)), (0, xs (6 * n + 2)), (0, xs (6 * n + 1))]) (S' := []) (r := 0) rfl (g.lt ad0) (g.tg ad0) (Nat.le_of_ble_eq_true rfl)) (jOk_le (by decide) (s175 g (by omega) (by omega) (by omega) (by omega) (by omega) (by omega) (by omega) (by omega))) (by omega) (by omega) (fun w1 h1 q1 => ?_)
  obtain ⟨v1, rfl, b1, c1, g1, k1⟩ := q1
  have z1 := k1.1
  have rl1 := Rl.kp rl k1 (by decide)
  show jEv _ _ _ _ _ _ _ (_, [(2, -2), (2, 0), (2, 42), (0, 6 * (n : Int))], [(0, v1)], _, _, _)
  refine ev_pop (by decide) ?_
  refine ev_aload_n rfl ?_
  refine ev_aload_n rfl ?_
  refine ev_iload_n rfl ?_
  refine ev_iconst ?_
  refine ev_iadd (r := 6 * (n : Int) + 1) (by unfold w32; omega) ?_
  refine ev_sald (j := 6 * n + 1) (by omega) (by simp only [jxin, decide_eq_true_eq]; omega) rfl ?_
  refine ev_aload_n rfl ?_
  refine ev_iload_n rfl ?_
  refine ev_iconst ?_
  refine ev_iadd (r := 6 * (n : Int) + 2) (by unfold w32; omega) ?_
  refine ev_sald (j := 6 * n + 2) (by omega) (by simp only [jxin, decide_eq_true_eq]; omega) rfl ?_
  refine ev_aload_n rfl ?_
  refine ev_iload_n rfl ?_
  refine ev_iconst ?_
  refine ev_iadd (r := 6 * (n : Int) + 3) (by unfold w32; omega) ?_
  refine ev_sald (j := 6 * n + 3) (by omega) (by simp only [jxin, decide_eq_true_eq]; omega) rfl ?_
  refine ev_aload_n rfl ?_
  refine ev_iload_n rfl ?_
  refine ev_iconst ?_
  refine ev_iadd (r := 6 * (n : Int) + 4) (by unfold w32; omega) ?_
  refine ev_sald (j := 6 * n + 4) (by omega) (by simp only [jxin, decide_eq_true_eq]; omega) rfl ?_
  refine ev_call (jcall_v (A := [(0, xs (6 * n + 4)), (0, xs (6 * n + 3)), (0, xs (6 * n + 2)), (0, xs (6 * n + 1))]) (S' := []) (r := 42) rfl (g1.lt ad42) (g1.tg ad42) (Nat.le_of_ble_eq_true rfl)) (jOk_le (by decide) (s281 g1 (by omega) (by omega) (by omega) (by omega) (by omega) (by omega) (by omega) (by omega))) (by omega) (by omega) (fun w2 h2 q2 => ?_)
  obtain ⟨v2, rfl, b2, c2, g2, k2⟩ := q2
  have z2 := k2.1
  have rl2 := Rl.kp rl1 k2 (by decide)
  show jEv _ _ _ _ _ _ _ (_, [(2, -2), (2, 0), (2, 42), (0, 6 * (n : Int))], [(0, v2)], _, _, _)
  refine ev_pop (by decide) ?_
  refine ev_goto f384_2179 ?_
  exact kk _ _ _ _ g2 (by omega) (by omega) (by omega) rl2

set_option maxHeartbeats 4000000 in
theorem case_10 {xs : Nat → Int} (hr : ∀ j, -2147483648 ≤ xs j ∧ xs j < 2147483648) {L n : Nat} (hL : 6 * n + 6 ≤ L) (hn : n < 64) {G : GH} {h : JH} {cu su : Nat} (g : Gd G h) (hB : h.1 ≤ 83 + 13 * n) (hc : cu ≤ 83 + 13 * n) (hs : su ≤ 23761 + 1814 * n) (rl : Rl h) (kk : ∀ (G' : GH) (h' : JH) (cu' su' : Nat), Gd G' h' → h'.1 ≤ 83 + 13 * (n + 1) → cu' ≤ 83 + 13 * (n + 1) → su' ≤ 23761 + 1814 * (n + 1) → Rl h' → jEv (jOk 800) (some L) xs c384_0 600000 7302250 (fun v _ => v = some (0, 1)) (c384_2179, [(2, -2), (2, 0), (2, 42), (0, 6 * (n : Int))], [], h', cu', su')) : jEv (jOk 800) (some L) xs c384_0 600000 7302250 (fun v _ => v = some (0, 1)) (c384_590, [(2, -2), (2, 0), (2, 42), (0, 6 * (n : Int))], [], h, cu, su) := by
  refine ev_aload_n rfl ?_
  refine ev_call (jcall_v (A := []) (S' := []) (r := 0) rfl (g.lt ad0) (g.tg ad0) (Nat.le_of_ble_eq_true rfl)) (jOk_le (by decide) (s176 g )) (by omega) (by omega) (fun w1 h1 q1 => ?_)
  obtain ⟨v1, rfl, b1, c1, g1, k1⟩ := q1
  have z1 := k1.1
  have rl1 := Rl.kp rl k1 (by decide)
  show jEv _ _ _ _ _ _ _ (_, [(2, -2), (2, 0), (2, 42), (0, 6 * (n : Int))], [(0, v1)], _, _, _)
  refine ev_pop (by decide) ?_
  refine ev_aload_n rfl ?_
  refine ev_call (jcall_v (A := []) (S' := []) (r := 42) rfl (g1.lt ad42) (g1.tg ad42) (Nat.le_of_ble_eq_true rfl)) (jOk_le (by decide) (s282 g1 )) (by omega) (by omega) (fun w2 h2 q2 => ?_)
  obtain ⟨v2, rfl, b2, c2, g2, k2⟩ := q2
  have z2 := k2.1
  have rl2 := Rl.kp rl1 k2 (by decide)
  show jEv _ _ _ _ _ _ _ (_, [(2, -2), (2, 0), (2, 42), (0, 6 * (n : Int))], [(0, v2)], _, _, _)
  refine ev_pop (by decide) ?_
  refine ev_goto f384_2179 ?_
  exact kk _ _ _ _ g2 (by omega) (by omega) (by omega) rl2

set_option maxHeartbeats 4000000 in
theorem case_11 {xs : Nat → Int} (hr : ∀ j, -2147483648 ≤ xs j ∧ xs j < 2147483648) {L n : Nat} (hL : 6 * n + 6 ≤ L) (hn : n < 64) {G : GH} {h : JH} {cu su : Nat} (g : Gd G h) (hB : h.1 ≤ 83 + 13 * n) (hc : cu ≤ 83 + 13 * n) (hs : su ≤ 23761 + 1814 * n) (rl : Rl h) (kk : ∀ (G' : GH) (h' : JH) (cu' su' : Nat), Gd G' h' → h'.1 ≤ 83 + 13 * (n + 1) → cu' ≤ 83 + 13 * (n + 1) → su' ≤ 23761 + 1814 * (n + 1) → Rl h' → jEv (jOk 800) (some L) xs c384_0 600000 7302250 (fun v _ => v = some (0, 1)) (c384_2179, [(2, -2), (2, 0), (2, 42), (0, 6 * (n : Int))], [], h', cu', su')) : jEv (jOk 800) (some L) xs c384_0 600000 7302250 (fun v _ => v = some (0, 1)) (c384_603, [(2, -2), (2, 0), (2, 42), (0, 6 * (n : Int))], [], h, cu, su) := by
  refine ev_aload_n rfl ?_
  refine ev_call (jcall_v (A := []) (S' := []) (r := 0) rfl (g.lt ad0) (g.tg ad0) (Nat.le_of_ble_eq_true rfl)) (jOk_le (by decide) (s177 g )) (by omega) (by omega) (fun w1 h1 q1 => ?_)
  obtain ⟨v1, rfl, b1, c1, g1, k1⟩ := q1
  have z1 := k1.1
  have rl1 := Rl.kp rl k1 (by decide)
  show jEv _ _ _ _ _ _ _ (_, [(2, -2), (2, 0), (2, 42), (0, 6 * (n : Int))], [(0, v1)], _, _, _)
  refine ev_pop (by decide) ?_
  refine ev_aload_n rfl ?_
  refine ev_call (jcall_v (A := []) (S' := []) (r := 42) rfl (g1.lt ad42) (g1.tg ad42) (Nat.le_of_ble_eq_true rfl)) (jOk_le (by decide) (s283 g1 )) (by omega) (by omega) (fun w2 h2 q2 => ?_)
  obtain ⟨v2, rfl, b2, c2, g2, k2⟩ := q2
  have z2 := k2.1
  have rl2 := Rl.kp rl1 k2 (by decide)
  show jEv _ _ _ _ _ _ _ (_, [(2, -2), (2, 0), (2, 42), (0, 6 * (n : Int))], [(0, v2)], _, _, _)
  refine ev_pop (by decide) ?_
  refine ev_goto f384_2179 ?_
  exact kk _ _ _ _ g2 (by omega) (by omega) (by omega) rl2

set_option maxHeartbeats 4000000 in
theorem case_12 {xs : Nat → Int} (hr : ∀ j, -2147483648 ≤ xs j ∧ xs j < 2147483648) {L n : Nat} (hL : 6 * n + 6 ≤ L) (hn : n < 64) {G : GH} {h : JH} {cu su : Nat} (g : Gd G h) (hB : h.1 ≤ 83 + 13 * n) (hc : cu ≤ 83 + 13 * n) (hs : su ≤ 23761 + 1814 * n) (rl : Rl h) (kk : ∀ (G' : GH) (h' : JH) (cu' su' : Nat), Gd G' h' → h'.1 ≤ 83 + 13 * (n + 1) → cu' ≤ 83 + 13 * (n + 1) → su' ≤ 23761 + 1814 * (n + 1) → Rl h' → jEv (jOk 800) (some L) xs c384_0 600000 7302250 (fun v _ => v = some (0, 1)) (c384_2179, [(2, -2), (2, 0), (2, 42), (0, 6 * (n : Int))], [], h', cu', su')) : jEv (jOk 800) (some L) xs c384_0 600000 7302250 (fun v _ => v = some (0, 1)) (c384_616, [(2, -2), (2, 0), (2, 42), (0, 6 * (n : Int))], [], h, cu, su) := by
  have r1 := hr (6 * n + 1)
  have r2 := hr (6 * n + 2)
  refine ev_aload_n rfl ?_
  refine ev_aload_n rfl ?_
  refine ev_iload_n rfl ?_
  refine ev_iconst ?_
  refine ev_iadd (r := 6 * (n : Int) + 1) (by unfold w32; omega) ?_
  refine ev_sald (j := 6 * n + 1) (by omega) (by simp only [jxin, decide_eq_true_eq]; omega) rfl ?_
  refine ev_aload_n rfl ?_
  refine ev_iload_n rfl ?_
  refine ev_iconst ?_
  refine ev_iadd (r := 6 * (n : Int) + 2) (by unfold w32; omega) ?_
  refine ev_sald (j := 6 * n + 2) (by omega) (by simp only [jxin, decide_eq_true_eq]; omega) rfl ?_
  refine ev_call (jcall_v (A := [(0, xs (6 * n + 2)), (0, xs (6 * n + 1))]) (S' := []) (r := 0) rfl (g.lt ad0) (g.tg ad0) (Nat.le_of_ble_eq_true rfl)) (jOk_le (by decide) (s178 g (by omega) (by omega) (by omega) (by omega) (by omega))) (by omega) (by omega) (fun w1 h1 q1 => ?_)
  obtain ⟨v1, rfl, b1, c1, ⟨G1, g1⟩, x1, z1⟩ := q1
  have rl1 := Rl.kx rl x1 (by decide) g.2.1.1
  show jEv _ _ _ _ _ _ _ (_, [(2, -2), (2, 0), (2, 42), (0, 6 * (n : Int))], [(0, v1)], _, _, _)
  refine ev_pop (by decide) ?_
  refine ev_aload_n rfl ?_
  refine ev_aload_n rfl ?_
  refine ev_iload_n rfl ?_
  refine ev_iconst ?_
  refine ev_iadd (r := 6 * (n : Int) + 1) (by unfold w32; omega) ?_
  refine ev_sald (j := 6 * n + 1) (by omega) (by simp only [jxin, decide_eq_true_eq]; omega) rfl ?_
  refine ev_aload_n rfl ?_
  refine ev_iload_n rfl ?_
  refine ev_iconst ?_
  refine ev_iadd (r := 6 * (n : Int) + 2) (by unfold w32; omega) ?_
  refine ev_sald (j := 6 * n + 2) (by omega) (by simp only [jxin, decide_eq_true_eq]; omega) rfl ?_
  refine ev_call (jcall_v (A := [(0, xs (6 * n + 2)), (0, xs (6 * n + 1))]) (S' := []) (r := 42) rfl (g1.lt ad42) (g1.tg ad42) (Nat.le_of_ble_eq_true rfl)) (jOk_le (by decide) (s285 g1 (by omega) (by omega) (by omega) (by omega))) (by omega) (by omega) (fun w2 h2 q2 => ?_)
  obtain ⟨v2, rfl, b2, c2, g2, k2⟩ := q2
  have z2 := k2.1
  have rl2 := Rl.kp rl1 k2 (by decide)
  show jEv _ _ _ _ _ _ _ (_, [(2, -2), (2, 0), (2, 42), (0, 6 * (n : Int))], [(0, v2)], _, _, _)
  refine ev_pop (by decide) ?_
  refine ev_goto f384_2179 ?_
  exact kk _ _ _ _ g2 (by omega) (by omega) (by omega) rl2

set_option maxHeartbeats 4000000 in
theorem case_13 {xs : Nat → Int} (hr : ∀ j, -2147483648 ≤ xs j ∧ xs j < 2147483648) {L n : Nat} (hL : 6 * n + 6 ≤ L) (hn : n < 64) {G : GH} {h : JH} {cu su : Nat} (g : Gd G h) (hB : h.1 ≤ 83 + 13 * n) (hc : cu ≤ 83 + 13 * n) (hs : su ≤ 23761 + 1814 * n) (rl : Rl h) (kk : ∀ (G' : GH) (h' : JH) (cu' su' : Nat), Gd G' h' → h'.1 ≤ 83 + 13 * (n + 1) → cu' ≤ 83 + 13 * (n + 1) → su' ≤ 23761 + 1814 * (n + 1) → Rl h' → jEv (jOk 800) (some L) xs c384_0 600000 7302250 (fun v _ => v = some (0, 1)) (c384_2179, [(2, -2), (2, 0), (2, 42), (0, 6 * (n : Int))], [], h', cu', su')) : jEv (jOk 800) (some L) xs c384_0 600000 7302250 (fun v _ => v = some (0, 1)) (c384_649, [(2, -2), (2, 0), (2, 42), (0, 6 * (n : Int))], [], h, cu, su) := by
  have r1 := hr (6 * n + 1)
  have r2 := hr (6 * n + 2)
  refine ev_aload_n rfl ?_
  refine ev_aload_n rfl ?_
  refine ev_iload_n rfl ?_
  refine ev_iconst ?_
  refine ev_iadd (r := 6 * (n : Int) + 1) (by unfold w32; omega) ?_
  refine ev_sald (j := 6 * n + 1) (by omega) (by simp only [jxin, decide_eq_true_eq]; omega) rfl ?_
  refine ev_aload_n rfl ?_
  refine ev_iload_n rfl ?_
  refine ev_iconst ?_
  refine ev_iadd (r := 6 * (n : Int) + 2) (by unfold w32; omega) ?_
  refine ev_sald (j := 6 * n + 2) (by omega) (by simp only [jxin, decide_eq_true_eq]; omega) rfl ?_
  refine ev_call (jcall_v (A := [(0, xs (6 * n + 2)), (0, xs (6 * n + 1))]) (S' := []) (r := 0) rfl (g.lt ad0) (g.tg ad0) (Nat.le_of_ble_eq_true rfl)) (jOk_le (by decide) (s179 g (by omega) (by omega) (by omega) (by omega))) (by omega) (by omega) (fun w1 h1 q1 => ?_)
  obtain ⟨v1, rfl, b1, c1, g1, k1⟩ := q1
  have z1 := k1.1
  have rl1 := Rl.kp rl k1 (by decide)
  show jEv _ _ _ _ _ _ _ (_, [(2, -2), (2, 0), (2, 42), (0, 6 * (n : Int))], [(0, v1)], _, _, _)
  refine ev_pop (by decide) ?_
  refine ev_aload_n rfl ?_
  refine ev_aload_n rfl ?_
  refine ev_iload_n rfl ?_
  refine ev_iconst ?_
  refine ev_iadd (r := 6 * (n : Int) + 1) (by unfold w32; omega) ?_
  refine ev_sald (j := 6 * n + 1) (by omega) (by simp only [jxin, decide_eq_true_eq]; omega) rfl ?_
  refine ev_aload_n rfl ?_
  refine ev_iload_n rfl ?_
  refine ev_iconst ?_
  refine ev_iadd (r := 6 * (n : Int) + 2) (by unfold w32; omega) ?_
  refine ev_sald (j := 6 * n + 2) (by omega) (by simp only [jxin, decide_eq_true_eq]; omega) rfl ?_
  refine ev_call (jcall_v (A := [(0, xs (6 * n + 2)), (0, xs (6 * n + 1))]) (S' := []) (r := 42) rfl (g1.lt ad42) (g1.tg ad42) (Nat.le_of_ble_eq_true rfl)) (jOk_le (by decide) (s286 g1 (by omega) (by omega) (by omega) (by omega))) (by omega) (by omega) (fun w2 h2 q2 => ?_)
  obtain ⟨v2, rfl, b2, c2, g2, k2⟩ := q2
  have z2 := k2.1
  have rl2 := Rl.kp rl1 k2 (by decide)
  show jEv _ _ _ _ _ _ _ (_, [(2, -2), (2, 0), (2, 42), (0, 6 * (n : Int))], [(0, v2)], _, _, _)
  refine ev_pop (by decide) ?_
  refine ev_goto f384_2179 ?_
  exact kk _ _ _ _ g2 (by omega) (by omega) (by omega) rl2

set_option maxHeartbeats 4000000 in
theorem case_14 {xs : Nat → Int} (hr : ∀ j, -2147483648 ≤ xs j ∧ xs j < 2147483648) {L n : Nat} (hL : 6 * n + 6 ≤ L) (hn : n < 64) {G : GH} {h : JH} {cu su : Nat} (g : Gd G h) (hB : h.1 ≤ 83 + 13 * n) (hc : cu ≤ 83 + 13 * n) (hs : su ≤ 23761 + 1814 * n) (rl : Rl h) (kk : ∀ (G' : GH) (h' : JH) (cu' su' : Nat), Gd G' h' → h'.1 ≤ 83 + 13 * (n + 1) → cu' ≤ 83 + 13 * (n + 1) → su' ≤ 23761 + 1814 * (n + 1) → Rl h' → jEv (jOk 800) (some L) xs c384_0 600000 7302250 (fun v _ => v = some (0, 1)) (c384_2179, [(2, -2), (2, 0), (2, 42), (0, 6 * (n : Int))], [], h', cu', su')) : jEv (jOk 800) (some L) xs c384_0 600000 7302250 (fun v _ => v = some (0, 1)) (c384_682, [(2, -2), (2, 0), (2, 42), (0, 6 * (n : Int))], [], h, cu, su) := by
  have r1 := hr (6 * n + 1)
  have r2 := hr (6 * n + 2)
  refine ev_aload_n rfl ?_
  refine ev_aload_n rfl ?_
  refine ev_iload_n rfl ?_
  refine ev_iconst ?_
  refine ev_iadd (r := 6 * (n : Int) + 1) (by unfold w32; omega) ?_
  refine ev_sald (j := 6 * n + 1) (by omega) (by simp only [jxin, decide_eq_true_eq]; omega) rfl ?_
  refine ev_aload_n rfl ?_
  refine ev_iload_n rfl ?_
  refine ev_iconst ?_
  refine ev_iadd (r := 6 * (n : Int) + 2) (by unfold w32; omega) ?_
  refine ev_sald (j := 6 * n + 2) (by omega) (by simp only [jxin, decide_eq_true_eq]; omega) rfl ?_
  refine ev_call (jcall_v (A := [(0, xs (6 * n + 2)), (0, xs (6 * n + 1))]) (S' := []) (r := 0) rfl (g.lt ad0) (g.tg ad0) (Nat.le_of_ble_eq_true rfl)) (jOk_le (by decide) (s180 g (by omega) (by omega) (by omega) (by omega))) (by omega) (by omega) (fun w1 h1 q1 => ?_)
  obtain ⟨v1, rfl, b1, c1, g1, k1⟩ := q1
  have z1 := k1.1
  have rl1 := Rl.kp rl k1 (by decide)
  show jEv _ _ _ _ _ _ _ (_, [(2, -2), (2, 0), (2, 42), (0, 6 * (n : Int))], [(0, v1)], _, _, _)
  refine ev_pop (by decide) ?_
  refine ev_aload_n rfl ?_
  refine ev_aload_n rfl ?_
  refine ev_iload_n rfl ?_
  refine ev_iconst ?_
  refine ev_iadd (r := 6 * (n : Int) + 1) (by unfold w32; omega) ?_
  refine ev_sald (j := 6 * n + 1) (by omega) (by simp only [jxin, decide_eq_true_eq]; omega) rfl ?_
  refine ev_aload_n rfl ?_
  refine ev_iload_n rfl ?_
  refine ev_iconst ?_
  refine ev_iadd (r := 6 * (n : Int) + 2) (by unfold w32; omega) ?_
  refine ev_sald (j := 6 * n + 2) (by omega) (by simp only [jxin, decide_eq_true_eq]; omega) rfl ?_
  refine ev_call (jcall_v (A := [(0, xs (6 * n + 2)), (0, xs (6 * n + 1))]) (S' := []) (r := 42) rfl (g1.lt ad42) (g1.tg ad42) (Nat.le_of_ble_eq_true rfl)) (jOk_le (by decide) (s290 g1 (by omega) (by omega) (by omega) (by omega))) (by omega) (by omega) (fun w2 h2 q2 => ?_)
  obtain ⟨v2, rfl, b2, c2, g2, k2⟩ := q2
  have z2 := k2.1
  have rl2 := Rl.kp rl1 k2 (by decide)
  show jEv _ _ _ _ _ _ _ (_, [(2, -2), (2, 0), (2, 42), (0, 6 * (n : Int))], [(0, v2)], _, _, _)
  refine ev_pop (by decide) ?_
  refine ev_goto f384_2179 ?_
  exact kk _ _ _ _ g2 (by omega) (by omega) (by omega) rl2

set_option maxHeartbeats 4000000 in
theorem case_15 {xs : Nat → Int} (hr : ∀ j, -2147483648 ≤ xs j ∧ xs j < 2147483648) {L n : Nat} (hL : 6 * n + 6 ≤ L) (hn : n < 64) {G : GH} {h : JH} {cu su : Nat} (g : Gd G h) (hB : h.1 ≤ 83 + 13 * n) (hc : cu ≤ 83 + 13 * n) (hs : su ≤ 23761 + 1814 * n) (rl : Rl h) (kk : ∀ (G' : GH) (h' : JH) (cu' su' : Nat), Gd G' h' → h'.1 ≤ 83 + 13 * (n + 1) → cu' ≤ 83 + 13 * (n + 1) → su' ≤ 23761 + 1814 * (n + 1) → Rl h' → jEv (jOk 800) (some L) xs c384_0 600000 7302250 (fun v _ => v = some (0, 1)) (c384_2179, [(2, -2), (2, 0), (2, 42), (0, 6 * (n : Int))], [], h', cu', su')) : jEv (jOk 800) (some L) xs c384_0 600000 7302250 (fun v _ => v = some (0, 1)) (c384_715, [(2, -2), (2, 0), (2, 42), (0, 6 * (n : Int))], [], h, cu, su) := by
  have r1 := hr (6 * n + 1)
  have r2 := hr (6 * n + 2)
  have r3 := hr (6 * n + 3)
  refine ev_aload_n rfl ?_
  refine ev_aload_n rfl ?_
  refine ev_iload_n rfl ?_
  refine ev_iconst ?_
  refine ev_iadd (r := 6 * (n : Int) + 1) (by unfold w32; omega) ?_
  refine ev_sald (j := 6 * n + 1) (by omega) (by simp only [jxin, decide_eq_true_eq]; omega) rfl ?_
  refine ev_aload_n rfl ?_
  refine ev_iload_n rfl ?_
  refine ev_iconst ?_
  refine ev_iadd (r := 6 * (n : Int) + 2) (by unfold w32; omega) ?_
  refine ev_sald (j := 6 * n + 2) (by omega) (by simp only [jxin, decide_eq_true_eq]; omega) rfl ?_
  refine ev_aload_n rfl ?_
  refine ev_iload_n rfl ?_
  refine ev_iconst ?_
  refine ev_iadd (r := 6 * (n : Int) + 3) (by unfold w32; omega) ?_
  refine ev_sald (j := 6 * n + 3) (by omega) (by simp only [jxin, decide_eq_true_eq]; omega) rfl ?_
  refine ev_call (jcall_v (A := [(0, xs (6 * n + 3)), (0, xs (6 * n + 2)), (0, xs (6 * n + 1))]) (S' := []) (r := 0) rfl (g.lt ad0) (g.tg ad0) (Nat.le_of_ble_eq_true rfl)) (jOk_le (by decide) (s181 g (by omega) (by omega) (by omega) (by omega) (by omega) (by omega))) (by omega) (by omega) (fun w1 h1 q1 => ?_)
  obtain ⟨v1, rfl, b1, c1, g1, k1⟩ := q1
  have z1 := k1.1
  have rl1 := Rl.kp rl k1 (by decide)
  show jEv _ _ _ _ _ _ _ (_, [(2, -2), (2, 0), (2, 42), (0, 6 * (n : Int))], [(1, v1)], _, _, _)
  refine ev_pop2 ?_
  refine ev_aload_n rfl ?_
  refine ev_aload_n rfl ?_
  refine ev_iload_n rfl ?_
  refine ev_iconst ?_
  refine ev_iadd (r := 6 * (n : Int) + 1) (by unfold w32; omega) ?_
  refine ev_sald (j := 6 * n + 1) (by omega) (by simp only [jxin, decide_eq_true_eq]; omega) rfl ?_
  refine ev_aload_n rfl ?_
  refine ev_iload_n rfl ?_
  refine ev_iconst ?_
  refine ev_iadd (r := 6 * (n : Int) + 2) (by unfold w32; omega) ?_
  refine ev_sald (j := 6 * n + 2) (by omega) (by simp only [jxin, decide_eq_true_eq]; omega) rfl ?_
  refine ev_aload_n rfl ?_
  refine ev_iload_n rfl ?_
  refine ev_iconst ?_
  refine ev_iadd (r := 6 * (n : Int) + 3) (by unfold w32; omega) ?_
  refine ev_sald (j := 6 * n + 3) (by omega) (by simp only [jxin, decide_eq_true_eq]; omega) rfl ?_
  refine ev_call (jcall_v (A := [(0, xs (6 * n + 3)), (0, xs (6 * n + 2)), (0, xs (6 * n + 1))]) (S' := []) (r := 42) rfl (g1.lt ad42) (g1.tg ad42) (Nat.le_of_ble_eq_true rfl)) (jOk_le (by decide) (s301 g1 (by omega) (by omega) (by omega) (by omega) (by omega) (by omega))) (by omega) (by omega) (fun w2 h2 q2 => ?_)
  obtain ⟨v2, rfl, b2, c2, g2, k2⟩ := q2
  have z2 := k2.1
  have rl2 := Rl.kp rl1 k2 (by decide)
  show jEv _ _ _ _ _ _ _ (_, [(2, -2), (2, 0), (2, 42), (0, 6 * (n : Int))], [(1, v2)], _, _, _)
  refine ev_pop2 ?_
  refine ev_goto f384_2179 ?_
  exact kk _ _ _ _ g2 (by omega) (by omega) (by omega) rl2

set_option maxHeartbeats 4000000 in
theorem case_16 {xs : Nat → Int} (hr : ∀ j, -2147483648 ≤ xs j ∧ xs j < 2147483648) {L n : Nat} (hL : 6 * n + 6 ≤ L) (hn : n < 64) {G : GH} {h : JH} {cu su : Nat} (g : Gd G h) (hB : h.1 ≤ 83 + 13 * n) (hc : cu ≤ 83 + 13 * n) (hs : su ≤ 23761 + 1814 * n) (rl : Rl h) (kk : ∀ (G' : GH) (h' : JH) (cu' su' : Nat), Gd G' h' → h'.1 ≤ 83 + 13 * (n + 1) → cu' ≤ 83 + 13 * (n + 1) → su' ≤ 23761 + 1814 * (n + 1) → Rl h' → jEv (jOk 800) (some L) xs c384_0 600000 7302250 (fun v _ => v = some (0, 1)) (c384_2179, [(2, -2), (2, 0), (2, 42), (0, 6 * (n : Int))], [], h', cu', su')) : jEv (jOk 800) (some L) xs c384_0 600000 7302250 (fun v _ => v = some (0, 1)) (c384_758, [(2, -2), (2, 0), (2, 42), (0, 6 * (n : Int))], [], h, cu, su) := by
  have r1 := hr (6 * n + 1)
  have r2 := hr (6 * n + 2)
  have r3 := hr (6 * n + 3)
  refine ev_aload_n rfl ?_
  refine ev_aload_n rfl ?_
  refine ev_iload_n rfl ?_
  refine ev_iconst ?_
  refine ev_iadd (r := 6 * (n : Int) + 1) (by unfold w32; omega) ?_
  refine ev_sald (j := 6 * n + 1) (by omega) (by simp only [jxin, decide_eq_true_eq]; omega) rfl ?_
  refine ev_aload_n rfl ?_
  refine ev_iload_n rfl ?_
  refine ev_iconst ?_
  refine ev_iadd (r := 6 * (n : Int) + 2) (by unfold w32; omega) ?_
  refine ev_sald (j := 6 * n + 2) (by omega) (by simp only [jxin, decide_eq_true_eq]; omega) rfl ?_
  refine ev_aload_n rfl ?_
  refine ev_iload_n rfl ?_
  refine ev_iconst ?_
  refine ev_iadd (r := 6 * (n : Int) + 3) (by unfold w32; omega) ?_
  refine ev_sald (j := 6 * n + 3) (by omega) (by simp only [jxin, decide_eq_true_eq]; omega) rfl ?_
  refine ev_call (jcall_v (A := [(0, xs (6 * n + 3)), (0, xs (6 * n + 2)), (0, xs (6 * n + 1))]) (S' := []) (r := 0) rfl (g.lt ad0) (g.tg ad0) (Nat.le_of_ble_eq_true rfl)) (jOk_le (by decide) (s182 g (by omega) (by omega) (by omega) (by omega) (by omega) (by omega))) (by omega) (by omega) (fun w1 h1 q1 => ?_)
  obtain ⟨v1, rfl, b1, c1, g1, k1⟩ := q1
  have z1 := k1.1
  have rl1 := Rl.kp rl k1 (by decide)
  show jEv _ _ _ _ _ _ _ (_, [(2, -2), (2, 0), (2, 42), (0, 6 * (n : Int))], [(0, v1)], _, _, _)
  refine ev_pop (by decide) ?_
  refine ev_aload_n rfl ?_
  refine ev_aload_n rfl ?_
  refine ev_iload_n rfl ?_
  refine ev_iconst ?_
  refine ev_iadd (r := 6 * (n : Int) + 1) (by unfold w32; omega) ?_
  refine ev_sald (j := 6 * n + 1) (by omega) (by simp only [jxin, decide_eq_true_eq]; omega) rfl ?_
  refine ev_aload_n rfl ?_
  refine ev_iload_n rfl ?_
  refine ev_iconst ?_
  refine ev_iadd (r := 6 * (n : Int) + 2) (by unfold w32; omega) ?_
  refine ev_sald (j := 6 * n + 2) (by omega) (by simp only [jxin, decide_eq_true_eq]; omega) rfl ?_
  refine ev_aload_n rfl ?_
  refine ev_iload_n rfl ?_
  refine ev_iconst ?_
  refine ev_iadd (r := 6 * (n : Int) + 3) (by unfold w32; omega) ?_
  refine ev_sald (j := 6 * n + 3) (by omega) (by simp only [jxin, decide_eq_true_eq]; omega) rfl ?_
  refine ev_call (jcall_v (A := [(0, xs (6 * n + 3)), (0, xs (6 * n + 2)), (0, xs (6 * n + 1))]) (S' := []) (r := 42) rfl (g1.lt ad42) (g1.tg ad42) (Nat.le_of_ble_eq_true rfl)) (jOk_le (by decide) (s302 g1 (by omega) (by omega) (by omega) (by omega) (by omega) (by omega))) (by omega) (by omega) (fun w2 h2 q2 => ?_)
  obtain ⟨v2, rfl, b2, c2, g2, k2⟩ := q2
  have z2 := k2.1
  have rl2 := Rl.kp rl1 k2 (by decide)
  show jEv _ _ _ _ _ _ _ (_, [(2, -2), (2, 0), (2, 42), (0, 6 * (n : Int))], [(0, v2)], _, _, _)
  refine ev_pop (by decide) ?_
  refine ev_goto f384_2179 ?_
  exact kk _ _ _ _ g2 (by omega) (by omega) (by omega) rl2

set_option maxHeartbeats 4000000 in
theorem case_17 {xs : Nat → Int} (hr : ∀ j, -2147483648 ≤ xs j ∧ xs j < 2147483648) {L n : Nat} (hL : 6 * n + 6 ≤ L) (hn : n < 64) {G : GH} {h : JH} {cu su : Nat} (g : Gd G h) (hB : h.1 ≤ 83 + 13 * n) (hc : cu ≤ 83 + 13 * n) (hs : su ≤ 23761 + 1814 * n) (rl : Rl h) (kk : ∀ (G' : GH) (h' : JH) (cu' su' : Nat), Gd G' h' → h'.1 ≤ 83 + 13 * (n + 1) → cu' ≤ 83 + 13 * (n + 1) → su' ≤ 23761 + 1814 * (n + 1) → Rl h' → jEv (jOk 800) (some L) xs c384_0 600000 7302250 (fun v _ => v = some (0, 1)) (c384_2179, [(2, -2), (2, 0), (2, 42), (0, 6 * (n : Int))], [], h', cu', su')) : jEv (jOk 800) (some L) xs c384_0 600000 7302250 (fun v _ => v = some (0, 1)) (c384_801, [(2, -2), (2, 0), (2, 42), (0, 6 * (n : Int))], [], h, cu, su) := by
  have r1 := hr (6 * n + 1)
  have r2 := hr (6 * n + 2)
  have r3 := hr (6 * n + 3)
  refine ev_aload_n rfl ?_
  refine ev_aload_n rfl ?_
  refine ev_iload_n rfl ?_
  refine ev_iconst ?_
  refine ev_iadd (r := 6 * (n : Int) + 1) (by unfold w32; omega) ?_
  refine ev_sald (j := 6 * n + 1) (by omega) (by simp only [jxin, decide_eq_true_eq]; omega) rfl ?_
  refine ev_aload_n rfl ?_
  refine ev_iload_n rfl ?_
  refine ev_iconst ?_
  refine ev_iadd (r := 6 * (n : Int) + 2) (by unfold w32; omega) ?_
  refine ev_sald (j := 6 * n + 2) (by omega) (by simp only [jxin, decide_eq_true_eq]; omega) rfl ?_
  refine ev_aload_n rfl ?_
  refine ev_iload_n rfl ?_
  refine ev_iconst ?_
  refine ev_iadd (r := 6 * (n : Int) + 3) (by unfold w32; omega) ?_
  refine ev_sald (j := 6 * n + 3) (by omega) (by simp only [jxin, decide_eq_true_eq]; omega) rfl ?_
  refine ev_call (jcall_v (A := [(0, xs (6 * n + 3)), (0, xs (6 * n + 2)), (0, xs (6 * n + 1))]) (S' := []) (r := 0) rfl (g.lt ad0) (g.tg ad0) (Nat.le_of_ble_eq_true rfl)) (jOk_le (by decide) (s183 g (by omega) (by omega) (by omega) (by omega) (by omega) (by omega))) (by omega) (by omega) (fun w1 h1 q1 => ?_)
  obtain ⟨v1, rfl, b1, c1, g1, k1⟩ := q1
  have z1 := k1.1
  have rl1 := Rl.kp rl k1 (by decide)
  show jEv _ _ _ _ _ _ _ (_, [(2, -2), (2, 0), (2, 42), (0, 6 * (n : Int))], [(1, v1)], _, _, _)
  refine ev_pop2 ?_
  refine ev_aload_n rfl ?_
  refine ev_aload_n rfl ?_
  refine ev_iload_n rfl ?_
  refine ev_iconst ?_
  refine ev_iadd (r := 6 * (n : Int) + 1) (by unfold w32; omega) ?_
  refine ev_sald (j := 6 * n + 1) (by omega) (by simp only [jxin, decide_eq_true_eq]; omega) rfl ?_
  refine ev_aload_n rfl ?_
  refine ev_iload_n rfl ?_
  refine ev_iconst ?_
  refine ev_iadd (r := 6 * (n : Int) + 2) (by unfold w32; omega) ?_
  refine ev_sald (j := 6 * n + 2) (by omega) (by simp only [jxin, decide_eq_true_eq]; omega) rfl ?_
  refine ev_aload_n rfl ?_
  refine ev_iload_n rfl ?_
  refine ev_iconst ?_
  refine ev_iadd (r := 6 * (n : Int) + 3) (by unfold w32; omega) ?_
  refine ev_sald (j := 6 * n + 3) (by omega) (by simp only [jxin, decide_eq_true_eq]; omega) rfl ?_
  refine ev_call (jcall_v (A := [(0, xs (6 * n + 3)), (0, xs (6 * n + 2)), (0, xs (6 * n + 1))]) (S' := []) (r := 42) rfl (g1.lt ad42) (g1.tg ad42) (Nat.le_of_ble_eq_true rfl)) (jOk_le (by decide) (s303 g1 (by omega) (by omega) (by omega) (by omega) (by omega) (by omega))) (by omega) (by omega) (fun w2 h2 q2 => ?_)
  obtain ⟨v2, rfl, b2, c2, g2, k2⟩ := q2
  have z2 := k2.1
  have rl2 := Rl.kp rl1 k2 (by decide)
  show jEv _ _ _ _ _ _ _ (_, [(2, -2), (2, 0), (2, 42), (0, 6 * (n : Int))], [(1, v2)], _, _, _)
  refine ev_pop2 ?_
  refine ev_goto f384_2179 ?_
  exact kk _ _ _ _ g2 (by omega) (by omega) (by omega) rl2
