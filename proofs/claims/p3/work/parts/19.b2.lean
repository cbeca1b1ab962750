set_option maxHeartbeats 4000000 in
theorem case_36 {xs : Nat → Int} (hr : ∀ j, -2147483648 ≤ xs j ∧ xs j < 2147483648) {L n : Nat} (hL : 6 * n + 6 ≤ L) (hn : n < 64) {G : GH} {h : JH} {cu su : Nat} (g : Gd G h) (hB : h.1 ≤ 83 + 13 * n) (hc : cu ≤ 83 + 13 * n) (hs : su ≤ 23761 + 1814 * n) (rl : Rl h) (kk : ∀ (G' : GH) (h' : JH) (cu' su' : Nat), Gd G' h' → h'.1 ≤ 83 + 13 * (n + 1) → cu' ≤ 83 + 13 * (n + 1) → su' ≤ 23761 + 1814 * (n + 1) → Rl h' → jEv (jOk 800) (some L) xs c384_0 600000 7302250 (fun v _ => v = some (0, 1)) (c384_2179, [(2, -2), (2, 0), (2, 42), (0, 6 * (n : Int))], [], h', cu', su')) : jEv (jOk 800) (some L) xs c384_0 600000 7302250 (fun v _ => v = some (0, 1)) (c384_1518, [(2, -2), (2, 0), (2, 42), (0, 6 * (n : Int))], [], h, cu, su) := by
  have r1 := hr (6 * n + 1)
  have r2 := hr (6 * n + 2)
  refine ev_aload_n rfl ?_
  refine ev_aload_n rfl ?_
  refine ev_iload_n rfl ?_
  refine ev_iconst ?_
  refine ev_iadd (r := 6 * (n : Int) + 1) (by unfold w32; omega) ?_
  refine ev_sald (j := 6 * n + 1) (by omega) (by simp only [jxin, decide_eq_true_eq]; omega) rfl ?_
  refine ev_aload_n rfl ?_
  refine ev_iload_n rfl ?_
  refine ev_iconst ?_
  refine ev_iadd (r := 6 * (n : Int) + 2) (by unfold w32; omega) ?_
  refine ev_sald (j := 6 * n + 2) (by omega) (by simp only [jxin, decide_eq_true_eq]; omega) rfl ?_
  refine ev_call (jcall_v (A := [(0, xs (6 * n + 2)), (0, xs (6 * n + 1))]) (S' := []) (r := 0) rfl (g.lt ad0) (g.tg ad0) (Nat.le_of_ble_eq_true rfl)) (jOk_le (by decide) (s202 g (by omega) (by omega) (by omega) (by omega))) (by omega) (by omega) (fun w1 h1 q1 => ?_)
  obtain ⟨v1, rfl, b1, c1, g1, k1⟩ := q1
  have z1 := k1.1
  have rl1 := Rl.kp rl k1 (by decide)
  show jEv _ _ _ _ _ _ _ (_, [(2, -2), (2, 0), (2, 42), (0, 6 * (n : Int))], [(0, v1)], _, _, _)
  refine ev_pop (by decide) ?_
  refine ev_aload_n rfl ?_
  refine ev_aload_n rfl ?_
  refine ev_iload_n rfl ?_
  refine ev_iconst ?_
  refine ev_iadd (r := 6 * (n : Int) + 1) (by unfold w32; omega) ?_
  refine ev_sald (j := 6 * n + 1) (by omega) (by simp only [jxin, decide_eq_true_eq]; omega) rfl ?_
  refine ev_aload_n rfl ?_
  refine ev_iload_n rfl ?_
  refine ev_iconst ?_
  refine ev_iadd (r := 6 * (n : Int) + 2) (by unfold w32; omega) ?_
  refine ev_sald (j := 6 * n + 2) (by omega) (by simp only [jxin, decide_eq_true_eq]; omega) rfl ?_
  refine ev_call (jcall_v (A := [(0, xs (6 * n + 2)), (0, xs (6 * n + 1))]) (S' := []) (r := 42) rfl (g1.lt ad42) (g1.tg ad42) (Nat.le_of_ble_eq_true rfl)) (jOk_le (by decide) (s345 g1 (by omega) (by omega) (by omega) (by omega))) (by omega) (by omega) (fun w2 h2 q2 => ?_)
  obtain ⟨v2, rfl, b2, c2, g2, k2⟩ := q2
  have z2 := k2.1
  have rl2 := Rl.kp rl1 k2 (by decide)
  show jEv _ _ _ _ _ _ _ (_, [(2, -2), (2, 0), (2, 42), (0, 6 * (n : Int))], [(0, v2)], _, _, _)
  refine ev_pop (by decide) ?_
  refine ev_goto f384_2179 ?_
  exact kk _ _ _ _ g2 (by omega) (by omega) (by omega) rl2

set_option maxHeartbeats 4000000 in
theorem case_37 {xs : Nat → Int} (hr : ∀ j, -2147483648 ≤ xs j ∧ xs j < 2147483648) {L n : Nat} (hL : 6 * n + 6 ≤ L) (hn : n < 64) {G : GH} {h : JH} {cu su : Nat} (g : Gd G h) (hB : h.1 ≤ 83 + 13 * n) (hc : cu ≤ 83 + 13 * n) (hs : su ≤ 23761 + 1814 * n) (rl : Rl h) (kk : ∀ (G' : GH) (h' : JH) (cu' su' : Nat), Gd G' h' → h'.1 ≤ 83 + 13 * (n + 1) → cu' ≤ 83 + 13 * (n + 1) → su' ≤ 23761 + 1814 * (n + 1) → Rl h' → jEv (jOk 800) (some L) xs c384_0 600000 7302250 (fun v _ => v = some (0, 1)) (c384_2179, [(2, -2), (2, 0), (2, 42), (0, 6 * (n : Int))], [], h', cu', su')) : jEv (jOk 800) (some L) xs c384_0 600000 7302250 (fun v _ => v = some (0, 1)) (c384_1551, [(2, -2), (2, 0), (2, 42), (0, 6 * (n : Int))], [], h, cu, su) := by
  refine ev_aload_n rfl ?_
  refine ev_call (jcall_v (A := []) (S' := []) (r := 0) rfl (g.lt ad0) (g.tg ad0) (Nat.le_of_ble_eq_true rfl)) (jOk_le (by decide) (s203 g )) (by omega) (by omega) (fun w1 h1 q1 => ?_)
  obtain ⟨v1, rfl, b1, c1, g1, k1⟩ := q1
  have z1 := k1.1
  have rl1 := Rl.kp rl k1 (by decide)
  show jEv _ _ _ _ _ _ _ (_, [(2, -2), (2, 0), (2, 42), (0, 6 * (n : Int))], [(0, v1)], _, _, _)
  refine ev_pop (by decide) ?_
  refine ev_aload_n rfl ?_
  refine ev_call (jcall_v (A := []) (S' := []) (r := 42) rfl (g1.lt ad42) (g1.tg ad42) (Nat.le_of_ble_eq_true rfl)) (jOk_le (by decide) (s346 g1 )) (by omega) (by omega) (fun w2 h2 q2 => ?_)
  obtain ⟨v2, rfl, b2, c2, g2, k2⟩ := q2
  have z2 := k2.1
  have rl2 := Rl.kp rl1 k2 (by decide)
  show jEv _ _ _ _ _ _ _ (_, [(2, -2), (2, 0), (2, 42), (0, 6 * (n : Int))], [(0, v2)], _, _, _)
  refine ev_pop (by decide) ?_
  refine ev_goto f384_2179 ?_
  exact kk _ _ _ _ g2 (by omega) (by omega) (by omega) rl2

set_option maxHeartbeats 4000000 in
theorem case_38 {xs : Nat → Int} (hr : ∀ j, -2147483648 ≤ xs j ∧ xs j < 2147483648) {L n : Nat} (hL : 6 * n + 6 ≤ L) (hn : n < 64) {G : GH} {h : JH} {cu su : Nat} (g : Gd G h) (hB : h.1 ≤ 83 + 13 * n) (hc : cu ≤ 83 + 13 * n) (hs : su ≤ 23761 + 1814 * n) (rl : Rl h) (kk : ∀ (G' : GH) (h' : JH) (cu' su' : Nat), Gd G' h' → h'.1 ≤ 83 + 13 * (n + 1) → cu' ≤ 83 + 13 * (n + 1) → su' ≤ 23761 + 1814 * (n + 1) → Rl h' → jEv (jOk 800) (some L) xs c384_0 600000 7302250 (fun v _ => v = some (0, 1)) (c384_2179, [(2, -2), (2, 0), (2, 42), (0, 6 * (n : Int))], [], h', cu', su')) : jEv (jOk 800) (some L) xs c384_0 600000 7302250 (fun v _ => v = some (0, 1)) (c384_1564, [(2, -2), (2, 0), (2, 42), (0, 6 * (n : Int))], [], h, cu, su) := by
  have r1 := hr (6 * n + 1)
  have r2 := hr (6 * n + 2)
  refine ev_aload_n rfl ?_
  refine ev_aload_n rfl ?_
  refine ev_iload_n rfl ?_
  refine ev_iconst ?_
  refine ev_iadd (r := 6 * (n : Int) + 1) (by unfold w32; omega) ?_
  refine ev_sald (j := 6 * n + 1) (by omega) (by simp only [jxin, decide_eq_true_eq]; omega) rfl ?_
  refine ev_aload_n rfl ?_
  refine ev_iload_n rfl ?_
  refine ev_iconst ?_
  refine ev_iadd (r := 6 * (n : Int) + 2) (by unfold w32; omega) ?_
  refine ev_sald (j := 6 * n + 2) (by omega) (by simp only [jxin, decide_eq_true_eq]; omega) rfl ?_
  refine ev_call (jcall_v (A := [(0, xs (6 * n + 2)), (0, xs (6 * n + 1))]) (S' := []) (r := 0) rfl (g.lt ad0) (g.tg ad0) (Nat.le_of_ble_eq_true rfl)) (jOk_le (by decide) (s204 g (by omega) (by omega) (by omega) (by omega))) (by omega) (by omega) (fun w1 h1 q1 => ?_)
  obtain ⟨v1, rfl, b1, c1, g1, k1⟩ := q1
  have z1 := k1.1
  have rl1 := Rl.kp rl k1 (by decide)
  show jEv _ _ _ _ _ _ _ (_, [(2, -2), (2, 0), (2, 42), (0, 6 * (n : Int))], [(0, v1)], _, _, _)
  refine ev_pop (by decide) ?_
  refine ev_aload_n rfl ?_
  refine ev_aload_n rfl ?_
  refine ev_iload_n rfl ?_
  refine ev_iconst ?_
  refine ev_iadd (r := 6 * (n : Int) + 1) (by unfold w32; omega) ?_
  refine ev_sald (j := 6 * n + 1) (by omega) (by simp only [jxin, decide_eq_true_eq]; omega) rfl ?_
  refine ev_aload_n rfl ?_
  refine ev_iload_n rfl ?_
  refine ev_iconst ?_
  refine ev_iadd (r := 6 * (n : Int) + 2) (by unfold w32; omega) ?_
  refine ev_sald (j := 6 * n + 2) (by omega) (by simp only [jxin, decide_eq_true_eq]; omega) rfl ?_
  refine ev_call (jcall_v (A := [(0, xs (6 * n + 2)), (0, xs (6 * n + 1))]) (S' := []) (r := 42) rfl (g1.lt ad42) (g1.tg ad42) (Nat.le_of_ble_eq_true rfl)) (jOk_le (by decide) (s347 g1 (by omega) (by omega) (by omega) (by omega))) (by omega) (by omega) (fun w2 h2 q2 => ?_)
  obtain ⟨v2, rfl, b2, c2, g2, k2⟩ := q2
  have z2 := k2.1
  have rl2 := Rl.kp rl1 k2 (by decide)
  show jEv _ _ _ _ _ _ _ (_, [(2, -2), (2, 0), (2, 42), (0, 6 * (n : Int))], [(0, v2)], _, _, _)
  refine ev_pop (by decide) ?_
  refine ev_goto f384_2179 ?_
  exact kk _ _ _ _ g2 (by omega) (by omega) (by omega) rl2

set_option maxHeartbeats 4000000 in
theorem case_39 {xs : Nat → Int} (hr : ∀ j, -2147483648 ≤ xs j ∧ xs j < 2147483648) {L n : Nat} (hL : 6 * n + 6 ≤ L) (hn : n < 64) {G : GH} {h : JH} {cu su : Nat} (g : Gd G h) (hB : h.1 ≤ 83 + 13 * n) (hc : cu ≤ 83 + 13 * n) (hs : su ≤ 23761 + 1814 * n) (rl : Rl h) (kk : ∀ (G' : GH) (h' : JH) (cu' su' : Nat), Gd G' h' → h'.1 ≤ 83 + 13 * (n + 1) → cu' ≤ 83 + 13 * (n + 1) → su' ≤ 23761 + 1814 * (n + 1) → Rl h' → jEv (jOk 800) (some L) xs c384_0 600000 7302250 (fun v _ => v = some (0, 1)) (c384_2179, [(2, -2), (2, 0), (2, 42), (0, 6 * (n : Int))], [], h', cu', su')) : jEv (jOk 800) (some L) xs c384_0 600000 7302250 (fun v _ => v = some (0, 1)) (c384_1597, [(2, -2), (2, 0), (2, 42), (0, 6 * (n : Int))], [], h, cu, su) := by
  have r1 := hr (6 * n + 1)
  have r2 := hr (6 * n + 2)
  refine ev_aload_n rfl ?_
  refine ev_aload_n rfl ?_
  refine ev_iload_n rfl ?_
  refine ev_iconst ?_
  refine ev_iadd (r := 6 * (n : Int) + 1) (by unfold w32; omega) ?_
  refine ev_sald (j := 6 * n + 1) (by omega) (by simp only [jxin, decide_eq_true_eq]; omega) rfl ?_
  refine ev_aload_n rfl ?_
  refine ev_iload_n rfl ?_
  refine ev_iconst ?_
  refine ev_iadd (r := 6 * (n : Int) + 2) (by unfold w32; omega) ?_
  refine ev_sald (j := 6 * n + 2) (by omega) (by simp only [jxin, decide_eq_true_eq]; omega) rfl ?_
  refine ev_call (jcall_v (A := [(0, xs (6 * n + 2)), (0, xs (6 * n + 1))]) (S' := []) (r := 0) rfl (g.lt ad0) (g.tg ad0) (Nat.le_of_ble_eq_true rfl)) (jOk_le (by decide) (s205 g (by omega) (by omega) (by omega) (by omega))) (by omega) (by omega) (fun w1 h1 q1 => ?_)
  obtain ⟨v1, rfl, b1, c1, g1, k1⟩ := q1
  have z1 := k1.1
  have rl1 := Rl.kp rl k1 (by decide)
  show jEv _ _ _ _ _ _ _ (_, [(2, -2), (2, 0), (2, 42), (0, 6 * (n : Int))], [(0, v1)], _, _, _)
  refine ev_pop (by decide) ?_
  refine ev_aload_n rfl ?_
  refine ev_aload_n rfl ?_
  refine ev_iload_n rfl ?_
  refine ev_iconst ?_
  refine ev_iadd (r := 6 * (n : Int) + 1) (by unfold w32; omega) ?_
  refine ev_sald (j := 6 * n + 1) (by omega) (by simp only [jxin, decide_eq_true_eq]; omega) rfl ?_
  refine ev_aload_n rfl ?_
  refine ev_iload_n rfl ?_
  refine ev_iconst ?_
  refine ev_iadd (r := 6 * (n : Int) + 2) (by unfold w32; omega) ?_
  refine ev_sald (j := 6 * n + 2) (by omega) (by simp only [jxin, decide_eq_true_eq]; omega) rfl ?_
  refine ev_call (jcall_v (A := [(0, xs (6 * n + 2)), (0, xs (6 * n + 1))]) (S' := []) (r := 42) rfl (g1.lt ad42) (g1.tg ad42) (Nat.le_of_ble_eq_true rfl)) (jOk_le (by decide) (s349 g1 (by omega) (by omega) (by omega) (by omega))) (by omega) (by omega) (fun w2 h2 q2 => ?_)
  obtain ⟨v2, rfl, b2, c2, g2, k2⟩ := q2
  have z2 := k2.1
  have rl2 := Rl.kp rl1 k2 (by decide)
  show jEv _ _ _ _ _ _ _ (_, [(2, -2), (2, 0), (2, 42), (0, 6 * (n : Int))], [(0, v2)], _, _, _)
  refine ev_pop (by decide) ?_
  refine ev_goto f384_2179 ?_
  exact kk _ _ _ _ g2 (by omega) (by omega) (by omega) rl2

set_option maxHeartbeats 4000000 in
theorem case_40 {xs : Nat → Int} (hr : ∀ j, -2147483648 ≤ xs j ∧ xs j < 2147483648) {L n : Nat} (hL : 6 * n + 6 ≤ L) (hn : n < 64) {G : GH} {h : JH} {cu su : Nat} (g : Gd G h) (hB : h.1 ≤ 83 + 13 * n) (hc : cu ≤ 83 + 13 * n) (hs : su ≤ 23761 + 1814 * n) (rl : Rl h) (kk : ∀ (G' : GH) (h' : JH) (cu' su' : Nat), Gd G' h' → h'.1 ≤ 83 + 13 * (n + 1) → cu' ≤ 83 + 13 * (n + 1) → su' ≤ 23761 + 1814 * (n + 1) → Rl h' → jEv (jOk 800) (some L) xs c384_0 600000 7302250 (fun v _ => v = some (0, 1)) (c384_2179, [(2, -2), (2, 0), (2, 42), (0, 6 * (n : Int))], [], h', cu', su')) : jEv (jOk 800) (some L) xs c384_0 600000 7302250 (fun v _ => v = some (0, 1)) (c384_1630, [(2, -2), (2, 0), (2, 42), (0, 6 * (n : Int))], [], h, cu, su) := by
  have r1 := hr (6 * n + 1)
  have r2 := hr (6 * n + 2)
  have r3 := hr (6 * n + 3)
  have r4 := hr (6 * n + 4)
  refine ev_aload_n rfl ?_
  refine ev_aload_n rfl ?_
  refine ev_iload_n rfl ?_
  refine ev_iconst ?_
  refine ev_iadd (r := 6 * (n : Int) + 1) (by unfold w32; omega) ?_
  refine ev_sald (j := 6 * n + 1) (by omega) (by simp only [jxin, decide_eq_true_eq]; omega) rfl ?_
  refine ev_aload_n rfl ?_
  refine ev_iload_n rfl ?_
  refine ev_iconst ?_
  refine ev_iadd (r := 6 * (n : Int) + 2) (by unfold w32; omega) ?_
  refine ev_sald (j := 6 * n + 2) (by omega) (by simp only [jxin, decide_eq_true_eq]; omega) rfl ?_
  refine ev_aload_n rfl ?_
  refine ev_iload_n rfl ?_
  refine ev_iconst ?_
  refine ev_iadd (r := 6 * (n : Int) + 3) (by unfold w32; omega) ?_
  refine ev_sald (j := 6 * n + 3) (by omega) (by simp only [jxin, decide_eq_true_eq]; omega) rfl ?_
  refine ev_aload_n rfl ?_
  refine ev_iload_n rfl ?_
  refine ev_iconst ?_
  refine ev_iadd (r := 6 * (n : Int) + 4) (by unfold w32; omega) ?_
  refine ev_sald (j := 6 * n + 4) (by omega) (by simp only [jxin, decide_eq_true_eq]; omega) rfl ?_
  refine ev_call (jcall_v (A := [(0, xs (6 * n + 4)), (0, xs (6 * n + 3)), (0, xs (6 * n + 2)), (0, xs (6 * n + 1))]) (S' := []) (r := 0) rfl (g.lt ad0) (g.tg ad0) (Nat.le_of_ble_eq_true rfl)) (jOk_le (by decide) (s206 g (by omega) (by omega) (by omega) (by omega) (by omega) (by omega) (by omega) (by omega))) (by omega) (by omega) (fun w1 h1 q1 => ?_)
  obtain ⟨v1, rfl, b1, c1, g1, k1⟩ := q1
  have z1 := k1.1
  have rl1 := Rl.kp rl k1 (by decide)
  show jEv _ _ _ _ _ _ _ (_, [(2, -2), (2, 0), (2, 42), (0, 6 * (n : Int))], [(0, v1)], _, _, _)
  refine ev_pop (by decide) ?_
  refine ev_aload_n rfl ?_
  refine ev_aload_n rfl ?_
  refine ev_iload_n rfl ?_
  refine ev_iconst ?_
  refine ev_iadd (r := 6 * (n : Int) + 1) (by unfold w32; omega) ?_
  refine ev_sald (j := 6 * n + 1) (by omega) (by simp only [jxin, decide_eq_true_eq]; omega) rfl ?_
  refine ev_aload_n rfl ?_
  refine ev_iload_n rfl ?_
  refine ev_iconst ?_
  refine ev_iadd (r := 6 * (n : Int) + 2) (by unfold w32; omega) ?_
  refine ev_sald (j := 6 * n + 2) (by omega) (by simp only [jxin, decide_eq_true_eq]; omega) rfl ?_
  refine ev_aload_n rfl ?_
  refine ev_iload_n rfl ?_
  refine ev_iconst ?_
  refine ev_iadd (r := 6 * (n : Int) + 3) (by unfold w32; omega) ?_
  refine ev_sald (j := 6 * n + 3) (by omega) (by simp only [jxin, decide_eq_true_eq]; omega) rfl ?_
  refine ev_aload_n rfl ?_
  refine ev_iload_n rfl ?_
  refine ev_iconst ?_
  refine ev_iadd (r := 6 * (n : Int) + 4) (by unfold w32; omega) ?_
  refine ev_sald (j := 6 * n + 4) (by omega) (by simp only [jxin, decide_eq_true_eq]; omega) rfl ?_
  refine ev_call (jcall_v (A := [(0, xs (6 * n + 4)), (0, xs (6 * n + 3)), (0, xs (6 * n + 2)), (0, xs (6 * n + 1))]) (S' := []) (r := 42) rfl (g1.lt ad42) (g1.tg ad42) (Nat.le_of_ble_eq_true rfl)) (jOk_le (by decide) (s351 g1 (by omega) (by omega) (by omega) (by omega) (by omega) (by omega) (by omega) (by omega))) (by omega) (by omega) (fun w2 h2 q2 => ?_)
  obtain ⟨v2, rfl, b2, c2, g2, k2⟩ := q2
  have z2 := k2.1
  have rl2 := Rl.kp rl1 k2 (by decide)
  show jEv _ _ _ _ _ _ _ (_, [(2, -2), (2, 0), (2, 42), (0, 6 * (n : Int))], [(0, v2)], _, _, _)
  refine ev_pop (by decide) ?_
  refine ev_goto f384_2179 ?_
  exact kk _ _ _ _ g2 (by omega) (by omega) (by omega) rl2

set_option maxHeartbeats 4000000 in
theorem case_41 {xs : Nat → Int} (hr : ∀ j, -2147483648 ≤ xs j ∧ xs j < 2147483648) {L n : Nat} (hL : 6 * n + 6 ≤ L) (hn : n < 64) {G : GH} {h : JH} {cu su : Nat} (g : Gd G h) (hB : h.1 ≤ 83 + 13 * n) (hc : cu ≤ 83 + 13 * n) (hs : su ≤ 23761 + 1814 * n) (rl : Rl h) (kk : ∀ (G' : GH) (h' : JH) (cu' su' : Nat), Gd G' h' → h'.1 ≤ 83 + 13 * (n + 1) → cu' ≤ 83 + 13 * (n + 1) → su' ≤ 23761 + 1814 * (n + 1) → Rl h' → jEv (jOk 800) (some L) xs c384_0 600000 7302250 (fun v _ => v = some (0, 1)) (c384_2179, [(2, -2), (2, 0), (2, 42), (0, 6 * (n : Int))], [], h', cu', su')) : jEv (jOk 800) (some L) xs c384_0 600000 7302250 (fun v _ => v = some (0, 1)) (c384_1683, [(2, -2), (2, 0), (2, 42), (0, 6 * (n : Int))], [], h, cu, su) := by
  have r1 := hr (6 * n + 1)
  have r2 := hr (6 * n + 2)
  have r3 := hr (6 * n + 3)
  refine ev_aload_n rfl ?_
  refine ev_aload_n rfl ?_
  refine ev_iload_n rfl ?_
  refine ev_iconst ?_
  refine ev_iadd (r := 6 * (n : Int) + 1) (by unfold w32; omega) ?_
  refine ev_sald (j := 6 * n + 1) (by omega) (by simp only [jxin, decide_eq_true_eq]; omega) rfl ?_
  refine ev_aload_n rfl ?_
  refine ev_iload_n rfl ?_
  refine ev_iconst ?_
  refine ev_iadd (r := 6 * (n : Int) + 2) (by unfold w32; omega) ?_
  refine ev_sald (j := 6 * n + 2) (by omega) (by simp only [jxin, decide_eq_true_eq]; omega) rfl ?_
  refine ev_aload_n rfl ?_
  refine ev_iload_n rfl ?_
  refine ev_iconst ?_
  refine ev_iadd (r := 6 * (n : Int) + 3) (by unfold w32; omega) ?_
  refine ev_sald (j := 6 * n + 3) (by omega) (by simp only [jxin, decide_eq_true_eq]; omega) rfl ?_
  refine ev_call (jcall_v (A := [(0, xs (6 * n + 3)), (0, xs (6 * n + 2)), (0, xs (6 * n + 1))]) (S' := []) (r := 0) rfl (g.lt ad0) (g.tg ad0) (Nat.le_of_ble_eq_true rfl)) (jOk_le (by decide) (s207 g (by omega) (by omega) (by omega) (by omega) (by omega) (by omega))) (by omega) (by omega) (fun w1 h1 q1 => ?_)
  obtain ⟨v1, rfl, b1, c1, g1, k1⟩ := q1
  have z1 := k1.1
  have rl1 := Rl.kp rl k1 (by decide)
  show jEv _ _ _ _ _ _ _ (_, [(2, -2), (2, 0), (2, 42), (0, 6 * (n : Int))], [(0, v1)], _, _, _)
  refine ev_pop (by decide) ?_
  refine ev_aload_n rfl ?_
  refine ev_aload_n rfl ?_
  refine ev_iload_n rfl ?_
  refine ev_iconst ?_
  refine ev_iadd (r := 6 * (n : Int) + 1) (by unfold w32; omega) ?_
  refine ev_sald (j := 6 * n + 1) (by omega) (by simp only [jxin, decide_eq_true_eq]; omega) rfl ?_
  refine ev_aload_n rfl ?_
  refine ev_iload_n rfl ?_
  refine ev_iconst ?_
  refine ev_iadd (r := 6 * (n : Int) + 2) (by unfold w32; omega) ?_
  refine ev_sald (j := 6 * n + 2) (by omega) (by simp only [jxin, decide_eq_true_eq]; omega) rfl ?_
  refine ev_aload_n rfl ?_
  refine ev_iload_n rfl ?_
  refine ev_iconst ?_
  refine ev_iadd (r := 6 * (n : Int) + 3) (by unfold w32; omega) ?_
  refine ev_sald (j := 6 * n + 3) (by omega) (by simp only [jxin, decide_eq_true_eq]; omega) rfl ?_
  refine ev_call (jcall_v (A := [(0, xs (6 * n + 3)), (0, xs (6 * n + 2)), (0, xs (6 * n + 1))]) (S' := []) (r := 42) rfl (g1.lt ad42) (g1.tg ad42) (Nat.le_of_ble_eq_true rfl)) (jOk_le (by decide) (s352 g1 (by omega) (by omega) (by omega) (by omega) (by omega) (by omega))) (by omega) (by omega) (fun w2 h2 q2 => ?_)
  obtain ⟨v2, rfl, b2, c2, g2, k2⟩ := q2
  have z2 := k2.1
  have rl2 := Rl.kp rl1 k2 (by decide)
  show jEv _ _ _ _ _ _ _ (_, [(2, -2), (2, 0), (2, 42), (0, 6 * (n : Int))], [(0, v2)], _, _, _)
  refine ev_pop (by decide) ?_
  refine ev_goto f384_2179 ?_
  exact kk _ _ _ _ g2 (by omega) (by omega) (by omega) rl2

set_option maxHeartbeats 4000000 in
theorem case_42 {xs : Nat → Int} (hr : ∀ j, -2147483648 ≤ xs j ∧ xs j < 2147483648) {L n : Nat} (hL : 6 * n + 6 ≤ L) (hn : n < 64) {G : GH} {h : JH} {cu su : Nat} (g : Gd G h) (hB : h.1 ≤ 83 + 13 * n) (hc : cu ≤ 83 + 13 * n) (hs : su ≤ 23761 + 1814 * n) (rl : Rl h) (kk : ∀ (G' : GH) (h' : JH) (cu' su' : Nat), Gd G' h' → h'.1 ≤ 83 + 13 * (n + 1) → cu' ≤ 83 + 13 * (n + 1) → su' ≤ 23761 + 1814 * (n + 1) → Rl h' → jEv (jOk 800) (some L) xs c384_0 600000 7302250 (fun v _ => v = some (0, 1)) (c384_2179, [(2, -2), (2, 0), (2, 42), (0, 6 * (n : Int))], [], h', cu', su')) : jEv (jOk 800) (some L) xs c384_0 600000 7302250 (fun v _ => v = some (0, 1)) (c384_1726, [(2, -2), (2, 0), (2, 42), (0, 6 * (n : Int))], [], h, cu, su) := by
  have r1 := hr (6 * n + 1)
  have r2 := hr (6 * n + 2)
  have r3 := hr (6 * n + 3)
  refine ev_aload_n rfl ?_
  refine ev_aload_n rfl ?_
  refine ev_iload_n rfl ?_
  refine ev_iconst ?_
  refine ev_iadd (r := 6 * (n : Int) + 1) (by unfold w32; omega) ?_
  refine ev_sald (j := 6 * n + 1) (by omega) (by simp only [jxin, decide_eq_true_eq]; omega) rfl ?_
  refine ev_aload_n rfl ?_
  refine ev_iload_n rfl ?_
  refine ev_iconst ?_
  refine ev_iadd (r := 6 * (n : Int) + 2) (by unfold w32; omega) ?_
  refine ev_sald (j := 6 * n + 2) (by omega) (by simp only [jxin, decide_eq_true_eq]; omega) rfl ?_
  refine ev_aload_n rfl ?_
  refine ev_iload_n rfl ?_
  refine ev_iconst ?_
  refine ev_iadd (r := 6 * (n : Int) + 3) (by unfold w32; omega) ?_
  refine ev_sald (j := 6 * n + 3) (by omega) (by simp only [jxin, decide_eq_true_eq]; omega) rfl ?_
  refine ev_call (jcall_v (A := [(0, xs (6 * n + 3)), (0, xs (6 * n + 2)), (0, xs (6 * n + 1))]) (S' := []) (r := 0) rfl (g.lt ad0) (g.tg ad0) (Nat.le_of_ble_eq_true rfl)) (jOk_le (by decide) (s208 g (by omega) (by omega) (by omega) (by omega) (by omega) (by omega))) (by omega) (by omega) (fun w1 h1 q1 => ?_)
  obtain ⟨v1, rfl, b1, c1, g1, k1⟩ := q1
  have z1 := k1.1
  have rl1 := Rl.kp rl k1 (by decide)
  show jEv _ _ _ _ _ _ _ (_, [(2, -2), (2, 0), (2, 42), (0, 6 * (n : Int))], [(1, v1)], _, _, _)
  refine ev_pop2 ?_
  refine ev_aload_n rfl ?_
  refine ev_aload_n rfl ?_
  refine ev_iload_n rfl ?_
  refine ev_iconst ?_
  refine ev_iadd (r := 6 * (n : Int) + 1) (by unfold w32; omega) ?_
  refine ev_sald (j := 6 * n + 1) (by omega) (by simp only [jxin, decide_eq_true_eq]; omega) rfl ?_
  refine ev_aload_n rfl ?_
  refine ev_iload_n rfl ?_
  refine ev_iconst ?_
  refine ev_iadd (r := 6 * (n : Int) + 2) (by unfold w32; omega) ?_
  refine ev_sald (j := 6 * n + 2) (by omega) (by simp only [jxin, decide_eq_true_eq]; omega) rfl ?_
  refine ev_aload_n rfl ?_
  refine ev_iload_n rfl ?_
  refine ev_iconst ?_
  refine ev_iadd (r := 6 * (n : Int) + 3) (by unfold w32; omega) ?_
  refine ev_sald (j := 6 * n + 3) (by omega) (by simp only [jxin, decide_eq_true_eq]; omega) rfl ?_
  refine ev_call (jcall_v (A := [(0, xs (6 * n + 3)), (0, xs (6 * n + 2)), (0, xs (6 * n + 1))]) (S' := []) (r := 42) rfl (g1.lt ad42) (g1.tg ad42) (Nat.le_of_ble_eq_true rfl)) (jOk_le (by decide) (s353 g1 (by omega) (by omega) (by omega) (by omega) (by omega) (by omega))) (by omega) (by omega) (fun w2 h2 q2 => ?_)
  obtain ⟨v2, rfl, b2, c2, g2, k2⟩ := q2
  have z2 := k2.1
  have rl2 := Rl.kp rl1 k2 (by decide)
  show jEv _ _ _ _ _ _ _ (_, [(2, -2), (2, 0), (2, 42), (0, 6 * (n : Int))], [(1, v2)], _, _, _)
  refine ev_pop2 ?_
  refine ev_goto f384_2179 ?_
  exact kk _ _ _ _ g2 (by omega) (by omega) (by omega) rl2

set_option maxHeartbeats 4000000 in
theorem case_43 {xs : Nat → Int} (hr : ∀ j, -2147483648 ≤ xs j ∧ xs j < 2147483648) {L n : Nat} (hL : 6 * n + 6 ≤ L) (hn : n < 64) {G : GH} {h : JH} {cu su : Nat} (g : Gd G h) (hB : h.1 ≤ 83 + 13 * n) (hc : cu ≤ 83 + 13 * n) (hs : su ≤ 23761 + 1814 * n) (rl : Rl h) (kk : ∀ (G' : GH) (h' : JH) (cu' su' : Nat), Gd G' h' → h'.1 ≤ 83 + 13 * (n + 1) → cu' ≤ 83 + 13 * (n + 1) → su' ≤ 23761 + 1814 * (n + 1) → Rl h' → jEv (jOk 800) (some L) xs c384_0 600000 7302250 (fun v _ => v = some (0, 1)) (c384_2179, [(2, -2), (2, 0), (2, 42), (0, 6 * (n : Int))], [], h', cu', su')) : jEv (jOk 800) (some L) xs c384_0 600000 7302250 (fun v _ => v = some (0, 1)) (c384_1769, [(2, -2), (2, 0), (2, 42), (0, 6 * (n : Int))], [], h, cu, su) := by
  have r1 := hr (6 * n + 1)
  have r2 := hr (6 * n + 2)
  have r3 := hr (6 * n + 3)
  refine ev_aload_n rfl ?_
  refine ev_aload_n rfl ?_
  refine ev_iload_n rfl ?_
  refine ev_iconst ?_
  refine ev_iadd (r := 6 * (n : Int) + 1) (by unfold w32; omega) ?_
  refine ev_sald (j := 6 * n + 1) (by omega) (by simp only [jxin, decide_eq_true_eq]; omega) rfl ?_
  refine ev_aload_n rfl ?_
  refine ev_iload_n rfl ?_
  refine ev_iconst ?_
  refine ev_iadd (r := 6 * (n : Int) + 2) (by unfold w32; omega) ?_
  refine ev_sald (j := 6 * n + 2) (by omega) (by simp only [jxin, decide_eq_true_eq]; omega) rfl ?_
  refine ev_aload_n rfl ?_
  refine ev_iload_n rfl ?_
  refine ev_iconst ?_
  refine ev_iadd (r := 6 * (n : Int) + 3) (by unfold w32; omega) ?_
  refine ev_sald (j := 6 * n + 3) (by omega) (by simp only [jxin, decide_eq_true_eq]; omega) rfl ?_
  refine ev_call (jcall_v (A := [(0, xs (6 * n + 3)), (0, xs (6 * n + 2)), (0, xs (6 * n + 1))]) (S' := []) (r := 0) rfl (g.lt ad0) (g.tg ad0) (Nat.le_of_ble_eq_true rfl)) (jOk_le (by decide) (s209 g (by omega) (by omega) (by omega) (by omega) (by omega) (by omega))) (by omega) (by omega) (fun w1 h1 q1 => ?_)
  obtain ⟨v1, rfl, b1, c1, g1, k1⟩ := q1
  have z1 := k1.1
  have rl1 := Rl.kp rl k1 (by decide)
  show jEv _ _ _ _ _ _ _ (_, [(2, -2), (2, 0), (2, 42), (0, 6 * (n : Int))], [(0, v1)], _, _, _)
  refine ev_pop (by decide) ?_
  refine ev_aload_n rfl ?_
  refine ev_aload_n rfl ?_
  refine ev_iload_n rfl ?_
  refine ev_iconst ?_
  refine ev_iadd (r := 6 * (n : Int) + 1) (by unfold w32; omega) ?_
  refine ev_sald (j := 6 * n + 1) (by omega) (by simp only [jxin, decide_eq_true_eq]; omega) rfl ?_
  refine ev_aload_n rfl ?_
  refine ev_iload_n rfl ?_
  refine ev_iconst ?_
  refine ev_iadd (r := 6 * (n : Int) + 2) (by unfold w32; omega) ?_
  refine ev_sald (j := 6 * n + 2) (by omega) (by simp only [jxin, decide_eq_true_eq]; omega) rfl ?_
  refine ev_aload_n rfl ?_
  refine ev_iload_n rfl ?_
  refine ev_iconst ?_
  refine ev_iadd (r := 6 * (n : Int) + 3) (by unfold w32; omega) ?_
  refine ev_sald (j := 6 * n + 3) (by omega) (by simp only [jxin, decide_eq_true_eq]; omega) rfl ?_
  refine ev_call (jcall_v (A := [(0, xs (6 * n + 3)), (0, xs (6 * n + 2)), (0, xs (6 * n + 1))]) (S' := []) (r := 42) rfl (g1.lt ad42) (g1.tg ad42) (Nat.le_of_ble_eq_true rfl)) (jOk_le (by decide) (s354 g1 (by omega) (by omega) (by omega) (by omega) (by omega) (by omega))) (by omega) (by omega) (fun w2 h2 q2 => ?_)
  obtain ⟨v2, rfl, b2, c2, g2, k2⟩ := q2
  have z2 := k2.1
  have rl2 := Rl.kp rl1 k2 (by decide)
  show jEv _ _ _ _ _ _ _ (_, [(2, -2), (2, 0), (2, 42), (0, 6 * (n : Int))], [(0, v2)], _, _, _)
  refine ev_pop (by decide) ?_
  refine ev_goto f384_2179 ?_
  exact kk _ _ _ _ g2 (by omega) (by omega) (by omega) rl2

set_option maxHeartbeats 4000000 in
theorem case_44 {xs : Nat → Int} (hr : ∀ j, -2147483648 ≤ xs j ∧ xs j < 2147483648) {L n : Nat} (hL : 6 * n + 6 ≤ L) (hn : n < 64) {G : GH} {h : JH} {cu su : Nat} (g : Gd G h) (hB : h.1 ≤ 83 + 13 * n) (hc : cu ≤ 83 + 13 * n) (hs : su ≤ 23761 + 1814 * n) (rl : Rl h) (kk : ∀ (G' : GH) (h' : JH) (cu' su' : Nat), Gd G' h' → h'.1 ≤ 83 + 13 * (n + 1) → cu' ≤ 83 + 13 * (n + 1) → su' ≤ 23761 + 1814 * (n + 1) → Rl h' → jEv (jOk 800) (some L) xs c384_0 600000 7302250 (fun v _ => v = some (0, 1)) (c384_2179, [(2, -2), (2, 0), (2, 42), (0, 6 * (n : Int))], [], h', cu', su')) : jEv (jOk 800) (some L) xs c384_0 600000 7302250 (fun v _ => v = some (0, 1)) (c384_1812, [(2, -2), (2, 0), (2, 42), (0, 6 * (n : Int))], [], h, cu, su) := by
  have r1 := hr (6 * n + 1)
  have r2 := hr (6 * n + 2)
  have r3 := hr (6 * n + 3)
  refine ev_aload_n rfl ?_
  refine ev_aload_n rfl ?_
  refine ev_iload_n rfl ?_
  refine ev_iconst ?_
  refine ev_iadd (r := 6 * (n : Int) + 1) (by unfold w32; omega) ?_
  refine ev_sald (j := 6 * n + 1) (by omega) (by simp only [jxin, decide_eq_true_eq]; omega) rfl ?_
  refine ev_aload_n rfl ?_
  refine ev_iload_n rfl ?_
  refine ev_iconst ?_
  refine ev_iadd (r := 6 * (n : Int) + 2) (by unfold w32; omega) ?_
  refine ev_sald (j := 6 * n + 2) (by omega) (by simp only [jxin, decide_eq_true_eq]; omega) rfl ?_
  refine ev_aload_n rfl ?_
  refine ev_iload_n rfl ?_
  refine ev_iconst ?_
  refine ev_iadd (r := 6 * (n : Int) + 3) (by unfold w32; omega) ?_
  refine ev_sald (j := 6 * n + 3) (by omega) (by simp only [jxin, decide_eq_true_eq]; omega) rfl ?_
  refine ev_call (jcall_v (A := [(0, xs (6 * n + 3)), (0, xs (6 * n + 2)), (0, xs (6 * n + 1))]) (S' := []) (r := 0) rfl (g.lt ad0) (g.tg ad0) (Nat.le_of_ble_eq_true rfl)) (jOk_le (by decide) (s210 g (by omega) (by omega) (by omega) (by omega) (by omega) (by omega))) (by omega) (by omega) (fun w1 h1 q1 => ?_)
  obtain ⟨v1, rfl, b1, c1, g1, k1⟩ := q1
  have z1 := k1.1
  have rl1 := Rl.kp rl k1 (by decide)
  show jEv _ _ _ _ _ _ _ (_, [(2, -2), (2, 0), (2, 42), (0, 6 * (n : Int))], [(0, v1)], _, _, _)
  refine ev_pop (by decide) ?_
  refine ev_aload_n rfl ?_
  refine ev_aload_n rfl ?_
  refine ev_iload_n rfl ?_
  refine ev_iconst ?_
  refine ev_iadd (r := 6 * (n : Int) + 1) (by unfold w32; omega) ?_
  refine ev_sald (j := 6 * n + 1) (by omega) (by simp only [jxin, decide_eq_true_eq]; omega) rfl ?_
  refine ev_aload_n rfl ?_
  refine ev_iload_n rfl ?_
  refine ev_iconst ?_
  refine ev_iadd (r := 6 * (n : Int) + 2) (by unfold w32; omega) ?_
  refine ev_sald (j := 6 * n + 2) (by omega) (by simp only [jxin, decide_eq_true_eq]; omega) rfl ?_
  refine ev_aload_n rfl ?_
  refine ev_iload_n rfl ?_
  refine ev_iconst ?_
  refine ev_iadd (r := 6 * (n : Int) + 3) (by unfold w32; omega) ?_
  refine ev_sald (j := 6 * n + 3) (by omega) (by simp only [jxin, decide_eq_true_eq]; omega) rfl ?_
  refine ev_call (jcall_v (A := [(0, xs (6 * n + 3)), (0, xs (6 * n + 2)), (0, xs (6 * n + 1))]) (S' := []) (r := 42) rfl (g1.lt ad42) (g1.tg ad42) (Nat.le_of_ble_eq_true rfl)) (jOk_le (by decide) (s367 g1 (by omega) (by omega) (by omega) (by omega) (by omega) (by omega))) (by omega) (by omega) (fun w2 h2 q2 => ?_)
  obtain ⟨v2, rfl, b2, c2, g2, k2⟩ := q2
  have z2 := k2.1
  have rl2 := Rl.kp rl1 k2 (by decide)
  show jEv _ _ _ _ _ _ _ (_, [(2, -2), (2, 0), (2, 42), (0, 6 * (n : Int))], [(0, v2)], _, _, _)
  refine ev_pop (by decide) ?_
  refine ev_goto f384_2179 ?_
  exact kk _ _ _ _ g2 (by omega) (by omega) (by omega) rl2

set_option maxHeartbeats 4000000 in
theorem case_45 {xs : Nat → Int} (hr : ∀ j, -2147483648 ≤ xs j ∧ xs j < 2147483648) {L n : Nat} (hL : 6 * n + 6 ≤ L) (hn : n < 64) {G : GH} {h : JH} {cu su : Nat} (g : Gd G h) (hB : h.1 ≤ 83 + 13 * n) (hc : cu ≤ 83 + 13 * n) (hs : su ≤ 23761 + 1814 * n) (rl : Rl h) (kk : ∀ (G' : GH) (h' : JH) (cu' su' : Nat), Gd G' h' → h'.1 ≤ 83 + 13 * (n + 1) → cu' ≤ 83 + 13 * (n + 1) → su' ≤ 23761 + 1814 * (n + 1) → Rl h' → jEv (jOk 800) (some L) xs c384_0 600000 7302250 (fun v _ => v = some (0, 1)) (c384_2179, [(2, -2), (2, 0), (2, 42), (0, 6 * (n : Int))], [], h', cu', su')) : jEv (jOk 800) (some L) xs c384_0 600000 7302250 (fun v _ => v = some (0, 1)) (c384_1855, [(2, -2), (2, 0), (2, 42), (0, 6 * (n : Int))], [], h, cu, su) := by
  have r1 := hr (6 * n + 1)
  refine ev_aload_n rfl ?_
  refine ev_aload_n rfl ?_
  refine ev_iload_n rfl ?_
  refine ev_iconst ?_
  refine ev_iadd (r := 6 * (n : Int) + 1) (by unfold w32; omega) ?_
  refine ev_sald (j := 6 * n + 1) (by omega) (by simp only [jxin, decide_eq_true_eq]; omega) rfl ?_
  refine ev_call (jcall_v (A := [(0, xs (6 * n + 1))]) (S' := []) (r := 0) rfl (g.lt ad0) (g.tg ad0) (Nat.le_of_ble_eq_true rfl)) (jOk_le (by decide) (s211 g (by omega) (by omega))) (by omega) (by omega) (fun w1 h1 q1 => ?_)
  obtain ⟨v1, rfl, b1, c1, g1, k1⟩ := q1
  have z1 := k1.1
  have rl1 := Rl.kp rl k1 (by decide)
  show jEv _ _ _ _ _ _ _ (_, [(2, -2), (2, 0), (2, 42), (0, 6 * (n : Int))], [(0, v1)], _, _, _)
  refine ev_pop (by decide) ?_
  refine ev_aload_n rfl ?_
  refine ev_aload_n rfl ?_
  refine ev_iload_n rfl ?_
  refine ev_iconst ?_
  refine ev_iadd (r := 6 * (n : Int) + 1) (by unfold w32; omega) ?_
  refine ev_sald (j := 6 * n + 1) (by omega) (by simp only [jxin, decide_eq_true_eq]; omega) rfl ?_
  refine ev_call (jcall_v (A := [(0, xs (6 * n + 1))]) (S' := []) (r := 42) rfl (g1.lt ad42) (g1.tg ad42) (Nat.le_of_ble_eq_true rfl)) (jOk_le (by decide) (s368 g1 (by omega) (by omega))) (by omega) (by omega) (fun w2 h2 q2 => ?_)
  obtain ⟨v2, rfl, b2, c2, g2, k2⟩ := q2
  have z2 := k2.1
  have rl2 := Rl.kp rl1 k2 (by decide)
  show jEv _ _ _ _ _ _ _ (_, [(2, -2), (2, 0), (2, 42), (0, 6 * (n : Int))], [(0, v2)], _, _, _)
  refine ev_pop (by decide) ?_
  refine ev_goto f384_2179 ?_
  exact kk _ _ _ _ g2 (by omega) (by omega) (by omega) rl2

set_option maxHeartbeats 4000000 in
theorem case_46 {xs : Nat → Int} (hr : ∀ j, -2147483648 ≤ xs j ∧ xs j < 2147483648) {L n : Nat} (hL : 6 * n + 6 ≤ L) (hn : n < 64) {G : GH} {h : JH} {cu su : Nat} (g : Gd G h) (hB : h.1 ≤ 83 + 13 * n) (hc : cu ≤ 83 + 13 * n) (hs : su ≤ 23761 + 1814 * n) (rl : Rl h) (kk : ∀ (G' : GH) (h' : JH) (cu' su' : Nat), Gd G' h' → h'.1 ≤ 83 + 13 * (n + 1) → cu' ≤ 83 + 13 * (n + 1) → su' ≤ 23761 + 1814 * (n + 1) → Rl h' → jEv (jOk 800) (some L) xs c384_0 600000 7302250 (fun v _ => v = some (0, 1)) (c384_2179, [(2, -2), (2, 0), (2, 42), (0, 6 * (n : Int))], [], h', cu', su')) : jEv (jOk 800) (some L) xs c384_0 600000 7302250 (fun v _ => v = some (0, 1)) (c384_1878, [(2, -2), (2, 0), (2, 42), (0, 6 * (n : Int))], [], h, cu, su) := by
  have r1 := hr (6 * n + 1)
  have r2 := hr (6 * n + 2)
  refine ev_aload_n rfl ?_
  refine ev_aload_n rfl ?_
  refine ev_iload_n rfl ?_
  refine ev_iconst ?_
  refine ev_iadd (r := 6 * (n : Int) + 1) (by unfold w32; omega) ?_
  refine ev_sald (j := 6 * n + 1) (by omega) (by simp only [jxin, decide_eq_true_eq]; omega) rfl ?_
  refine ev_aload_n rfl ?_
  refine ev_iload_n rfl ?_
  refine ev_iconst ?_
  refine ev_iadd (r := 6 * (n : Int) + 2) (by unfold w32; omega) ?_
  refine ev_sald (j := 6 * n + 2) (by omega) (by simp only [jxin, decide_eq_true_eq]; omega) rfl ?_
  refine ev_call (jcall_v (A := [(0, xs (6 * n + 2)), (0, xs (6 * n + 1))]) (S' := []) (r := 0) rfl (g.lt ad0) (g.tg ad0) (Nat.le_of_ble_eq_true rfl)) (jOk_le (by decide) (s212 g (by omega) (by omega) (by omega) (by omega))) (by omega) (by omega) (fun w1 h1 q1 => ?_)
  obtain ⟨v1, rfl, b1, c1, g1, k1⟩ := q1
  have z1 := k1.1
  have rl1 := Rl.kp rl k1 (by decide)
  show jEv _ _ _ _ _ _ _ (_, [(2, -2), (2, 0), (2, 42), (0, 6 * (n : Int))], [(0, v1)], _, _, _)
  refine ev_pop (by decide) ?_
  refine ev_aload_n rfl ?_
  refine ev_aload_n rfl ?_
  refine ev_iload_n rfl ?_
  refine ev_iconst ?_
  refine ev_iadd (r := 6 * (n : Int) + 1) (by unfold w32; omega) ?_
  refine ev_sald (j := 6 * n + 1) (by omega) (by simp only [jxin, decide_eq_true_eq]; omega) rfl ?_
  refine ev_aload_n rfl ?_
  refine ev_iload_n rfl ?_
  refine ev_iconst ?_
  refine ev_iadd (r := 6 * (n : Int) + 2) (by unfold w32; omega) ?_
  refine ev_sald (j := 6 * n + 2) (by omega) (by simp only [jxin, decide_eq_true_eq]; omega) rfl ?_
  refine ev_call (jcall_v (A := [(0, xs (6 * n + 2)), (0, xs (6 * n + 1))]) (S' := []) (r := 42) rfl (g1.lt ad42) (g1.tg ad42) (Nat.le_of_ble_eq_true rfl)) (jOk_le (by decide) (s371 g1 (by omega) (by omega) (by omega) (by omega))) (by omega) (by omega) (fun w2 h2 q2 => ?_)
  obtain ⟨v2, rfl, b2, c2, g2, k2⟩ := q2
  have z2 := k2.1
  have rl2 := Rl.kp rl1 k2 (by decide)
  show jEv _ _ _ _ _ _ _ (_, [(2, -2), (2, 0), (2, 42), (0, 6 * (n : Int))], [(0, v2)], _, _, _)
  refine ev_pop (by decide) ?_
  refine ev_goto f384_2179 ?_
  exact kk _ _ _ _ g2 (by omega) (by omega) (by omega) rl2

set_option maxHeartbeats 4000000 in
theorem case_47 {xs : Nat → Int} (hr : ∀ j, -2147483648 ≤ xs j ∧ xs j < 2147483648) {L n : Nat} (hL : 6 * n + 6 ≤ L) (hn : n < 64) {G : GH} {h : JH} {cu su : Nat} (g : Gd G h) (hB : h.1 ≤ 83 + 13 * n) (hc : cu ≤ 83 + 13 * n) (hs : su ≤ 23761 + 1814 * n) (rl : Rl h) (kk : ∀ (G' : GH) (h' : JH) (cu' su' : Nat), Gd G' h' → h'.1 ≤ 83 + 13 * (n + 1) → cu' ≤ 83 + 13 * (n + 1) → su' ≤ 23761 + 1814 * (n + 1) → Rl h' → jEv (jOk 800) (some L) xs c384_0 600000 7302250 (fun v _ => v = some (0, 1)) (c384_2179, [(2, -2), (2, 0), (2, 42), (0, 6 * (n : Int))], [], h', cu', su')) : jEv (jOk 800) (some L) xs c384_0 600000 7302250 (fun v _ => v = some (0, 1)) (c384_1911, [(2, -2), (2, 0), (2, 42), (0, 6 * (n : Int))], [], h, cu, su) := by
  have r1 := hr (6 * n + 1)
  have r2 := hr (6 * n + 2)
  have r3 := hr (6 * n + 3)
  refine ev_aload_n rfl ?_
  refine ev_aload_n rfl ?_
  refine ev_iload_n rfl ?_
  refine ev_iconst ?_
  refine ev_iadd (r := 6 * (n : Int) + 1) (by unfold w32; omega) ?_
  refine ev_sald (j := 6 * n + 1) (by omega) (by simp only [jxin, decide_eq_true_eq]; omega) rfl ?_
  refine ev_aload_n rfl ?_
  refine ev_iload_n rfl ?_
  refine ev_iconst ?_
  refine ev_iadd (r := 6 * (n : Int) + 2) (by unfold w32; omega) ?_
  refine ev_sald (j := 6 * n + 2) (by omega) (by simp only [jxin, decide_eq_true_eq]; omega) rfl ?_
  refine ev_aload_n rfl ?_
  refine ev_iload_n rfl ?_
  refine ev_iconst ?_
  refine ev_iadd (r := 6 * (n : Int) + 3) (by unfold w32; omega) ?_
  refine ev_sald (j := 6 * n + 3) (by omega) (by simp only [jxin, decide_eq_true_eq]; omega) rfl ?_
  refine ev_call (jcall_v (A := [(0, xs (6 * n + 3)), (0, xs (6 * n + 2)), (0, xs (6 * n + 1))]) (S' := []) (r := 0) rfl (g.lt ad0) (g.tg ad0) (Nat.le_of_ble_eq_true rfl)) (jOk_le (by decide) (s213 g (by omega) (by omega) (by omega) (by omega) (by omega) (by omega))) (by omega) (by omega) (fun w1 h1 q1 => ?_)
  obtain ⟨v1, rfl, b1, c1, g1, k1⟩ := q1
  have z1 := k1.1
  have rl1 := Rl.kp rl k1 (by decide)
  show jEv _ _ _ _ _ _ _ (_, [(2, -2), (2, 0), (2, 42), (0, 6 * (n : Int))], [(0, v1)], _, _, _)
  refine ev_pop (by decide) ?_
  refine ev_aload_n rfl ?_
  refine ev_aload_n rfl ?_
  refine ev_iload_n rfl ?_
  refine ev_iconst ?_
  refine ev_iadd (r := 6 * (n : Int) + 1) (by unfold w32; omega) ?_
  refine ev_sald (j := 6 * n + 1) (by omega) (by simp only [jxin, decide_eq_true_eq]; omega) rfl ?_
  refine ev_aload_n rfl ?_
  refine ev_iload_n rfl ?_
  refine ev_iconst ?_
  refine ev_iadd (r := 6 * (n : Int) + 2) (by unfold w32; omega) ?_
  refine ev_sald (j := 6 * n + 2) (by omega) (by simp only [jxin, decide_eq_true_eq]; omega) rfl ?_
  refine ev_aload_n rfl ?_
  refine ev_iload_n rfl ?_
  refine ev_iconst ?_
  refine ev_iadd (r := 6 * (n : Int) + 3) (by unfold w32; omega) ?_
  refine ev_sald (j := 6 * n + 3) (by omega) (by simp only [jxin, decide_eq_true_eq]; omega) rfl ?_
  refine ev_call (jcall_v (A := [(0, xs (6 * n + 3)), (0, xs (6 * n + 2)), (0, xs (6 * n + 1))]) (S' := []) (r := 42) rfl (g1.lt ad42) (g1.tg ad42) (Nat.le_of_ble_eq_true rfl)) (jOk_le (by decide) (s372 g1 (by omega) (by omega) (by omega) (by omega) (by omega) (by omega))) (by omega) (by omega) (fun w2 h2 q2 => ?_)
  obtain ⟨v2, rfl, b2, c2, g2, k2⟩ := q2
  have z2 := k2.1
  have rl2 := Rl.kp rl1 k2 (by decide)
  show jEv _ _ _ _ _ _ _ (_, [(2, -2), (2, 0), (2, 42), (0, 6 * (n : Int))], [(0, v2)], _, _, _)
  refine ev_pop (by decide) ?_
  refine ev_goto f384_2179 ?_
  exact kk _ _ _ _ g2 (by omega) (by omega) (by omega) rl2

set_option maxHeartbeats 4000000 in
theorem case_48 {xs : Nat → Int} (hr : ∀ j, -2147483648 ≤ xs j ∧ xs j < 2147483648) {L n : Nat} (hL : 6 * n + 6 ≤ L) (hn : n < 64) {G : GH} {h : JH} {cu su : Nat} (g : Gd G h) (hB : h.1 ≤ 83 + 13 * n) (hc : cu ≤ 83 + 13 * n) (hs : su ≤ 23761 + 1814 * n) (rl : Rl h) (kk : ∀ (G' : GH) (h' : JH) (cu' su' : Nat), Gd G' h' → h'.1 ≤ 83 + 13 * (n + 1) → cu' ≤ 83 + 13 * (n + 1) → su' ≤ 23761 + 1814 * (n + 1) → Rl h' → jEv (jOk 800) (some L) xs c384_0 600000 7302250 (fun v _ => v = some (0, 1)) (c384_2179, [(2, -2), (2, 0), (2, 42), (0, 6 * (n : Int))], [], h', cu', su')) : jEv (jOk 800) (some L) xs c384_0 600000 7302250 (fun v _ => v = some (0, 1)) (c384_1954, [(2, -2), (2, 0), (2, 42), (0, 6 * (n : Int))], [], h, cu, su) := by
  have r1 := hr (6 * n + 1)
  have r2 := hr (6 * n + 2)
  have r3 := hr (6 * n + 3)
  have r4 := hr (6 * n + 4)
  refine ev_aload_n rfl ?_
  refine ev_aload_n rfl ?_
  refine ev_iload_n rfl ?_
  refine ev_iconst ?_
  refine ev_iadd (r := 6 * (n : Int) + 1) (by unfold w32; omega) ?_
  refine ev_sald (j := 6 * n + 1) (by omega) (by simp only [jxin, decide_eq_true_eq]; omega) rfl ?_
  refine ev_aload_n rfl ?_
  refine ev_iload_n rfl ?_
  refine ev_iconst ?_
  refine ev_iadd (r := 6 * (n : Int) + 2) (by unfold w32; omega) ?_
  refine ev_sald (j := 6 * n + 2) (by omega) (by simp only [jxin, decide_eq_true_eq]; omega) rfl ?_
  refine ev_aload_n rfl ?_
  refine ev_iload_n rfl ?_
  refine ev_iconst ?_
  refine ev_iadd (r := 6 * (n : Int) + 3) (by unfold w32; omega) ?_
  refine ev_sald (j := 6 * n + 3) (by omega) (by simp only [jxin, decide_eq_true_eq]; omega) rfl ?_
  refine ev_i2l ?_
  refine ev_bipush ?_
  refine g_lshlG (fun y1 ey1 ly1 uy1 => ?_)
  refine ev_aload_n rfl ?_
  refine ev_iload_n rfl ?_
  refine ev_iconst ?_
  refine ev_iadd (r := 6 * (n : Int) + 4) (by unfold w32; omega) ?_
  refine ev_sald (j := 6 * n + 4) (by omega) (by simp only [jxin, decide_eq_true_eq]; omega) rfl ?_
  refine ev_i2l ?_
  refine ev_ldc2_w ?_
  refine g_landG (fun y2 ey2 ly2 uy2 => ?_)
  refine g_lorG (fun y3 ey3 ly3 uy3 => ?_)
  refine ev_call (jcall_v (A := [(1, y3), (0, xs (6 * n + 2)), (0, xs (6 * n + 1))]) (S' := []) (r := 0) rfl (g.lt ad0) (g.tg ad0) (Nat.le_of_ble_eq_true rfl)) (jOk_le (by decide) (s214 g (by omega) (by omega) (by omega) (by omega) (by omega) (by omega))) (by omega) (by omega) (fun w4 h4 q4 => ?_)
  obtain ⟨v4, rfl, b4, c4, g4, k4⟩ := q4
  have z4 := k4.1
  have rl4 := Rl.kp rl k4 (by decide)
  show jEv _ _ _ _ _ _ _ (_, [(2, -2), (2, 0), (2, 42), (0, 6 * (n : Int))], [(0, v4)], _, _, _)
  refine ev_pop (by decide) ?_
  refine ev_aload_n rfl ?_
  refine ev_aload_n rfl ?_
  refine ev_iload_n rfl ?_
  refine ev_iconst ?_
  refine ev_iadd (r := 6 * (n : Int) + 1) (by unfold w32; omega) ?_
  refine ev_sald (j := 6 * n + 1) (by omega) (by simp only [jxin, decide_eq_true_eq]; omega) rfl ?_
  refine ev_aload_n rfl ?_
  refine ev_iload_n rfl ?_
  refine ev_iconst ?_
  refine ev_iadd (r := 6 * (n : Int) + 2) (by unfold w32; omega) ?_
  refine ev_sald (j := 6 * n + 2) (by omega) (by simp only [jxin, decide_eq_true_eq]; omega) rfl ?_
  refine ev_aload_n rfl ?_
  refine ev_iload_n rfl ?_
  refine ev_iconst ?_
  refine ev_iadd (r := 6 * (n : Int) + 3) (by unfold w32; omega) ?_
  refine ev_sald (j := 6 * n + 3) (by omega) (by simp only [jxin, decide_eq_true_eq]; omega) rfl ?_
  refine ev_i2l ?_
  refine ev_bipush ?_
  refine g_lshlG (fun y5 ey5 ly5 uy5 => ?_)
  refine ev_aload_n rfl ?_
  refine ev_iload_n rfl ?_
  refine ev_iconst ?_
  refine ev_iadd (r := 6 * (n : Int) + 4) (by unfold w32; omega) ?_
  refine ev_sald (j := 6 * n + 4) (by omega) (by simp only [jxin, decide_eq_true_eq]; omega) rfl ?_
  refine ev_i2l ?_
  refine ev_ldc2_w ?_
  refine g_landG (fun y6 ey6 ly6 uy6 => ?_)
  refine g_lorG (fun y7 ey7 ly7 uy7 => ?_)
  refine ev_call (jcall_v (A := [(1, y7), (0, xs (6 * n + 2)), (0, xs (6 * n + 1))]) (S' := []) (r := 42) rfl (g4.lt ad42) (g4.tg ad42) (Nat.le_of_ble_eq_true rfl)) (jOk_le (by decide) (s374 g4 (by omega) (by omega) (by omega) (by omega) (by omega) (by omega))) (by omega) (by omega) (fun w8 h8 q8 => ?_)
  obtain ⟨v8, rfl, b8, c8, g8, k8⟩ := q8
  have z8 := k8.1
  have rl8 := Rl.kp rl4 k8 (by decide)
  show jEv _ _ _ _ _ _ _ (_, [(2, -2), (2, 0), (2, 42), (0, 6 * (n : Int))], [(0, v8)], _, _, _)
  refine ev_pop (by decide) ?_
  refine ev_goto f384_2179 ?_
  exact kk _ _ _ _ g8 (by omega) (by omega) (by omega) rl8

set_option maxHeartbeats 4000000 in
theorem case_49 {xs : Nat → Int} (hr : ∀ j, -2147483648 ≤ xs j ∧ xs j < 2147483648) {L n : Nat} (hL : 6 * n + 6 ≤ L) (hn : n < 64) {G : GH} {h : JH} {cu su : Nat} (g : Gd G h) (hB : h.1 ≤ 83 + 13 * n) (hc : cu ≤ 83 + 13 * n) (hs : su ≤ 23761 + 1814 * n) (rl : Rl h) (kk : ∀ (G' : GH) (h' : JH) (cu' su' : Nat), Gd G' h' → h'.1 ≤ 83 + 13 * (n + 1) → cu' ≤ 83 + 13 * (n + 1) → su' ≤ 23761 + 1814 * (n + 1) → Rl h' → jEv (jOk 800) (some L) xs c384_0 600000 7302250 (fun v _ => v = some (0, 1)) (c384_2179, [(2, -2), (2, 0), (2, 42), (0, 6 * (n : Int))], [], h', cu', su')) : jEv (jOk 800) (some L) xs c384_0 600000 7302250 (fun v _ => v = some (0, 1)) (c384_2027, [(2, -2), (2, 0), (2, 42), (0, 6 * (n : Int))], [], h, cu, su) := by
  have r1 := hr (6 * n + 1)
  have r2 := hr (6 * n + 2)
  refine ev_aload_n rfl ?_
  refine ev_aload_n rfl ?_
  refine ev_iload_n rfl ?_
  refine ev_iconst ?_
  refine ev_iadd (r := 6 * (n : Int) + 1) (by unfold w32; omega) ?_
  refine ev_sald (j := 6 * n + 1) (by omega) (by simp only [jxin, decide_eq_true_eq]; omega) rfl ?_
  refine ev_aload_n rfl ?_
  refine ev_iload_n rfl ?_
  refine ev_iconst ?_
  refine ev_iadd (r := 6 * (n : Int) + 2) (by unfold w32; omega) ?_
  refine ev_sald (j := 6 * n + 2) (by omega) (by simp only [jxin, decide_eq_true_eq]; omega) rfl ?_
  refine ev_call (jcall_v (A := [(0, xs (6 * n + 2)), (0, xs (6 * n + 1))]) (S' := []) (r := 0) rfl (g.lt ad0) (g.tg ad0) (Nat.le_of_ble_eq_true rfl)) (jOk_le (by decide) (s215 g (by omega) (by omega) (by omega) (by omega))) (by omega) (by omega) (fun w1 h1 q1 => ?_)
  obtain ⟨v1, rfl, b1, c1, g1, k1⟩ := q1
  have z1 := k1.1
  have rl1 := Rl.kp rl k1 (by decide)
  show jEv _ _ _ _ _ _ _ (_, [(2, -2), (2, 0), (2, 42), (0, 6 * (n : Int))], [(1, v1)], _, _, _)
  refine ev_pop2 ?_
  refine ev_aload_n rfl ?_
  refine ev_aload_n rfl ?_
  refine ev_iload_n rfl ?_
  refine ev_iconst ?_
  refine ev_iadd (r := 6 * (n : Int) + 1) (by unfold w32; omega) ?_
  refine ev_sald (j := 6 * n + 1) (by omega) (by simp only [jxin, decide_eq_true_eq]; omega) rfl ?_
  refine ev_aload_n rfl ?_
  refine ev_iload_n rfl ?_
  refine ev_iconst ?_
  refine ev_iadd (r := 6 * (n : Int) + 2) (by unfold w32; omega) ?_
  refine ev_sald (j := 6 * n + 2) (by omega) (by simp only [jxin, decide_eq_true_eq]; omega) rfl ?_
  refine ev_call (jcall_v (A := [(0, xs (6 * n + 2)), (0, xs (6 * n + 1))]) (S' := []) (r := 42) rfl (g1.lt ad42) (g1.tg ad42) (Nat.le_of_ble_eq_true rfl)) (jOk_le (by decide) (s375 g1 (by omega) (by omega) (by omega) (by omega))) (by omega) (by omega) (fun w2 h2 q2 => ?_)
  obtain ⟨v2, rfl, b2, c2, g2, k2⟩ := q2
  have z2 := k2.1
  have rl2 := Rl.kp rl1 k2 (by decide)
  show jEv _ _ _ _ _ _ _ (_, [(2, -2), (2, 0), (2, 42), (0, 6 * (n : Int))], [(1, v2)], _, _, _)
  refine ev_pop2 ?_
  refine ev_goto f384_2179 ?_
  exact kk _ _ _ _ g2 (by omega) (by omega) (by omega) rl2

set_option maxHeartbeats 4000000 in
theorem case_50 {xs : Nat → Int} (hr : ∀ j, -2147483648 ≤ xs j ∧ xs j < 2147483648) {L n : Nat} (hL : 6 * n + 6 ≤ L) (hn : n < 64) {G : GH} {h : JH} {cu su : Nat} (g : Gd G h) (hB : h.1 ≤ 83 + 13 * n) (hc : cu ≤ 83 + 13 * n) (hs : su ≤ 23761 + 1814 * n) (rl : Rl h) (kk : ∀ (G' : GH) (h' : JH) (cu' su' : Nat), Gd G' h' → h'.1 ≤ 83 + 13 * (n + 1) → cu' ≤ 83 + 13 * (n + 1) → su' ≤ 23761 + 1814 * (n + 1) → Rl h' → jEv (jOk 800) (some L) xs c384_0 600000 7302250 (fun v _ => v = some (0, 1)) (c384_2179, [(2, -2), (2, 0), (2, 42), (0, 6 * (n : Int))], [], h', cu', su')) : jEv (jOk 800) (some L) xs c384_0 600000 7302250 (fun v _ => v = some (0, 1)) (c384_2060, [(2, -2), (2, 0), (2, 42), (0, 6 * (n : Int))], [], h, cu, su) := by
  have r1 := hr (6 * n + 1)
  have r2 := hr (6 * n + 2)
  have r3 := hr (6 * n + 3)
  have r4 := hr (6 * n + 4)
  have r5 := hr (6 * n + 5)
  refine ev_aload_n rfl ?_
  refine ev_aload_n rfl ?_
  refine ev_iload_n rfl ?_
  refine ev_iconst ?_
  refine ev_iadd (r := 6 * (n : Int) + 1) (by unfold w32; omega) ?_
  refine ev_sald (j := 6 * n + 1) (by omega) (by simp only [jxin, decide_eq_true_eq]; omega) rfl ?_
  refine ev_aload_n rfl ?_
  refine ev_iload_n rfl ?_
  refine ev_iconst ?_
  refine ev_iadd (r := 6 * (n : Int) + 2) (by unfold w32; omega) ?_
  refine ev_sald (j := 6 * n + 2) (by omega) (by simp only [jxin, decide_eq_true_eq]; omega) rfl ?_
  refine ev_aload_n rfl ?_
  refine ev_iload_n rfl ?_
  refine ev_iconst ?_
  refine ev_iadd (r := 6 * (n : Int) + 3) (by unfold w32; omega) ?_
  refine ev_sald (j := 6 * n + 3) (by omega) (by simp only [jxin, decide_eq_true_eq]; omega) rfl ?_
  refine ev_aload_n rfl ?_
  refine ev_iload_n rfl ?_
  refine ev_iconst ?_
  refine ev_iadd (r := 6 * (n : Int) + 4) (by unfold w32; omega) ?_
  refine ev_sald (j := 6 * n + 4) (by omega) (by simp only [jxin, decide_eq_true_eq]; omega) rfl ?_
  refine ev_aload_n rfl ?_
  refine ev_iload_n rfl ?_
  refine ev_iconst ?_
  refine ev_iadd (r := 6 * (n : Int) + 5) (by unfold w32; omega) ?_
  refine ev_sald (j := 6 * n + 5) (by omega) (by simp only [jxin, decide_eq_true_eq]; omega) rfl ?_
  refine ev_call (jcall_v (A := [(0, xs (6 * n + 5)), (0, xs (6 * n + 4)), (0, xs (6 * n + 3)), (0, xs (6 * n + 2)), (0, xs (6 * n + 1))]) (S' := []) (r := 0) rfl (g.lt ad0) (g.tg ad0) (Nat.le_of_ble_eq_true rfl)) (jOk_le (by decide) (s216 g (by omega) (by omega) (by omega) (by omega) (by omega) (by omega) (by omega) (by omega) (by omega) (by omega))) (by omega) (by omega) (fun w1 h1 q1 => ?_)
  obtain ⟨v1, rfl, b1, c1, g1, k1⟩ := q1
  have z1 := k1.1
  have rl1 := Rl.kp rl k1 (by decide)
  show jEv _ _ _ _ _ _ _ (_, [(2, -2), (2, 0), (2, 42), (0, 6 * (n : Int))], [(0, v1)], _, _, _)
  refine ev_pop (by decide) ?_
  refine ev_aload_n rfl ?_
  refine ev_aload_n rfl ?_
  refine ev_iload_n rfl ?_
  refine ev_iconst ?_
  refine ev_iadd (r := 6 * (n : Int) + 1) (by unfold w32; omega) ?_
  refine ev_sald (j := 6 * n + 1) (by omega) (by simp only [jxin, decide_eq_true_eq]; omega) rfl ?_
  refine ev_aload_n rfl ?_
  refine ev_iload_n rfl ?_
  refine ev_iconst ?_
  refine ev_iadd (r := 6 * (n : Int) + 2) (by unfold w32; omega) ?_
  refine ev_sald (j := 6 * n + 2) (by omega) (by simp only [jxin, decide_eq_true_eq]; omega) rfl ?_
  refine ev_aload_n rfl ?_
  refine ev_iload_n rfl ?_
  refine ev_iconst ?_
  refine ev_iadd (r := 6 * (n : Int) + 3) (by unfold w32; omega) ?_
  refine ev_sald (j := 6 * n + 3) (by omega) (by simp only [jxin, decide_eq_true_eq]; omega) rfl ?_
  refine ev_aload_n rfl ?_
  refine ev_iload_n rfl ?_
  refine ev_iconst ?_
  refine ev_iadd (r := 6 * (n : Int) + 4) (by unfold w32; omega) ?_
  refine ev_sald (j := 6 * n + 4) (by omega) (by simp only [jxin, decide_eq_true_eq]; omega) rfl ?_
  refine ev_aload_n rfl ?_
  refine ev_iload_n rfl ?_
  refine ev_iconst ?_
  refine ev_iadd (r := 6 * (n : Int) + 5) (by unfold w32; omega) ?_
  refine ev_sald (j := 6 * n + 5) (by omega) (by simp only [jxin, decide_eq_true_eq]; omega) rfl ?_
  refine ev_call (jcall_v (A := [(0, xs (6 * n + 5)), (0, xs (6 * n + 4)), (0, xs (6 * n + 3)), (0, xs (6 * n + 2)), (0, xs (6 * n + 1))]) (S' := []) (r := 42) rfl (g1.lt ad42) (g1.tg ad42) (Nat.le_of_ble_eq_true rfl)) (jOk_le (by decide) (s376 g1 (by omega) (by omega) (by omega) (by omega) (by omega) (by omega) (by omega) (by omega) (by omega) (by omega))) (by omega) (by omega) (fun w2 h2 q2 => ?_)
  obtain ⟨v2, rfl, b2, c2, g2, k2⟩ := q2
  have z2 := k2.1
  have rl2 := Rl.kp rl1 k2 (by decide)
  show jEv _ _ _ _ _ _ _ (_, [(2, -2), (2, 0), (2, 42), (0, 6 * (n : Int))], [(0, v2)], _, _, _)
  refine ev_pop (by decide) ?_
  refine ev_goto f384_2179 ?_
  exact kk _ _ _ _ g2 (by omega) (by omega) (by omega) rl2

set_option maxHeartbeats 4000000 in
theorem case_51 {xs : Nat → Int} (hr : ∀ j, -2147483648 ≤ xs j ∧ xs j < 2147483648) {L n : Nat} (hL : 6 * n + 6 ≤ L) (hn : n < 64) {G : GH} {h : JH} {cu su : Nat} (g : Gd G h) (hB : h.1 ≤ 83 + 13 * n) (hc : cu ≤ 83 + 13 * n) (hs : su ≤ 23761 + 1814 * n) (rl : Rl h) (kk : ∀ (G' : GH) (h' : JH) (cu' su' : Nat), Gd G' h' → h'.1 ≤ 83 + 13 * (n + 1) → cu' ≤ 83 + 13 * (n + 1) → su' ≤ 23761 + 1814 * (n + 1) → Rl h' → jEv (jOk 800) (some L) xs c384_0 600000 7302250 (fun v _ => v = some (0, 1)) (c384_2179, [(2, -2), (2, 0), (2, 42), (0, 6 * (n : Int))], [], h', cu', su')) : jEv (jOk 800) (some L) xs c384_0 600000 7302250 (fun v _ => v = some (0, 1)) (c384_2123, [(2, -2), (2, 0), (2, 42), (0, 6 * (n : Int))], [], h, cu, su) := by
  have r1 := hr (6 * n + 1)
  have r2 := hr (6 * n + 2)
  refine ev_aload_n rfl ?_
  refine ev_aload_n rfl ?_
  refine ev_iload_n rfl ?_
  refine ev_iconst ?_
  refine ev_iadd (r := 6 * (n : Int) + 1) (by unfold w32; omega) ?_
  refine ev_sald (j := 6 * n + 1) (by omega) (by simp only [jxin, decide_eq_true_eq]; omega) rfl ?_
  refine ev_aload_n rfl ?_
  refine ev_iload_n rfl ?_
  refine ev_iconst ?_
  refine ev_iadd (r := 6 * (n : Int) + 2) (by unfold w32; omega) ?_
  refine ev_sald (j := 6 * n + 2) (by omega) (by simp only [jxin, decide_eq_true_eq]; omega) rfl ?_
  refine ev_call (jcall_v (A := [(0, xs (6 * n + 2)), (0, xs (6 * n + 1))]) (S' := []) (r := 0) rfl (g.lt ad0) (g.tg ad0) (Nat.le_of_ble_eq_true rfl)) (jOk_le (by decide) (s217 g (by omega) (by omega) (by omega) (by omega))) (by omega) (by omega) (fun w1 h1 q1 => ?_)
  obtain ⟨v1, rfl, b1, c1, g1, k1⟩ := q1
  have z1 := k1.1
  have rl1 := Rl.kp rl k1 (by decide)
  show jEv _ _ _ _ _ _ _ (_, [(2, -2), (2, 0), (2, 42), (0, 6 * (n : Int))], [(0, v1)], _, _, _)
  refine ev_pop (by decide) ?_
  refine ev_aload_n rfl ?_
  refine ev_aload_n rfl ?_
  refine ev_iload_n rfl ?_
  refine ev_iconst ?_
  refine ev_iadd (r := 6 * (n : Int) + 1) (by unfold w32; omega) ?_
  refine ev_sald (j := 6 * n + 1) (by omega) (by simp only [jxin, decide_eq_true_eq]; omega) rfl ?_
  refine ev_aload_n rfl ?_
  refine ev_iload_n rfl ?_
  refine ev_iconst ?_
  refine ev_iadd (r := 6 * (n : Int) + 2) (by unfold w32; omega) ?_
  refine ev_sald (j := 6 * n + 2) (by omega) (by simp only [jxin, decide_eq_true_eq]; omega) rfl ?_
  refine ev_call (jcall_v (A := [(0, xs (6 * n + 2)), (0, xs (6 * n + 1))]) (S' := []) (r := 42) rfl (g1.lt ad42) (g1.tg ad42) (Nat.le_of_ble_eq_true rfl)) (jOk_le (by decide) (s377 g1 (by omega) (by omega) (by omega) (by omega))) (by omega) (by omega) (fun w2 h2 q2 => ?_)
  obtain ⟨v2, rfl, b2, c2, g2, k2⟩ := q2
  have z2 := k2.1
  have rl2 := Rl.kp rl1 k2 (by decide)
  show jEv _ _ _ _ _ _ _ (_, [(2, -2), (2, 0), (2, 42), (0, 6 * (n : Int))], [(0, v2)], _, _, _)
  refine ev_pop (by decide) ?_
  refine ev_goto f384_2179 ?_
  exact kk _ _ _ _ g2 (by omega) (by omega) (by omega) rl2

set_option maxHeartbeats 4000000 in
theorem case_52 {xs : Nat → Int} (hr : ∀ j, -2147483648 ≤ xs j ∧ xs j < 2147483648) {L n : Nat} (hL : 6 * n + 6 ≤ L) (hn : n < 64) {G : GH} {h : JH} {cu su : Nat} (g : Gd G h) (hB : h.1 ≤ 83 + 13 * n) (hc : cu ≤ 83 + 13 * n) (hs : su ≤ 23761 + 1814 * n) (rl : Rl h) (kk : ∀ (G' : GH) (h' : JH) (cu' su' : Nat), Gd G' h' → h'.1 ≤ 83 + 13 * (n + 1) → cu' ≤ 83 + 13 * (n + 1) → su' ≤ 23761 + 1814 * (n + 1) → Rl h' → jEv (jOk 800) (some L) xs c384_0 600000 7302250 (fun v _ => v = some (0, 1)) (c384_2179, [(2, -2), (2, 0), (2, 42), (0, 6 * (n : Int))], [], h', cu', su')) : jEv (jOk 800) (some L) xs c384_0 600000 7302250 (fun v _ => v = some (0, 1)) (c384_2156, [(2, -2), (2, 0), (2, 42), (0, 6 * (n : Int))], [], h, cu, su) := by
  have r1 := hr (6 * n + 1)
  refine ev_aload_n rfl ?_
  refine ev_aload_n rfl ?_
  refine ev_iload_n rfl ?_
  refine ev_iconst ?_
  refine ev_iadd (r := 6 * (n : Int) + 1) (by unfold w32; omega) ?_
  refine ev_sald (j := 6 * n + 1) (by omega) (by simp only [jxin, decide_eq_true_eq]; omega) rfl ?_
  refine ev_call (jcall_v (A := [(0, xs (6 * n + 1))]) (S' := []) (r := 0) rfl (g.lt ad0) (g.tg ad0) (Nat.le_of_ble_eq_true rfl)) (jOk_le (by decide) (s218 g (by omega) (by omega))) (by omega) (by omega) (fun w1 h1 q1 => ?_)
  obtain ⟨v1, rfl, b1, c1, g1, k1⟩ := q1
  have z1 := k1.1
  have rl1 := Rl.kp rl k1 (by decide)
  show jEv _ _ _ _ _ _ _ (_, [(2, -2), (2, 0), (2, 42), (0, 6 * (n : Int))], [(0, v1)], _, _, _)
  refine ev_pop (by decide) ?_
  refine ev_aload_n rfl ?_
  refine ev_aload_n rfl ?_
  refine ev_iload_n rfl ?_
  refine ev_iconst ?_
  refine ev_iadd (r := 6 * (n : Int) + 1) (by unfold w32; omega) ?_
  refine ev_sald (j := 6 * n + 1) (by omega) (by simp only [jxin, decide_eq_true_eq]; omega) rfl ?_
  refine ev_call (jcall_v (A := [(0, xs (6 * n + 1))]) (S' := []) (r := 42) rfl (g1.lt ad42) (g1.tg ad42) (Nat.le_of_ble_eq_true rfl)) (jOk_le (by decide) (s369 g1 (by omega) (by omega))) (by omega) (by omega) (fun w2 h2 q2 => ?_)
  obtain ⟨v2, rfl, b2, c2, g2, k2⟩ := q2
  have z2 := k2.1
  have rl2 := Rl.kp rl1 k2 (by decide)
  show jEv _ _ _ _ _ _ _ (_, [(2, -2), (2, 0), (2, 42), (0, 6 * (n : Int))], [(0, v2)], _, _, _)
  refine ev_pop (by decide) ?_
  refine ev_goto f384_2179 ?_
  exact kk _ _ _ _ g2 (by omega) (by omega) (by omega) rl2
