set_option maxHeartbeats 4000000 in
theorem case_18 {xs : Nat → Int} (hr : ∀ j, -2147483648 ≤ xs j ∧ xs j < 2147483648) {L n : Nat} (hL : 6 * n + 6 ≤ L) (hn : n < 64) {G : GH} {h : JH} {cu su : Nat} (g : Gd G h) (hB : h.1 ≤ 83 + 13 * n) (hc : cu ≤ 83 + 13 * n) (hs : su ≤ 23761 + 1814 * n) (rl : Rl h) (kk : ∀ (G' : GH) (h' : JH) (cu' su' : Nat), Gd G' h' → h'.1 ≤ 83 + 13 * (n + 1) → cu' ≤ 83 + 13 * (n + 1) → su' ≤ 23761 + 1814 * (n + 1) → Rl h' → jEv (jOk 800) (some L) xs c384_0 600000 7302250 (fun v _ => v = some (0, 1)) (c384_2179, [(2, -2), (2, 0), (2, 42), (0, 6 * (n : Int))], [], h', cu', su')) : jEv (jOk 800) (some L) xs c384_0 600000 7302250 (fun v _ => v = some (0, 1)) (c384_844, [(2, -2), (2, 0), (2, 42), (0, 6 * (n : Int))], [], h, cu, su) := by
  have r1 := hr (6 * n + 1)
  have r2 := hr (6 * n + 2)
  refine ev_aload_n rfl ?_
  refine ev_aload_n rfl ?_
  refine ev_iload_n rfl ?_
  refine ev_iconst ?_
  refine ev_iadd (r := 6 * (n : Int) + 1) (by unfold w32; omega) ?_
  refine ev_sald (j := 6 * n + 1) (by omega) (by simp only [jxin, decide_eq_true_eq]; omega) rfl ?_
  refine ev_aload_n rfl ?_
  refine ev_iload_n rfl ?_
  refine ev_iconst ?_
  refine ev_iadd (r := 6 * (n : Int) + 2) (by unfold w32; omega) ?_
  refine ev_sald (j := 6 * n + 2) (by omega) (by simp only [jxin, decide_eq_true_eq]; omega) rfl ?_
  refine ev_call (jcall_v (A := [(0, xs (6 * n + 2)), (0, xs (6 * n + 1))]) (S' := []) (r := 0) rfl (g.lt ad0) (g.tg ad0) (Nat.le_of_ble_eq_true rfl)) (jOk_le (by decide) (s184 g (by omega) (by omega) (by omega) (by omega))) (by omega) (by omega) (fun w1 h1 q1 => ?_)
  obtain ⟨v1, rfl, b1, c1, g1, k1⟩ := q1
  have z1 := k1.1
  have rl1 := Rl.kp rl k1 (by decide)
  show jEv _ _ _ _ _ _ _ (_, [(2, -2), (2, 0), (2, 42), (0, 6 * (n : Int))], [(0, v1)], _, _, _)
  refine ev_pop (by decide) ?_
  refine ev_aload_n rfl ?_
  refine ev_aload_n rfl ?_
  refine ev_iload_n rfl ?_
  refine ev_iconst ?_
  refine ev_iadd (r := 6 * (n : Int) + 1) (by unfold w32; omega) ?_
  refine ev_sald (j := 6 * n + 1) (by omega) (by simp only [jxin, decide_eq_true_eq]; omega) rfl ?_
  refine ev_aload_n rfl ?_
  refine ev_iload_n rfl ?_
  refine ev_iconst ?_
  refine ev_iadd (r := 6 * (n : Int) + 2) (by unfold w32; omega) ?_
  refine ev_sald (j := 6 * n + 2) (by omega) (by simp only [jxin, decide_eq_true_eq]; omega) rfl ?_
  refine ev_call (jcall_v (A := [(0, xs (6 * n + 2)), (0, xs (6 * n + 1))]) (S' := []) (r := 42) rfl (g1.lt ad42) (g1.tg ad42) (Nat.le_of_ble_eq_true rfl)) (jOk_le (by decide) (s304 g1 (by omega) (by omega) (by omega) (by omega))) (by omega) (by omega) (fun w2 h2 q2 => ?_)
  obtain ⟨v2, rfl, b2, c2, g2, k2⟩ := q2
  have z2 := k2.1
  have rl2 := Rl.kp rl1 k2 (by decide)
  show jEv _ _ _ _ _ _ _ (_, [(2, -2), (2, 0), (2, 42), (0, 6 * (n : Int))], [(0, v2)], _, _, _)
  refine ev_pop (by decide) ?_
  refine ev_goto f384_2179 ?_
  exact kk _ _ _ _ g2 (by omega) (by omega) (by omega) rl2

set_option maxHeartbeats 4000000 in
theorem case_19 {xs : Nat → Int} (hr : ∀ j, -2147483648 ≤ xs j ∧ xs j < 2147483648) {L n : Nat} (hL : 6 * n + 6 ≤ L) (hn : n < 64) {G : GH} {h : JH} {cu su : Nat} (g : Gd G h) (hB : h.1 ≤ 83 + 13 * n) (hc : cu ≤ 83 + 13 * n) (hs : su ≤ 23761 + 1814 * n) (rl : Rl h) (kk : ∀ (G' : GH) (h' : JH) (cu' su' : Nat), Gd G' h' → h'.1 ≤ 83 + 13 * (n + 1) → cu' ≤ 83 + 13 * (n + 1) → su' ≤ 23761 + 1814 * (n + 1) → Rl h' → jEv (jOk 800) (some L) xs c384_0 600000 7302250 (fun v _ => v = some (0, 1)) (c384_2179, [(2, -2), (2, 0), (2, 42), (0, 6 * (n : Int))], [], h', cu', su')) : jEv (jOk 800) (some L) xs c384_0 600000 7302250 (fun v _ => v = some (0, 1)) (c384_877, [(2, -2), (2, 0), (2, 42), (0, 6 * (n : Int))], [], h, cu, su) := by
  have r1 := hr (6 * n + 1)
  have r2 := hr (6 * n + 2)
  have r3 := hr (6 * n + 3)
  have r4 := hr (6 * n + 4)
  refine ev_aload_n rfl ?_
  refine ev_aload_n rfl ?_
  refine ev_iload_n rfl ?_
  refine ev_iconst ?_
  refine ev_iadd (r := 6 * (n : Int) + 1) (by unfold w32; omega) ?_
  refine ev_sald (j := 6 * n + 1) (by omega) (by simp only [jxin, decide_eq_true_eq]; omega) rfl ?_
  refine ev_aload_n rfl ?_
  refine ev_iload_n rfl ?_
  refine ev_iconst ?_
  refine ev_iadd (r := 6 * (n : Int) + 2) (by unfold w32; omega) ?_
  refine ev_sald (j := 6 * n + 2) (by omega) (by simp only [jxin, decide_eq_true_eq]; omega) rfl ?_
  refine ev_aload_n rfl ?_
  refine ev_iload_n rfl ?_
  refine ev_iconst ?_
  refine ev_iadd (r := 6 * (n : Int) + 3) (by unfold w32; omega) ?_
  refine ev_sald (j := 6 * n + 3) (by omega) (by simp only [jxin, decide_eq_true_eq]; omega) rfl ?_
  refine ev_aload_n rfl ?_
  refine ev_iload_n rfl ?_
  refine ev_iconst ?_
  refine ev_iadd (r := 6 * (n : Int) + 4) (by unfold w32; omega) ?_
  refine ev_sald (j := 6 * n + 4) (by omega) (by simp only [jxin, decide_eq_true_eq]; omega) rfl ?_
  refine ev_call (jcall_v (A := [(0, xs (6 * n + 4)), (0, xs (6 * n + 3)), (0, xs (6 * n + 2)), (0, xs (6 * n + 1))]) (S' := []) (r := 0) rfl (g.lt ad0) (g.tg ad0) (Nat.le_of_ble_eq_true rfl)) (jOk_le (by decide) (s185 g (by omega) (by omega) (by omega) (by omega) (by omega) (by omega) (by omega) (by omega))) (by omega) (by omega) (fun w1 h1 q1 => ?_)
  obtain ⟨v1, rfl, b1, c1, g1, k1⟩ := q1
  have z1 := k1.1
  have rl1 := Rl.kp rl k1 (by decide)
  show jEv _ _ _ _ _ _ _ (_, [(2, -2), (2, 0), (2, 42), (0, 6 * (n : Int))], [(1, v1)], _, _, _)
  refine ev_pop2 ?_
  refine ev_aload_n rfl ?_
  refine ev_aload_n rfl ?_
  refine ev_iload_n rfl ?_
  refine ev_iconst ?_
  refine ev_iadd (r := 6 * (n : Int) + 1) (by unfold w32; omega) ?_
  refine ev_sald (j := 6 * n + 1) (by omega) (by simp only [jxin, decide_eq_true_eq]; omega) rfl ?_
  refine ev_aload_n rfl ?_
  refine ev_iload_n rfl ?_
  refine ev_iconst ?_
  refine ev_iadd (r := 6 * (n : Int) + 2) (by unfold w32; omega) ?_
  refine ev_sald (j := 6 * n + 2) (by omega) (by simp only [jxin, decide_eq_true_eq]; omega) rfl ?_
  refine ev_aload_n rfl ?_
  refine ev_iload_n rfl ?_
  refine ev_iconst ?_
  refine ev_iadd (r := 6 * (n : Int) + 3) (by unfold w32; omega) ?_
  refine ev_sald (j := 6 * n + 3) (by omega) (by simp only [jxin, decide_eq_true_eq]; omega) rfl ?_
  refine ev_aload_n rfl ?_
  refine ev_iload_n rfl ?_
  refine ev_iconst ?_
  refine ev_iadd (r := 6 * (n : Int) + 4) (by unfold w32; omega) ?_
  refine ev_sald (j := 6 * n + 4) (by omega) (by simp only [jxin, decide_eq_true_eq]; omega) rfl ?_
  refine ev_call (jcall_v (A := [(0, xs (6 * n + 4)), (0, xs (6 * n + 3)), (0, xs (6 * n + 2)), (0, xs (6 * n + 1))]) (S' := []) (r := 42) rfl (g1.lt ad42) (g1.tg ad42) (Nat.le_of_ble_eq_true rfl)) (jOk_le (by decide) (s306 g1 (by omega) (by omega) (by omega) (by omega) (by omega) (by omega) (by omega) (by omega))) (by omega) (by omega) (fun w2 h2 q2 => ?_)
  obtain ⟨v2, rfl, b2, c2, g2, k2⟩ := q2
  have z2 := k2.1
  have rl2 := Rl.kp rl1 k2 (by decide)
  show jEv _ _ _ _ _ _ _ (_, [(2, -2), (2, 0), (2, 42), (0, 6 * (n : Int))], [(1, v2)], _, _, _)
  refine ev_pop2 ?_
  refine ev_goto f384_2179 ?_
  exact kk _ _ _ _ g2 (by omega) (by omega) (by omega) rl2

set_option maxHeartbeats 4000000 in
theorem case_20 {xs : Nat → Int} (hr : ∀ j, -2147483648 ≤ xs j ∧ xs j < 2147483648) {L n : Nat} (hL : 6 * n + 6 ≤ L) (hn : n < 64) {G : GH} {h : JH} {cu su : Nat} (g : Gd G h) (hB : h.1 ≤ 83 + 13 * n) (hc : cu ≤ 83 + 13 * n) (hs : su ≤ 23761 + 1814 * n) (rl : Rl h) (kk : ∀ (G' : GH) (h' : JH) (cu' su' : Nat), Gd G' h' → h'.1 ≤ 83 + 13 * (n + 1) → cu' ≤ 83 + 13 * (n + 1) → su' ≤ 23761 + 1814 * (n + 1) → Rl h' → jEv (jOk 800) (some L) xs c384_0 600000 7302250 (fun v _ => v = some (0, 1)) (c384_2179, [(2, -2), (2, 0), (2, 42), (0, 6 * (n : Int))], [], h', cu', su')) : jEv (jOk 800) (some L) xs c384_0 600000 7302250 (fun v _ => v = some (0, 1)) (c384_930, [(2, -2), (2, 0), (2, 42), (0, 6 * (n : Int))], [], h, cu, su) := by
  have r1 := hr (6 * n + 1)
  have r2 := hr (6 * n + 2)
  refine ev_aload_n rfl ?_
  refine ev_aload_n rfl ?_
  refine ev_iload_n rfl ?_
  refine ev_iconst ?_
  refine ev_iadd (r := 6 * (n : Int) + 1) (by unfold w32; omega) ?_
  refine ev_sald (j := 6 * n + 1) (by omega) (by simp only [jxin, decide_eq_true_eq]; omega) rfl ?_
  refine ev_aload_n rfl ?_
  refine ev_iload_n rfl ?_
  refine ev_iconst ?_
  refine ev_iadd (r := 6 * (n : Int) + 2) (by unfold w32; omega) ?_
  refine ev_sald (j := 6 * n + 2) (by omega) (by simp only [jxin, decide_eq_true_eq]; omega) rfl ?_
  refine ev_call (jcall_v (A := [(0, xs (6 * n + 2)), (0, xs (6 * n + 1))]) (S' := []) (r := 0) rfl (g.lt ad0) (g.tg ad0) (Nat.le_of_ble_eq_true rfl)) (jOk_le (by decide) (s186 g (by omega) (by omega) (by omega) (by omega))) (by omega) (by omega) (fun w1 h1 q1 => ?_)
  obtain ⟨v1, rfl, b1, c1, g1, k1⟩ := q1
  have z1 := k1.1
  have rl1 := Rl.kp rl k1 (by decide)
  show jEv _ _ _ _ _ _ _ (_, [(2, -2), (2, 0), (2, 42), (0, 6 * (n : Int))], [(0, v1)], _, _, _)
  refine ev_pop (by decide) ?_
  refine ev_aload_n rfl ?_
  refine ev_aload_n rfl ?_
  refine ev_iload_n rfl ?_
  refine ev_iconst ?_
  refine ev_iadd (r := 6 * (n : Int) + 1) (by unfold w32; omega) ?_
  refine ev_sald (j := 6 * n + 1) (by omega) (by simp only [jxin, decide_eq_true_eq]; omega) rfl ?_
  refine ev_aload_n rfl ?_
  refine ev_iload_n rfl ?_
  refine ev_iconst ?_
  refine ev_iadd (r := 6 * (n : Int) + 2) (by unfold w32; omega) ?_
  refine ev_sald (j := 6 * n + 2) (by omega) (by simp only [jxin, decide_eq_true_eq]; omega) rfl ?_
  refine ev_call (jcall_v (A := [(0, xs (6 * n + 2)), (0, xs (6 * n + 1))]) (S' := []) (r := 42) rfl (g1.lt ad42) (g1.tg ad42) (Nat.le_of_ble_eq_true rfl)) (jOk_le (by decide) (s308 g1 (by omega) (by omega) (by omega) (by omega))) (by omega) (by omega) (fun w2 h2 q2 => ?_)
  obtain ⟨v2, rfl, b2, c2, g2, k2⟩ := q2
  have z2 := k2.1
  have rl2 := Rl.kp rl1 k2 (by decide)
  show jEv _ _ _ _ _ _ _ (_, [(2, -2), (2, 0), (2, 42), (0, 6 * (n : Int))], [(0, v2)], _, _, _)
  refine ev_pop (by decide) ?_
  refine ev_goto f384_2179 ?_
  exact kk _ _ _ _ g2 (by omega) (by omega) (by omega) rl2

set_option maxHeartbeats 4000000 in
theorem case_21 {xs : Nat → Int} (hr : ∀ j, -2147483648 ≤ xs j ∧ xs j < 2147483648) {L n : Nat} (hL : 6 * n + 6 ≤ L) (hn : n < 64) {G : GH} {h : JH} {cu su : Nat} (g : Gd G h) (hB : h.1 ≤ 83 + 13 * n) (hc : cu ≤ 83 + 13 * n) (hs : su ≤ 23761 + 1814 * n) (rl : Rl h) (kk : ∀ (G' : GH) (h' : JH) (cu' su' : Nat), Gd G' h' → h'.1 ≤ 83 + 13 * (n + 1) → cu' ≤ 83 + 13 * (n + 1) → su' ≤ 23761 + 1814 * (n + 1) → Rl h' → jEv (jOk 800) (some L) xs c384_0 600000 7302250 (fun v _ => v = some (0, 1)) (c384_2179, [(2, -2), (2, 0), (2, 42), (0, 6 * (n : Int))], [], h', cu', su')) : jEv (jOk 800) (some L) xs c384_0 600000 7302250 (fun v _ => v = some (0, 1)) (c384_963, [(2, -2), (2, 0), (2, 42), (0, 6 * (n : Int))], [], h, cu, su) := by
  have r1 := hr (6 * n + 1)
  have r2 := hr (6 * n + 2)
  have r3 := hr (6 * n + 3)
  refine ev_aload_n rfl ?_
  refine ev_aload_n rfl ?_
  refine ev_iload_n rfl ?_
  refine ev_iconst ?_
  refine ev_iadd (r := 6 * (n : Int) + 1) (by unfold w32; omega) ?_
  refine ev_sald (j := 6 * n + 1) (by omega) (by simp only [jxin, decide_eq_true_eq]; omega) rfl ?_
  refine ev_aload_n rfl ?_
  refine ev_iload_n rfl ?_
  refine ev_iconst ?_
  refine ev_iadd (r := 6 * (n : Int) + 2) (by unfold w32; omega) ?_
  refine ev_sald (j := 6 * n + 2) (by omega) (by simp only [jxin, decide_eq_true_eq]; omega) rfl ?_
  refine ev_aload_n rfl ?_
  refine ev_iload_n rfl ?_
  refine ev_iconst ?_
  refine ev_iadd (r := 6 * (n : Int) + 3) (by unfold w32; omega) ?_
  refine ev_sald (j := 6 * n + 3) (by omega) (by simp only [jxin, decide_eq_true_eq]; omega) rfl ?_
  refine ev_call (jcall_v (A := [(0, xs (6 * n + 3)), (0, xs (6 * n + 2)), (0, xs (6 * n + 1))]) (S' := []) (r := 0) rfl (g.lt ad0) (g.tg ad0) (Nat.le_of_ble_eq_true rfl)) (jOk_le (by decide) (s187 g (by omega) (by omega) (by omega) (by omega) (by omega) (by omega))) (by omega) (by omega) (fun w1 h1 q1 => ?_)
  obtain ⟨v1, rfl, b1, c1, g1, k1⟩ := q1
  have z1 := k1.1
  have rl1 := Rl.kp rl k1 (by decide)
  show jEv _ _ _ _ _ _ _ (_, [(2, -2), (2, 0), (2, 42), (0, 6 * (n : Int))], [(1, v1)], _, _, _)
  refine ev_pop2 ?_
  refine ev_aload_n rfl ?_
  refine ev_aload_n rfl ?_
  refine ev_iload_n rfl ?_
  refine ev_iconst ?_
  refine ev_iadd (r := 6 * (n : Int) + 1) (by unfold w32; omega) ?_
  refine ev_sald (j := 6 * n + 1) (by omega) (by simp only [jxin, decide_eq_true_eq]; omega) rfl ?_
  refine ev_aload_n rfl ?_
  refine ev_iload_n rfl ?_
  refine ev_iconst ?_
  refine ev_iadd (r := 6 * (n : Int) + 2) (by unfold w32; omega) ?_
  refine ev_sald (j := 6 * n + 2) (by omega) (by simp only [jxin, decide_eq_true_eq]; omega) rfl ?_
  refine ev_aload_n rfl ?_
  refine ev_iload_n rfl ?_
  refine ev_iconst ?_
  refine ev_iadd (r := 6 * (n : Int) + 3) (by unfold w32; omega) ?_
  refine ev_sald (j := 6 * n + 3) (by omega) (by simp only [jxin, decide_eq_true_eq]; omega) rfl ?_
  refine ev_call (jcall_v (A := [(0, xs (6 * n + 3)), (0, xs (6 * n + 2)), (0, xs (6 * n + 1))]) (S' := []) (r := 42) rfl (g1.lt ad42) (g1.tg ad42) (Nat.le_of_ble_eq_true rfl)) (jOk_le (by decide) (s312 g1 (by omega) (by omega) (by omega) (by omega) (by omega) (by omega))) (by omega) (by omega) (fun w2 h2 q2 => ?_)
  obtain ⟨v2, rfl, b2, c2, g2, k2⟩ := q2
  have z2 := k2.1
  have rl2 := Rl.kp rl1 k2 (by decide)
  show jEv _ _ _ _ _ _ _ (_, [(2, -2), (2, 0), (2, 42), (0, 6 * (n : Int))], [(1, v2)], _, _, _)
  refine ev_pop2 ?_
  refine ev_goto f384_2179 ?_
  exact kk _ _ _ _ g2 (by omega) (by omega) (by omega) rl2

set_option maxHeartbeats 4000000 in
theorem case_22 {xs : Nat → Int} (hr : ∀ j, -2147483648 ≤ xs j ∧ xs j < 2147483648) {L n : Nat} (hL : 6 * n + 6 ≤ L) (hn : n < 64) {G : GH} {h : JH} {cu su : Nat} (g : Gd G h) (hB : h.1 ≤ 83 + 13 * n) (hc : cu ≤ 83 + 13 * n) (hs : su ≤ 23761 + 1814 * n) (rl : Rl h) (kk : ∀ (G' : GH) (h' : JH) (cu' su' : Nat), Gd G' h' → h'.1 ≤ 83 + 13 * (n + 1) → cu' ≤ 83 + 13 * (n + 1) → su' ≤ 23761 + 1814 * (n + 1) → Rl h' → jEv (jOk 800) (some L) xs c384_0 600000 7302250 (fun v _ => v = some (0, 1)) (c384_2179, [(2, -2), (2, 0), (2, 42), (0, 6 * (n : Int))], [], h', cu', su')) : jEv (jOk 800) (some L) xs c384_0 600000 7302250 (fun v _ => v = some (0, 1)) (c384_1006, [(2, -2), (2, 0), (2, 42), (0, 6 * (n : Int))], [], h, cu, su) := by
  have r1 := hr (6 * n + 1)
  have r2 := hr (6 * n + 2)
  have r3 := hr (6 * n + 3)
  have r4 := hr (6 * n + 4)
  refine ev_aload_n rfl ?_
  refine ev_aload_n rfl ?_
  refine ev_iload_n rfl ?_
  refine ev_iconst ?_
  refine ev_iadd (r := 6 * (n : Int) + 1) (by unfold w32; omega) ?_
  refine ev_sald (j := 6 * n + 1) (by omega) (by simp only [jxin, decide_eq_true_eq]; omega) rfl ?_
  refine ev_aload_n rfl ?_
  refine ev_iload_n rfl ?_
  refine ev_iconst ?_
  refine ev_iadd (r := 6 * (n : Int) + 2) (by unfold w32; omega) ?_
  refine ev_sald (j := 6 * n + 2) (by omega) (by simp only [jxin, decide_eq_true_eq]; omega) rfl ?_
  refine ev_aload_n rfl ?_
  refine ev_iload_n rfl ?_
  refine ev_iconst ?_
  refine ev_iadd (r := 6 * (n : Int) + 3) (by unfold w32; omega) ?_
  refine ev_sald (j := 6 * n + 3) (by omega) (by simp only [jxin, decide_eq_true_eq]; omega) rfl ?_
  refine ev_aload_n rfl ?_
  refine ev_iload_n rfl ?_
  refine ev_iconst ?_
  refine ev_iadd (r := 6 * (n : Int) + 4) (by unfold w32; omega) ?_
  refine ev_sald (j := 6 * n + 4) (by omega) (by simp only [jxin, decide_eq_true_eq]; omega) rfl ?_
  refine ev_call (jcall_v (A := [(0, xs (6 * n + 4)), (0, xs (6 * n + 3)), (0, xs (6 * n + 2)), (0, xs (6 * n + 1))]) (S' := []) (r := 0) rfl (g.lt ad0) (g.tg ad0) (Nat.le_of_ble_eq_true rfl)) (jOk_le (by decide) (s188 g (by omega) (by omega) (by omega) (by omega) (by omega) (by omega) (by omega) (by omega))) (by omega) (by omega) (fun w1 h1 q1 => ?_)
  obtain ⟨v1, rfl, b1, c1, g1, k1⟩ := q1
  have z1 := k1.1
  have rl1 := Rl.kp rl k1 (by decide)
  show jEv _ _ _ _ _ _ _ (_, [(2, -2), (2, 0), (2, 42), (0, 6 * (n : Int))], [(1, v1)], _, _, _)
  refine ev_pop2 ?_
  refine ev_aload_n rfl ?_
  refine ev_aload_n rfl ?_
  refine ev_iload_n rfl ?_
  refine ev_iconst ?_
  refine ev_iadd (r := 6 * (n : Int) + 1) (by unfold w32; omega) ?_
  refine ev_sald (j := 6 * n + 1) (by omega) (by simp only [jxin, decide_eq_true_eq]; omega) rfl ?_
  refine ev_aload_n rfl ?_
  refine ev_iload_n rfl ?_
  refine ev_iconst ?_
  refine ev_iadd (r := 6 * (n : Int) + 2) (by unfold w32; omega) ?_
  refine ev_sald (j := 6 * n + 2) (by omega) (by simp only [jxin, decide_eq_true_eq]; omega) rfl ?_
  refine ev_aload_n rfl ?_
  refine ev_iload_n rfl ?_
  refine ev_iconst ?_
  refine ev_iadd (r := 6 * (n : Int) + 3) (by unfold w32; omega) ?_
  refine ev_sald (j := 6 * n + 3) (by omega) (by simp only [jxin, decide_eq_true_eq]; omega) rfl ?_
  refine ev_aload_n rfl ?_
  refine ev_iload_n rfl ?_
  refine ev_iconst ?_
  refine ev_iadd (r := 6 * (n : Int) + 4) (by unfold w32; omega) ?_
  refine ev_sald (j := 6 * n + 4) (by omega) (by simp only [jxin, decide_eq_true_eq]; omega) rfl ?_
  refine ev_call (jcall_v (A := [(0, xs (6 * n + 4)), (0, xs (6 * n + 3)), (0, xs (6 * n + 2)), (0, xs (6 * n + 1))]) (S' := []) (r := 42) rfl (g1.lt ad42) (g1.tg ad42) (Nat.le_of_ble_eq_true rfl)) (jOk_le (by decide) (s313 g1 (by omega) (by omega) (by omega) (by omega) (by omega) (by omega) (by omega) (by omega))) (by omega) (by omega) (fun w2 h2 q2 => ?_)
  obtain ⟨v2, rfl, b2, c2, g2, k2⟩ := q2
  have z2 := k2.1
  have rl2 := Rl.kp rl1 k2 (by decide)
  show jEv _ _ _ _ _ _ _ (_, [(2, -2), (2, 0), (2, 42), (0, 6 * (n : Int))], [(1, v2)], _, _, _)
  refine ev_pop2 ?_
  refine ev_goto f384_2179 ?_
  exact kk _ _ _ _ g2 (by omega) (by omega) (by omega) rl2

set_option maxHeartbeats 4000000 in
theorem case_23 {xs : Nat → Int} (hr : ∀ j, -2147483648 ≤ xs j ∧ xs j < 2147483648) {L n : Nat} (hL : 6 * n + 6 ≤ L) (hn : n < 64) {G : GH} {h : JH} {cu su : Nat} (g : Gd G h) (hB : h.1 ≤ 83 + 13 * n) (hc : cu ≤ 83 + 13 * n) (hs : su ≤ 23761 + 1814 * n) (rl : Rl h) (kk : ∀ (G' : GH) (h' : JH) (cu' su' : Nat), Gd G' h' → h'.1 ≤ 83 + 13 * (n + 1) → cu' ≤ 83 + 13 * (n + 1) → su' ≤ 23761 + 1814 * (n + 1) → Rl h' → jEv (jOk 800) (some L) xs c384_0 600000 7302250 (fun v _ => v = some (0, 1)) (c384_2179, [(2, -2), (2, 0), (2, 42), (0, 6 * (n : Int))], [], h', cu', su')) : jEv (jOk 800) (some L) xs c384_0 600000 7302250 (fun v _ => v = some (0, 1)) (c384_1059, [(2, -2), (2, 0), (2, 42), (0, 6 * (n : Int))], [], h, cu, su) := by
  have r1 := hr (6 * n + 1)
  refine ev_aload_n rfl ?_
  refine ev_aload_n rfl ?_
  refine ev_iload_n rfl ?_
  refine ev_iconst ?_
  refine ev_iadd (r := 6 * (n : Int) + 1) (by unfold w32; omega) ?_
  refine ev_sald (j := 6 * n + 1) (by omega) (by simp only [jxin, decide_eq_true_eq]; omega) rfl ?_
  refine ev_call (jcall_v (A := [(0, xs (6 * n + 1))]) (S' := []) (r := 0) rfl (g.lt ad0) (g.tg ad0) (Nat.le_of_ble_eq_true rfl)) (jOk_le (by decide) (s189 g (by omega) (by omega))) (by omega) (by omega) (fun w1 h1 q1 => ?_)
  obtain ⟨v1, rfl, b1, c1, g1, k1⟩ := q1
  have z1 := k1.1
  have rl1 := Rl.kp rl k1 (by decide)
  show jEv _ _ _ _ _ _ _ (_, [(2, -2), (2, 0), (2, 42), (0, 6 * (n : Int))], [(0, v1)], _, _, _)
  refine ev_pop (by decide) ?_
  refine ev_aload_n rfl ?_
  refine ev_aload_n rfl ?_
  refine ev_iload_n rfl ?_
  refine ev_iconst ?_
  refine ev_iadd (r := 6 * (n : Int) + 1) (by unfold w32; omega) ?_
  refine ev_sald (j := 6 * n + 1) (by omega) (by simp only [jxin, decide_eq_true_eq]; omega) rfl ?_
  refine ev_call (jcall_v (A := [(0, xs (6 * n + 1))]) (S' := []) (r := 42) rfl (g1.lt ad42) (g1.tg ad42) (Nat.le_of_ble_eq_true rfl)) (jOk_le (by decide) (s314 g1 (by omega) (by omega))) (by omega) (by omega) (fun w2 h2 q2 => ?_)
  obtain ⟨v2, rfl, b2, c2, g2, k2⟩ := q2
  have z2 := k2.1
  have rl2 := Rl.kp rl1 k2 (by decide)
  show jEv _ _ _ _ _ _ _ (_, [(2, -2), (2, 0), (2, 42), (0, 6 * (n : Int))], [(0, v2)], _, _, _)
  refine ev_pop (by decide) ?_
  refine ev_goto f384_2179 ?_
  exact kk _ _ _ _ g2 (by omega) (by omega) (by omega) rl2

set_option maxHeartbeats 4000000 in
theorem case_24 {xs : Nat → Int} (hr : ∀ j, -2147483648 ≤ xs j ∧ xs j < 2147483648) {L n : Nat} (hL : 6 * n + 6 ≤ L) (hn : n < 64) {G : GH} {h : JH} {cu su : Nat} (g : Gd G h) (hB : h.1 ≤ 83 + 13 * n) (hc : cu ≤ 83 + 13 * n) (hs : su ≤ 23761 + 1814 * n) (rl : Rl h) (kk : ∀ (G' : GH) (h' : JH) (cu' su' : Nat), Gd G' h' → h'.1 ≤ 83 + 13 * (n + 1) → cu' ≤ 83 + 13 * (n + 1) → su' ≤ 23761 + 1814 * (n + 1) → Rl h' → jEv (jOk 800) (some L) xs c384_0 600000 7302250 (fun v _ => v = some (0, 1)) (c384_2179, [(2, -2), (2, 0), (2, 42), (0, 6 * (n : Int))], [], h', cu', su')) : jEv (jOk 800) (some L) xs c384_0 600000 7302250 (fun v _ => v = some (0, 1)) (c384_1082, [(2, -2), (2, 0), (2, 42), (0, 6 * (n : Int))], [], h, cu, su) := by
  have r1 := hr (6 * n + 1)
  have r2 := hr (6 * n + 2)
  have r3 := hr (6 * n + 3)
  refine ev_aload_n rfl ?_
  refine ev_aload_n rfl ?_
  refine ev_iload_n rfl ?_
  refine ev_iconst ?_
  refine ev_iadd (r := 6 * (n : Int) + 1) (by unfold w32; omega) ?_
  refine ev_sald (j := 6 * n + 1) (by omega) (by simp only [jxin, decide_eq_true_eq]; omega) rfl ?_
  refine ev_aload_n rfl ?_
  refine ev_iload_n rfl ?_
  refine ev_iconst ?_
  refine ev_iadd (r := 6 * (n : Int) + 2) (by unfold w32; omega) ?_
  refine ev_sald (j := 6 * n + 2) (by omega) (by simp only [jxin, decide_eq_true_eq]; omega) rfl ?_
  refine ev_aload_n rfl ?_
  refine ev_iload_n rfl ?_
  refine ev_iconst ?_
  refine ev_iadd (r := 6 * (n : Int) + 3) (by unfold w32; omega) ?_
  refine ev_sald (j := 6 * n + 3) (by omega) (by simp only [jxin, decide_eq_true_eq]; omega) rfl ?_
  refine ev_call (jcall_v (A := [(0, xs (6 * n + 3)), (0, xs (6 * n + 2)), (0, xs (6 * n + 1))]) (S' := []) (r := 0) rfl (g.lt ad0) (g.tg ad0) (Nat.le_of_ble_eq_true rfl)) (jOk_le (by decide) (s190 g (by omega) (by omega) (by omega) (by omega) (by omega) (by omega))) (by omega) (by omega) (fun w1 h1 q1 => ?_)
  obtain ⟨v1, rfl, b1, c1, g1, k1⟩ := q1
  have z1 := k1.1
  have rl1 := Rl.kp rl k1 (by decide)
  show jEv _ _ _ _ _ _ _ (_, [(2, -2), (2, 0), (2, 42), (0, 6 * (n : Int))], [(0, v1)], _, _, _)
  refine ev_pop (by decide) ?_
  refine ev_aload_n rfl ?_
  refine ev_aload_n rfl ?_
  refine ev_iload_n rfl ?_
  refine ev_iconst ?_
  refine ev_iadd (r := 6 * (n : Int) + 1) (by unfold w32; omega) ?_
  refine ev_sald (j := 6 * n + 1) (by omega) (by simp only [jxin, decide_eq_true_eq]; omega) rfl ?_
  refine ev_aload_n rfl ?_
  refine ev_iload_n rfl ?_
  refine ev_iconst ?_
  refine ev_iadd (r := 6 * (n : Int) + 2) (by unfold w32; omega) ?_
  refine ev_sald (j := 6 * n + 2) (by omega) (by simp only [jxin, decide_eq_true_eq]; omega) rfl ?_
  refine ev_aload_n rfl ?_
  refine ev_iload_n rfl ?_
  refine ev_iconst ?_
  refine ev_iadd (r := 6 * (n : Int) + 3) (by unfold w32; omega) ?_
  refine ev_sald (j := 6 * n + 3) (by omega) (by simp only [jxin, decide_eq_true_eq]; omega) rfl ?_
  refine ev_call (jcall_v (A := [(0, xs (6 * n + 3)), (0, xs (6 * n + 2)), (0, xs (6 * n + 1))]) (S' := []) (r := 42) rfl (g1.lt ad42) (g1.tg ad42) (Nat.le_of_ble_eq_true rfl)) (jOk_le (by decide) (s319 g1 (by omega) (by omega) (by omega) (by omega) (by omega) (by omega))) (by omega) (by omega) (fun w2 h2 q2 => ?_)
  obtain ⟨v2, rfl, b2, c2, g2, k2⟩ := q2
  have z2 := k2.1
  have rl2 := Rl.kp rl1 k2 (by decide)
  show jEv _ _ _ _ _ _ _ (_, [(2, -2), (2, 0), (2, 42), (0, 6 * (n : Int))], [(0, v2)], _, _, _)
  refine ev_pop (by decide) ?_
  refine ev_goto f384_2179 ?_
  exact kk _ _ _ _ g2 (by omega) (by omega) (by omega) rl2

set_option maxHeartbeats 4000000 in
theorem case_25 {xs : Nat → Int} (hr : ∀ j, -2147483648 ≤ xs j ∧ xs j < 2147483648) {L n : Nat} (hL : 6 * n + 6 ≤ L) (hn : n < 64) {G : GH} {h : JH} {cu su : Nat} (g : Gd G h) (hB : h.1 ≤ 83 + 13 * n) (hc : cu ≤ 83 + 13 * n) (hs : su ≤ 23761 + 1814 * n) (rl : Rl h) (kk : ∀ (G' : GH) (h' : JH) (cu' su' : Nat), Gd G' h' → h'.1 ≤ 83 + 13 * (n + 1) → cu' ≤ 83 + 13 * (n + 1) → su' ≤ 23761 + 1814 * (n + 1) → Rl h' → jEv (jOk 800) (some L) xs c384_0 600000 7302250 (fun v _ => v = some (0, 1)) (c384_2179, [(2, -2), (2, 0), (2, 42), (0, 6 * (n : Int))], [], h', cu', su')) : jEv (jOk 800) (some L) xs c384_0 600000 7302250 (fun v _ => v = some (0, 1)) (c384_1125, [(2, -2), (2, 0), (2, 42), (0, 6 * (n : Int))], [], h, cu, su) := by
  have r1 := hr (6 * n + 1)
  have r2 := hr (6 * n + 2)
  have r3 := hr (6 * n + 3)
  have r4 := hr (6 * n + 4)
  refine ev_aload_n rfl ?_
  refine ev_aload_n rfl ?_
  refine ev_iload_n rfl ?_
  refine ev_iconst ?_
  refine ev_iadd (r := 6 * (n : Int) + 1) (by unfold w32; omega) ?_
  refine ev_sald (j := 6 * n + 1) (by omega) (by simp only [jxin, decide_eq_true_eq]; omega) rfl ?_
  refine ev_aload_n rfl ?_
  refine ev_iload_n rfl ?_
  refine ev_iconst ?_
  refine ev_iadd (r := 6 * (n : Int) + 2) (by unfold w32; omega) ?_
  refine ev_sald (j := 6 * n + 2) (by omega) (by simp only [jxin, decide_eq_true_eq]; omega) rfl ?_
  refine ev_aload_n rfl ?_
  refine ev_iload_n rfl ?_
  refine ev_iconst ?_
  refine ev_iadd (r := 6 * (n : Int) + 3) (by unfold w32; omega) ?_
  refine ev_sald (j := 6 * n + 3) (by omega) (by simp only [jxin, decide_eq_true_eq]; omega) rfl ?_
  refine ev_aload_n rfl ?_
  refine ev_iload_n rfl ?_
  refine ev_iconst ?_
  refine ev_iadd (r := 6 * (n : Int) + 4) (by unfold w32; omega) ?_
  refine ev_sald (j := 6 * n + 4) (by omega) (by simp only [jxin, decide_eq_true_eq]; omega) rfl ?_
  refine ev_call (jcall_v (A := [(0, xs (6 * n + 4)), (0, xs (6 * n + 3)), (0, xs (6 * n + 2)), (0, xs (6 * n + 1))]) (S' := []) (r := 0) rfl (g.lt ad0) (g.tg ad0) (Nat.le_of_ble_eq_true rfl)) (jOk_le (by decide) (s191 g (by omega) (by omega) (by omega) (by omega) (by omega) (by omega) (by omega) (by omega))) (by omega) (by omega) (fun w1 h1 q1 => ?_)
  obtain ⟨v1, rfl, b1, c1, g1, k1⟩ := q1
  have z1 := k1.1
  have rl1 := Rl.kp rl k1 (by decide)
  show jEv _ _ _ _ _ _ _ (_, [(2, -2), (2, 0), (2, 42), (0, 6 * (n : Int))], [(0, v1)], _, _, _)
  refine ev_pop (by decide) ?_
  refine ev_aload_n rfl ?_
  refine ev_aload_n rfl ?_
  refine ev_iload_n rfl ?_
  refine ev_iconst ?_
  refine ev_iadd (r := 6 * (n : Int) + 1) (by unfold w32; omega) ?_
  refine ev_sald (j := 6 * n + 1) (by omega) (by simp only [jxin, decide_eq_true_eq]; omega) rfl ?_
  refine ev_aload_n rfl ?_
  refine ev_iload_n rfl ?_
  refine ev_iconst ?_
  refine ev_iadd (r := 6 * (n : Int) + 2) (by unfold w32; omega) ?_
  refine ev_sald (j := 6 * n + 2) (by omega) (by simp only [jxin, decide_eq_true_eq]; omega) rfl ?_
  refine ev_aload_n rfl ?_
  refine ev_iload_n rfl ?_
  refine ev_iconst ?_
  refine ev_iadd (r := 6 * (n : Int) + 3) (by unfold w32; omega) ?_
  refine ev_sald (j := 6 * n + 3) (by omega) (by simp only [jxin, decide_eq_true_eq]; omega) rfl ?_
  refine ev_aload_n rfl ?_
  refine ev_iload_n rfl ?_
  refine ev_iconst ?_
  refine ev_iadd (r := 6 * (n : Int) + 4) (by unfold w32; omega) ?_
  refine ev_sald (j := 6 * n + 4) (by omega) (by simp only [jxin, decide_eq_true_eq]; omega) rfl ?_
  refine ev_call (jcall_v (A := [(0, xs (6 * n + 4)), (0, xs (6 * n + 3)), (0, xs (6 * n + 2)), (0, xs (6 * n + 1))]) (S' := []) (r := 42) rfl (g1.lt ad42) (g1.tg ad42) (Nat.le_of_ble_eq_true rfl)) (jOk_le (by decide) (s320 g1 (by omega) (by omega) (by omega) (by omega) (by omega) (by omega) (by omega) (by omega))) (by omega) (by omega) (fun w2 h2 q2 => ?_)
  obtain ⟨v2, rfl, b2, c2, g2, k2⟩ := q2
  have z2 := k2.1
  have rl2 := Rl.kp rl1 k2 (by decide)
  show jEv _ _ _ _ _ _ _ (_, [(2, -2), (2, 0), (2, 42), (0, 6 * (n : Int))], [(0, v2)], _, _, _)
  refine ev_pop (by decide) ?_
  refine ev_goto f384_2179 ?_
  exact kk _ _ _ _ g2 (by omega) (by omega) (by omega) rl2

set_option maxHeartbeats 4000000 in
theorem case_26 {xs : Nat → Int} (hr : ∀ j, -2147483648 ≤ xs j ∧ xs j < 2147483648) {L n : Nat} (hL : 6 * n + 6 ≤ L) (hn : n < 64) {G : GH} {h : JH} {cu su : Nat} (g : Gd G h) (hB : h.1 ≤ 83 + 13 * n) (hc : cu ≤ 83 + 13 * n) (hs : su ≤ 23761 + 1814 * n) (rl : Rl h) (kk : ∀ (G' : GH) (h' : JH) (cu' su' : Nat), Gd G' h' → h'.1 ≤ 83 + 13 * (n + 1) → cu' ≤ 83 + 13 * (n + 1) → su' ≤ 23761 + 1814 * (n + 1) → Rl h' → jEv (jOk 800) (some L) xs c384_0 600000 7302250 (fun v _ => v = some (0, 1)) (c384_2179, [(2, -2), (2, 0), (2, 42), (0, 6 * (n : Int))], [], h', cu', su')) : jEv (jOk 800) (some L) xs c384_0 600000 7302250 (fun v _ => v = some (0, 1)) (c384_1178, [(2, -2), (2, 0), (2, 42), (0, 6 * (n : Int))], [], h, cu, su) := by
  have r1 := hr (6 * n + 1)
  refine ev_aload_n rfl ?_
  refine ev_aload_n rfl ?_
  refine ev_iload_n rfl ?_
  refine ev_iconst ?_
  refine ev_iadd (r := 6 * (n : Int) + 1) (by unfold w32; omega) ?_
  refine ev_sald (j := 6 * n + 1) (by omega) (by simp only [jxin, decide_eq_true_eq]; omega) rfl ?_
  refine ev_call (jcall_v (A := [(0, xs (6 * n + 1))]) (S' := []) (r := 0) rfl (g.lt ad0) (g.tg ad0) (Nat.le_of_ble_eq_true rfl)) (jOk_le (by decide) (s192 g (by omega) (by omega))) (by omega) (by omega) (fun w1 h1 q1 => ?_)
  obtain ⟨v1, rfl, b1, c1, g1, k1⟩ := q1
  have z1 := k1.1
  have rl1 := Rl.kp rl k1 (by decide)
  show jEv _ _ _ _ _ _ _ (_, [(2, -2), (2, 0), (2, 42), (0, 6 * (n : Int))], [(0, v1)], _, _, _)
  refine ev_pop (by decide) ?_
  refine ev_aload_n rfl ?_
  refine ev_aload_n rfl ?_
  refine ev_iload_n rfl ?_
  refine ev_iconst ?_
  refine ev_iadd (r := 6 * (n : Int) + 1) (by unfold w32; omega) ?_
  refine ev_sald (j := 6 * n + 1) (by omega) (by simp only [jxin, decide_eq_true_eq]; omega) rfl ?_
  refine ev_call (jcall_v (A := [(0, xs (6 * n + 1))]) (S' := []) (r := 42) rfl (g1.lt ad42) (g1.tg ad42) (Nat.le_of_ble_eq_true rfl)) (jOk_le (by decide) (s321 g1 (by omega) (by omega))) (by omega) (by omega) (fun w2 h2 q2 => ?_)
  obtain ⟨v2, rfl, b2, c2, g2, k2⟩ := q2
  have z2 := k2.1
  have rl2 := Rl.kp rl1 k2 (by decide)
  show jEv _ _ _ _ _ _ _ (_, [(2, -2), (2, 0), (2, 42), (0, 6 * (n : Int))], [(0, v2)], _, _, _)
  refine ev_pop (by decide) ?_
  refine ev_goto f384_2179 ?_
  exact kk _ _ _ _ g2 (by omega) (by omega) (by omega) rl2

set_option maxHeartbeats 4000000 in
theorem case_27 {xs : Nat → Int} (hr : ∀ j, -2147483648 ≤ xs j ∧ xs j < 2147483648) {L n : Nat} (hL : 6 * n + 6 ≤ L) (hn : n < 64) {G : GH} {h : JH} {cu su : Nat} (g : Gd G h) (hB : h.1 ≤ 83 + 13 * n) (hc : cu ≤ 83 + 13 * n) (hs : su ≤ 23761 + 1814 * n) (rl : Rl h) (kk : ∀ (G' : GH) (h' : JH) (cu' su' : Nat), Gd G' h' → h'.1 ≤ 83 + 13 * (n + 1) → cu' ≤ 83 + 13 * (n + 1) → su' ≤ 23761 + 1814 * (n + 1) → Rl h' → jEv (jOk 800) (some L) xs c384_0 600000 7302250 (fun v _ => v = some (0, 1)) (c384_2179, [(2, -2), (2, 0), (2, 42), (0, 6 * (n : Int))], [], h', cu', su')) : jEv (jOk 800) (some L) xs c384_0 600000 7302250 (fun v _ => v = some (0, 1)) (c384_1201, [(2, -2), (2, 0), (2, 42), (0, 6 * (n : Int))], [], h, cu, su) := by
  have r1 := hr (6 * n + 1)
  have r2 := hr (6 * n + 2)
  have r3 := hr (6 * n + 3)
  have r4 := hr (6 * n + 4)
  refine ev_aload_n rfl ?_
  refine ev_aload_n rfl ?_
  refine ev_iload_n rfl ?_
  refine ev_iconst ?_
  refine ev_iadd (r := 6 * (n : Int) + 1) (by unfold w32; omega) ?_
  refine ev_sald (j := 6 * n + 1) (by omega) (by simp only [jxin, decide_eq_true_eq]; omega) rfl ?_
  refine ev_aload_n rfl ?_
  refine ev_iload_n rfl ?_
  refine ev_iconst ?_
  refine ev_iadd (r := 6 * (n : Int) + 2) (by unfold w32; omega) ?_
  refine ev_sald (j := 6 * n + 2) (by omega) (by simp only [jxin, decide_eq_true_eq]; omega) rfl ?_
  refine ev_aload_n rfl ?_
  refine ev_iload_n rfl ?_
  refine ev_iconst ?_
  refine ev_iadd (r := 6 * (n : Int) + 3) (by unfold w32; omega) ?_
  refine ev_sald (j := 6 * n + 3) (by omega) (by simp only [jxin, decide_eq_true_eq]; omega) rfl ?_
  refine ev_aload_n rfl ?_
  refine ev_iload_n rfl ?_
  refine ev_iconst ?_
  refine ev_iadd (r := 6 * (n : Int) + 4) (by unfold w32; omega) ?_
  refine ev_sald (j := 6 * n + 4) (by omega) (by simp only [jxin, decide_eq_true_eq]; omega) rfl ?_
  refine ev_call (jcall_v (A := [(0, xs (6 * n + 4)), (0, xs (6 * n + 3)), (0, xs (6 * n + 2)), (0, xs (6 * n + 1))]) (S' := []) (r := 0) rfl (g.lt ad0) (g.tg ad0) (Nat.le_of_ble_eq_true rfl)) (jOk_le (by decide) (s193 g (by omega) (by omega) (by omega) (by omega) (by omega) (by omega) (by omega) (by omega))) (by omega) (by omega) (fun w1 h1 q1 => ?_)
  obtain ⟨v1, rfl, b1, c1, g1, k1⟩ := q1
  have z1 := k1.1
  have rl1 := Rl.kp rl k1 (by decide)
  show jEv _ _ _ _ _ _ _ (_, [(2, -2), (2, 0), (2, 42), (0, 6 * (n : Int))], [(0, v1)], _, _, _)
  refine ev_pop (by decide) ?_
  refine ev_aload_n rfl ?_
  refine ev_aload_n rfl ?_
  refine ev_iload_n rfl ?_
  refine ev_iconst ?_
  refine ev_iadd (r := 6 * (n : Int) + 1) (by unfold w32; omega) ?_
  refine ev_sald (j := 6 * n + 1) (by omega) (by simp only [jxin, decide_eq_true_eq]; omega) rfl ?_
  refine ev_aload_n rfl ?_
  refine ev_iload_n rfl ?_
  refine ev_iconst ?_
  refine ev_iadd (r := 6 * (n : Int) + 2) (by unfold w32; omega) ?_
  refine ev_sald (j := 6 * n + 2) (by omega) (by simp only [jxin, decide_eq_true_eq]; omega) rfl ?_
  refine ev_aload_n rfl ?_
  refine ev_iload_n rfl ?_
  refine ev_iconst ?_
  refine ev_iadd (r := 6 * (n : Int) + 3) (by unfold w32; omega) ?_
  refine ev_sald (j := 6 * n + 3) (by omega) (by simp only [jxin, decide_eq_true_eq]; omega) rfl ?_
  refine ev_aload_n rfl ?_
  refine ev_iload_n rfl ?_
  refine ev_iconst ?_
  refine ev_iadd (r := 6 * (n : Int) + 4) (by unfold w32; omega) ?_
  refine ev_sald (j := 6 * n + 4) (by omega) (by simp only [jxin, decide_eq_true_eq]; omega) rfl ?_
  refine ev_call (jcall_v (A := [(0, xs (6 * n + 4)), (0, xs (6 * n + 3)), (0, xs (6 * n + 2)), (0, xs (6 * n + 1))]) (S' := []) (r := 42) rfl (g1.lt ad42) (g1.tg ad42) (Nat.le_of_ble_eq_true rfl)) (jOk_le (by decide) (s327 g1 (by omega) (by omega) (by omega) (by omega) (by omega) (by omega) (by omega) (by omega))) (by omega) (by omega) (fun w2 h2 q2 => ?_)
  obtain ⟨v2, rfl, b2, c2, g2, k2⟩ := q2
  have z2 := k2.1
  have rl2 := Rl.kp rl1 k2 (by decide)
  show jEv _ _ _ _ _ _ _ (_, [(2, -2), (2, 0), (2, 42), (0, 6 * (n : Int))], [(0, v2)], _, _, _)
  refine ev_pop (by decide) ?_
  refine ev_goto f384_2179 ?_
  exact kk _ _ _ _ g2 (by omega) (by omega) (by omega) rl2

set_option maxHeartbeats 4000000 in
theorem case_28 {xs : Nat → Int} (hr : ∀ j, -2147483648 ≤ xs j ∧ xs j < 2147483648) {L n : Nat} (hL : 6 * n + 6 ≤ L) (hn : n < 64) {G : GH} {h : JH} {cu su : Nat} (g : Gd G h) (hB : h.1 ≤ 83 + 13 * n) (hc : cu ≤ 83 + 13 * n) (hs : su ≤ 23761 + 1814 * n) (rl : Rl h) (kk : ∀ (G' : GH) (h' : JH) (cu' su' : Nat), Gd G' h' → h'.1 ≤ 83 + 13 * (n + 1) → cu' ≤ 83 + 13 * (n + 1) → su' ≤ 23761 + 1814 * (n + 1) → Rl h' → jEv (jOk 800) (some L) xs c384_0 600000 7302250 (fun v _ => v = some (0, 1)) (c384_2179, [(2, -2), (2, 0), (2, 42), (0, 6 * (n : Int))], [], h', cu', su')) : jEv (jOk 800) (some L) xs c384_0 600000 7302250 (fun v _ => v = some (0, 1)) (c384_1254, [(2, -2), (2, 0), (2, 42), (0, 6 * (n : Int))], [], h, cu, su) := by
  have r1 := hr (6 * n + 1)
  have r2 := hr (6 * n + 2)
  have r3 := hr (6 * n + 3)
  have r4 := hr (6 * n + 4)
  refine ev_aload_n rfl ?_
  refine ev_aload_n rfl ?_
  refine ev_iload_n rfl ?_
  refine ev_iconst ?_
  refine ev_iadd (r := 6 * (n : Int) + 1) (by unfold w32; omega) ?_
  refine ev_sald (j := 6 * n + 1) (by omega) (by simp only [jxin, decide_eq_true_eq]; omega) rfl ?_
  refine ev_aload_n rfl ?_
  refine ev_iload_n rfl ?_
  refine ev_iconst ?_
  refine ev_iadd (r := 6 * (n : Int) + 2) (by unfold w32; omega) ?_
  refine ev_sald (j := 6 * n + 2) (by omega) (by simp only [jxin, decide_eq_true_eq]; omega) rfl ?_
  refine ev_aload_n rfl ?_
  refine ev_iload_n rfl ?_
  refine ev_iconst ?_
  refine ev_iadd (r := 6 * (n : Int) + 3) (by unfold w32; omega) ?_
  refine ev_sald (j := 6 * n + 3) (by omega) (by simp only [jxin, decide_eq_true_eq]; omega) rfl ?_
  refine ev_aload_n rfl ?_
  refine ev_iload_n rfl ?_
  refine ev_iconst ?_
  refine ev_iadd (r := 6 * (n : Int) + 4) (by unfold w32; omega) ?_
  refine ev_sald (j := 6 * n + 4) (by omega) (by simp only [jxin, decide_eq_true_eq]; omega) rfl ?_
  refine ev_call (jcall_v (A := [(0, xs (6 * n + 4)), (0, xs (6 * n + 3)), (0, xs (6 * n + 2)), (0, xs (6 * n + 1))]) (S' := []) (r := 0) rfl (g.lt ad0) (g.tg ad0) (Nat.le_of_ble_eq_true rfl)) (jOk_le (by decide) (s194 g (by omega) (by omega) (by omega) (by omega) (by omega) (by omega) (by omega) (by omega))) (by omega) (by omega) (fun w1 h1 q1 => ?_)
  obtain ⟨v1, rfl, b1, c1, g1, k1⟩ := q1
  have z1 := k1.1
  have rl1 := Rl.kp rl k1 (by decide)
  show jEv _ _ _ _ _ _ _ (_, [(2, -2), (2, 0), (2, 42), (0, 6 * (n : Int))], [(1, v1)], _, _, _)
  refine ev_pop2 ?_
  refine ev_aload_n rfl ?_
  refine ev_aload_n rfl ?_
  refine ev_iload_n rfl ?_
  refine ev_iconst ?_
  refine ev_iadd (r := 6 * (n : Int) + 1) (by unfold w32; omega) ?_
  refine ev_sald (j := 6 * n + 1) (by omega) (by simp only [jxin, decide_eq_true_eq]; omega) rfl ?_
  refine ev_aload_n rfl ?_
  refine ev_iload_n rfl ?_
  refine ev_iconst ?_
  refine ev_iadd (r := 6 * (n : Int) + 2) (by unfold w32; omega) ?_
  refine ev_sald (j := 6 * n + 2) (by omega) (by simp only [jxin, decide_eq_true_eq]; omega) rfl ?_
  refine ev_aload_n rfl ?_
  refine ev_iload_n rfl ?_
  refine ev_iconst ?_
  refine ev_iadd (r := 6 * (n : Int) + 3) (by unfold w32; omega) ?_
  refine ev_sald (j := 6 * n + 3) (by omega) (by simp only [jxin, decide_eq_true_eq]; omega) rfl ?_
  refine ev_aload_n rfl ?_
  refine ev_iload_n rfl ?_
  refine ev_iconst ?_
  refine ev_iadd (r := 6 * (n : Int) + 4) (by unfold w32; omega) ?_
  refine ev_sald (j := 6 * n + 4) (by omega) (by simp only [jxin, decide_eq_true_eq]; omega) rfl ?_
  refine ev_call (jcall_v (A := [(0, xs (6 * n + 4)), (0, xs (6 * n + 3)), (0, xs (6 * n + 2)), (0, xs (6 * n + 1))]) (S' := []) (r := 42) rfl (g1.lt ad42) (g1.tg ad42) (Nat.le_of_ble_eq_true rfl)) (jOk_le (by decide) (s329 g1 (by omega) (by omega) (by omega) (by omega) (by omega) (by omega) (by omega) (by omega))) (by omega) (by omega) (fun w2 h2 q2 => ?_)
  obtain ⟨v2, rfl, b2, c2, g2, k2⟩ := q2
  have z2 := k2.1
  have rl2 := Rl.kp rl1 k2 (by decide)
  show jEv _ _ _ _ _ _ _ (_, [(2, -2), (2, 0), (2, 42), (0, 6 * (n : Int))], [(1, v2)], _, _, _)
  refine ev_pop2 ?_
  refine ev_goto f384_2179 ?_
  exact kk _ _ _ _ g2 (by omega) (by omega) (by omega) rl2

set_option maxHeartbeats 4000000 in
theorem case_29 {xs : Nat → Int} (hr : ∀ j, -2147483648 ≤ xs j ∧ xs j < 2147483648) {L n : Nat} (hL : 6 * n + 6 ≤ L) (hn : n < 64) {G : GH} {h : JH} {cu su : Nat} (g : Gd G h) (hB : h.1 ≤ 83 + 13 * n) (hc : cu ≤ 83 + 13 * n) (hs : su ≤ 23761 + 1814 * n) (rl : Rl h) (kk : ∀ (G' : GH) (h' : JH) (cu' su' : Nat), Gd G' h' → h'.1 ≤ 83 + 13 * (n + 1) → cu' ≤ 83 + 13 * (n + 1) → su' ≤ 23761 + 1814 * (n + 1) → Rl h' → jEv (jOk 800) (some L) xs c384_0 600000 7302250 (fun v _ => v = some (0, 1)) (c384_2179, [(2, -2), (2, 0), (2, 42), (0, 6 * (n : Int))], [], h', cu', su')) : jEv (jOk 800) (some L) xs c384_0 600000 7302250 (fun v _ => v = some (0, 1)) (c384_1307, [(2, -2), (2, 0), (2, 42), (0, 6 * (n : Int))], [], h, cu, su) := by
  have r1 := hr (6 * n + 1)
  have r2 := hr (6 * n + 2)
  refine ev_aload_n rfl ?_
  refine ev_aload_n rfl ?_
  refine ev_iload_n rfl ?_
  refine ev_iconst ?_
  refine ev_iadd (r := 6 * (n : Int) + 1) (by unfold w32; omega) ?_
  refine ev_sald (j := 6 * n + 1) (by omega) (by simp only [jxin, decide_eq_true_eq]; omega) rfl ?_
  refine ev_aload_n rfl ?_
  refine ev_iload_n rfl ?_
  refine ev_iconst ?_
  refine ev_iadd (r := 6 * (n : Int) + 2) (by unfold w32; omega) ?_
  refine ev_sald (j := 6 * n + 2) (by omega) (by simp only [jxin, decide_eq_true_eq]; omega) rfl ?_
  refine ev_call (jcall_v (A := [(0, xs (6 * n + 2)), (0, xs (6 * n + 1))]) (S' := []) (r := 0) rfl (g.lt ad0) (g.tg ad0) (Nat.le_of_ble_eq_true rfl)) (jOk_le (by decide) (s195 g (by omega) (by omega) (by omega) (by omega))) (by omega) (by omega) (fun w1 h1 q1 => ?_)
  obtain ⟨v1, rfl, b1, c1, g1, k1⟩ := q1
  have z1 := k1.1
  have rl1 := Rl.kp rl k1 (by decide)
  show jEv _ _ _ _ _ _ _ (_, [(2, -2), (2, 0), (2, 42), (0, 6 * (n : Int))], [(0, v1)], _, _, _)
  refine ev_pop (by decide) ?_
  refine ev_aload_n rfl ?_
  refine ev_aload_n rfl ?_
  refine ev_iload_n rfl ?_
  refine ev_iconst ?_
  refine ev_iadd (r := 6 * (n : Int) + 1) (by unfold w32; omega) ?_
  refine ev_sald (j := 6 * n + 1) (by omega) (by simp only [jxin, decide_eq_true_eq]; omega) rfl ?_
  refine ev_aload_n rfl ?_
  refine ev_iload_n rfl ?_
  refine ev_iconst ?_
  refine ev_iadd (r := 6 * (n : Int) + 2) (by unfold w32; omega) ?_
  refine ev_sald (j := 6 * n + 2) (by omega) (by simp only [jxin, decide_eq_true_eq]; omega) rfl ?_
  refine ev_call (jcall_v (A := [(0, xs (6 * n + 2)), (0, xs (6 * n + 1))]) (S' := []) (r := 42) rfl (g1.lt ad42) (g1.tg ad42) (Nat.le_of_ble_eq_true rfl)) (jOk_le (by decide) (s330 g1 (by omega) (by omega) (by omega) (by omega))) (by omega) (by omega) (fun w2 h2 q2 => ?_)
  obtain ⟨v2, rfl, b2, c2, g2, k2⟩ := q2
  have z2 := k2.1
  have rl2 := Rl.kp rl1 k2 (by decide)
  show jEv _ _ _ _ _ _ _ (_, [(2, -2), (2, 0), (2, 42), (0, 6 * (n : Int))], [(0, v2)], _, _, _)
  refine ev_pop (by decide) ?_
  refine ev_goto f384_2179 ?_
  exact kk _ _ _ _ g2 (by omega) (by omega) (by omega) rl2

set_option maxHeartbeats 4000000 in
theorem case_30 {xs : Nat → Int} (hr : ∀ j, -2147483648 ≤ xs j ∧ xs j < 2147483648) {L n : Nat} (hL : 6 * n + 6 ≤ L) (hn : n < 64) {G : GH} {h : JH} {cu su : Nat} (g : Gd G h) (hB : h.1 ≤ 83 + 13 * n) (hc : cu ≤ 83 + 13 * n) (hs : su ≤ 23761 + 1814 * n) (rl : Rl h) (kk : ∀ (G' : GH) (h' : JH) (cu' su' : Nat), Gd G' h' → h'.1 ≤ 83 + 13 * (n + 1) → cu' ≤ 83 + 13 * (n + 1) → su' ≤ 23761 + 1814 * (n + 1) → Rl h' → jEv (jOk 800) (some L) xs c384_0 600000 7302250 (fun v _ => v = some (0, 1)) (c384_2179, [(2, -2), (2, 0), (2, 42), (0, 6 * (n : Int))], [], h', cu', su')) : jEv (jOk 800) (some L) xs c384_0 600000 7302250 (fun v _ => v = some (0, 1)) (c384_1340, [(2, -2), (2, 0), (2, 42), (0, 6 * (n : Int))], [], h, cu, su) := by
  have r1 := hr (6 * n + 1)
  have r2 := hr (6 * n + 2)
  have r3 := hr (6 * n + 3)
  refine ev_aload_n rfl ?_
  refine ev_aload_n rfl ?_
  refine ev_iload_n rfl ?_
  refine ev_iconst ?_
  refine ev_iadd (r := 6 * (n : Int) + 1) (by unfold w32; omega) ?_
  refine ev_sald (j := 6 * n + 1) (by omega) (by simp only [jxin, decide_eq_true_eq]; omega) rfl ?_
  refine ev_aload_n rfl ?_
  refine ev_iload_n rfl ?_
  refine ev_iconst ?_
  refine ev_iadd (r := 6 * (n : Int) + 2) (by unfold w32; omega) ?_
  refine ev_sald (j := 6 * n + 2) (by omega) (by simp only [jxin, decide_eq_true_eq]; omega) rfl ?_
  refine ev_aload_n rfl ?_
  refine ev_iload_n rfl ?_
  refine ev_iconst ?_
  refine ev_iadd (r := 6 * (n : Int) + 3) (by unfold w32; omega) ?_
  refine ev_sald (j := 6 * n + 3) (by omega) (by simp only [jxin, decide_eq_true_eq]; omega) rfl ?_
  refine ev_call (jcall_v (A := [(0, xs (6 * n + 3)), (0, xs (6 * n + 2)), (0, xs (6 * n + 1))]) (S' := []) (r := 0) rfl (g.lt ad0) (g.tg ad0) (Nat.le_of_ble_eq_true rfl)) (jOk_le (by decide) (s196 g (by omega) (by omega) (by omega) (by omega) (by omega) (by omega))) (by omega) (by omega) (fun w1 h1 q1 => ?_)
  obtain ⟨v1, rfl, b1, c1, g1, k1⟩ := q1
  have z1 := k1.1
  have rl1 := Rl.kp rl k1 (by decide)
  show jEv _ _ _ _ _ _ _ (_, [(2, -2), (2, 0), (2, 42), (0, 6 * (n : Int))], [(0, v1)], _, _, _)
  refine ev_pop (by decide) ?_
  refine ev_aload_n rfl ?_
  refine ev_aload_n rfl ?_
  refine ev_iload_n rfl ?_
  refine ev_iconst ?_
  refine ev_iadd (r := 6 * (n : Int) + 1) (by unfold w32; omega) ?_
  refine ev_sald (j := 6 * n + 1) (by omega) (by simp only [jxin, decide_eq_true_eq]; omega) rfl ?_
  refine ev_aload_n rfl ?_
  refine ev_iload_n rfl ?_
  refine ev_iconst ?_
  refine ev_iadd (r := 6 * (n : Int) + 2) (by unfold w32; omega) ?_
  refine ev_sald (j := 6 * n + 2) (by omega) (by simp only [jxin, decide_eq_true_eq]; omega) rfl ?_
  refine ev_aload_n rfl ?_
  refine ev_iload_n rfl ?_
  refine ev_iconst ?_
  refine ev_iadd (r := 6 * (n : Int) + 3) (by unfold w32; omega) ?_
  refine ev_sald (j := 6 * n + 3) (by omega) (by simp only [jxin, decide_eq_true_eq]; omega) rfl ?_
  refine ev_call (jcall_v (A := [(0, xs (6 * n + 3)), (0, xs (6 * n + 2)), (0, xs (6 * n + 1))]) (S' := []) (r := 42) rfl (g1.lt ad42) (g1.tg ad42) (Nat.le_of_ble_eq_true rfl)) (jOk_le (by decide) (s331 g1 (by omega) (by omega) (by omega) (by omega) (by omega) (by omega))) (by omega) (by omega) (fun w2 h2 q2 => ?_)
  obtain ⟨v2, rfl, b2, c2, g2, k2⟩ := q2
  have z2 := k2.1
  have rl2 := Rl.kp rl1 k2 (by decide)
  show jEv _ _ _ _ _ _ _ (_, [(2, -2), (2, 0), (2, 42), (0, 6 * (n : Int))], [(0, v2)], _, _, _)
  refine ev_pop (by decide) ?_
  refine ev_goto f384_2179 ?_
  exact kk _ _ _ _ g2 (by omega) (by omega) (by omega) rl2

set_option maxHeartbeats 4000000 in
theorem case_31 {xs : Nat → Int} (hr : ∀ j, -2147483648 ≤ xs j ∧ xs j < 2147483648) {L n : Nat} (hL : 6 * n + 6 ≤ L) (hn : n < 64) {G : GH} {h : JH} {cu su : Nat} (g : Gd G h) (hB : h.1 ≤ 83 + 13 * n) (hc : cu ≤ 83 + 13 * n) (hs : su ≤ 23761 + 1814 * n) (rl : Rl h) (kk : ∀ (G' : GH) (h' : JH) (cu' su' : Nat), Gd G' h' → h'.1 ≤ 83 + 13 * (n + 1) → cu' ≤ 83 + 13 * (n + 1) → su' ≤ 23761 + 1814 * (n + 1) → Rl h' → jEv (jOk 800) (some L) xs c384_0 600000 7302250 (fun v _ => v = some (0, 1)) (c384_2179, [(2, -2), (2, 0), (2, 42), (0, 6 * (n : Int))], [], h', cu', su')) : jEv (jOk 800) (some L) xs c384_0 600000 7302250 (fun v _ => v = some (0, 1)) (c384_1383, [(2, -2), (2, 0), (2, 42), (0, 6 * (n : Int))], [], h, cu, su) := by
  have r1 := hr (6 * n + 1)
  refine ev_aload_n rfl ?_
  refine ev_aload_n rfl ?_
  refine ev_iload_n rfl ?_
  refine ev_iconst ?_
  refine ev_iadd (r := 6 * (n : Int) + 1) (by unfold w32; omega) ?_
  refine ev_sald (j := 6 * n + 1) (by omega) (by simp only [jxin, decide_eq_true_eq]; omega) rfl ?_
  refine ev_call (jcall_v (A := [(0, xs (6 * n + 1))]) (S' := []) (r := 0) rfl (g.lt ad0) (g.tg ad0) (Nat.le_of_ble_eq_true rfl)) (jOk_le (by decide) (s197 g (by omega) (by omega))) (by omega) (by omega) (fun w1 h1 q1 => ?_)
  obtain ⟨v1, rfl, b1, c1, g1, k1⟩ := q1
  have z1 := k1.1
  have rl1 := Rl.kp rl k1 (by decide)
  show jEv _ _ _ _ _ _ _ (_, [(2, -2), (2, 0), (2, 42), (0, 6 * (n : Int))], [(0, v1)], _, _, _)
  refine ev_pop (by decide) ?_
  refine ev_aload_n rfl ?_
  refine ev_aload_n rfl ?_
  refine ev_iload_n rfl ?_
  refine ev_iconst ?_
  refine ev_iadd (r := 6 * (n : Int) + 1) (by unfold w32; omega) ?_
  refine ev_sald (j := 6 * n + 1) (by omega) (by simp only [jxin, decide_eq_true_eq]; omega) rfl ?_
  refine ev_call (jcall_v (A := [(0, xs (6 * n + 1))]) (S' := []) (r := 42) rfl (g1.lt ad42) (g1.tg ad42) (Nat.le_of_ble_eq_true rfl)) (jOk_le (by decide) (s333 g1 (by omega) (by omega))) (by omega) (by omega) (fun w2 h2 q2 => ?_)
  obtain ⟨v2, rfl, b2, c2, g2, k2⟩ := q2
  have z2 := k2.1
  have rl2 := Rl.kp rl1 k2 (by decide)
  show jEv _ _ _ _ _ _ _ (_, [(2, -2), (2, 0), (2, 42), (0, 6 * (n : Int))], [(0, v2)], _, _, _)
  refine ev_pop (by decide) ?_
  refine ev_goto f384_2179 ?_
  exact kk _ _ _ _ g2 (by omega) (by omega) (by omega) rl2

set_option maxHeartbeats 4000000 in
theorem case_32 {xs : Nat → Int} (hr : ∀ j, -2147483648 ≤ xs j ∧ xs j < 2147483648) {L n : Nat} (hL : 6 * n + 6 ≤ L) (hn : n < 64) {G : GH} {h : JH} {cu su : Nat} (g : Gd G h) (hB : h.1 ≤ 83 + 13 * n) (hc : cu ≤ 83 + 13 * n) (hs : su ≤ 23761 + 1814 * n) (rl : Rl h) (kk : ∀ (G' : GH) (h' : JH) (cu' su' : Nat), Gd G' h' → h'.1 ≤ 83 + 13 * (n + 1) → cu' ≤ 83 + 13 * (n + 1) → su' ≤ 23761 + 1814 * (n + 1) → Rl h' → jEv (jOk 800) (some L) xs c384_0 600000 7302250 (fun v _ => v = some (0, 1)) (c384_2179, [(2, -2), (2, 0), (2, 42), (0, 6 * (n : Int))], [], h', cu', su')) : jEv (jOk 800) (some L) xs c384_0 600000 7302250 (fun v _ => v = some (0, 1)) (c384_1406, [(2, -2), (2, 0), (2, 42), (0, 6 * (n : Int))], [], h, cu, su) := by
  have r1 := hr (6 * n + 1)
  refine ev_aload_n rfl ?_
  refine ev_aload_n rfl ?_
  refine ev_iload_n rfl ?_
  refine ev_iconst ?_
  refine ev_iadd (r := 6 * (n : Int) + 1) (by unfold w32; omega) ?_
  refine ev_sald (j := 6 * n + 1) (by omega) (by simp only [jxin, decide_eq_true_eq]; omega) rfl ?_
  refine ev_call (jcall_v (A := [(0, xs (6 * n + 1))]) (S' := []) (r := 0) rfl (g.lt ad0) (g.tg ad0) (Nat.le_of_ble_eq_true rfl)) (jOk_le (by decide) (s198 g (by omega) (by omega))) (by omega) (by omega) (fun w1 h1 q1 => ?_)
  obtain ⟨v1, rfl, b1, c1, g1, k1⟩ := q1
  have z1 := k1.1
  have rl1 := Rl.kp rl k1 (by decide)
  show jEv _ _ _ _ _ _ _ (_, [(2, -2), (2, 0), (2, 42), (0, 6 * (n : Int))], [(0, v1)], _, _, _)
  refine ev_pop (by decide) ?_
  refine ev_aload_n rfl ?_
  refine ev_aload_n rfl ?_
  refine ev_iload_n rfl ?_
  refine ev_iconst ?_
  refine ev_iadd (r := 6 * (n : Int) + 1) (by unfold w32; omega) ?_
  refine ev_sald (j := 6 * n + 1) (by omega) (by simp only [jxin, decide_eq_true_eq]; omega) rfl ?_
  refine ev_call (jcall_v (A := [(0, xs (6 * n + 1))]) (S' := []) (r := 42) rfl (g1.lt ad42) (g1.tg ad42) (Nat.le_of_ble_eq_true rfl)) (jOk_le (by decide) (s336 g1 (by omega) (by omega))) (by omega) (by omega) (fun w2 h2 q2 => ?_)
  obtain ⟨v2, rfl, b2, c2, g2, k2⟩ := q2
  have z2 := k2.1
  have rl2 := Rl.kp rl1 k2 (by decide)
  show jEv _ _ _ _ _ _ _ (_, [(2, -2), (2, 0), (2, 42), (0, 6 * (n : Int))], [(0, v2)], _, _, _)
  refine ev_pop (by decide) ?_
  refine ev_goto f384_2179 ?_
  exact kk _ _ _ _ g2 (by omega) (by omega) (by omega) rl2

set_option maxHeartbeats 4000000 in
theorem case_33 {xs : Nat → Int} (hr : ∀ j, -2147483648 ≤ xs j ∧ xs j < 2147483648) {L n : Nat} (hL : 6 * n + 6 ≤ L) (hn : n < 64) {G : GH} {h : JH} {cu su : Nat} (g : Gd G h) (hB : h.1 ≤ 83 + 13 * n) (hc : cu ≤ 83 + 13 * n) (hs : su ≤ 23761 + 1814 * n) (rl : Rl h) (kk : ∀ (G' : GH) (h' : JH) (cu' su' : Nat), Gd G' h' → h'.1 ≤ 83 + 13 * (n + 1) → cu' ≤ 83 + 13 * (n + 1) → su' ≤ 23761 + 1814 * (n + 1) → Rl h' → jEv (jOk 800) (some L) xs c384_0 600000 7302250 (fun v _ => v = some (0, 1)) (c384_2179, [(2, -2), (2, 0), (2, 42), (0, 6 * (n : Int))], [], h', cu', su')) : jEv (jOk 800) (some L) xs c384_0 600000 7302250 (fun v _ => v = some (0, 1)) (c384_1429, [(2, -2), (2, 0), (2, 42), (0, 6 * (n : Int))], [], h, cu, su) := by
  have r1 := hr (6 * n + 1)
  refine ev_aload_n rfl ?_
  refine ev_aload_n rfl ?_
  refine ev_iload_n rfl ?_
  refine ev_iconst ?_
  refine ev_iadd (r := 6 * (n : Int) + 1) (by unfold w32; omega) ?_
  refine ev_sald (j := 6 * n + 1) (by omega) (by simp only [jxin, decide_eq_true_eq]; omega) rfl ?_
  refine ev_call (jcall_v (A := [(0, xs (6 * n + 1))]) (S' := []) (r := 0) rfl (g.lt ad0) (g.tg ad0) (Nat.le_of_ble_eq_true rfl)) (jOk_le (by decide) (s199 g (by omega) (by omega))) (by omega) (by omega) (fun w1 h1 q1 => ?_)
  obtain ⟨v1, rfl, b1, c1, g1, k1⟩ := q1
  have z1 := k1.1
  have rl1 := Rl.kp rl k1 (by decide)
  show jEv _ _ _ _ _ _ _ (_, [(2, -2), (2, 0), (2, 42), (0, 6 * (n : Int))], [(0, v1)], _, _, _)
  refine ev_pop (by decide) ?_
  refine ev_aload_n rfl ?_
  refine ev_aload_n rfl ?_
  refine ev_iload_n rfl ?_
  refine ev_iconst ?_
  refine ev_iadd (r := 6 * (n : Int) + 1) (by unfold w32; omega) ?_
  refine ev_sald (j := 6 * n + 1) (by omega) (by simp only [jxin, decide_eq_true_eq]; omega) rfl ?_
  refine ev_call (jcall_v (A := [(0, xs (6 * n + 1))]) (S' := []) (r := 42) rfl (g1.lt ad42) (g1.tg ad42) (Nat.le_of_ble_eq_true rfl)) (jOk_le (by decide) (s338 g1 (by omega) (by omega))) (by omega) (by omega) (fun w2 h2 q2 => ?_)
  obtain ⟨v2, rfl, b2, c2, g2, k2⟩ := q2
  have z2 := k2.1
  have rl2 := Rl.kp rl1 k2 (by decide)
  show jEv _ _ _ _ _ _ _ (_, [(2, -2), (2, 0), (2, 42), (0, 6 * (n : Int))], [(0, v2)], _, _, _)
  refine ev_pop (by decide) ?_
  refine ev_goto f384_2179 ?_
  exact kk _ _ _ _ g2 (by omega) (by omega) (by omega) rl2

set_option maxHeartbeats 4000000 in
theorem case_34 {xs : Nat → Int} (hr : ∀ j, -2147483648 ≤ xs j ∧ xs j < 2147483648) {L n : Nat} (hL : 6 * n + 6 ≤ L) (hn : n < 64) {G : GH} {h : JH} {cu su : Nat} (g : Gd G h) (hB : h.1 ≤ 83 + 13 * n) (hc : cu ≤ 83 + 13 * n) (hs : su ≤ 23761 + 1814 * n) (rl : Rl h) (kk : ∀ (G' : GH) (h' : JH) (cu' su' : Nat), Gd G' h' → h'.1 ≤ 83 + 13 * (n + 1) → cu' ≤ 83 + 13 * (n + 1) → su' ≤ 23761 + 1814 * (n + 1) → Rl h' → jEv (jOk 800) (some L) xs c384_0 600000 7302250 (fun v _ => v = some (0, 1)) (c384_2179, [(2, -2), (2, 0), (2, 42), (0, 6 * (n : Int))], [], h', cu', su')) : jEv (jOk 800) (some L) xs c384_0 600000 7302250 (fun v _ => v = some (0, 1)) (c384_1452, [(2, -2), (2, 0), (2, 42), (0, 6 * (n : Int))], [], h, cu, su) := by
  have r1 := hr (6 * n + 1)
  have r2 := hr (6 * n + 2)
  have r3 := hr (6 * n + 3)
  refine ev_aload_n rfl ?_
  refine ev_aload_n rfl ?_
  refine ev_iload_n rfl ?_
  refine ev_iconst ?_
  refine ev_iadd (r := 6 * (n : Int) + 1) (by unfold w32; omega) ?_
  refine ev_sald (j := 6 * n + 1) (by omega) (by simp only [jxin, decide_eq_true_eq]; omega) rfl ?_
  refine ev_aload_n rfl ?_
  refine ev_iload_n rfl ?_
  refine ev_iconst ?_
  refine ev_iadd (r := 6 * (n : Int) + 2) (by unfold w32; omega) ?_
  refine ev_sald (j := 6 * n + 2) (by omega) (by simp only [jxin, decide_eq_true_eq]; omega) rfl ?_
  refine ev_aload_n rfl ?_
  refine ev_iload_n rfl ?_
  refine ev_iconst ?_
  refine ev_iadd (r := 6 * (n : Int) + 3) (by unfold w32; omega) ?_
  refine ev_sald (j := 6 * n + 3) (by omega) (by simp only [jxin, decide_eq_true_eq]; omega) rfl ?_
  refine ev_call (jcall_v (A := [(0, xs (6 * n + 3)), (0, xs (6 * n + 2)), (0, xs (6 * n + 1))]) (S' := []) (r := 0) rfl (g.lt ad0) (g.tg ad0) (Nat.le_of_ble_eq_true rfl)) (jOk_le (by decide) (s200 g (by omega) (by omega) (by omega) (by omega) (by omega) (by omega))) (by omega) (by omega) (fun w1 h1 q1 => ?_)
  obtain ⟨v1, rfl, b1, c1, g1, k1⟩ := q1
  have z1 := k1.1
  have rl1 := Rl.kp rl k1 (by decide)
  show jEv _ _ _ _ _ _ _ (_, [(2, -2), (2, 0), (2, 42), (0, 6 * (n : Int))], [(0, v1)], _, _, _)
  refine ev_pop (by decide) ?_
  refine ev_aload_n rfl ?_
  refine ev_aload_n rfl ?_
  refine ev_iload_n rfl ?_
  refine ev_iconst ?_
  refine ev_iadd (r := 6 * (n : Int) + 1) (by unfold w32; omega) ?_
  refine ev_sald (j := 6 * n + 1) (by omega) (by simp only [jxin, decide_eq_true_eq]; omega) rfl ?_
  refine ev_aload_n rfl ?_
  refine ev_iload_n rfl ?_
  refine ev_iconst ?_
  refine ev_iadd (r := 6 * (n : Int) + 2) (by unfold w32; omega) ?_
  refine ev_sald (j := 6 * n + 2) (by omega) (by simp only [jxin, decide_eq_true_eq]; omega) rfl ?_
  refine ev_aload_n rfl ?_
  refine ev_iload_n rfl ?_
  refine ev_iconst ?_
  refine ev_iadd (r := 6 * (n : Int) + 3) (by unfold w32; omega) ?_
  refine ev_sald (j := 6 * n + 3) (by omega) (by simp only [jxin, decide_eq_true_eq]; omega) rfl ?_
  refine ev_call (jcall_v (A := [(0, xs (6 * n + 3)), (0, xs (6 * n + 2)), (0, xs (6 * n + 1))]) (S' := []) (r := 42) rfl (g1.lt ad42) (g1.tg ad42) (Nat.le_of_ble_eq_true rfl)) (jOk_le (by decide) (s339 g1 (by omega) (by omega) (by omega) (by omega) (by omega) (by omega))) (by omega) (by omega) (fun w2 h2 q2 => ?_)
  obtain ⟨v2, rfl, b2, c2, g2, k2⟩ := q2
  have z2 := k2.1
  have rl2 := Rl.kp rl1 k2 (by decide)
  show jEv _ _ _ _ _ _ _ (_, [(2, -2), (2, 0), (2, 42), (0, 6 * (n : Int))], [(0, v2)], _, _, _)
  refine ev_pop (by decide) ?_
  refine ev_goto f384_2179 ?_
  exact kk _ _ _ _ g2 (by omega) (by omega) (by omega) rl2

set_option maxHeartbeats 4000000 in
theorem case_35 {xs : Nat → Int} (hr : ∀ j, -2147483648 ≤ xs j ∧ xs j < 2147483648) {L n : Nat} (hL : 6 * n + 6 ≤ L) (hn : n < 64) {G : GH} {h : JH} {cu su : Nat} (g : Gd G h) (hB : h.1 ≤ 83 + 13 * n) (hc : cu ≤ 83 + 13 * n) (hs : su ≤ 23761 + 1814 * n) (rl : Rl h) (kk : ∀ (G' : GH) (h' : JH) (cu' su' : Nat), Gd G' h' → h'.1 ≤ 83 + 13 * (n + 1) → cu' ≤ 83 + 13 * (n + 1) → su' ≤ 23761 + 1814 * (n + 1) → Rl h' → jEv (jOk 800) (some L) xs c384_0 600000 7302250 (fun v _ => v = some (0, 1)) (c384_2179, [(2, -2), (2, 0), (2, 42), (0, 6 * (n : Int))], [], h', cu', su')) : jEv (jOk 800) (some L) xs c384_0 600000 7302250 (fun v _ => v = some (0, 1)) (c384_1495, [(2, -2), (2, 0), (2, 42), (0, 6 * (n : Int))], [], h, cu, su) := by
  have r1 := hr (6 * n + 1)
  refine ev_aload_n rfl ?_
  refine ev_aload_n rfl ?_
  refine ev_iload_n rfl ?_
  refine ev_iconst ?_
  refine ev_iadd (r := 6 * (n : Int) + 1) (by unfold w32; omega) ?_
  refine ev_sald (j := 6 * n + 1) (by omega) (by simp only [jxin, decide_eq_true_eq]; omega) rfl ?_
  refine ev_call (jcall_v (A := [(0, xs (6 * n + 1))]) (S' := []) (r := 0) rfl (g.lt ad0) (g.tg ad0) (Nat.le_of_ble_eq_true rfl)) (jOk_le (by decide) (s201 g (by omega) (by omega))) (by omega) (by omega) (fun w1 h1 q1 => ?_)
  obtain ⟨v1, rfl, b1, c1, g1, k1⟩ := q1
  have z1 := k1.1
  have rl1 := Rl.kp rl k1 (by decide)
  show jEv _ _ _ _ _ _ _ (_, [(2, -2), (2, 0), (2, 42), (0, 6 * (n : Int))], [(0, v1)], _, _, _)
  refine ev_pop (by decide) ?_
  refine ev_aload_n rfl ?_
  refine ev_aload_n rfl ?_
  refine ev_iload_n rfl ?_
  refine ev_iconst ?_
  refine ev_iadd (r := 6 * (n : Int) + 1) (by unfold w32; omega) ?_
  refine ev_sald (j := 6 * n + 1) (by omega) (by simp only [jxin, decide_eq_true_eq]; omega) rfl ?_
  refine ev_call (jcall_v (A := [(0, xs (6 * n + 1))]) (S' := []) (r := 42) rfl (g1.lt ad42) (g1.tg ad42) (Nat.le_of_ble_eq_true rfl)) (jOk_le (by decide) (s340 g1 (by omega) (by omega))) (by omega) (by omega) (fun w2 h2 q2 => ?_)
  obtain ⟨v2, rfl, b2, c2, g2, k2⟩ := q2
  have z2 := k2.1
  have rl2 := Rl.kp rl1 k2 (by decide)
  show jEv _ _ _ _ _ _ _ (_, [(2, -2), (2, 0), (2, 42), (0, 6 * (n : Int))], [(0, v2)], _, _, _)
  refine ev_pop (by decide) ?_
  refine ev_goto f384_2179 ?_
  exact kk _ _ _ _ g2 (by omega) (by omega) (by omega) rl2
