/-! edge -/
set_option maxHeartbeats 4000000 in
theorem case_24 {xs : Nat → Int} (hr : ∀ j, -2147483648 ≤ xs j ∧ xs j < 2147483648) {h : JH} (hF : Fresh h) : jEv (jOk 8) (some 6) xs c384_0 600000 7302250 (fun v _ => v = some (0, 1)) (c384_1090, [(2, -2), (2, 0), (2, 42), (0, 0)], [], h, 83, 23761) := by
  have r1 := hr 1
  have r2 := hr 2
  have r3 := hr 3
  have r4 := hr 4
  have r5 := hr 5
  refine ev_aload_n rfl ?_
  refine ev_aload_n rfl ?_
  refine ev_iload_n rfl ?_
  refine ev_iconst ?_
  refine ev_iadd (r := 1) (by decide) ?_
  refine ev_sald (j := 1) (v := (xs 1)) rfl rfl rfl ?_
  refine ev_aload_n rfl ?_
  refine ev_iload_n rfl ?_
  refine ev_iconst ?_
  refine ev_iadd (r := 2) (by decide) ?_
  refine ev_sald (j := 2) (v := (xs 2)) rfl rfl rfl ?_
  refine ev_aload_n rfl ?_
  refine ev_iload_n rfl ?_
  refine ev_iconst ?_
  refine ev_iadd (r := 3) (by decide) ?_
  refine ev_sald (j := 3) (v := (xs 3)) rfl rfl rfl ?_
  refine ev_in (d := 7) (a := 0) (b := 0) (cd' := c190_0) (m := 5) (L0 := [(2, 0), (0, (xs 1)), (0, (xs 2)), (0, (xs 3)), (9, 0)]) (jcall_v (A := [(0, (xs 3)), (0, (xs 2)), (0, (xs 1))]) (S' := []) (r := 0) rfl (hF.1.lt (by decide)) (hF.1.sh (by decide) rfl).1 (Nat.le_of_ble_eq_true rfl)) (by decide) ml190 pp190 (Nat.le_of_ble_eq_true rfl) rfl (by decide) (by decide) ?_
  refine ev_aload_n rfl ?_
  refine ev_iload_n rfl ?_
  refine ev_in (d := 6) (a := 0) (b := 0) (cd' := c219_0) (m := 2) (L0 := [(2, 0), (0, (xs 1))]) (jcall_v (A := [(0, (xs 1))]) (S' := []) (r := 0) rfl (hF.1.lt (by decide)) (hF.1.sh (by decide) rfl).1 (Nat.le_of_ble_eq_true rfl)) (by decide) ml219 pp219 (Nat.le_of_ble_eq_true rfl) rfl (by decide) (by decide) ?_
  refine ev_iload_n rfl ?_
  refine ev_iflt f219_12 (fun c1 => ?_) (fun c1 => ?_)
  · refine ev_aconst_null ?_
    refine ev_goto f219_22 ?_
    refine ev_ret rfl (by decide) (by decide) ?_
    show jEv _ _ _ _ _ _ _ (_, [(2, 0), (0, (xs 1)), (0, (xs 2)), (0, (xs 3)), (9, 0)], [(2, (-1))], _, _, _)
    refine ev_astore (L' := [(2, 0), (0, (xs 1)), (0, (xs 2)), (0, (xs 3)), (2, (-1))]) (Nat.le_of_ble_eq_true rfl) rfl ?_
    refine ev_aload rfl ?_
    refine ev_ifnull f190_50 (fun c2 => ?_) (fun c2 => absurd c2 (by decide))
    refine ev_iconst ?_
    refine ev_ret rfl (by decide) (by decide) ?_
    show jEv _ _ _ _ _ _ _ (_, [(2, (-2)), (2, 0), (2, 42), (0, 0)], [(0, (-1))], _, _, _)
    refine ev_aload_n rfl ?_
    refine ev_aload_n rfl ?_
    refine ev_iload_n rfl ?_
    refine ev_iconst ?_
    refine ev_iadd (r := 1) (by decide) ?_
    refine ev_sald (j := 1) (v := (xs 1)) rfl rfl rfl ?_
    refine ev_aload_n rfl ?_
    refine ev_iload_n rfl ?_
    refine ev_iconst ?_
    refine ev_iadd (r := 2) (by decide) ?_
    refine ev_sald (j := 2) (v := (xs 2)) rfl rfl rfl ?_
    refine ev_aload_n rfl ?_
    refine ev_iload_n rfl ?_
    refine ev_iconst ?_
    refine ev_iadd (r := 3) (by decide) ?_
    refine ev_sald (j := 3) (v := (xs 3)) rfl rfl rfl ?_
    refine ev_in (d := 7) (a := 0) (b := 0) (cd' := c319_0) (m := 4) (L0 := [(2, 42), (0, (xs 1)), (0, (xs 2)), (0, (xs 3))]) (jcall_v (A := [(0, (xs 3)), (0, (xs 2)), (0, (xs 1))]) (S' := [(0, (-1))]) (r := 42) rfl (hF.1.lt (by decide)) (hF.1.sh (by decide) rfl).1 (Nat.le_of_ble_eq_true rfl)) (by decide) ml319 pp319 (Nat.le_of_ble_eq_true rfl) rfl (by decide) (by decide) ?_
    refine ev_aload_n rfl ?_
    refine ev_iload_n rfl ?_
    refine ev_in (d := 6) (a := 0) (b := 0) (cd' := c261_0) (m := 2) (L0 := [(2, 42), (0, (xs 1))]) (jcall_v (A := [(0, (xs 1))]) (S' := []) (r := 42) rfl (hF.1.lt (by decide)) (hF.1.sh (by decide) rfl).1 (Nat.le_of_ble_eq_true rfl)) (by decide) ml261 pp261 (Nat.le_of_ble_eq_true rfl) rfl (by decide) (by decide) ?_
    refine ev_iload_n rfl ?_
    refine ev_iconst ?_
    refine ev_aload_n rfl ?_
    refine ev_getf (r := 42) (v := 0) (hF.1.lt (by decide)) (hF.1.fam (by decide) (by decide)) ft12_9 ((hF.v rfl)) ?_
    refine ev_iconst ?_
    refine ev_isub (r := (-1)) (by decide) ?_
    refine ev_in (d := 5) (a := 0) (b := 0) (cd' := c242_0) (m := 3) (L0 := [(0, (xs 1)), (0, 0), (0, (-1))]) (jcall_s (A := [(0, (-1)), (0, 0), (0, (xs 1))]) (S' := []) (by decide) rfl (Nat.le_of_ble_eq_true rfl)) (by decide) ml242 pp242 (Nat.le_of_ble_eq_true rfl) rfl (by decide) (by decide) ?_
    refine ev_iload_n rfl ?_
    refine ev_iload_n rfl ?_
    refine ev_icmplt f242_14 (fun c3 => ?_) (fun c3 => absurd c3 (by omega))
    refine ev_iconst ?_
    refine ev_ret rfl (by decide) (by decide) ?_
    show jEv _ _ _ _ _ _ _ (_, [(2, 42), (0, (xs 1))], [(0, 0)], _, _, _)
    refine ev_ret rfl (by decide) (by decide) ?_
    show jEv _ _ _ _ _ _ _ (_, [(2, 42), (0, (xs 1)), (0, (xs 2)), (0, (xs 3))], [(0, 0)], _, _, _)
    refine ev_ifeq f319_43 (fun c4 => ?_) (fun c4 => absurd c4 (by omega))
    refine ev_iconst ?_
    refine ev_ret rfl (by decide) (by decide) ?_
    show jEv _ _ _ _ _ _ _ (_, [(2, (-2)), (2, 0), (2, 42), (0, 0)], [(0, (-1)), (0, (-1))], _, _, _)
    refine ev_icmpeq f384_2190 (fun c5 => ?_) (fun c5 => absurd c5 (by omega))
    exact law_tail _
  · refine ev_iload_n rfl ?_
    refine ev_aload_n rfl ?_
    refine ev_getf (r := 0) (v := 0) (hF.1.lt (by decide)) (hF.1.fam (by decide) (by decide)) ft11_3 ((hF.v rfl)) ?_
    refine ev_icmplt f219_16 (fun c6 => absurd c6 (by omega)) (fun c6 => ?_)
    refine ev_aconst_null ?_
    refine ev_goto f219_22 ?_
    refine ev_ret rfl (by decide) (by decide) ?_
    show jEv _ _ _ _ _ _ _ (_, [(2, 0), (0, (xs 1)), (0, (xs 2)), (0, (xs 3)), (9, 0)], [(2, (-1))], _, _, _)
    refine ev_astore (L' := [(2, 0), (0, (xs 1)), (0, (xs 2)), (0, (xs 3)), (2, (-1))]) (Nat.le_of_ble_eq_true rfl) rfl ?_
    refine ev_aload rfl ?_
    refine ev_ifnull f190_50 (fun c7 => ?_) (fun c7 => absurd c7 (by decide))
    refine ev_iconst ?_
    refine ev_ret rfl (by decide) (by decide) ?_
    show jEv _ _ _ _ _ _ _ (_, [(2, (-2)), (2, 0), (2, 42), (0, 0)], [(0, (-1))], _, _, _)
    refine ev_aload_n rfl ?_
    refine ev_aload_n rfl ?_
    refine ev_iload_n rfl ?_
    refine ev_iconst ?_
    refine ev_iadd (r := 1) (by decide) ?_
    refine ev_sald (j := 1) (v := (xs 1)) rfl rfl rfl ?_
    refine ev_aload_n rfl ?_
    refine ev_iload_n rfl ?_
    refine ev_iconst ?_
    refine ev_iadd (r := 2) (by decide) ?_
    refine ev_sald (j := 2) (v := (xs 2)) rfl rfl rfl ?_
    refine ev_aload_n rfl ?_
    refine ev_iload_n rfl ?_
    refine ev_iconst ?_
    refine ev_iadd (r := 3) (by decide) ?_
    refine ev_sald (j := 3) (v := (xs 3)) rfl rfl rfl ?_
    refine ev_in (d := 7) (a := 0) (b := 0) (cd' := c319_0) (m := 4) (L0 := [(2, 42), (0, (xs 1)), (0, (xs 2)), (0, (xs 3))]) (jcall_v (A := [(0, (xs 3)), (0, (xs 2)), (0, (xs 1))]) (S' := [(0, (-1))]) (r := 42) rfl (hF.1.lt (by decide)) (hF.1.sh (by decide) rfl).1 (Nat.le_of_ble_eq_true rfl)) (by decide) ml319 pp319 (Nat.le_of_ble_eq_true rfl) rfl (by decide) (by decide) ?_
    refine ev_aload_n rfl ?_
    refine ev_iload_n rfl ?_
    refine ev_in (d := 6) (a := 0) (b := 0) (cd' := c261_0) (m := 2) (L0 := [(2, 42), (0, (xs 1))]) (jcall_v (A := [(0, (xs 1))]) (S' := []) (r := 42) rfl (hF.1.lt (by decide)) (hF.1.sh (by decide) rfl).1 (Nat.le_of_ble_eq_true rfl)) (by decide) ml261 pp261 (Nat.le_of_ble_eq_true rfl) rfl (by decide) (by decide) ?_
    refine ev_iload_n rfl ?_
    refine ev_iconst ?_
    refine ev_aload_n rfl ?_
    refine ev_getf (r := 42) (v := 0) (hF.1.lt (by decide)) (hF.1.fam (by decide) (by decide)) ft12_9 ((hF.v rfl)) ?_
    refine ev_iconst ?_
    refine ev_isub (r := (-1)) (by decide) ?_
    refine ev_in (d := 5) (a := 0) (b := 0) (cd' := c242_0) (m := 3) (L0 := [(0, (xs 1)), (0, 0), (0, (-1))]) (jcall_s (A := [(0, (-1)), (0, 0), (0, (xs 1))]) (S' := []) (by decide) rfl (Nat.le_of_ble_eq_true rfl)) (by decide) ml242 pp242 (Nat.le_of_ble_eq_true rfl) rfl (by decide) (by decide) ?_
    refine ev_iload_n rfl ?_
    refine ev_iload_n rfl ?_
    refine ev_icmplt f242_14 (fun c8 => absurd c8 (by omega)) (fun c8 => ?_)
    refine ev_iload_n rfl ?_
    refine ev_iload_n rfl ?_
    refine ev_icmpgt f242_14 (fun c9 => ?_) (fun c9 => absurd c9 (by omega))
    refine ev_iconst ?_
    refine ev_ret rfl (by decide) (by decide) ?_
    show jEv _ _ _ _ _ _ _ (_, [(2, 42), (0, (xs 1))], [(0, 0)], _, _, _)
    refine ev_ret rfl (by decide) (by decide) ?_
    show jEv _ _ _ _ _ _ _ (_, [(2, 42), (0, (xs 1)), (0, (xs 2)), (0, (xs 3))], [(0, 0)], _, _, _)
    refine ev_ifeq f319_43 (fun c10 => ?_) (fun c10 => absurd c10 (by omega))
    refine ev_iconst ?_
    refine ev_ret rfl (by decide) (by decide) ?_
    show jEv _ _ _ _ _ _ _ (_, [(2, (-2)), (2, 0), (2, 42), (0, 0)], [(0, (-1)), (0, (-1))], _, _, _)
    refine ev_icmpeq f384_2190 (fun c11 => ?_) (fun c11 => absurd c11 (by omega))
    exact law_tail _

/-! edgeOf -/
set_option maxHeartbeats 4000000 in
theorem case_25 {xs : Nat → Int} (hr : ∀ j, -2147483648 ≤ xs j ∧ xs j < 2147483648) {h : JH} (hF : Fresh h) : jEv (jOk 8) (some 6) xs c384_0 600000 7302250 (fun v _ => v = some (0, 1)) (c384_1133, [(2, -2), (2, 0), (2, 42), (0, 0)], [], h, 83, 23761) := by
  have r1 := hr 1
  have r2 := hr 2
  have r3 := hr 3
  have r4 := hr 4
  have r5 := hr 5
  refine ev_aload_n rfl ?_
  refine ev_aload_n rfl ?_
  refine ev_iload_n rfl ?_
  refine ev_iconst ?_
  refine ev_iadd (r := 1) (by decide) ?_
  refine ev_sald (j := 1) (v := (xs 1)) rfl rfl rfl ?_
  refine ev_aload_n rfl ?_
  refine ev_iload_n rfl ?_
  refine ev_iconst ?_
  refine ev_iadd (r := 2) (by decide) ?_
  refine ev_sald (j := 2) (v := (xs 2)) rfl rfl rfl ?_
  refine ev_aload_n rfl ?_
  refine ev_iload_n rfl ?_
  refine ev_iconst ?_
  refine ev_iadd (r := 3) (by decide) ?_
  refine ev_sald (j := 3) (v := (xs 3)) rfl rfl rfl ?_
  refine ev_aload_n rfl ?_
  refine ev_iload_n rfl ?_
  refine ev_iconst ?_
  refine ev_iadd (r := 4) (by decide) ?_
  refine ev_sald (j := 4) (v := (xs 4)) rfl rfl rfl ?_
  refine ev_in (d := 7) (a := 0) (b := 0) (cd' := c191_0) (m := 7) (L0 := [(2, 0), (0, (xs 1)), (0, (xs 2)), (0, (xs 3)), (0, (xs 4)), (9, 0), (9, 0)]) (jcall_v (A := [(0, (xs 4)), (0, (xs 3)), (0, (xs 2)), (0, (xs 1))]) (S' := []) (r := 0) rfl (hF.1.lt (by decide)) (hF.1.sh (by decide) rfl).1 (Nat.le_of_ble_eq_true rfl)) (by decide) ml191 pp191 (Nat.le_of_ble_eq_true rfl) rfl (by decide) (by decide) ?_
  refine ev_aload_n rfl ?_
  refine ev_iload_n rfl ?_
  refine ev_in (d := 6) (a := 0) (b := 0) (cd' := c219_0) (m := 2) (L0 := [(2, 0), (0, (xs 1))]) (jcall_v (A := [(0, (xs 1))]) (S' := []) (r := 0) rfl (hF.1.lt (by decide)) (hF.1.sh (by decide) rfl).1 (Nat.le_of_ble_eq_true rfl)) (by decide) ml219 pp219 (Nat.le_of_ble_eq_true rfl) rfl (by decide) (by decide) ?_
  refine ev_iload_n rfl ?_
  refine ev_iflt f219_12 (fun c1 => ?_) (fun c1 => ?_)
  · refine ev_aconst_null ?_
    refine ev_goto f219_22 ?_
    refine ev_ret rfl (by decide) (by decide) ?_
    show jEv _ _ _ _ _ _ _ (_, [(2, 0), (0, (xs 1)), (0, (xs 2)), (0, (xs 3)), (0, (xs 4)), (9, 0), (9, 0)], [(2, (-1))], _, _, _)
    refine ev_astore (L' := [(2, 0), (0, (xs 1)), (0, (xs 2)), (0, (xs 3)), (0, (xs 4)), (2, (-1)), (9, 0)]) (Nat.le_of_ble_eq_true rfl) rfl ?_
    refine ev_aload rfl ?_
    refine ev_ifnull f191_33 (fun c2 => ?_) (fun c2 => absurd c2 (by decide))
    refine ev_iconst ?_
    refine ev_ret rfl (by decide) (by decide) ?_
    show jEv _ _ _ _ _ _ _ (_, [(2, (-2)), (2, 0), (2, 42), (0, 0)], [(0, (-1))], _, _, _)
    refine ev_aload_n rfl ?_
    refine ev_aload_n rfl ?_
    refine ev_iload_n rfl ?_
    refine ev_iconst ?_
    refine ev_iadd (r := 1) (by decide) ?_
    refine ev_sald (j := 1) (v := (xs 1)) rfl rfl rfl ?_
    refine ev_aload_n rfl ?_
    refine ev_iload_n rfl ?_
    refine ev_iconst ?_
    refine ev_iadd (r := 2) (by decide) ?_
    refine ev_sald (j := 2) (v := (xs 2)) rfl rfl rfl ?_
    refine ev_aload_n rfl ?_
    refine ev_iload_n rfl ?_
    refine ev_iconst ?_
    refine ev_iadd (r := 3) (by decide) ?_
    refine ev_sald (j := 3) (v := (xs 3)) rfl rfl rfl ?_
    refine ev_aload_n rfl ?_
    refine ev_iload_n rfl ?_
    refine ev_iconst ?_
    refine ev_iadd (r := 4) (by decide) ?_
    refine ev_sald (j := 4) (v := (xs 4)) rfl rfl rfl ?_
    refine ev_in (d := 7) (a := 0) (b := 0) (cd' := c320_0) (m := 5) (L0 := [(2, 42), (0, (xs 1)), (0, (xs 2)), (0, (xs 3)), (0, (xs 4))]) (jcall_v (A := [(0, (xs 4)), (0, (xs 3)), (0, (xs 2)), (0, (xs 1))]) (S' := [(0, (-1))]) (r := 42) rfl (hF.1.lt (by decide)) (hF.1.sh (by decide) rfl).1 (Nat.le_of_ble_eq_true rfl)) (by decide) ml320 pp320 (Nat.le_of_ble_eq_true rfl) rfl (by decide) (by decide) ?_
    refine ev_aload_n rfl ?_
    refine ev_iload_n rfl ?_
    refine ev_iload_n rfl ?_
    refine ev_iload_n rfl ?_
    refine ev_in (d := 6) (a := 0) (b := 0) (cd' := c278_0) (m := 4) (L0 := [(2, 42), (0, (xs 1)), (0, (xs 2)), (0, (xs 3))]) (jcall_v (A := [(0, (xs 3)), (0, (xs 2)), (0, (xs 1))]) (S' := []) (r := 42) rfl (hF.1.lt (by decide)) (hF.1.sh (by decide) rfl).1 (Nat.le_of_ble_eq_true rfl)) (by decide) ml278 pp278 (Nat.le_of_ble_eq_true rfl) rfl (by decide) (by decide) ?_
    refine ev_iload_n rfl ?_
    refine ev_iconst ?_
    refine ev_icmpne f278_36 (fun c3 => ?_) (fun c3 => ?_)
    · refine ev_aload_n rfl ?_
      refine ev_iload_n rfl ?_
      refine ev_iload_n rfl ?_
      refine ev_in (d := 5) (a := 0) (b := 0) (cd' := c277_0) (m := 3) (L0 := [(2, 42), (0, (xs 1)), (0, (xs 2))]) (jcall_v (A := [(0, (xs 2)), (0, (xs 1))]) (S' := []) (r := 42) rfl (hF.1.lt (by decide)) (hF.1.sh (by decide) rfl).1 (Nat.le_of_ble_eq_true rfl)) (by decide) ml277 pp277 (Nat.le_of_ble_eq_true rfl) rfl (by decide) (by decide) ?_
      refine ev_aload_n rfl ?_
      refine ev_iload_n rfl ?_
      refine ev_iload_n rfl ?_
      refine ev_in (d := 4) (a := 0) (b := 0) (cd' := c262_0) (m := 3) (L0 := [(2, 42), (0, (xs 1)), (0, (xs 2))]) (jcall_v (A := [(0, (xs 2)), (0, (xs 1))]) (S' := []) (r := 42) rfl (hF.1.lt (by decide)) (hF.1.sh (by decide) rfl).1 (Nat.le_of_ble_eq_true rfl)) (by decide) ml262 pp262 (Nat.le_of_ble_eq_true rfl) rfl (by decide) (by decide) ?_
      refine ev_aload_n rfl ?_
      refine ev_iload_n rfl ?_
      refine ev_in (d := 3) (a := 0) (b := 0) (cd' := c261_0) (m := 2) (L0 := [(2, 42), (0, (xs 1))]) (jcall_v (A := [(0, (xs 1))]) (S' := []) (r := 42) rfl (hF.1.lt (by decide)) (hF.1.sh (by decide) rfl).1 (Nat.le_of_ble_eq_true rfl)) (by decide) ml261 pp261 (Nat.le_of_ble_eq_true rfl) rfl (by decide) (by decide) ?_
      refine ev_iload_n rfl ?_
      refine ev_iconst ?_
      refine ev_aload_n rfl ?_
      refine ev_getf (r := 42) (v := 0) (hF.1.lt (by decide)) (hF.1.fam (by decide) (by decide)) ft12_9 ((hF.v rfl)) ?_
      refine ev_iconst ?_
      refine ev_isub (r := (-1)) (by decide) ?_
      refine ev_in (d := 2) (a := 0) (b := 0) (cd' := c242_0) (m := 3) (L0 := [(0, (xs 1)), (0, 0), (0, (-1))]) (jcall_s (A := [(0, (-1)), (0, 0), (0, (xs 1))]) (S' := []) (by decide) rfl (Nat.le_of_ble_eq_true rfl)) (by decide) ml242 pp242 (Nat.le_of_ble_eq_true rfl) rfl (by decide) (by decide) ?_
      refine ev_iload_n rfl ?_
      refine ev_iload_n rfl ?_
      refine ev_icmplt f242_14 (fun c4 => ?_) (fun c4 => absurd c4 (by omega))
      refine ev_iconst ?_
      refine ev_ret rfl (by decide) (by decide) ?_
      show jEv _ _ _ _ _ _ _ (_, [(2, 42), (0, (xs 1))], [(0, 0)], _, _, _)
      refine ev_ret rfl (by decide) (by decide) ?_
      show jEv _ _ _ _ _ _ _ (_, [(2, 42), (0, (xs 1)), (0, (xs 2))], [(0, 0)], _, _, _)
      refine ev_ifeq f262_28 (fun c5 => ?_) (fun c5 => absurd c5 (by omega))
      refine ev_iconst ?_
      refine ev_ret rfl (by decide) (by decide) ?_
      show jEv _ _ _ _ _ _ _ (_, [(2, 42), (0, (xs 1)), (0, (xs 2))], [(0, 0)], _, _, _)
      refine ev_ifeq f277_28 (fun c6 => ?_) (fun c6 => absurd c6 (by omega))
      refine ev_iconst ?_
      refine ev_ret rfl (by decide) (by decide) ?_
      show jEv _ _ _ _ _ _ _ (_, [(2, 42), (0, (xs 1)), (0, (xs 2)), (0, (xs 3))], [(0, 0)], _, _, _)
      refine ev_ifeq f278_70 (fun c7 => ?_) (fun c7 => absurd c7 (by omega))
      refine ev_iconst ?_
      refine ev_ret rfl (by decide) (by decide) ?_
      show jEv _ _ _ _ _ _ _ (_, [(2, 42), (0, (xs 1)), (0, (xs 2)), (0, (xs 3)), (0, (xs 4))], [(0, 0)], _, _, _)
      refine ev_ifeq f320_20 (fun c8 => ?_) (fun c8 => absurd c8 (by omega))
      refine ev_iconst ?_
      refine ev_ret rfl (by decide) (by decide) ?_
      show jEv _ _ _ _ _ _ _ (_, [(2, (-2)), (2, 0), (2, 42), (0, 0)], [(0, (-1)), (0, (-1))], _, _, _)
      refine ev_icmpeq f384_2190 (fun c9 => ?_) (fun c9 => absurd c9 (by omega))
      exact law_tail _
    · refine ev_aload_n rfl ?_
      refine ev_iload_n rfl ?_
      refine ev_iload_n rfl ?_
      refine ev_in (d := 5) (a := 0) (b := 0) (cd' := c262_0) (m := 3) (L0 := [(2, 42), (0, (xs 1)), (0, (xs 2))]) (jcall_v (A := [(0, (xs 2)), (0, (xs 1))]) (S' := []) (r := 42) rfl (hF.1.lt (by decide)) (hF.1.sh (by decide) rfl).1 (Nat.le_of_ble_eq_true rfl)) (by decide) ml262 pp262 (Nat.le_of_ble_eq_true rfl) rfl (by decide) (by decide) ?_
      refine ev_aload_n rfl ?_
      refine ev_iload_n rfl ?_
      refine ev_in (d := 4) (a := 0) (b := 0) (cd' := c261_0) (m := 2) (L0 := [(2, 42), (0, (xs 1))]) (jcall_v (A := [(0, (xs 1))]) (S' := []) (r := 42) rfl (hF.1.lt (by decide)) (hF.1.sh (by decide) rfl).1 (Nat.le_of_ble_eq_true rfl)) (by decide) ml261 pp261 (Nat.le_of_ble_eq_true rfl) rfl (by decide) (by decide) ?_
      refine ev_iload_n rfl ?_
      refine ev_iconst ?_
      refine ev_aload_n rfl ?_
      refine ev_getf (r := 42) (v := 0) (hF.1.lt (by decide)) (hF.1.fam (by decide) (by decide)) ft12_9 ((hF.v rfl)) ?_
      refine ev_iconst ?_
      refine ev_isub (r := (-1)) (by decide) ?_
      refine ev_in (d := 3) (a := 0) (b := 0) (cd' := c242_0) (m := 3) (L0 := [(0, (xs 1)), (0, 0), (0, (-1))]) (jcall_s (A := [(0, (-1)), (0, 0), (0, (xs 1))]) (S' := []) (by decide) rfl (Nat.le_of_ble_eq_true rfl)) (by decide) ml242 pp242 (Nat.le_of_ble_eq_true rfl) rfl (by decide) (by decide) ?_
      refine ev_iload_n rfl ?_
      refine ev_iload_n rfl ?_
      refine ev_icmplt f242_14 (fun c10 => ?_) (fun c10 => absurd c10 (by omega))
      refine ev_iconst ?_
      refine ev_ret rfl (by decide) (by decide) ?_
      show jEv _ _ _ _ _ _ _ (_, [(2, 42), (0, (xs 1))], [(0, 0)], _, _, _)
      refine ev_ret rfl (by decide) (by decide) ?_
      show jEv _ _ _ _ _ _ _ (_, [(2, 42), (0, (xs 1)), (0, (xs 2))], [(0, 0)], _, _, _)
      refine ev_ifeq f262_28 (fun c11 => ?_) (fun c11 => absurd c11 (by omega))
      refine ev_iconst ?_
      refine ev_ret rfl (by decide) (by decide) ?_
      show jEv _ _ _ _ _ _ _ (_, [(2, 42), (0, (xs 1)), (0, (xs 2)), (0, (xs 3))], [(0, 0)], _, _, _)
      refine ev_ifeq f278_32 (fun c12 => ?_) (fun c12 => absurd c12 (by omega))
      refine ev_iconst ?_
      refine ev_goto f278_71 ?_
      refine ev_ret rfl (by decide) (by decide) ?_
      show jEv _ _ _ _ _ _ _ (_, [(2, 42), (0, (xs 1)), (0, (xs 2)), (0, (xs 3)), (0, (xs 4))], [(0, 0)], _, _, _)
      refine ev_ifeq f320_20 (fun c13 => ?_) (fun c13 => absurd c13 (by omega))
      refine ev_iconst ?_
      refine ev_ret rfl (by decide) (by decide) ?_
      show jEv _ _ _ _ _ _ _ (_, [(2, (-2)), (2, 0), (2, 42), (0, 0)], [(0, (-1)), (0, (-1))], _, _, _)
      refine ev_icmpeq f384_2190 (fun c14 => ?_) (fun c14 => absurd c14 (by omega))
      exact law_tail _
  · refine ev_iload_n rfl ?_
    refine ev_aload_n rfl ?_
    refine ev_getf (r := 0) (v := 0) (hF.1.lt (by decide)) (hF.1.fam (by decide) (by decide)) ft11_3 ((hF.v rfl)) ?_
    refine ev_icmplt f219_16 (fun c15 => absurd c15 (by omega)) (fun c15 => ?_)
    refine ev_aconst_null ?_
    refine ev_goto f219_22 ?_
    refine ev_ret rfl (by decide) (by decide) ?_
    show jEv _ _ _ _ _ _ _ (_, [(2, 0), (0, (xs 1)), (0, (xs 2)), (0, (xs 3)), (0, (xs 4)), (9, 0), (9, 0)], [(2, (-1))], _, _, _)
    refine ev_astore (L' := [(2, 0), (0, (xs 1)), (0, (xs 2)), (0, (xs 3)), (0, (xs 4)), (2, (-1)), (9, 0)]) (Nat.le_of_ble_eq_true rfl) rfl ?_
    refine ev_aload rfl ?_
    refine ev_ifnull f191_33 (fun c16 => ?_) (fun c16 => absurd c16 (by decide))
    refine ev_iconst ?_
    refine ev_ret rfl (by decide) (by decide) ?_
    show jEv _ _ _ _ _ _ _ (_, [(2, (-2)), (2, 0), (2, 42), (0, 0)], [(0, (-1))], _, _, _)
    refine ev_aload_n rfl ?_
    refine ev_aload_n rfl ?_
    refine ev_iload_n rfl ?_
    refine ev_iconst ?_
    refine ev_iadd (r := 1) (by decide) ?_
    refine ev_sald (j := 1) (v := (xs 1)) rfl rfl rfl ?_
    refine ev_aload_n rfl ?_
    refine ev_iload_n rfl ?_
    refine ev_iconst ?_
    refine ev_iadd (r := 2) (by decide) ?_
    refine ev_sald (j := 2) (v := (xs 2)) rfl rfl rfl ?_
    refine ev_aload_n rfl ?_
    refine ev_iload_n rfl ?_
    refine ev_iconst ?_
    refine ev_iadd (r := 3) (by decide) ?_
    refine ev_sald (j := 3) (v := (xs 3)) rfl rfl rfl ?_
    refine ev_aload_n rfl ?_
    refine ev_iload_n rfl ?_
    refine ev_iconst ?_
    refine ev_iadd (r := 4) (by decide) ?_
    refine ev_sald (j := 4) (v := (xs 4)) rfl rfl rfl ?_
    refine ev_in (d := 7) (a := 0) (b := 0) (cd' := c320_0) (m := 5) (L0 := [(2, 42), (0, (xs 1)), (0, (xs 2)), (0, (xs 3)), (0, (xs 4))]) (jcall_v (A := [(0, (xs 4)), (0, (xs 3)), (0, (xs 2)), (0, (xs 1))]) (S' := [(0, (-1))]) (r := 42) rfl (hF.1.lt (by decide)) (hF.1.sh (by decide) rfl).1 (Nat.le_of_ble_eq_true rfl)) (by decide) ml320 pp320 (Nat.le_of_ble_eq_true rfl) rfl (by decide) (by decide) ?_
    refine ev_aload_n rfl ?_
    refine ev_iload_n rfl ?_
    refine ev_iload_n rfl ?_
    refine ev_iload_n rfl ?_
    refine ev_in (d := 6) (a := 0) (b := 0) (cd' := c278_0) (m := 4) (L0 := [(2, 42), (0, (xs 1)), (0, (xs 2)), (0, (xs 3))]) (jcall_v (A := [(0, (xs 3)), (0, (xs 2)), (0, (xs 1))]) (S' := []) (r := 42) rfl (hF.1.lt (by decide)) (hF.1.sh (by decide) rfl).1 (Nat.le_of_ble_eq_true rfl)) (by decide) ml278 pp278 (Nat.le_of_ble_eq_true rfl) rfl (by decide) (by decide) ?_
    refine ev_iload_n rfl ?_
    refine ev_iconst ?_
    refine ev_icmpne f278_36 (fun c17 => ?_) (fun c17 => ?_)
    · refine ev_aload_n rfl ?_
      refine ev_iload_n rfl ?_
      refine ev_iload_n rfl ?_
      refine ev_in (d := 5) (a := 0) (b := 0) (cd' := c277_0) (m := 3) (L0 := [(2, 42), (0, (xs 1)), (0, (xs 2))]) (jcall_v (A := [(0, (xs 2)), (0, (xs 1))]) (S' := []) (r := 42) rfl (hF.1.lt (by decide)) (hF.1.sh (by decide) rfl).1 (Nat.le_of_ble_eq_true rfl)) (by decide) ml277 pp277 (Nat.le_of_ble_eq_true rfl) rfl (by decide) (by decide) ?_
      refine ev_aload_n rfl ?_
      refine ev_iload_n rfl ?_
      refine ev_iload_n rfl ?_
      refine ev_in (d := 4) (a := 0) (b := 0) (cd' := c262_0) (m := 3) (L0 := [(2, 42), (0, (xs 1)), (0, (xs 2))]) (jcall_v (A := [(0, (xs 2)), (0, (xs 1))]) (S' := []) (r := 42) rfl (hF.1.lt (by decide)) (hF.1.sh (by decide) rfl).1 (Nat.le_of_ble_eq_true rfl)) (by decide) ml262 pp262 (Nat.le_of_ble_eq_true rfl) rfl (by decide) (by decide) ?_
      refine ev_aload_n rfl ?_
      refine ev_iload_n rfl ?_
      refine ev_in (d := 3) (a := 0) (b := 0) (cd' := c261_0) (m := 2) (L0 := [(2, 42), (0, (xs 1))]) (jcall_v (A := [(0, (xs 1))]) (S' := []) (r := 42) rfl (hF.1.lt (by decide)) (hF.1.sh (by decide) rfl).1 (Nat.le_of_ble_eq_true rfl)) (by decide) ml261 pp261 (Nat.le_of_ble_eq_true rfl) rfl (by decide) (by decide) ?_
      refine ev_iload_n rfl ?_
      refine ev_iconst ?_
      refine ev_aload_n rfl ?_
      refine ev_getf (r := 42) (v := 0) (hF.1.lt (by decide)) (hF.1.fam (by decide) (by decide)) ft12_9 ((hF.v rfl)) ?_
      refine ev_iconst ?_
      refine ev_isub (r := (-1)) (by decide) ?_
      refine ev_in (d := 2) (a := 0) (b := 0) (cd' := c242_0) (m := 3) (L0 := [(0, (xs 1)), (0, 0), (0, (-1))]) (jcall_s (A := [(0, (-1)), (0, 0), (0, (xs 1))]) (S' := []) (by decide) rfl (Nat.le_of_ble_eq_true rfl)) (by decide) ml242 pp242 (Nat.le_of_ble_eq_true rfl) rfl (by decide) (by decide) ?_
      refine ev_iload_n rfl ?_
      refine ev_iload_n rfl ?_
      refine ev_icmplt f242_14 (fun c18 => absurd c18 (by omega)) (fun c18 => ?_)
      refine ev_iload_n rfl ?_
      refine ev_iload_n rfl ?_
      refine ev_icmpgt f242_14 (fun c19 => ?_) (fun c19 => absurd c19 (by omega))
      refine ev_iconst ?_
      refine ev_ret rfl (by decide) (by decide) ?_
      show jEv _ _ _ _ _ _ _ (_, [(2, 42), (0, (xs 1))], [(0, 0)], _, _, _)
      refine ev_ret rfl (by decide) (by decide) ?_
      show jEv _ _ _ _ _ _ _ (_, [(2, 42), (0, (xs 1)), (0, (xs 2))], [(0, 0)], _, _, _)
      refine ev_ifeq f262_28 (fun c20 => ?_) (fun c20 => absurd c20 (by omega))
      refine ev_iconst ?_
      refine ev_ret rfl (by decide) (by decide) ?_
      show jEv _ _ _ _ _ _ _ (_, [(2, 42), (0, (xs 1)), (0, (xs 2))], [(0, 0)], _, _, _)
      refine ev_ifeq f277_28 (fun c21 => ?_) (fun c21 => absurd c21 (by omega))
      refine ev_iconst ?_
      refine ev_ret rfl (by decide) (by decide) ?_
      show jEv _ _ _ _ _ _ _ (_, [(2, 42), (0, (xs 1)), (0, (xs 2)), (0, (xs 3))], [(0, 0)], _, _, _)
      refine ev_ifeq f278_70 (fun c22 => ?_) (fun c22 => absurd c22 (by omega))
      refine ev_iconst ?_
      refine ev_ret rfl (by decide) (by decide) ?_
      show jEv _ _ _ _ _ _ _ (_, [(2, 42), (0, (xs 1)), (0, (xs 2)), (0, (xs 3)), (0, (xs 4))], [(0, 0)], _, _, _)
      refine ev_ifeq f320_20 (fun c23 => ?_) (fun c23 => absurd c23 (by omega))
      refine ev_iconst ?_
      refine ev_ret rfl (by decide) (by decide) ?_
      show jEv _ _ _ _ _ _ _ (_, [(2, (-2)), (2, 0), (2, 42), (0, 0)], [(0, (-1)), (0, (-1))], _, _, _)
      refine ev_icmpeq f384_2190 (fun c24 => ?_) (fun c24 => absurd c24 (by omega))
      exact law_tail _
    · refine ev_aload_n rfl ?_
      refine ev_iload_n rfl ?_
      refine ev_iload_n rfl ?_
      refine ev_in (d := 5) (a := 0) (b := 0) (cd' := c262_0) (m := 3) (L0 := [(2, 42), (0, (xs 1)), (0, (xs 2))]) (jcall_v (A := [(0, (xs 2)), (0, (xs 1))]) (S' := []) (r := 42) rfl (hF.1.lt (by decide)) (hF.1.sh (by decide) rfl).1 (Nat.le_of_ble_eq_true rfl)) (by decide) ml262 pp262 (Nat.le_of_ble_eq_true rfl) rfl (by decide) (by decide) ?_
      refine ev_aload_n rfl ?_
      refine ev_iload_n rfl ?_
      refine ev_in (d := 4) (a := 0) (b := 0) (cd' := c261_0) (m := 2) (L0 := [(2, 42), (0, (xs 1))]) (jcall_v (A := [(0, (xs 1))]) (S' := []) (r := 42) rfl (hF.1.lt (by decide)) (hF.1.sh (by decide) rfl).1 (Nat.le_of_ble_eq_true rfl)) (by decide) ml261 pp261 (Nat.le_of_ble_eq_true rfl) rfl (by decide) (by decide) ?_
      refine ev_iload_n rfl ?_
      refine ev_iconst ?_
      refine ev_aload_n rfl ?_
      refine ev_getf (r := 42) (v := 0) (hF.1.lt (by decide)) (hF.1.fam (by decide) (by decide)) ft12_9 ((hF.v rfl)) ?_
      refine ev_iconst ?_
      refine ev_isub (r := (-1)) (by decide) ?_
      refine ev_in (d := 3) (a := 0) (b := 0) (cd' := c242_0) (m := 3) (L0 := [(0, (xs 1)), (0, 0), (0, (-1))]) (jcall_s (A := [(0, (-1)), (0, 0), (0, (xs 1))]) (S' := []) (by decide) rfl (Nat.le_of_ble_eq_true rfl)) (by decide) ml242 pp242 (Nat.le_of_ble_eq_true rfl) rfl (by decide) (by decide) ?_
      refine ev_iload_n rfl ?_
      refine ev_iload_n rfl ?_
      refine ev_icmplt f242_14 (fun c25 => absurd c25 (by omega)) (fun c25 => ?_)
      refine ev_iload_n rfl ?_
      refine ev_iload_n rfl ?_
      refine ev_icmpgt f242_14 (fun c26 => ?_) (fun c26 => absurd c26 (by omega))
      refine ev_iconst ?_
      refine ev_ret rfl (by decide) (by decide) ?_
      show jEv _ _ _ _ _ _ _ (_, [(2, 42), (0, (xs 1))], [(0, 0)], _, _, _)
      refine ev_ret rfl (by decide) (by decide) ?_
      show jEv _ _ _ _ _ _ _ (_, [(2, 42), (0, (xs 1)), (0, (xs 2))], [(0, 0)], _, _, _)
      refine ev_ifeq f262_28 (fun c27 => ?_) (fun c27 => absurd c27 (by omega))
      refine ev_iconst ?_
      refine ev_ret rfl (by decide) (by decide) ?_
      show jEv _ _ _ _ _ _ _ (_, [(2, 42), (0, (xs 1)), (0, (xs 2)), (0, (xs 3))], [(0, 0)], _, _, _)
      refine ev_ifeq f278_32 (fun c28 => ?_) (fun c28 => absurd c28 (by omega))
      refine ev_iconst ?_
      refine ev_goto f278_71 ?_
      refine ev_ret rfl (by decide) (by decide) ?_
      show jEv _ _ _ _ _ _ _ (_, [(2, 42), (0, (xs 1)), (0, (xs 2)), (0, (xs 3)), (0, (xs 4))], [(0, 0)], _, _, _)
      refine ev_ifeq f320_20 (fun c29 => ?_) (fun c29 => absurd c29 (by omega))
      refine ev_iconst ?_
      refine ev_ret rfl (by decide) (by decide) ?_
      show jEv _ _ _ _ _ _ _ (_, [(2, (-2)), (2, 0), (2, 42), (0, 0)], [(0, (-1)), (0, (-1))], _, _, _)
      refine ev_icmpeq f384_2190 (fun c30 => ?_) (fun c30 => absurd c30 (by omega))
      exact law_tail _

/-! most -/
set_option maxHeartbeats 4000000 in
theorem case_26 {xs : Nat → Int} (hr : ∀ j, -2147483648 ≤ xs j ∧ xs j < 2147483648) {h : JH} (hF : Fresh h) : jEv (jOk 8) (some 6) xs c384_0 600000 7302250 (fun v _ => v = some (0, 1)) (c384_1186, [(2, -2), (2, 0), (2, 42), (0, 0)], [], h, 83, 23761) := by
  have r1 := hr 1
  have r2 := hr 2
  have r3 := hr 3
  have r4 := hr 4
  have r5 := hr 5
  refine ev_aload_n rfl ?_
  refine ev_aload_n rfl ?_
  refine ev_iload_n rfl ?_
  refine ev_iconst ?_
  refine ev_iadd (r := 1) (by decide) ?_
  refine ev_sald (j := 1) (v := (xs 1)) rfl rfl rfl ?_
  refine ev_in (d := 7) (a := 0) (b := 0) (cd' := c192_0) (m := 8) (L0 := [(2, 0), (0, (xs 1)), (9, 0), (9, 0), (9, 0), (9, 0), (9, 0), (9, 0)]) (jcall_v (A := [(0, (xs 1))]) (S' := []) (r := 0) rfl (hF.1.lt (by decide)) (hF.1.sh (by decide) rfl).1 (Nat.le_of_ble_eq_true rfl)) (by decide) ml192 pp192 (Nat.le_of_ble_eq_true rfl) rfl (by decide) (by decide) ?_
  refine ev_aload_n rfl ?_
  refine ev_iload_n rfl ?_
  refine ev_in (d := 6) (a := 0) (b := 0) (cd' := c219_0) (m := 2) (L0 := [(2, 0), (0, (xs 1))]) (jcall_v (A := [(0, (xs 1))]) (S' := []) (r := 0) rfl (hF.1.lt (by decide)) (hF.1.sh (by decide) rfl).1 (Nat.le_of_ble_eq_true rfl)) (by decide) ml219 pp219 (Nat.le_of_ble_eq_true rfl) rfl (by decide) (by decide) ?_
  refine ev_iload_n rfl ?_
  refine ev_iflt f219_12 (fun c1 => ?_) (fun c1 => ?_)
  · refine ev_aconst_null ?_
    refine ev_goto f219_22 ?_
    refine ev_ret rfl (by decide) (by decide) ?_
    show jEv _ _ _ _ _ _ _ (_, [(2, 0), (0, (xs 1)), (9, 0), (9, 0), (9, 0), (9, 0), (9, 0), (9, 0)], [(2, (-1))], _, _, _)
    refine ev_astore_n (L' := [(2, 0), (0, (xs 1)), (2, (-1)), (9, 0), (9, 0), (9, 0), (9, 0), (9, 0)]) (Nat.le_of_ble_eq_true rfl) rfl ?_
    refine ev_aload_n rfl ?_
    refine ev_ifnonnull f192_12 (fun c2 => absurd c2 (by decide)) (fun c2 => ?_)
    refine ev_iconst ?_
    refine ev_ret rfl (by decide) (by decide) ?_
    show jEv _ _ _ _ _ _ _ (_, [(2, (-2)), (2, 0), (2, 42), (0, 0)], [(0, (-1))], _, _, _)
    refine ev_aload_n rfl ?_
    refine ev_aload_n rfl ?_
    refine ev_iload_n rfl ?_
    refine ev_iconst ?_
    refine ev_iadd (r := 1) (by decide) ?_
    refine ev_sald (j := 1) (v := (xs 1)) rfl rfl rfl ?_
    refine ev_in (d := 7) (a := 0) (b := 0) (cd' := c321_0) (m := 7) (L0 := [(2, 42), (0, (xs 1)), (9, 0), (9, 0), (9, 0), (9, 0), (9, 0)]) (jcall_v (A := [(0, (xs 1))]) (S' := [(0, (-1))]) (r := 42) rfl (hF.1.lt (by decide)) (hF.1.sh (by decide) rfl).1 (Nat.le_of_ble_eq_true rfl)) (by decide) ml321 pp321 (Nat.le_of_ble_eq_true rfl) rfl (by decide) (by decide) ?_
    refine ev_aload_n rfl ?_
    refine ev_iload_n rfl ?_
    refine ev_in (d := 6) (a := 0) (b := 0) (cd' := c261_0) (m := 2) (L0 := [(2, 42), (0, (xs 1))]) (jcall_v (A := [(0, (xs 1))]) (S' := []) (r := 42) rfl (hF.1.lt (by decide)) (hF.1.sh (by decide) rfl).1 (Nat.le_of_ble_eq_true rfl)) (by decide) ml261 pp261 (Nat.le_of_ble_eq_true rfl) rfl (by decide) (by decide) ?_
    refine ev_iload_n rfl ?_
    refine ev_iconst ?_
    refine ev_aload_n rfl ?_
    refine ev_getf (r := 42) (v := 0) (hF.1.lt (by decide)) (hF.1.fam (by decide) (by decide)) ft12_9 ((hF.v rfl)) ?_
    refine ev_iconst ?_
    refine ev_isub (r := (-1)) (by decide) ?_
    refine ev_in (d := 5) (a := 0) (b := 0) (cd' := c242_0) (m := 3) (L0 := [(0, (xs 1)), (0, 0), (0, (-1))]) (jcall_s (A := [(0, (-1)), (0, 0), (0, (xs 1))]) (S' := []) (by decide) rfl (Nat.le_of_ble_eq_true rfl)) (by decide) ml242 pp242 (Nat.le_of_ble_eq_true rfl) rfl (by decide) (by decide) ?_
    refine ev_iload_n rfl ?_
    refine ev_iload_n rfl ?_
    refine ev_icmplt f242_14 (fun c3 => ?_) (fun c3 => absurd c3 (by omega))
    refine ev_iconst ?_
    refine ev_ret rfl (by decide) (by decide) ?_
    show jEv _ _ _ _ _ _ _ (_, [(2, 42), (0, (xs 1))], [(0, 0)], _, _, _)
    refine ev_ret rfl (by decide) (by decide) ?_
    show jEv _ _ _ _ _ _ _ (_, [(2, 42), (0, (xs 1)), (9, 0), (9, 0), (9, 0), (9, 0), (9, 0)], [(0, 0)], _, _, _)
    refine ev_ifne f321_10 (fun c4 => absurd c4 (by omega)) (fun c4 => ?_)
    refine ev_iconst ?_
    refine ev_ret rfl (by decide) (by decide) ?_
    show jEv _ _ _ _ _ _ _ (_, [(2, (-2)), (2, 0), (2, 42), (0, 0)], [(0, (-1)), (0, (-1))], _, _, _)
    refine ev_icmpeq f384_2190 (fun c5 => ?_) (fun c5 => absurd c5 (by omega))
    exact law_tail _
  · refine ev_iload_n rfl ?_
    refine ev_aload_n rfl ?_
    refine ev_getf (r := 0) (v := 0) (hF.1.lt (by decide)) (hF.1.fam (by decide) (by decide)) ft11_3 ((hF.v rfl)) ?_
    refine ev_icmplt f219_16 (fun c6 => absurd c6 (by omega)) (fun c6 => ?_)
    refine ev_aconst_null ?_
    refine ev_goto f219_22 ?_
    refine ev_ret rfl (by decide) (by decide) ?_
    show jEv _ _ _ _ _ _ _ (_, [(2, 0), (0, (xs 1)), (9, 0), (9, 0), (9, 0), (9, 0), (9, 0), (9, 0)], [(2, (-1))], _, _, _)
    refine ev_astore_n (L' := [(2, 0), (0, (xs 1)), (2, (-1)), (9, 0), (9, 0), (9, 0), (9, 0), (9, 0)]) (Nat.le_of_ble_eq_true rfl) rfl ?_
    refine ev_aload_n rfl ?_
    refine ev_ifnonnull f192_12 (fun c7 => absurd c7 (by decide)) (fun c7 => ?_)
    refine ev_iconst ?_
    refine ev_ret rfl (by decide) (by decide) ?_
    show jEv _ _ _ _ _ _ _ (_, [(2, (-2)), (2, 0), (2, 42), (0, 0)], [(0, (-1))], _, _, _)
    refine ev_aload_n rfl ?_
    refine ev_aload_n rfl ?_
    refine ev_iload_n rfl ?_
    refine ev_iconst ?_
    refine ev_iadd (r := 1) (by decide) ?_
    refine ev_sald (j := 1) (v := (xs 1)) rfl rfl rfl ?_
    refine ev_in (d := 7) (a := 0) (b := 0) (cd' := c321_0) (m := 7) (L0 := [(2, 42), (0, (xs 1)), (9, 0), (9, 0), (9, 0), (9, 0), (9, 0)]) (jcall_v (A := [(0, (xs 1))]) (S' := [(0, (-1))]) (r := 42) rfl (hF.1.lt (by decide)) (hF.1.sh (by decide) rfl).1 (Nat.le_of_ble_eq_true rfl)) (by decide) ml321 pp321 (Nat.le_of_ble_eq_true rfl) rfl (by decide) (by decide) ?_
    refine ev_aload_n rfl ?_
    refine ev_iload_n rfl ?_
    refine ev_in (d := 6) (a := 0) (b := 0) (cd' := c261_0) (m := 2) (L0 := [(2, 42), (0, (xs 1))]) (jcall_v (A := [(0, (xs 1))]) (S' := []) (r := 42) rfl (hF.1.lt (by decide)) (hF.1.sh (by decide) rfl).1 (Nat.le_of_ble_eq_true rfl)) (by decide) ml261 pp261 (Nat.le_of_ble_eq_true rfl) rfl (by decide) (by decide) ?_
    refine ev_iload_n rfl ?_
    refine ev_iconst ?_
    refine ev_aload_n rfl ?_
    refine ev_getf (r := 42) (v := 0) (hF.1.lt (by decide)) (hF.1.fam (by decide) (by decide)) ft12_9 ((hF.v rfl)) ?_
    refine ev_iconst ?_
    refine ev_isub (r := (-1)) (by decide) ?_
    refine ev_in (d := 5) (a := 0) (b := 0) (cd' := c242_0) (m := 3) (L0 := [(0, (xs 1)), (0, 0), (0, (-1))]) (jcall_s (A := [(0, (-1)), (0, 0), (0, (xs 1))]) (S' := []) (by decide) rfl (Nat.le_of_ble_eq_true rfl)) (by decide) ml242 pp242 (Nat.le_of_ble_eq_true rfl) rfl (by decide) (by decide) ?_
    refine ev_iload_n rfl ?_
    refine ev_iload_n rfl ?_
    refine ev_icmplt f242_14 (fun c8 => absurd c8 (by omega)) (fun c8 => ?_)
    refine ev_iload_n rfl ?_
    refine ev_iload_n rfl ?_
    refine ev_icmpgt f242_14 (fun c9 => ?_) (fun c9 => absurd c9 (by omega))
    refine ev_iconst ?_
    refine ev_ret rfl (by decide) (by decide) ?_
    show jEv _ _ _ _ _ _ _ (_, [(2, 42), (0, (xs 1))], [(0, 0)], _, _, _)
    refine ev_ret rfl (by decide) (by decide) ?_
    show jEv _ _ _ _ _ _ _ (_, [(2, 42), (0, (xs 1)), (9, 0), (9, 0), (9, 0), (9, 0), (9, 0)], [(0, 0)], _, _, _)
    refine ev_ifne f321_10 (fun c10 => absurd c10 (by omega)) (fun c10 => ?_)
    refine ev_iconst ?_
    refine ev_ret rfl (by decide) (by decide) ?_
    show jEv _ _ _ _ _ _ _ (_, [(2, (-2)), (2, 0), (2, 42), (0, 0)], [(0, (-1)), (0, (-1))], _, _, _)
    refine ev_icmpeq f384_2190 (fun c11 => ?_) (fun c11 => absurd c11 (by omega))
    exact law_tail _

/-! doubt -/
set_option maxHeartbeats 4000000 in
theorem case_27 {xs : Nat → Int} (hr : ∀ j, -2147483648 ≤ xs j ∧ xs j < 2147483648) {h : JH} (hF : Fresh h) : jEv (jOk 8) (some 6) xs c384_0 600000 7302250 (fun v _ => v = some (0, 1)) (c384_1209, [(2, -2), (2, 0), (2, 42), (0, 0)], [], h, 83, 23761) := by
  have r1 := hr 1
  have r2 := hr 2
  have r3 := hr 3
  have r4 := hr 4
  have r5 := hr 5
  refine ev_aload_n rfl ?_
  refine ev_aload_n rfl ?_
  refine ev_iload_n rfl ?_
  refine ev_iconst ?_
  refine ev_iadd (r := 1) (by decide) ?_
  refine ev_sald (j := 1) (v := (xs 1)) rfl rfl rfl ?_
  refine ev_aload_n rfl ?_
  refine ev_iload_n rfl ?_
  refine ev_iconst ?_
  refine ev_iadd (r := 2) (by decide) ?_
  refine ev_sald (j := 2) (v := (xs 2)) rfl rfl rfl ?_
  refine ev_aload_n rfl ?_
  refine ev_iload_n rfl ?_
  refine ev_iconst ?_
  refine ev_iadd (r := 3) (by decide) ?_
  refine ev_sald (j := 3) (v := (xs 3)) rfl rfl rfl ?_
  refine ev_aload_n rfl ?_
  refine ev_iload_n rfl ?_
  refine ev_iconst ?_
  refine ev_iadd (r := 4) (by decide) ?_
  refine ev_sald (j := 4) (v := (xs 4)) rfl rfl rfl ?_
  refine ev_in (d := 7) (a := 0) (b := 0) (cd' := c193_0) (m := 9) (L0 := [(2, 0), (0, (xs 1)), (0, (xs 2)), (0, (xs 3)), (0, (xs 4)), (9, 0), (9, 0), (9, 0), (9, 0)]) (jcall_v (A := [(0, (xs 4)), (0, (xs 3)), (0, (xs 2)), (0, (xs 1))]) (S' := []) (r := 0) rfl (hF.1.lt (by decide)) (hF.1.sh (by decide) rfl).1 (Nat.le_of_ble_eq_true rfl)) (by decide) ml193 pp193 (Nat.le_of_ble_eq_true rfl) rfl (by decide) (by decide) ?_
  refine ev_aload_n rfl ?_
  refine ev_iload_n rfl ?_
  refine ev_in (d := 6) (a := 0) (b := 0) (cd' := c219_0) (m := 2) (L0 := [(2, 0), (0, (xs 1))]) (jcall_v (A := [(0, (xs 1))]) (S' := []) (r := 0) rfl (hF.1.lt (by decide)) (hF.1.sh (by decide) rfl).1 (Nat.le_of_ble_eq_true rfl)) (by decide) ml219 pp219 (Nat.le_of_ble_eq_true rfl) rfl (by decide) (by decide) ?_
  refine ev_iload_n rfl ?_
  refine ev_iflt f219_12 (fun c1 => ?_) (fun c1 => ?_)
  · refine ev_aconst_null ?_
    refine ev_goto f219_22 ?_
    refine ev_ret rfl (by decide) (by decide) ?_
    show jEv _ _ _ _ _ _ _ (_, [(2, 0), (0, (xs 1)), (0, (xs 2)), (0, (xs 3)), (0, (xs 4)), (9, 0), (9, 0), (9, 0), (9, 0)], [(2, (-1))], _, _, _)
    refine ev_astore (L' := [(2, 0), (0, (xs 1)), (0, (xs 2)), (0, (xs 3)), (0, (xs 4)), (2, (-1)), (9, 0), (9, 0), (9, 0)]) (Nat.le_of_ble_eq_true rfl) rfl ?_
    refine ev_aload rfl ?_
    refine ev_ifnull f193_29 (fun c2 => ?_) (fun c2 => absurd c2 (by decide))
    refine ev_iconst ?_
    refine ev_ret rfl (by decide) (by decide) ?_
    show jEv _ _ _ _ _ _ _ (_, [(2, (-2)), (2, 0), (2, 42), (0, 0)], [(0, (-1))], _, _, _)
    refine ev_aload_n rfl ?_
    refine ev_aload_n rfl ?_
    refine ev_iload_n rfl ?_
    refine ev_iconst ?_
    refine ev_iadd (r := 1) (by decide) ?_
    refine ev_sald (j := 1) (v := (xs 1)) rfl rfl rfl ?_
    refine ev_aload_n rfl ?_
    refine ev_iload_n rfl ?_
    refine ev_iconst ?_
    refine ev_iadd (r := 2) (by decide) ?_
    refine ev_sald (j := 2) (v := (xs 2)) rfl rfl rfl ?_
    refine ev_aload_n rfl ?_
    refine ev_iload_n rfl ?_
    refine ev_iconst ?_
    refine ev_iadd (r := 3) (by decide) ?_
    refine ev_sald (j := 3) (v := (xs 3)) rfl rfl rfl ?_
    refine ev_aload_n rfl ?_
    refine ev_iload_n rfl ?_
    refine ev_iconst ?_
    refine ev_iadd (r := 4) (by decide) ?_
    refine ev_sald (j := 4) (v := (xs 4)) rfl rfl rfl ?_
    refine ev_in (d := 7) (a := 0) (b := 0) (cd' := c327_0) (m := 5) (L0 := [(2, 42), (0, (xs 1)), (0, (xs 2)), (0, (xs 3)), (0, (xs 4))]) (jcall_v (A := [(0, (xs 4)), (0, (xs 3)), (0, (xs 2)), (0, (xs 1))]) (S' := [(0, (-1))]) (r := 42) rfl (hF.1.lt (by decide)) (hF.1.sh (by decide) rfl).1 (Nat.le_of_ble_eq_true rfl)) (by decide) ml327 pp327 (Nat.le_of_ble_eq_true rfl) rfl (by decide) (by decide) ?_
    refine ev_aload_n rfl ?_
    refine ev_iload_n rfl ?_
    refine ev_iload_n rfl ?_
    refine ev_iload_n rfl ?_
    refine ev_in (d := 6) (a := 0) (b := 0) (cd' := c322_0) (m := 4) (L0 := [(2, 42), (0, (xs 1)), (0, (xs 2)), (0, (xs 3))]) (jcall_v (A := [(0, (xs 3)), (0, (xs 2)), (0, (xs 1))]) (S' := []) (r := 42) rfl (hF.1.lt (by decide)) (hF.1.sh (by decide) rfl).1 (Nat.le_of_ble_eq_true rfl)) (by decide) ml322 pp322 (Nat.le_of_ble_eq_true rfl) rfl (by decide) (by decide) ?_
    refine ev_aload_n rfl ?_
    refine ev_iload_n rfl ?_
    refine ev_in (d := 5) (a := 0) (b := 0) (cd' := c261_0) (m := 2) (L0 := [(2, 42), (0, (xs 1))]) (jcall_v (A := [(0, (xs 1))]) (S' := []) (r := 42) rfl (hF.1.lt (by decide)) (hF.1.sh (by decide) rfl).1 (Nat.le_of_ble_eq_true rfl)) (by decide) ml261 pp261 (Nat.le_of_ble_eq_true rfl) rfl (by decide) (by decide) ?_
    refine ev_iload_n rfl ?_
    refine ev_iconst ?_
    refine ev_aload_n rfl ?_
    refine ev_getf (r := 42) (v := 0) (hF.1.lt (by decide)) (hF.1.fam (by decide) (by decide)) ft12_9 ((hF.v rfl)) ?_
    refine ev_iconst ?_
    refine ev_isub (r := (-1)) (by decide) ?_
    refine ev_in (d := 4) (a := 0) (b := 0) (cd' := c242_0) (m := 3) (L0 := [(0, (xs 1)), (0, 0), (0, (-1))]) (jcall_s (A := [(0, (-1)), (0, 0), (0, (xs 1))]) (S' := []) (by decide) rfl (Nat.le_of_ble_eq_true rfl)) (by decide) ml242 pp242 (Nat.le_of_ble_eq_true rfl) rfl (by decide) (by decide) ?_
    refine ev_iload_n rfl ?_
    refine ev_iload_n rfl ?_
    refine ev_icmplt f242_14 (fun c3 => ?_) (fun c3 => absurd c3 (by omega))
    refine ev_iconst ?_
    refine ev_ret rfl (by decide) (by decide) ?_
    show jEv _ _ _ _ _ _ _ (_, [(2, 42), (0, (xs 1))], [(0, 0)], _, _, _)
    refine ev_ret rfl (by decide) (by decide) ?_
    show jEv _ _ _ _ _ _ _ (_, [(2, 42), (0, (xs 1)), (0, (xs 2)), (0, (xs 3))], [(0, 0)], _, _, _)
    refine ev_ifeq f322_62 (fun c4 => ?_) (fun c4 => absurd c4 (by omega))
    refine ev_iconst ?_
    refine ev_ret rfl (by decide) (by decide) ?_
    show jEv _ _ _ _ _ _ _ (_, [(2, 42), (0, (xs 1)), (0, (xs 2)), (0, (xs 3)), (0, (xs 4))], [(0, 0)], _, _, _)
    refine ev_ifeq f327_20 (fun c5 => ?_) (fun c5 => absurd c5 (by omega))
    refine ev_iconst ?_
    refine ev_ret rfl (by decide) (by decide) ?_
    show jEv _ _ _ _ _ _ _ (_, [(2, (-2)), (2, 0), (2, 42), (0, 0)], [(0, (-1)), (0, (-1))], _, _, _)
    refine ev_icmpeq f384_2190 (fun c6 => ?_) (fun c6 => absurd c6 (by omega))
    exact law_tail _
  · refine ev_iload_n rfl ?_
    refine ev_aload_n rfl ?_
    refine ev_getf (r := 0) (v := 0) (hF.1.lt (by decide)) (hF.1.fam (by decide) (by decide)) ft11_3 ((hF.v rfl)) ?_
    refine ev_icmplt f219_16 (fun c7 => absurd c7 (by omega)) (fun c7 => ?_)
    refine ev_aconst_null ?_
    refine ev_goto f219_22 ?_
    refine ev_ret rfl (by decide) (by decide) ?_
    show jEv _ _ _ _ _ _ _ (_, [(2, 0), (0, (xs 1)), (0, (xs 2)), (0, (xs 3)), (0, (xs 4)), (9, 0), (9, 0), (9, 0), (9, 0)], [(2, (-1))], _, _, _)
    refine ev_astore (L' := [(2, 0), (0, (xs 1)), (0, (xs 2)), (0, (xs 3)), (0, (xs 4)), (2, (-1)), (9, 0), (9, 0), (9, 0)]) (Nat.le_of_ble_eq_true rfl) rfl ?_
    refine ev_aload rfl ?_
    refine ev_ifnull f193_29 (fun c8 => ?_) (fun c8 => absurd c8 (by decide))
    refine ev_iconst ?_
    refine ev_ret rfl (by decide) (by decide) ?_
    show jEv _ _ _ _ _ _ _ (_, [(2, (-2)), (2, 0), (2, 42), (0, 0)], [(0, (-1))], _, _, _)
    refine ev_aload_n rfl ?_
    refine ev_aload_n rfl ?_
    refine ev_iload_n rfl ?_
    refine ev_iconst ?_
    refine ev_iadd (r := 1) (by decide) ?_
    refine ev_sald (j := 1) (v := (xs 1)) rfl rfl rfl ?_
    refine ev_aload_n rfl ?_
    refine ev_iload_n rfl ?_
    refine ev_iconst ?_
    refine ev_iadd (r := 2) (by decide) ?_
    refine ev_sald (j := 2) (v := (xs 2)) rfl rfl rfl ?_
    refine ev_aload_n rfl ?_
    refine ev_iload_n rfl ?_
    refine ev_iconst ?_
    refine ev_iadd (r := 3) (by decide) ?_
    refine ev_sald (j := 3) (v := (xs 3)) rfl rfl rfl ?_
    refine ev_aload_n rfl ?_
    refine ev_iload_n rfl ?_
    refine ev_iconst ?_
    refine ev_iadd (r := 4) (by decide) ?_
    refine ev_sald (j := 4) (v := (xs 4)) rfl rfl rfl ?_
    refine ev_in (d := 7) (a := 0) (b := 0) (cd' := c327_0) (m := 5) (L0 := [(2, 42), (0, (xs 1)), (0, (xs 2)), (0, (xs 3)), (0, (xs 4))]) (jcall_v (A := [(0, (xs 4)), (0, (xs 3)), (0, (xs 2)), (0, (xs 1))]) (S' := [(0, (-1))]) (r := 42) rfl (hF.1.lt (by decide)) (hF.1.sh (by decide) rfl).1 (Nat.le_of_ble_eq_true rfl)) (by decide) ml327 pp327 (Nat.le_of_ble_eq_true rfl) rfl (by decide) (by decide) ?_
    refine ev_aload_n rfl ?_
    refine ev_iload_n rfl ?_
    refine ev_iload_n rfl ?_
    refine ev_iload_n rfl ?_
    refine ev_in (d := 6) (a := 0) (b := 0) (cd' := c322_0) (m := 4) (L0 := [(2, 42), (0, (xs 1)), (0, (xs 2)), (0, (xs 3))]) (jcall_v (A := [(0, (xs 3)), (0, (xs 2)), (0, (xs 1))]) (S' := []) (r := 42) rfl (hF.1.lt (by decide)) (hF.1.sh (by decide) rfl).1 (Nat.le_of_ble_eq_true rfl)) (by decide) ml322 pp322 (Nat.le_of_ble_eq_true rfl) rfl (by decide) (by decide) ?_
    refine ev_aload_n rfl ?_
    refine ev_iload_n rfl ?_
    refine ev_in (d := 5) (a := 0) (b := 0) (cd' := c261_0) (m := 2) (L0 := [(2, 42), (0, (xs 1))]) (jcall_v (A := [(0, (xs 1))]) (S' := []) (r := 42) rfl (hF.1.lt (by decide)) (hF.1.sh (by decide) rfl).1 (Nat.le_of_ble_eq_true rfl)) (by decide) ml261 pp261 (Nat.le_of_ble_eq_true rfl) rfl (by decide) (by decide) ?_
    refine ev_iload_n rfl ?_
    refine ev_iconst ?_
    refine ev_aload_n rfl ?_
    refine ev_getf (r := 42) (v := 0) (hF.1.lt (by decide)) (hF.1.fam (by decide) (by decide)) ft12_9 ((hF.v rfl)) ?_
    refine ev_iconst ?_
    refine ev_isub (r := (-1)) (by decide) ?_
    refine ev_in (d := 4) (a := 0) (b := 0) (cd' := c242_0) (m := 3) (L0 := [(0, (xs 1)), (0, 0), (0, (-1))]) (jcall_s (A := [(0, (-1)), (0, 0), (0, (xs 1))]) (S' := []) (by decide) rfl (Nat.le_of_ble_eq_true rfl)) (by decide) ml242 pp242 (Nat.le_of_ble_eq_true rfl) rfl (by decide) (by decide) ?_
    refine ev_iload_n rfl ?_
    refine ev_iload_n rfl ?_
    refine ev_icmplt f242_14 (fun c9 => absurd c9 (by omega)) (fun c9 => ?_)
    refine ev_iload_n rfl ?_
    refine ev_iload_n rfl ?_
    refine ev_icmpgt f242_14 (fun c10 => ?_) (fun c10 => absurd c10 (by omega))
    refine ev_iconst ?_
    refine ev_ret rfl (by decide) (by decide) ?_
    show jEv _ _ _ _ _ _ _ (_, [(2, 42), (0, (xs 1))], [(0, 0)], _, _, _)
    refine ev_ret rfl (by decide) (by decide) ?_
    show jEv _ _ _ _ _ _ _ (_, [(2, 42), (0, (xs 1)), (0, (xs 2)), (0, (xs 3))], [(0, 0)], _, _, _)
    refine ev_ifeq f322_62 (fun c11 => ?_) (fun c11 => absurd c11 (by omega))
    refine ev_iconst ?_
    refine ev_ret rfl (by decide) (by decide) ?_
    show jEv _ _ _ _ _ _ _ (_, [(2, 42), (0, (xs 1)), (0, (xs 2)), (0, (xs 3)), (0, (xs 4))], [(0, 0)], _, _, _)
    refine ev_ifeq f327_20 (fun c12 => ?_) (fun c12 => absurd c12 (by omega))
    refine ev_iconst ?_
    refine ev_ret rfl (by decide) (by decide) ?_
    show jEv _ _ _ _ _ _ _ (_, [(2, (-2)), (2, 0), (2, 42), (0, 0)], [(0, (-1)), (0, (-1))], _, _, _)
    refine ev_icmpeq f384_2190 (fun c13 => ?_) (fun c13 => absurd c13 (by omega))
    exact law_tail _

/-! worst -/
set_option maxHeartbeats 4000000 in
theorem case_28 {xs : Nat → Int} (hr : ∀ j, -2147483648 ≤ xs j ∧ xs j < 2147483648) {h : JH} (hF : Fresh h) : jEv (jOk 8) (some 6) xs c384_0 600000 7302250 (fun v _ => v = some (0, 1)) (c384_1262, [(2, -2), (2, 0), (2, 42), (0, 0)], [], h, 83, 23761) := by
  have r1 := hr 1
  have r2 := hr 2
  have r3 := hr 3
  have r4 := hr 4
  have r5 := hr 5
  refine ev_aload_n rfl ?_
  refine ev_aload_n rfl ?_
  refine ev_iload_n rfl ?_
  refine ev_iconst ?_
  refine ev_iadd (r := 1) (by decide) ?_
  refine ev_sald (j := 1) (v := (xs 1)) rfl rfl rfl ?_
  refine ev_aload_n rfl ?_
  refine ev_iload_n rfl ?_
  refine ev_iconst ?_
  refine ev_iadd (r := 2) (by decide) ?_
  refine ev_sald (j := 2) (v := (xs 2)) rfl rfl rfl ?_
  refine ev_aload_n rfl ?_
  refine ev_iload_n rfl ?_
  refine ev_iconst ?_
  refine ev_iadd (r := 3) (by decide) ?_
  refine ev_sald (j := 3) (v := (xs 3)) rfl rfl rfl ?_
  refine ev_aload_n rfl ?_
  refine ev_iload_n rfl ?_
  refine ev_iconst ?_
  refine ev_iadd (r := 4) (by decide) ?_
  refine ev_sald (j := 4) (v := (xs 4)) rfl rfl rfl ?_
  refine ev_in (d := 7) (a := 0) (b := 0) (cd' := c194_0) (m := 10) (L0 := [(2, 0), (0, (xs 1)), (0, (xs 2)), (0, (xs 3)), (0, (xs 4)), (9, 0), (9, 0), (9, 0), (9, 0), (9, 0)]) (jcall_v (A := [(0, (xs 4)), (0, (xs 3)), (0, (xs 2)), (0, (xs 1))]) (S' := []) (r := 0) rfl (hF.1.lt (by decide)) (hF.1.sh (by decide) rfl).1 (Nat.le_of_ble_eq_true rfl)) (by decide) ml194 pp194 (Nat.le_of_ble_eq_true rfl) rfl (by decide) (by decide) ?_
  refine ev_aload_n rfl ?_
  refine ev_iload_n rfl ?_
  refine ev_in (d := 6) (a := 0) (b := 0) (cd' := c219_0) (m := 2) (L0 := [(2, 0), (0, (xs 1))]) (jcall_v (A := [(0, (xs 1))]) (S' := []) (r := 0) rfl (hF.1.lt (by decide)) (hF.1.sh (by decide) rfl).1 (Nat.le_of_ble_eq_true rfl)) (by decide) ml219 pp219 (Nat.le_of_ble_eq_true rfl) rfl (by decide) (by decide) ?_
  refine ev_iload_n rfl ?_
  refine ev_iflt f219_12 (fun c1 => ?_) (fun c1 => ?_)
  · refine ev_aconst_null ?_
    refine ev_goto f219_22 ?_
    refine ev_ret rfl (by decide) (by decide) ?_
    show jEv _ _ _ _ _ _ _ (_, [(2, 0), (0, (xs 1)), (0, (xs 2)), (0, (xs 3)), (0, (xs 4)), (9, 0), (9, 0), (9, 0), (9, 0), (9, 0)], [(2, (-1))], _, _, _)
    refine ev_astore (L' := [(2, 0), (0, (xs 1)), (0, (xs 2)), (0, (xs 3)), (0, (xs 4)), (2, (-1)), (9, 0), (9, 0), (9, 0), (9, 0)]) (Nat.le_of_ble_eq_true rfl) rfl ?_
    refine ev_aload rfl ?_
    refine ev_ifnull f194_38 (fun c2 => ?_) (fun c2 => absurd c2 (by decide))
    refine ev_ldc2_w ?_
    refine ev_ret rfl (by decide) (by decide) ?_
    show jEv _ _ _ _ _ _ _ (_, [(2, (-2)), (2, 0), (2, 42), (0, 0)], [(1, (-9223372036854775808))], _, _, _)
    refine ev_aload_n rfl ?_
    refine ev_aload_n rfl ?_
    refine ev_iload_n rfl ?_
    refine ev_iconst ?_
    refine ev_iadd (r := 1) (by decide) ?_
    refine ev_sald (j := 1) (v := (xs 1)) rfl rfl rfl ?_
    refine ev_aload_n rfl ?_
    refine ev_iload_n rfl ?_
    refine ev_iconst ?_
    refine ev_iadd (r := 2) (by decide) ?_
    refine ev_sald (j := 2) (v := (xs 2)) rfl rfl rfl ?_
    refine ev_aload_n rfl ?_
    refine ev_iload_n rfl ?_
    refine ev_iconst ?_
    refine ev_iadd (r := 3) (by decide) ?_
    refine ev_sald (j := 3) (v := (xs 3)) rfl rfl rfl ?_
    refine ev_aload_n rfl ?_
    refine ev_iload_n rfl ?_
    refine ev_iconst ?_
    refine ev_iadd (r := 4) (by decide) ?_
    refine ev_sald (j := 4) (v := (xs 4)) rfl rfl rfl ?_
    refine ev_in (d := 7) (a := 0) (b := 0) (cd' := c329_0) (m := 13) (L0 := [(2, 42), (0, (xs 1)), (0, (xs 2)), (0, (xs 3)), (0, (xs 4)), (9, 0), (9, 0), (9, 0), (9, 0), (9, 0), (9, 0), (9, 0), (9, 0)]) (jcall_v (A := [(0, (xs 4)), (0, (xs 3)), (0, (xs 2)), (0, (xs 1))]) (S' := [(1, (-9223372036854775808))]) (r := 42) rfl (hF.1.lt (by decide)) (hF.1.sh (by decide) rfl).1 (Nat.le_of_ble_eq_true rfl)) (by decide) ml329 pp329 (Nat.le_of_ble_eq_true rfl) rfl (by decide) (by decide) ?_
    refine ev_aload_n rfl ?_
    refine ev_iload_n rfl ?_
    refine ev_iload_n rfl ?_
    refine ev_iload_n rfl ?_
    refine ev_in (d := 6) (a := 0) (b := 0) (cd' := c322_0) (m := 4) (L0 := [(2, 42), (0, (xs 1)), (0, (xs 2)), (0, (xs 3))]) (jcall_v (A := [(0, (xs 3)), (0, (xs 2)), (0, (xs 1))]) (S' := []) (r := 42) rfl (hF.1.lt (by decide)) (hF.1.sh (by decide) rfl).1 (Nat.le_of_ble_eq_true rfl)) (by decide) ml322 pp322 (Nat.le_of_ble_eq_true rfl) rfl (by decide) (by decide) ?_
    refine ev_aload_n rfl ?_
    refine ev_iload_n rfl ?_
    refine ev_in (d := 5) (a := 0) (b := 0) (cd' := c261_0) (m := 2) (L0 := [(2, 42), (0, (xs 1))]) (jcall_v (A := [(0, (xs 1))]) (S' := []) (r := 42) rfl (hF.1.lt (by decide)) (hF.1.sh (by decide) rfl).1 (Nat.le_of_ble_eq_true rfl)) (by decide) ml261 pp261 (Nat.le_of_ble_eq_true rfl) rfl (by decide) (by decide) ?_
    refine ev_iload_n rfl ?_
    refine ev_iconst ?_
    refine ev_aload_n rfl ?_
    refine ev_getf (r := 42) (v := 0) (hF.1.lt (by decide)) (hF.1.fam (by decide) (by decide)) ft12_9 ((hF.v rfl)) ?_
    refine ev_iconst ?_
    refine ev_isub (r := (-1)) (by decide) ?_
    refine ev_in (d := 4) (a := 0) (b := 0) (cd' := c242_0) (m := 3) (L0 := [(0, (xs 1)), (0, 0), (0, (-1))]) (jcall_s (A := [(0, (-1)), (0, 0), (0, (xs 1))]) (S' := []) (by decide) rfl (Nat.le_of_ble_eq_true rfl)) (by decide) ml242 pp242 (Nat.le_of_ble_eq_true rfl) rfl (by decide) (by decide) ?_
    refine ev_iload_n rfl ?_
    refine ev_iload_n rfl ?_
    refine ev_icmplt f242_14 (fun c3 => ?_) (fun c3 => absurd c3 (by omega))
    refine ev_iconst ?_
    refine ev_ret rfl (by decide) (by decide) ?_
    show jEv _ _ _ _ _ _ _ (_, [(2, 42), (0, (xs 1))], [(0, 0)], _, _, _)
    refine ev_ret rfl (by decide) (by decide) ?_
    show jEv _ _ _ _ _ _ _ (_, [(2, 42), (0, (xs 1)), (0, (xs 2)), (0, (xs 3))], [(0, 0)], _, _, _)
    refine ev_ifeq f322_62 (fun c4 => ?_) (fun c4 => absurd c4 (by omega))
    refine ev_iconst ?_
    refine ev_ret rfl (by decide) (by decide) ?_
    show jEv _ _ _ _ _ _ _ (_, [(2, 42), (0, (xs 1)), (0, (xs 2)), (0, (xs 3)), (0, (xs 4)), (9, 0), (9, 0), (9, 0), (9, 0), (9, 0), (9, 0), (9, 0), (9, 0)], [(0, 0)], _, _, _)
    refine ev_ifeq f329_20 (fun c5 => ?_) (fun c5 => absurd c5 (by omega))
    refine ev_ldc2_w ?_
    refine ev_ret rfl (by decide) (by decide) ?_
    show jEv _ _ _ _ _ _ _ (_, [(2, (-2)), (2, 0), (2, 42), (0, 0)], [(1, (-9223372036854775808)), (1, (-9223372036854775808))], _, _, _)
    refine ev_lcmp ?_
    refine ev_ifeq f384_2190 (fun c6 => ?_) (fun c6 => absurd (show _ from by unfold jcmpL; (repeat' split) <;> omega) c6)
    exact law_tail _
  · refine ev_iload_n rfl ?_
    refine ev_aload_n rfl ?_
    refine ev_getf (r := 0) (v := 0) (hF.1.lt (by decide)) (hF.1.fam (by decide) (by decide)) ft11_3 ((hF.v rfl)) ?_
    refine ev_icmplt f219_16 (fun c7 => absurd c7 (by omega)) (fun c7 => ?_)
    refine ev_aconst_null ?_
    refine ev_goto f219_22 ?_
    refine ev_ret rfl (by decide) (by decide) ?_
    show jEv _ _ _ _ _ _ _ (_, [(2, 0), (0, (xs 1)), (0, (xs 2)), (0, (xs 3)), (0, (xs 4)), (9, 0), (9, 0), (9, 0), (9, 0), (9, 0)], [(2, (-1))], _, _, _)
    refine ev_astore (L' := [(2, 0), (0, (xs 1)), (0, (xs 2)), (0, (xs 3)), (0, (xs 4)), (2, (-1)), (9, 0), (9, 0), (9, 0), (9, 0)]) (Nat.le_of_ble_eq_true rfl) rfl ?_
    refine ev_aload rfl ?_
    refine ev_ifnull f194_38 (fun c8 => ?_) (fun c8 => absurd c8 (by decide))
    refine ev_ldc2_w ?_
    refine ev_ret rfl (by decide) (by decide) ?_
    show jEv _ _ _ _ _ _ _ (_, [(2, (-2)), (2, 0), (2, 42), (0, 0)], [(1, (-9223372036854775808))], _, _, _)
    refine ev_aload_n rfl ?_
    refine ev_aload_n rfl ?_
    refine ev_iload_n rfl ?_
    refine ev_iconst ?_
    refine ev_iadd (r := 1) (by decide) ?_
    refine ev_sald (j := 1) (v := (xs 1)) rfl rfl rfl ?_
    refine ev_aload_n rfl ?_
    refine ev_iload_n rfl ?_
    refine ev_iconst ?_
    refine ev_iadd (r := 2) (by decide) ?_
    refine ev_sald (j := 2) (v := (xs 2)) rfl rfl rfl ?_
    refine ev_aload_n rfl ?_
    refine ev_iload_n rfl ?_
    refine ev_iconst ?_
    refine ev_iadd (r := 3) (by decide) ?_
    refine ev_sald (j := 3) (v := (xs 3)) rfl rfl rfl ?_
    refine ev_aload_n rfl ?_
    refine ev_iload_n rfl ?_
    refine ev_iconst ?_
    refine ev_iadd (r := 4) (by decide) ?_
    refine ev_sald (j := 4) (v := (xs 4)) rfl rfl rfl ?_
    refine ev_in (d := 7) (a := 0) (b := 0) (cd' := c329_0) (m := 13) (L0 := [(2, 42), (0, (xs 1)), (0, (xs 2)), (0, (xs 3)), (0, (xs 4)), (9, 0), (9, 0), (9, 0), (9, 0), (9, 0), (9, 0), (9, 0), (9, 0)]) (jcall_v (A := [(0, (xs 4)), (0, (xs 3)), (0, (xs 2)), (0, (xs 1))]) (S' := [(1, (-9223372036854775808))]) (r := 42) rfl (hF.1.lt (by decide)) (hF.1.sh (by decide) rfl).1 (Nat.le_of_ble_eq_true rfl)) (by decide) ml329 pp329 (Nat.le_of_ble_eq_true rfl) rfl (by decide) (by decide) ?_
    refine ev_aload_n rfl ?_
    refine ev_iload_n rfl ?_
    refine ev_iload_n rfl ?_
    refine ev_iload_n rfl ?_
    refine ev_in (d := 6) (a := 0) (b := 0) (cd' := c322_0) (m := 4) (L0 := [(2, 42), (0, (xs 1)), (0, (xs 2)), (0, (xs 3))]) (jcall_v (A := [(0, (xs 3)), (0, (xs 2)), (0, (xs 1))]) (S' := []) (r := 42) rfl (hF.1.lt (by decide)) (hF.1.sh (by decide) rfl).1 (Nat.le_of_ble_eq_true rfl)) (by decide) ml322 pp322 (Nat.le_of_ble_eq_true rfl) rfl (by decide) (by decide) ?_
    refine ev_aload_n rfl ?_
    refine ev_iload_n rfl ?_
    refine ev_in (d := 5) (a := 0) (b := 0) (cd' := c261_0) (m := 2) (L0 := [(2, 42), (0, (xs 1))]) (jcall_v (A := [(0, (xs 1))]) (S' := []) (r := 42) rfl (hF.1.lt (by decide)) (hF.1.sh (by decide) rfl).1 (Nat.le_of_ble_eq_true rfl)) (by decide) ml261 pp261 (Nat.le_of_ble_eq_true rfl) rfl (by decide) (by decide) ?_
    refine ev_iload_n rfl ?_
    refine ev_iconst ?_
    refine ev_aload_n rfl ?_
    refine ev_getf (r := 42) (v := 0) (hF.1.lt (by decide)) (hF.1.fam (by decide) (by decide)) ft12_9 ((hF.v rfl)) ?_
    refine ev_iconst ?_
    refine ev_isub (r := (-1)) (by decide) ?_
    refine ev_in (d := 4) (a := 0) (b := 0) (cd' := c242_0) (m := 3) (L0 := [(0, (xs 1)), (0, 0), (0, (-1))]) (jcall_s (A := [(0, (-1)), (0, 0), (0, (xs 1))]) (S' := []) (by decide) rfl (Nat.le_of_ble_eq_true rfl)) (by decide) ml242 pp242 (Nat.le_of_ble_eq_true rfl) rfl (by decide) (by decide) ?_
    refine ev_iload_n rfl ?_
    refine ev_iload_n rfl ?_
    refine ev_icmplt f242_14 (fun c9 => absurd c9 (by omega)) (fun c9 => ?_)
    refine ev_iload_n rfl ?_
    refine ev_iload_n rfl ?_
    refine ev_icmpgt f242_14 (fun c10 => ?_) (fun c10 => absurd c10 (by omega))
    refine ev_iconst ?_
    refine ev_ret rfl (by decide) (by decide) ?_
    show jEv _ _ _ _ _ _ _ (_, [(2, 42), (0, (xs 1))], [(0, 0)], _, _, _)
    refine ev_ret rfl (by decide) (by decide) ?_
    show jEv _ _ _ _ _ _ _ (_, [(2, 42), (0, (xs 1)), (0, (xs 2)), (0, (xs 3))], [(0, 0)], _, _, _)
    refine ev_ifeq f322_62 (fun c11 => ?_) (fun c11 => absurd c11 (by omega))
    refine ev_iconst ?_
    refine ev_ret rfl (by decide) (by decide) ?_
    show jEv _ _ _ _ _ _ _ (_, [(2, 42), (0, (xs 1)), (0, (xs 2)), (0, (xs 3)), (0, (xs 4)), (9, 0), (9, 0), (9, 0), (9, 0), (9, 0), (9, 0), (9, 0), (9, 0)], [(0, 0)], _, _, _)
    refine ev_ifeq f329_20 (fun c12 => ?_) (fun c12 => absurd c12 (by omega))
    refine ev_ldc2_w ?_
    refine ev_ret rfl (by decide) (by decide) ?_
    show jEv _ _ _ _ _ _ _ (_, [(2, (-2)), (2, 0), (2, 42), (0, 0)], [(1, (-9223372036854775808)), (1, (-9223372036854775808))], _, _, _)
    refine ev_lcmp ?_
    refine ev_ifeq f384_2190 (fun c13 => ?_) (fun c13 => absurd (show _ from by unfold jcmpL; (repeat' split) <;> omega) c13)
    exact law_tail _

/-! table -/
set_option maxHeartbeats 4000000 in
theorem case_29 {xs : Nat → Int} (hr : ∀ j, -2147483648 ≤ xs j ∧ xs j < 2147483648) {h : JH} (hF : Fresh h) : jEv (jOk 8) (some 6) xs c384_0 600000 7302250 (fun v _ => v = some (0, 1)) (c384_1316, [(2, -2), (2, 0), (2, 42), (0, 0)], [], h, 83, 23761) := by
  have r1 := hr 1
  have r2 := hr 2
  have r3 := hr 3
  have r4 := hr 4
  have r5 := hr 5
  refine ev_aload_n rfl ?_
  refine ev_aload_n rfl ?_
  refine ev_iload_n rfl ?_
  refine ev_iconst ?_
  refine ev_iadd (r := 1) (by decide) ?_
  refine ev_sald (j := 1) (v := (xs 1)) rfl rfl rfl ?_
  refine ev_aload_n rfl ?_
  refine ev_iload_n rfl ?_
  refine ev_iconst ?_
  refine ev_iadd (r := 2) (by decide) ?_
  refine ev_sald (j := 2) (v := (xs 2)) rfl rfl rfl ?_
  refine ev_in (d := 7) (a := 0) (b := 0) (cd' := c195_0) (m := 3) (L0 := [(2, 0), (0, (xs 1)), (0, (xs 2))]) (jcall_v (A := [(0, (xs 2)), (0, (xs 1))]) (S' := []) (r := 0) rfl (hF.1.lt (by decide)) (hF.1.sh (by decide) rfl).1 (Nat.le_of_ble_eq_true rfl)) (by decide) ml195 pp195 (Nat.le_of_ble_eq_true rfl) rfl (by decide) (by decide) ?_
  refine ev_iload_n rfl ?_
  refine ev_iconst ?_
  refine ev_icmplt f195_20 (fun c1 => ?_) (fun c1 => ?_)
  · refine ev_iconst ?_
    refine ev_ret rfl (by decide) (by decide) ?_
    show jEv _ _ _ _ _ _ _ (_, [(2, (-2)), (2, 0), (2, 42), (0, 0)], [(0, (-1))], _, _, _)
    refine ev_aload_n rfl ?_
    refine ev_aload_n rfl ?_
    refine ev_iload_n rfl ?_
    refine ev_iconst ?_
    refine ev_iadd (r := 1) (by decide) ?_
    refine ev_sald (j := 1) (v := (xs 1)) rfl rfl rfl ?_
    refine ev_aload_n rfl ?_
    refine ev_iload_n rfl ?_
    refine ev_iconst ?_
    refine ev_iadd (r := 2) (by decide) ?_
    refine ev_sald (j := 2) (v := (xs 2)) rfl rfl rfl ?_
    refine ev_in (d := 7) (a := 0) (b := 0) (cd' := c330_0) (m := 4) (L0 := [(2, 42), (0, (xs 1)), (0, (xs 2)), (9, 0)]) (jcall_v (A := [(0, (xs 2)), (0, (xs 1))]) (S' := [(0, (-1))]) (r := 42) rfl (hF.1.lt (by decide)) (hF.1.sh (by decide) rfl).1 (Nat.le_of_ble_eq_true rfl)) (by decide) ml330 pp330 (Nat.le_of_ble_eq_true rfl) rfl (by decide) (by decide) ?_
    refine ev_iload_n rfl ?_
    refine ev_iconst ?_
    refine ev_iconst ?_
    refine ev_in (d := 6) (a := 0) (b := 0) (cd' := c242_0) (m := 3) (L0 := [(0, (xs 1)), (0, 1), (0, 4)]) (jcall_s (A := [(0, 4), (0, 1), (0, (xs 1))]) (S' := []) (by decide) rfl (Nat.le_of_ble_eq_true rfl)) (by decide) ml242 pp242 (Nat.le_of_ble_eq_true rfl) rfl (by decide) (by decide) ?_
    refine ev_iload_n rfl ?_
    refine ev_iload_n rfl ?_
    refine ev_icmplt f242_14 (fun c2 => ?_) (fun c2 => absurd c2 (by omega))
    refine ev_iconst ?_
    refine ev_ret rfl (by decide) (by decide) ?_
    show jEv _ _ _ _ _ _ _ (_, [(2, 42), (0, (xs 1)), (0, (xs 2)), (9, 0)], [(0, 0)], _, _, _)
    refine ev_ifeq f330_18 (fun c3 => ?_) (fun c3 => absurd c3 (by omega))
    refine ev_iconst ?_
    refine ev_ret rfl (by decide) (by decide) ?_
    show jEv _ _ _ _ _ _ _ (_, [(2, (-2)), (2, 0), (2, 42), (0, 0)], [(0, (-1)), (0, (-1))], _, _, _)
    refine ev_icmpeq f384_2190 (fun c4 => ?_) (fun c4 => absurd c4 (by omega))
    exact law_tail _
  · refine ev_iload_n rfl ?_
    refine ev_iconst ?_
    refine ev_icmpgt f195_20 (fun c5 => ?_) (fun c5 => ?_)
    · refine ev_iconst ?_
      refine ev_ret rfl (by decide) (by decide) ?_
      show jEv _ _ _ _ _ _ _ (_, [(2, (-2)), (2, 0), (2, 42), (0, 0)], [(0, (-1))], _, _, _)
      refine ev_aload_n rfl ?_
      refine ev_aload_n rfl ?_
      refine ev_iload_n rfl ?_
      refine ev_iconst ?_
      refine ev_iadd (r := 1) (by decide) ?_
      refine ev_sald (j := 1) (v := (xs 1)) rfl rfl rfl ?_
      refine ev_aload_n rfl ?_
      refine ev_iload_n rfl ?_
      refine ev_iconst ?_
      refine ev_iadd (r := 2) (by decide) ?_
      refine ev_sald (j := 2) (v := (xs 2)) rfl rfl rfl ?_
      refine ev_in (d := 7) (a := 0) (b := 0) (cd' := c330_0) (m := 4) (L0 := [(2, 42), (0, (xs 1)), (0, (xs 2)), (9, 0)]) (jcall_v (A := [(0, (xs 2)), (0, (xs 1))]) (S' := [(0, (-1))]) (r := 42) rfl (hF.1.lt (by decide)) (hF.1.sh (by decide) rfl).1 (Nat.le_of_ble_eq_true rfl)) (by decide) ml330 pp330 (Nat.le_of_ble_eq_true rfl) rfl (by decide) (by decide) ?_
      refine ev_iload_n rfl ?_
      refine ev_iconst ?_
      refine ev_iconst ?_
      refine ev_in (d := 6) (a := 0) (b := 0) (cd' := c242_0) (m := 3) (L0 := [(0, (xs 1)), (0, 1), (0, 4)]) (jcall_s (A := [(0, 4), (0, 1), (0, (xs 1))]) (S' := []) (by decide) rfl (Nat.le_of_ble_eq_true rfl)) (by decide) ml242 pp242 (Nat.le_of_ble_eq_true rfl) rfl (by decide) (by decide) ?_
      refine ev_iload_n rfl ?_
      refine ev_iload_n rfl ?_
      refine ev_icmplt f242_14 (fun c6 => absurd c6 (by omega)) (fun c6 => ?_)
      refine ev_iload_n rfl ?_
      refine ev_iload_n rfl ?_
      refine ev_icmpgt f242_14 (fun c7 => ?_) (fun c7 => absurd c7 (by omega))
      refine ev_iconst ?_
      refine ev_ret rfl (by decide) (by decide) ?_
      show jEv _ _ _ _ _ _ _ (_, [(2, 42), (0, (xs 1)), (0, (xs 2)), (9, 0)], [(0, 0)], _, _, _)
      refine ev_ifeq f330_18 (fun c8 => ?_) (fun c8 => absurd c8 (by omega))
      refine ev_iconst ?_
      refine ev_ret rfl (by decide) (by decide) ?_
      show jEv _ _ _ _ _ _ _ (_, [(2, (-2)), (2, 0), (2, 42), (0, 0)], [(0, (-1)), (0, (-1))], _, _, _)
      refine ev_icmpeq f384_2190 (fun c9 => ?_) (fun c9 => absurd c9 (by omega))
      exact law_tail _
    · refine ev_iload_n rfl ?_
      refine ev_iconst ?_
      refine ev_icmplt f195_20 (fun c10 => ?_) (fun c10 => ?_)
      · refine ev_iconst ?_
        refine ev_ret rfl (by decide) (by decide) ?_
        show jEv _ _ _ _ _ _ _ (_, [(2, (-2)), (2, 0), (2, 42), (0, 0)], [(0, (-1))], _, _, _)
        refine ev_aload_n rfl ?_
        refine ev_aload_n rfl ?_
        refine ev_iload_n rfl ?_
        refine ev_iconst ?_
        refine ev_iadd (r := 1) (by decide) ?_
        refine ev_sald (j := 1) (v := (xs 1)) rfl rfl rfl ?_
        refine ev_aload_n rfl ?_
        refine ev_iload_n rfl ?_
        refine ev_iconst ?_
        refine ev_iadd (r := 2) (by decide) ?_
        refine ev_sald (j := 2) (v := (xs 2)) rfl rfl rfl ?_
        refine ev_in (d := 7) (a := 0) (b := 0) (cd' := c330_0) (m := 4) (L0 := [(2, 42), (0, (xs 1)), (0, (xs 2)), (9, 0)]) (jcall_v (A := [(0, (xs 2)), (0, (xs 1))]) (S' := [(0, (-1))]) (r := 42) rfl (hF.1.lt (by decide)) (hF.1.sh (by decide) rfl).1 (Nat.le_of_ble_eq_true rfl)) (by decide) ml330 pp330 (Nat.le_of_ble_eq_true rfl) rfl (by decide) (by decide) ?_
        refine ev_iload_n rfl ?_
        refine ev_iconst ?_
        refine ev_iconst ?_
        refine ev_in (d := 6) (a := 0) (b := 0) (cd' := c242_0) (m := 3) (L0 := [(0, (xs 1)), (0, 1), (0, 4)]) (jcall_s (A := [(0, 4), (0, 1), (0, (xs 1))]) (S' := []) (by decide) rfl (Nat.le_of_ble_eq_true rfl)) (by decide) ml242 pp242 (Nat.le_of_ble_eq_true rfl) rfl (by decide) (by decide) ?_
        refine ev_iload_n rfl ?_
        refine ev_iload_n rfl ?_
        refine ev_icmplt f242_14 (fun c11 => absurd c11 (by omega)) (fun c11 => ?_)
        refine ev_iload_n rfl ?_
        refine ev_iload_n rfl ?_
        refine ev_icmpgt f242_14 (fun c12 => absurd c12 (by omega)) (fun c12 => ?_)
        refine ev_iconst ?_
        refine ev_goto f242_15 ?_
        refine ev_ret rfl (by decide) (by decide) ?_
        show jEv _ _ _ _ _ _ _ (_, [(2, 42), (0, (xs 1)), (0, (xs 2)), (9, 0)], [(0, 1)], _, _, _)
        refine ev_ifeq f330_18 (fun c13 => absurd c13 (by omega)) (fun c13 => ?_)
        refine ev_iload_n rfl ?_
        refine ev_iconst ?_
        refine ev_iconst ?_
        refine ev_in (d := 6) (a := 0) (b := 0) (cd' := c242_0) (m := 3) (L0 := [(0, (xs 2)), (0, 1), (0, 4)]) (jcall_s (A := [(0, 4), (0, 1), (0, (xs 2))]) (S' := []) (by decide) rfl (Nat.le_of_ble_eq_true rfl)) (by decide) ml242 pp242 (Nat.le_of_ble_eq_true rfl) rfl (by decide) (by decide) ?_
        refine ev_iload_n rfl ?_
        refine ev_iload_n rfl ?_
        refine ev_icmplt f242_14 (fun c14 => ?_) (fun c14 => absurd c14 (by omega))
        refine ev_iconst ?_
        refine ev_ret rfl (by decide) (by decide) ?_
        show jEv _ _ _ _ _ _ _ (_, [(2, 42), (0, (xs 1)), (0, (xs 2)), (9, 0)], [(0, 0)], _, _, _)
        refine ev_ifne f330_20 (fun c15 => absurd c15 (by omega)) (fun c15 => ?_)
        refine ev_iconst ?_
        refine ev_ret rfl (by decide) (by decide) ?_
        show jEv _ _ _ _ _ _ _ (_, [(2, (-2)), (2, 0), (2, 42), (0, 0)], [(0, (-1)), (0, (-1))], _, _, _)
        refine ev_icmpeq f384_2190 (fun c16 => ?_) (fun c16 => absurd c16 (by omega))
        exact law_tail _
      · refine ev_iload_n rfl ?_
        refine ev_iconst ?_
        refine ev_icmple f195_22 (fun c17 => ?_) (fun c17 => ?_)
        · refine ev_aload_n rfl ?_
          refine ev_getf (r := 0) (v := 26) (hF.1.lt (by decide)) (hF.1.fam (by decide) (by decide)) ft11_11 ((hF.v rfl)) ?_
          refine ev_iload_n rfl ?_
          refine ev_iload_n rfl ?_
          refine ev_in (d := 6) (a := 0) (b := 0) (cd' := c103_0) (m := 3) (L0 := [(2, 26), (0, (xs 1)), (0, (xs 2))]) (jcall_v (A := [(0, (xs 2)), (0, (xs 1))]) (S' := []) (r := 26) rfl (hF.1.lt (by decide)) (hF.1.sh (by decide) rfl).1 (Nat.le_of_ble_eq_true rfl)) (by decide) ml103 pp103 (Nat.le_of_ble_eq_true rfl) rfl (by decide) (by decide) ?_
          refine ev_aload_n rfl ?_
          refine ev_iload_n rfl ?_
          refine ev_putfG (r := 26) (hF.1.lt (by decide)) (hF.1.fam (by decide) (by decide)) ft9_0 (fun e => absurd e nz9_0) (fun e => absurd e (by decide)) (fun h114 e114 => ?_)
          have hS114 := hF.1.wr e114
          refine ev_aload_n rfl ?_
          refine ev_iload_n rfl ?_
          refine ev_putfG (r := 26) (hS114.lt (by decide)) (hS114.fam (by decide) (by decide)) ft9_1 (fun e => absurd e nz9_1) (fun e => absurd e (by decide)) (fun h115 e115 => ?_)
          have hS115 := hS114.wr e115
          refine ev_aload_n rfl ?_
          refine ev_getf (r := 26) (v := 27) (hS115.lt (by decide)) (hS115.fam (by decide) (by decide)) ft9_2 ((jw_ne e115 (Or.inr (by decide))).trans ((jw_ne e114 (Or.inr (by decide))).trans ((hF.v rfl)))) ?_
          refine ev_iconst ?_
          refine ev_in (d := 5) (a := 0) (b := 0) (cd' := c383_0) (m := 4) (L0 := [(2, 27), (0, 0), (9, 0), (9, 0)]) (jcall_s (A := [(0, 0), (2, 27)]) (S' := []) (by decide) rfl (Nat.le_of_ble_eq_true rfl)) (by decide) ml383 pp383 (Nat.le_of_ble_eq_true rfl) rfl (by decide) (by decide) ?_
          refine ev_iconst ?_
          refine ev_istore_n (L' := [(2, 27), (0, 0), (0, 0), (9, 0)]) (Nat.le_of_ble_eq_true rfl) rfl ?_
          refine ev_aload_n rfl ?_
          refine ev_aln (r := 27) (m := 32) (hS115.lt (by decide)) (by rw [(hS115.sh (by decide) rfl).1]; decide) (by rw [(hS115.sh (by decide) rfl).1]; decide) (hS115.sh (by decide) rfl).2 (by decide) ?_
          refine ev_istore_n (L' := [(2, 27), (0, 0), (0, 0), (0, 32)]) (Nat.le_of_ble_eq_true rfl) rfl ?_
          refine ev_iload_n rfl ?_
          refine ev_iload_n rfl ?_
          refine ev_icmpge f383_20 (fun c18 => absurd c18 (by omega)) (fun c18 => ?_)
          refine ev_aload_n rfl ?_
          refine ev_iload_n rfl ?_
          refine ev_iload_n rfl ?_
          refine ev_iastG (r := 27) (j := 0) (hS115.lt (by decide)) (hS115.sh (by decide) rfl).1 rfl (hS115.inb (by decide) (by decide)) (fun h116 e116 => ?_)
          have hS116 := hS115.wr e116
          refine ev_iinc (w := 1) (L' := [(2, 27), (0, 0), (0, 1), (0, 32)]) rfl (by decide) rfl ?_
          refine ev_goto f383_5 ?_
          refine ev_iload_n rfl ?_
          refine ev_iload_n rfl ?_
          refine ev_icmpge f383_20 (fun c19 => absurd c19 (by omega)) (fun c19 => ?_)
          refine ev_aload_n rfl ?_
          refine ev_iload_n rfl ?_
          refine ev_iload_n rfl ?_
          refine ev_iastG (r := 27) (j := 1) (hS116.lt (by decide)) (hS116.sh (by decide) rfl).1 rfl (hS116.inb (by decide) (by decide)) (fun h117 e117 => ?_)
          have hS117 := hS116.wr e117
          refine ev_iinc (w := 2) (L' := [(2, 27), (0, 0), (0, 2), (0, 32)]) rfl (by decide) rfl ?_
          refine ev_goto f383_5 ?_
          refine ev_iload_n rfl ?_
          refine ev_iload_n rfl ?_
          refine ev_icmpge f383_20 (fun c20 => absurd c20 (by omega)) (fun c20 => ?_)
          refine ev_aload_n rfl ?_
          refine ev_iload_n rfl ?_
          refine ev_iload_n rfl ?_
          refine ev_iastG (r := 27) (j := 2) (hS117.lt (by decide)) (hS117.sh (by decide) rfl).1 rfl (hS117.inb (by decide) (by decide)) (fun h118 e118 => ?_)
          have hS118 := hS117.wr e118
          refine ev_iinc (w := 3) (L' := [(2, 27), (0, 0), (0, 3), (0, 32)]) rfl (by decide) rfl ?_
          refine ev_goto f383_5 ?_
          refine ev_iload_n rfl ?_
          refine ev_iload_n rfl ?_
          refine ev_icmpge f383_20 (fun c21 => absurd c21 (by omega)) (fun c21 => ?_)
          refine ev_aload_n rfl ?_
          refine ev_iload_n rfl ?_
          refine ev_iload_n rfl ?_
          refine ev_iastG (r := 27) (j := 3) (hS118.lt (by decide)) (hS118.sh (by decide) rfl).1 rfl (hS118.inb (by decide) (by decide)) (fun h119 e119 => ?_)
          have hS119 := hS118.wr e119
          refine ev_iinc (w := 4) (L' := [(2, 27), (0, 0), (0, 4), (0, 32)]) rfl (by decide) rfl ?_
          refine ev_goto f383_5 ?_
          refine ev_iload_n rfl ?_
          refine ev_iload_n rfl ?_
          refine ev_icmpge f383_20 (fun c22 => absurd c22 (by omega)) (fun c22 => ?_)
          refine ev_aload_n rfl ?_
          refine ev_iload_n rfl ?_
          refine ev_iload_n rfl ?_
          refine ev_iastG (r := 27) (j := 4) (hS119.lt (by decide)) (hS119.sh (by decide) rfl).1 rfl (hS119.inb (by decide) (by decide)) (fun h120 e120 => ?_)
          have hS120 := hS119.wr e120
          refine ev_iinc (w := 5) (L' := [(2, 27), (0, 0), (0, 5), (0, 32)]) rfl (by decide) rfl ?_
          refine ev_goto f383_5 ?_
          refine ev_iload_n rfl ?_
          refine ev_iload_n rfl ?_
          refine ev_icmpge f383_20 (fun c23 => absurd c23 (by omega)) (fun c23 => ?_)
          refine ev_aload_n rfl ?_
          refine ev_iload_n rfl ?_
          refine ev_iload_n rfl ?_
          refine ev_iastG (r := 27) (j := 5) (hS120.lt (by decide)) (hS120.sh (by decide) rfl).1 rfl (hS120.inb (by decide) (by decide)) (fun h121 e121 => ?_)
          have hS121 := hS120.wr e121
          refine ev_iinc (w := 6) (L' := [(2, 27), (0, 0), (0, 6), (0, 32)]) rfl (by decide) rfl ?_
          refine ev_goto f383_5 ?_
          refine ev_iload_n rfl ?_
          refine ev_iload_n rfl ?_
          refine ev_icmpge f383_20 (fun c24 => absurd c24 (by omega)) (fun c24 => ?_)
          refine ev_aload_n rfl ?_
          refine ev_iload_n rfl ?_
          refine ev_iload_n rfl ?_
          refine ev_iastG (r := 27) (j := 6) (hS121.lt (by decide)) (hS121.sh (by decide) rfl).1 rfl (hS121.inb (by decide) (by decide)) (fun h122 e122 => ?_)
          have hS122 := hS121.wr e122
          refine ev_iinc (w := 7) (L' := [(2, 27), (0, 0), (0, 7), (0, 32)]) rfl (by decide) rfl ?_
          refine ev_goto f383_5 ?_
          refine ev_iload_n rfl ?_
          refine ev_iload_n rfl ?_
          refine ev_icmpge f383_20 (fun c25 => absurd c25 (by omega)) (fun c25 => ?_)
          refine ev_aload_n rfl ?_
          refine ev_iload_n rfl ?_
          refine ev_iload_n rfl ?_
          refine ev_iastG (r := 27) (j := 7) (hS122.lt (by decide)) (hS122.sh (by decide) rfl).1 rfl (hS122.inb (by decide) (by decide)) (fun h123 e123 => ?_)
          have hS123 := hS122.wr e123
          refine ev_iinc (w := 8) (L' := [(2, 27), (0, 0), (0, 8), (0, 32)]) rfl (by decide) rfl ?_
          refine ev_goto f383_5 ?_
          refine ev_iload_n rfl ?_
          refine ev_iload_n rfl ?_
          refine ev_icmpge f383_20 (fun c26 => absurd c26 (by omega)) (fun c26 => ?_)
          refine ev_aload_n rfl ?_
          refine ev_iload_n rfl ?_
          refine ev_iload_n rfl ?_
          refine ev_iastG (r := 27) (j := 8) (hS123.lt (by decide)) (hS123.sh (by decide) rfl).1 rfl (hS123.inb (by decide) (by decide)) (fun h124 e124 => ?_)
          have hS124 := hS123.wr e124
          refine ev_iinc (w := 9) (L' := [(2, 27), (0, 0), (0, 9), (0, 32)]) rfl (by decide) rfl ?_
          refine ev_goto f383_5 ?_
          refine ev_iload_n rfl ?_
          refine ev_iload_n rfl ?_
          refine ev_icmpge f383_20 (fun c27 => absurd c27 (by omega)) (fun c27 => ?_)
          refine ev_aload_n rfl ?_
          refine ev_iload_n rfl ?_
          refine ev_iload_n rfl ?_
          refine ev_iastG (r := 27) (j := 9) (hS124.lt (by decide)) (hS124.sh (by decide) rfl).1 rfl (hS124.inb (by decide) (by decide)) (fun h125 e125 => ?_)
          have hS125 := hS124.wr e125
          refine ev_iinc (w := 10) (L' := [(2, 27), (0, 0), (0, 10), (0, 32)]) rfl (by decide) rfl ?_
          refine ev_goto f383_5 ?_
          refine ev_iload_n rfl ?_
          refine ev_iload_n rfl ?_
          refine ev_icmpge f383_20 (fun c28 => absurd c28 (by omega)) (fun c28 => ?_)
          refine ev_aload_n rfl ?_
          refine ev_iload_n rfl ?_
          refine ev_iload_n rfl ?_
          refine ev_iastG (r := 27) (j := 10) (hS125.lt (by decide)) (hS125.sh (by decide) rfl).1 rfl (hS125.inb (by decide) (by decide)) (fun h126 e126 => ?_)
          have hS126 := hS125.wr e126
          refine ev_iinc (w := 11) (L' := [(2, 27), (0, 0), (0, 11), (0, 32)]) rfl (by decide) rfl ?_
          refine ev_goto f383_5 ?_
          refine ev_iload_n rfl ?_
          refine ev_iload_n rfl ?_
          refine ev_icmpge f383_20 (fun c29 => absurd c29 (by omega)) (fun c29 => ?_)
          refine ev_aload_n rfl ?_
          refine ev_iload_n rfl ?_
          refine ev_iload_n rfl ?_
          refine ev_iastG (r := 27) (j := 11) (hS126.lt (by decide)) (hS126.sh (by decide) rfl).1 rfl (hS126.inb (by decide) (by decide)) (fun h127 e127 => ?_)
          have hS127 := hS126.wr e127
          refine ev_iinc (w := 12) (L' := [(2, 27), (0, 0), (0, 12), (0, 32)]) rfl (by decide) rfl ?_
          refine ev_goto f383_5 ?_
          refine ev_iload_n rfl ?_
          refine ev_iload_n rfl ?_
          refine ev_icmpge f383_20 (fun c30 => absurd c30 (by omega)) (fun c30 => ?_)
          refine ev_aload_n rfl ?_
          refine ev_iload_n rfl ?_
          refine ev_iload_n rfl ?_
          refine ev_iastG (r := 27) (j := 12) (hS127.lt (by decide)) (hS127.sh (by decide) rfl).1 rfl (hS127.inb (by decide) (by decide)) (fun h128 e128 => ?_)
          have hS128 := hS127.wr e128
          refine ev_iinc (w := 13) (L' := [(2, 27), (0, 0), (0, 13), (0, 32)]) rfl (by decide) rfl ?_
          refine ev_goto f383_5 ?_
          refine ev_iload_n rfl ?_
          refine ev_iload_n rfl ?_
          refine ev_icmpge f383_20 (fun c31 => absurd c31 (by omega)) (fun c31 => ?_)
          refine ev_aload_n rfl ?_
          refine ev_iload_n rfl ?_
          refine ev_iload_n rfl ?_
          refine ev_iastG (r := 27) (j := 13) (hS128.lt (by decide)) (hS128.sh (by decide) rfl).1 rfl (hS128.inb (by decide) (by decide)) (fun h129 e129 => ?_)
          have hS129 := hS128.wr e129
          refine ev_iinc (w := 14) (L' := [(2, 27), (0, 0), (0, 14), (0, 32)]) rfl (by decide) rfl ?_
          refine ev_goto f383_5 ?_
          refine ev_iload_n rfl ?_
          refine ev_iload_n rfl ?_
          refine ev_icmpge f383_20 (fun c32 => absurd c32 (by omega)) (fun c32 => ?_)
          refine ev_aload_n rfl ?_
          refine ev_iload_n rfl ?_
          refine ev_iload_n rfl ?_
          refine ev_iastG (r := 27) (j := 14) (hS129.lt (by decide)) (hS129.sh (by decide) rfl).1 rfl (hS129.inb (by decide) (by decide)) (fun h130 e130 => ?_)
          have hS130 := hS129.wr e130
          refine ev_iinc (w := 15) (L' := [(2, 27), (0, 0), (0, 15), (0, 32)]) rfl (by decide) rfl ?_
          refine ev_goto f383_5 ?_
          refine ev_iload_n rfl ?_
          refine ev_iload_n rfl ?_
          refine ev_icmpge f383_20 (fun c33 => absurd c33 (by omega)) (fun c33 => ?_)
          refine ev_aload_n rfl ?_
          refine ev_iload_n rfl ?_
          refine ev_iload_n rfl ?_
          refine ev_iastG (r := 27) (j := 15) (hS130.lt (by decide)) (hS130.sh (by decide) rfl).1 rfl (hS130.inb (by decide) (by decide)) (fun h131 e131 => ?_)
          have hS131 := hS130.wr e131
          refine ev_iinc (w := 16) (L' := [(2, 27), (0, 0), (0, 16), (0, 32)]) rfl (by decide) rfl ?_
          refine ev_goto f383_5 ?_
          refine ev_iload_n rfl ?_
          refine ev_iload_n rfl ?_
          refine ev_icmpge f383_20 (fun c34 => absurd c34 (by omega)) (fun c34 => ?_)
          refine ev_aload_n rfl ?_
          refine ev_iload_n rfl ?_
          refine ev_iload_n rfl ?_
          refine ev_iastG (r := 27) (j := 16) (hS131.lt (by decide)) (hS131.sh (by decide) rfl).1 rfl (hS131.inb (by decide) (by decide)) (fun h132 e132 => ?_)
          have hS132 := hS131.wr e132
          refine ev_iinc (w := 17) (L' := [(2, 27), (0, 0), (0, 17), (0, 32)]) rfl (by decide) rfl ?_
          refine ev_goto f383_5 ?_
          refine ev_iload_n rfl ?_
          refine ev_iload_n rfl ?_
          refine ev_icmpge f383_20 (fun c35 => absurd c35 (by omega)) (fun c35 => ?_)
          refine ev_aload_n rfl ?_
          refine ev_iload_n rfl ?_
          refine ev_iload_n rfl ?_
          refine ev_iastG (r := 27) (j := 17) (hS132.lt (by decide)) (hS132.sh (by decide) rfl).1 rfl (hS132.inb (by decide) (by decide)) (fun h133 e133 => ?_)
          have hS133 := hS132.wr e133
          refine ev_iinc (w := 18) (L' := [(2, 27), (0, 0), (0, 18), (0, 32)]) rfl (by decide) rfl ?_
          refine ev_goto f383_5 ?_
          refine ev_iload_n rfl ?_
          refine ev_iload_n rfl ?_
          refine ev_icmpge f383_20 (fun c36 => absurd c36 (by omega)) (fun c36 => ?_)
          refine ev_aload_n rfl ?_
          refine ev_iload_n rfl ?_
          refine ev_iload_n rfl ?_
          refine ev_iastG (r := 27) (j := 18) (hS133.lt (by decide)) (hS133.sh (by decide) rfl).1 rfl (hS133.inb (by decide) (by decide)) (fun h134 e134 => ?_)
          have hS134 := hS133.wr e134
          refine ev_iinc (w := 19) (L' := [(2, 27), (0, 0), (0, 19), (0, 32)]) rfl (by decide) rfl ?_
          refine ev_goto f383_5 ?_
          refine ev_iload_n rfl ?_
          refine ev_iload_n rfl ?_
          refine ev_icmpge f383_20 (fun c37 => absurd c37 (by omega)) (fun c37 => ?_)
          refine ev_aload_n rfl ?_
          refine ev_iload_n rfl ?_
          refine ev_iload_n rfl ?_
          refine ev_iastG (r := 27) (j := 19) (hS134.lt (by decide)) (hS134.sh (by decide) rfl).1 rfl (hS134.inb (by decide) (by decide)) (fun h135 e135 => ?_)
          have hS135 := hS134.wr e135
          refine ev_iinc (w := 20) (L' := [(2, 27), (0, 0), (0, 20), (0, 32)]) rfl (by decide) rfl ?_
          refine ev_goto f383_5 ?_
          refine ev_iload_n rfl ?_
          refine ev_iload_n rfl ?_
          refine ev_icmpge f383_20 (fun c38 => absurd c38 (by omega)) (fun c38 => ?_)
          refine ev_aload_n rfl ?_
          refine ev_iload_n rfl ?_
          refine ev_iload_n rfl ?_
          refine ev_iastG (r := 27) (j := 20) (hS135.lt (by decide)) (hS135.sh (by decide) rfl).1 rfl (hS135.inb (by decide) (by decide)) (fun h136 e136 => ?_)
          have hS136 := hS135.wr e136
          refine ev_iinc (w := 21) (L' := [(2, 27), (0, 0), (0, 21), (0, 32)]) rfl (by decide) rfl ?_
          refine ev_goto f383_5 ?_
          refine ev_iload_n rfl ?_
          refine ev_iload_n rfl ?_
          refine ev_icmpge f383_20 (fun c39 => absurd c39 (by omega)) (fun c39 => ?_)
          refine ev_aload_n rfl ?_
          refine ev_iload_n rfl ?_
          refine ev_iload_n rfl ?_
          refine ev_iastG (r := 27) (j := 21) (hS136.lt (by decide)) (hS136.sh (by decide) rfl).1 rfl (hS136.inb (by decide) (by decide)) (fun h137 e137 => ?_)
          have hS137 := hS136.wr e137
          refine ev_iinc (w := 22) (L' := [(2, 27), (0, 0), (0, 22), (0, 32)]) rfl (by decide) rfl ?_
          refine ev_goto f383_5 ?_
          refine ev_iload_n rfl ?_
          refine ev_iload_n rfl ?_
          refine ev_icmpge f383_20 (fun c40 => absurd c40 (by omega)) (fun c40 => ?_)
          refine ev_aload_n rfl ?_
          refine ev_iload_n rfl ?_
          refine ev_iload_n rfl ?_
          refine ev_iastG (r := 27) (j := 22) (hS137.lt (by decide)) (hS137.sh (by decide) rfl).1 rfl (hS137.inb (by decide) (by decide)) (fun h138 e138 => ?_)
          have hS138 := hS137.wr e138
          refine ev_iinc (w := 23) (L' := [(2, 27), (0, 0), (0, 23), (0, 32)]) rfl (by decide) rfl ?_
          refine ev_goto f383_5 ?_
          refine ev_iload_n rfl ?_
          refine ev_iload_n rfl ?_
          refine ev_icmpge f383_20 (fun c41 => absurd c41 (by omega)) (fun c41 => ?_)
          refine ev_aload_n rfl ?_
          refine ev_iload_n rfl ?_
          refine ev_iload_n rfl ?_
          refine ev_iastG (r := 27) (j := 23) (hS138.lt (by decide)) (hS138.sh (by decide) rfl).1 rfl (hS138.inb (by decide) (by decide)) (fun h139 e139 => ?_)
          have hS139 := hS138.wr e139
          refine ev_iinc (w := 24) (L' := [(2, 27), (0, 0), (0, 24), (0, 32)]) rfl (by decide) rfl ?_
          refine ev_goto f383_5 ?_
          refine ev_iload_n rfl ?_
          refine ev_iload_n rfl ?_
          refine ev_icmpge f383_20 (fun c42 => absurd c42 (by omega)) (fun c42 => ?_)
          refine ev_aload_n rfl ?_
          refine ev_iload_n rfl ?_
          refine ev_iload_n rfl ?_
          refine ev_iastG (r := 27) (j := 24) (hS139.lt (by decide)) (hS139.sh (by decide) rfl).1 rfl (hS139.inb (by decide) (by decide)) (fun h140 e140 => ?_)
          have hS140 := hS139.wr e140
          refine ev_iinc (w := 25) (L' := [(2, 27), (0, 0), (0, 25), (0, 32)]) rfl (by decide) rfl ?_
          refine ev_goto f383_5 ?_
          refine ev_iload_n rfl ?_
          refine ev_iload_n rfl ?_
          refine ev_icmpge f383_20 (fun c43 => absurd c43 (by omega)) (fun c43 => ?_)
          refine ev_aload_n rfl ?_
          refine ev_iload_n rfl ?_
          refine ev_iload_n rfl ?_
          refine ev_iastG (r := 27) (j := 25) (hS140.lt (by decide)) (hS140.sh (by decide) rfl).1 rfl (hS140.inb (by decide) (by decide)) (fun h141 e141 => ?_)
          have hS141 := hS140.wr e141
          refine ev_iinc (w := 26) (L' := [(2, 27), (0, 0), (0, 26), (0, 32)]) rfl (by decide) rfl ?_
          refine ev_goto f383_5 ?_
          refine ev_iload_n rfl ?_
          refine ev_iload_n rfl ?_
          refine ev_icmpge f383_20 (fun c44 => absurd c44 (by omega)) (fun c44 => ?_)
          refine ev_aload_n rfl ?_
          refine ev_iload_n rfl ?_
          refine ev_iload_n rfl ?_
          refine ev_iastG (r := 27) (j := 26) (hS141.lt (by decide)) (hS141.sh (by decide) rfl).1 rfl (hS141.inb (by decide) (by decide)) (fun h142 e142 => ?_)
          have hS142 := hS141.wr e142
          refine ev_iinc (w := 27) (L' := [(2, 27), (0, 0), (0, 27), (0, 32)]) rfl (by decide) rfl ?_
          refine ev_goto f383_5 ?_
          refine ev_iload_n rfl ?_
          refine ev_iload_n rfl ?_
          refine ev_icmpge f383_20 (fun c45 => absurd c45 (by omega)) (fun c45 => ?_)
          refine ev_aload_n rfl ?_
          refine ev_iload_n rfl ?_
          refine ev_iload_n rfl ?_
          refine ev_iastG (r := 27) (j := 27) (hS142.lt (by decide)) (hS142.sh (by decide) rfl).1 rfl (hS142.inb (by decide) (by decide)) (fun h143 e143 => ?_)
          have hS143 := hS142.wr e143
          refine ev_iinc (w := 28) (L' := [(2, 27), (0, 0), (0, 28), (0, 32)]) rfl (by decide) rfl ?_
          refine ev_goto f383_5 ?_
          refine ev_iload_n rfl ?_
          refine ev_iload_n rfl ?_
          refine ev_icmpge f383_20 (fun c46 => absurd c46 (by omega)) (fun c46 => ?_)
          refine ev_aload_n rfl ?_
          refine ev_iload_n rfl ?_
          refine ev_iload_n rfl ?_
          refine ev_iastG (r := 27) (j := 28) (hS143.lt (by decide)) (hS143.sh (by decide) rfl).1 rfl (hS143.inb (by decide) (by decide)) (fun h144 e144 => ?_)
          have hS144 := hS143.wr e144
          refine ev_iinc (w := 29) (L' := [(2, 27), (0, 0), (0, 29), (0, 32)]) rfl (by decide) rfl ?_
          refine ev_goto f383_5 ?_
          refine ev_iload_n rfl ?_
          refine ev_iload_n rfl ?_
          refine ev_icmpge f383_20 (fun c47 => absurd c47 (by omega)) (fun c47 => ?_)
          refine ev_aload_n rfl ?_
          refine ev_iload_n rfl ?_
          refine ev_iload_n rfl ?_
          refine ev_iastG (r := 27) (j := 29) (hS144.lt (by decide)) (hS144.sh (by decide) rfl).1 rfl (hS144.inb (by decide) (by decide)) (fun h145 e145 => ?_)
          have hS145 := hS144.wr e145
          refine ev_iinc (w := 30) (L' := [(2, 27), (0, 0), (0, 30), (0, 32)]) rfl (by decide) rfl ?_
          refine ev_goto f383_5 ?_
          refine ev_iload_n rfl ?_
          refine ev_iload_n rfl ?_
          refine ev_icmpge f383_20 (fun c48 => absurd c48 (by omega)) (fun c48 => ?_)
          refine ev_aload_n rfl ?_
          refine ev_iload_n rfl ?_
          refine ev_iload_n rfl ?_
          refine ev_iastG (r := 27) (j := 30) (hS145.lt (by decide)) (hS145.sh (by decide) rfl).1 rfl (hS145.inb (by decide) (by decide)) (fun h146 e146 => ?_)
          have hS146 := hS145.wr e146
          refine ev_iinc (w := 31) (L' := [(2, 27), (0, 0), (0, 31), (0, 32)]) rfl (by decide) rfl ?_
          refine ev_goto f383_5 ?_
          refine ev_iload_n rfl ?_
          refine ev_iload_n rfl ?_
          refine ev_icmpge f383_20 (fun c49 => absurd c49 (by omega)) (fun c49 => ?_)
          refine ev_aload_n rfl ?_
          refine ev_iload_n rfl ?_
          refine ev_iload_n rfl ?_
          refine ev_iastG (r := 27) (j := 31) (hS146.lt (by decide)) (hS146.sh (by decide) rfl).1 rfl (hS146.inb (by decide) (by decide)) (fun h147 e147 => ?_)
          have hS147 := hS146.wr e147
          refine ev_iinc (w := 32) (L' := [(2, 27), (0, 0), (0, 32), (0, 32)]) rfl (by decide) rfl ?_
          refine ev_goto f383_5 ?_
          refine ev_iload_n rfl ?_
          refine ev_iload_n rfl ?_
          refine ev_icmpge f383_20 (fun c50 => ?_) (fun c50 => absurd c50 (by omega))
          refine ev_ret rfl (by decide) (by decide) ?_
          show jEv _ _ _ _ _ _ _ (_, [(2, 26), (0, (xs 1)), (0, (xs 2))], [], _, _, _)
          refine ev_ret rfl (by decide) (by decide) ?_
          show jEv _ _ _ _ _ _ _ (_, [(2, 0), (0, (xs 1)), (0, (xs 2))], [], _, _, _)
          refine ev_iload_n rfl ?_
          refine ev_iload_n rfl ?_
          have q51 := jmulb (x := (xs 1)) (y := (xs 2)) (a := 4) (b := 4) (by omega) (by omega) (by omega) (by omega)
          refine ev_imul (r := ((xs 1) * (xs 2))) (by unfold w32; omega) ?_
          refine ev_ret rfl (by decide) (by decide) ?_
          show jEv _ _ _ _ _ _ _ (_, [(2, (-2)), (2, 0), (2, 42), (0, 0)], [(0, ((xs 1) * (xs 2)))], _, _, _)
          refine ev_aload_n rfl ?_
          refine ev_aload_n rfl ?_
          refine ev_iload_n rfl ?_
          refine ev_iconst ?_
          refine ev_iadd (r := 1) (by decide) ?_
          refine ev_sald (j := 1) (v := (xs 1)) rfl rfl rfl ?_
          refine ev_aload_n rfl ?_
          refine ev_iload_n rfl ?_
          refine ev_iconst ?_
          refine ev_iadd (r := 2) (by decide) ?_
          refine ev_sald (j := 2) (v := (xs 2)) rfl rfl rfl ?_
          refine ev_in (d := 7) (a := 0) (b := 0) (cd' := c330_0) (m := 4) (L0 := [(2, 42), (0, (xs 1)), (0, (xs 2)), (9, 0)]) (jcall_v (A := [(0, (xs 2)), (0, (xs 1))]) (S' := [(0, ((xs 1) * (xs 2)))]) (r := 42) rfl (hS147.lt (by decide)) (hS147.sh (by decide) rfl).1 (Nat.le_of_ble_eq_true rfl)) (by decide) ml330 pp330 (Nat.le_of_ble_eq_true rfl) rfl (by decide) (by decide) ?_
          refine ev_iload_n rfl ?_
          refine ev_iconst ?_
          refine ev_iconst ?_
          refine ev_in (d := 6) (a := 0) (b := 0) (cd' := c242_0) (m := 3) (L0 := [(0, (xs 1)), (0, 1), (0, 4)]) (jcall_s (A := [(0, 4), (0, 1), (0, (xs 1))]) (S' := []) (by decide) rfl (Nat.le_of_ble_eq_true rfl)) (by decide) ml242 pp242 (Nat.le_of_ble_eq_true rfl) rfl (by decide) (by decide) ?_
          refine ev_iload_n rfl ?_
          refine ev_iload_n rfl ?_
          refine ev_icmplt f242_14 (fun c52 => absurd c52 (by omega)) (fun c52 => ?_)
          refine ev_iload_n rfl ?_
          refine ev_iload_n rfl ?_
          refine ev_icmpgt f242_14 (fun c53 => absurd c53 (by omega)) (fun c53 => ?_)
          refine ev_iconst ?_
          refine ev_goto f242_15 ?_
          refine ev_ret rfl (by decide) (by decide) ?_
          show jEv _ _ _ _ _ _ _ (_, [(2, 42), (0, (xs 1)), (0, (xs 2)), (9, 0)], [(0, 1)], _, _, _)
          refine ev_ifeq f330_18 (fun c54 => absurd c54 (by omega)) (fun c54 => ?_)
          refine ev_iload_n rfl ?_
          refine ev_iconst ?_
          refine ev_iconst ?_
          refine ev_in (d := 6) (a := 0) (b := 0) (cd' := c242_0) (m := 3) (L0 := [(0, (xs 2)), (0, 1), (0, 4)]) (jcall_s (A := [(0, 4), (0, 1), (0, (xs 2))]) (S' := []) (by decide) rfl (Nat.le_of_ble_eq_true rfl)) (by decide) ml242 pp242 (Nat.le_of_ble_eq_true rfl) rfl (by decide) (by decide) ?_
          refine ev_iload_n rfl ?_
          refine ev_iload_n rfl ?_
          refine ev_icmplt f242_14 (fun c55 => absurd c55 (by omega)) (fun c55 => ?_)
          refine ev_iload_n rfl ?_
          refine ev_iload_n rfl ?_
          refine ev_icmpgt f242_14 (fun c56 => absurd c56 (by omega)) (fun c56 => ?_)
          refine ev_iconst ?_
          refine ev_goto f242_15 ?_
          refine ev_ret rfl (by decide) (by decide) ?_
          show jEv _ _ _ _ _ _ _ (_, [(2, 42), (0, (xs 1)), (0, (xs 2)), (9, 0)], [(0, 1)], _, _, _)
          refine ev_ifne f330_20 (fun c57 => ?_) (fun c57 => absurd c57 (by omega))
          refine ev_aload_n rfl ?_
          refine ev_iload_n rfl ?_
          refine ev_putfG (r := 42) (hS147.lt (by decide)) (hS147.fam (by decide) (by decide)) ft12_44 (fun e => absurd e nz12_44) (fun e => absurd e (by decide)) (fun h148 e148 => ?_)
          have hS148 := hS147.wr e148
          refine ev_aload_n rfl ?_
          refine ev_iload_n rfl ?_
          refine ev_putfG (r := 42) (hS148.lt (by decide)) (hS148.fam (by decide) (by decide)) ft12_45 (fun e => absurd e nz12_45) (fun e => absurd e (by decide)) (fun h149 e149 => ?_)
          have hS149 := hS148.wr e149
          refine ev_iconst ?_
          refine ev_istore_n (L' := [(2, 42), (0, (xs 1)), (0, (xs 2)), (0, 0)]) (Nat.le_of_ble_eq_true rfl) rfl ?_
          refine ev_iload_n rfl ?_
          refine ev_bipush ?_
          refine ev_icmpge f330_51 (fun c58 => absurd c58 (by omega)) (fun c58 => ?_)
          refine ev_aload_n rfl ?_
          refine ev_getf (r := 42) (v := 67) (hS149.lt (by decide)) (hS149.fam (by decide) (by decide)) ft12_46 ((jw_ne e149 (Or.inr (by decide))).trans ((jw_ne e148 (Or.inr (by decide))).trans ((jw_ne e147 (Or.inl (by decide))).trans ((jw_ne e146 (Or.inl (by decide))).trans ((jw_ne e145 (Or.inl (by decide))).trans ((jw_ne e144 (Or.inl (by decide))).trans ((jw_ne e143 (Or.inl (by decide))).trans ((jw_ne e142 (Or.inl (by decide))).trans ((jw_ne e141 (Or.inl (by decide))).trans ((jw_ne e140 (Or.inl (by decide))).trans ((jw_ne e139 (Or.inl (by decide))).trans ((jw_ne e138 (Or.inl (by decide))).trans ((jw_ne e137 (Or.inl (by decide))).trans ((jw_ne e136 (Or.inl (by decide))).trans ((jw_ne e135 (Or.inl (by decide))).trans ((jw_ne e134 (Or.inl (by decide))).trans ((jw_ne e133 (Or.inl (by decide))).trans ((jw_ne e132 (Or.inl (by decide))).trans ((jw_ne e131 (Or.inl (by decide))).trans ((jw_ne e130 (Or.inl (by decide))).trans ((jw_ne e129 (Or.inl (by decide))).trans ((jw_ne e128 (Or.inl (by decide))).trans ((jw_ne e127 (Or.inl (by decide))).trans ((jw_ne e126 (Or.inl (by decide))).trans ((jw_ne e125 (Or.inl (by decide))).trans ((jw_ne e124 (Or.inl (by decide))).trans ((jw_ne e123 (Or.inl (by decide))).trans ((jw_ne e122 (Or.inl (by decide))).trans ((jw_ne e121 (Or.inl (by decide))).trans ((jw_ne e120 (Or.inl (by decide))).trans ((jw_ne e119 (Or.inl (by decide))).trans ((jw_ne e118 (Or.inl (by decide))).trans ((jw_ne e117 (Or.inl (by decide))).trans ((jw_ne e116 (Or.inl (by decide))).trans ((jw_ne e115 (Or.inl (by decide))).trans ((jw_ne e114 (Or.inl (by decide))).trans ((hF.v rfl)))))))))))))))))))))))))))))))))))))) ?_
          refine ev_iload_n rfl ?_
          refine ev_iconst ?_
          refine ev_iastG (r := 67) (j := 0) (hS149.lt (by decide)) (hS149.sh (by decide) rfl).1 rfl (hS149.inb (by decide) (by decide)) (fun h150 e150 => ?_)
          have hS150 := hS149.wr e150
          refine ev_iinc (w := 1) (L' := [(2, 42), (0, (xs 1)), (0, (xs 2)), (0, 1)]) rfl (by decide) rfl ?_
          refine ev_goto f330_32 ?_
          refine ev_iload_n rfl ?_
          refine ev_bipush ?_
          refine ev_icmpge f330_51 (fun c59 => absurd c59 (by omega)) (fun c59 => ?_)
          refine ev_aload_n rfl ?_
          refine ev_getf (r := 42) (v := 67) (hS150.lt (by decide)) (hS150.fam (by decide) (by decide)) ft12_46 ((jw_ne e150 (Or.inl (by decide))).trans ((jw_ne e149 (Or.inr (by decide))).trans ((jw_ne e148 (Or.inr (by decide))).trans ((jw_ne e147 (Or.inl (by decide))).trans ((jw_ne e146 (Or.inl (by decide))).trans ((jw_ne e145 (Or.inl (by decide))).trans ((jw_ne e144 (Or.inl (by decide))).trans ((jw_ne e143 (Or.inl (by decide))).trans ((jw_ne e142 (Or.inl (by decide))).trans ((jw_ne e141 (Or.inl (by decide))).trans ((jw_ne e140 (Or.inl (by decide))).trans ((jw_ne e139 (Or.inl (by decide))).trans ((jw_ne e138 (Or.inl (by decide))).trans ((jw_ne e137 (Or.inl (by decide))).trans ((jw_ne e136 (Or.inl (by decide))).trans ((jw_ne e135 (Or.inl (by decide))).trans ((jw_ne e134 (Or.inl (by decide))).trans ((jw_ne e133 (Or.inl (by decide))).trans ((jw_ne e132 (Or.inl (by decide))).trans ((jw_ne e131 (Or.inl (by decide))).trans ((jw_ne e130 (Or.inl (by decide))).trans ((jw_ne e129 (Or.inl (by decide))).trans ((jw_ne e128 (Or.inl (by decide))).trans ((jw_ne e127 (Or.inl (by decide))).trans ((jw_ne e126 (Or.inl (by decide))).trans ((jw_ne e125 (Or.inl (by decide))).trans ((jw_ne e124 (Or.inl (by decide))).trans ((jw_ne e123 (Or.inl (by decide))).trans ((jw_ne e122 (Or.inl (by decide))).trans ((jw_ne e121 (Or.inl (by decide))).trans ((jw_ne e120 (Or.inl (by decide))).trans ((jw_ne e119 (Or.inl (by decide))).trans ((jw_ne e118 (Or.inl (by decide))).trans ((jw_ne e117 (Or.inl (by decide))).trans ((jw_ne e116 (Or.inl (by decide))).trans ((jw_ne e115 (Or.inl (by decide))).trans ((jw_ne e114 (Or.inl (by decide))).trans ((hF.v rfl))))))))))))))))))))))))))))))))))))))) ?_
          refine ev_iload_n rfl ?_
          refine ev_iconst ?_
          refine ev_iastG (r := 67) (j := 1) (hS150.lt (by decide)) (hS150.sh (by decide) rfl).1 rfl (hS150.inb (by decide) (by decide)) (fun h151 e151 => ?_)
          have hS151 := hS150.wr e151
          refine ev_iinc (w := 2) (L' := [(2, 42), (0, (xs 1)), (0, (xs 2)), (0, 2)]) rfl (by decide) rfl ?_
          refine ev_goto f330_32 ?_
          refine ev_iload_n rfl ?_
          refine ev_bipush ?_
          refine ev_icmpge f330_51 (fun c60 => absurd c60 (by omega)) (fun c60 => ?_)
          refine ev_aload_n rfl ?_
          refine ev_getf (r := 42) (v := 67) (hS151.lt (by decide)) (hS151.fam (by decide) (by decide)) ft12_46 ((jw_ne e151 (Or.inl (by decide))).trans ((jw_ne e150 (Or.inl (by decide))).trans ((jw_ne e149 (Or.inr (by decide))).trans ((jw_ne e148 (Or.inr (by decide))).trans ((jw_ne e147 (Or.inl (by decide))).trans ((jw_ne e146 (Or.inl (by decide))).trans ((jw_ne e145 (Or.inl (by decide))).trans ((jw_ne e144 (Or.inl (by decide))).trans ((jw_ne e143 (Or.inl (by decide))).trans ((jw_ne e142 (Or.inl (by decide))).trans ((jw_ne e141 (Or.inl (by decide))).trans ((jw_ne e140 (Or.inl (by decide))).trans ((jw_ne e139 (Or.inl (by decide))).trans ((jw_ne e138 (Or.inl (by decide))).trans ((jw_ne e137 (Or.inl (by decide))).trans ((jw_ne e136 (Or.inl (by decide))).trans ((jw_ne e135 (Or.inl (by decide))).trans ((jw_ne e134 (Or.inl (by decide))).trans ((jw_ne e133 (Or.inl (by decide))).trans ((jw_ne e132 (Or.inl (by decide))).trans ((jw_ne e131 (Or.inl (by decide))).trans ((jw_ne e130 (Or.inl (by decide))).trans ((jw_ne e129 (Or.inl (by decide))).trans ((jw_ne e128 (Or.inl (by decide))).trans ((jw_ne e127 (Or.inl (by decide))).trans ((jw_ne e126 (Or.inl (by decide))).trans ((jw_ne e125 (Or.inl (by decide))).trans ((jw_ne e124 (Or.inl (by decide))).trans ((jw_ne e123 (Or.inl (by decide))).trans ((jw_ne e122 (Or.inl (by decide))).trans ((jw_ne e121 (Or.inl (by decide))).trans ((jw_ne e120 (Or.inl (by decide))).trans ((jw_ne e119 (Or.inl (by decide))).trans ((jw_ne e118 (Or.inl (by decide))).trans ((jw_ne e117 (Or.inl (by decide))).trans ((jw_ne e116 (Or.inl (by decide))).trans ((jw_ne e115 (Or.inl (by decide))).trans ((jw_ne e114 (Or.inl (by decide))).trans ((hF.v rfl)))))))))))))))))))))))))))))))))))))))) ?_
          refine ev_iload_n rfl ?_
          refine ev_iconst ?_
          refine ev_iastG (r := 67) (j := 2) (hS151.lt (by decide)) (hS151.sh (by decide) rfl).1 rfl (hS151.inb (by decide) (by decide)) (fun h152 e152 => ?_)
          have hS152 := hS151.wr e152
          refine ev_iinc (w := 3) (L' := [(2, 42), (0, (xs 1)), (0, (xs 2)), (0, 3)]) rfl (by decide) rfl ?_
          refine ev_goto f330_32 ?_
          refine ev_iload_n rfl ?_
          refine ev_bipush ?_
          refine ev_icmpge f330_51 (fun c61 => absurd c61 (by omega)) (fun c61 => ?_)
          refine ev_aload_n rfl ?_
          refine ev_getf (r := 42) (v := 67) (hS152.lt (by decide)) (hS152.fam (by decide) (by decide)) ft12_46 ((jw_ne e152 (Or.inl (by decide))).trans ((jw_ne e151 (Or.inl (by decide))).trans ((jw_ne e150 (Or.inl (by decide))).trans ((jw_ne e149 (Or.inr (by decide))).trans ((jw_ne e148 (Or.inr (by decide))).trans ((jw_ne e147 (Or.inl (by decide))).trans ((jw_ne e146 (Or.inl (by decide))).trans ((jw_ne e145 (Or.inl (by decide))).trans ((jw_ne e144 (Or.inl (by decide))).trans ((jw_ne e143 (Or.inl (by decide))).trans ((jw_ne e142 (Or.inl (by decide))).trans ((jw_ne e141 (Or.inl (by decide))).trans ((jw_ne e140 (Or.inl (by decide))).trans ((jw_ne e139 (Or.inl (by decide))).trans ((jw_ne e138 (Or.inl (by decide))).trans ((jw_ne e137 (Or.inl (by decide))).trans ((jw_ne e136 (Or.inl (by decide))).trans ((jw_ne e135 (Or.inl (by decide))).trans ((jw_ne e134 (Or.inl (by decide))).trans ((jw_ne e133 (Or.inl (by decide))).trans ((jw_ne e132 (Or.inl (by decide))).trans ((jw_ne e131 (Or.inl (by decide))).trans ((jw_ne e130 (Or.inl (by decide))).trans ((jw_ne e129 (Or.inl (by decide))).trans ((jw_ne e128 (Or.inl (by decide))).trans ((jw_ne e127 (Or.inl (by decide))).trans ((jw_ne e126 (Or.inl (by decide))).trans ((jw_ne e125 (Or.inl (by decide))).trans ((jw_ne e124 (Or.inl (by decide))).trans ((jw_ne e123 (Or.inl (by decide))).trans ((jw_ne e122 (Or.inl (by decide))).trans ((jw_ne e121 (Or.inl (by decide))).trans ((jw_ne e120 (Or.inl (by decide))).trans ((jw_ne e119 (Or.inl (by decide))).trans ((jw_ne e118 (Or.inl (by decide))).trans ((jw_ne e117 (Or.inl (by decide))).trans ((jw_ne e116 (Or.inl (by decide))).trans ((jw_ne e115 (Or.inl (by decide))).trans ((jw_ne e114 (Or.inl (by decide))).trans ((hF.v rfl))))))))))))))))))))))))))))))))))))))))) ?_
          refine ev_iload_n rfl ?_
          refine ev_iconst ?_
          refine ev_iastG (r := 67) (j := 3) (hS152.lt (by decide)) (hS152.sh (by decide) rfl).1 rfl (hS152.inb (by decide) (by decide)) (fun h153 e153 => ?_)
          have hS153 := hS152.wr e153
          refine ev_iinc (w := 4) (L' := [(2, 42), (0, (xs 1)), (0, (xs 2)), (0, 4)]) rfl (by decide) rfl ?_
          refine ev_goto f330_32 ?_
          refine ev_iload_n rfl ?_
          refine ev_bipush ?_
          refine ev_icmpge f330_51 (fun c62 => absurd c62 (by omega)) (fun c62 => ?_)
          refine ev_aload_n rfl ?_
          refine ev_getf (r := 42) (v := 67) (hS153.lt (by decide)) (hS153.fam (by decide) (by decide)) ft12_46 ((jw_ne e153 (Or.inl (by decide))).trans ((jw_ne e152 (Or.inl (by decide))).trans ((jw_ne e151 (Or.inl (by decide))).trans ((jw_ne e150 (Or.inl (by decide))).trans ((jw_ne e149 (Or.inr (by decide))).trans ((jw_ne e148 (Or.inr (by decide))).trans ((jw_ne e147 (Or.inl (by decide))).trans ((jw_ne e146 (Or.inl (by decide))).trans ((jw_ne e145 (Or.inl (by decide))).trans ((jw_ne e144 (Or.inl (by decide))).trans ((jw_ne e143 (Or.inl (by decide))).trans ((jw_ne e142 (Or.inl (by decide))).trans ((jw_ne e141 (Or.inl (by decide))).trans ((jw_ne e140 (Or.inl (by decide))).trans ((jw_ne e139 (Or.inl (by decide))).trans ((jw_ne e138 (Or.inl (by decide))).trans ((jw_ne e137 (Or.inl (by decide))).trans ((jw_ne e136 (Or.inl (by decide))).trans ((jw_ne e135 (Or.inl (by decide))).trans ((jw_ne e134 (Or.inl (by decide))).trans ((jw_ne e133 (Or.inl (by decide))).trans ((jw_ne e132 (Or.inl (by decide))).trans ((jw_ne e131 (Or.inl (by decide))).trans ((jw_ne e130 (Or.inl (by decide))).trans ((jw_ne e129 (Or.inl (by decide))).trans ((jw_ne e128 (Or.inl (by decide))).trans ((jw_ne e127 (Or.inl (by decide))).trans ((jw_ne e126 (Or.inl (by decide))).trans ((jw_ne e125 (Or.inl (by decide))).trans ((jw_ne e124 (Or.inl (by decide))).trans ((jw_ne e123 (Or.inl (by decide))).trans ((jw_ne e122 (Or.inl (by decide))).trans ((jw_ne e121 (Or.inl (by decide))).trans ((jw_ne e120 (Or.inl (by decide))).trans ((jw_ne e119 (Or.inl (by decide))).trans ((jw_ne e118 (Or.inl (by decide))).trans ((jw_ne e117 (Or.inl (by decide))).trans ((jw_ne e116 (Or.inl (by decide))).trans ((jw_ne e115 (Or.inl (by decide))).trans ((jw_ne e114 (Or.inl (by decide))).trans ((hF.v rfl)))))))))))))))))))))))))))))))))))))))))) ?_
          refine ev_iload_n rfl ?_
          refine ev_iconst ?_
          refine ev_iastG (r := 67) (j := 4) (hS153.lt (by decide)) (hS153.sh (by decide) rfl).1 rfl (hS153.inb (by decide) (by decide)) (fun h154 e154 => ?_)
          have hS154 := hS153.wr e154
          refine ev_iinc (w := 5) (L' := [(2, 42), (0, (xs 1)), (0, (xs 2)), (0, 5)]) rfl (by decide) rfl ?_
          refine ev_goto f330_32 ?_
          refine ev_iload_n rfl ?_
          refine ev_bipush ?_
          refine ev_icmpge f330_51 (fun c63 => absurd c63 (by omega)) (fun c63 => ?_)
          refine ev_aload_n rfl ?_
          refine ev_getf (r := 42) (v := 67) (hS154.lt (by decide)) (hS154.fam (by decide) (by decide)) ft12_46 ((jw_ne e154 (Or.inl (by decide))).trans ((jw_ne e153 (Or.inl (by decide))).trans ((jw_ne e152 (Or.inl (by decide))).trans ((jw_ne e151 (Or.inl (by decide))).trans ((jw_ne e150 (Or.inl (by decide))).trans ((jw_ne e149 (Or.inr (by decide))).trans ((jw_ne e148 (Or.inr (by decide))).trans ((jw_ne e147 (Or.inl (by decide))).trans ((jw_ne e146 (Or.inl (by decide))).trans ((jw_ne e145 (Or.inl (by decide))).trans ((jw_ne e144 (Or.inl (by decide))).trans ((jw_ne e143 (Or.inl (by decide))).trans ((jw_ne e142 (Or.inl (by decide))).trans ((jw_ne e141 (Or.inl (by decide))).trans ((jw_ne e140 (Or.inl (by decide))).trans ((jw_ne e139 (Or.inl (by decide))).trans ((jw_ne e138 (Or.inl (by decide))).trans ((jw_ne e137 (Or.inl (by decide))).trans ((jw_ne e136 (Or.inl (by decide))).trans ((jw_ne e135 (Or.inl (by decide))).trans ((jw_ne e134 (Or.inl (by decide))).trans ((jw_ne e133 (Or.inl (by decide))).trans ((jw_ne e132 (Or.inl (by decide))).trans ((jw_ne e131 (Or.inl (by decide))).trans ((jw_ne e130 (Or.inl (by decide))).trans ((jw_ne e129 (Or.inl (by decide))).trans ((jw_ne e128 (Or.inl (by decide))).trans ((jw_ne e127 (Or.inl (by decide))).trans ((jw_ne e126 (Or.inl (by decide))).trans ((jw_ne e125 (Or.inl (by decide))).trans ((jw_ne e124 (Or.inl (by decide))).trans ((jw_ne e123 (Or.inl (by decide))).trans ((jw_ne e122 (Or.inl (by decide))).trans ((jw_ne e121 (Or.inl (by decide))).trans ((jw_ne e120 (Or.inl (by decide))).trans ((jw_ne e119 (Or.inl (by decide))).trans ((jw_ne e118 (Or.inl (by decide))).trans ((jw_ne e117 (Or.inl (by decide))).trans ((jw_ne e116 (Or.inl (by decide))).trans ((jw_ne e115 (Or.inl (by decide))).trans ((jw_ne e114 (Or.inl (by decide))).trans ((hF.v rfl))))))))))))))))))))))))))))))))))))))))))) ?_
          refine ev_iload_n rfl ?_
          refine ev_iconst ?_
          refine ev_iastG (r := 67) (j := 5) (hS154.lt (by decide)) (hS154.sh (by decide) rfl).1 rfl (hS154.inb (by decide) (by decide)) (fun h155 e155 => ?_)
          have hS155 := hS154.wr e155
          refine ev_iinc (w := 6) (L' := [(2, 42), (0, (xs 1)), (0, (xs 2)), (0, 6)]) rfl (by decide) rfl ?_
          refine ev_goto f330_32 ?_
          refine ev_iload_n rfl ?_
          refine ev_bipush ?_
          refine ev_icmpge f330_51 (fun c64 => absurd c64 (by omega)) (fun c64 => ?_)
          refine ev_aload_n rfl ?_
          refine ev_getf (r := 42) (v := 67) (hS155.lt (by decide)) (hS155.fam (by decide) (by decide)) ft12_46 ((jw_ne e155 (Or.inl (by decide))).trans ((jw_ne e154 (Or.inl (by decide))).trans ((jw_ne e153 (Or.inl (by decide))).trans ((jw_ne e152 (Or.inl (by decide))).trans ((jw_ne e151 (Or.inl (by decide))).trans ((jw_ne e150 (Or.inl (by decide))).trans ((jw_ne e149 (Or.inr (by decide))).trans ((jw_ne e148 (Or.inr (by decide))).trans ((jw_ne e147 (Or.inl (by decide))).trans ((jw_ne e146 (Or.inl (by decide))).trans ((jw_ne e145 (Or.inl (by decide))).trans ((jw_ne e144 (Or.inl (by decide))).trans ((jw_ne e143 (Or.inl (by decide))).trans ((jw_ne e142 (Or.inl (by decide))).trans ((jw_ne e141 (Or.inl (by decide))).trans ((jw_ne e140 (Or.inl (by decide))).trans ((jw_ne e139 (Or.inl (by decide))).trans ((jw_ne e138 (Or.inl (by decide))).trans ((jw_ne e137 (Or.inl (by decide))).trans ((jw_ne e136 (Or.inl (by decide))).trans ((jw_ne e135 (Or.inl (by decide))).trans ((jw_ne e134 (Or.inl (by decide))).trans ((jw_ne e133 (Or.inl (by decide))).trans ((jw_ne e132 (Or.inl (by decide))).trans ((jw_ne e131 (Or.inl (by decide))).trans ((jw_ne e130 (Or.inl (by decide))).trans ((jw_ne e129 (Or.inl (by decide))).trans ((jw_ne e128 (Or.inl (by decide))).trans ((jw_ne e127 (Or.inl (by decide))).trans ((jw_ne e126 (Or.inl (by decide))).trans ((jw_ne e125 (Or.inl (by decide))).trans ((jw_ne e124 (Or.inl (by decide))).trans ((jw_ne e123 (Or.inl (by decide))).trans ((jw_ne e122 (Or.inl (by decide))).trans ((jw_ne e121 (Or.inl (by decide))).trans ((jw_ne e120 (Or.inl (by decide))).trans ((jw_ne e119 (Or.inl (by decide))).trans ((jw_ne e118 (Or.inl (by decide))).trans ((jw_ne e117 (Or.inl (by decide))).trans ((jw_ne e116 (Or.inl (by decide))).trans ((jw_ne e115 (Or.inl (by decide))).trans ((jw_ne e114 (Or.inl (by decide))).trans ((hF.v rfl)))))))))))))))))))))))))))))))))))))))))))) ?_
          refine ev_iload_n rfl ?_
          refine ev_iconst ?_
          refine ev_iastG (r := 67) (j := 6) (hS155.lt (by decide)) (hS155.sh (by decide) rfl).1 rfl (hS155.inb (by decide) (by decide)) (fun h156 e156 => ?_)
          have hS156 := hS155.wr e156
          refine ev_iinc (w := 7) (L' := [(2, 42), (0, (xs 1)), (0, (xs 2)), (0, 7)]) rfl (by decide) rfl ?_
          refine ev_goto f330_32 ?_
          refine ev_iload_n rfl ?_
          refine ev_bipush ?_
          refine ev_icmpge f330_51 (fun c65 => absurd c65 (by omega)) (fun c65 => ?_)
          refine ev_aload_n rfl ?_
          refine ev_getf (r := 42) (v := 67) (hS156.lt (by decide)) (hS156.fam (by decide) (by decide)) ft12_46 ((jw_ne e156 (Or.inl (by decide))).trans ((jw_ne e155 (Or.inl (by decide))).trans ((jw_ne e154 (Or.inl (by decide))).trans ((jw_ne e153 (Or.inl (by decide))).trans ((jw_ne e152 (Or.inl (by decide))).trans ((jw_ne e151 (Or.inl (by decide))).trans ((jw_ne e150 (Or.inl (by decide))).trans ((jw_ne e149 (Or.inr (by decide))).trans ((jw_ne e148 (Or.inr (by decide))).trans ((jw_ne e147 (Or.inl (by decide))).trans ((jw_ne e146 (Or.inl (by decide))).trans ((jw_ne e145 (Or.inl (by decide))).trans ((jw_ne e144 (Or.inl (by decide))).trans ((jw_ne e143 (Or.inl (by decide))).trans ((jw_ne e142 (Or.inl (by decide))).trans ((jw_ne e141 (Or.inl (by decide))).trans ((jw_ne e140 (Or.inl (by decide))).trans ((jw_ne e139 (Or.inl (by decide))).trans ((jw_ne e138 (Or.inl (by decide))).trans ((jw_ne e137 (Or.inl (by decide))).trans ((jw_ne e136 (Or.inl (by decide))).trans ((jw_ne e135 (Or.inl (by decide))).trans ((jw_ne e134 (Or.inl (by decide))).trans ((jw_ne e133 (Or.inl (by decide))).trans ((jw_ne e132 (Or.inl (by decide))).trans ((jw_ne e131 (Or.inl (by decide))).trans ((jw_ne e130 (Or.inl (by decide))).trans ((jw_ne e129 (Or.inl (by decide))).trans ((jw_ne e128 (Or.inl (by decide))).trans ((jw_ne e127 (Or.inl (by decide))).trans ((jw_ne e126 (Or.inl (by decide))).trans ((jw_ne e125 (Or.inl (by decide))).trans ((jw_ne e124 (Or.inl (by decide))).trans ((jw_ne e123 (Or.inl (by decide))).trans ((jw_ne e122 (Or.inl (by decide))).trans ((jw_ne e121 (Or.inl (by decide))).trans ((jw_ne e120 (Or.inl (by decide))).trans ((jw_ne e119 (Or.inl (by decide))).trans ((jw_ne e118 (Or.inl (by decide))).trans ((jw_ne e117 (Or.inl (by decide))).trans ((jw_ne e116 (Or.inl (by decide))).trans ((jw_ne e115 (Or.inl (by decide))).trans ((jw_ne e114 (Or.inl (by decide))).trans ((hF.v rfl))))))))))))))))))))))))))))))))))))))))))))) ?_
          refine ev_iload_n rfl ?_
          refine ev_iconst ?_
          refine ev_iastG (r := 67) (j := 7) (hS156.lt (by decide)) (hS156.sh (by decide) rfl).1 rfl (hS156.inb (by decide) (by decide)) (fun h157 e157 => ?_)
          have hS157 := hS156.wr e157
          refine ev_iinc (w := 8) (L' := [(2, 42), (0, (xs 1)), (0, (xs 2)), (0, 8)]) rfl (by decide) rfl ?_
          refine ev_goto f330_32 ?_
          refine ev_iload_n rfl ?_
          refine ev_bipush ?_
          refine ev_icmpge f330_51 (fun c66 => absurd c66 (by omega)) (fun c66 => ?_)
          refine ev_aload_n rfl ?_
          refine ev_getf (r := 42) (v := 67) (hS157.lt (by decide)) (hS157.fam (by decide) (by decide)) ft12_46 ((jw_ne e157 (Or.inl (by decide))).trans ((jw_ne e156 (Or.inl (by decide))).trans ((jw_ne e155 (Or.inl (by decide))).trans ((jw_ne e154 (Or.inl (by decide))).trans ((jw_ne e153 (Or.inl (by decide))).trans ((jw_ne e152 (Or.inl (by decide))).trans ((jw_ne e151 (Or.inl (by decide))).trans ((jw_ne e150 (Or.inl (by decide))).trans ((jw_ne e149 (Or.inr (by decide))).trans ((jw_ne e148 (Or.inr (by decide))).trans ((jw_ne e147 (Or.inl (by decide))).trans ((jw_ne e146 (Or.inl (by decide))).trans ((jw_ne e145 (Or.inl (by decide))).trans ((jw_ne e144 (Or.inl (by decide))).trans ((jw_ne e143 (Or.inl (by decide))).trans ((jw_ne e142 (Or.inl (by decide))).trans ((jw_ne e141 (Or.inl (by decide))).trans ((jw_ne e140 (Or.inl (by decide))).trans ((jw_ne e139 (Or.inl (by decide))).trans ((jw_ne e138 (Or.inl (by decide))).trans ((jw_ne e137 (Or.inl (by decide))).trans ((jw_ne e136 (Or.inl (by decide))).trans ((jw_ne e135 (Or.inl (by decide))).trans ((jw_ne e134 (Or.inl (by decide))).trans ((jw_ne e133 (Or.inl (by decide))).trans ((jw_ne e132 (Or.inl (by decide))).trans ((jw_ne e131 (Or.inl (by decide))).trans ((jw_ne e130 (Or.inl (by decide))).trans ((jw_ne e129 (Or.inl (by decide))).trans ((jw_ne e128 (Or.inl (by decide))).trans ((jw_ne e127 (Or.inl (by decide))).trans ((jw_ne e126 (Or.inl (by decide))).trans ((jw_ne e125 (Or.inl (by decide))).trans ((jw_ne e124 (Or.inl (by decide))).trans ((jw_ne e123 (Or.inl (by decide))).trans ((jw_ne e122 (Or.inl (by decide))).trans ((jw_ne e121 (Or.inl (by decide))).trans ((jw_ne e120 (Or.inl (by decide))).trans ((jw_ne e119 (Or.inl (by decide))).trans ((jw_ne e118 (Or.inl (by decide))).trans ((jw_ne e117 (Or.inl (by decide))).trans ((jw_ne e116 (Or.inl (by decide))).trans ((jw_ne e115 (Or.inl (by decide))).trans ((jw_ne e114 (Or.inl (by decide))).trans ((hF.v rfl)))))))))))))))))))))))))))))))))))))))))))))) ?_
          refine ev_iload_n rfl ?_
          refine ev_iconst ?_
          refine ev_iastG (r := 67) (j := 8) (hS157.lt (by decide)) (hS157.sh (by decide) rfl).1 rfl (hS157.inb (by decide) (by decide)) (fun h158 e158 => ?_)
          have hS158 := hS157.wr e158
          refine ev_iinc (w := 9) (L' := [(2, 42), (0, (xs 1)), (0, (xs 2)), (0, 9)]) rfl (by decide) rfl ?_
          refine ev_goto f330_32 ?_
          refine ev_iload_n rfl ?_
          refine ev_bipush ?_
          refine ev_icmpge f330_51 (fun c67 => absurd c67 (by omega)) (fun c67 => ?_)
          refine ev_aload_n rfl ?_
          refine ev_getf (r := 42) (v := 67) (hS158.lt (by decide)) (hS158.fam (by decide) (by decide)) ft12_46 ((jw_ne e158 (Or.inl (by decide))).trans ((jw_ne e157 (Or.inl (by decide))).trans ((jw_ne e156 (Or.inl (by decide))).trans ((jw_ne e155 (Or.inl (by decide))).trans ((jw_ne e154 (Or.inl (by decide))).trans ((jw_ne e153 (Or.inl (by decide))).trans ((jw_ne e152 (Or.inl (by decide))).trans ((jw_ne e151 (Or.inl (by decide))).trans ((jw_ne e150 (Or.inl (by decide))).trans ((jw_ne e149 (Or.inr (by decide))).trans ((jw_ne e148 (Or.inr (by decide))).trans ((jw_ne e147 (Or.inl (by decide))).trans ((jw_ne e146 (Or.inl (by decide))).trans ((jw_ne e145 (Or.inl (by decide))).trans ((jw_ne e144 (Or.inl (by decide))).trans ((jw_ne e143 (Or.inl (by decide))).trans ((jw_ne e142 (Or.inl (by decide))).trans ((jw_ne e141 (Or.inl (by decide))).trans ((jw_ne e140 (Or.inl (by decide))).trans ((jw_ne e139 (Or.inl (by decide))).trans ((jw_ne e138 (Or.inl (by decide))).trans ((jw_ne e137 (Or.inl (by decide))).trans ((jw_ne e136 (Or.inl (by decide))).trans ((jw_ne e135 (Or.inl (by decide))).trans ((jw_ne e134 (Or.inl (by decide))).trans ((jw_ne e133 (Or.inl (by decide))).trans ((jw_ne e132 (Or.inl (by decide))).trans ((jw_ne e131 (Or.inl (by decide))).trans ((jw_ne e130 (Or.inl (by decide))).trans ((jw_ne e129 (Or.inl (by decide))).trans ((jw_ne e128 (Or.inl (by decide))).trans ((jw_ne e127 (Or.inl (by decide))).trans ((jw_ne e126 (Or.inl (by decide))).trans ((jw_ne e125 (Or.inl (by decide))).trans ((jw_ne e124 (Or.inl (by decide))).trans ((jw_ne e123 (Or.inl (by decide))).trans ((jw_ne e122 (Or.inl (by decide))).trans ((jw_ne e121 (Or.inl (by decide))).trans ((jw_ne e120 (Or.inl (by decide))).trans ((jw_ne e119 (Or.inl (by decide))).trans ((jw_ne e118 (Or.inl (by decide))).trans ((jw_ne e117 (Or.inl (by decide))).trans ((jw_ne e116 (Or.inl (by decide))).trans ((jw_ne e115 (Or.inl (by decide))).trans ((jw_ne e114 (Or.inl (by decide))).trans ((hF.v rfl))))))))))))))))))))))))))))))))))))))))))))))) ?_
          refine ev_iload_n rfl ?_
          refine ev_iconst ?_
          refine ev_iastG (r := 67) (j := 9) (hS158.lt (by decide)) (hS158.sh (by decide) rfl).1 rfl (hS158.inb (by decide) (by decide)) (fun h159 e159 => ?_)
          have hS159 := hS158.wr e159
          refine ev_iinc (w := 10) (L' := [(2, 42), (0, (xs 1)), (0, (xs 2)), (0, 10)]) rfl (by decide) rfl ?_
          refine ev_goto f330_32 ?_
          refine ev_iload_n rfl ?_
          refine ev_bipush ?_
          refine ev_icmpge f330_51 (fun c68 => absurd c68 (by omega)) (fun c68 => ?_)
          refine ev_aload_n rfl ?_
          refine ev_getf (r := 42) (v := 67) (hS159.lt (by decide)) (hS159.fam (by decide) (by decide)) ft12_46 ((jw_ne e159 (Or.inl (by decide))).trans ((jw_ne e158 (Or.inl (by decide))).trans ((jw_ne e157 (Or.inl (by decide))).trans ((jw_ne e156 (Or.inl (by decide))).trans ((jw_ne e155 (Or.inl (by decide))).trans ((jw_ne e154 (Or.inl (by decide))).trans ((jw_ne e153 (Or.inl (by decide))).trans ((jw_ne e152 (Or.inl (by decide))).trans ((jw_ne e151 (Or.inl (by decide))).trans ((jw_ne e150 (Or.inl (by decide))).trans ((jw_ne e149 (Or.inr (by decide))).trans ((jw_ne e148 (Or.inr (by decide))).trans ((jw_ne e147 (Or.inl (by decide))).trans ((jw_ne e146 (Or.inl (by decide))).trans ((jw_ne e145 (Or.inl (by decide))).trans ((jw_ne e144 (Or.inl (by decide))).trans ((jw_ne e143 (Or.inl (by decide))).trans ((jw_ne e142 (Or.inl (by decide))).trans ((jw_ne e141 (Or.inl (by decide))).trans ((jw_ne e140 (Or.inl (by decide))).trans ((jw_ne e139 (Or.inl (by decide))).trans ((jw_ne e138 (Or.inl (by decide))).trans ((jw_ne e137 (Or.inl (by decide))).trans ((jw_ne e136 (Or.inl (by decide))).trans ((jw_ne e135 (Or.inl (by decide))).trans ((jw_ne e134 (Or.inl (by decide))).trans ((jw_ne e133 (Or.inl (by decide))).trans ((jw_ne e132 (Or.inl (by decide))).trans ((jw_ne e131 (Or.inl (by decide))).trans ((jw_ne e130 (Or.inl (by decide))).trans ((jw_ne e129 (Or.inl (by decide))).trans ((jw_ne e128 (Or.inl (by decide))).trans ((jw_ne e127 (Or.inl (by decide))).trans ((jw_ne e126 (Or.inl (by decide))).trans ((jw_ne e125 (Or.inl (by decide))).trans ((jw_ne e124 (Or.inl (by decide))).trans ((jw_ne e123 (Or.inl (by decide))).trans ((jw_ne e122 (Or.inl (by decide))).trans ((jw_ne e121 (Or.inl (by decide))).trans ((jw_ne e120 (Or.inl (by decide))).trans ((jw_ne e119 (Or.inl (by decide))).trans ((jw_ne e118 (Or.inl (by decide))).trans ((jw_ne e117 (Or.inl (by decide))).trans ((jw_ne e116 (Or.inl (by decide))).trans ((jw_ne e115 (Or.inl (by decide))).trans ((jw_ne e114 (Or.inl (by decide))).trans ((hF.v rfl)))))))))))))))))))))))))))))))))))))))))))))))) ?_
          refine ev_iload_n rfl ?_
          refine ev_iconst ?_
          refine ev_iastG (r := 67) (j := 10) (hS159.lt (by decide)) (hS159.sh (by decide) rfl).1 rfl (hS159.inb (by decide) (by decide)) (fun h160 e160 => ?_)
          have hS160 := hS159.wr e160
          refine ev_iinc (w := 11) (L' := [(2, 42), (0, (xs 1)), (0, (xs 2)), (0, 11)]) rfl (by decide) rfl ?_
          refine ev_goto f330_32 ?_
          refine ev_iload_n rfl ?_
          refine ev_bipush ?_
          refine ev_icmpge f330_51 (fun c69 => absurd c69 (by omega)) (fun c69 => ?_)
          refine ev_aload_n rfl ?_
          refine ev_getf (r := 42) (v := 67) (hS160.lt (by decide)) (hS160.fam (by decide) (by decide)) ft12_46 ((jw_ne e160 (Or.inl (by decide))).trans ((jw_ne e159 (Or.inl (by decide))).trans ((jw_ne e158 (Or.inl (by decide))).trans ((jw_ne e157 (Or.inl (by decide))).trans ((jw_ne e156 (Or.inl (by decide))).trans ((jw_ne e155 (Or.inl (by decide))).trans ((jw_ne e154 (Or.inl (by decide))).trans ((jw_ne e153 (Or.inl (by decide))).trans ((jw_ne e152 (Or.inl (by decide))).trans ((jw_ne e151 (Or.inl (by decide))).trans ((jw_ne e150 (Or.inl (by decide))).trans ((jw_ne e149 (Or.inr (by decide))).trans ((jw_ne e148 (Or.inr (by decide))).trans ((jw_ne e147 (Or.inl (by decide))).trans ((jw_ne e146 (Or.inl (by decide))).trans ((jw_ne e145 (Or.inl (by decide))).trans ((jw_ne e144 (Or.inl (by decide))).trans ((jw_ne e143 (Or.inl (by decide))).trans ((jw_ne e142 (Or.inl (by decide))).trans ((jw_ne e141 (Or.inl (by decide))).trans ((jw_ne e140 (Or.inl (by decide))).trans ((jw_ne e139 (Or.inl (by decide))).trans ((jw_ne e138 (Or.inl (by decide))).trans ((jw_ne e137 (Or.inl (by decide))).trans ((jw_ne e136 (Or.inl (by decide))).trans ((jw_ne e135 (Or.inl (by decide))).trans ((jw_ne e134 (Or.inl (by decide))).trans ((jw_ne e133 (Or.inl (by decide))).trans ((jw_ne e132 (Or.inl (by decide))).trans ((jw_ne e131 (Or.inl (by decide))).trans ((jw_ne e130 (Or.inl (by decide))).trans ((jw_ne e129 (Or.inl (by decide))).trans ((jw_ne e128 (Or.inl (by decide))).trans ((jw_ne e127 (Or.inl (by decide))).trans ((jw_ne e126 (Or.inl (by decide))).trans ((jw_ne e125 (Or.inl (by decide))).trans ((jw_ne e124 (Or.inl (by decide))).trans ((jw_ne e123 (Or.inl (by decide))).trans ((jw_ne e122 (Or.inl (by decide))).trans ((jw_ne e121 (Or.inl (by decide))).trans ((jw_ne e120 (Or.inl (by decide))).trans ((jw_ne e119 (Or.inl (by decide))).trans ((jw_ne e118 (Or.inl (by decide))).trans ((jw_ne e117 (Or.inl (by decide))).trans ((jw_ne e116 (Or.inl (by decide))).trans ((jw_ne e115 (Or.inl (by decide))).trans ((jw_ne e114 (Or.inl (by decide))).trans ((hF.v rfl))))))))))))))))))))))))))))))))))))))))))))))))) ?_
          refine ev_iload_n rfl ?_
          refine ev_iconst ?_
          refine ev_iastG (r := 67) (j := 11) (hS160.lt (by decide)) (hS160.sh (by decide) rfl).1 rfl (hS160.inb (by decide) (by decide)) (fun h161 e161 => ?_)
          have hS161 := hS160.wr e161
          refine ev_iinc (w := 12) (L' := [(2, 42), (0, (xs 1)), (0, (xs 2)), (0, 12)]) rfl (by decide) rfl ?_
          refine ev_goto f330_32 ?_
          refine ev_iload_n rfl ?_
          refine ev_bipush ?_
          refine ev_icmpge f330_51 (fun c70 => absurd c70 (by omega)) (fun c70 => ?_)
          refine ev_aload_n rfl ?_
          refine ev_getf (r := 42) (v := 67) (hS161.lt (by decide)) (hS161.fam (by decide) (by decide)) ft12_46 ((jw_ne e161 (Or.inl (by decide))).trans ((jw_ne e160 (Or.inl (by decide))).trans ((jw_ne e159 (Or.inl (by decide))).trans ((jw_ne e158 (Or.inl (by decide))).trans ((jw_ne e157 (Or.inl (by decide))).trans ((jw_ne e156 (Or.inl (by decide))).trans ((jw_ne e155 (Or.inl (by decide))).trans ((jw_ne e154 (Or.inl (by decide))).trans ((jw_ne e153 (Or.inl (by decide))).trans ((jw_ne e152 (Or.inl (by decide))).trans ((jw_ne e151 (Or.inl (by decide))).trans ((jw_ne e150 (Or.inl (by decide))).trans ((jw_ne e149 (Or.inr (by decide))).trans ((jw_ne e148 (Or.inr (by decide))).trans ((jw_ne e147 (Or.inl (by decide))).trans ((jw_ne e146 (Or.inl (by decide))).trans ((jw_ne e145 (Or.inl (by decide))).trans ((jw_ne e144 (Or.inl (by decide))).trans ((jw_ne e143 (Or.inl (by decide))).trans ((jw_ne e142 (Or.inl (by decide))).trans ((jw_ne e141 (Or.inl (by decide))).trans ((jw_ne e140 (Or.inl (by decide))).trans ((jw_ne e139 (Or.inl (by decide))).trans ((jw_ne e138 (Or.inl (by decide))).trans ((jw_ne e137 (Or.inl (by decide))).trans ((jw_ne e136 (Or.inl (by decide))).trans ((jw_ne e135 (Or.inl (by decide))).trans ((jw_ne e134 (Or.inl (by decide))).trans ((jw_ne e133 (Or.inl (by decide))).trans ((jw_ne e132 (Or.inl (by decide))).trans ((jw_ne e131 (Or.inl (by decide))).trans ((jw_ne e130 (Or.inl (by decide))).trans ((jw_ne e129 (Or.inl (by decide))).trans ((jw_ne e128 (Or.inl (by decide))).trans ((jw_ne e127 (Or.inl (by decide))).trans ((jw_ne e126 (Or.inl (by decide))).trans ((jw_ne e125 (Or.inl (by decide))).trans ((jw_ne e124 (Or.inl (by decide))).trans ((jw_ne e123 (Or.inl (by decide))).trans ((jw_ne e122 (Or.inl (by decide))).trans ((jw_ne e121 (Or.inl (by decide))).trans ((jw_ne e120 (Or.inl (by decide))).trans ((jw_ne e119 (Or.inl (by decide))).trans ((jw_ne e118 (Or.inl (by decide))).trans ((jw_ne e117 (Or.inl (by decide))).trans ((jw_ne e116 (Or.inl (by decide))).trans ((jw_ne e115 (Or.inl (by decide))).trans ((jw_ne e114 (Or.inl (by decide))).trans ((hF.v rfl)))))))))))))))))))))))))))))))))))))))))))))))))) ?_
          refine ev_iload_n rfl ?_
          refine ev_iconst ?_
          refine ev_iastG (r := 67) (j := 12) (hS161.lt (by decide)) (hS161.sh (by decide) rfl).1 rfl (hS161.inb (by decide) (by decide)) (fun h162 e162 => ?_)
          have hS162 := hS161.wr e162
          refine ev_iinc (w := 13) (L' := [(2, 42), (0, (xs 1)), (0, (xs 2)), (0, 13)]) rfl (by decide) rfl ?_
          refine ev_goto f330_32 ?_
          refine ev_iload_n rfl ?_
          refine ev_bipush ?_
          refine ev_icmpge f330_51 (fun c71 => absurd c71 (by omega)) (fun c71 => ?_)
          refine ev_aload_n rfl ?_
          refine ev_getf (r := 42) (v := 67) (hS162.lt (by decide)) (hS162.fam (by decide) (by decide)) ft12_46 ((jw_ne e162 (Or.inl (by decide))).trans ((jw_ne e161 (Or.inl (by decide))).trans ((jw_ne e160 (Or.inl (by decide))).trans ((jw_ne e159 (Or.inl (by decide))).trans ((jw_ne e158 (Or.inl (by decide))).trans ((jw_ne e157 (Or.inl (by decide))).trans ((jw_ne e156 (Or.inl (by decide))).trans ((jw_ne e155 (Or.inl (by decide))).trans ((jw_ne e154 (Or.inl (by decide))).trans ((jw_ne e153 (Or.inl (by decide))).trans ((jw_ne e152 (Or.inl (by decide))).trans ((jw_ne e151 (Or.inl (by decide))).trans ((jw_ne e150 (Or.inl (by decide))).trans ((jw_ne e149 (Or.inr (by decide))).trans ((jw_ne e148 (Or.inr (by decide))).trans ((jw_ne e147 (Or.inl (by decide))).trans ((jw_ne e146 (Or.inl (by decide))).trans ((jw_ne e145 (Or.inl (by decide))).trans ((jw_ne e144 (Or.inl (by decide))).trans ((jw_ne e143 (Or.inl (by decide))).trans ((jw_ne e142 (Or.inl (by decide))).trans ((jw_ne e141 (Or.inl (by decide))).trans ((jw_ne e140 (Or.inl (by decide))).trans ((jw_ne e139 (Or.inl (by decide))).trans ((jw_ne e138 (Or.inl (by decide))).trans ((jw_ne e137 (Or.inl (by decide))).trans ((jw_ne e136 (Or.inl (by decide))).trans ((jw_ne e135 (Or.inl (by decide))).trans ((jw_ne e134 (Or.inl (by decide))).trans ((jw_ne e133 (Or.inl (by decide))).trans ((jw_ne e132 (Or.inl (by decide))).trans ((jw_ne e131 (Or.inl (by decide))).trans ((jw_ne e130 (Or.inl (by decide))).trans ((jw_ne e129 (Or.inl (by decide))).trans ((jw_ne e128 (Or.inl (by decide))).trans ((jw_ne e127 (Or.inl (by decide))).trans ((jw_ne e126 (Or.inl (by decide))).trans ((jw_ne e125 (Or.inl (by decide))).trans ((jw_ne e124 (Or.inl (by decide))).trans ((jw_ne e123 (Or.inl (by decide))).trans ((jw_ne e122 (Or.inl (by decide))).trans ((jw_ne e121 (Or.inl (by decide))).trans ((jw_ne e120 (Or.inl (by decide))).trans ((jw_ne e119 (Or.inl (by decide))).trans ((jw_ne e118 (Or.inl (by decide))).trans ((jw_ne e117 (Or.inl (by decide))).trans ((jw_ne e116 (Or.inl (by decide))).trans ((jw_ne e115 (Or.inl (by decide))).trans ((jw_ne e114 (Or.inl (by decide))).trans ((hF.v rfl))))))))))))))))))))))))))))))))))))))))))))))))))) ?_
          refine ev_iload_n rfl ?_
          refine ev_iconst ?_
          refine ev_iastG (r := 67) (j := 13) (hS162.lt (by decide)) (hS162.sh (by decide) rfl).1 rfl (hS162.inb (by decide) (by decide)) (fun h163 e163 => ?_)
          have hS163 := hS162.wr e163
          refine ev_iinc (w := 14) (L' := [(2, 42), (0, (xs 1)), (0, (xs 2)), (0, 14)]) rfl (by decide) rfl ?_
          refine ev_goto f330_32 ?_
          refine ev_iload_n rfl ?_
          refine ev_bipush ?_
          refine ev_icmpge f330_51 (fun c72 => absurd c72 (by omega)) (fun c72 => ?_)
          refine ev_aload_n rfl ?_
          refine ev_getf (r := 42) (v := 67) (hS163.lt (by decide)) (hS163.fam (by decide) (by decide)) ft12_46 ((jw_ne e163 (Or.inl (by decide))).trans ((jw_ne e162 (Or.inl (by decide))).trans ((jw_ne e161 (Or.inl (by decide))).trans ((jw_ne e160 (Or.inl (by decide))).trans ((jw_ne e159 (Or.inl (by decide))).trans ((jw_ne e158 (Or.inl (by decide))).trans ((jw_ne e157 (Or.inl (by decide))).trans ((jw_ne e156 (Or.inl (by decide))).trans ((jw_ne e155 (Or.inl (by decide))).trans ((jw_ne e154 (Or.inl (by decide))).trans ((jw_ne e153 (Or.inl (by decide))).trans ((jw_ne e152 (Or.inl (by decide))).trans ((jw_ne e151 (Or.inl (by decide))).trans ((jw_ne e150 (Or.inl (by decide))).trans ((jw_ne e149 (Or.inr (by decide))).trans ((jw_ne e148 (Or.inr (by decide))).trans ((jw_ne e147 (Or.inl (by decide))).trans ((jw_ne e146 (Or.inl (by decide))).trans ((jw_ne e145 (Or.inl (by decide))).trans ((jw_ne e144 (Or.inl (by decide))).trans ((jw_ne e143 (Or.inl (by decide))).trans ((jw_ne e142 (Or.inl (by decide))).trans ((jw_ne e141 (Or.inl (by decide))).trans ((jw_ne e140 (Or.inl (by decide))).trans ((jw_ne e139 (Or.inl (by decide))).trans ((jw_ne e138 (Or.inl (by decide))).trans ((jw_ne e137 (Or.inl (by decide))).trans ((jw_ne e136 (Or.inl (by decide))).trans ((jw_ne e135 (Or.inl (by decide))).trans ((jw_ne e134 (Or.inl (by decide))).trans ((jw_ne e133 (Or.inl (by decide))).trans ((jw_ne e132 (Or.inl (by decide))).trans ((jw_ne e131 (Or.inl (by decide))).trans ((jw_ne e130 (Or.inl (by decide))).trans ((jw_ne e129 (Or.inl (by decide))).trans ((jw_ne e128 (Or.inl (by decide))).trans ((jw_ne e127 (Or.inl (by decide))).trans ((jw_ne e126 (Or.inl (by decide))).trans ((jw_ne e125 (Or.inl (by decide))).trans ((jw_ne e124 (Or.inl (by decide))).trans ((jw_ne e123 (Or.inl (by decide))).trans ((jw_ne e122 (Or.inl (by decide))).trans ((jw_ne e121 (Or.inl (by decide))).trans ((jw_ne e120 (Or.inl (by decide))).trans ((jw_ne e119 (Or.inl (by decide))).trans ((jw_ne e118 (Or.inl (by decide))).trans ((jw_ne e117 (Or.inl (by decide))).trans ((jw_ne e116 (Or.inl (by decide))).trans ((jw_ne e115 (Or.inl (by decide))).trans ((jw_ne e114 (Or.inl (by decide))).trans ((hF.v rfl)))))))))))))))))))))))))))))))))))))))))))))))))))) ?_
          refine ev_iload_n rfl ?_
          refine ev_iconst ?_
          refine ev_iastG (r := 67) (j := 14) (hS163.lt (by decide)) (hS163.sh (by decide) rfl).1 rfl (hS163.inb (by decide) (by decide)) (fun h164 e164 => ?_)
          have hS164 := hS163.wr e164
          refine ev_iinc (w := 15) (L' := [(2, 42), (0, (xs 1)), (0, (xs 2)), (0, 15)]) rfl (by decide) rfl ?_
          refine ev_goto f330_32 ?_
          refine ev_iload_n rfl ?_
          refine ev_bipush ?_
          refine ev_icmpge f330_51 (fun c73 => absurd c73 (by omega)) (fun c73 => ?_)
          refine ev_aload_n rfl ?_
          refine ev_getf (r := 42) (v := 67) (hS164.lt (by decide)) (hS164.fam (by decide) (by decide)) ft12_46 ((jw_ne e164 (Or.inl (by decide))).trans ((jw_ne e163 (Or.inl (by decide))).trans ((jw_ne e162 (Or.inl (by decide))).trans ((jw_ne e161 (Or.inl (by decide))).trans ((jw_ne e160 (Or.inl (by decide))).trans ((jw_ne e159 (Or.inl (by decide))).trans ((jw_ne e158 (Or.inl (by decide))).trans ((jw_ne e157 (Or.inl (by decide))).trans ((jw_ne e156 (Or.inl (by decide))).trans ((jw_ne e155 (Or.inl (by decide))).trans ((jw_ne e154 (Or.inl (by decide))).trans ((jw_ne e153 (Or.inl (by decide))).trans ((jw_ne e152 (Or.inl (by decide))).trans ((jw_ne e151 (Or.inl (by decide))).trans ((jw_ne e150 (Or.inl (by decide))).trans ((jw_ne e149 (Or.inr (by decide))).trans ((jw_ne e148 (Or.inr (by decide))).trans ((jw_ne e147 (Or.inl (by decide))).trans ((jw_ne e146 (Or.inl (by decide))).trans ((jw_ne e145 (Or.inl (by decide))).trans ((jw_ne e144 (Or.inl (by decide))).trans ((jw_ne e143 (Or.inl (by decide))).trans ((jw_ne e142 (Or.inl (by decide))).trans ((jw_ne e141 (Or.inl (by decide))).trans ((jw_ne e140 (Or.inl (by decide))).trans ((jw_ne e139 (Or.inl (by decide))).trans ((jw_ne e138 (Or.inl (by decide))).trans ((jw_ne e137 (Or.inl (by decide))).trans ((jw_ne e136 (Or.inl (by decide))).trans ((jw_ne e135 (Or.inl (by decide))).trans ((jw_ne e134 (Or.inl (by decide))).trans ((jw_ne e133 (Or.inl (by decide))).trans ((jw_ne e132 (Or.inl (by decide))).trans ((jw_ne e131 (Or.inl (by decide))).trans ((jw_ne e130 (Or.inl (by decide))).trans ((jw_ne e129 (Or.inl (by decide))).trans ((jw_ne e128 (Or.inl (by decide))).trans ((jw_ne e127 (Or.inl (by decide))).trans ((jw_ne e126 (Or.inl (by decide))).trans ((jw_ne e125 (Or.inl (by decide))).trans ((jw_ne e124 (Or.inl (by decide))).trans ((jw_ne e123 (Or.inl (by decide))).trans ((jw_ne e122 (Or.inl (by decide))).trans ((jw_ne e121 (Or.inl (by decide))).trans ((jw_ne e120 (Or.inl (by decide))).trans ((jw_ne e119 (Or.inl (by decide))).trans ((jw_ne e118 (Or.inl (by decide))).trans ((jw_ne e117 (Or.inl (by decide))).trans ((jw_ne e116 (Or.inl (by decide))).trans ((jw_ne e115 (Or.inl (by decide))).trans ((jw_ne e114 (Or.inl (by decide))).trans ((hF.v rfl))))))))))))))))))))))))))))))))))))))))))))))))))))) ?_
          refine ev_iload_n rfl ?_
          refine ev_iconst ?_
          refine ev_iastG (r := 67) (j := 15) (hS164.lt (by decide)) (hS164.sh (by decide) rfl).1 rfl (hS164.inb (by decide) (by decide)) (fun h165 e165 => ?_)
          have hS165 := hS164.wr e165
          refine ev_iinc (w := 16) (L' := [(2, 42), (0, (xs 1)), (0, (xs 2)), (0, 16)]) rfl (by decide) rfl ?_
          refine ev_goto f330_32 ?_
          refine ev_iload_n rfl ?_
          refine ev_bipush ?_
          refine ev_icmpge f330_51 (fun c74 => absurd c74 (by omega)) (fun c74 => ?_)
          refine ev_aload_n rfl ?_
          refine ev_getf (r := 42) (v := 67) (hS165.lt (by decide)) (hS165.fam (by decide) (by decide)) ft12_46 ((jw_ne e165 (Or.inl (by decide))).trans ((jw_ne e164 (Or.inl (by decide))).trans ((jw_ne e163 (Or.inl (by decide))).trans ((jw_ne e162 (Or.inl (by decide))).trans ((jw_ne e161 (Or.inl (by decide))).trans ((jw_ne e160 (Or.inl (by decide))).trans ((jw_ne e159 (Or.inl (by decide))).trans ((jw_ne e158 (Or.inl (by decide))).trans ((jw_ne e157 (Or.inl (by decide))).trans ((jw_ne e156 (Or.inl (by decide))).trans ((jw_ne e155 (Or.inl (by decide))).trans ((jw_ne e154 (Or.inl (by decide))).trans ((jw_ne e153 (Or.inl (by decide))).trans ((jw_ne e152 (Or.inl (by decide))).trans ((jw_ne e151 (Or.inl (by decide))).trans ((jw_ne e150 (Or.inl (by decide))).trans ((jw_ne e149 (Or.inr (by decide))).trans ((jw_ne e148 (Or.inr (by decide))).trans ((jw_ne e147 (Or.inl (by decide))).trans ((jw_ne e146 (Or.inl (by decide))).trans ((jw_ne e145 (Or.inl (by decide))).trans ((jw_ne e144 (Or.inl (by decide))).trans ((jw_ne e143 (Or.inl (by decide))).trans ((jw_ne e142 (Or.inl (by decide))).trans ((jw_ne e141 (Or.inl (by decide))).trans ((jw_ne e140 (Or.inl (by decide))).trans ((jw_ne e139 (Or.inl (by decide))).trans ((jw_ne e138 (Or.inl (by decide))).trans ((jw_ne e137 (Or.inl (by decide))).trans ((jw_ne e136 (Or.inl (by decide))).trans ((jw_ne e135 (Or.inl (by decide))).trans ((jw_ne e134 (Or.inl (by decide))).trans ((jw_ne e133 (Or.inl (by decide))).trans ((jw_ne e132 (Or.inl (by decide))).trans ((jw_ne e131 (Or.inl (by decide))).trans ((jw_ne e130 (Or.inl (by decide))).trans ((jw_ne e129 (Or.inl (by decide))).trans ((jw_ne e128 (Or.inl (by decide))).trans ((jw_ne e127 (Or.inl (by decide))).trans ((jw_ne e126 (Or.inl (by decide))).trans ((jw_ne e125 (Or.inl (by decide))).trans ((jw_ne e124 (Or.inl (by decide))).trans ((jw_ne e123 (Or.inl (by decide))).trans ((jw_ne e122 (Or.inl (by decide))).trans ((jw_ne e121 (Or.inl (by decide))).trans ((jw_ne e120 (Or.inl (by decide))).trans ((jw_ne e119 (Or.inl (by decide))).trans ((jw_ne e118 (Or.inl (by decide))).trans ((jw_ne e117 (Or.inl (by decide))).trans ((jw_ne e116 (Or.inl (by decide))).trans ((jw_ne e115 (Or.inl (by decide))).trans ((jw_ne e114 (Or.inl (by decide))).trans ((hF.v rfl)))))))))))))))))))))))))))))))))))))))))))))))))))))) ?_
          refine ev_iload_n rfl ?_
          refine ev_iconst ?_
          refine ev_iastG (r := 67) (j := 16) (hS165.lt (by decide)) (hS165.sh (by decide) rfl).1 rfl (hS165.inb (by decide) (by decide)) (fun h166 e166 => ?_)
          have hS166 := hS165.wr e166
          refine ev_iinc (w := 17) (L' := [(2, 42), (0, (xs 1)), (0, (xs 2)), (0, 17)]) rfl (by decide) rfl ?_
          refine ev_goto f330_32 ?_
          refine ev_iload_n rfl ?_
          refine ev_bipush ?_
          refine ev_icmpge f330_51 (fun c75 => absurd c75 (by omega)) (fun c75 => ?_)
          refine ev_aload_n rfl ?_
          refine ev_getf (r := 42) (v := 67) (hS166.lt (by decide)) (hS166.fam (by decide) (by decide)) ft12_46 ((jw_ne e166 (Or.inl (by decide))).trans ((jw_ne e165 (Or.inl (by decide))).trans ((jw_ne e164 (Or.inl (by decide))).trans ((jw_ne e163 (Or.inl (by decide))).trans ((jw_ne e162 (Or.inl (by decide))).trans ((jw_ne e161 (Or.inl (by decide))).trans ((jw_ne e160 (Or.inl (by decide))).trans ((jw_ne e159 (Or.inl (by decide))).trans ((jw_ne e158 (Or.inl (by decide))).trans ((jw_ne e157 (Or.inl (by decide))).trans ((jw_ne e156 (Or.inl (by decide))).trans ((jw_ne e155 (Or.inl (by decide))).trans ((jw_ne e154 (Or.inl (by decide))).trans ((jw_ne e153 (Or.inl (by decide))).trans ((jw_ne e152 (Or.inl (by decide))).trans ((jw_ne e151 (Or.inl (by decide))).trans ((jw_ne e150 (Or.inl (by decide))).trans ((jw_ne e149 (Or.inr (by decide))).trans ((jw_ne e148 (Or.inr (by decide))).trans ((jw_ne e147 (Or.inl (by decide))).trans ((jw_ne e146 (Or.inl (by decide))).trans ((jw_ne e145 (Or.inl (by decide))).trans ((jw_ne e144 (Or.inl (by decide))).trans ((jw_ne e143 (Or.inl (by decide))).trans ((jw_ne e142 (Or.inl (by decide))).trans ((jw_ne e141 (Or.inl (by decide))).trans ((jw_ne e140 (Or.inl (by decide))).trans ((jw_ne e139 (Or.inl (by decide))).trans ((jw_ne e138 (Or.inl (by decide))).trans ((jw_ne e137 (Or.inl (by decide))).trans ((jw_ne e136 (Or.inl (by decide))).trans ((jw_ne e135 (Or.inl (by decide))).trans ((jw_ne e134 (Or.inl (by decide))).trans ((jw_ne e133 (Or.inl (by decide))).trans ((jw_ne e132 (Or.inl (by decide))).trans ((jw_ne e131 (Or.inl (by decide))).trans ((jw_ne e130 (Or.inl (by decide))).trans ((jw_ne e129 (Or.inl (by decide))).trans ((jw_ne e128 (Or.inl (by decide))).trans ((jw_ne e127 (Or.inl (by decide))).trans ((jw_ne e126 (Or.inl (by decide))).trans ((jw_ne e125 (Or.inl (by decide))).trans ((jw_ne e124 (Or.inl (by decide))).trans ((jw_ne e123 (Or.inl (by decide))).trans ((jw_ne e122 (Or.inl (by decide))).trans ((jw_ne e121 (Or.inl (by decide))).trans ((jw_ne e120 (Or.inl (by decide))).trans ((jw_ne e119 (Or.inl (by decide))).trans ((jw_ne e118 (Or.inl (by decide))).trans ((jw_ne e117 (Or.inl (by decide))).trans ((jw_ne e116 (Or.inl (by decide))).trans ((jw_ne e115 (Or.inl (by decide))).trans ((jw_ne e114 (Or.inl (by decide))).trans ((hF.v rfl))))))))))))))))))))))))))))))))))))))))))))))))))))))) ?_
          refine ev_iload_n rfl ?_
          refine ev_iconst ?_
          refine ev_iastG (r := 67) (j := 17) (hS166.lt (by decide)) (hS166.sh (by decide) rfl).1 rfl (hS166.inb (by decide) (by decide)) (fun h167 e167 => ?_)
          have hS167 := hS166.wr e167
          refine ev_iinc (w := 18) (L' := [(2, 42), (0, (xs 1)), (0, (xs 2)), (0, 18)]) rfl (by decide) rfl ?_
          refine ev_goto f330_32 ?_
          refine ev_iload_n rfl ?_
          refine ev_bipush ?_
          refine ev_icmpge f330_51 (fun c76 => absurd c76 (by omega)) (fun c76 => ?_)
          refine ev_aload_n rfl ?_
          refine ev_getf (r := 42) (v := 67) (hS167.lt (by decide)) (hS167.fam (by decide) (by decide)) ft12_46 ((jw_ne e167 (Or.inl (by decide))).trans ((jw_ne e166 (Or.inl (by decide))).trans ((jw_ne e165 (Or.inl (by decide))).trans ((jw_ne e164 (Or.inl (by decide))).trans ((jw_ne e163 (Or.inl (by decide))).trans ((jw_ne e162 (Or.inl (by decide))).trans ((jw_ne e161 (Or.inl (by decide))).trans ((jw_ne e160 (Or.inl (by decide))).trans ((jw_ne e159 (Or.inl (by decide))).trans ((jw_ne e158 (Or.inl (by decide))).trans ((jw_ne e157 (Or.inl (by decide))).trans ((jw_ne e156 (Or.inl (by decide))).trans ((jw_ne e155 (Or.inl (by decide))).trans ((jw_ne e154 (Or.inl (by decide))).trans ((jw_ne e153 (Or.inl (by decide))).trans ((jw_ne e152 (Or.inl (by decide))).trans ((jw_ne e151 (Or.inl (by decide))).trans ((jw_ne e150 (Or.inl (by decide))).trans ((jw_ne e149 (Or.inr (by decide))).trans ((jw_ne e148 (Or.inr (by decide))).trans ((jw_ne e147 (Or.inl (by decide))).trans ((jw_ne e146 (Or.inl (by decide))).trans ((jw_ne e145 (Or.inl (by decide))).trans ((jw_ne e144 (Or.inl (by decide))).trans ((jw_ne e143 (Or.inl (by decide))).trans ((jw_ne e142 (Or.inl (by decide))).trans ((jw_ne e141 (Or.inl (by decide))).trans ((jw_ne e140 (Or.inl (by decide))).trans ((jw_ne e139 (Or.inl (by decide))).trans ((jw_ne e138 (Or.inl (by decide))).trans ((jw_ne e137 (Or.inl (by decide))).trans ((jw_ne e136 (Or.inl (by decide))).trans ((jw_ne e135 (Or.inl (by decide))).trans ((jw_ne e134 (Or.inl (by decide))).trans ((jw_ne e133 (Or.inl (by decide))).trans ((jw_ne e132 (Or.inl (by decide))).trans ((jw_ne e131 (Or.inl (by decide))).trans ((jw_ne e130 (Or.inl (by decide))).trans ((jw_ne e129 (Or.inl (by decide))).trans ((jw_ne e128 (Or.inl (by decide))).trans ((jw_ne e127 (Or.inl (by decide))).trans ((jw_ne e126 (Or.inl (by decide))).trans ((jw_ne e125 (Or.inl (by decide))).trans ((jw_ne e124 (Or.inl (by decide))).trans ((jw_ne e123 (Or.inl (by decide))).trans ((jw_ne e122 (Or.inl (by decide))).trans ((jw_ne e121 (Or.inl (by decide))).trans ((jw_ne e120 (Or.inl (by decide))).trans ((jw_ne e119 (Or.inl (by decide))).trans ((jw_ne e118 (Or.inl (by decide))).trans ((jw_ne e117 (Or.inl (by decide))).trans ((jw_ne e116 (Or.inl (by decide))).trans ((jw_ne e115 (Or.inl (by decide))).trans ((jw_ne e114 (Or.inl (by decide))).trans ((hF.v rfl)))))))))))))))))))))))))))))))))))))))))))))))))))))))) ?_
          refine ev_iload_n rfl ?_
          refine ev_iconst ?_
          refine ev_iastG (r := 67) (j := 18) (hS167.lt (by decide)) (hS167.sh (by decide) rfl).1 rfl (hS167.inb (by decide) (by decide)) (fun h168 e168 => ?_)
          have hS168 := hS167.wr e168
          refine ev_iinc (w := 19) (L' := [(2, 42), (0, (xs 1)), (0, (xs 2)), (0, 19)]) rfl (by decide) rfl ?_
          refine ev_goto f330_32 ?_
          refine ev_iload_n rfl ?_
          refine ev_bipush ?_
          refine ev_icmpge f330_51 (fun c77 => absurd c77 (by omega)) (fun c77 => ?_)
          refine ev_aload_n rfl ?_
          refine ev_getf (r := 42) (v := 67) (hS168.lt (by decide)) (hS168.fam (by decide) (by decide)) ft12_46 ((jw_ne e168 (Or.inl (by decide))).trans ((jw_ne e167 (Or.inl (by decide))).trans ((jw_ne e166 (Or.inl (by decide))).trans ((jw_ne e165 (Or.inl (by decide))).trans ((jw_ne e164 (Or.inl (by decide))).trans ((jw_ne e163 (Or.inl (by decide))).trans ((jw_ne e162 (Or.inl (by decide))).trans ((jw_ne e161 (Or.inl (by decide))).trans ((jw_ne e160 (Or.inl (by decide))).trans ((jw_ne e159 (Or.inl (by decide))).trans ((jw_ne e158 (Or.inl (by decide))).trans ((jw_ne e157 (Or.inl (by decide))).trans ((jw_ne e156 (Or.inl (by decide))).trans ((jw_ne e155 (Or.inl (by decide))).trans ((jw_ne e154 (Or.inl (by decide))).trans ((jw_ne e153 (Or.inl (by decide))).trans ((jw_ne e152 (Or.inl (by decide))).trans ((jw_ne e151 (Or.inl (by decide))).trans ((jw_ne e150 (Or.inl (by decide))).trans ((jw_ne e149 (Or.inr (by decide))).trans ((jw_ne e148 (Or.inr (by decide))).trans ((jw_ne e147 (Or.inl (by decide))).trans ((jw_ne e146 (Or.inl (by decide))).trans ((jw_ne e145 (Or.inl (by decide))).trans ((jw_ne e144 (Or.inl (by decide))).trans ((jw_ne e143 (Or.inl (by decide))).trans ((jw_ne e142 (Or.inl (by decide))).trans ((jw_ne e141 (Or.inl (by decide))).trans ((jw_ne e140 (Or.inl (by decide))).trans ((jw_ne e139 (Or.inl (by decide))).trans ((jw_ne e138 (Or.inl (by decide))).trans ((jw_ne e137 (Or.inl (by decide))).trans ((jw_ne e136 (Or.inl (by decide))).trans ((jw_ne e135 (Or.inl (by decide))).trans ((jw_ne e134 (Or.inl (by decide))).trans ((jw_ne e133 (Or.inl (by decide))).trans ((jw_ne e132 (Or.inl (by decide))).trans ((jw_ne e131 (Or.inl (by decide))).trans ((jw_ne e130 (Or.inl (by decide))).trans ((jw_ne e129 (Or.inl (by decide))).trans ((jw_ne e128 (Or.inl (by decide))).trans ((jw_ne e127 (Or.inl (by decide))).trans ((jw_ne e126 (Or.inl (by decide))).trans ((jw_ne e125 (Or.inl (by decide))).trans ((jw_ne e124 (Or.inl (by decide))).trans ((jw_ne e123 (Or.inl (by decide))).trans ((jw_ne e122 (Or.inl (by decide))).trans ((jw_ne e121 (Or.inl (by decide))).trans ((jw_ne e120 (Or.inl (by decide))).trans ((jw_ne e119 (Or.inl (by decide))).trans ((jw_ne e118 (Or.inl (by decide))).trans ((jw_ne e117 (Or.inl (by decide))).trans ((jw_ne e116 (Or.inl (by decide))).trans ((jw_ne e115 (Or.inl (by decide))).trans ((jw_ne e114 (Or.inl (by decide))).trans ((hF.v rfl))))))))))))))))))))))))))))))))))))))))))))))))))))))))) ?_
          refine ev_iload_n rfl ?_
          refine ev_iconst ?_
          refine ev_iastG (r := 67) (j := 19) (hS168.lt (by decide)) (hS168.sh (by decide) rfl).1 rfl (hS168.inb (by decide) (by decide)) (fun h169 e169 => ?_)
          have hS169 := hS168.wr e169
          refine ev_iinc (w := 20) (L' := [(2, 42), (0, (xs 1)), (0, (xs 2)), (0, 20)]) rfl (by decide) rfl ?_
          refine ev_goto f330_32 ?_
          refine ev_iload_n rfl ?_
          refine ev_bipush ?_
          refine ev_icmpge f330_51 (fun c78 => absurd c78 (by omega)) (fun c78 => ?_)
          refine ev_aload_n rfl ?_
          refine ev_getf (r := 42) (v := 67) (hS169.lt (by decide)) (hS169.fam (by decide) (by decide)) ft12_46 ((jw_ne e169 (Or.inl (by decide))).trans ((jw_ne e168 (Or.inl (by decide))).trans ((jw_ne e167 (Or.inl (by decide))).trans ((jw_ne e166 (Or.inl (by decide))).trans ((jw_ne e165 (Or.inl (by decide))).trans ((jw_ne e164 (Or.inl (by decide))).trans ((jw_ne e163 (Or.inl (by decide))).trans ((jw_ne e162 (Or.inl (by decide))).trans ((jw_ne e161 (Or.inl (by decide))).trans ((jw_ne e160 (Or.inl (by decide))).trans ((jw_ne e159 (Or.inl (by decide))).trans ((jw_ne e158 (Or.inl (by decide))).trans ((jw_ne e157 (Or.inl (by decide))).trans ((jw_ne e156 (Or.inl (by decide))).trans ((jw_ne e155 (Or.inl (by decide))).trans ((jw_ne e154 (Or.inl (by decide))).trans ((jw_ne e153 (Or.inl (by decide))).trans ((jw_ne e152 (Or.inl (by decide))).trans ((jw_ne e151 (Or.inl (by decide))).trans ((jw_ne e150 (Or.inl (by decide))).trans ((jw_ne e149 (Or.inr (by decide))).trans ((jw_ne e148 (Or.inr (by decide))).trans ((jw_ne e147 (Or.inl (by decide))).trans ((jw_ne e146 (Or.inl (by decide))).trans ((jw_ne e145 (Or.inl (by decide))).trans ((jw_ne e144 (Or.inl (by decide))).trans ((jw_ne e143 (Or.inl (by decide))).trans ((jw_ne e142 (Or.inl (by decide))).trans ((jw_ne e141 (Or.inl (by decide))).trans ((jw_ne e140 (Or.inl (by decide))).trans ((jw_ne e139 (Or.inl (by decide))).trans ((jw_ne e138 (Or.inl (by decide))).trans ((jw_ne e137 (Or.inl (by decide))).trans ((jw_ne e136 (Or.inl (by decide))).trans ((jw_ne e135 (Or.inl (by decide))).trans ((jw_ne e134 (Or.inl (by decide))).trans ((jw_ne e133 (Or.inl (by decide))).trans ((jw_ne e132 (Or.inl (by decide))).trans ((jw_ne e131 (Or.inl (by decide))).trans ((jw_ne e130 (Or.inl (by decide))).trans ((jw_ne e129 (Or.inl (by decide))).trans ((jw_ne e128 (Or.inl (by decide))).trans ((jw_ne e127 (Or.inl (by decide))).trans ((jw_ne e126 (Or.inl (by decide))).trans ((jw_ne e125 (Or.inl (by decide))).trans ((jw_ne e124 (Or.inl (by decide))).trans ((jw_ne e123 (Or.inl (by decide))).trans ((jw_ne e122 (Or.inl (by decide))).trans ((jw_ne e121 (Or.inl (by decide))).trans ((jw_ne e120 (Or.inl (by decide))).trans ((jw_ne e119 (Or.inl (by decide))).trans ((jw_ne e118 (Or.inl (by decide))).trans ((jw_ne e117 (Or.inl (by decide))).trans ((jw_ne e116 (Or.inl (by decide))).trans ((jw_ne e115 (Or.inl (by decide))).trans ((jw_ne e114 (Or.inl (by decide))).trans ((hF.v rfl)))))))))))))))))))))))))))))))))))))))))))))))))))))))))) ?_
          refine ev_iload_n rfl ?_
          refine ev_iconst ?_
          refine ev_iastG (r := 67) (j := 20) (hS169.lt (by decide)) (hS169.sh (by decide) rfl).1 rfl (hS169.inb (by decide) (by decide)) (fun h170 e170 => ?_)
          have hS170 := hS169.wr e170
          refine ev_iinc (w := 21) (L' := [(2, 42), (0, (xs 1)), (0, (xs 2)), (0, 21)]) rfl (by decide) rfl ?_
          refine ev_goto f330_32 ?_
          refine ev_iload_n rfl ?_
          refine ev_bipush ?_
          refine ev_icmpge f330_51 (fun c79 => absurd c79 (by omega)) (fun c79 => ?_)
          refine ev_aload_n rfl ?_
          refine ev_getf (r := 42) (v := 67) (hS170.lt (by decide)) (hS170.fam (by decide) (by decide)) ft12_46 ((jw_ne e170 (Or.inl (by decide))).trans ((jw_ne e169 (Or.inl (by decide))).trans ((jw_ne e168 (Or.inl (by decide))).trans ((jw_ne e167 (Or.inl (by decide))).trans ((jw_ne e166 (Or.inl (by decide))).trans ((jw_ne e165 (Or.inl (by decide))).trans ((jw_ne e164 (Or.inl (by decide))).trans ((jw_ne e163 (Or.inl (by decide))).trans ((jw_ne e162 (Or.inl (by decide))).trans ((jw_ne e161 (Or.inl (by decide))).trans ((jw_ne e160 (Or.inl (by decide))).trans ((jw_ne e159 (Or.inl (by decide))).trans ((jw_ne e158 (Or.inl (by decide))).trans ((jw_ne e157 (Or.inl (by decide))).trans ((jw_ne e156 (Or.inl (by decide))).trans ((jw_ne e155 (Or.inl (by decide))).trans ((jw_ne e154 (Or.inl (by decide))).trans ((jw_ne e153 (Or.inl (by decide))).trans ((jw_ne e152 (Or.inl (by decide))).trans ((jw_ne e151 (Or.inl (by decide))).trans ((jw_ne e150 (Or.inl (by decide))).trans ((jw_ne e149 (Or.inr (by decide))).trans ((jw_ne e148 (Or.inr (by decide))).trans ((jw_ne e147 (Or.inl (by decide))).trans ((jw_ne e146 (Or.inl (by decide))).trans ((jw_ne e145 (Or.inl (by decide))).trans ((jw_ne e144 (Or.inl (by decide))).trans ((jw_ne e143 (Or.inl (by decide))).trans ((jw_ne e142 (Or.inl (by decide))).trans ((jw_ne e141 (Or.inl (by decide))).trans ((jw_ne e140 (Or.inl (by decide))).trans ((jw_ne e139 (Or.inl (by decide))).trans ((jw_ne e138 (Or.inl (by decide))).trans ((jw_ne e137 (Or.inl (by decide))).trans ((jw_ne e136 (Or.inl (by decide))).trans ((jw_ne e135 (Or.inl (by decide))).trans ((jw_ne e134 (Or.inl (by decide))).trans ((jw_ne e133 (Or.inl (by decide))).trans ((jw_ne e132 (Or.inl (by decide))).trans ((jw_ne e131 (Or.inl (by decide))).trans ((jw_ne e130 (Or.inl (by decide))).trans ((jw_ne e129 (Or.inl (by decide))).trans ((jw_ne e128 (Or.inl (by decide))).trans ((jw_ne e127 (Or.inl (by decide))).trans ((jw_ne e126 (Or.inl (by decide))).trans ((jw_ne e125 (Or.inl (by decide))).trans ((jw_ne e124 (Or.inl (by decide))).trans ((jw_ne e123 (Or.inl (by decide))).trans ((jw_ne e122 (Or.inl (by decide))).trans ((jw_ne e121 (Or.inl (by decide))).trans ((jw_ne e120 (Or.inl (by decide))).trans ((jw_ne e119 (Or.inl (by decide))).trans ((jw_ne e118 (Or.inl (by decide))).trans ((jw_ne e117 (Or.inl (by decide))).trans ((jw_ne e116 (Or.inl (by decide))).trans ((jw_ne e115 (Or.inl (by decide))).trans ((jw_ne e114 (Or.inl (by decide))).trans ((hF.v rfl))))))))))))))))))))))))))))))))))))))))))))))))))))))))))) ?_
          refine ev_iload_n rfl ?_
          refine ev_iconst ?_
          refine ev_iastG (r := 67) (j := 21) (hS170.lt (by decide)) (hS170.sh (by decide) rfl).1 rfl (hS170.inb (by decide) (by decide)) (fun h171 e171 => ?_)
          have hS171 := hS170.wr e171
          refine ev_iinc (w := 22) (L' := [(2, 42), (0, (xs 1)), (0, (xs 2)), (0, 22)]) rfl (by decide) rfl ?_
          refine ev_goto f330_32 ?_
          refine ev_iload_n rfl ?_
          refine ev_bipush ?_
          refine ev_icmpge f330_51 (fun c80 => absurd c80 (by omega)) (fun c80 => ?_)
          refine ev_aload_n rfl ?_
          refine ev_getf (r := 42) (v := 67) (hS171.lt (by decide)) (hS171.fam (by decide) (by decide)) ft12_46 ((jw_ne e171 (Or.inl (by decide))).trans ((jw_ne e170 (Or.inl (by decide))).trans ((jw_ne e169 (Or.inl (by decide))).trans ((jw_ne e168 (Or.inl (by decide))).trans ((jw_ne e167 (Or.inl (by decide))).trans ((jw_ne e166 (Or.inl (by decide))).trans ((jw_ne e165 (Or.inl (by decide))).trans ((jw_ne e164 (Or.inl (by decide))).trans ((jw_ne e163 (Or.inl (by decide))).trans ((jw_ne e162 (Or.inl (by decide))).trans ((jw_ne e161 (Or.inl (by decide))).trans ((jw_ne e160 (Or.inl (by decide))).trans ((jw_ne e159 (Or.inl (by decide))).trans ((jw_ne e158 (Or.inl (by decide))).trans ((jw_ne e157 (Or.inl (by decide))).trans ((jw_ne e156 (Or.inl (by decide))).trans ((jw_ne e155 (Or.inl (by decide))).trans ((jw_ne e154 (Or.inl (by decide))).trans ((jw_ne e153 (Or.inl (by decide))).trans ((jw_ne e152 (Or.inl (by decide))).trans ((jw_ne e151 (Or.inl (by decide))).trans ((jw_ne e150 (Or.inl (by decide))).trans ((jw_ne e149 (Or.inr (by decide))).trans ((jw_ne e148 (Or.inr (by decide))).trans ((jw_ne e147 (Or.inl (by decide))).trans ((jw_ne e146 (Or.inl (by decide))).trans ((jw_ne e145 (Or.inl (by decide))).trans ((jw_ne e144 (Or.inl (by decide))).trans ((jw_ne e143 (Or.inl (by decide))).trans ((jw_ne e142 (Or.inl (by decide))).trans ((jw_ne e141 (Or.inl (by decide))).trans ((jw_ne e140 (Or.inl (by decide))).trans ((jw_ne e139 (Or.inl (by decide))).trans ((jw_ne e138 (Or.inl (by decide))).trans ((jw_ne e137 (Or.inl (by decide))).trans ((jw_ne e136 (Or.inl (by decide))).trans ((jw_ne e135 (Or.inl (by decide))).trans ((jw_ne e134 (Or.inl (by decide))).trans ((jw_ne e133 (Or.inl (by decide))).trans ((jw_ne e132 (Or.inl (by decide))).trans ((jw_ne e131 (Or.inl (by decide))).trans ((jw_ne e130 (Or.inl (by decide))).trans ((jw_ne e129 (Or.inl (by decide))).trans ((jw_ne e128 (Or.inl (by decide))).trans ((jw_ne e127 (Or.inl (by decide))).trans ((jw_ne e126 (Or.inl (by decide))).trans ((jw_ne e125 (Or.inl (by decide))).trans ((jw_ne e124 (Or.inl (by decide))).trans ((jw_ne e123 (Or.inl (by decide))).trans ((jw_ne e122 (Or.inl (by decide))).trans ((jw_ne e121 (Or.inl (by decide))).trans ((jw_ne e120 (Or.inl (by decide))).trans ((jw_ne e119 (Or.inl (by decide))).trans ((jw_ne e118 (Or.inl (by decide))).trans ((jw_ne e117 (Or.inl (by decide))).trans ((jw_ne e116 (Or.inl (by decide))).trans ((jw_ne e115 (Or.inl (by decide))).trans ((jw_ne e114 (Or.inl (by decide))).trans ((hF.v rfl)))))))))))))))))))))))))))))))))))))))))))))))))))))))))))) ?_
          refine ev_iload_n rfl ?_
          refine ev_iconst ?_
          refine ev_iastG (r := 67) (j := 22) (hS171.lt (by decide)) (hS171.sh (by decide) rfl).1 rfl (hS171.inb (by decide) (by decide)) (fun h172 e172 => ?_)
          have hS172 := hS171.wr e172
          refine ev_iinc (w := 23) (L' := [(2, 42), (0, (xs 1)), (0, (xs 2)), (0, 23)]) rfl (by decide) rfl ?_
          refine ev_goto f330_32 ?_
          refine ev_iload_n rfl ?_
          refine ev_bipush ?_
          refine ev_icmpge f330_51 (fun c81 => absurd c81 (by omega)) (fun c81 => ?_)
          refine ev_aload_n rfl ?_
          refine ev_getf (r := 42) (v := 67) (hS172.lt (by decide)) (hS172.fam (by decide) (by decide)) ft12_46 ((jw_ne e172 (Or.inl (by decide))).trans ((jw_ne e171 (Or.inl (by decide))).trans ((jw_ne e170 (Or.inl (by decide))).trans ((jw_ne e169 (Or.inl (by decide))).trans ((jw_ne e168 (Or.inl (by decide))).trans ((jw_ne e167 (Or.inl (by decide))).trans ((jw_ne e166 (Or.inl (by decide))).trans ((jw_ne e165 (Or.inl (by decide))).trans ((jw_ne e164 (Or.inl (by decide))).trans ((jw_ne e163 (Or.inl (by decide))).trans ((jw_ne e162 (Or.inl (by decide))).trans ((jw_ne e161 (Or.inl (by decide))).trans ((jw_ne e160 (Or.inl (by decide))).trans ((jw_ne e159 (Or.inl (by decide))).trans ((jw_ne e158 (Or.inl (by decide))).trans ((jw_ne e157 (Or.inl (by decide))).trans ((jw_ne e156 (Or.inl (by decide))).trans ((jw_ne e155 (Or.inl (by decide))).trans ((jw_ne e154 (Or.inl (by decide))).trans ((jw_ne e153 (Or.inl (by decide))).trans ((jw_ne e152 (Or.inl (by decide))).trans ((jw_ne e151 (Or.inl (by decide))).trans ((jw_ne e150 (Or.inl (by decide))).trans ((jw_ne e149 (Or.inr (by decide))).trans ((jw_ne e148 (Or.inr (by decide))).trans ((jw_ne e147 (Or.inl (by decide))).trans ((jw_ne e146 (Or.inl (by decide))).trans ((jw_ne e145 (Or.inl (by decide))).trans ((jw_ne e144 (Or.inl (by decide))).trans ((jw_ne e143 (Or.inl (by decide))).trans ((jw_ne e142 (Or.inl (by decide))).trans ((jw_ne e141 (Or.inl (by decide))).trans ((jw_ne e140 (Or.inl (by decide))).trans ((jw_ne e139 (Or.inl (by decide))).trans ((jw_ne e138 (Or.inl (by decide))).trans ((jw_ne e137 (Or.inl (by decide))).trans ((jw_ne e136 (Or.inl (by decide))).trans ((jw_ne e135 (Or.inl (by decide))).trans ((jw_ne e134 (Or.inl (by decide))).trans ((jw_ne e133 (Or.inl (by decide))).trans ((jw_ne e132 (Or.inl (by decide))).trans ((jw_ne e131 (Or.inl (by decide))).trans ((jw_ne e130 (Or.inl (by decide))).trans ((jw_ne e129 (Or.inl (by decide))).trans ((jw_ne e128 (Or.inl (by decide))).trans ((jw_ne e127 (Or.inl (by decide))).trans ((jw_ne e126 (Or.inl (by decide))).trans ((jw_ne e125 (Or.inl (by decide))).trans ((jw_ne e124 (Or.inl (by decide))).trans ((jw_ne e123 (Or.inl (by decide))).trans ((jw_ne e122 (Or.inl (by decide))).trans ((jw_ne e121 (Or.inl (by decide))).trans ((jw_ne e120 (Or.inl (by decide))).trans ((jw_ne e119 (Or.inl (by decide))).trans ((jw_ne e118 (Or.inl (by decide))).trans ((jw_ne e117 (Or.inl (by decide))).trans ((jw_ne e116 (Or.inl (by decide))).trans ((jw_ne e115 (Or.inl (by decide))).trans ((jw_ne e114 (Or.inl (by decide))).trans ((hF.v rfl))))))))))))))))))))))))))))))))))))))))))))))))))))))))))))) ?_
          refine ev_iload_n rfl ?_
          refine ev_iconst ?_
          refine ev_iastG (r := 67) (j := 23) (hS172.lt (by decide)) (hS172.sh (by decide) rfl).1 rfl (hS172.inb (by decide) (by decide)) (fun h173 e173 => ?_)
          have hS173 := hS172.wr e173
          refine ev_iinc (w := 24) (L' := [(2, 42), (0, (xs 1)), (0, (xs 2)), (0, 24)]) rfl (by decide) rfl ?_
          refine ev_goto f330_32 ?_
          refine ev_iload_n rfl ?_
          refine ev_bipush ?_
          refine ev_icmpge f330_51 (fun c82 => absurd c82 (by omega)) (fun c82 => ?_)
          refine ev_aload_n rfl ?_
          refine ev_getf (r := 42) (v := 67) (hS173.lt (by decide)) (hS173.fam (by decide) (by decide)) ft12_46 ((jw_ne e173 (Or.inl (by decide))).trans ((jw_ne e172 (Or.inl (by decide))).trans ((jw_ne e171 (Or.inl (by decide))).trans ((jw_ne e170 (Or.inl (by decide))).trans ((jw_ne e169 (Or.inl (by decide))).trans ((jw_ne e168 (Or.inl (by decide))).trans ((jw_ne e167 (Or.inl (by decide))).trans ((jw_ne e166 (Or.inl (by decide))).trans ((jw_ne e165 (Or.inl (by decide))).trans ((jw_ne e164 (Or.inl (by decide))).trans ((jw_ne e163 (Or.inl (by decide))).trans ((jw_ne e162 (Or.inl (by decide))).trans ((jw_ne e161 (Or.inl (by decide))).trans ((jw_ne e160 (Or.inl (by decide))).trans ((jw_ne e159 (Or.inl (by decide))).trans ((jw_ne e158 (Or.inl (by decide))).trans ((jw_ne e157 (Or.inl (by decide))).trans ((jw_ne e156 (Or.inl (by decide))).trans ((jw_ne e155 (Or.inl (by decide))).trans ((jw_ne e154 (Or.inl (by decide))).trans ((jw_ne e153 (Or.inl (by decide))).trans ((jw_ne e152 (Or.inl (by decide))).trans ((jw_ne e151 (Or.inl (by decide))).trans ((jw_ne e150 (Or.inl (by decide))).trans ((jw_ne e149 (Or.inr (by decide))).trans ((jw_ne e148 (Or.inr (by decide))).trans ((jw_ne e147 (Or.inl (by decide))).trans ((jw_ne e146 (Or.inl (by decide))).trans ((jw_ne e145 (Or.inl (by decide))).trans ((jw_ne e144 (Or.inl (by decide))).trans ((jw_ne e143 (Or.inl (by decide))).trans ((jw_ne e142 (Or.inl (by decide))).trans ((jw_ne e141 (Or.inl (by decide))).trans ((jw_ne e140 (Or.inl (by decide))).trans ((jw_ne e139 (Or.inl (by decide))).trans ((jw_ne e138 (Or.inl (by decide))).trans ((jw_ne e137 (Or.inl (by decide))).trans ((jw_ne e136 (Or.inl (by decide))).trans ((jw_ne e135 (Or.inl (by decide))).trans ((jw_ne e134 (Or.inl (by decide))).trans ((jw_ne e133 (Or.inl (by decide))).trans ((jw_ne e132 (Or.inl (by decide))).trans ((jw_ne e131 (Or.inl (by decide))).trans ((jw_ne e130 (Or.inl (by decide))).trans ((jw_ne e129 (Or.inl (by decide))).trans ((jw_ne e128 (Or.inl (by decide))).trans ((jw_ne e127 (Or.inl (by decide))).trans ((jw_ne e126 (Or.inl (by decide))).trans ((jw_ne e125 (Or.inl (by decide))).trans ((jw_ne e124 (Or.inl (by decide))).trans ((jw_ne e123 (Or.inl (by decide))).trans ((jw_ne e122 (Or.inl (by decide))).trans ((jw_ne e121 (Or.inl (by decide))).trans ((jw_ne e120 (Or.inl (by decide))).trans ((jw_ne e119 (Or.inl (by decide))).trans ((jw_ne e118 (Or.inl (by decide))).trans ((jw_ne e117 (Or.inl (by decide))).trans ((jw_ne e116 (Or.inl (by decide))).trans ((jw_ne e115 (Or.inl (by decide))).trans ((jw_ne e114 (Or.inl (by decide))).trans ((hF.v rfl)))))))))))))))))))))))))))))))))))))))))))))))))))))))))))))) ?_
          refine ev_iload_n rfl ?_
          refine ev_iconst ?_
          refine ev_iastG (r := 67) (j := 24) (hS173.lt (by decide)) (hS173.sh (by decide) rfl).1 rfl (hS173.inb (by decide) (by decide)) (fun h174 e174 => ?_)
          have hS174 := hS173.wr e174
          refine ev_iinc (w := 25) (L' := [(2, 42), (0, (xs 1)), (0, (xs 2)), (0, 25)]) rfl (by decide) rfl ?_
          refine ev_goto f330_32 ?_
          refine ev_iload_n rfl ?_
          refine ev_bipush ?_
          refine ev_icmpge f330_51 (fun c83 => absurd c83 (by omega)) (fun c83 => ?_)
          refine ev_aload_n rfl ?_
          refine ev_getf (r := 42) (v := 67) (hS174.lt (by decide)) (hS174.fam (by decide) (by decide)) ft12_46 ((jw_ne e174 (Or.inl (by decide))).trans ((jw_ne e173 (Or.inl (by decide))).trans ((jw_ne e172 (Or.inl (by decide))).trans ((jw_ne e171 (Or.inl (by decide))).trans ((jw_ne e170 (Or.inl (by decide))).trans ((jw_ne e169 (Or.inl (by decide))).trans ((jw_ne e168 (Or.inl (by decide))).trans ((jw_ne e167 (Or.inl (by decide))).trans ((jw_ne e166 (Or.inl (by decide))).trans ((jw_ne e165 (Or.inl (by decide))).trans ((jw_ne e164 (Or.inl (by decide))).trans ((jw_ne e163 (Or.inl (by decide))).trans ((jw_ne e162 (Or.inl (by decide))).trans ((jw_ne e161 (Or.inl (by decide))).trans ((jw_ne e160 (Or.inl (by decide))).trans ((jw_ne e159 (Or.inl (by decide))).trans ((jw_ne e158 (Or.inl (by decide))).trans ((jw_ne e157 (Or.inl (by decide))).trans ((jw_ne e156 (Or.inl (by decide))).trans ((jw_ne e155 (Or.inl (by decide))).trans ((jw_ne e154 (Or.inl (by decide))).trans ((jw_ne e153 (Or.inl (by decide))).trans ((jw_ne e152 (Or.inl (by decide))).trans ((jw_ne e151 (Or.inl (by decide))).trans ((jw_ne e150 (Or.inl (by decide))).trans ((jw_ne e149 (Or.inr (by decide))).trans ((jw_ne e148 (Or.inr (by decide))).trans ((jw_ne e147 (Or.inl (by decide))).trans ((jw_ne e146 (Or.inl (by decide))).trans ((jw_ne e145 (Or.inl (by decide))).trans ((jw_ne e144 (Or.inl (by decide))).trans ((jw_ne e143 (Or.inl (by decide))).trans ((jw_ne e142 (Or.inl (by decide))).trans ((jw_ne e141 (Or.inl (by decide))).trans ((jw_ne e140 (Or.inl (by decide))).trans ((jw_ne e139 (Or.inl (by decide))).trans ((jw_ne e138 (Or.inl (by decide))).trans ((jw_ne e137 (Or.inl (by decide))).trans ((jw_ne e136 (Or.inl (by decide))).trans ((jw_ne e135 (Or.inl (by decide))).trans ((jw_ne e134 (Or.inl (by decide))).trans ((jw_ne e133 (Or.inl (by decide))).trans ((jw_ne e132 (Or.inl (by decide))).trans ((jw_ne e131 (Or.inl (by decide))).trans ((jw_ne e130 (Or.inl (by decide))).trans ((jw_ne e129 (Or.inl (by decide))).trans ((jw_ne e128 (Or.inl (by decide))).trans ((jw_ne e127 (Or.inl (by decide))).trans ((jw_ne e126 (Or.inl (by decide))).trans ((jw_ne e125 (Or.inl (by decide))).trans ((jw_ne e124 (Or.inl (by decide))).trans ((jw_ne e123 (Or.inl (by decide))).trans ((jw_ne e122 (Or.inl (by decide))).trans ((jw_ne e121 (Or.inl (by decide))).trans ((jw_ne e120 (Or.inl (by decide))).trans ((jw_ne e119 (Or.inl (by decide))).trans ((jw_ne e118 (Or.inl (by decide))).trans ((jw_ne e117 (Or.inl (by decide))).trans ((jw_ne e116 (Or.inl (by decide))).trans ((jw_ne e115 (Or.inl (by decide))).trans ((jw_ne e114 (Or.inl (by decide))).trans ((hF.v rfl))))))))))))))))))))))))))))))))))))))))))))))))))))))))))))))) ?_
          refine ev_iload_n rfl ?_
          refine ev_iconst ?_
          refine ev_iastG (r := 67) (j := 25) (hS174.lt (by decide)) (hS174.sh (by decide) rfl).1 rfl (hS174.inb (by decide) (by decide)) (fun h175 e175 => ?_)
          have hS175 := hS174.wr e175
          refine ev_iinc (w := 26) (L' := [(2, 42), (0, (xs 1)), (0, (xs 2)), (0, 26)]) rfl (by decide) rfl ?_
          refine ev_goto f330_32 ?_
          refine ev_iload_n rfl ?_
          refine ev_bipush ?_
          refine ev_icmpge f330_51 (fun c84 => absurd c84 (by omega)) (fun c84 => ?_)
          refine ev_aload_n rfl ?_
          refine ev_getf (r := 42) (v := 67) (hS175.lt (by decide)) (hS175.fam (by decide) (by decide)) ft12_46 ((jw_ne e175 (Or.inl (by decide))).trans ((jw_ne e174 (Or.inl (by decide))).trans ((jw_ne e173 (Or.inl (by decide))).trans ((jw_ne e172 (Or.inl (by decide))).trans ((jw_ne e171 (Or.inl (by decide))).trans ((jw_ne e170 (Or.inl (by decide))).trans ((jw_ne e169 (Or.inl (by decide))).trans ((jw_ne e168 (Or.inl (by decide))).trans ((jw_ne e167 (Or.inl (by decide))).trans ((jw_ne e166 (Or.inl (by decide))).trans ((jw_ne e165 (Or.inl (by decide))).trans ((jw_ne e164 (Or.inl (by decide))).trans ((jw_ne e163 (Or.inl (by decide))).trans ((jw_ne e162 (Or.inl (by decide))).trans ((jw_ne e161 (Or.inl (by decide))).trans ((jw_ne e160 (Or.inl (by decide))).trans ((jw_ne e159 (Or.inl (by decide))).trans ((jw_ne e158 (Or.inl (by decide))).trans ((jw_ne e157 (Or.inl (by decide))).trans ((jw_ne e156 (Or.inl (by decide))).trans ((jw_ne e155 (Or.inl (by decide))).trans ((jw_ne e154 (Or.inl (by decide))).trans ((jw_ne e153 (Or.inl (by decide))).trans ((jw_ne e152 (Or.inl (by decide))).trans ((jw_ne e151 (Or.inl (by decide))).trans ((jw_ne e150 (Or.inl (by decide))).trans ((jw_ne e149 (Or.inr (by decide))).trans ((jw_ne e148 (Or.inr (by decide))).trans ((jw_ne e147 (Or.inl (by decide))).trans ((jw_ne e146 (Or.inl (by decide))).trans ((jw_ne e145 (Or.inl (by decide))).trans ((jw_ne e144 (Or.inl (by decide))).trans ((jw_ne e143 (Or.inl (by decide))).trans ((jw_ne e142 (Or.inl (by decide))).trans ((jw_ne e141 (Or.inl (by decide))).trans ((jw_ne e140 (Or.inl (by decide))).trans ((jw_ne e139 (Or.inl (by decide))).trans ((jw_ne e138 (Or.inl (by decide))).trans ((jw_ne e137 (Or.inl (by decide))).trans ((jw_ne e136 (Or.inl (by decide))).trans ((jw_ne e135 (Or.inl (by decide))).trans ((jw_ne e134 (Or.inl (by decide))).trans ((jw_ne e133 (Or.inl (by decide))).trans ((jw_ne e132 (Or.inl (by decide))).trans ((jw_ne e131 (Or.inl (by decide))).trans ((jw_ne e130 (Or.inl (by decide))).trans ((jw_ne e129 (Or.inl (by decide))).trans ((jw_ne e128 (Or.inl (by decide))).trans ((jw_ne e127 (Or.inl (by decide))).trans ((jw_ne e126 (Or.inl (by decide))).trans ((jw_ne e125 (Or.inl (by decide))).trans ((jw_ne e124 (Or.inl (by decide))).trans ((jw_ne e123 (Or.inl (by decide))).trans ((jw_ne e122 (Or.inl (by decide))).trans ((jw_ne e121 (Or.inl (by decide))).trans ((jw_ne e120 (Or.inl (by decide))).trans ((jw_ne e119 (Or.inl (by decide))).trans ((jw_ne e118 (Or.inl (by decide))).trans ((jw_ne e117 (Or.inl (by decide))).trans ((jw_ne e116 (Or.inl (by decide))).trans ((jw_ne e115 (Or.inl (by decide))).trans ((jw_ne e114 (Or.inl (by decide))).trans ((hF.v rfl)))))))))))))))))))))))))))))))))))))))))))))))))))))))))))))))) ?_
          refine ev_iload_n rfl ?_
          refine ev_iconst ?_
          refine ev_iastG (r := 67) (j := 26) (hS175.lt (by decide)) (hS175.sh (by decide) rfl).1 rfl (hS175.inb (by decide) (by decide)) (fun h176 e176 => ?_)
          have hS176 := hS175.wr e176
          refine ev_iinc (w := 27) (L' := [(2, 42), (0, (xs 1)), (0, (xs 2)), (0, 27)]) rfl (by decide) rfl ?_
          refine ev_goto f330_32 ?_
          refine ev_iload_n rfl ?_
          refine ev_bipush ?_
          refine ev_icmpge f330_51 (fun c85 => absurd c85 (by omega)) (fun c85 => ?_)
          refine ev_aload_n rfl ?_
          refine ev_getf (r := 42) (v := 67) (hS176.lt (by decide)) (hS176.fam (by decide) (by decide)) ft12_46 ((jw_ne e176 (Or.inl (by decide))).trans ((jw_ne e175 (Or.inl (by decide))).trans ((jw_ne e174 (Or.inl (by decide))).trans ((jw_ne e173 (Or.inl (by decide))).trans ((jw_ne e172 (Or.inl (by decide))).trans ((jw_ne e171 (Or.inl (by decide))).trans ((jw_ne e170 (Or.inl (by decide))).trans ((jw_ne e169 (Or.inl (by decide))).trans ((jw_ne e168 (Or.inl (by decide))).trans ((jw_ne e167 (Or.inl (by decide))).trans ((jw_ne e166 (Or.inl (by decide))).trans ((jw_ne e165 (Or.inl (by decide))).trans ((jw_ne e164 (Or.inl (by decide))).trans ((jw_ne e163 (Or.inl (by decide))).trans ((jw_ne e162 (Or.inl (by decide))).trans ((jw_ne e161 (Or.inl (by decide))).trans ((jw_ne e160 (Or.inl (by decide))).trans ((jw_ne e159 (Or.inl (by decide))).trans ((jw_ne e158 (Or.inl (by decide))).trans ((jw_ne e157 (Or.inl (by decide))).trans ((jw_ne e156 (Or.inl (by decide))).trans ((jw_ne e155 (Or.inl (by decide))).trans ((jw_ne e154 (Or.inl (by decide))).trans ((jw_ne e153 (Or.inl (by decide))).trans ((jw_ne e152 (Or.inl (by decide))).trans ((jw_ne e151 (Or.inl (by decide))).trans ((jw_ne e150 (Or.inl (by decide))).trans ((jw_ne e149 (Or.inr (by decide))).trans ((jw_ne e148 (Or.inr (by decide))).trans ((jw_ne e147 (Or.inl (by decide))).trans ((jw_ne e146 (Or.inl (by decide))).trans ((jw_ne e145 (Or.inl (by decide))).trans ((jw_ne e144 (Or.inl (by decide))).trans ((jw_ne e143 (Or.inl (by decide))).trans ((jw_ne e142 (Or.inl (by decide))).trans ((jw_ne e141 (Or.inl (by decide))).trans ((jw_ne e140 (Or.inl (by decide))).trans ((jw_ne e139 (Or.inl (by decide))).trans ((jw_ne e138 (Or.inl (by decide))).trans ((jw_ne e137 (Or.inl (by decide))).trans ((jw_ne e136 (Or.inl (by decide))).trans ((jw_ne e135 (Or.inl (by decide))).trans ((jw_ne e134 (Or.inl (by decide))).trans ((jw_ne e133 (Or.inl (by decide))).trans ((jw_ne e132 (Or.inl (by decide))).trans ((jw_ne e131 (Or.inl (by decide))).trans ((jw_ne e130 (Or.inl (by decide))).trans ((jw_ne e129 (Or.inl (by decide))).trans ((jw_ne e128 (Or.inl (by decide))).trans ((jw_ne e127 (Or.inl (by decide))).trans ((jw_ne e126 (Or.inl (by decide))).trans ((jw_ne e125 (Or.inl (by decide))).trans ((jw_ne e124 (Or.inl (by decide))).trans ((jw_ne e123 (Or.inl (by decide))).trans ((jw_ne e122 (Or.inl (by decide))).trans ((jw_ne e121 (Or.inl (by decide))).trans ((jw_ne e120 (Or.inl (by decide))).trans ((jw_ne e119 (Or.inl (by decide))).trans ((jw_ne e118 (Or.inl (by decide))).trans ((jw_ne e117 (Or.inl (by decide))).trans ((jw_ne e116 (Or.inl (by decide))).trans ((jw_ne e115 (Or.inl (by decide))).trans ((jw_ne e114 (Or.inl (by decide))).trans ((hF.v rfl))))))))))))))))))))))))))))))))))))))))))))))))))))))))))))))))) ?_
          refine ev_iload_n rfl ?_
          refine ev_iconst ?_
          refine ev_iastG (r := 67) (j := 27) (hS176.lt (by decide)) (hS176.sh (by decide) rfl).1 rfl (hS176.inb (by decide) (by decide)) (fun h177 e177 => ?_)
          have hS177 := hS176.wr e177
          refine ev_iinc (w := 28) (L' := [(2, 42), (0, (xs 1)), (0, (xs 2)), (0, 28)]) rfl (by decide) rfl ?_
          refine ev_goto f330_32 ?_
          refine ev_iload_n rfl ?_
          refine ev_bipush ?_
          refine ev_icmpge f330_51 (fun c86 => absurd c86 (by omega)) (fun c86 => ?_)
          refine ev_aload_n rfl ?_
          refine ev_getf (r := 42) (v := 67) (hS177.lt (by decide)) (hS177.fam (by decide) (by decide)) ft12_46 ((jw_ne e177 (Or.inl (by decide))).trans ((jw_ne e176 (Or.inl (by decide))).trans ((jw_ne e175 (Or.inl (by decide))).trans ((jw_ne e174 (Or.inl (by decide))).trans ((jw_ne e173 (Or.inl (by decide))).trans ((jw_ne e172 (Or.inl (by decide))).trans ((jw_ne e171 (Or.inl (by decide))).trans ((jw_ne e170 (Or.inl (by decide))).trans ((jw_ne e169 (Or.inl (by decide))).trans ((jw_ne e168 (Or.inl (by decide))).trans ((jw_ne e167 (Or.inl (by decide))).trans ((jw_ne e166 (Or.inl (by decide))).trans ((jw_ne e165 (Or.inl (by decide))).trans ((jw_ne e164 (Or.inl (by decide))).trans ((jw_ne e163 (Or.inl (by decide))).trans ((jw_ne e162 (Or.inl (by decide))).trans ((jw_ne e161 (Or.inl (by decide))).trans ((jw_ne e160 (Or.inl (by decide))).trans ((jw_ne e159 (Or.inl (by decide))).trans ((jw_ne e158 (Or.inl (by decide))).trans ((jw_ne e157 (Or.inl (by decide))).trans ((jw_ne e156 (Or.inl (by decide))).trans ((jw_ne e155 (Or.inl (by decide))).trans ((jw_ne e154 (Or.inl (by decide))).trans ((jw_ne e153 (Or.inl (by decide))).trans ((jw_ne e152 (Or.inl (by decide))).trans ((jw_ne e151 (Or.inl (by decide))).trans ((jw_ne e150 (Or.inl (by decide))).trans ((jw_ne e149 (Or.inr (by decide))).trans ((jw_ne e148 (Or.inr (by decide))).trans ((jw_ne e147 (Or.inl (by decide))).trans ((jw_ne e146 (Or.inl (by decide))).trans ((jw_ne e145 (Or.inl (by decide))).trans ((jw_ne e144 (Or.inl (by decide))).trans ((jw_ne e143 (Or.inl (by decide))).trans ((jw_ne e142 (Or.inl (by decide))).trans ((jw_ne e141 (Or.inl (by decide))).trans ((jw_ne e140 (Or.inl (by decide))).trans ((jw_ne e139 (Or.inl (by decide))).trans ((jw_ne e138 (Or.inl (by decide))).trans ((jw_ne e137 (Or.inl (by decide))).trans ((jw_ne e136 (Or.inl (by decide))).trans ((jw_ne e135 (Or.inl (by decide))).trans ((jw_ne e134 (Or.inl (by decide))).trans ((jw_ne e133 (Or.inl (by decide))).trans ((jw_ne e132 (Or.inl (by decide))).trans ((jw_ne e131 (Or.inl (by decide))).trans ((jw_ne e130 (Or.inl (by decide))).trans ((jw_ne e129 (Or.inl (by decide))).trans ((jw_ne e128 (Or.inl (by decide))).trans ((jw_ne e127 (Or.inl (by decide))).trans ((jw_ne e126 (Or.inl (by decide))).trans ((jw_ne e125 (Or.inl (by decide))).trans ((jw_ne e124 (Or.inl (by decide))).trans ((jw_ne e123 (Or.inl (by decide))).trans ((jw_ne e122 (Or.inl (by decide))).trans ((jw_ne e121 (Or.inl (by decide))).trans ((jw_ne e120 (Or.inl (by decide))).trans ((jw_ne e119 (Or.inl (by decide))).trans ((jw_ne e118 (Or.inl (by decide))).trans ((jw_ne e117 (Or.inl (by decide))).trans ((jw_ne e116 (Or.inl (by decide))).trans ((jw_ne e115 (Or.inl (by decide))).trans ((jw_ne e114 (Or.inl (by decide))).trans ((hF.v rfl)))))))))))))))))))))))))))))))))))))))))))))))))))))))))))))))))) ?_
          refine ev_iload_n rfl ?_
          refine ev_iconst ?_
          refine ev_iastG (r := 67) (j := 28) (hS177.lt (by decide)) (hS177.sh (by decide) rfl).1 rfl (hS177.inb (by decide) (by decide)) (fun h178 e178 => ?_)
          have hS178 := hS177.wr e178
          refine ev_iinc (w := 29) (L' := [(2, 42), (0, (xs 1)), (0, (xs 2)), (0, 29)]) rfl (by decide) rfl ?_
          refine ev_goto f330_32 ?_
          refine ev_iload_n rfl ?_
          refine ev_bipush ?_
          refine ev_icmpge f330_51 (fun c87 => absurd c87 (by omega)) (fun c87 => ?_)
          refine ev_aload_n rfl ?_
          refine ev_getf (r := 42) (v := 67) (hS178.lt (by decide)) (hS178.fam (by decide) (by decide)) ft12_46 ((jw_ne e178 (Or.inl (by decide))).trans ((jw_ne e177 (Or.inl (by decide))).trans ((jw_ne e176 (Or.inl (by decide))).trans ((jw_ne e175 (Or.inl (by decide))).trans ((jw_ne e174 (Or.inl (by decide))).trans ((jw_ne e173 (Or.inl (by decide))).trans ((jw_ne e172 (Or.inl (by decide))).trans ((jw_ne e171 (Or.inl (by decide))).trans ((jw_ne e170 (Or.inl (by decide))).trans ((jw_ne e169 (Or.inl (by decide))).trans ((jw_ne e168 (Or.inl (by decide))).trans ((jw_ne e167 (Or.inl (by decide))).trans ((jw_ne e166 (Or.inl (by decide))).trans ((jw_ne e165 (Or.inl (by decide))).trans ((jw_ne e164 (Or.inl (by decide))).trans ((jw_ne e163 (Or.inl (by decide))).trans ((jw_ne e162 (Or.inl (by decide))).trans ((jw_ne e161 (Or.inl (by decide))).trans ((jw_ne e160 (Or.inl (by decide))).trans ((jw_ne e159 (Or.inl (by decide))).trans ((jw_ne e158 (Or.inl (by decide))).trans ((jw_ne e157 (Or.inl (by decide))).trans ((jw_ne e156 (Or.inl (by decide))).trans ((jw_ne e155 (Or.inl (by decide))).trans ((jw_ne e154 (Or.inl (by decide))).trans ((jw_ne e153 (Or.inl (by decide))).trans ((jw_ne e152 (Or.inl (by decide))).trans ((jw_ne e151 (Or.inl (by decide))).trans ((jw_ne e150 (Or.inl (by decide))).trans ((jw_ne e149 (Or.inr (by decide))).trans ((jw_ne e148 (Or.inr (by decide))).trans ((jw_ne e147 (Or.inl (by decide))).trans ((jw_ne e146 (Or.inl (by decide))).trans ((jw_ne e145 (Or.inl (by decide))).trans ((jw_ne e144 (Or.inl (by decide))).trans ((jw_ne e143 (Or.inl (by decide))).trans ((jw_ne e142 (Or.inl (by decide))).trans ((jw_ne e141 (Or.inl (by decide))).trans ((jw_ne e140 (Or.inl (by decide))).trans ((jw_ne e139 (Or.inl (by decide))).trans ((jw_ne e138 (Or.inl (by decide))).trans ((jw_ne e137 (Or.inl (by decide))).trans ((jw_ne e136 (Or.inl (by decide))).trans ((jw_ne e135 (Or.inl (by decide))).trans ((jw_ne e134 (Or.inl (by decide))).trans ((jw_ne e133 (Or.inl (by decide))).trans ((jw_ne e132 (Or.inl (by decide))).trans ((jw_ne e131 (Or.inl (by decide))).trans ((jw_ne e130 (Or.inl (by decide))).trans ((jw_ne e129 (Or.inl (by decide))).trans ((jw_ne e128 (Or.inl (by decide))).trans ((jw_ne e127 (Or.inl (by decide))).trans ((jw_ne e126 (Or.inl (by decide))).trans ((jw_ne e125 (Or.inl (by decide))).trans ((jw_ne e124 (Or.inl (by decide))).trans ((jw_ne e123 (Or.inl (by decide))).trans ((jw_ne e122 (Or.inl (by decide))).trans ((jw_ne e121 (Or.inl (by decide))).trans ((jw_ne e120 (Or.inl (by decide))).trans ((jw_ne e119 (Or.inl (by decide))).trans ((jw_ne e118 (Or.inl (by decide))).trans ((jw_ne e117 (Or.inl (by decide))).trans ((jw_ne e116 (Or.inl (by decide))).trans ((jw_ne e115 (Or.inl (by decide))).trans ((jw_ne e114 (Or.inl (by decide))).trans ((hF.v rfl))))))))))))))))))))))))))))))))))))))))))))))))))))))))))))))))))) ?_
          refine ev_iload_n rfl ?_
          refine ev_iconst ?_
          refine ev_iastG (r := 67) (j := 29) (hS178.lt (by decide)) (hS178.sh (by decide) rfl).1 rfl (hS178.inb (by decide) (by decide)) (fun h179 e179 => ?_)
          have hS179 := hS178.wr e179
          refine ev_iinc (w := 30) (L' := [(2, 42), (0, (xs 1)), (0, (xs 2)), (0, 30)]) rfl (by decide) rfl ?_
          refine ev_goto f330_32 ?_
          refine ev_iload_n rfl ?_
          refine ev_bipush ?_
          refine ev_icmpge f330_51 (fun c88 => absurd c88 (by omega)) (fun c88 => ?_)
          refine ev_aload_n rfl ?_
          refine ev_getf (r := 42) (v := 67) (hS179.lt (by decide)) (hS179.fam (by decide) (by decide)) ft12_46 ((jw_ne e179 (Or.inl (by decide))).trans ((jw_ne e178 (Or.inl (by decide))).trans ((jw_ne e177 (Or.inl (by decide))).trans ((jw_ne e176 (Or.inl (by decide))).trans ((jw_ne e175 (Or.inl (by decide))).trans ((jw_ne e174 (Or.inl (by decide))).trans ((jw_ne e173 (Or.inl (by decide))).trans ((jw_ne e172 (Or.inl (by decide))).trans ((jw_ne e171 (Or.inl (by decide))).trans ((jw_ne e170 (Or.inl (by decide))).trans ((jw_ne e169 (Or.inl (by decide))).trans ((jw_ne e168 (Or.inl (by decide))).trans ((jw_ne e167 (Or.inl (by decide))).trans ((jw_ne e166 (Or.inl (by decide))).trans ((jw_ne e165 (Or.inl (by decide))).trans ((jw_ne e164 (Or.inl (by decide))).trans ((jw_ne e163 (Or.inl (by decide))).trans ((jw_ne e162 (Or.inl (by decide))).trans ((jw_ne e161 (Or.inl (by decide))).trans ((jw_ne e160 (Or.inl (by decide))).trans ((jw_ne e159 (Or.inl (by decide))).trans ((jw_ne e158 (Or.inl (by decide))).trans ((jw_ne e157 (Or.inl (by decide))).trans ((jw_ne e156 (Or.inl (by decide))).trans ((jw_ne e155 (Or.inl (by decide))).trans ((jw_ne e154 (Or.inl (by decide))).trans ((jw_ne e153 (Or.inl (by decide))).trans ((jw_ne e152 (Or.inl (by decide))).trans ((jw_ne e151 (Or.inl (by decide))).trans ((jw_ne e150 (Or.inl (by decide))).trans ((jw_ne e149 (Or.inr (by decide))).trans ((jw_ne e148 (Or.inr (by decide))).trans ((jw_ne e147 (Or.inl (by decide))).trans ((jw_ne e146 (Or.inl (by decide))).trans ((jw_ne e145 (Or.inl (by decide))).trans ((jw_ne e144 (Or.inl (by decide))).trans ((jw_ne e143 (Or.inl (by decide))).trans ((jw_ne e142 (Or.inl (by decide))).trans ((jw_ne e141 (Or.inl (by decide))).trans ((jw_ne e140 (Or.inl (by decide))).trans ((jw_ne e139 (Or.inl (by decide))).trans ((jw_ne e138 (Or.inl (by decide))).trans ((jw_ne e137 (Or.inl (by decide))).trans ((jw_ne e136 (Or.inl (by decide))).trans ((jw_ne e135 (Or.inl (by decide))).trans ((jw_ne e134 (Or.inl (by decide))).trans ((jw_ne e133 (Or.inl (by decide))).trans ((jw_ne e132 (Or.inl (by decide))).trans ((jw_ne e131 (Or.inl (by decide))).trans ((jw_ne e130 (Or.inl (by decide))).trans ((jw_ne e129 (Or.inl (by decide))).trans ((jw_ne e128 (Or.inl (by decide))).trans ((jw_ne e127 (Or.inl (by decide))).trans ((jw_ne e126 (Or.inl (by decide))).trans ((jw_ne e125 (Or.inl (by decide))).trans ((jw_ne e124 (Or.inl (by decide))).trans ((jw_ne e123 (Or.inl (by decide))).trans ((jw_ne e122 (Or.inl (by decide))).trans ((jw_ne e121 (Or.inl (by decide))).trans ((jw_ne e120 (Or.inl (by decide))).trans ((jw_ne e119 (Or.inl (by decide))).trans ((jw_ne e118 (Or.inl (by decide))).trans ((jw_ne e117 (Or.inl (by decide))).trans ((jw_ne e116 (Or.inl (by decide))).trans ((jw_ne e115 (Or.inl (by decide))).trans ((jw_ne e114 (Or.inl (by decide))).trans ((hF.v rfl)))))))))))))))))))))))))))))))))))))))))))))))))))))))))))))))))))) ?_
          refine ev_iload_n rfl ?_
          refine ev_iconst ?_
          refine ev_iastG (r := 67) (j := 30) (hS179.lt (by decide)) (hS179.sh (by decide) rfl).1 rfl (hS179.inb (by decide) (by decide)) (fun h180 e180 => ?_)
          have hS180 := hS179.wr e180
          refine ev_iinc (w := 31) (L' := [(2, 42), (0, (xs 1)), (0, (xs 2)), (0, 31)]) rfl (by decide) rfl ?_
          refine ev_goto f330_32 ?_
          refine ev_iload_n rfl ?_
          refine ev_bipush ?_
          refine ev_icmpge f330_51 (fun c89 => absurd c89 (by omega)) (fun c89 => ?_)
          refine ev_aload_n rfl ?_
          refine ev_getf (r := 42) (v := 67) (hS180.lt (by decide)) (hS180.fam (by decide) (by decide)) ft12_46 ((jw_ne e180 (Or.inl (by decide))).trans ((jw_ne e179 (Or.inl (by decide))).trans ((jw_ne e178 (Or.inl (by decide))).trans ((jw_ne e177 (Or.inl (by decide))).trans ((jw_ne e176 (Or.inl (by decide))).trans ((jw_ne e175 (Or.inl (by decide))).trans ((jw_ne e174 (Or.inl (by decide))).trans ((jw_ne e173 (Or.inl (by decide))).trans ((jw_ne e172 (Or.inl (by decide))).trans ((jw_ne e171 (Or.inl (by decide))).trans ((jw_ne e170 (Or.inl (by decide))).trans ((jw_ne e169 (Or.inl (by decide))).trans ((jw_ne e168 (Or.inl (by decide))).trans ((jw_ne e167 (Or.inl (by decide))).trans ((jw_ne e166 (Or.inl (by decide))).trans ((jw_ne e165 (Or.inl (by decide))).trans ((jw_ne e164 (Or.inl (by decide))).trans ((jw_ne e163 (Or.inl (by decide))).trans ((jw_ne e162 (Or.inl (by decide))).trans ((jw_ne e161 (Or.inl (by decide))).trans ((jw_ne e160 (Or.inl (by decide))).trans ((jw_ne e159 (Or.inl (by decide))).trans ((jw_ne e158 (Or.inl (by decide))).trans ((jw_ne e157 (Or.inl (by decide))).trans ((jw_ne e156 (Or.inl (by decide))).trans ((jw_ne e155 (Or.inl (by decide))).trans ((jw_ne e154 (Or.inl (by decide))).trans ((jw_ne e153 (Or.inl (by decide))).trans ((jw_ne e152 (Or.inl (by decide))).trans ((jw_ne e151 (Or.inl (by decide))).trans ((jw_ne e150 (Or.inl (by decide))).trans ((jw_ne e149 (Or.inr (by decide))).trans ((jw_ne e148 (Or.inr (by decide))).trans ((jw_ne e147 (Or.inl (by decide))).trans ((jw_ne e146 (Or.inl (by decide))).trans ((jw_ne e145 (Or.inl (by decide))).trans ((jw_ne e144 (Or.inl (by decide))).trans ((jw_ne e143 (Or.inl (by decide))).trans ((jw_ne e142 (Or.inl (by decide))).trans ((jw_ne e141 (Or.inl (by decide))).trans ((jw_ne e140 (Or.inl (by decide))).trans ((jw_ne e139 (Or.inl (by decide))).trans ((jw_ne e138 (Or.inl (by decide))).trans ((jw_ne e137 (Or.inl (by decide))).trans ((jw_ne e136 (Or.inl (by decide))).trans ((jw_ne e135 (Or.inl (by decide))).trans ((jw_ne e134 (Or.inl (by decide))).trans ((jw_ne e133 (Or.inl (by decide))).trans ((jw_ne e132 (Or.inl (by decide))).trans ((jw_ne e131 (Or.inl (by decide))).trans ((jw_ne e130 (Or.inl (by decide))).trans ((jw_ne e129 (Or.inl (by decide))).trans ((jw_ne e128 (Or.inl (by decide))).trans ((jw_ne e127 (Or.inl (by decide))).trans ((jw_ne e126 (Or.inl (by decide))).trans ((jw_ne e125 (Or.inl (by decide))).trans ((jw_ne e124 (Or.inl (by decide))).trans ((jw_ne e123 (Or.inl (by decide))).trans ((jw_ne e122 (Or.inl (by decide))).trans ((jw_ne e121 (Or.inl (by decide))).trans ((jw_ne e120 (Or.inl (by decide))).trans ((jw_ne e119 (Or.inl (by decide))).trans ((jw_ne e118 (Or.inl (by decide))).trans ((jw_ne e117 (Or.inl (by decide))).trans ((jw_ne e116 (Or.inl (by decide))).trans ((jw_ne e115 (Or.inl (by decide))).trans ((jw_ne e114 (Or.inl (by decide))).trans ((hF.v rfl))))))))))))))))))))))))))))))))))))))))))))))))))))))))))))))))))))) ?_
          refine ev_iload_n rfl ?_
          refine ev_iconst ?_
          refine ev_iastG (r := 67) (j := 31) (hS180.lt (by decide)) (hS180.sh (by decide) rfl).1 rfl (hS180.inb (by decide) (by decide)) (fun h181 e181 => ?_)
          have hS181 := hS180.wr e181
          refine ev_iinc (w := 32) (L' := [(2, 42), (0, (xs 1)), (0, (xs 2)), (0, 32)]) rfl (by decide) rfl ?_
          refine ev_goto f330_32 ?_
          refine ev_iload_n rfl ?_
          refine ev_bipush ?_
          refine ev_icmpge f330_51 (fun c90 => ?_) (fun c90 => absurd c90 (by omega))
          refine ev_iload_n rfl ?_
          refine ev_iload_n rfl ?_
          have q91 := jmulb (x := (xs 1)) (y := (xs 2)) (a := 4) (b := 4) (by omega) (by omega) (by omega) (by omega)
          refine ev_imul (r := ((xs 1) * (xs 2))) (by unfold w32; omega) ?_
          refine ev_ret rfl (by decide) (by decide) ?_
          show jEv _ _ _ _ _ _ _ (_, [(2, (-2)), (2, 0), (2, 42), (0, 0)], [(0, ((xs 1) * (xs 2))), (0, ((xs 1) * (xs 2)))], _, _, _)
          refine ev_icmpeq f384_2190 (fun c92 => ?_) (fun c92 => absurd c92 (by omega))
          exact law_tail _
        · refine ev_iconst ?_
          refine ev_ret rfl (by decide) (by decide) ?_
          show jEv _ _ _ _ _ _ _ (_, [(2, (-2)), (2, 0), (2, 42), (0, 0)], [(0, (-1))], _, _, _)
          refine ev_aload_n rfl ?_
          refine ev_aload_n rfl ?_
          refine ev_iload_n rfl ?_
          refine ev_iconst ?_
          refine ev_iadd (r := 1) (by decide) ?_
          refine ev_sald (j := 1) (v := (xs 1)) rfl rfl rfl ?_
          refine ev_aload_n rfl ?_
          refine ev_iload_n rfl ?_
          refine ev_iconst ?_
          refine ev_iadd (r := 2) (by decide) ?_
          refine ev_sald (j := 2) (v := (xs 2)) rfl rfl rfl ?_
          refine ev_in (d := 7) (a := 0) (b := 0) (cd' := c330_0) (m := 4) (L0 := [(2, 42), (0, (xs 1)), (0, (xs 2)), (9, 0)]) (jcall_v (A := [(0, (xs 2)), (0, (xs 1))]) (S' := [(0, (-1))]) (r := 42) rfl (hF.1.lt (by decide)) (hF.1.sh (by decide) rfl).1 (Nat.le_of_ble_eq_true rfl)) (by decide) ml330 pp330 (Nat.le_of_ble_eq_true rfl) rfl (by decide) (by decide) ?_
          refine ev_iload_n rfl ?_
          refine ev_iconst ?_
          refine ev_iconst ?_
          refine ev_in (d := 6) (a := 0) (b := 0) (cd' := c242_0) (m := 3) (L0 := [(0, (xs 1)), (0, 1), (0, 4)]) (jcall_s (A := [(0, 4), (0, 1), (0, (xs 1))]) (S' := []) (by decide) rfl (Nat.le_of_ble_eq_true rfl)) (by decide) ml242 pp242 (Nat.le_of_ble_eq_true rfl) rfl (by decide) (by decide) ?_
          refine ev_iload_n rfl ?_
          refine ev_iload_n rfl ?_
          refine ev_icmplt f242_14 (fun c93 => absurd c93 (by omega)) (fun c93 => ?_)
          refine ev_iload_n rfl ?_
          refine ev_iload_n rfl ?_
          refine ev_icmpgt f242_14 (fun c94 => absurd c94 (by omega)) (fun c94 => ?_)
          refine ev_iconst ?_
          refine ev_goto f242_15 ?_
          refine ev_ret rfl (by decide) (by decide) ?_
          show jEv _ _ _ _ _ _ _ (_, [(2, 42), (0, (xs 1)), (0, (xs 2)), (9, 0)], [(0, 1)], _, _, _)
          refine ev_ifeq f330_18 (fun c95 => absurd c95 (by omega)) (fun c95 => ?_)
          refine ev_iload_n rfl ?_
          refine ev_iconst ?_
          refine ev_iconst ?_
          refine ev_in (d := 6) (a := 0) (b := 0) (cd' := c242_0) (m := 3) (L0 := [(0, (xs 2)), (0, 1), (0, 4)]) (jcall_s (A := [(0, 4), (0, 1), (0, (xs 2))]) (S' := []) (by decide) rfl (Nat.le_of_ble_eq_true rfl)) (by decide) ml242 pp242 (Nat.le_of_ble_eq_true rfl) rfl (by decide) (by decide) ?_
          refine ev_iload_n rfl ?_
          refine ev_iload_n rfl ?_
          refine ev_icmplt f242_14 (fun c96 => absurd c96 (by omega)) (fun c96 => ?_)
          refine ev_iload_n rfl ?_
          refine ev_iload_n rfl ?_
          refine ev_icmpgt f242_14 (fun c97 => ?_) (fun c97 => absurd c97 (by omega))
          refine ev_iconst ?_
          refine ev_ret rfl (by decide) (by decide) ?_
          show jEv _ _ _ _ _ _ _ (_, [(2, 42), (0, (xs 1)), (0, (xs 2)), (9, 0)], [(0, 0)], _, _, _)
          refine ev_ifne f330_20 (fun c98 => absurd c98 (by omega)) (fun c98 => ?_)
          refine ev_iconst ?_
          refine ev_ret rfl (by decide) (by decide) ?_
          show jEv _ _ _ _ _ _ _ (_, [(2, (-2)), (2, 0), (2, 42), (0, 0)], [(0, (-1)), (0, (-1))], _, _, _)
          refine ev_icmpeq f384_2190 (fun c99 => ?_) (fun c99 => absurd c99 (by omega))
          exact law_tail _
