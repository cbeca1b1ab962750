/-! node -/
set_option maxHeartbeats 4000000 in
theorem case_8 {xs : Nat → Int} (hr : ∀ j, -2147483648 ≤ xs j ∧ xs j < 2147483648) {h : JH} (hF : Fresh h) : jEv (jOk 8) (some 6) xs c384_0 600000 7302250 (fun v _ => v = some (0, 1)) (c384_497, [(2, -2), (2, 0), (2, 42), (0, 0)], [], h, 83, 23761) := by
  have r1 := hr 1
  have r2 := hr 2
  have r3 := hr 3
  have r4 := hr 4
  have r5 := hr 5
  refine ev_aload_n rfl ?_
  refine ev_aload_n rfl ?_
  refine ev_iload_n rfl ?_
  refine ev_iconst ?_
  refine ev_iadd (r := 1) (by decide) ?_
  refine ev_sald (j := 1) (v := (xs 1)) rfl rfl rfl ?_
  refine ev_aload_n rfl ?_
  refine ev_iload_n rfl ?_
  refine ev_iconst ?_
  refine ev_iadd (r := 2) (by decide) ?_
  refine ev_sald (j := 2) (v := (xs 2)) rfl rfl rfl ?_
  refine ev_aload_n rfl ?_
  refine ev_iload_n rfl ?_
  refine ev_iconst ?_
  refine ev_iadd (r := 3) (by decide) ?_
  refine ev_sald (j := 3) (v := (xs 3)) rfl rfl rfl ?_
  refine ev_in (d := 7) (a := 0) (b := 0) (cd' := c174_0) (m := 5) (L0 := [(2, 0), (0, (xs 1)), (0, (xs 2)), (0, (xs 3)), (9, 0)]) (jcall_v (A := [(0, (xs 3)), (0, (xs 2)), (0, (xs 1))]) (S' := []) (r := 0) rfl (hF.1.lt (by decide)) (hF.1.sh (by decide) rfl).1 (Nat.le_of_ble_eq_true rfl)) (by decide) ml174 pp174 (Nat.le_of_ble_eq_true rfl) rfl (by decide) (by decide) ?_
  refine ev_aload_n rfl ?_
  refine ev_iload_n rfl ?_
  refine ev_in (d := 6) (a := 0) (b := 0) (cd' := c219_0) (m := 2) (L0 := [(2, 0), (0, (xs 1))]) (jcall_v (A := [(0, (xs 1))]) (S' := []) (r := 0) rfl (hF.1.lt (by decide)) (hF.1.sh (by decide) rfl).1 (Nat.le_of_ble_eq_true rfl)) (by decide) ml219 pp219 (Nat.le_of_ble_eq_true rfl) rfl (by decide) (by decide) ?_
  refine ev_iload_n rfl ?_
  refine ev_iflt f219_12 (fun c1 => ?_) (fun c1 => ?_)
  · refine ev_aconst_null ?_
    refine ev_goto f219_22 ?_
    refine ev_ret rfl (by decide) (by decide) ?_
    show jEv _ _ _ _ _ _ _ (_, [(2, 0), (0, (xs 1)), (0, (xs 2)), (0, (xs 3)), (9, 0)], [(2, (-1))], _, _, _)
    refine ev_astore (L' := [(2, 0), (0, (xs 1)), (0, (xs 2)), (0, (xs 3)), (2, (-1))]) (Nat.le_of_ble_eq_true rfl) rfl ?_
    refine ev_aload rfl ?_
    refine ev_ifnonnull f174_15 (fun c2 => absurd c2 (by decide)) (fun c2 => ?_)
    refine ev_ldc ?_
    refine ev_ret rfl (by decide) (by decide) ?_
    show jEv _ _ _ _ _ _ _ (_, [(2, (-2)), (2, 0), (2, 42), (0, 0)], [(0, (-2000000000))], _, _, _)
    refine ev_aload_n rfl ?_
    refine ev_aload_n rfl ?_
    refine ev_iload_n rfl ?_
    refine ev_iconst ?_
    refine ev_iadd (r := 1) (by decide) ?_
    refine ev_sald (j := 1) (v := (xs 1)) rfl rfl rfl ?_
    refine ev_aload_n rfl ?_
    refine ev_iload_n rfl ?_
    refine ev_iconst ?_
    refine ev_iadd (r := 2) (by decide) ?_
    refine ev_sald (j := 2) (v := (xs 2)) rfl rfl rfl ?_
    refine ev_aload_n rfl ?_
    refine ev_iload_n rfl ?_
    refine ev_iconst ?_
    refine ev_iadd (r := 3) (by decide) ?_
    refine ev_sald (j := 3) (v := (xs 3)) rfl rfl rfl ?_
    refine ev_in (d := 7) (a := 0) (b := 0) (cd' := c275_0) (m := 6) (L0 := [(2, 42), (0, (xs 1)), (0, (xs 2)), (0, (xs 3)), (9, 0), (9, 0)]) (jcall_v (A := [(0, (xs 3)), (0, (xs 2)), (0, (xs 1))]) (S' := [(0, (-2000000000))]) (r := 42) rfl (hF.1.lt (by decide)) (hF.1.sh (by decide) rfl).1 (Nat.le_of_ble_eq_true rfl)) (by decide) ml275 pp275 (Nat.le_of_ble_eq_true rfl) rfl (by decide) (by decide) ?_
    refine ev_aload_n rfl ?_
    refine ev_iload_n rfl ?_
    refine ev_in (d := 6) (a := 0) (b := 0) (cd' := c261_0) (m := 2) (L0 := [(2, 42), (0, (xs 1))]) (jcall_v (A := [(0, (xs 1))]) (S' := []) (r := 42) rfl (hF.1.lt (by decide)) (hF.1.sh (by decide) rfl).1 (Nat.le_of_ble_eq_true rfl)) (by decide) ml261 pp261 (Nat.le_of_ble_eq_true rfl) rfl (by decide) (by decide) ?_
    refine ev_iload_n rfl ?_
    refine ev_iconst ?_
    refine ev_aload_n rfl ?_
    refine ev_getf (r := 42) (v := 0) (hF.1.lt (by decide)) (hF.1.fam (by decide) (by decide)) ft12_9 ((hF.v rfl)) ?_
    refine ev_iconst ?_
    refine ev_isub (r := (-1)) (by decide) ?_
    refine ev_in (d := 5) (a := 0) (b := 0) (cd' := c242_0) (m := 3) (L0 := [(0, (xs 1)), (0, 0), (0, (-1))]) (jcall_s (A := [(0, (-1)), (0, 0), (0, (xs 1))]) (S' := []) (by decide) rfl (Nat.le_of_ble_eq_true rfl)) (by decide) ml242 pp242 (Nat.le_of_ble_eq_true rfl) rfl (by decide) (by decide) ?_
    refine ev_iload_n rfl ?_
    refine ev_iload_n rfl ?_
    refine ev_icmplt f242_14 (fun c3 => ?_) (fun c3 => absurd c3 (by omega))
    refine ev_iconst ?_
    refine ev_ret rfl (by decide) (by decide) ?_
    show jEv _ _ _ _ _ _ _ (_, [(2, 42), (0, (xs 1))], [(0, 0)], _, _, _)
    refine ev_ret rfl (by decide) (by decide) ?_
    show jEv _ _ _ _ _ _ _ (_, [(2, 42), (0, (xs 1)), (0, (xs 2)), (0, (xs 3)), (9, 0), (9, 0)], [(0, 0)], _, _, _)
    refine ev_ifne f275_12 (fun c4 => absurd c4 (by omega)) (fun c4 => ?_)
    refine ev_ldc_w ?_
    refine ev_ret rfl (by decide) (by decide) ?_
    show jEv _ _ _ _ _ _ _ (_, [(2, (-2)), (2, 0), (2, 42), (0, 0)], [(0, (-2000000000)), (0, (-2000000000))], _, _, _)
    refine ev_icmpeq f384_2190 (fun c5 => ?_) (fun c5 => absurd c5 (by omega))
    exact law_tail _
  · refine ev_iload_n rfl ?_
    refine ev_aload_n rfl ?_
    refine ev_getf (r := 0) (v := 0) (hF.1.lt (by decide)) (hF.1.fam (by decide) (by decide)) ft11_3 ((hF.v rfl)) ?_
    refine ev_icmplt f219_16 (fun c6 => absurd c6 (by omega)) (fun c6 => ?_)
    refine ev_aconst_null ?_
    refine ev_goto f219_22 ?_
    refine ev_ret rfl (by decide) (by decide) ?_
    show jEv _ _ _ _ _ _ _ (_, [(2, 0), (0, (xs 1)), (0, (xs 2)), (0, (xs 3)), (9, 0)], [(2, (-1))], _, _, _)
    refine ev_astore (L' := [(2, 0), (0, (xs 1)), (0, (xs 2)), (0, (xs 3)), (2, (-1))]) (Nat.le_of_ble_eq_true rfl) rfl ?_
    refine ev_aload rfl ?_
    refine ev_ifnonnull f174_15 (fun c7 => absurd c7 (by decide)) (fun c7 => ?_)
    refine ev_ldc ?_
    refine ev_ret rfl (by decide) (by decide) ?_
    show jEv _ _ _ _ _ _ _ (_, [(2, (-2)), (2, 0), (2, 42), (0, 0)], [(0, (-2000000000))], _, _, _)
    refine ev_aload_n rfl ?_
    refine ev_aload_n rfl ?_
    refine ev_iload_n rfl ?_
    refine ev_iconst ?_
    refine ev_iadd (r := 1) (by decide) ?_
    refine ev_sald (j := 1) (v := (xs 1)) rfl rfl rfl ?_
    refine ev_aload_n rfl ?_
    refine ev_iload_n rfl ?_
    refine ev_iconst ?_
    refine ev_iadd (r := 2) (by decide) ?_
    refine ev_sald (j := 2) (v := (xs 2)) rfl rfl rfl ?_
    refine ev_aload_n rfl ?_
    refine ev_iload_n rfl ?_
    refine ev_iconst ?_
    refine ev_iadd (r := 3) (by decide) ?_
    refine ev_sald (j := 3) (v := (xs 3)) rfl rfl rfl ?_
    refine ev_in (d := 7) (a := 0) (b := 0) (cd' := c275_0) (m := 6) (L0 := [(2, 42), (0, (xs 1)), (0, (xs 2)), (0, (xs 3)), (9, 0), (9, 0)]) (jcall_v (A := [(0, (xs 3)), (0, (xs 2)), (0, (xs 1))]) (S' := [(0, (-2000000000))]) (r := 42) rfl (hF.1.lt (by decide)) (hF.1.sh (by decide) rfl).1 (Nat.le_of_ble_eq_true rfl)) (by decide) ml275 pp275 (Nat.le_of_ble_eq_true rfl) rfl (by decide) (by decide) ?_
    refine ev_aload_n rfl ?_
    refine ev_iload_n rfl ?_
    refine ev_in (d := 6) (a := 0) (b := 0) (cd' := c261_0) (m := 2) (L0 := [(2, 42), (0, (xs 1))]) (jcall_v (A := [(0, (xs 1))]) (S' := []) (r := 42) rfl (hF.1.lt (by decide)) (hF.1.sh (by decide) rfl).1 (Nat.le_of_ble_eq_true rfl)) (by decide) ml261 pp261 (Nat.le_of_ble_eq_true rfl) rfl (by decide) (by decide) ?_
    refine ev_iload_n rfl ?_
    refine ev_iconst ?_
    refine ev_aload_n rfl ?_
    refine ev_getf (r := 42) (v := 0) (hF.1.lt (by decide)) (hF.1.fam (by decide) (by decide)) ft12_9 ((hF.v rfl)) ?_
    refine ev_iconst ?_
    refine ev_isub (r := (-1)) (by decide) ?_
    refine ev_in (d := 5) (a := 0) (b := 0) (cd' := c242_0) (m := 3) (L0 := [(0, (xs 1)), (0, 0), (0, (-1))]) (jcall_s (A := [(0, (-1)), (0, 0), (0, (xs 1))]) (S' := []) (by decide) rfl (Nat.le_of_ble_eq_true rfl)) (by decide) ml242 pp242 (Nat.le_of_ble_eq_true rfl) rfl (by decide) (by decide) ?_
    refine ev_iload_n rfl ?_
    refine ev_iload_n rfl ?_
    refine ev_icmplt f242_14 (fun c8 => absurd c8 (by omega)) (fun c8 => ?_)
    refine ev_iload_n rfl ?_
    refine ev_iload_n rfl ?_
    refine ev_icmpgt f242_14 (fun c9 => ?_) (fun c9 => absurd c9 (by omega))
    refine ev_iconst ?_
    refine ev_ret rfl (by decide) (by decide) ?_
    show jEv _ _ _ _ _ _ _ (_, [(2, 42), (0, (xs 1))], [(0, 0)], _, _, _)
    refine ev_ret rfl (by decide) (by decide) ?_
    show jEv _ _ _ _ _ _ _ (_, [(2, 42), (0, (xs 1)), (0, (xs 2)), (0, (xs 3)), (9, 0), (9, 0)], [(0, 0)], _, _, _)
    refine ev_ifne f275_12 (fun c10 => absurd c10 (by omega)) (fun c10 => ?_)
    refine ev_ldc_w ?_
    refine ev_ret rfl (by decide) (by decide) ?_
    show jEv _ _ _ _ _ _ _ (_, [(2, (-2)), (2, 0), (2, 42), (0, 0)], [(0, (-2000000000)), (0, (-2000000000))], _, _, _)
    refine ev_icmpeq f384_2190 (fun c11 => ?_) (fun c11 => absurd c11 (by omega))
    exact law_tail _

/-! change -/
set_option maxHeartbeats 4000000 in
theorem case_9 {xs : Nat → Int} (hr : ∀ j, -2147483648 ≤ xs j ∧ xs j < 2147483648) {h : JH} (hF : Fresh h) : jEv (jOk 8) (some 6) xs c384_0 600000 7302250 (fun v _ => v = some (0, 1)) (c384_540, [(2, -2), (2, 0), (2, 42), (0, 0)], [], h, 83, 23761) := by
  have r1 := hr 1
  have r2 := hr 2
  have r3 := hr 3
  have r4 := hr 4
  have r5 := hr 5
  refine ev_aload_n rfl ?_
  refine ev_aload_n rfl ?_
  refine ev_iload_n rfl ?_
  refine ev_iconst ?_
  refine ev_iadd (r := 1) (by decide) ?_
  refine ev_sald (j := 1) (v := (xs 1)) rfl rfl rfl ?_
  refine ev_aload_n rfl ?_
  refine ev_iload_n rfl ?_
  refine ev_iconst ?_
  refine ev_iadd (r := 2) (by decide) ?_
  refine ev_sald (j := 2) (v := (xs 2)) rfl rfl rfl ?_
  refine ev_aload_n rfl ?_
  refine ev_iload_n rfl ?_
  refine ev_iconst ?_
  refine ev_iadd (r := 3) (by decide) ?_
  refine ev_sald (j := 3) (v := (xs 3)) rfl rfl rfl ?_
  refine ev_aload_n rfl ?_
  refine ev_iload_n rfl ?_
  refine ev_iconst ?_
  refine ev_iadd (r := 4) (by decide) ?_
  refine ev_sald (j := 4) (v := (xs 4)) rfl rfl rfl ?_
  refine ev_in (d := 7) (a := 0) (b := 0) (cd' := c175_0) (m := 7) (L0 := [(2, 0), (0, (xs 1)), (0, (xs 2)), (0, (xs 3)), (0, (xs 4)), (9, 0), (9, 0)]) (jcall_v (A := [(0, (xs 4)), (0, (xs 3)), (0, (xs 2)), (0, (xs 1))]) (S' := []) (r := 0) rfl (hF.1.lt (by decide)) (hF.1.sh (by decide) rfl).1 (Nat.le_of_ble_eq_true rfl)) (by decide) ml175 pp175 (Nat.le_of_ble_eq_true rfl) rfl (by decide) (by decide) ?_
  refine ev_aload_n rfl ?_
  refine ev_iload_n rfl ?_
  refine ev_in (d := 6) (a := 0) (b := 0) (cd' := c219_0) (m := 2) (L0 := [(2, 0), (0, (xs 1))]) (jcall_v (A := [(0, (xs 1))]) (S' := []) (r := 0) rfl (hF.1.lt (by decide)) (hF.1.sh (by decide) rfl).1 (Nat.le_of_ble_eq_true rfl)) (by decide) ml219 pp219 (Nat.le_of_ble_eq_true rfl) rfl (by decide) (by decide) ?_
  refine ev_iload_n rfl ?_
  refine ev_iflt f219_12 (fun c1 => ?_) (fun c1 => ?_)
  · refine ev_aconst_null ?_
    refine ev_goto f219_22 ?_
    refine ev_ret rfl (by decide) (by decide) ?_
    show jEv _ _ _ _ _ _ _ (_, [(2, 0), (0, (xs 1)), (0, (xs 2)), (0, (xs 3)), (0, (xs 4)), (9, 0), (9, 0)], [(2, (-1))], _, _, _)
    refine ev_astore (L' := [(2, 0), (0, (xs 1)), (0, (xs 2)), (0, (xs 3)), (0, (xs 4)), (2, (-1)), (9, 0)]) (Nat.le_of_ble_eq_true rfl) rfl ?_
    refine ev_aload rfl ?_
    refine ev_ifnull f175_33 (fun c2 => ?_) (fun c2 => absurd c2 (by decide))
    refine ev_ldc ?_
    refine ev_ret rfl (by decide) (by decide) ?_
    show jEv _ _ _ _ _ _ _ (_, [(2, (-2)), (2, 0), (2, 42), (0, 0)], [(0, (-2000000000))], _, _, _)
    refine ev_aload_n rfl ?_
    refine ev_aload_n rfl ?_
    refine ev_iload_n rfl ?_
    refine ev_iconst ?_
    refine ev_iadd (r := 1) (by decide) ?_
    refine ev_sald (j := 1) (v := (xs 1)) rfl rfl rfl ?_
    refine ev_aload_n rfl ?_
    refine ev_iload_n rfl ?_
    refine ev_iconst ?_
    refine ev_iadd (r := 2) (by decide) ?_
    refine ev_sald (j := 2) (v := (xs 2)) rfl rfl rfl ?_
    refine ev_aload_n rfl ?_
    refine ev_iload_n rfl ?_
    refine ev_iconst ?_
    refine ev_iadd (r := 3) (by decide) ?_
    refine ev_sald (j := 3) (v := (xs 3)) rfl rfl rfl ?_
    refine ev_aload_n rfl ?_
    refine ev_iload_n rfl ?_
    refine ev_iconst ?_
    refine ev_iadd (r := 4) (by decide) ?_
    refine ev_sald (j := 4) (v := (xs 4)) rfl rfl rfl ?_
    refine ev_in (d := 7) (a := 0) (b := 0) (cd' := c281_0) (m := 8) (L0 := [(2, 42), (0, (xs 1)), (0, (xs 2)), (0, (xs 3)), (0, (xs 4)), (9, 0), (9, 0), (9, 0)]) (jcall_v (A := [(0, (xs 4)), (0, (xs 3)), (0, (xs 2)), (0, (xs 1))]) (S' := [(0, (-2000000000))]) (r := 42) rfl (hF.1.lt (by decide)) (hF.1.sh (by decide) rfl).1 (Nat.le_of_ble_eq_true rfl)) (by decide) ml281 pp281 (Nat.le_of_ble_eq_true rfl) rfl (by decide) (by decide) ?_
    refine ev_aload_n rfl ?_
    refine ev_iload_n rfl ?_
    refine ev_iload_n rfl ?_
    refine ev_iload_n rfl ?_
    refine ev_in (d := 6) (a := 0) (b := 0) (cd' := c278_0) (m := 4) (L0 := [(2, 42), (0, (xs 1)), (0, (xs 2)), (0, (xs 3))]) (jcall_v (A := [(0, (xs 3)), (0, (xs 2)), (0, (xs 1))]) (S' := []) (r := 42) rfl (hF.1.lt (by decide)) (hF.1.sh (by decide) rfl).1 (Nat.le_of_ble_eq_true rfl)) (by decide) ml278 pp278 (Nat.le_of_ble_eq_true rfl) rfl (by decide) (by decide) ?_
    refine ev_iload_n rfl ?_
    refine ev_iconst ?_
    refine ev_icmpne f278_36 (fun c3 => ?_) (fun c3 => ?_)
    · refine ev_aload_n rfl ?_
      refine ev_iload_n rfl ?_
      refine ev_iload_n rfl ?_
      refine ev_in (d := 5) (a := 0) (b := 0) (cd' := c277_0) (m := 3) (L0 := [(2, 42), (0, (xs 1)), (0, (xs 2))]) (jcall_v (A := [(0, (xs 2)), (0, (xs 1))]) (S' := []) (r := 42) rfl (hF.1.lt (by decide)) (hF.1.sh (by decide) rfl).1 (Nat.le_of_ble_eq_true rfl)) (by decide) ml277 pp277 (Nat.le_of_ble_eq_true rfl) rfl (by decide) (by decide) ?_
      refine ev_aload_n rfl ?_
      refine ev_iload_n rfl ?_
      refine ev_iload_n rfl ?_
      refine ev_in (d := 4) (a := 0) (b := 0) (cd' := c262_0) (m := 3) (L0 := [(2, 42), (0, (xs 1)), (0, (xs 2))]) (jcall_v (A := [(0, (xs 2)), (0, (xs 1))]) (S' := []) (r := 42) rfl (hF.1.lt (by decide)) (hF.1.sh (by decide) rfl).1 (Nat.le_of_ble_eq_true rfl)) (by decide) ml262 pp262 (Nat.le_of_ble_eq_true rfl) rfl (by decide) (by decide) ?_
      refine ev_aload_n rfl ?_
      refine ev_iload_n rfl ?_
      refine ev_in (d := 3) (a := 0) (b := 0) (cd' := c261_0) (m := 2) (L0 := [(2, 42), (0, (xs 1))]) (jcall_v (A := [(0, (xs 1))]) (S' := []) (r := 42) rfl (hF.1.lt (by decide)) (hF.1.sh (by decide) rfl).1 (Nat.le_of_ble_eq_true rfl)) (by decide) ml261 pp261 (Nat.le_of_ble_eq_true rfl) rfl (by decide) (by decide) ?_
      refine ev_iload_n rfl ?_
      refine ev_iconst ?_
      refine ev_aload_n rfl ?_
      refine ev_getf (r := 42) (v := 0) (hF.1.lt (by decide)) (hF.1.fam (by decide) (by decide)) ft12_9 ((hF.v rfl)) ?_
      refine ev_iconst ?_
      refine ev_isub (r := (-1)) (by decide) ?_
      refine ev_in (d := 2) (a := 0) (b := 0) (cd' := c242_0) (m := 3) (L0 := [(0, (xs 1)), (0, 0), (0, (-1))]) (jcall_s (A := [(0, (-1)), (0, 0), (0, (xs 1))]) (S' := []) (by decide) rfl (Nat.le_of_ble_eq_true rfl)) (by decide) ml242 pp242 (Nat.le_of_ble_eq_true rfl) rfl (by decide) (by decide) ?_
      refine ev_iload_n rfl ?_
      refine ev_iload_n rfl ?_
      refine ev_icmplt f242_14 (fun c4 => ?_) (fun c4 => absurd c4 (by omega))
      refine ev_iconst ?_
      refine ev_ret rfl (by decide) (by decide) ?_
      show jEv _ _ _ _ _ _ _ (_, [(2, 42), (0, (xs 1))], [(0, 0)], _, _, _)
      refine ev_ret rfl (by decide) (by decide) ?_
      show jEv _ _ _ _ _ _ _ (_, [(2, 42), (0, (xs 1)), (0, (xs 2))], [(0, 0)], _, _, _)
      refine ev_ifeq f262_28 (fun c5 => ?_) (fun c5 => absurd c5 (by omega))
      refine ev_iconst ?_
      refine ev_ret rfl (by decide) (by decide) ?_
      show jEv _ _ _ _ _ _ _ (_, [(2, 42), (0, (xs 1)), (0, (xs 2))], [(0, 0)], _, _, _)
      refine ev_ifeq f277_28 (fun c6 => ?_) (fun c6 => absurd c6 (by omega))
      refine ev_iconst ?_
      refine ev_ret rfl (by decide) (by decide) ?_
      show jEv _ _ _ _ _ _ _ (_, [(2, 42), (0, (xs 1)), (0, (xs 2)), (0, (xs 3))], [(0, 0)], _, _, _)
      refine ev_ifeq f278_70 (fun c7 => ?_) (fun c7 => absurd c7 (by omega))
      refine ev_iconst ?_
      refine ev_ret rfl (by decide) (by decide) ?_
      show jEv _ _ _ _ _ _ _ (_, [(2, 42), (0, (xs 1)), (0, (xs 2)), (0, (xs 3)), (0, (xs 4)), (9, 0), (9, 0), (9, 0)], [(0, 0)], _, _, _)
      refine ev_ifeq f281_42 (fun c8 => ?_) (fun c8 => absurd c8 (by omega))
      refine ev_ldc_w ?_
      refine ev_ret rfl (by decide) (by decide) ?_
      show jEv _ _ _ _ _ _ _ (_, [(2, (-2)), (2, 0), (2, 42), (0, 0)], [(0, (-2000000000)), (0, (-2000000000))], _, _, _)
      refine ev_icmpeq f384_2190 (fun c9 => ?_) (fun c9 => absurd c9 (by omega))
      exact law_tail _
    · refine ev_aload_n rfl ?_
      refine ev_iload_n rfl ?_
      refine ev_iload_n rfl ?_
      refine ev_in (d := 5) (a := 0) (b := 0) (cd' := c262_0) (m := 3) (L0 := [(2, 42), (0, (xs 1)), (0, (xs 2))]) (jcall_v (A := [(0, (xs 2)), (0, (xs 1))]) (S' := []) (r := 42) rfl (hF.1.lt (by decide)) (hF.1.sh (by decide) rfl).1 (Nat.le_of_ble_eq_true rfl)) (by decide) ml262 pp262 (Nat.le_of_ble_eq_true rfl) rfl (by decide) (by decide) ?_
      refine ev_aload_n rfl ?_
      refine ev_iload_n rfl ?_
      refine ev_in (d := 4) (a := 0) (b := 0) (cd' := c261_0) (m := 2) (L0 := [(2, 42), (0, (xs 1))]) (jcall_v (A := [(0, (xs 1))]) (S' := []) (r := 42) rfl (hF.1.lt (by decide)) (hF.1.sh (by decide) rfl).1 (Nat.le_of_ble_eq_true rfl)) (by decide) ml261 pp261 (Nat.le_of_ble_eq_true rfl) rfl (by decide) (by decide) ?_
      refine ev_iload_n rfl ?_
      refine ev_iconst ?_
      refine ev_aload_n rfl ?_
      refine ev_getf (r := 42) (v := 0) (hF.1.lt (by decide)) (hF.1.fam (by decide) (by decide)) ft12_9 ((hF.v rfl)) ?_
      refine ev_iconst ?_
      refine ev_isub (r := (-1)) (by decide) ?_
      refine ev_in (d := 3) (a := 0) (b := 0) (cd' := c242_0) (m := 3) (L0 := [(0, (xs 1)), (0, 0), (0, (-1))]) (jcall_s (A := [(0, (-1)), (0, 0), (0, (xs 1))]) (S' := []) (by decide) rfl (Nat.le_of_ble_eq_true rfl)) (by decide) ml242 pp242 (Nat.le_of_ble_eq_true rfl) rfl (by decide) (by decide) ?_
      refine ev_iload_n rfl ?_
      refine ev_iload_n rfl ?_
      refine ev_icmplt f242_14 (fun c10 => ?_) (fun c10 => absurd c10 (by omega))
      refine ev_iconst ?_
      refine ev_ret rfl (by decide) (by decide) ?_
      show jEv _ _ _ _ _ _ _ (_, [(2, 42), (0, (xs 1))], [(0, 0)], _, _, _)
      refine ev_ret rfl (by decide) (by decide) ?_
      show jEv _ _ _ _ _ _ _ (_, [(2, 42), (0, (xs 1)), (0, (xs 2))], [(0, 0)], _, _, _)
      refine ev_ifeq f262_28 (fun c11 => ?_) (fun c11 => absurd c11 (by omega))
      refine ev_iconst ?_
      refine ev_ret rfl (by decide) (by decide) ?_
      show jEv _ _ _ _ _ _ _ (_, [(2, 42), (0, (xs 1)), (0, (xs 2)), (0, (xs 3))], [(0, 0)], _, _, _)
      refine ev_ifeq f278_32 (fun c12 => ?_) (fun c12 => absurd c12 (by omega))
      refine ev_iconst ?_
      refine ev_goto f278_71 ?_
      refine ev_ret rfl (by decide) (by decide) ?_
      show jEv _ _ _ _ _ _ _ (_, [(2, 42), (0, (xs 1)), (0, (xs 2)), (0, (xs 3)), (0, (xs 4)), (9, 0), (9, 0), (9, 0)], [(0, 0)], _, _, _)
      refine ev_ifeq f281_42 (fun c13 => ?_) (fun c13 => absurd c13 (by omega))
      refine ev_ldc_w ?_
      refine ev_ret rfl (by decide) (by decide) ?_
      show jEv _ _ _ _ _ _ _ (_, [(2, (-2)), (2, 0), (2, 42), (0, 0)], [(0, (-2000000000)), (0, (-2000000000))], _, _, _)
      refine ev_icmpeq f384_2190 (fun c14 => ?_) (fun c14 => absurd c14 (by omega))
      exact law_tail _
  · refine ev_iload_n rfl ?_
    refine ev_aload_n rfl ?_
    refine ev_getf (r := 0) (v := 0) (hF.1.lt (by decide)) (hF.1.fam (by decide) (by decide)) ft11_3 ((hF.v rfl)) ?_
    refine ev_icmplt f219_16 (fun c15 => absurd c15 (by omega)) (fun c15 => ?_)
    refine ev_aconst_null ?_
    refine ev_goto f219_22 ?_
    refine ev_ret rfl (by decide) (by decide) ?_
    show jEv _ _ _ _ _ _ _ (_, [(2, 0), (0, (xs 1)), (0, (xs 2)), (0, (xs 3)), (0, (xs 4)), (9, 0), (9, 0)], [(2, (-1))], _, _, _)
    refine ev_astore (L' := [(2, 0), (0, (xs 1)), (0, (xs 2)), (0, (xs 3)), (0, (xs 4)), (2, (-1)), (9, 0)]) (Nat.le_of_ble_eq_true rfl) rfl ?_
    refine ev_aload rfl ?_
    refine ev_ifnull f175_33 (fun c16 => ?_) (fun c16 => absurd c16 (by decide))
    refine ev_ldc ?_
    refine ev_ret rfl (by decide) (by decide) ?_
    show jEv _ _ _ _ _ _ _ (_, [(2, (-2)), (2, 0), (2, 42), (0, 0)], [(0, (-2000000000))], _, _, _)
    refine ev_aload_n rfl ?_
    refine ev_aload_n rfl ?_
    refine ev_iload_n rfl ?_
    refine ev_iconst ?_
    refine ev_iadd (r := 1) (by decide) ?_
    refine ev_sald (j := 1) (v := (xs 1)) rfl rfl rfl ?_
    refine ev_aload_n rfl ?_
    refine ev_iload_n rfl ?_
    refine ev_iconst ?_
    refine ev_iadd (r := 2) (by decide) ?_
    refine ev_sald (j := 2) (v := (xs 2)) rfl rfl rfl ?_
    refine ev_aload_n rfl ?_
    refine ev_iload_n rfl ?_
    refine ev_iconst ?_
    refine ev_iadd (r := 3) (by decide) ?_
    refine ev_sald (j := 3) (v := (xs 3)) rfl rfl rfl ?_
    refine ev_aload_n rfl ?_
    refine ev_iload_n rfl ?_
    refine ev_iconst ?_
    refine ev_iadd (r := 4) (by decide) ?_
    refine ev_sald (j := 4) (v := (xs 4)) rfl rfl rfl ?_
    refine ev_in (d := 7) (a := 0) (b := 0) (cd' := c281_0) (m := 8) (L0 := [(2, 42), (0, (xs 1)), (0, (xs 2)), (0, (xs 3)), (0, (xs 4)), (9, 0), (9, 0), (9, 0)]) (jcall_v (A := [(0, (xs 4)), (0, (xs 3)), (0, (xs 2)), (0, (xs 1))]) (S' := [(0, (-2000000000))]) (r := 42) rfl (hF.1.lt (by decide)) (hF.1.sh (by decide) rfl).1 (Nat.le_of_ble_eq_true rfl)) (by decide) ml281 pp281 (Nat.le_of_ble_eq_true rfl) rfl (by decide) (by decide) ?_
    refine ev_aload_n rfl ?_
    refine ev_iload_n rfl ?_
    refine ev_iload_n rfl ?_
    refine ev_iload_n rfl ?_
    refine ev_in (d := 6) (a := 0) (b := 0) (cd' := c278_0) (m := 4) (L0 := [(2, 42), (0, (xs 1)), (0, (xs 2)), (0, (xs 3))]) (jcall_v (A := [(0, (xs 3)), (0, (xs 2)), (0, (xs 1))]) (S' := []) (r := 42) rfl (hF.1.lt (by decide)) (hF.1.sh (by decide) rfl).1 (Nat.le_of_ble_eq_true rfl)) (by decide) ml278 pp278 (Nat.le_of_ble_eq_true rfl) rfl (by decide) (by decide) ?_
    refine ev_iload_n rfl ?_
    refine ev_iconst ?_
    refine ev_icmpne f278_36 (fun c17 => ?_) (fun c17 => ?_)
    · refine ev_aload_n rfl ?_
      refine ev_iload_n rfl ?_
      refine ev_iload_n rfl ?_
      refine ev_in (d := 5) (a := 0) (b := 0) (cd' := c277_0) (m := 3) (L0 := [(2, 42), (0, (xs 1)), (0, (xs 2))]) (jcall_v (A := [(0, (xs 2)), (0, (xs 1))]) (S' := []) (r := 42) rfl (hF.1.lt (by decide)) (hF.1.sh (by decide) rfl).1 (Nat.le_of_ble_eq_true rfl)) (by decide) ml277 pp277 (Nat.le_of_ble_eq_true rfl) rfl (by decide) (by decide) ?_
      refine ev_aload_n rfl ?_
      refine ev_iload_n rfl ?_
      refine ev_iload_n rfl ?_
      refine ev_in (d := 4) (a := 0) (b := 0) (cd' := c262_0) (m := 3) (L0 := [(2, 42), (0, (xs 1)), (0, (xs 2))]) (jcall_v (A := [(0, (xs 2)), (0, (xs 1))]) (S' := []) (r := 42) rfl (hF.1.lt (by decide)) (hF.1.sh (by decide) rfl).1 (Nat.le_of_ble_eq_true rfl)) (by decide) ml262 pp262 (Nat.le_of_ble_eq_true rfl) rfl (by decide) (by decide) ?_
      refine ev_aload_n rfl ?_
      refine ev_iload_n rfl ?_
      refine ev_in (d := 3) (a := 0) (b := 0) (cd' := c261_0) (m := 2) (L0 := [(2, 42), (0, (xs 1))]) (jcall_v (A := [(0, (xs 1))]) (S' := []) (r := 42) rfl (hF.1.lt (by decide)) (hF.1.sh (by decide) rfl).1 (Nat.le_of_ble_eq_true rfl)) (by decide) ml261 pp261 (Nat.le_of_ble_eq_true rfl) rfl (by decide) (by decide) ?_
      refine ev_iload_n rfl ?_
      refine ev_iconst ?_
      refine ev_aload_n rfl ?_
      refine ev_getf (r := 42) (v := 0) (hF.1.lt (by decide)) (hF.1.fam (by decide) (by decide)) ft12_9 ((hF.v rfl)) ?_
      refine ev_iconst ?_
      refine ev_isub (r := (-1)) (by decide) ?_
      refine ev_in (d := 2) (a := 0) (b := 0) (cd' := c242_0) (m := 3) (L0 := [(0, (xs 1)), (0, 0), (0, (-1))]) (jcall_s (A := [(0, (-1)), (0, 0), (0, (xs 1))]) (S' := []) (by decide) rfl (Nat.le_of_ble_eq_true rfl)) (by decide) ml242 pp242 (Nat.le_of_ble_eq_true rfl) rfl (by decide) (by decide) ?_
      refine ev_iload_n rfl ?_
      refine ev_iload_n rfl ?_
      refine ev_icmplt f242_14 (fun c18 => absurd c18 (by omega)) (fun c18 => ?_)
      refine ev_iload_n rfl ?_
      refine ev_iload_n rfl ?_
      refine ev_icmpgt f242_14 (fun c19 => ?_) (fun c19 => absurd c19 (by omega))
      refine ev_iconst ?_
      refine ev_ret rfl (by decide) (by decide) ?_
      show jEv _ _ _ _ _ _ _ (_, [(2, 42), (0, (xs 1))], [(0, 0)], _, _, _)
      refine ev_ret rfl (by decide) (by decide) ?_
      show jEv _ _ _ _ _ _ _ (_, [(2, 42), (0, (xs 1)), (0, (xs 2))], [(0, 0)], _, _, _)
      refine ev_ifeq f262_28 (fun c20 => ?_) (fun c20 => absurd c20 (by omega))
      refine ev_iconst ?_
      refine ev_ret rfl (by decide) (by decide) ?_
      show jEv _ _ _ _ _ _ _ (_, [(2, 42), (0, (xs 1)), (0, (xs 2))], [(0, 0)], _, _, _)
      refine ev_ifeq f277_28 (fun c21 => ?_) (fun c21 => absurd c21 (by omega))
      refine ev_iconst ?_
      refine ev_ret rfl (by decide) (by decide) ?_
      show jEv _ _ _ _ _ _ _ (_, [(2, 42), (0, (xs 1)), (0, (xs 2)), (0, (xs 3))], [(0, 0)], _, _, _)
      refine ev_ifeq f278_70 (fun c22 => ?_) (fun c22 => absurd c22 (by omega))
      refine ev_iconst ?_
      refine ev_ret rfl (by decide) (by decide) ?_
      show jEv _ _ _ _ _ _ _ (_, [(2, 42), (0, (xs 1)), (0, (xs 2)), (0, (xs 3)), (0, (xs 4)), (9, 0), (9, 0), (9, 0)], [(0, 0)], _, _, _)
      refine ev_ifeq f281_42 (fun c23 => ?_) (fun c23 => absurd c23 (by omega))
      refine ev_ldc_w ?_
      refine ev_ret rfl (by decide) (by decide) ?_
      show jEv _ _ _ _ _ _ _ (_, [(2, (-2)), (2, 0), (2, 42), (0, 0)], [(0, (-2000000000)), (0, (-2000000000))], _, _, _)
      refine ev_icmpeq f384_2190 (fun c24 => ?_) (fun c24 => absurd c24 (by omega))
      exact law_tail _
    · refine ev_aload_n rfl ?_
      refine ev_iload_n rfl ?_
      refine ev_iload_n rfl ?_
      refine ev_in (d := 5) (a := 0) (b := 0) (cd' := c262_0) (m := 3) (L0 := [(2, 42), (0, (xs 1)), (0, (xs 2))]) (jcall_v (A := [(0, (xs 2)), (0, (xs 1))]) (S' := []) (r := 42) rfl (hF.1.lt (by decide)) (hF.1.sh (by decide) rfl).1 (Nat.le_of_ble_eq_true rfl)) (by decide) ml262 pp262 (Nat.le_of_ble_eq_true rfl) rfl (by decide) (by decide) ?_
      refine ev_aload_n rfl ?_
      refine ev_iload_n rfl ?_
      refine ev_in (d := 4) (a := 0) (b := 0) (cd' := c261_0) (m := 2) (L0 := [(2, 42), (0, (xs 1))]) (jcall_v (A := [(0, (xs 1))]) (S' := []) (r := 42) rfl (hF.1.lt (by decide)) (hF.1.sh (by decide) rfl).1 (Nat.le_of_ble_eq_true rfl)) (by decide) ml261 pp261 (Nat.le_of_ble_eq_true rfl) rfl (by decide) (by decide) ?_
      refine ev_iload_n rfl ?_
      refine ev_iconst ?_
      refine ev_aload_n rfl ?_
      refine ev_getf (r := 42) (v := 0) (hF.1.lt (by decide)) (hF.1.fam (by decide) (by decide)) ft12_9 ((hF.v rfl)) ?_
      refine ev_iconst ?_
      refine ev_isub (r := (-1)) (by decide) ?_
      refine ev_in (d := 3) (a := 0) (b := 0) (cd' := c242_0) (m := 3) (L0 := [(0, (xs 1)), (0, 0), (0, (-1))]) (jcall_s (A := [(0, (-1)), (0, 0), (0, (xs 1))]) (S' := []) (by decide) rfl (Nat.le_of_ble_eq_true rfl)) (by decide) ml242 pp242 (Nat.le_of_ble_eq_true rfl) rfl (by decide) (by decide) ?_
      refine ev_iload_n rfl ?_
      refine ev_iload_n rfl ?_
      refine ev_icmplt f242_14 (fun c25 => absurd c25 (by omega)) (fun c25 => ?_)
      refine ev_iload_n rfl ?_
      refine ev_iload_n rfl ?_
      refine ev_icmpgt f242_14 (fun c26 => ?_) (fun c26 => absurd c26 (by omega))
      refine ev_iconst ?_
      refine ev_ret rfl (by decide) (by decide) ?_
      show jEv _ _ _ _ _ _ _ (_, [(2, 42), (0, (xs 1))], [(0, 0)], _, _, _)
      refine ev_ret rfl (by decide) (by decide) ?_
      show jEv _ _ _ _ _ _ _ (_, [(2, 42), (0, (xs 1)), (0, (xs 2))], [(0, 0)], _, _, _)
      refine ev_ifeq f262_28 (fun c27 => ?_) (fun c27 => absurd c27 (by omega))
      refine ev_iconst ?_
      refine ev_ret rfl (by decide) (by decide) ?_
      show jEv _ _ _ _ _ _ _ (_, [(2, 42), (0, (xs 1)), (0, (xs 2)), (0, (xs 3))], [(0, 0)], _, _, _)
      refine ev_ifeq f278_32 (fun c28 => ?_) (fun c28 => absurd c28 (by omega))
      refine ev_iconst ?_
      refine ev_goto f278_71 ?_
      refine ev_ret rfl (by decide) (by decide) ?_
      show jEv _ _ _ _ _ _ _ (_, [(2, 42), (0, (xs 1)), (0, (xs 2)), (0, (xs 3)), (0, (xs 4)), (9, 0), (9, 0), (9, 0)], [(0, 0)], _, _, _)
      refine ev_ifeq f281_42 (fun c29 => ?_) (fun c29 => absurd c29 (by omega))
      refine ev_ldc_w ?_
      refine ev_ret rfl (by decide) (by decide) ?_
      show jEv _ _ _ _ _ _ _ (_, [(2, (-2)), (2, 0), (2, 42), (0, 0)], [(0, (-2000000000)), (0, (-2000000000))], _, _, _)
      refine ev_icmpeq f384_2190 (fun c30 => ?_) (fun c30 => absurd c30 (by omega))
      exact law_tail _

/-! undo -/
set_option maxHeartbeats 4000000 in
theorem case_10 {xs : Nat → Int} (hr : ∀ j, -2147483648 ≤ xs j ∧ xs j < 2147483648) {h : JH} (hF : Fresh h) : jEv (jOk 8) (some 6) xs c384_0 600000 7302250 (fun v _ => v = some (0, 1)) (c384_593, [(2, -2), (2, 0), (2, 42), (0, 0)], [], h, 83, 23761) := by
  have r1 := hr 1
  have r2 := hr 2
  have r3 := hr 3
  have r4 := hr 4
  have r5 := hr 5
  refine ev_aload_n rfl ?_
  refine ev_in (d := 7) (a := 0) (b := 0) (cd' := c176_0) (m := 1) (L0 := [(2, 0)]) (jcall_v (A := []) (S' := []) (r := 0) rfl (hF.1.lt (by decide)) (hF.1.sh (by decide) rfl).1 (Nat.le_of_ble_eq_true rfl)) (by decide) ml176 pp176 (Nat.le_of_ble_eq_true rfl) rfl (by decide) (by decide) ?_
  refine ev_aload_n rfl ?_
  refine ev_getf (r := 0) (v := 0) (hF.1.lt (by decide)) (hF.1.fam (by decide) (by decide)) ft11_9 ((hF.v rfl)) ?_
  refine ev_ifne f176_10 (fun c1 => absurd c1 (by omega)) (fun c1 => ?_)
  refine ev_bipush ?_
  refine ev_ret rfl (by decide) (by decide) ?_
  show jEv _ _ _ _ _ _ _ (_, [(2, (-2)), (2, 0), (2, 42), (0, 0)], [(0, (-5))], _, _, _)
  refine ev_aload_n rfl ?_
  refine ev_in (d := 7) (a := 0) (b := 0) (cd' := c282_0) (m := 1) (L0 := [(2, 42)]) (jcall_v (A := []) (S' := [(0, (-5))]) (r := 42) rfl (hF.1.lt (by decide)) (hF.1.sh (by decide) rfl).1 (Nat.le_of_ble_eq_true rfl)) (by decide) ml282 pp282 (Nat.le_of_ble_eq_true rfl) rfl (by decide) (by decide) ?_
  refine ev_aload_n rfl ?_
  refine ev_getf (r := 42) (v := 0) (hF.1.lt (by decide)) (hF.1.fam (by decide) (by decide)) ft12_22 ((hF.v rfl)) ?_
  refine ev_ifne f282_10 (fun c2 => absurd c2 (by omega)) (fun c2 => ?_)
  refine ev_bipush ?_
  refine ev_ret rfl (by decide) (by decide) ?_
  show jEv _ _ _ _ _ _ _ (_, [(2, (-2)), (2, 0), (2, 42), (0, 0)], [(0, (-5)), (0, (-5))], _, _, _)
  refine ev_icmpeq f384_2190 (fun c3 => ?_) (fun c3 => absurd c3 (by omega))
  exact law_tail _

/-! redo -/
set_option maxHeartbeats 4000000 in
theorem case_11 {xs : Nat → Int} (hr : ∀ j, -2147483648 ≤ xs j ∧ xs j < 2147483648) {h : JH} (hF : Fresh h) : jEv (jOk 8) (some 6) xs c384_0 600000 7302250 (fun v _ => v = some (0, 1)) (c384_606, [(2, -2), (2, 0), (2, 42), (0, 0)], [], h, 83, 23761) := by
  have r1 := hr 1
  have r2 := hr 2
  have r3 := hr 3
  have r4 := hr 4
  have r5 := hr 5
  refine ev_aload_n rfl ?_
  refine ev_in (d := 7) (a := 0) (b := 0) (cd' := c177_0) (m := 1) (L0 := [(2, 0)]) (jcall_v (A := []) (S' := []) (r := 0) rfl (hF.1.lt (by decide)) (hF.1.sh (by decide) rfl).1 (Nat.le_of_ble_eq_true rfl)) (by decide) ml177 pp177 (Nat.le_of_ble_eq_true rfl) rfl (by decide) (by decide) ?_
  refine ev_aload_n rfl ?_
  refine ev_getf (r := 0) (v := 0) (hF.1.lt (by decide)) (hF.1.fam (by decide) (by decide)) ft11_10 ((hF.v rfl)) ?_
  refine ev_ifeq f177_16 (fun c1 => ?_) (fun c1 => absurd c1 (by omega))
  refine ev_bipush ?_
  refine ev_ret rfl (by decide) (by decide) ?_
  show jEv _ _ _ _ _ _ _ (_, [(2, (-2)), (2, 0), (2, 42), (0, 0)], [(0, (-5))], _, _, _)
  refine ev_aload_n rfl ?_
  refine ev_in (d := 7) (a := 0) (b := 0) (cd' := c283_0) (m := 1) (L0 := [(2, 42)]) (jcall_v (A := []) (S' := [(0, (-5))]) (r := 42) rfl (hF.1.lt (by decide)) (hF.1.sh (by decide) rfl).1 (Nat.le_of_ble_eq_true rfl)) (by decide) ml283 pp283 (Nat.le_of_ble_eq_true rfl) rfl (by decide) (by decide) ?_
  refine ev_aload_n rfl ?_
  refine ev_getf (r := 42) (v := 0) (hF.1.lt (by decide)) (hF.1.fam (by decide) (by decide)) ft12_23 ((hF.v rfl)) ?_
  refine ev_ifne f283_10 (fun c2 => absurd c2 (by omega)) (fun c2 => ?_)
  refine ev_bipush ?_
  refine ev_ret rfl (by decide) (by decide) ?_
  show jEv _ _ _ _ _ _ _ (_, [(2, (-2)), (2, 0), (2, 42), (0, 0)], [(0, (-5)), (0, (-5))], _, _, _)
  refine ev_icmpeq f384_2190 (fun c3 => ?_) (fun c3 => absurd c3 (by omega))
  exact law_tail _

/-! step -/
set_option maxHeartbeats 4000000 in
theorem case_13 {xs : Nat → Int} (hr : ∀ j, -2147483648 ≤ xs j ∧ xs j < 2147483648) {h : JH} (hF : Fresh h) : jEv (jOk 8) (some 6) xs c384_0 600000 7302250 (fun v _ => v = some (0, 1)) (c384_652, [(2, -2), (2, 0), (2, 42), (0, 0)], [], h, 83, 23761) := by
  have r1 := hr 1
  have r2 := hr 2
  have r3 := hr 3
  have r4 := hr 4
  have r5 := hr 5
  refine ev_aload_n rfl ?_
  refine ev_aload_n rfl ?_
  refine ev_iload_n rfl ?_
  refine ev_iconst ?_
  refine ev_iadd (r := 1) (by decide) ?_
  refine ev_sald (j := 1) (v := (xs 1)) rfl rfl rfl ?_
  refine ev_aload_n rfl ?_
  refine ev_iload_n rfl ?_
  refine ev_iconst ?_
  refine ev_iadd (r := 2) (by decide) ?_
  refine ev_sald (j := 2) (v := (xs 2)) rfl rfl rfl ?_
  refine ev_in (d := 7) (a := 0) (b := 0) (cd' := c179_0) (m := 3) (L0 := [(2, 0), (0, (xs 1)), (0, (xs 2))]) (jcall_v (A := [(0, (xs 2)), (0, (xs 1))]) (S' := []) (r := 0) rfl (hF.1.lt (by decide)) (hF.1.sh (by decide) rfl).1 (Nat.le_of_ble_eq_true rfl)) (by decide) ml179 pp179 (Nat.le_of_ble_eq_true rfl) rfl (by decide) (by decide) ?_
  refine ev_iload_n rfl ?_
  refine ev_sipush ?_
  refine ev_icmplt f179_24 (fun c1 => ?_) (fun c1 => ?_)
  · refine ev_iconst ?_
    refine ev_ret rfl (by decide) (by decide) ?_
    show jEv _ _ _ _ _ _ _ (_, [(2, (-2)), (2, 0), (2, 42), (0, 0)], [(0, (-1))], _, _, _)
    refine ev_aload_n rfl ?_
    refine ev_aload_n rfl ?_
    refine ev_iload_n rfl ?_
    refine ev_iconst ?_
    refine ev_iadd (r := 1) (by decide) ?_
    refine ev_sald (j := 1) (v := (xs 1)) rfl rfl rfl ?_
    refine ev_aload_n rfl ?_
    refine ev_iload_n rfl ?_
    refine ev_iconst ?_
    refine ev_iadd (r := 2) (by decide) ?_
    refine ev_sald (j := 2) (v := (xs 2)) rfl rfl rfl ?_
    refine ev_in (d := 7) (a := 0) (b := 0) (cd' := c286_0) (m := 3) (L0 := [(2, 42), (0, (xs 1)), (0, (xs 2))]) (jcall_v (A := [(0, (xs 2)), (0, (xs 1))]) (S' := [(0, (-1))]) (r := 42) rfl (hF.1.lt (by decide)) (hF.1.sh (by decide) rfl).1 (Nat.le_of_ble_eq_true rfl)) (by decide) ml286 pp286 (Nat.le_of_ble_eq_true rfl) rfl (by decide) (by decide) ?_
    refine ev_iload_n rfl ?_
    refine ev_sipush ?_
    refine ev_sipush ?_
    refine ev_in (d := 6) (a := 0) (b := 0) (cd' := c242_0) (m := 3) (L0 := [(0, (xs 1)), (0, (-9999)), (0, 9999)]) (jcall_s (A := [(0, 9999), (0, (-9999)), (0, (xs 1))]) (S' := []) (by decide) rfl (Nat.le_of_ble_eq_true rfl)) (by decide) ml242 pp242 (Nat.le_of_ble_eq_true rfl) rfl (by decide) (by decide) ?_
    refine ev_iload_n rfl ?_
    refine ev_iload_n rfl ?_
    refine ev_icmplt f242_14 (fun c2 => ?_) (fun c2 => absurd c2 (by omega))
    refine ev_iconst ?_
    refine ev_ret rfl (by decide) (by decide) ?_
    show jEv _ _ _ _ _ _ _ (_, [(2, 42), (0, (xs 1)), (0, (xs 2))], [(0, 0)], _, _, _)
    refine ev_ifeq f286_23 (fun c3 => ?_) (fun c3 => absurd c3 (by omega))
    refine ev_iconst ?_
    refine ev_ret rfl (by decide) (by decide) ?_
    show jEv _ _ _ _ _ _ _ (_, [(2, (-2)), (2, 0), (2, 42), (0, 0)], [(0, (-1)), (0, (-1))], _, _, _)
    refine ev_icmpeq f384_2190 (fun c4 => ?_) (fun c4 => absurd c4 (by omega))
    exact law_tail _
  · refine ev_iload_n rfl ?_
    refine ev_sipush ?_
    refine ev_icmpgt f179_24 (fun c5 => ?_) (fun c5 => ?_)
    · refine ev_iconst ?_
      refine ev_ret rfl (by decide) (by decide) ?_
      show jEv _ _ _ _ _ _ _ (_, [(2, (-2)), (2, 0), (2, 42), (0, 0)], [(0, (-1))], _, _, _)
      refine ev_aload_n rfl ?_
      refine ev_aload_n rfl ?_
      refine ev_iload_n rfl ?_
      refine ev_iconst ?_
      refine ev_iadd (r := 1) (by decide) ?_
      refine ev_sald (j := 1) (v := (xs 1)) rfl rfl rfl ?_
      refine ev_aload_n rfl ?_
      refine ev_iload_n rfl ?_
      refine ev_iconst ?_
      refine ev_iadd (r := 2) (by decide) ?_
      refine ev_sald (j := 2) (v := (xs 2)) rfl rfl rfl ?_
      refine ev_in (d := 7) (a := 0) (b := 0) (cd' := c286_0) (m := 3) (L0 := [(2, 42), (0, (xs 1)), (0, (xs 2))]) (jcall_v (A := [(0, (xs 2)), (0, (xs 1))]) (S' := [(0, (-1))]) (r := 42) rfl (hF.1.lt (by decide)) (hF.1.sh (by decide) rfl).1 (Nat.le_of_ble_eq_true rfl)) (by decide) ml286 pp286 (Nat.le_of_ble_eq_true rfl) rfl (by decide) (by decide) ?_
      refine ev_iload_n rfl ?_
      refine ev_sipush ?_
      refine ev_sipush ?_
      refine ev_in (d := 6) (a := 0) (b := 0) (cd' := c242_0) (m := 3) (L0 := [(0, (xs 1)), (0, (-9999)), (0, 9999)]) (jcall_s (A := [(0, 9999), (0, (-9999)), (0, (xs 1))]) (S' := []) (by decide) rfl (Nat.le_of_ble_eq_true rfl)) (by decide) ml242 pp242 (Nat.le_of_ble_eq_true rfl) rfl (by decide) (by decide) ?_
      refine ev_iload_n rfl ?_
      refine ev_iload_n rfl ?_
      refine ev_icmplt f242_14 (fun c6 => absurd c6 (by omega)) (fun c6 => ?_)
      refine ev_iload_n rfl ?_
      refine ev_iload_n rfl ?_
      refine ev_icmpgt f242_14 (fun c7 => ?_) (fun c7 => absurd c7 (by omega))
      refine ev_iconst ?_
      refine ev_ret rfl (by decide) (by decide) ?_
      show jEv _ _ _ _ _ _ _ (_, [(2, 42), (0, (xs 1)), (0, (xs 2))], [(0, 0)], _, _, _)
      refine ev_ifeq f286_23 (fun c8 => ?_) (fun c8 => absurd c8 (by omega))
      refine ev_iconst ?_
      refine ev_ret rfl (by decide) (by decide) ?_
      show jEv _ _ _ _ _ _ _ (_, [(2, (-2)), (2, 0), (2, 42), (0, 0)], [(0, (-1)), (0, (-1))], _, _, _)
      refine ev_icmpeq f384_2190 (fun c9 => ?_) (fun c9 => absurd c9 (by omega))
      exact law_tail _
    · refine ev_iload_n rfl ?_
      refine ev_iflt f179_24 (fun c10 => ?_) (fun c10 => ?_)
      · refine ev_iconst ?_
        refine ev_ret rfl (by decide) (by decide) ?_
        show jEv _ _ _ _ _ _ _ (_, [(2, (-2)), (2, 0), (2, 42), (0, 0)], [(0, (-1))], _, _, _)
        refine ev_aload_n rfl ?_
        refine ev_aload_n rfl ?_
        refine ev_iload_n rfl ?_
        refine ev_iconst ?_
        refine ev_iadd (r := 1) (by decide) ?_
        refine ev_sald (j := 1) (v := (xs 1)) rfl rfl rfl ?_
        refine ev_aload_n rfl ?_
        refine ev_iload_n rfl ?_
        refine ev_iconst ?_
        refine ev_iadd (r := 2) (by decide) ?_
        refine ev_sald (j := 2) (v := (xs 2)) rfl rfl rfl ?_
        refine ev_in (d := 7) (a := 0) (b := 0) (cd' := c286_0) (m := 3) (L0 := [(2, 42), (0, (xs 1)), (0, (xs 2))]) (jcall_v (A := [(0, (xs 2)), (0, (xs 1))]) (S' := [(0, (-1))]) (r := 42) rfl (hF.1.lt (by decide)) (hF.1.sh (by decide) rfl).1 (Nat.le_of_ble_eq_true rfl)) (by decide) ml286 pp286 (Nat.le_of_ble_eq_true rfl) rfl (by decide) (by decide) ?_
        refine ev_iload_n rfl ?_
        refine ev_sipush ?_
        refine ev_sipush ?_
        refine ev_in (d := 6) (a := 0) (b := 0) (cd' := c242_0) (m := 3) (L0 := [(0, (xs 1)), (0, (-9999)), (0, 9999)]) (jcall_s (A := [(0, 9999), (0, (-9999)), (0, (xs 1))]) (S' := []) (by decide) rfl (Nat.le_of_ble_eq_true rfl)) (by decide) ml242 pp242 (Nat.le_of_ble_eq_true rfl) rfl (by decide) (by decide) ?_
        refine ev_iload_n rfl ?_
        refine ev_iload_n rfl ?_
        refine ev_icmplt f242_14 (fun c11 => absurd c11 (by omega)) (fun c11 => ?_)
        refine ev_iload_n rfl ?_
        refine ev_iload_n rfl ?_
        refine ev_icmpgt f242_14 (fun c12 => absurd c12 (by omega)) (fun c12 => ?_)
        refine ev_iconst ?_
        refine ev_goto f242_15 ?_
        refine ev_ret rfl (by decide) (by decide) ?_
        show jEv _ _ _ _ _ _ _ (_, [(2, 42), (0, (xs 1)), (0, (xs 2))], [(0, 1)], _, _, _)
        refine ev_ifeq f286_23 (fun c13 => absurd c13 (by omega)) (fun c13 => ?_)
        refine ev_iload_n rfl ?_
        refine ev_iconst ?_
        refine ev_bipush ?_
        refine ev_in (d := 6) (a := 0) (b := 0) (cd' := c242_0) (m := 3) (L0 := [(0, (xs 2)), (0, 0), (0, 9)]) (jcall_s (A := [(0, 9), (0, 0), (0, (xs 2))]) (S' := []) (by decide) rfl (Nat.le_of_ble_eq_true rfl)) (by decide) ml242 pp242 (Nat.le_of_ble_eq_true rfl) rfl (by decide) (by decide) ?_
        refine ev_iload_n rfl ?_
        refine ev_iload_n rfl ?_
        refine ev_icmplt f242_14 (fun c14 => ?_) (fun c14 => absurd c14 (by omega))
        refine ev_iconst ?_
        refine ev_ret rfl (by decide) (by decide) ?_
        show jEv _ _ _ _ _ _ _ (_, [(2, 42), (0, (xs 1)), (0, (xs 2))], [(0, 0)], _, _, _)
        refine ev_ifne f286_25 (fun c15 => absurd c15 (by omega)) (fun c15 => ?_)
        refine ev_iconst ?_
        refine ev_ret rfl (by decide) (by decide) ?_
        show jEv _ _ _ _ _ _ _ (_, [(2, (-2)), (2, 0), (2, 42), (0, 0)], [(0, (-1)), (0, (-1))], _, _, _)
        refine ev_icmpeq f384_2190 (fun c16 => ?_) (fun c16 => absurd c16 (by omega))
        exact law_tail _
      · refine ev_iload_n rfl ?_
        refine ev_bipush ?_
        refine ev_icmple f179_26 (fun c17 => ?_) (fun c17 => ?_)
        · refine ev_aload_n rfl ?_
          refine ev_getf (r := 0) (v := 19) (hF.1.lt (by decide)) (hF.1.fam (by decide) (by decide)) ft11_4 ((hF.v rfl)) ?_
          refine ev_in (d := 6) (a := 0) (b := 0) (cd' := c89_0) (m := 1) (L0 := [(2, 19)]) (jcall_v (A := []) (S' := []) (r := 19) rfl (hF.1.lt (by decide)) (hF.1.sh (by decide) rfl).1 (Nat.le_of_ble_eq_true rfl)) (by decide) ml89 pp89 (Nat.le_of_ble_eq_true rfl) rfl (by decide) (by decide) ?_
          refine ev_aload_n rfl ?_
          refine ev_getf (r := 19) (v := 0) (hF.1.lt (by decide)) (hF.1.fam (by decide) (by decide)) ft7_3 ((hF.v rfl)) ?_
          refine ev_bipush ?_
          refine ev_icmpge f89_13 (fun c18 => absurd c18 (by omega)) (fun c18 => ?_)
          refine ev_iconst ?_
          refine ev_goto f89_14 ?_
          refine ev_ret rfl (by decide) (by decide) ?_
          show jEv _ _ _ _ _ _ _ (_, [(2, 0), (0, (xs 1)), (0, (xs 2))], [(0, 1)], _, _, _)
          refine ev_ifeq f179_51 (fun c19 => absurd c19 (by omega)) (fun c19 => ?_)
          refine ev_aload_n rfl ?_
          refine ev_getf (r := 0) (v := 19) (hF.1.lt (by decide)) (hF.1.fam (by decide) (by decide)) ft11_4 ((hF.v rfl)) ?_
          refine ev_iload_n rfl ?_
          refine ev_bipush ?_
          refine ev_iload_n rfl ?_
          refine ev_imul (r := (10 * (xs 2))) (by unfold w32; omega) ?_
          refine ev_in (d := 6) (a := 0) (b := 0) (cd' := c90_0) (m := 5) (L0 := [(2, 19), (0, (xs 1)), (0, (10 * (xs 2))), (9, 0), (9, 0)]) (jcall_v (A := [(0, (10 * (xs 2))), (0, (xs 1))]) (S' := []) (r := 19) rfl (hF.1.lt (by decide)) (hF.1.sh (by decide) rfl).1 (Nat.le_of_ble_eq_true rfl)) (by decide) ml90 pp90 (Nat.le_of_ble_eq_true rfl) rfl (by decide) (by decide) ?_
          refine ev_iconst ?_
          refine ev_istore_n (L' := [(2, 19), (0, (xs 1)), (0, (10 * (xs 2))), (0, 0), (9, 0)]) (Nat.le_of_ble_eq_true rfl) rfl ?_
          refine ev_iload_n rfl ?_
          refine ev_aload_n rfl ?_
          refine ev_getf (r := 19) (v := 0) (hF.1.lt (by decide)) (hF.1.fam (by decide) (by decide)) ft7_4 ((hF.v rfl)) ?_
          refine ev_icmpge f90_26 (fun c20 => ?_) (fun c20 => absurd c20 (by omega))
          refine ev_iload_n rfl ?_
          refine ev_aload_n rfl ?_
          refine ev_getf (r := 19) (v := 0) (hF.1.lt (by decide)) (hF.1.fam (by decide) (by decide)) ft7_4 ((hF.v rfl)) ?_
          refine ev_icmpeq f90_44 (fun c21 => ?_) (fun c21 => absurd c21 (by omega))
          refine ev_aload_n rfl ?_
          refine ev_getf (r := 19) (v := 0) (hF.1.lt (by decide)) (hF.1.fam (by decide) (by decide)) ft7_4 ((hF.v rfl)) ?_
          refine ev_istore (L' := [(2, 19), (0, (xs 1)), (0, (10 * (xs 2))), (0, 0), (0, 0)]) (Nat.le_of_ble_eq_true rfl) rfl ?_
          refine ev_iload rfl ?_
          refine ev_iload_n rfl ?_
          refine ev_icmple f90_94 (fun c22 => ?_) (fun c22 => absurd c22 (by omega))
          refine ev_aload_n rfl ?_
          refine ev_getf (r := 19) (v := 20) (hF.1.lt (by decide)) (hF.1.fam (by decide) (by decide)) ft7_0 ((hF.v rfl)) ?_
          refine ev_iload_n rfl ?_
          refine ev_iload_n rfl ?_
          refine ev_iastG (r := 20) (j := 0) (hF.1.lt (by decide)) (hF.1.sh (by decide) rfl).1 rfl (hF.1.inb (by decide) (by decide)) (fun h74 e74 => ?_)
          have hS74 := hF.1.wr e74
          refine ev_aload_n rfl ?_
          refine ev_dup (by decide) ?_
          refine ev_getf (r := 19) (v := 0) (hS74.lt (by decide)) (hS74.fam (by decide) (by decide)) ft7_4 ((jw_ne e74 (Or.inl (by decide))).trans ((hF.v rfl))) ?_
          refine ev_iconst ?_
          refine ev_iadd (r := 1) (by decide) ?_
          refine ev_putfG (r := 19) (hS74.lt (by decide)) (hS74.fam (by decide) (by decide)) ft7_4 (fun e => absurd e nz7_4) (fun e => absurd e (by decide)) (fun h75 e75 => ?_)
          have hS75 := hS74.wr e75
          refine ev_aload_n rfl ?_
          refine ev_getf (r := 19) (v := 21) (hS75.lt (by decide)) (hS75.fam (by decide) (by decide)) ft7_1 ((jw_ne e75 (Or.inr (by decide))).trans ((jw_ne e74 (Or.inl (by decide))).trans ((hF.v rfl)))) ?_
          refine ev_iload_n rfl ?_
          refine ev_iload_n rfl ?_
          refine ev_iastG (r := 21) (j := 0) (hS75.lt (by decide)) (hS75.sh (by decide) rfl).1 rfl (hS75.inb (by decide) (by decide)) (fun h76 e76 => ?_)
          have hS76 := hS75.wr e76
          refine ev_aload_n rfl ?_
          refine ev_dup (by decide) ?_
          refine ev_getf (r := 19) (v := 0) (hS76.lt (by decide)) (hS76.fam (by decide) (by decide)) ft7_3 ((jw_ne e76 (Or.inl (by decide))).trans ((jw_ne e75 (Or.inr (by decide))).trans ((jw_ne e74 (Or.inl (by decide))).trans ((hF.v rfl))))) ?_
          refine ev_iconst ?_
          refine ev_iadd (r := 1) (by decide) ?_
          refine ev_putfG (r := 19) (hS76.lt (by decide)) (hS76.fam (by decide) (by decide)) ft7_3 (fun e => absurd e nz7_3) (fun e => absurd e (by decide)) (fun h77 e77 => ?_)
          have hS77 := hS76.wr e77
          refine ev_aload_n rfl ?_
          refine ev_getf (r := 19) (v := 1) (hS77.lt (by decide)) (hS77.fam (by decide) (by decide)) ft7_3 (jw_eq e77) ?_
          refine ev_ret rfl (by decide) (by decide) ?_
          show jEv _ _ _ _ _ _ _ (_, [(2, 0), (0, (xs 1)), (0, (xs 2))], [(0, 1)], _, _, _)
          refine ev_goto f179_53 ?_
          refine ev_ret rfl (by decide) (by decide) ?_
          show jEv _ _ _ _ _ _ _ (_, [(2, (-2)), (2, 0), (2, 42), (0, 0)], [(0, 1)], _, _, _)
          refine ev_aload_n rfl ?_
          refine ev_aload_n rfl ?_
          refine ev_iload_n rfl ?_
          refine ev_iconst ?_
          refine ev_iadd (r := 1) (by decide) ?_
          refine ev_sald (j := 1) (v := (xs 1)) rfl rfl rfl ?_
          refine ev_aload_n rfl ?_
          refine ev_iload_n rfl ?_
          refine ev_iconst ?_
          refine ev_iadd (r := 2) (by decide) ?_
          refine ev_sald (j := 2) (v := (xs 2)) rfl rfl rfl ?_
          refine ev_in (d := 7) (a := 0) (b := 0) (cd' := c286_0) (m := 3) (L0 := [(2, 42), (0, (xs 1)), (0, (xs 2))]) (jcall_v (A := [(0, (xs 2)), (0, (xs 1))]) (S' := [(0, 1)]) (r := 42) rfl (hS77.lt (by decide)) (hS77.sh (by decide) rfl).1 (Nat.le_of_ble_eq_true rfl)) (by decide) ml286 pp286 (Nat.le_of_ble_eq_true rfl) rfl (by decide) (by decide) ?_
          refine ev_iload_n rfl ?_
          refine ev_sipush ?_
          refine ev_sipush ?_
          refine ev_in (d := 6) (a := 0) (b := 0) (cd' := c242_0) (m := 3) (L0 := [(0, (xs 1)), (0, (-9999)), (0, 9999)]) (jcall_s (A := [(0, 9999), (0, (-9999)), (0, (xs 1))]) (S' := []) (by decide) rfl (Nat.le_of_ble_eq_true rfl)) (by decide) ml242 pp242 (Nat.le_of_ble_eq_true rfl) rfl (by decide) (by decide) ?_
          refine ev_iload_n rfl ?_
          refine ev_iload_n rfl ?_
          refine ev_icmplt f242_14 (fun c23 => absurd c23 (by omega)) (fun c23 => ?_)
          refine ev_iload_n rfl ?_
          refine ev_iload_n rfl ?_
          refine ev_icmpgt f242_14 (fun c24 => absurd c24 (by omega)) (fun c24 => ?_)
          refine ev_iconst ?_
          refine ev_goto f242_15 ?_
          refine ev_ret rfl (by decide) (by decide) ?_
          show jEv _ _ _ _ _ _ _ (_, [(2, 42), (0, (xs 1)), (0, (xs 2))], [(0, 1)], _, _, _)
          refine ev_ifeq f286_23 (fun c25 => absurd c25 (by omega)) (fun c25 => ?_)
          refine ev_iload_n rfl ?_
          refine ev_iconst ?_
          refine ev_bipush ?_
          refine ev_in (d := 6) (a := 0) (b := 0) (cd' := c242_0) (m := 3) (L0 := [(0, (xs 2)), (0, 0), (0, 9)]) (jcall_s (A := [(0, 9), (0, 0), (0, (xs 2))]) (S' := []) (by decide) rfl (Nat.le_of_ble_eq_true rfl)) (by decide) ml242 pp242 (Nat.le_of_ble_eq_true rfl) rfl (by decide) (by decide) ?_
          refine ev_iload_n rfl ?_
          refine ev_iload_n rfl ?_
          refine ev_icmplt f242_14 (fun c26 => absurd c26 (by omega)) (fun c26 => ?_)
          refine ev_iload_n rfl ?_
          refine ev_iload_n rfl ?_
          refine ev_icmpgt f242_14 (fun c27 => absurd c27 (by omega)) (fun c27 => ?_)
          refine ev_iconst ?_
          refine ev_goto f242_15 ?_
          refine ev_ret rfl (by decide) (by decide) ?_
          show jEv _ _ _ _ _ _ _ (_, [(2, 42), (0, (xs 1)), (0, (xs 2))], [(0, 1)], _, _, _)
          refine ev_ifne f286_25 (fun c28 => ?_) (fun c28 => absurd c28 (by omega))
          refine ev_aload_n rfl ?_
          refine ev_getf (r := 42) (v := 0) (hS77.lt (by decide)) (hS77.fam (by decide) (by decide)) ft12_31 ((jw_ne e77 (Or.inl (by decide))).trans ((jw_ne e76 (Or.inl (by decide))).trans ((jw_ne e75 (Or.inl (by decide))).trans ((jw_ne e74 (Or.inl (by decide))).trans ((hF.v rfl)))))) ?_
          refine ev_bipush ?_
          refine ev_icmpne f286_37 (fun c29 => ?_) (fun c29 => absurd c29 (by omega))
          refine ev_aload_n rfl ?_
          refine ev_getf (r := 42) (v := 62) (hS77.lt (by decide)) (hS77.fam (by decide) (by decide)) ft12_32 ((jw_ne e77 (Or.inl (by decide))).trans ((jw_ne e76 (Or.inl (by decide))).trans ((jw_ne e75 (Or.inl (by decide))).trans ((jw_ne e74 (Or.inl (by decide))).trans ((hF.v rfl)))))) ?_
          refine ev_aload_n rfl ?_
          refine ev_getf (r := 42) (v := 0) (hS77.lt (by decide)) (hS77.fam (by decide) (by decide)) ft12_31 ((jw_ne e77 (Or.inl (by decide))).trans ((jw_ne e76 (Or.inl (by decide))).trans ((jw_ne e75 (Or.inl (by decide))).trans ((jw_ne e74 (Or.inl (by decide))).trans ((hF.v rfl)))))) ?_
          refine ev_iload_n rfl ?_
          refine ev_iastG (r := 62) (j := 0) (hS77.lt (by decide)) (hS77.sh (by decide) rfl).1 rfl (hS77.inb (by decide) (by decide)) (fun h78 e78 => ?_)
          have hS78 := hS77.wr e78
          refine ev_aload_n rfl ?_
          refine ev_getf (r := 42) (v := 63) (hS78.lt (by decide)) (hS78.fam (by decide) (by decide)) ft12_33 ((jw_ne e78 (Or.inl (by decide))).trans ((jw_ne e77 (Or.inl (by decide))).trans ((jw_ne e76 (Or.inl (by decide))).trans ((jw_ne e75 (Or.inl (by decide))).trans ((jw_ne e74 (Or.inl (by decide))).trans ((hF.v rfl))))))) ?_
          refine ev_aload_n rfl ?_
          refine ev_getf (r := 42) (v := 0) (hS78.lt (by decide)) (hS78.fam (by decide) (by decide)) ft12_31 ((jw_ne e78 (Or.inl (by decide))).trans ((jw_ne e77 (Or.inl (by decide))).trans ((jw_ne e76 (Or.inl (by decide))).trans ((jw_ne e75 (Or.inl (by decide))).trans ((jw_ne e74 (Or.inl (by decide))).trans ((hF.v rfl))))))) ?_
          refine ev_iload_n rfl ?_
          refine ev_iastG (r := 63) (j := 0) (hS78.lt (by decide)) (hS78.sh (by decide) rfl).1 rfl (hS78.inb (by decide) (by decide)) (fun h79 e79 => ?_)
          have hS79 := hS78.wr e79
          refine ev_aload_n rfl ?_
          refine ev_dup (by decide) ?_
          refine ev_getf (r := 42) (v := 0) (hS79.lt (by decide)) (hS79.fam (by decide) (by decide)) ft12_31 ((jw_ne e79 (Or.inl (by decide))).trans ((jw_ne e78 (Or.inl (by decide))).trans ((jw_ne e77 (Or.inl (by decide))).trans ((jw_ne e76 (Or.inl (by decide))).trans ((jw_ne e75 (Or.inl (by decide))).trans ((jw_ne e74 (Or.inl (by decide))).trans ((hF.v rfl)))))))) ?_
          refine ev_iconst ?_
          refine ev_iadd (r := 1) (by decide) ?_
          refine ev_putfG (r := 42) (hS79.lt (by decide)) (hS79.fam (by decide) (by decide)) ft12_31 (fun e => absurd e nz12_31) (fun e => absurd e (by decide)) (fun h80 e80 => ?_)
          have hS80 := hS79.wr e80
          refine ev_aload_n rfl ?_
          refine ev_getf (r := 42) (v := 1) (hS80.lt (by decide)) (hS80.fam (by decide) (by decide)) ft12_31 (jw_eq e80) ?_
          refine ev_ret rfl (by decide) (by decide) ?_
          show jEv _ _ _ _ _ _ _ (_, [(2, (-2)), (2, 0), (2, 42), (0, 0)], [(0, 1), (0, 1)], _, _, _)
          refine ev_icmpeq f384_2190 (fun c30 => ?_) (fun c30 => absurd c30 (by omega))
          exact law_tail _
        · refine ev_iconst ?_
          refine ev_ret rfl (by decide) (by decide) ?_
          show jEv _ _ _ _ _ _ _ (_, [(2, (-2)), (2, 0), (2, 42), (0, 0)], [(0, (-1))], _, _, _)
          refine ev_aload_n rfl ?_
          refine ev_aload_n rfl ?_
          refine ev_iload_n rfl ?_
          refine ev_iconst ?_
          refine ev_iadd (r := 1) (by decide) ?_
          refine ev_sald (j := 1) (v := (xs 1)) rfl rfl rfl ?_
          refine ev_aload_n rfl ?_
          refine ev_iload_n rfl ?_
          refine ev_iconst ?_
          refine ev_iadd (r := 2) (by decide) ?_
          refine ev_sald (j := 2) (v := (xs 2)) rfl rfl rfl ?_
          refine ev_in (d := 7) (a := 0) (b := 0) (cd' := c286_0) (m := 3) (L0 := [(2, 42), (0, (xs 1)), (0, (xs 2))]) (jcall_v (A := [(0, (xs 2)), (0, (xs 1))]) (S' := [(0, (-1))]) (r := 42) rfl (hF.1.lt (by decide)) (hF.1.sh (by decide) rfl).1 (Nat.le_of_ble_eq_true rfl)) (by decide) ml286 pp286 (Nat.le_of_ble_eq_true rfl) rfl (by decide) (by decide) ?_
          refine ev_iload_n rfl ?_
          refine ev_sipush ?_
          refine ev_sipush ?_
          refine ev_in (d := 6) (a := 0) (b := 0) (cd' := c242_0) (m := 3) (L0 := [(0, (xs 1)), (0, (-9999)), (0, 9999)]) (jcall_s (A := [(0, 9999), (0, (-9999)), (0, (xs 1))]) (S' := []) (by decide) rfl (Nat.le_of_ble_eq_true rfl)) (by decide) ml242 pp242 (Nat.le_of_ble_eq_true rfl) rfl (by decide) (by decide) ?_
          refine ev_iload_n rfl ?_
          refine ev_iload_n rfl ?_
          refine ev_icmplt f242_14 (fun c31 => absurd c31 (by omega)) (fun c31 => ?_)
          refine ev_iload_n rfl ?_
          refine ev_iload_n rfl ?_
          refine ev_icmpgt f242_14 (fun c32 => absurd c32 (by omega)) (fun c32 => ?_)
          refine ev_iconst ?_
          refine ev_goto f242_15 ?_
          refine ev_ret rfl (by decide) (by decide) ?_
          show jEv _ _ _ _ _ _ _ (_, [(2, 42), (0, (xs 1)), (0, (xs 2))], [(0, 1)], _, _, _)
          refine ev_ifeq f286_23 (fun c33 => absurd c33 (by omega)) (fun c33 => ?_)
          refine ev_iload_n rfl ?_
          refine ev_iconst ?_
          refine ev_bipush ?_
          refine ev_in (d := 6) (a := 0) (b := 0) (cd' := c242_0) (m := 3) (L0 := [(0, (xs 2)), (0, 0), (0, 9)]) (jcall_s (A := [(0, 9), (0, 0), (0, (xs 2))]) (S' := []) (by decide) rfl (Nat.le_of_ble_eq_true rfl)) (by decide) ml242 pp242 (Nat.le_of_ble_eq_true rfl) rfl (by decide) (by decide) ?_
          refine ev_iload_n rfl ?_
          refine ev_iload_n rfl ?_
          refine ev_icmplt f242_14 (fun c34 => absurd c34 (by omega)) (fun c34 => ?_)
          refine ev_iload_n rfl ?_
          refine ev_iload_n rfl ?_
          refine ev_icmpgt f242_14 (fun c35 => ?_) (fun c35 => absurd c35 (by omega))
          refine ev_iconst ?_
          refine ev_ret rfl (by decide) (by decide) ?_
          show jEv _ _ _ _ _ _ _ (_, [(2, 42), (0, (xs 1)), (0, (xs 2))], [(0, 0)], _, _, _)
          refine ev_ifne f286_25 (fun c36 => absurd c36 (by omega)) (fun c36 => ?_)
          refine ev_iconst ?_
          refine ev_ret rfl (by decide) (by decide) ?_
          show jEv _ _ _ _ _ _ _ (_, [(2, (-2)), (2, 0), (2, 42), (0, 0)], [(0, (-1)), (0, (-1))], _, _, _)
          refine ev_icmpeq f384_2190 (fun c37 => ?_) (fun c37 => absurd c37 (by omega))
          exact law_tail _

/-! counts -/
set_option maxHeartbeats 4000000 in
theorem case_14 {xs : Nat → Int} (hr : ∀ j, -2147483648 ≤ xs j ∧ xs j < 2147483648) {h : JH} (hF : Fresh h) : jEv (jOk 8) (some 6) xs c384_0 600000 7302250 (fun v _ => v = some (0, 1)) (c384_685, [(2, -2), (2, 0), (2, 42), (0, 0)], [], h, 83, 23761) := by
  have r1 := hr 1
  have r2 := hr 2
  have r3 := hr 3
  have r4 := hr 4
  have r5 := hr 5
  refine ev_aload_n rfl ?_
  refine ev_aload_n rfl ?_
  refine ev_iload_n rfl ?_
  refine ev_iconst ?_
  refine ev_iadd (r := 1) (by decide) ?_
  refine ev_sald (j := 1) (v := (xs 1)) rfl rfl rfl ?_
  refine ev_aload_n rfl ?_
  refine ev_iload_n rfl ?_
  refine ev_iconst ?_
  refine ev_iadd (r := 2) (by decide) ?_
  refine ev_sald (j := 2) (v := (xs 2)) rfl rfl rfl ?_
  refine ev_in (d := 7) (a := 0) (b := 0) (cd' := c180_0) (m := 4) (L0 := [(2, 0), (0, (xs 1)), (0, (xs 2)), (9, 0)]) (jcall_v (A := [(0, (xs 2)), (0, (xs 1))]) (S' := []) (r := 0) rfl (hF.1.lt (by decide)) (hF.1.sh (by decide) rfl).1 (Nat.le_of_ble_eq_true rfl)) (by decide) ml180 pp180 (Nat.le_of_ble_eq_true rfl) rfl (by decide) (by decide) ?_
  refine ev_aload_n rfl ?_
  refine ev_iload_n rfl ?_
  refine ev_in (d := 6) (a := 0) (b := 0) (cd' := c220_0) (m := 2) (L0 := [(2, 0), (0, (xs 1))]) (jcall_v (A := [(0, (xs 1))]) (S' := []) (r := 0) rfl (hF.1.lt (by decide)) (hF.1.sh (by decide) rfl).1 (Nat.le_of_ble_eq_true rfl)) (by decide) ml220 pp220 (Nat.le_of_ble_eq_true rfl) rfl (by decide) (by decide) ?_
  refine ev_iload_n rfl ?_
  refine ev_iflt f220_12 (fun c1 => ?_) (fun c1 => ?_)
  · refine ev_aconst_null ?_
    refine ev_goto f220_22 ?_
    refine ev_ret rfl (by decide) (by decide) ?_
    show jEv _ _ _ _ _ _ _ (_, [(2, 0), (0, (xs 1)), (0, (xs 2)), (9, 0)], [(2, (-1))], _, _, _)
    refine ev_astore_n (L' := [(2, 0), (0, (xs 1)), (0, (xs 2)), (2, (-1))]) (Nat.le_of_ble_eq_true rfl) rfl ?_
    refine ev_aload_n rfl ?_
    refine ev_ifnull f180_24 (fun c2 => ?_) (fun c2 => absurd c2 (by decide))
    refine ev_ldc ?_
    refine ev_ret rfl (by decide) (by decide) ?_
    show jEv _ _ _ _ _ _ _ (_, [(2, (-2)), (2, 0), (2, 42), (0, 0)], [(0, (-2000000000))], _, _, _)
    refine ev_aload_n rfl ?_
    refine ev_aload_n rfl ?_
    refine ev_iload_n rfl ?_
    refine ev_iconst ?_
    refine ev_iadd (r := 1) (by decide) ?_
    refine ev_sald (j := 1) (v := (xs 1)) rfl rfl rfl ?_
    refine ev_aload_n rfl ?_
    refine ev_iload_n rfl ?_
    refine ev_iconst ?_
    refine ev_iadd (r := 2) (by decide) ?_
    refine ev_sald (j := 2) (v := (xs 2)) rfl rfl rfl ?_
    refine ev_in (d := 7) (a := 0) (b := 0) (cd' := c290_0) (m := 3) (L0 := [(2, 42), (0, (xs 1)), (0, (xs 2))]) (jcall_v (A := [(0, (xs 2)), (0, (xs 1))]) (S' := [(0, (-2000000000))]) (r := 42) rfl (hF.1.lt (by decide)) (hF.1.sh (by decide) rfl).1 (Nat.le_of_ble_eq_true rfl)) (by decide) ml290 pp290 (Nat.le_of_ble_eq_true rfl) rfl (by decide) (by decide) ?_
    refine ev_aload_n rfl ?_
    refine ev_iload_n rfl ?_
    refine ev_in (d := 6) (a := 0) (b := 0) (cd' := c284_0) (m := 2) (L0 := [(2, 42), (0, (xs 1))]) (jcall_v (A := [(0, (xs 1))]) (S' := []) (r := 42) rfl (hF.1.lt (by decide)) (hF.1.sh (by decide) rfl).1 (Nat.le_of_ble_eq_true rfl)) (by decide) ml284 pp284 (Nat.le_of_ble_eq_true rfl) rfl (by decide) (by decide) ?_
    refine ev_iload_n rfl ?_
    refine ev_iconst ?_
    refine ev_aload_n rfl ?_
    refine ev_getf (r := 42) (v := 0) (hF.1.lt (by decide)) (hF.1.fam (by decide) (by decide)) ft12_28 ((hF.v rfl)) ?_
    refine ev_iconst ?_
    refine ev_isub (r := (-1)) (by decide) ?_
    refine ev_in (d := 5) (a := 0) (b := 0) (cd' := c242_0) (m := 3) (L0 := [(0, (xs 1)), (0, 0), (0, (-1))]) (jcall_s (A := [(0, (-1)), (0, 0), (0, (xs 1))]) (S' := []) (by decide) rfl (Nat.le_of_ble_eq_true rfl)) (by decide) ml242 pp242 (Nat.le_of_ble_eq_true rfl) rfl (by decide) (by decide) ?_
    refine ev_iload_n rfl ?_
    refine ev_iload_n rfl ?_
    refine ev_icmplt f242_14 (fun c3 => ?_) (fun c3 => absurd c3 (by omega))
    refine ev_iconst ?_
    refine ev_ret rfl (by decide) (by decide) ?_
    show jEv _ _ _ _ _ _ _ (_, [(2, 42), (0, (xs 1))], [(0, 0)], _, _, _)
    refine ev_ret rfl (by decide) (by decide) ?_
    show jEv _ _ _ _ _ _ _ (_, [(2, 42), (0, (xs 1)), (0, (xs 2))], [(0, 0)], _, _, _)
    refine ev_ifeq f290_41 (fun c4 => ?_) (fun c4 => absurd c4 (by omega))
    refine ev_ldc_w ?_
    refine ev_ret rfl (by decide) (by decide) ?_
    show jEv _ _ _ _ _ _ _ (_, [(2, (-2)), (2, 0), (2, 42), (0, 0)], [(0, (-2000000000)), (0, (-2000000000))], _, _, _)
    refine ev_icmpeq f384_2190 (fun c5 => ?_) (fun c5 => absurd c5 (by omega))
    exact law_tail _
  · refine ev_iload_n rfl ?_
    refine ev_aload_n rfl ?_
    refine ev_getf (r := 0) (v := 0) (hF.1.lt (by decide)) (hF.1.fam (by decide) (by decide)) ft11_7 ((hF.v rfl)) ?_
    refine ev_icmplt f220_16 (fun c6 => absurd c6 (by omega)) (fun c6 => ?_)
    refine ev_aconst_null ?_
    refine ev_goto f220_22 ?_
    refine ev_ret rfl (by decide) (by decide) ?_
    show jEv _ _ _ _ _ _ _ (_, [(2, 0), (0, (xs 1)), (0, (xs 2)), (9, 0)], [(2, (-1))], _, _, _)
    refine ev_astore_n (L' := [(2, 0), (0, (xs 1)), (0, (xs 2)), (2, (-1))]) (Nat.le_of_ble_eq_true rfl) rfl ?_
    refine ev_aload_n rfl ?_
    refine ev_ifnull f180_24 (fun c7 => ?_) (fun c7 => absurd c7 (by decide))
    refine ev_ldc ?_
    refine ev_ret rfl (by decide) (by decide) ?_
    show jEv _ _ _ _ _ _ _ (_, [(2, (-2)), (2, 0), (2, 42), (0, 0)], [(0, (-2000000000))], _, _, _)
    refine ev_aload_n rfl ?_
    refine ev_aload_n rfl ?_
    refine ev_iload_n rfl ?_
    refine ev_iconst ?_
    refine ev_iadd (r := 1) (by decide) ?_
    refine ev_sald (j := 1) (v := (xs 1)) rfl rfl rfl ?_
    refine ev_aload_n rfl ?_
    refine ev_iload_n rfl ?_
    refine ev_iconst ?_
    refine ev_iadd (r := 2) (by decide) ?_
    refine ev_sald (j := 2) (v := (xs 2)) rfl rfl rfl ?_
    refine ev_in (d := 7) (a := 0) (b := 0) (cd' := c290_0) (m := 3) (L0 := [(2, 42), (0, (xs 1)), (0, (xs 2))]) (jcall_v (A := [(0, (xs 2)), (0, (xs 1))]) (S' := [(0, (-2000000000))]) (r := 42) rfl (hF.1.lt (by decide)) (hF.1.sh (by decide) rfl).1 (Nat.le_of_ble_eq_true rfl)) (by decide) ml290 pp290 (Nat.le_of_ble_eq_true rfl) rfl (by decide) (by decide) ?_
    refine ev_aload_n rfl ?_
    refine ev_iload_n rfl ?_
    refine ev_in (d := 6) (a := 0) (b := 0) (cd' := c284_0) (m := 2) (L0 := [(2, 42), (0, (xs 1))]) (jcall_v (A := [(0, (xs 1))]) (S' := []) (r := 42) rfl (hF.1.lt (by decide)) (hF.1.sh (by decide) rfl).1 (Nat.le_of_ble_eq_true rfl)) (by decide) ml284 pp284 (Nat.le_of_ble_eq_true rfl) rfl (by decide) (by decide) ?_
    refine ev_iload_n rfl ?_
    refine ev_iconst ?_
    refine ev_aload_n rfl ?_
    refine ev_getf (r := 42) (v := 0) (hF.1.lt (by decide)) (hF.1.fam (by decide) (by decide)) ft12_28 ((hF.v rfl)) ?_
    refine ev_iconst ?_
    refine ev_isub (r := (-1)) (by decide) ?_
    refine ev_in (d := 5) (a := 0) (b := 0) (cd' := c242_0) (m := 3) (L0 := [(0, (xs 1)), (0, 0), (0, (-1))]) (jcall_s (A := [(0, (-1)), (0, 0), (0, (xs 1))]) (S' := []) (by decide) rfl (Nat.le_of_ble_eq_true rfl)) (by decide) ml242 pp242 (Nat.le_of_ble_eq_true rfl) rfl (by decide) (by decide) ?_
    refine ev_iload_n rfl ?_
    refine ev_iload_n rfl ?_
    refine ev_icmplt f242_14 (fun c8 => absurd c8 (by omega)) (fun c8 => ?_)
    refine ev_iload_n rfl ?_
    refine ev_iload_n rfl ?_
    refine ev_icmpgt f242_14 (fun c9 => ?_) (fun c9 => absurd c9 (by omega))
    refine ev_iconst ?_
    refine ev_ret rfl (by decide) (by decide) ?_
    show jEv _ _ _ _ _ _ _ (_, [(2, 42), (0, (xs 1))], [(0, 0)], _, _, _)
    refine ev_ret rfl (by decide) (by decide) ?_
    show jEv _ _ _ _ _ _ _ (_, [(2, 42), (0, (xs 1)), (0, (xs 2))], [(0, 0)], _, _, _)
    refine ev_ifeq f290_41 (fun c10 => ?_) (fun c10 => absurd c10 (by omega))
    refine ev_ldc_w ?_
    refine ev_ret rfl (by decide) (by decide) ?_
    show jEv _ _ _ _ _ _ _ (_, [(2, (-2)), (2, 0), (2, 42), (0, 0)], [(0, (-2000000000)), (0, (-2000000000))], _, _, _)
    refine ev_icmpeq f384_2190 (fun c11 => ?_) (fun c11 => absurd c11 (by omega))
    exact law_tail _
