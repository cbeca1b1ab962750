/-! shortOf -/
set_option maxHeartbeats 4000000 in
theorem case_18 {xs : Nat → Int} (hr : ∀ j, -2147483648 ≤ xs j ∧ xs j < 2147483648) {h : JH} (hF : Fresh h) : jEv (jOk 8) (some 6) xs c384_0 600000 7302250 (fun v _ => v = some (0, 1)) (c384_849, [(2, -2), (2, 0), (2, 42), (0, 0)], [], h, 83, 23761) := by
  have r1 := hr 1
  have r2 := hr 2
  have r3 := hr 3
  have r4 := hr 4
  have r5 := hr 5
  refine ev_aload_n rfl ?_
  refine ev_aload_n rfl ?_
  refine ev_iload_n rfl ?_
  refine ev_iconst ?_
  refine ev_iadd (r := 1) (by decide) ?_
  refine ev_sald (j := 1) (v := (xs 1)) rfl rfl rfl ?_
  refine ev_aload_n rfl ?_
  refine ev_iload_n rfl ?_
  refine ev_iconst ?_
  refine ev_iadd (r := 2) (by decide) ?_
  refine ev_sald (j := 2) (v := (xs 2)) rfl rfl rfl ?_
  refine ev_in (d := 7) (a := 0) (b := 0) (cd' := c184_0) (m := 5) (L0 := [(2, 0), (0, (xs 1)), (0, (xs 2)), (9, 0), (9, 0)]) (jcall_v (A := [(0, (xs 2)), (0, (xs 1))]) (S' := []) (r := 0) rfl (hF.1.lt (by decide)) (hF.1.sh (by decide) rfl).1 (Nat.le_of_ble_eq_true rfl)) (by decide) ml184 pp184 (Nat.le_of_ble_eq_true rfl) rfl (by decide) (by decide) ?_
  refine ev_aload_n rfl ?_
  refine ev_iload_n rfl ?_
  refine ev_in (d := 6) (a := 0) (b := 0) (cd' := c219_0) (m := 2) (L0 := [(2, 0), (0, (xs 1))]) (jcall_v (A := [(0, (xs 1))]) (S' := []) (r := 0) rfl (hF.1.lt (by decide)) (hF.1.sh (by decide) rfl).1 (Nat.le_of_ble_eq_true rfl)) (by decide) ml219 pp219 (Nat.le_of_ble_eq_true rfl) rfl (by decide) (by decide) ?_
  refine ev_iload_n rfl ?_
  refine ev_iflt f219_12 (fun c1 => ?_) (fun c1 => ?_)
  · refine ev_aconst_null ?_
    refine ev_goto f219_22 ?_
    refine ev_ret rfl (by decide) (by decide) ?_
    show jEv _ _ _ _ _ _ _ (_, [(2, 0), (0, (xs 1)), (0, (xs 2)), (9, 0), (9, 0)], [(2, (-1))], _, _, _)
    refine ev_astore_n (L' := [(2, 0), (0, (xs 1)), (0, (xs 2)), (2, (-1)), (9, 0)]) (Nat.le_of_ble_eq_true rfl) rfl ?_
    refine ev_aload_n rfl ?_
    refine ev_iload_n rfl ?_
    refine ev_in (d := 6) (a := 0) (b := 0) (cd' := c220_0) (m := 2) (L0 := [(2, 0), (0, (xs 2))]) (jcall_v (A := [(0, (xs 2))]) (S' := []) (r := 0) rfl (hF.1.lt (by decide)) (hF.1.sh (by decide) rfl).1 (Nat.le_of_ble_eq_true rfl)) (by decide) ml220 pp220 (Nat.le_of_ble_eq_true rfl) rfl (by decide) (by decide) ?_
    refine ev_iload_n rfl ?_
    refine ev_iflt f220_12 (fun c2 => ?_) (fun c2 => ?_)
    · refine ev_aconst_null ?_
      refine ev_goto f220_22 ?_
      refine ev_ret rfl (by decide) (by decide) ?_
      show jEv _ _ _ _ _ _ _ (_, [(2, 0), (0, (xs 1)), (0, (xs 2)), (2, (-1)), (9, 0)], [(2, (-1))], _, _, _)
      refine ev_astore (L' := [(2, 0), (0, (xs 1)), (0, (xs 2)), (2, (-1)), (2, (-1))]) (Nat.le_of_ble_eq_true rfl) rfl ?_
      refine ev_aload_n rfl ?_
      refine ev_ifnull f184_22 (fun c3 => ?_) (fun c3 => absurd c3 (by decide))
      refine ev_iconst ?_
      refine ev_ret rfl (by decide) (by decide) ?_
      show jEv _ _ _ _ _ _ _ (_, [(2, (-2)), (2, 0), (2, 42), (0, 0)], [(0, (-1))], _, _, _)
      refine ev_aload_n rfl ?_
      refine ev_aload_n rfl ?_
      refine ev_iload_n rfl ?_
      refine ev_iconst ?_
      refine ev_iadd (r := 1) (by decide) ?_
      refine ev_sald (j := 1) (v := (xs 1)) rfl rfl rfl ?_
      refine ev_aload_n rfl ?_
      refine ev_iload_n rfl ?_
      refine ev_iconst ?_
      refine ev_iadd (r := 2) (by decide) ?_
      refine ev_sald (j := 2) (v := (xs 2)) rfl rfl rfl ?_
      refine ev_in (d := 7) (a := 0) (b := 0) (cd' := c304_0) (m := 10) (L0 := [(2, 42), (0, (xs 1)), (0, (xs 2)), (9, 0), (9, 0), (9, 0), (9, 0), (9, 0), (9, 0), (9, 0)]) (jcall_v (A := [(0, (xs 2)), (0, (xs 1))]) (S' := [(0, (-1))]) (r := 42) rfl (hF.1.lt (by decide)) (hF.1.sh (by decide) rfl).1 (Nat.le_of_ble_eq_true rfl)) (by decide) ml304 pp304 (Nat.le_of_ble_eq_true rfl) rfl (by decide) (by decide) ?_
      refine ev_aload_n rfl ?_
      refine ev_iload_n rfl ?_
      refine ev_in (d := 6) (a := 0) (b := 0) (cd' := c261_0) (m := 2) (L0 := [(2, 42), (0, (xs 1))]) (jcall_v (A := [(0, (xs 1))]) (S' := []) (r := 42) rfl (hF.1.lt (by decide)) (hF.1.sh (by decide) rfl).1 (Nat.le_of_ble_eq_true rfl)) (by decide) ml261 pp261 (Nat.le_of_ble_eq_true rfl) rfl (by decide) (by decide) ?_
      refine ev_iload_n rfl ?_
      refine ev_iconst ?_
      refine ev_aload_n rfl ?_
      refine ev_getf (r := 42) (v := 0) (hF.1.lt (by decide)) (hF.1.fam (by decide) (by decide)) ft12_9 ((hF.v rfl)) ?_
      refine ev_iconst ?_
      refine ev_isub (r := (-1)) (by decide) ?_
      refine ev_in (d := 5) (a := 0) (b := 0) (cd' := c242_0) (m := 3) (L0 := [(0, (xs 1)), (0, 0), (0, (-1))]) (jcall_s (A := [(0, (-1)), (0, 0), (0, (xs 1))]) (S' := []) (by decide) rfl (Nat.le_of_ble_eq_true rfl)) (by decide) ml242 pp242 (Nat.le_of_ble_eq_true rfl) rfl (by decide) (by decide) ?_
      refine ev_iload_n rfl ?_
      refine ev_iload_n rfl ?_
      refine ev_icmplt f242_14 (fun c4 => ?_) (fun c4 => absurd c4 (by omega))
      refine ev_iconst ?_
      refine ev_ret rfl (by decide) (by decide) ?_
      show jEv _ _ _ _ _ _ _ (_, [(2, 42), (0, (xs 1))], [(0, 0)], _, _, _)
      refine ev_ret rfl (by decide) (by decide) ?_
      show jEv _ _ _ _ _ _ _ (_, [(2, 42), (0, (xs 1)), (0, (xs 2)), (9, 0), (9, 0), (9, 0), (9, 0), (9, 0), (9, 0), (9, 0)], [(0, 0)], _, _, _)
      refine ev_ifeq f304_16 (fun c5 => ?_) (fun c5 => absurd c5 (by omega))
      refine ev_iconst ?_
      refine ev_ret rfl (by decide) (by decide) ?_
      show jEv _ _ _ _ _ _ _ (_, [(2, (-2)), (2, 0), (2, 42), (0, 0)], [(0, (-1)), (0, (-1))], _, _, _)
      refine ev_icmpeq f384_2190 (fun c6 => ?_) (fun c6 => absurd c6 (by omega))
      exact law_tail _
    · refine ev_iload_n rfl ?_
      refine ev_aload_n rfl ?_
      refine ev_getf (r := 0) (v := 0) (hF.1.lt (by decide)) (hF.1.fam (by decide) (by decide)) ft11_7 ((hF.v rfl)) ?_
      refine ev_icmplt f220_16 (fun c7 => absurd c7 (by omega)) (fun c7 => ?_)
      refine ev_aconst_null ?_
      refine ev_goto f220_22 ?_
      refine ev_ret rfl (by decide) (by decide) ?_
      show jEv _ _ _ _ _ _ _ (_, [(2, 0), (0, (xs 1)), (0, (xs 2)), (2, (-1)), (9, 0)], [(2, (-1))], _, _, _)
      refine ev_astore (L' := [(2, 0), (0, (xs 1)), (0, (xs 2)), (2, (-1)), (2, (-1))]) (Nat.le_of_ble_eq_true rfl) rfl ?_
      refine ev_aload_n rfl ?_
      refine ev_ifnull f184_22 (fun c8 => ?_) (fun c8 => absurd c8 (by decide))
      refine ev_iconst ?_
      refine ev_ret rfl (by decide) (by decide) ?_
      show jEv _ _ _ _ _ _ _ (_, [(2, (-2)), (2, 0), (2, 42), (0, 0)], [(0, (-1))], _, _, _)
      refine ev_aload_n rfl ?_
      refine ev_aload_n rfl ?_
      refine ev_iload_n rfl ?_
      refine ev_iconst ?_
      refine ev_iadd (r := 1) (by decide) ?_
      refine ev_sald (j := 1) (v := (xs 1)) rfl rfl rfl ?_
      refine ev_aload_n rfl ?_
      refine ev_iload_n rfl ?_
      refine ev_iconst ?_
      refine ev_iadd (r := 2) (by decide) ?_
      refine ev_sald (j := 2) (v := (xs 2)) rfl rfl rfl ?_
      refine ev_in (d := 7) (a := 0) (b := 0) (cd' := c304_0) (m := 10) (L0 := [(2, 42), (0, (xs 1)), (0, (xs 2)), (9, 0), (9, 0), (9, 0), (9, 0), (9, 0), (9, 0), (9, 0)]) (jcall_v (A := [(0, (xs 2)), (0, (xs 1))]) (S' := [(0, (-1))]) (r := 42) rfl (hF.1.lt (by decide)) (hF.1.sh (by decide) rfl).1 (Nat.le_of_ble_eq_true rfl)) (by decide) ml304 pp304 (Nat.le_of_ble_eq_true rfl) rfl (by decide) (by decide) ?_
      refine ev_aload_n rfl ?_
      refine ev_iload_n rfl ?_
      refine ev_in (d := 6) (a := 0) (b := 0) (cd' := c261_0) (m := 2) (L0 := [(2, 42), (0, (xs 1))]) (jcall_v (A := [(0, (xs 1))]) (S' := []) (r := 42) rfl (hF.1.lt (by decide)) (hF.1.sh (by decide) rfl).1 (Nat.le_of_ble_eq_true rfl)) (by decide) ml261 pp261 (Nat.le_of_ble_eq_true rfl) rfl (by decide) (by decide) ?_
      refine ev_iload_n rfl ?_
      refine ev_iconst ?_
      refine ev_aload_n rfl ?_
      refine ev_getf (r := 42) (v := 0) (hF.1.lt (by decide)) (hF.1.fam (by decide) (by decide)) ft12_9 ((hF.v rfl)) ?_
      refine ev_iconst ?_
      refine ev_isub (r := (-1)) (by decide) ?_
      refine ev_in (d := 5) (a := 0) (b := 0) (cd' := c242_0) (m := 3) (L0 := [(0, (xs 1)), (0, 0), (0, (-1))]) (jcall_s (A := [(0, (-1)), (0, 0), (0, (xs 1))]) (S' := []) (by decide) rfl (Nat.le_of_ble_eq_true rfl)) (by decide) ml242 pp242 (Nat.le_of_ble_eq_true rfl) rfl (by decide) (by decide) ?_
      refine ev_iload_n rfl ?_
      refine ev_iload_n rfl ?_
      refine ev_icmplt f242_14 (fun c9 => ?_) (fun c9 => absurd c9 (by omega))
      refine ev_iconst ?_
      refine ev_ret rfl (by decide) (by decide) ?_
      show jEv _ _ _ _ _ _ _ (_, [(2, 42), (0, (xs 1))], [(0, 0)], _, _, _)
      refine ev_ret rfl (by decide) (by decide) ?_
      show jEv _ _ _ _ _ _ _ (_, [(2, 42), (0, (xs 1)), (0, (xs 2)), (9, 0), (9, 0), (9, 0), (9, 0), (9, 0), (9, 0), (9, 0)], [(0, 0)], _, _, _)
      refine ev_ifeq f304_16 (fun c10 => ?_) (fun c10 => absurd c10 (by omega))
      refine ev_iconst ?_
      refine ev_ret rfl (by decide) (by decide) ?_
      show jEv _ _ _ _ _ _ _ (_, [(2, (-2)), (2, 0), (2, 42), (0, 0)], [(0, (-1)), (0, (-1))], _, _, _)
      refine ev_icmpeq f384_2190 (fun c11 => ?_) (fun c11 => absurd c11 (by omega))
      exact law_tail _
  · refine ev_iload_n rfl ?_
    refine ev_aload_n rfl ?_
    refine ev_getf (r := 0) (v := 0) (hF.1.lt (by decide)) (hF.1.fam (by decide) (by decide)) ft11_3 ((hF.v rfl)) ?_
    refine ev_icmplt f219_16 (fun c12 => absurd c12 (by omega)) (fun c12 => ?_)
    refine ev_aconst_null ?_
    refine ev_goto f219_22 ?_
    refine ev_ret rfl (by decide) (by decide) ?_
    show jEv _ _ _ _ _ _ _ (_, [(2, 0), (0, (xs 1)), (0, (xs 2)), (9, 0), (9, 0)], [(2, (-1))], _, _, _)
    refine ev_astore_n (L' := [(2, 0), (0, (xs 1)), (0, (xs 2)), (2, (-1)), (9, 0)]) (Nat.le_of_ble_eq_true rfl) rfl ?_
    refine ev_aload_n rfl ?_
    refine ev_iload_n rfl ?_
    refine ev_in (d := 6) (a := 0) (b := 0) (cd' := c220_0) (m := 2) (L0 := [(2, 0), (0, (xs 2))]) (jcall_v (A := [(0, (xs 2))]) (S' := []) (r := 0) rfl (hF.1.lt (by decide)) (hF.1.sh (by decide) rfl).1 (Nat.le_of_ble_eq_true rfl)) (by decide) ml220 pp220 (Nat.le_of_ble_eq_true rfl) rfl (by decide) (by decide) ?_
    refine ev_iload_n rfl ?_
    refine ev_iflt f220_12 (fun c13 => ?_) (fun c13 => ?_)
    · refine ev_aconst_null ?_
      refine ev_goto f220_22 ?_
      refine ev_ret rfl (by decide) (by decide) ?_
      show jEv _ _ _ _ _ _ _ (_, [(2, 0), (0, (xs 1)), (0, (xs 2)), (2, (-1)), (9, 0)], [(2, (-1))], _, _, _)
      refine ev_astore (L' := [(2, 0), (0, (xs 1)), (0, (xs 2)), (2, (-1)), (2, (-1))]) (Nat.le_of_ble_eq_true rfl) rfl ?_
      refine ev_aload_n rfl ?_
      refine ev_ifnull f184_22 (fun c14 => ?_) (fun c14 => absurd c14 (by decide))
      refine ev_iconst ?_
      refine ev_ret rfl (by decide) (by decide) ?_
      show jEv _ _ _ _ _ _ _ (_, [(2, (-2)), (2, 0), (2, 42), (0, 0)], [(0, (-1))], _, _, _)
      refine ev_aload_n rfl ?_
      refine ev_aload_n rfl ?_
      refine ev_iload_n rfl ?_
      refine ev_iconst ?_
      refine ev_iadd (r := 1) (by decide) ?_
      refine ev_sald (j := 1) (v := (xs 1)) rfl rfl rfl ?_
      refine ev_aload_n rfl ?_
      refine ev_iload_n rfl ?_
      refine ev_iconst ?_
      refine ev_iadd (r := 2) (by decide) ?_
      refine ev_sald (j := 2) (v := (xs 2)) rfl rfl rfl ?_
      refine ev_in (d := 7) (a := 0) (b := 0) (cd' := c304_0) (m := 10) (L0 := [(2, 42), (0, (xs 1)), (0, (xs 2)), (9, 0), (9, 0), (9, 0), (9, 0), (9, 0), (9, 0), (9, 0)]) (jcall_v (A := [(0, (xs 2)), (0, (xs 1))]) (S' := [(0, (-1))]) (r := 42) rfl (hF.1.lt (by decide)) (hF.1.sh (by decide) rfl).1 (Nat.le_of_ble_eq_true rfl)) (by decide) ml304 pp304 (Nat.le_of_ble_eq_true rfl) rfl (by decide) (by decide) ?_
      refine ev_aload_n rfl ?_
      refine ev_iload_n rfl ?_
      refine ev_in (d := 6) (a := 0) (b := 0) (cd' := c261_0) (m := 2) (L0 := [(2, 42), (0, (xs 1))]) (jcall_v (A := [(0, (xs 1))]) (S' := []) (r := 42) rfl (hF.1.lt (by decide)) (hF.1.sh (by decide) rfl).1 (Nat.le_of_ble_eq_true rfl)) (by decide) ml261 pp261 (Nat.le_of_ble_eq_true rfl) rfl (by decide) (by decide) ?_
      refine ev_iload_n rfl ?_
      refine ev_iconst ?_
      refine ev_aload_n rfl ?_
      refine ev_getf (r := 42) (v := 0) (hF.1.lt (by decide)) (hF.1.fam (by decide) (by decide)) ft12_9 ((hF.v rfl)) ?_
      refine ev_iconst ?_
      refine ev_isub (r := (-1)) (by decide) ?_
      refine ev_in (d := 5) (a := 0) (b := 0) (cd' := c242_0) (m := 3) (L0 := [(0, (xs 1)), (0, 0), (0, (-1))]) (jcall_s (A := [(0, (-1)), (0, 0), (0, (xs 1))]) (S' := []) (by decide) rfl (Nat.le_of_ble_eq_true rfl)) (by decide) ml242 pp242 (Nat.le_of_ble_eq_true rfl) rfl (by decide) (by decide) ?_
      refine ev_iload_n rfl ?_
      refine ev_iload_n rfl ?_
      refine ev_icmplt f242_14 (fun c15 => absurd c15 (by omega)) (fun c15 => ?_)
      refine ev_iload_n rfl ?_
      refine ev_iload_n rfl ?_
      refine ev_icmpgt f242_14 (fun c16 => ?_) (fun c16 => absurd c16 (by omega))
      refine ev_iconst ?_
      refine ev_ret rfl (by decide) (by decide) ?_
      show jEv _ _ _ _ _ _ _ (_, [(2, 42), (0, (xs 1))], [(0, 0)], _, _, _)
      refine ev_ret rfl (by decide) (by decide) ?_
      show jEv _ _ _ _ _ _ _ (_, [(2, 42), (0, (xs 1)), (0, (xs 2)), (9, 0), (9, 0), (9, 0), (9, 0), (9, 0), (9, 0), (9, 0)], [(0, 0)], _, _, _)
      refine ev_ifeq f304_16 (fun c17 => ?_) (fun c17 => absurd c17 (by omega))
      refine ev_iconst ?_
      refine ev_ret rfl (by decide) (by decide) ?_
      show jEv _ _ _ _ _ _ _ (_, [(2, (-2)), (2, 0), (2, 42), (0, 0)], [(0, (-1)), (0, (-1))], _, _, _)
      refine ev_icmpeq f384_2190 (fun c18 => ?_) (fun c18 => absurd c18 (by omega))
      exact law_tail _
    · refine ev_iload_n rfl ?_
      refine ev_aload_n rfl ?_
      refine ev_getf (r := 0) (v := 0) (hF.1.lt (by decide)) (hF.1.fam (by decide) (by decide)) ft11_7 ((hF.v rfl)) ?_
      refine ev_icmplt f220_16 (fun c19 => absurd c19 (by omega)) (fun c19 => ?_)
      refine ev_aconst_null ?_
      refine ev_goto f220_22 ?_
      refine ev_ret rfl (by decide) (by decide) ?_
      show jEv _ _ _ _ _ _ _ (_, [(2, 0), (0, (xs 1)), (0, (xs 2)), (2, (-1)), (9, 0)], [(2, (-1))], _, _, _)
      refine ev_astore (L' := [(2, 0), (0, (xs 1)), (0, (xs 2)), (2, (-1)), (2, (-1))]) (Nat.le_of_ble_eq_true rfl) rfl ?_
      refine ev_aload_n rfl ?_
      refine ev_ifnull f184_22 (fun c20 => ?_) (fun c20 => absurd c20 (by decide))
      refine ev_iconst ?_
      refine ev_ret rfl (by decide) (by decide) ?_
      show jEv _ _ _ _ _ _ _ (_, [(2, (-2)), (2, 0), (2, 42), (0, 0)], [(0, (-1))], _, _, _)
      refine ev_aload_n rfl ?_
      refine ev_aload_n rfl ?_
      refine ev_iload_n rfl ?_
      refine ev_iconst ?_
      refine ev_iadd (r := 1) (by decide) ?_
      refine ev_sald (j := 1) (v := (xs 1)) rfl rfl rfl ?_
      refine ev_aload_n rfl ?_
      refine ev_iload_n rfl ?_
      refine ev_iconst ?_
      refine ev_iadd (r := 2) (by decide) ?_
      refine ev_sald (j := 2) (v := (xs 2)) rfl rfl rfl ?_
      refine ev_in (d := 7) (a := 0) (b := 0) (cd' := c304_0) (m := 10) (L0 := [(2, 42), (0, (xs 1)), (0, (xs 2)), (9, 0), (9, 0), (9, 0), (9, 0), (9, 0), (9, 0), (9, 0)]) (jcall_v (A := [(0, (xs 2)), (0, (xs 1))]) (S' := [(0, (-1))]) (r := 42) rfl (hF.1.lt (by decide)) (hF.1.sh (by decide) rfl).1 (Nat.le_of_ble_eq_true rfl)) (by decide) ml304 pp304 (Nat.le_of_ble_eq_true rfl) rfl (by decide) (by decide) ?_
      refine ev_aload_n rfl ?_
      refine ev_iload_n rfl ?_
      refine ev_in (d := 6) (a := 0) (b := 0) (cd' := c261_0) (m := 2) (L0 := [(2, 42), (0, (xs 1))]) (jcall_v (A := [(0, (xs 1))]) (S' := []) (r := 42) rfl (hF.1.lt (by decide)) (hF.1.sh (by decide) rfl).1 (Nat.le_of_ble_eq_true rfl)) (by decide) ml261 pp261 (Nat.le_of_ble_eq_true rfl) rfl (by decide) (by decide) ?_
      refine ev_iload_n rfl ?_
      refine ev_iconst ?_
      refine ev_aload_n rfl ?_
      refine ev_getf (r := 42) (v := 0) (hF.1.lt (by decide)) (hF.1.fam (by decide) (by decide)) ft12_9 ((hF.v rfl)) ?_
      refine ev_iconst ?_
      refine ev_isub (r := (-1)) (by decide) ?_
      refine ev_in (d := 5) (a := 0) (b := 0) (cd' := c242_0) (m := 3) (L0 := [(0, (xs 1)), (0, 0), (0, (-1))]) (jcall_s (A := [(0, (-1)), (0, 0), (0, (xs 1))]) (S' := []) (by decide) rfl (Nat.le_of_ble_eq_true rfl)) (by decide) ml242 pp242 (Nat.le_of_ble_eq_true rfl) rfl (by decide) (by decide) ?_
      refine ev_iload_n rfl ?_
      refine ev_iload_n rfl ?_
      refine ev_icmplt f242_14 (fun c21 => absurd c21 (by omega)) (fun c21 => ?_)
      refine ev_iload_n rfl ?_
      refine ev_iload_n rfl ?_
      refine ev_icmpgt f242_14 (fun c22 => ?_) (fun c22 => absurd c22 (by omega))
      refine ev_iconst ?_
      refine ev_ret rfl (by decide) (by decide) ?_
      show jEv _ _ _ _ _ _ _ (_, [(2, 42), (0, (xs 1))], [(0, 0)], _, _, _)
      refine ev_ret rfl (by decide) (by decide) ?_
      show jEv _ _ _ _ _ _ _ (_, [(2, 42), (0, (xs 1)), (0, (xs 2)), (9, 0), (9, 0), (9, 0), (9, 0), (9, 0), (9, 0), (9, 0)], [(0, 0)], _, _, _)
      refine ev_ifeq f304_16 (fun c23 => ?_) (fun c23 => absurd c23 (by omega))
      refine ev_iconst ?_
      refine ev_ret rfl (by decide) (by decide) ?_
      show jEv _ _ _ _ _ _ _ (_, [(2, (-2)), (2, 0), (2, 42), (0, 0)], [(0, (-1)), (0, (-1))], _, _, _)
      refine ev_icmpeq f384_2190 (fun c24 => ?_) (fun c24 => absurd c24 (by omega))
      exact law_tail _

/-! fork -/
set_option maxHeartbeats 4000000 in
theorem case_19 {xs : Nat → Int} (hr : ∀ j, -2147483648 ≤ xs j ∧ xs j < 2147483648) {h : JH} (hF : Fresh h) : jEv (jOk 8) (some 6) xs c384_0 600000 7302250 (fun v _ => v = some (0, 1)) (c384_882, [(2, -2), (2, 0), (2, 42), (0, 0)], [], h, 83, 23761) := by
  have r1 := hr 1
  have r2 := hr 2
  have r3 := hr 3
  have r4 := hr 4
  have r5 := hr 5
  refine ev_aload_n rfl ?_
  refine ev_aload_n rfl ?_
  refine ev_iload_n rfl ?_
  refine ev_iconst ?_
  refine ev_iadd (r := 1) (by decide) ?_
  refine ev_sald (j := 1) (v := (xs 1)) rfl rfl rfl ?_
  refine ev_aload_n rfl ?_
  refine ev_iload_n rfl ?_
  refine ev_iconst ?_
  refine ev_iadd (r := 2) (by decide) ?_
  refine ev_sald (j := 2) (v := (xs 2)) rfl rfl rfl ?_
  refine ev_aload_n rfl ?_
  refine ev_iload_n rfl ?_
  refine ev_iconst ?_
  refine ev_iadd (r := 3) (by decide) ?_
  refine ev_sald (j := 3) (v := (xs 3)) rfl rfl rfl ?_
  refine ev_aload_n rfl ?_
  refine ev_iload_n rfl ?_
  refine ev_iconst ?_
  refine ev_iadd (r := 4) (by decide) ?_
  refine ev_sald (j := 4) (v := (xs 4)) rfl rfl rfl ?_
  refine ev_in (d := 7) (a := 0) (b := 0) (cd' := c185_0) (m := 6) (L0 := [(2, 0), (0, (xs 1)), (0, (xs 2)), (0, (xs 3)), (0, (xs 4)), (9, 0)]) (jcall_v (A := [(0, (xs 4)), (0, (xs 3)), (0, (xs 2)), (0, (xs 1))]) (S' := []) (r := 0) rfl (hF.1.lt (by decide)) (hF.1.sh (by decide) rfl).1 (Nat.le_of_ble_eq_true rfl)) (by decide) ml185 pp185 (Nat.le_of_ble_eq_true rfl) rfl (by decide) (by decide) ?_
  refine ev_aload_n rfl ?_
  refine ev_iload_n rfl ?_
  refine ev_in (d := 6) (a := 0) (b := 0) (cd' := c219_0) (m := 2) (L0 := [(2, 0), (0, (xs 1))]) (jcall_v (A := [(0, (xs 1))]) (S' := []) (r := 0) rfl (hF.1.lt (by decide)) (hF.1.sh (by decide) rfl).1 (Nat.le_of_ble_eq_true rfl)) (by decide) ml219 pp219 (Nat.le_of_ble_eq_true rfl) rfl (by decide) (by decide) ?_
  refine ev_iload_n rfl ?_
  refine ev_iflt f219_12 (fun c1 => ?_) (fun c1 => ?_)
  · refine ev_aconst_null ?_
    refine ev_goto f219_22 ?_
    refine ev_ret rfl (by decide) (by decide) ?_
    show jEv _ _ _ _ _ _ _ (_, [(2, 0), (0, (xs 1)), (0, (xs 2)), (0, (xs 3)), (0, (xs 4)), (9, 0)], [(2, (-1))], _, _, _)
    refine ev_astore (L' := [(2, 0), (0, (xs 1)), (0, (xs 2)), (0, (xs 3)), (0, (xs 4)), (2, (-1))]) (Nat.le_of_ble_eq_true rfl) rfl ?_
    refine ev_aload rfl ?_
    refine ev_ifnull f185_40 (fun c2 => ?_) (fun c2 => absurd c2 (by decide))
    refine ev_ldc2_w ?_
    refine ev_ret rfl (by decide) (by decide) ?_
    show jEv _ _ _ _ _ _ _ (_, [(2, (-2)), (2, 0), (2, 42), (0, 0)], [(1, (-9223372036854775808))], _, _, _)
    refine ev_aload_n rfl ?_
    refine ev_aload_n rfl ?_
    refine ev_iload_n rfl ?_
    refine ev_iconst ?_
    refine ev_iadd (r := 1) (by decide) ?_
    refine ev_sald (j := 1) (v := (xs 1)) rfl rfl rfl ?_
    refine ev_aload_n rfl ?_
    refine ev_iload_n rfl ?_
    refine ev_iconst ?_
    refine ev_iadd (r := 2) (by decide) ?_
    refine ev_sald (j := 2) (v := (xs 2)) rfl rfl rfl ?_
    refine ev_aload_n rfl ?_
    refine ev_iload_n rfl ?_
    refine ev_iconst ?_
    refine ev_iadd (r := 3) (by decide) ?_
    refine ev_sald (j := 3) (v := (xs 3)) rfl rfl rfl ?_
    refine ev_aload_n rfl ?_
    refine ev_iload_n rfl ?_
    refine ev_iconst ?_
    refine ev_iadd (r := 4) (by decide) ?_
    refine ev_sald (j := 4) (v := (xs 4)) rfl rfl rfl ?_
    refine ev_in (d := 7) (a := 0) (b := 0) (cd' := c306_0) (m := 6) (L0 := [(2, 42), (0, (xs 1)), (0, (xs 2)), (0, (xs 3)), (0, (xs 4)), (9, 0)]) (jcall_v (A := [(0, (xs 4)), (0, (xs 3)), (0, (xs 2)), (0, (xs 1))]) (S' := [(1, (-9223372036854775808))]) (r := 42) rfl (hF.1.lt (by decide)) (hF.1.sh (by decide) rfl).1 (Nat.le_of_ble_eq_true rfl)) (by decide) ml306 pp306 (Nat.le_of_ble_eq_true rfl) rfl (by decide) (by decide) ?_
    refine ev_aload_n rfl ?_
    refine ev_iload_n rfl ?_
    refine ev_iload_n rfl ?_
    refine ev_in (d := 6) (a := 0) (b := 0) (cd' := c277_0) (m := 3) (L0 := [(2, 42), (0, (xs 1)), (0, (xs 2))]) (jcall_v (A := [(0, (xs 2)), (0, (xs 1))]) (S' := []) (r := 42) rfl (hF.1.lt (by decide)) (hF.1.sh (by decide) rfl).1 (Nat.le_of_ble_eq_true rfl)) (by decide) ml277 pp277 (Nat.le_of_ble_eq_true rfl) rfl (by decide) (by decide) ?_
    refine ev_aload_n rfl ?_
    refine ev_iload_n rfl ?_
    refine ev_iload_n rfl ?_
    refine ev_in (d := 5) (a := 0) (b := 0) (cd' := c262_0) (m := 3) (L0 := [(2, 42), (0, (xs 1)), (0, (xs 2))]) (jcall_v (A := [(0, (xs 2)), (0, (xs 1))]) (S' := []) (r := 42) rfl (hF.1.lt (by decide)) (hF.1.sh (by decide) rfl).1 (Nat.le_of_ble_eq_true rfl)) (by decide) ml262 pp262 (Nat.le_of_ble_eq_true rfl) rfl (by decide) (by decide) ?_
    refine ev_aload_n rfl ?_
    refine ev_iload_n rfl ?_
    refine ev_in (d := 4) (a := 0) (b := 0) (cd' := c261_0) (m := 2) (L0 := [(2, 42), (0, (xs 1))]) (jcall_v (A := [(0, (xs 1))]) (S' := []) (r := 42) rfl (hF.1.lt (by decide)) (hF.1.sh (by decide) rfl).1 (Nat.le_of_ble_eq_true rfl)) (by decide) ml261 pp261 (Nat.le_of_ble_eq_true rfl) rfl (by decide) (by decide) ?_
    refine ev_iload_n rfl ?_
    refine ev_iconst ?_
    refine ev_aload_n rfl ?_
    refine ev_getf (r := 42) (v := 0) (hF.1.lt (by decide)) (hF.1.fam (by decide) (by decide)) ft12_9 ((hF.v rfl)) ?_
    refine ev_iconst ?_
    refine ev_isub (r := (-1)) (by decide) ?_
    refine ev_in (d := 3) (a := 0) (b := 0) (cd' := c242_0) (m := 3) (L0 := [(0, (xs 1)), (0, 0), (0, (-1))]) (jcall_s (A := [(0, (-1)), (0, 0), (0, (xs 1))]) (S' := []) (by decide) rfl (Nat.le_of_ble_eq_true rfl)) (by decide) ml242 pp242 (Nat.le_of_ble_eq_true rfl) rfl (by decide) (by decide) ?_
    refine ev_iload_n rfl ?_
    refine ev_iload_n rfl ?_
    refine ev_icmplt f242_14 (fun c3 => ?_) (fun c3 => absurd c3 (by omega))
    refine ev_iconst ?_
    refine ev_ret rfl (by decide) (by decide) ?_
    show jEv _ _ _ _ _ _ _ (_, [(2, 42), (0, (xs 1))], [(0, 0)], _, _, _)
    refine ev_ret rfl (by decide) (by decide) ?_
    show jEv _ _ _ _ _ _ _ (_, [(2, 42), (0, (xs 1)), (0, (xs 2))], [(0, 0)], _, _, _)
    refine ev_ifeq f262_28 (fun c4 => ?_) (fun c4 => absurd c4 (by omega))
    refine ev_iconst ?_
    refine ev_ret rfl (by decide) (by decide) ?_
    show jEv _ _ _ _ _ _ _ (_, [(2, 42), (0, (xs 1)), (0, (xs 2))], [(0, 0)], _, _, _)
    refine ev_ifeq f277_28 (fun c5 => ?_) (fun c5 => absurd c5 (by omega))
    refine ev_iconst ?_
    refine ev_ret rfl (by decide) (by decide) ?_
    show jEv _ _ _ _ _ _ _ (_, [(2, 42), (0, (xs 1)), (0, (xs 2)), (0, (xs 3)), (0, (xs 4)), (9, 0)], [(0, 0)], _, _, _)
    refine ev_ifeq f306_40 (fun c6 => ?_) (fun c6 => absurd c6 (by omega))
    refine ev_ldc2_w ?_
    refine ev_ret rfl (by decide) (by decide) ?_
    show jEv _ _ _ _ _ _ _ (_, [(2, (-2)), (2, 0), (2, 42), (0, 0)], [(1, (-9223372036854775808)), (1, (-9223372036854775808))], _, _, _)
    refine ev_lcmp ?_
    refine ev_ifeq f384_2190 (fun c7 => ?_) (fun c7 => absurd (show _ from by unfold jcmpL; (repeat' split) <;> omega) c7)
    exact law_tail _
  · refine ev_iload_n rfl ?_
    refine ev_aload_n rfl ?_
    refine ev_getf (r := 0) (v := 0) (hF.1.lt (by decide)) (hF.1.fam (by decide) (by decide)) ft11_3 ((hF.v rfl)) ?_
    refine ev_icmplt f219_16 (fun c8 => absurd c8 (by omega)) (fun c8 => ?_)
    refine ev_aconst_null ?_
    refine ev_goto f219_22 ?_
    refine ev_ret rfl (by decide) (by decide) ?_
    show jEv _ _ _ _ _ _ _ (_, [(2, 0), (0, (xs 1)), (0, (xs 2)), (0, (xs 3)), (0, (xs 4)), (9, 0)], [(2, (-1))], _, _, _)
    refine ev_astore (L' := [(2, 0), (0, (xs 1)), (0, (xs 2)), (0, (xs 3)), (0, (xs 4)), (2, (-1))]) (Nat.le_of_ble_eq_true rfl) rfl ?_
    refine ev_aload rfl ?_
    refine ev_ifnull f185_40 (fun c9 => ?_) (fun c9 => absurd c9 (by decide))
    refine ev_ldc2_w ?_
    refine ev_ret rfl (by decide) (by decide) ?_
    show jEv _ _ _ _ _ _ _ (_, [(2, (-2)), (2, 0), (2, 42), (0, 0)], [(1, (-9223372036854775808))], _, _, _)
    refine ev_aload_n rfl ?_
    refine ev_aload_n rfl ?_
    refine ev_iload_n rfl ?_
    refine ev_iconst ?_
    refine ev_iadd (r := 1) (by decide) ?_
    refine ev_sald (j := 1) (v := (xs 1)) rfl rfl rfl ?_
    refine ev_aload_n rfl ?_
    refine ev_iload_n rfl ?_
    refine ev_iconst ?_
    refine ev_iadd (r := 2) (by decide) ?_
    refine ev_sald (j := 2) (v := (xs 2)) rfl rfl rfl ?_
    refine ev_aload_n rfl ?_
    refine ev_iload_n rfl ?_
    refine ev_iconst ?_
    refine ev_iadd (r := 3) (by decide) ?_
    refine ev_sald (j := 3) (v := (xs 3)) rfl rfl rfl ?_
    refine ev_aload_n rfl ?_
    refine ev_iload_n rfl ?_
    refine ev_iconst ?_
    refine ev_iadd (r := 4) (by decide) ?_
    refine ev_sald (j := 4) (v := (xs 4)) rfl rfl rfl ?_
    refine ev_in (d := 7) (a := 0) (b := 0) (cd' := c306_0) (m := 6) (L0 := [(2, 42), (0, (xs 1)), (0, (xs 2)), (0, (xs 3)), (0, (xs 4)), (9, 0)]) (jcall_v (A := [(0, (xs 4)), (0, (xs 3)), (0, (xs 2)), (0, (xs 1))]) (S' := [(1, (-9223372036854775808))]) (r := 42) rfl (hF.1.lt (by decide)) (hF.1.sh (by decide) rfl).1 (Nat.le_of_ble_eq_true rfl)) (by decide) ml306 pp306 (Nat.le_of_ble_eq_true rfl) rfl (by decide) (by decide) ?_
    refine ev_aload_n rfl ?_
    refine ev_iload_n rfl ?_
    refine ev_iload_n rfl ?_
    refine ev_in (d := 6) (a := 0) (b := 0) (cd' := c277_0) (m := 3) (L0 := [(2, 42), (0, (xs 1)), (0, (xs 2))]) (jcall_v (A := [(0, (xs 2)), (0, (xs 1))]) (S' := []) (r := 42) rfl (hF.1.lt (by decide)) (hF.1.sh (by decide) rfl).1 (Nat.le_of_ble_eq_true rfl)) (by decide) ml277 pp277 (Nat.le_of_ble_eq_true rfl) rfl (by decide) (by decide) ?_
    refine ev_aload_n rfl ?_
    refine ev_iload_n rfl ?_
    refine ev_iload_n rfl ?_
    refine ev_in (d := 5) (a := 0) (b := 0) (cd' := c262_0) (m := 3) (L0 := [(2, 42), (0, (xs 1)), (0, (xs 2))]) (jcall_v (A := [(0, (xs 2)), (0, (xs 1))]) (S' := []) (r := 42) rfl (hF.1.lt (by decide)) (hF.1.sh (by decide) rfl).1 (Nat.le_of_ble_eq_true rfl)) (by decide) ml262 pp262 (Nat.le_of_ble_eq_true rfl) rfl (by decide) (by decide) ?_
    refine ev_aload_n rfl ?_
    refine ev_iload_n rfl ?_
    refine ev_in (d := 4) (a := 0) (b := 0) (cd' := c261_0) (m := 2) (L0 := [(2, 42), (0, (xs 1))]) (jcall_v (A := [(0, (xs 1))]) (S' := []) (r := 42) rfl (hF.1.lt (by decide)) (hF.1.sh (by decide) rfl).1 (Nat.le_of_ble_eq_true rfl)) (by decide) ml261 pp261 (Nat.le_of_ble_eq_true rfl) rfl (by decide) (by decide) ?_
    refine ev_iload_n rfl ?_
    refine ev_iconst ?_
    refine ev_aload_n rfl ?_
    refine ev_getf (r := 42) (v := 0) (hF.1.lt (by decide)) (hF.1.fam (by decide) (by decide)) ft12_9 ((hF.v rfl)) ?_
    refine ev_iconst ?_
    refine ev_isub (r := (-1)) (by decide) ?_
    refine ev_in (d := 3) (a := 0) (b := 0) (cd' := c242_0) (m := 3) (L0 := [(0, (xs 1)), (0, 0), (0, (-1))]) (jcall_s (A := [(0, (-1)), (0, 0), (0, (xs 1))]) (S' := []) (by decide) rfl (Nat.le_of_ble_eq_true rfl)) (by decide) ml242 pp242 (Nat.le_of_ble_eq_true rfl) rfl (by decide) (by decide) ?_
    refine ev_iload_n rfl ?_
    refine ev_iload_n rfl ?_
    refine ev_icmplt f242_14 (fun c10 => absurd c10 (by omega)) (fun c10 => ?_)
    refine ev_iload_n rfl ?_
    refine ev_iload_n rfl ?_
    refine ev_icmpgt f242_14 (fun c11 => ?_) (fun c11 => absurd c11 (by omega))
    refine ev_iconst ?_
    refine ev_ret rfl (by decide) (by decide) ?_
    show jEv _ _ _ _ _ _ _ (_, [(2, 42), (0, (xs 1))], [(0, 0)], _, _, _)
    refine ev_ret rfl (by decide) (by decide) ?_
    show jEv _ _ _ _ _ _ _ (_, [(2, 42), (0, (xs 1)), (0, (xs 2))], [(0, 0)], _, _, _)
    refine ev_ifeq f262_28 (fun c12 => ?_) (fun c12 => absurd c12 (by omega))
    refine ev_iconst ?_
    refine ev_ret rfl (by decide) (by decide) ?_
    show jEv _ _ _ _ _ _ _ (_, [(2, 42), (0, (xs 1)), (0, (xs 2))], [(0, 0)], _, _, _)
    refine ev_ifeq f277_28 (fun c13 => ?_) (fun c13 => absurd c13 (by omega))
    refine ev_iconst ?_
    refine ev_ret rfl (by decide) (by decide) ?_
    show jEv _ _ _ _ _ _ _ (_, [(2, 42), (0, (xs 1)), (0, (xs 2)), (0, (xs 3)), (0, (xs 4)), (9, 0)], [(0, 0)], _, _, _)
    refine ev_ifeq f306_40 (fun c14 => ?_) (fun c14 => absurd c14 (by omega))
    refine ev_ldc2_w ?_
    refine ev_ret rfl (by decide) (by decide) ?_
    show jEv _ _ _ _ _ _ _ (_, [(2, (-2)), (2, 0), (2, 42), (0, 0)], [(1, (-9223372036854775808)), (1, (-9223372036854775808))], _, _, _)
    refine ev_lcmp ?_
    refine ev_ifeq f384_2190 (fun c15 => ?_) (fun c15 => absurd (show _ from by unfold jcmpL; (repeat' split) <;> omega) c15)
    exact law_tail _

/-! tell -/
set_option maxHeartbeats 4000000 in
theorem case_20 {xs : Nat → Int} (hr : ∀ j, -2147483648 ≤ xs j ∧ xs j < 2147483648) {h : JH} (hF : Fresh h) : jEv (jOk 8) (some 6) xs c384_0 600000 7302250 (fun v _ => v = some (0, 1)) (c384_936, [(2, -2), (2, 0), (2, 42), (0, 0)], [], h, 83, 23761) := by
  have r1 := hr 1
  have r2 := hr 2
  have r3 := hr 3
  have r4 := hr 4
  have r5 := hr 5
  refine ev_aload_n rfl ?_
  refine ev_aload_n rfl ?_
  refine ev_iload_n rfl ?_
  refine ev_iconst ?_
  refine ev_iadd (r := 1) (by decide) ?_
  refine ev_sald (j := 1) (v := (xs 1)) rfl rfl rfl ?_
  refine ev_aload_n rfl ?_
  refine ev_iload_n rfl ?_
  refine ev_iconst ?_
  refine ev_iadd (r := 2) (by decide) ?_
  refine ev_sald (j := 2) (v := (xs 2)) rfl rfl rfl ?_
  refine ev_in (d := 7) (a := 0) (b := 0) (cd' := c186_0) (m := 4) (L0 := [(2, 0), (0, (xs 1)), (0, (xs 2)), (9, 0)]) (jcall_v (A := [(0, (xs 2)), (0, (xs 1))]) (S' := []) (r := 0) rfl (hF.1.lt (by decide)) (hF.1.sh (by decide) rfl).1 (Nat.le_of_ble_eq_true rfl)) (by decide) ml186 pp186 (Nat.le_of_ble_eq_true rfl) rfl (by decide) (by decide) ?_
  refine ev_aload_n rfl ?_
  refine ev_iload_n rfl ?_
  refine ev_in (d := 6) (a := 0) (b := 0) (cd' := c219_0) (m := 2) (L0 := [(2, 0), (0, (xs 1))]) (jcall_v (A := [(0, (xs 1))]) (S' := []) (r := 0) rfl (hF.1.lt (by decide)) (hF.1.sh (by decide) rfl).1 (Nat.le_of_ble_eq_true rfl)) (by decide) ml219 pp219 (Nat.le_of_ble_eq_true rfl) rfl (by decide) (by decide) ?_
  refine ev_iload_n rfl ?_
  refine ev_iflt f219_12 (fun c1 => ?_) (fun c1 => ?_)
  · refine ev_aconst_null ?_
    refine ev_goto f219_22 ?_
    refine ev_ret rfl (by decide) (by decide) ?_
    show jEv _ _ _ _ _ _ _ (_, [(2, 0), (0, (xs 1)), (0, (xs 2)), (9, 0)], [(2, (-1))], _, _, _)
    refine ev_astore_n (L' := [(2, 0), (0, (xs 1)), (0, (xs 2)), (2, (-1))]) (Nat.le_of_ble_eq_true rfl) rfl ?_
    refine ev_aload_n rfl ?_
    refine ev_ifnull f186_15 (fun c2 => ?_) (fun c2 => absurd c2 (by decide))
    refine ev_iconst ?_
    refine ev_goto f186_24 ?_
    refine ev_ret rfl (by decide) (by decide) ?_
    show jEv _ _ _ _ _ _ _ (_, [(2, (-2)), (2, 0), (2, 42), (0, 0)], [(0, (-1))], _, _, _)
    refine ev_aload_n rfl ?_
    refine ev_aload_n rfl ?_
    refine ev_iload_n rfl ?_
    refine ev_iconst ?_
    refine ev_iadd (r := 1) (by decide) ?_
    refine ev_sald (j := 1) (v := (xs 1)) rfl rfl rfl ?_
    refine ev_aload_n rfl ?_
    refine ev_iload_n rfl ?_
    refine ev_iconst ?_
    refine ev_iadd (r := 2) (by decide) ?_
    refine ev_sald (j := 2) (v := (xs 2)) rfl rfl rfl ?_
    refine ev_in (d := 7) (a := 0) (b := 0) (cd' := c308_0) (m := 3) (L0 := [(2, 42), (0, (xs 1)), (0, (xs 2))]) (jcall_v (A := [(0, (xs 2)), (0, (xs 1))]) (S' := [(0, (-1))]) (r := 42) rfl (hF.1.lt (by decide)) (hF.1.sh (by decide) rfl).1 (Nat.le_of_ble_eq_true rfl)) (by decide) ml308 pp308 (Nat.le_of_ble_eq_true rfl) rfl (by decide) (by decide) ?_
    refine ev_aload_n rfl ?_
    refine ev_iload_n rfl ?_
    refine ev_in (d := 6) (a := 0) (b := 0) (cd' := c261_0) (m := 2) (L0 := [(2, 42), (0, (xs 1))]) (jcall_v (A := [(0, (xs 1))]) (S' := []) (r := 42) rfl (hF.1.lt (by decide)) (hF.1.sh (by decide) rfl).1 (Nat.le_of_ble_eq_true rfl)) (by decide) ml261 pp261 (Nat.le_of_ble_eq_true rfl) rfl (by decide) (by decide) ?_
    refine ev_iload_n rfl ?_
    refine ev_iconst ?_
    refine ev_aload_n rfl ?_
    refine ev_getf (r := 42) (v := 0) (hF.1.lt (by decide)) (hF.1.fam (by decide) (by decide)) ft12_9 ((hF.v rfl)) ?_
    refine ev_iconst ?_
    refine ev_isub (r := (-1)) (by decide) ?_
    refine ev_in (d := 5) (a := 0) (b := 0) (cd' := c242_0) (m := 3) (L0 := [(0, (xs 1)), (0, 0), (0, (-1))]) (jcall_s (A := [(0, (-1)), (0, 0), (0, (xs 1))]) (S' := []) (by decide) rfl (Nat.le_of_ble_eq_true rfl)) (by decide) ml242 pp242 (Nat.le_of_ble_eq_true rfl) rfl (by decide) (by decide) ?_
    refine ev_iload_n rfl ?_
    refine ev_iload_n rfl ?_
    refine ev_icmplt f242_14 (fun c3 => ?_) (fun c3 => absurd c3 (by omega))
    refine ev_iconst ?_
    refine ev_ret rfl (by decide) (by decide) ?_
    show jEv _ _ _ _ _ _ _ (_, [(2, 42), (0, (xs 1))], [(0, 0)], _, _, _)
    refine ev_ret rfl (by decide) (by decide) ?_
    show jEv _ _ _ _ _ _ _ (_, [(2, 42), (0, (xs 1)), (0, (xs 2))], [(0, 0)], _, _, _)
    refine ev_ifeq f308_13 (fun c4 => ?_) (fun c4 => absurd c4 (by omega))
    refine ev_iconst ?_
    refine ev_ret rfl (by decide) (by decide) ?_
    show jEv _ _ _ _ _ _ _ (_, [(2, (-2)), (2, 0), (2, 42), (0, 0)], [(0, (-1)), (0, (-1))], _, _, _)
    refine ev_icmpeq f384_2190 (fun c5 => ?_) (fun c5 => absurd c5 (by omega))
    exact law_tail _
  · refine ev_iload_n rfl ?_
    refine ev_aload_n rfl ?_
    refine ev_getf (r := 0) (v := 0) (hF.1.lt (by decide)) (hF.1.fam (by decide) (by decide)) ft11_3 ((hF.v rfl)) ?_
    refine ev_icmplt f219_16 (fun c6 => absurd c6 (by omega)) (fun c6 => ?_)
    refine ev_aconst_null ?_
    refine ev_goto f219_22 ?_
    refine ev_ret rfl (by decide) (by decide) ?_
    show jEv _ _ _ _ _ _ _ (_, [(2, 0), (0, (xs 1)), (0, (xs 2)), (9, 0)], [(2, (-1))], _, _, _)
    refine ev_astore_n (L' := [(2, 0), (0, (xs 1)), (0, (xs 2)), (2, (-1))]) (Nat.le_of_ble_eq_true rfl) rfl ?_
    refine ev_aload_n rfl ?_
    refine ev_ifnull f186_15 (fun c7 => ?_) (fun c7 => absurd c7 (by decide))
    refine ev_iconst ?_
    refine ev_goto f186_24 ?_
    refine ev_ret rfl (by decide) (by decide) ?_
    show jEv _ _ _ _ _ _ _ (_, [(2, (-2)), (2, 0), (2, 42), (0, 0)], [(0, (-1))], _, _, _)
    refine ev_aload_n rfl ?_
    refine ev_aload_n rfl ?_
    refine ev_iload_n rfl ?_
    refine ev_iconst ?_
    refine ev_iadd (r := 1) (by decide) ?_
    refine ev_sald (j := 1) (v := (xs 1)) rfl rfl rfl ?_
    refine ev_aload_n rfl ?_
    refine ev_iload_n rfl ?_
    refine ev_iconst ?_
    refine ev_iadd (r := 2) (by decide) ?_
    refine ev_sald (j := 2) (v := (xs 2)) rfl rfl rfl ?_
    refine ev_in (d := 7) (a := 0) (b := 0) (cd' := c308_0) (m := 3) (L0 := [(2, 42), (0, (xs 1)), (0, (xs 2))]) (jcall_v (A := [(0, (xs 2)), (0, (xs 1))]) (S' := [(0, (-1))]) (r := 42) rfl (hF.1.lt (by decide)) (hF.1.sh (by decide) rfl).1 (Nat.le_of_ble_eq_true rfl)) (by decide) ml308 pp308 (Nat.le_of_ble_eq_true rfl) rfl (by decide) (by decide) ?_
    refine ev_aload_n rfl ?_
    refine ev_iload_n rfl ?_
    refine ev_in (d := 6) (a := 0) (b := 0) (cd' := c261_0) (m := 2) (L0 := [(2, 42), (0, (xs 1))]) (jcall_v (A := [(0, (xs 1))]) (S' := []) (r := 42) rfl (hF.1.lt (by decide)) (hF.1.sh (by decide) rfl).1 (Nat.le_of_ble_eq_true rfl)) (by decide) ml261 pp261 (Nat.le_of_ble_eq_true rfl) rfl (by decide) (by decide) ?_
    refine ev_iload_n rfl ?_
    refine ev_iconst ?_
    refine ev_aload_n rfl ?_
    refine ev_getf (r := 42) (v := 0) (hF.1.lt (by decide)) (hF.1.fam (by decide) (by decide)) ft12_9 ((hF.v rfl)) ?_
    refine ev_iconst ?_
    refine ev_isub (r := (-1)) (by decide) ?_
    refine ev_in (d := 5) (a := 0) (b := 0) (cd' := c242_0) (m := 3) (L0 := [(0, (xs 1)), (0, 0), (0, (-1))]) (jcall_s (A := [(0, (-1)), (0, 0), (0, (xs 1))]) (S' := []) (by decide) rfl (Nat.le_of_ble_eq_true rfl)) (by decide) ml242 pp242 (Nat.le_of_ble_eq_true rfl) rfl (by decide) (by decide) ?_
    refine ev_iload_n rfl ?_
    refine ev_iload_n rfl ?_
    refine ev_icmplt f242_14 (fun c8 => absurd c8 (by omega)) (fun c8 => ?_)
    refine ev_iload_n rfl ?_
    refine ev_iload_n rfl ?_
    refine ev_icmpgt f242_14 (fun c9 => ?_) (fun c9 => absurd c9 (by omega))
    refine ev_iconst ?_
    refine ev_ret rfl (by decide) (by decide) ?_
    show jEv _ _ _ _ _ _ _ (_, [(2, 42), (0, (xs 1))], [(0, 0)], _, _, _)
    refine ev_ret rfl (by decide) (by decide) ?_
    show jEv _ _ _ _ _ _ _ (_, [(2, 42), (0, (xs 1)), (0, (xs 2))], [(0, 0)], _, _, _)
    refine ev_ifeq f308_13 (fun c10 => ?_) (fun c10 => absurd c10 (by omega))
    refine ev_iconst ?_
    refine ev_ret rfl (by decide) (by decide) ?_
    show jEv _ _ _ _ _ _ _ (_, [(2, (-2)), (2, 0), (2, 42), (0, 0)], [(0, (-1)), (0, (-1))], _, _, _)
    refine ev_icmpeq f384_2190 (fun c11 => ?_) (fun c11 => absurd c11 (by omega))
    exact law_tail _

/-! ask -/
set_option maxHeartbeats 4000000 in
theorem case_21 {xs : Nat → Int} (hr : ∀ j, -2147483648 ≤ xs j ∧ xs j < 2147483648) {h : JH} (hF : Fresh h) : jEv (jOk 8) (some 6) xs c384_0 600000 7302250 (fun v _ => v = some (0, 1)) (c384_969, [(2, -2), (2, 0), (2, 42), (0, 0)], [], h, 83, 23761) := by
  have r1 := hr 1
  have r2 := hr 2
  have r3 := hr 3
  have r4 := hr 4
  have r5 := hr 5
  refine ev_aload_n rfl ?_
  refine ev_aload_n rfl ?_
  refine ev_iload_n rfl ?_
  refine ev_iconst ?_
  refine ev_iadd (r := 1) (by decide) ?_
  refine ev_sald (j := 1) (v := (xs 1)) rfl rfl rfl ?_
  refine ev_aload_n rfl ?_
  refine ev_iload_n rfl ?_
  refine ev_iconst ?_
  refine ev_iadd (r := 2) (by decide) ?_
  refine ev_sald (j := 2) (v := (xs 2)) rfl rfl rfl ?_
  refine ev_aload_n rfl ?_
  refine ev_iload_n rfl ?_
  refine ev_iconst ?_
  refine ev_iadd (r := 3) (by decide) ?_
  refine ev_sald (j := 3) (v := (xs 3)) rfl rfl rfl ?_
  refine ev_in (d := 7) (a := 0) (b := 0) (cd' := c187_0) (m := 9) (L0 := [(2, 0), (0, (xs 1)), (0, (xs 2)), (0, (xs 3)), (9, 0), (9, 0), (9, 0), (9, 0), (9, 0)]) (jcall_v (A := [(0, (xs 3)), (0, (xs 2)), (0, (xs 1))]) (S' := []) (r := 0) rfl (hF.1.lt (by decide)) (hF.1.sh (by decide) rfl).1 (Nat.le_of_ble_eq_true rfl)) (by decide) ml187 pp187 (Nat.le_of_ble_eq_true rfl) rfl (by decide) (by decide) ?_
  refine ev_aload_n rfl ?_
  refine ev_iload_n rfl ?_
  refine ev_in (d := 6) (a := 0) (b := 0) (cd' := c219_0) (m := 2) (L0 := [(2, 0), (0, (xs 1))]) (jcall_v (A := [(0, (xs 1))]) (S' := []) (r := 0) rfl (hF.1.lt (by decide)) (hF.1.sh (by decide) rfl).1 (Nat.le_of_ble_eq_true rfl)) (by decide) ml219 pp219 (Nat.le_of_ble_eq_true rfl) rfl (by decide) (by decide) ?_
  refine ev_iload_n rfl ?_
  refine ev_iflt f219_12 (fun c1 => ?_) (fun c1 => ?_)
  · refine ev_aconst_null ?_
    refine ev_goto f219_22 ?_
    refine ev_ret rfl (by decide) (by decide) ?_
    show jEv _ _ _ _ _ _ _ (_, [(2, 0), (0, (xs 1)), (0, (xs 2)), (0, (xs 3)), (9, 0), (9, 0), (9, 0), (9, 0), (9, 0)], [(2, (-1))], _, _, _)
    refine ev_astore (L' := [(2, 0), (0, (xs 1)), (0, (xs 2)), (0, (xs 3)), (2, (-1)), (9, 0), (9, 0), (9, 0), (9, 0)]) (Nat.le_of_ble_eq_true rfl) rfl ?_
    refine ev_aload rfl ?_
    refine ev_ifnull f187_45 (fun c2 => ?_) (fun c2 => absurd c2 (by decide))
    refine ev_ldc2_w ?_
    refine ev_ret rfl (by decide) (by decide) ?_
    show jEv _ _ _ _ _ _ _ (_, [(2, (-2)), (2, 0), (2, 42), (0, 0)], [(1, (-9223372036854775808))], _, _, _)
    refine ev_aload_n rfl ?_
    refine ev_aload_n rfl ?_
    refine ev_iload_n rfl ?_
    refine ev_iconst ?_
    refine ev_iadd (r := 1) (by decide) ?_
    refine ev_sald (j := 1) (v := (xs 1)) rfl rfl rfl ?_
    refine ev_aload_n rfl ?_
    refine ev_iload_n rfl ?_
    refine ev_iconst ?_
    refine ev_iadd (r := 2) (by decide) ?_
    refine ev_sald (j := 2) (v := (xs 2)) rfl rfl rfl ?_
    refine ev_aload_n rfl ?_
    refine ev_iload_n rfl ?_
    refine ev_iconst ?_
    refine ev_iadd (r := 3) (by decide) ?_
    refine ev_sald (j := 3) (v := (xs 3)) rfl rfl rfl ?_
    refine ev_in (d := 7) (a := 0) (b := 0) (cd' := c312_0) (m := 4) (L0 := [(2, 42), (0, (xs 1)), (0, (xs 2)), (0, (xs 3))]) (jcall_v (A := [(0, (xs 3)), (0, (xs 2)), (0, (xs 1))]) (S' := [(1, (-9223372036854775808))]) (r := 42) rfl (hF.1.lt (by decide)) (hF.1.sh (by decide) rfl).1 (Nat.le_of_ble_eq_true rfl)) (by decide) ml312 pp312 (Nat.le_of_ble_eq_true rfl) rfl (by decide) (by decide) ?_
    refine ev_aload_n rfl ?_
    refine ev_iload_n rfl ?_
    refine ev_in (d := 6) (a := 0) (b := 0) (cd' := c261_0) (m := 2) (L0 := [(2, 42), (0, (xs 1))]) (jcall_v (A := [(0, (xs 1))]) (S' := []) (r := 42) rfl (hF.1.lt (by decide)) (hF.1.sh (by decide) rfl).1 (Nat.le_of_ble_eq_true rfl)) (by decide) ml261 pp261 (Nat.le_of_ble_eq_true rfl) rfl (by decide) (by decide) ?_
    refine ev_iload_n rfl ?_
    refine ev_iconst ?_
    refine ev_aload_n rfl ?_
    refine ev_getf (r := 42) (v := 0) (hF.1.lt (by decide)) (hF.1.fam (by decide) (by decide)) ft12_9 ((hF.v rfl)) ?_
    refine ev_iconst ?_
    refine ev_isub (r := (-1)) (by decide) ?_
    refine ev_in (d := 5) (a := 0) (b := 0) (cd' := c242_0) (m := 3) (L0 := [(0, (xs 1)), (0, 0), (0, (-1))]) (jcall_s (A := [(0, (-1)), (0, 0), (0, (xs 1))]) (S' := []) (by decide) rfl (Nat.le_of_ble_eq_true rfl)) (by decide) ml242 pp242 (Nat.le_of_ble_eq_true rfl) rfl (by decide) (by decide) ?_
    refine ev_iload_n rfl ?_
    refine ev_iload_n rfl ?_
    refine ev_icmplt f242_14 (fun c3 => ?_) (fun c3 => absurd c3 (by omega))
    refine ev_iconst ?_
    refine ev_ret rfl (by decide) (by decide) ?_
    show jEv _ _ _ _ _ _ _ (_, [(2, 42), (0, (xs 1))], [(0, 0)], _, _, _)
    refine ev_ret rfl (by decide) (by decide) ?_
    show jEv _ _ _ _ _ _ _ (_, [(2, 42), (0, (xs 1)), (0, (xs 2)), (0, (xs 3))], [(0, 0)], _, _, _)
    refine ev_ifeq f312_30 (fun c4 => ?_) (fun c4 => absurd c4 (by omega))
    refine ev_ldc2_w ?_
    refine ev_ret rfl (by decide) (by decide) ?_
    show jEv _ _ _ _ _ _ _ (_, [(2, (-2)), (2, 0), (2, 42), (0, 0)], [(1, (-9223372036854775808)), (1, (-9223372036854775808))], _, _, _)
    refine ev_lcmp ?_
    refine ev_ifeq f384_2190 (fun c5 => ?_) (fun c5 => absurd (show _ from by unfold jcmpL; (repeat' split) <;> omega) c5)
    exact law_tail _
  · refine ev_iload_n rfl ?_
    refine ev_aload_n rfl ?_
    refine ev_getf (r := 0) (v := 0) (hF.1.lt (by decide)) (hF.1.fam (by decide) (by decide)) ft11_3 ((hF.v rfl)) ?_
    refine ev_icmplt f219_16 (fun c6 => absurd c6 (by omega)) (fun c6 => ?_)
    refine ev_aconst_null ?_
    refine ev_goto f219_22 ?_
    refine ev_ret rfl (by decide) (by decide) ?_
    show jEv _ _ _ _ _ _ _ (_, [(2, 0), (0, (xs 1)), (0, (xs 2)), (0, (xs 3)), (9, 0), (9, 0), (9, 0), (9, 0), (9, 0)], [(2, (-1))], _, _, _)
    refine ev_astore (L' := [(2, 0), (0, (xs 1)), (0, (xs 2)), (0, (xs 3)), (2, (-1)), (9, 0), (9, 0), (9, 0), (9, 0)]) (Nat.le_of_ble_eq_true rfl) rfl ?_
    refine ev_aload rfl ?_
    refine ev_ifnull f187_45 (fun c7 => ?_) (fun c7 => absurd c7 (by decide))
    refine ev_ldc2_w ?_
    refine ev_ret rfl (by decide) (by decide) ?_
    show jEv _ _ _ _ _ _ _ (_, [(2, (-2)), (2, 0), (2, 42), (0, 0)], [(1, (-9223372036854775808))], _, _, _)
    refine ev_aload_n rfl ?_
    refine ev_aload_n rfl ?_
    refine ev_iload_n rfl ?_
    refine ev_iconst ?_
    refine ev_iadd (r := 1) (by decide) ?_
    refine ev_sald (j := 1) (v := (xs 1)) rfl rfl rfl ?_
    refine ev_aload_n rfl ?_
    refine ev_iload_n rfl ?_
    refine ev_iconst ?_
    refine ev_iadd (r := 2) (by decide) ?_
    refine ev_sald (j := 2) (v := (xs 2)) rfl rfl rfl ?_
    refine ev_aload_n rfl ?_
    refine ev_iload_n rfl ?_
    refine ev_iconst ?_
    refine ev_iadd (r := 3) (by decide) ?_
    refine ev_sald (j := 3) (v := (xs 3)) rfl rfl rfl ?_
    refine ev_in (d := 7) (a := 0) (b := 0) (cd' := c312_0) (m := 4) (L0 := [(2, 42), (0, (xs 1)), (0, (xs 2)), (0, (xs 3))]) (jcall_v (A := [(0, (xs 3)), (0, (xs 2)), (0, (xs 1))]) (S' := [(1, (-9223372036854775808))]) (r := 42) rfl (hF.1.lt (by decide)) (hF.1.sh (by decide) rfl).1 (Nat.le_of_ble_eq_true rfl)) (by decide) ml312 pp312 (Nat.le_of_ble_eq_true rfl) rfl (by decide) (by decide) ?_
    refine ev_aload_n rfl ?_
    refine ev_iload_n rfl ?_
    refine ev_in (d := 6) (a := 0) (b := 0) (cd' := c261_0) (m := 2) (L0 := [(2, 42), (0, (xs 1))]) (jcall_v (A := [(0, (xs 1))]) (S' := []) (r := 42) rfl (hF.1.lt (by decide)) (hF.1.sh (by decide) rfl).1 (Nat.le_of_ble_eq_true rfl)) (by decide) ml261 pp261 (Nat.le_of_ble_eq_true rfl) rfl (by decide) (by decide) ?_
    refine ev_iload_n rfl ?_
    refine ev_iconst ?_
    refine ev_aload_n rfl ?_
    refine ev_getf (r := 42) (v := 0) (hF.1.lt (by decide)) (hF.1.fam (by decide) (by decide)) ft12_9 ((hF.v rfl)) ?_
    refine ev_iconst ?_
    refine ev_isub (r := (-1)) (by decide) ?_
    refine ev_in (d := 5) (a := 0) (b := 0) (cd' := c242_0) (m := 3) (L0 := [(0, (xs 1)), (0, 0), (0, (-1))]) (jcall_s (A := [(0, (-1)), (0, 0), (0, (xs 1))]) (S' := []) (by decide) rfl (Nat.le_of_ble_eq_true rfl)) (by decide) ml242 pp242 (Nat.le_of_ble_eq_true rfl) rfl (by decide) (by decide) ?_
    refine ev_iload_n rfl ?_
    refine ev_iload_n rfl ?_
    refine ev_icmplt f242_14 (fun c8 => absurd c8 (by omega)) (fun c8 => ?_)
    refine ev_iload_n rfl ?_
    refine ev_iload_n rfl ?_
    refine ev_icmpgt f242_14 (fun c9 => ?_) (fun c9 => absurd c9 (by omega))
    refine ev_iconst ?_
    refine ev_ret rfl (by decide) (by decide) ?_
    show jEv _ _ _ _ _ _ _ (_, [(2, 42), (0, (xs 1))], [(0, 0)], _, _, _)
    refine ev_ret rfl (by decide) (by decide) ?_
    show jEv _ _ _ _ _ _ _ (_, [(2, 42), (0, (xs 1)), (0, (xs 2)), (0, (xs 3))], [(0, 0)], _, _, _)
    refine ev_ifeq f312_30 (fun c10 => ?_) (fun c10 => absurd c10 (by omega))
    refine ev_ldc2_w ?_
    refine ev_ret rfl (by decide) (by decide) ?_
    show jEv _ _ _ _ _ _ _ (_, [(2, (-2)), (2, 0), (2, 42), (0, 0)], [(1, (-9223372036854775808)), (1, (-9223372036854775808))], _, _, _)
    refine ev_lcmp ?_
    refine ev_ifeq f384_2190 (fun c11 => ?_) (fun c11 => absurd (show _ from by unfold jcmpL; (repeat' split) <;> omega) c11)
    exact law_tail _

/-! together -/
set_option maxHeartbeats 4000000 in
theorem case_22 {xs : Nat → Int} (hr : ∀ j, -2147483648 ≤ xs j ∧ xs j < 2147483648) {h : JH} (hF : Fresh h) : jEv (jOk 8) (some 6) xs c384_0 600000 7302250 (fun v _ => v = some (0, 1)) (c384_1013, [(2, -2), (2, 0), (2, 42), (0, 0)], [], h, 83, 23761) := by
  have r1 := hr 1
  have r2 := hr 2
  have r3 := hr 3
  have r4 := hr 4
  have r5 := hr 5
  refine ev_aload_n rfl ?_
  refine ev_aload_n rfl ?_
  refine ev_iload_n rfl ?_
  refine ev_iconst ?_
  refine ev_iadd (r := 1) (by decide) ?_
  refine ev_sald (j := 1) (v := (xs 1)) rfl rfl rfl ?_
  refine ev_aload_n rfl ?_
  refine ev_iload_n rfl ?_
  refine ev_iconst ?_
  refine ev_iadd (r := 2) (by decide) ?_
  refine ev_sald (j := 2) (v := (xs 2)) rfl rfl rfl ?_
  refine ev_aload_n rfl ?_
  refine ev_iload_n rfl ?_
  refine ev_iconst ?_
  refine ev_iadd (r := 3) (by decide) ?_
  refine ev_sald (j := 3) (v := (xs 3)) rfl rfl rfl ?_
  refine ev_aload_n rfl ?_
  refine ev_iload_n rfl ?_
  refine ev_iconst ?_
  refine ev_iadd (r := 4) (by decide) ?_
  refine ev_sald (j := 4) (v := (xs 4)) rfl rfl rfl ?_
  refine ev_in (d := 7) (a := 0) (b := 0) (cd' := c188_0) (m := 14) (L0 := [(2, 0), (0, (xs 1)), (0, (xs 2)), (0, (xs 3)), (0, (xs 4)), (9, 0), (9, 0), (9, 0), (9, 0), (9, 0), (9, 0), (9, 0), (9, 0), (9, 0)]) (jcall_v (A := [(0, (xs 4)), (0, (xs 3)), (0, (xs 2)), (0, (xs 1))]) (S' := []) (r := 0) rfl (hF.1.lt (by decide)) (hF.1.sh (by decide) rfl).1 (Nat.le_of_ble_eq_true rfl)) (by decide) ml188 pp188 (Nat.le_of_ble_eq_true rfl) rfl (by decide) (by decide) ?_
  refine ev_aload_n rfl ?_
  refine ev_iload_n rfl ?_
  refine ev_in (d := 6) (a := 0) (b := 0) (cd' := c219_0) (m := 2) (L0 := [(2, 0), (0, (xs 1))]) (jcall_v (A := [(0, (xs 1))]) (S' := []) (r := 0) rfl (hF.1.lt (by decide)) (hF.1.sh (by decide) rfl).1 (Nat.le_of_ble_eq_true rfl)) (by decide) ml219 pp219 (Nat.le_of_ble_eq_true rfl) rfl (by decide) (by decide) ?_
  refine ev_iload_n rfl ?_
  refine ev_iflt f219_12 (fun c1 => ?_) (fun c1 => ?_)
  · refine ev_aconst_null ?_
    refine ev_goto f219_22 ?_
    refine ev_ret rfl (by decide) (by decide) ?_
    show jEv _ _ _ _ _ _ _ (_, [(2, 0), (0, (xs 1)), (0, (xs 2)), (0, (xs 3)), (0, (xs 4)), (9, 0), (9, 0), (9, 0), (9, 0), (9, 0), (9, 0), (9, 0), (9, 0), (9, 0)], [(2, (-1))], _, _, _)
    refine ev_astore (L' := [(2, 0), (0, (xs 1)), (0, (xs 2)), (0, (xs 3)), (0, (xs 4)), (2, (-1)), (9, 0), (9, 0), (9, 0), (9, 0), (9, 0), (9, 0), (9, 0), (9, 0)]) (Nat.le_of_ble_eq_true rfl) rfl ?_
    refine ev_aload rfl ?_
    refine ev_ifnull f188_57 (fun c2 => ?_) (fun c2 => absurd c2 (by decide))
    refine ev_ldc2_w ?_
    refine ev_ret rfl (by decide) (by decide) ?_
    show jEv _ _ _ _ _ _ _ (_, [(2, (-2)), (2, 0), (2, 42), (0, 0)], [(1, (-9223372036854775808))], _, _, _)
    refine ev_aload_n rfl ?_
    refine ev_aload_n rfl ?_
    refine ev_iload_n rfl ?_
    refine ev_iconst ?_
    refine ev_iadd (r := 1) (by decide) ?_
    refine ev_sald (j := 1) (v := (xs 1)) rfl rfl rfl ?_
    refine ev_aload_n rfl ?_
    refine ev_iload_n rfl ?_
    refine ev_iconst ?_
    refine ev_iadd (r := 2) (by decide) ?_
    refine ev_sald (j := 2) (v := (xs 2)) rfl rfl rfl ?_
    refine ev_aload_n rfl ?_
    refine ev_iload_n rfl ?_
    refine ev_iconst ?_
    refine ev_iadd (r := 3) (by decide) ?_
    refine ev_sald (j := 3) (v := (xs 3)) rfl rfl rfl ?_
    refine ev_aload_n rfl ?_
    refine ev_iload_n rfl ?_
    refine ev_iconst ?_
    refine ev_iadd (r := 4) (by decide) ?_
    refine ev_sald (j := 4) (v := (xs 4)) rfl rfl rfl ?_
    refine ev_in (d := 7) (a := 0) (b := 0) (cd' := c313_0) (m := 7) (L0 := [(2, 42), (0, (xs 1)), (0, (xs 2)), (0, (xs 3)), (0, (xs 4)), (9, 0), (9, 0)]) (jcall_v (A := [(0, (xs 4)), (0, (xs 3)), (0, (xs 2)), (0, (xs 1))]) (S' := [(1, (-9223372036854775808))]) (r := 42) rfl (hF.1.lt (by decide)) (hF.1.sh (by decide) rfl).1 (Nat.le_of_ble_eq_true rfl)) (by decide) ml313 pp313 (Nat.le_of_ble_eq_true rfl) rfl (by decide) (by decide) ?_
    refine ev_aload_n rfl ?_
    refine ev_iload_n rfl ?_
    refine ev_in (d := 6) (a := 0) (b := 0) (cd' := c261_0) (m := 2) (L0 := [(2, 42), (0, (xs 1))]) (jcall_v (A := [(0, (xs 1))]) (S' := []) (r := 42) rfl (hF.1.lt (by decide)) (hF.1.sh (by decide) rfl).1 (Nat.le_of_ble_eq_true rfl)) (by decide) ml261 pp261 (Nat.le_of_ble_eq_true rfl) rfl (by decide) (by decide) ?_
    refine ev_iload_n rfl ?_
    refine ev_iconst ?_
    refine ev_aload_n rfl ?_
    refine ev_getf (r := 42) (v := 0) (hF.1.lt (by decide)) (hF.1.fam (by decide) (by decide)) ft12_9 ((hF.v rfl)) ?_
    refine ev_iconst ?_
    refine ev_isub (r := (-1)) (by decide) ?_
    refine ev_in (d := 5) (a := 0) (b := 0) (cd' := c242_0) (m := 3) (L0 := [(0, (xs 1)), (0, 0), (0, (-1))]) (jcall_s (A := [(0, (-1)), (0, 0), (0, (xs 1))]) (S' := []) (by decide) rfl (Nat.le_of_ble_eq_true rfl)) (by decide) ml242 pp242 (Nat.le_of_ble_eq_true rfl) rfl (by decide) (by decide) ?_
    refine ev_iload_n rfl ?_
    refine ev_iload_n rfl ?_
    refine ev_icmplt f242_14 (fun c3 => ?_) (fun c3 => absurd c3 (by omega))
    refine ev_iconst ?_
    refine ev_ret rfl (by decide) (by decide) ?_
    show jEv _ _ _ _ _ _ _ (_, [(2, 42), (0, (xs 1))], [(0, 0)], _, _, _)
    refine ev_ret rfl (by decide) (by decide) ?_
    show jEv _ _ _ _ _ _ _ (_, [(2, 42), (0, (xs 1)), (0, (xs 2)), (0, (xs 3)), (0, (xs 4)), (9, 0), (9, 0)], [(0, 0)], _, _, _)
    refine ev_ifeq f313_39 (fun c4 => ?_) (fun c4 => absurd c4 (by omega))
    refine ev_ldc2_w ?_
    refine ev_ret rfl (by decide) (by decide) ?_
    show jEv _ _ _ _ _ _ _ (_, [(2, (-2)), (2, 0), (2, 42), (0, 0)], [(1, (-9223372036854775808)), (1, (-9223372036854775808))], _, _, _)
    refine ev_lcmp ?_
    refine ev_ifeq f384_2190 (fun c5 => ?_) (fun c5 => absurd (show _ from by unfold jcmpL; (repeat' split) <;> omega) c5)
    exact law_tail _
  · refine ev_iload_n rfl ?_
    refine ev_aload_n rfl ?_
    refine ev_getf (r := 0) (v := 0) (hF.1.lt (by decide)) (hF.1.fam (by decide) (by decide)) ft11_3 ((hF.v rfl)) ?_
    refine ev_icmplt f219_16 (fun c6 => absurd c6 (by omega)) (fun c6 => ?_)
    refine ev_aconst_null ?_
    refine ev_goto f219_22 ?_
    refine ev_ret rfl (by decide) (by decide) ?_
    show jEv _ _ _ _ _ _ _ (_, [(2, 0), (0, (xs 1)), (0, (xs 2)), (0, (xs 3)), (0, (xs 4)), (9, 0), (9, 0), (9, 0), (9, 0), (9, 0), (9, 0), (9, 0), (9, 0), (9, 0)], [(2, (-1))], _, _, _)
    refine ev_astore (L' := [(2, 0), (0, (xs 1)), (0, (xs 2)), (0, (xs 3)), (0, (xs 4)), (2, (-1)), (9, 0), (9, 0), (9, 0), (9, 0), (9, 0), (9, 0), (9, 0), (9, 0)]) (Nat.le_of_ble_eq_true rfl) rfl ?_
    refine ev_aload rfl ?_
    refine ev_ifnull f188_57 (fun c7 => ?_) (fun c7 => absurd c7 (by decide))
    refine ev_ldc2_w ?_
    refine ev_ret rfl (by decide) (by decide) ?_
    show jEv _ _ _ _ _ _ _ (_, [(2, (-2)), (2, 0), (2, 42), (0, 0)], [(1, (-9223372036854775808))], _, _, _)
    refine ev_aload_n rfl ?_
    refine ev_aload_n rfl ?_
    refine ev_iload_n rfl ?_
    refine ev_iconst ?_
    refine ev_iadd (r := 1) (by decide) ?_
    refine ev_sald (j := 1) (v := (xs 1)) rfl rfl rfl ?_
    refine ev_aload_n rfl ?_
    refine ev_iload_n rfl ?_
    refine ev_iconst ?_
    refine ev_iadd (r := 2) (by decide) ?_
    refine ev_sald (j := 2) (v := (xs 2)) rfl rfl rfl ?_
    refine ev_aload_n rfl ?_
    refine ev_iload_n rfl ?_
    refine ev_iconst ?_
    refine ev_iadd (r := 3) (by decide) ?_
    refine ev_sald (j := 3) (v := (xs 3)) rfl rfl rfl ?_
    refine ev_aload_n rfl ?_
    refine ev_iload_n rfl ?_
    refine ev_iconst ?_
    refine ev_iadd (r := 4) (by decide) ?_
    refine ev_sald (j := 4) (v := (xs 4)) rfl rfl rfl ?_
    refine ev_in (d := 7) (a := 0) (b := 0) (cd' := c313_0) (m := 7) (L0 := [(2, 42), (0, (xs 1)), (0, (xs 2)), (0, (xs 3)), (0, (xs 4)), (9, 0), (9, 0)]) (jcall_v (A := [(0, (xs 4)), (0, (xs 3)), (0, (xs 2)), (0, (xs 1))]) (S' := [(1, (-9223372036854775808))]) (r := 42) rfl (hF.1.lt (by decide)) (hF.1.sh (by decide) rfl).1 (Nat.le_of_ble_eq_true rfl)) (by decide) ml313 pp313 (Nat.le_of_ble_eq_true rfl) rfl (by decide) (by decide) ?_
    refine ev_aload_n rfl ?_
    refine ev_iload_n rfl ?_
    refine ev_in (d := 6) (a := 0) (b := 0) (cd' := c261_0) (m := 2) (L0 := [(2, 42), (0, (xs 1))]) (jcall_v (A := [(0, (xs 1))]) (S' := []) (r := 42) rfl (hF.1.lt (by decide)) (hF.1.sh (by decide) rfl).1 (Nat.le_of_ble_eq_true rfl)) (by decide) ml261 pp261 (Nat.le_of_ble_eq_true rfl) rfl (by decide) (by decide) ?_
    refine ev_iload_n rfl ?_
    refine ev_iconst ?_
    refine ev_aload_n rfl ?_
    refine ev_getf (r := 42) (v := 0) (hF.1.lt (by decide)) (hF.1.fam (by decide) (by decide)) ft12_9 ((hF.v rfl)) ?_
    refine ev_iconst ?_
    refine ev_isub (r := (-1)) (by decide) ?_
    refine ev_in (d := 5) (a := 0) (b := 0) (cd' := c242_0) (m := 3) (L0 := [(0, (xs 1)), (0, 0), (0, (-1))]) (jcall_s (A := [(0, (-1)), (0, 0), (0, (xs 1))]) (S' := []) (by decide) rfl (Nat.le_of_ble_eq_true rfl)) (by decide) ml242 pp242 (Nat.le_of_ble_eq_true rfl) rfl (by decide) (by decide) ?_
    refine ev_iload_n rfl ?_
    refine ev_iload_n rfl ?_
    refine ev_icmplt f242_14 (fun c8 => absurd c8 (by omega)) (fun c8 => ?_)
    refine ev_iload_n rfl ?_
    refine ev_iload_n rfl ?_
    refine ev_icmpgt f242_14 (fun c9 => ?_) (fun c9 => absurd c9 (by omega))
    refine ev_iconst ?_
    refine ev_ret rfl (by decide) (by decide) ?_
    show jEv _ _ _ _ _ _ _ (_, [(2, 42), (0, (xs 1))], [(0, 0)], _, _, _)
    refine ev_ret rfl (by decide) (by decide) ?_
    show jEv _ _ _ _ _ _ _ (_, [(2, 42), (0, (xs 1)), (0, (xs 2)), (0, (xs 3)), (0, (xs 4)), (9, 0), (9, 0)], [(0, 0)], _, _, _)
    refine ev_ifeq f313_39 (fun c10 => ?_) (fun c10 => absurd c10 (by omega))
    refine ev_ldc2_w ?_
    refine ev_ret rfl (by decide) (by decide) ?_
    show jEv _ _ _ _ _ _ _ (_, [(2, (-2)), (2, 0), (2, 42), (0, 0)], [(1, (-9223372036854775808)), (1, (-9223372036854775808))], _, _, _)
    refine ev_lcmp ?_
    refine ev_ifeq f384_2190 (fun c11 => ?_) (fun c11 => absurd (show _ from by unfold jcmpL; (repeat' split) <;> omega) c11)
    exact law_tail _

/-! first -/
set_option maxHeartbeats 4000000 in
theorem case_23 {xs : Nat → Int} (hr : ∀ j, -2147483648 ≤ xs j ∧ xs j < 2147483648) {h : JH} (hF : Fresh h) : jEv (jOk 8) (some 6) xs c384_0 600000 7302250 (fun v _ => v = some (0, 1)) (c384_1067, [(2, -2), (2, 0), (2, 42), (0, 0)], [], h, 83, 23761) := by
  have r1 := hr 1
  have r2 := hr 2
  have r3 := hr 3
  have r4 := hr 4
  have r5 := hr 5
  refine ev_aload_n rfl ?_
  refine ev_aload_n rfl ?_
  refine ev_iload_n rfl ?_
  refine ev_iconst ?_
  refine ev_iadd (r := 1) (by decide) ?_
  refine ev_sald (j := 1) (v := (xs 1)) rfl rfl rfl ?_
  refine ev_in (d := 7) (a := 0) (b := 0) (cd' := c189_0) (m := 9) (L0 := [(2, 0), (0, (xs 1)), (9, 0), (9, 0), (9, 0), (9, 0), (9, 0), (9, 0), (9, 0)]) (jcall_v (A := [(0, (xs 1))]) (S' := []) (r := 0) rfl (hF.1.lt (by decide)) (hF.1.sh (by decide) rfl).1 (Nat.le_of_ble_eq_true rfl)) (by decide) ml189 pp189 (Nat.le_of_ble_eq_true rfl) rfl (by decide) (by decide) ?_
  refine ev_aload_n rfl ?_
  refine ev_iload_n rfl ?_
  refine ev_in (d := 6) (a := 0) (b := 0) (cd' := c219_0) (m := 2) (L0 := [(2, 0), (0, (xs 1))]) (jcall_v (A := [(0, (xs 1))]) (S' := []) (r := 0) rfl (hF.1.lt (by decide)) (hF.1.sh (by decide) rfl).1 (Nat.le_of_ble_eq_true rfl)) (by decide) ml219 pp219 (Nat.le_of_ble_eq_true rfl) rfl (by decide) (by decide) ?_
  refine ev_iload_n rfl ?_
  refine ev_iflt f219_12 (fun c1 => ?_) (fun c1 => ?_)
  · refine ev_aconst_null ?_
    refine ev_goto f219_22 ?_
    refine ev_ret rfl (by decide) (by decide) ?_
    show jEv _ _ _ _ _ _ _ (_, [(2, 0), (0, (xs 1)), (9, 0), (9, 0), (9, 0), (9, 0), (9, 0), (9, 0), (9, 0)], [(2, (-1))], _, _, _)
    refine ev_astore_n (L' := [(2, 0), (0, (xs 1)), (2, (-1)), (9, 0), (9, 0), (9, 0), (9, 0), (9, 0), (9, 0)]) (Nat.le_of_ble_eq_true rfl) rfl ?_
    refine ev_aload_n rfl ?_
    refine ev_ifnull f189_20 (fun c2 => ?_) (fun c2 => absurd c2 (by decide))
    refine ev_iconst ?_
    refine ev_ret rfl (by decide) (by decide) ?_
    show jEv _ _ _ _ _ _ _ (_, [(2, (-2)), (2, 0), (2, 42), (0, 0)], [(0, (-1))], _, _, _)
    refine ev_aload_n rfl ?_
    refine ev_aload_n rfl ?_
    refine ev_iload_n rfl ?_
    refine ev_iconst ?_
    refine ev_iadd (r := 1) (by decide) ?_
    refine ev_sald (j := 1) (v := (xs 1)) rfl rfl rfl ?_
    refine ev_in (d := 7) (a := 0) (b := 0) (cd' := c314_0) (m := 4) (L0 := [(2, 42), (0, (xs 1)), (9, 0), (9, 0)]) (jcall_v (A := [(0, (xs 1))]) (S' := [(0, (-1))]) (r := 42) rfl (hF.1.lt (by decide)) (hF.1.sh (by decide) rfl).1 (Nat.le_of_ble_eq_true rfl)) (by decide) ml314 pp314 (Nat.le_of_ble_eq_true rfl) rfl (by decide) (by decide) ?_
    refine ev_aload_n rfl ?_
    refine ev_iload_n rfl ?_
    refine ev_in (d := 6) (a := 0) (b := 0) (cd' := c261_0) (m := 2) (L0 := [(2, 42), (0, (xs 1))]) (jcall_v (A := [(0, (xs 1))]) (S' := []) (r := 42) rfl (hF.1.lt (by decide)) (hF.1.sh (by decide) rfl).1 (Nat.le_of_ble_eq_true rfl)) (by decide) ml261 pp261 (Nat.le_of_ble_eq_true rfl) rfl (by decide) (by decide) ?_
    refine ev_iload_n rfl ?_
    refine ev_iconst ?_
    refine ev_aload_n rfl ?_
    refine ev_getf (r := 42) (v := 0) (hF.1.lt (by decide)) (hF.1.fam (by decide) (by decide)) ft12_9 ((hF.v rfl)) ?_
    refine ev_iconst ?_
    refine ev_isub (r := (-1)) (by decide) ?_
    refine ev_in (d := 5) (a := 0) (b := 0) (cd' := c242_0) (m := 3) (L0 := [(0, (xs 1)), (0, 0), (0, (-1))]) (jcall_s (A := [(0, (-1)), (0, 0), (0, (xs 1))]) (S' := []) (by decide) rfl (Nat.le_of_ble_eq_true rfl)) (by decide) ml242 pp242 (Nat.le_of_ble_eq_true rfl) rfl (by decide) (by decide) ?_
    refine ev_iload_n rfl ?_
    refine ev_iload_n rfl ?_
    refine ev_icmplt f242_14 (fun c3 => ?_) (fun c3 => absurd c3 (by omega))
    refine ev_iconst ?_
    refine ev_ret rfl (by decide) (by decide) ?_
    show jEv _ _ _ _ _ _ _ (_, [(2, 42), (0, (xs 1))], [(0, 0)], _, _, _)
    refine ev_ret rfl (by decide) (by decide) ?_
    show jEv _ _ _ _ _ _ _ (_, [(2, 42), (0, (xs 1)), (9, 0), (9, 0)], [(0, 0)], _, _, _)
    refine ev_ifeq f314_15 (fun c4 => ?_) (fun c4 => absurd c4 (by omega))
    refine ev_iconst ?_
    refine ev_ret rfl (by decide) (by decide) ?_
    show jEv _ _ _ _ _ _ _ (_, [(2, (-2)), (2, 0), (2, 42), (0, 0)], [(0, (-1)), (0, (-1))], _, _, _)
    refine ev_icmpeq f384_2190 (fun c5 => ?_) (fun c5 => absurd c5 (by omega))
    exact law_tail _
  · refine ev_iload_n rfl ?_
    refine ev_aload_n rfl ?_
    refine ev_getf (r := 0) (v := 0) (hF.1.lt (by decide)) (hF.1.fam (by decide) (by decide)) ft11_3 ((hF.v rfl)) ?_
    refine ev_icmplt f219_16 (fun c6 => absurd c6 (by omega)) (fun c6 => ?_)
    refine ev_aconst_null ?_
    refine ev_goto f219_22 ?_
    refine ev_ret rfl (by decide) (by decide) ?_
    show jEv _ _ _ _ _ _ _ (_, [(2, 0), (0, (xs 1)), (9, 0), (9, 0), (9, 0), (9, 0), (9, 0), (9, 0), (9, 0)], [(2, (-1))], _, _, _)
    refine ev_astore_n (L' := [(2, 0), (0, (xs 1)), (2, (-1)), (9, 0), (9, 0), (9, 0), (9, 0), (9, 0), (9, 0)]) (Nat.le_of_ble_eq_true rfl) rfl ?_
    refine ev_aload_n rfl ?_
    refine ev_ifnull f189_20 (fun c7 => ?_) (fun c7 => absurd c7 (by decide))
    refine ev_iconst ?_
    refine ev_ret rfl (by decide) (by decide) ?_
    show jEv _ _ _ _ _ _ _ (_, [(2, (-2)), (2, 0), (2, 42), (0, 0)], [(0, (-1))], _, _, _)
    refine ev_aload_n rfl ?_
    refine ev_aload_n rfl ?_
    refine ev_iload_n rfl ?_
    refine ev_iconst ?_
    refine ev_iadd (r := 1) (by decide) ?_
    refine ev_sald (j := 1) (v := (xs 1)) rfl rfl rfl ?_
    refine ev_in (d := 7) (a := 0) (b := 0) (cd' := c314_0) (m := 4) (L0 := [(2, 42), (0, (xs 1)), (9, 0), (9, 0)]) (jcall_v (A := [(0, (xs 1))]) (S' := [(0, (-1))]) (r := 42) rfl (hF.1.lt (by decide)) (hF.1.sh (by decide) rfl).1 (Nat.le_of_ble_eq_true rfl)) (by decide) ml314 pp314 (Nat.le_of_ble_eq_true rfl) rfl (by decide) (by decide) ?_
    refine ev_aload_n rfl ?_
    refine ev_iload_n rfl ?_
    refine ev_in (d := 6) (a := 0) (b := 0) (cd' := c261_0) (m := 2) (L0 := [(2, 42), (0, (xs 1))]) (jcall_v (A := [(0, (xs 1))]) (S' := []) (r := 42) rfl (hF.1.lt (by decide)) (hF.1.sh (by decide) rfl).1 (Nat.le_of_ble_eq_true rfl)) (by decide) ml261 pp261 (Nat.le_of_ble_eq_true rfl) rfl (by decide) (by decide) ?_
    refine ev_iload_n rfl ?_
    refine ev_iconst ?_
    refine ev_aload_n rfl ?_
    refine ev_getf (r := 42) (v := 0) (hF.1.lt (by decide)) (hF.1.fam (by decide) (by decide)) ft12_9 ((hF.v rfl)) ?_
    refine ev_iconst ?_
    refine ev_isub (r := (-1)) (by decide) ?_
    refine ev_in (d := 5) (a := 0) (b := 0) (cd' := c242_0) (m := 3) (L0 := [(0, (xs 1)), (0, 0), (0, (-1))]) (jcall_s (A := [(0, (-1)), (0, 0), (0, (xs 1))]) (S' := []) (by decide) rfl (Nat.le_of_ble_eq_true rfl)) (by decide) ml242 pp242 (Nat.le_of_ble_eq_true rfl) rfl (by decide) (by decide) ?_
    refine ev_iload_n rfl ?_
    refine ev_iload_n rfl ?_
    refine ev_icmplt f242_14 (fun c8 => absurd c8 (by omega)) (fun c8 => ?_)
    refine ev_iload_n rfl ?_
    refine ev_iload_n rfl ?_
    refine ev_icmpgt f242_14 (fun c9 => ?_) (fun c9 => absurd c9 (by omega))
    refine ev_iconst ?_
    refine ev_ret rfl (by decide) (by decide) ?_
    show jEv _ _ _ _ _ _ _ (_, [(2, 42), (0, (xs 1))], [(0, 0)], _, _, _)
    refine ev_ret rfl (by decide) (by decide) ?_
    show jEv _ _ _ _ _ _ _ (_, [(2, 42), (0, (xs 1)), (9, 0), (9, 0)], [(0, 0)], _, _, _)
    refine ev_ifeq f314_15 (fun c10 => ?_) (fun c10 => absurd c10 (by omega))
    refine ev_iconst ?_
    refine ev_ret rfl (by decide) (by decide) ?_
    show jEv _ _ _ _ _ _ _ (_, [(2, (-2)), (2, 0), (2, 42), (0, 0)], [(0, (-1)), (0, (-1))], _, _, _)
    refine ev_icmpeq f384_2190 (fun c11 => ?_) (fun c11 => absurd c11 (by omega))
    exact law_tail _
