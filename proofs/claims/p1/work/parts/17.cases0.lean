/-! thing -/
set_option maxHeartbeats 4000000 in
theorem case_0 {xs : Nat → Int} (hr : ∀ j, -2147483648 ≤ xs j ∧ xs j < 2147483648) {h : JH} (hF : Fresh h) : jEv (jOk 8) (some 6) xs c384_0 600000 7302250 (fun v _ => v = some (0, 1)) (c384_260, [(2, -2), (2, 0), (2, 42), (0, 0)], [], h, 83, 23761) := by
  have r1 := hr 1
  have r2 := hr 2
  have r3 := hr 3
  have r4 := hr 4
  have r5 := hr 5
  refine ev_aload_n rfl ?_
  refine ev_aload_n rfl ?_
  refine ev_iload_n rfl ?_
  refine ev_iconst ?_
  refine ev_iadd (r := 1) (by decide) ?_
  refine ev_sald (j := 1) (v := (xs 1)) rfl rfl rfl ?_
  refine ev_in (d := 7) (a := 0) (b := 0) (cd' := c166_0) (m := 2) (L0 := [(2, 0), (0, (xs 1))]) (jcall_v (A := [(0, (xs 1))]) (S' := []) (r := 0) rfl (hF.1.lt (by decide)) (hF.1.sh (by decide) rfl).1 (Nat.le_of_ble_eq_true rfl)) (by decide) ml166 pp166 (Nat.le_of_ble_eq_true rfl) rfl (by decide) (by decide) ?_
  refine ev_iload_n rfl ?_
  refine ev_iconst ?_
  refine ev_icmplt f166_10 (fun c1 => ?_) (fun c1 => ?_)
  · refine ev_iconst ?_
    refine ev_ret rfl (by decide) (by decide) ?_
    show jEv _ _ _ _ _ _ _ (_, [(2, (-2)), (2, 0), (2, 42), (0, 0)], [(0, (-1))], _, _, _)
    refine ev_aload_n rfl ?_
    refine ev_aload_n rfl ?_
    refine ev_iload_n rfl ?_
    refine ev_iconst ?_
    refine ev_iadd (r := 1) (by decide) ?_
    refine ev_sald (j := 1) (v := (xs 1)) rfl rfl rfl ?_
    refine ev_in (d := 7) (a := 0) (b := 0) (cd' := c247_0) (m := 3) (L0 := [(2, 42), (0, (xs 1)), (9, 0)]) (jcall_v (A := [(0, (xs 1))]) (S' := [(0, (-1))]) (r := 42) rfl (hF.1.lt (by decide)) (hF.1.sh (by decide) rfl).1 (Nat.le_of_ble_eq_true rfl)) (by decide) ml247 pp247 (Nat.le_of_ble_eq_true rfl) rfl (by decide) (by decide) ?_
    refine ev_iload_n rfl ?_
    refine ev_iconst ?_
    refine ev_iconst ?_
    refine ev_in (d := 6) (a := 0) (b := 0) (cd' := c242_0) (m := 3) (L0 := [(0, (xs 1)), (0, 2), (0, 3)]) (jcall_s (A := [(0, 3), (0, 2), (0, (xs 1))]) (S' := []) (by decide) rfl (Nat.le_of_ble_eq_true rfl)) (by decide) ml242 pp242 (Nat.le_of_ble_eq_true rfl) rfl (by decide) (by decide) ?_
    refine ev_iload_n rfl ?_
    refine ev_iload_n rfl ?_
    refine ev_icmplt f242_14 (fun c2 => ?_) (fun c2 => absurd c2 (by omega))
    refine ev_iconst ?_
    refine ev_ret rfl (by decide) (by decide) ?_
    show jEv _ _ _ _ _ _ _ (_, [(2, 42), (0, (xs 1)), (9, 0)], [(0, 0)], _, _, _)
    refine ev_ifne f247_11 (fun c3 => absurd c3 (by omega)) (fun c3 => ?_)
    refine ev_iconst ?_
    refine ev_ret rfl (by decide) (by decide) ?_
    show jEv _ _ _ _ _ _ _ (_, [(2, (-2)), (2, 0), (2, 42), (0, 0)], [(0, (-1)), (0, (-1))], _, _, _)
    refine ev_icmpeq f384_2190 (fun c4 => ?_) (fun c4 => absurd c4 (by omega))
    exact law_tail _
  · refine ev_iload_n rfl ?_
    refine ev_iconst ?_
    refine ev_icmple f166_12 (fun c5 => ?_) (fun c5 => ?_)
    · refine ev_aload_n rfl ?_
      refine ev_getf (r := 0) (v := 0) (hF.1.lt (by decide)) (hF.1.fam (by decide) (by decide)) ft11_3 ((hF.v rfl)) ?_
      refine ev_ifle f166_22 (fun c6 => ?_) (fun c6 => absurd c6 (by omega))
      refine ev_aload_n rfl ?_
      refine ev_getf (r := 0) (v := 1) (hF.1.lt (by decide)) (hF.1.fam (by decide) (by decide)) ft11_0 ((hF.v rfl)) ?_
      refine ev_getf (r := 1) (v := 0) (hF.1.lt (by decide)) (hF.1.fam (by decide) (by decide)) ft10_0 ((hF.v rfl)) ?_
      refine ev_iconst ?_
      refine ev_icmplt f166_38 (fun c7 => ?_) (fun c7 => absurd c7 (by omega))
      refine ev_aload_n rfl ?_
      refine ev_getf (r := 0) (v := 1) (hF.1.lt (by decide)) (hF.1.fam (by decide) (by decide)) ft11_0 ((hF.v rfl)) ?_
      refine ev_iload_n rfl ?_
      refine ev_in (d := 6) (a := 0) (b := 0) (cd' := c139_0) (m := 2) (L0 := [(2, 1), (0, (xs 1))]) (jcall_v (A := [(0, (xs 1))]) (S' := []) (r := 1) rfl (hF.1.lt (by decide)) (hF.1.sh (by decide) rfl).1 (Nat.le_of_ble_eq_true rfl)) (by decide) ml139 pp139 (Nat.le_of_ble_eq_true rfl) rfl (by decide) (by decide) ?_
      refine ev_aload_n rfl ?_
      refine ev_getf (r := 1) (v := 0) (hF.1.lt (by decide)) (hF.1.fam (by decide) (by decide)) ft10_0 ((hF.v rfl)) ?_
      refine ev_iconst ?_
      refine ev_icmplt f139_11 (fun c8 => ?_) (fun c8 => absurd c8 (by omega))
      refine ev_aload_n rfl ?_
      refine ev_getf (r := 1) (v := 2) (hF.1.lt (by decide)) (hF.1.fam (by decide) (by decide)) ft10_3 ((hF.v rfl)) ?_
      refine ev_aload_n rfl ?_
      refine ev_getf (r := 1) (v := 0) (hF.1.lt (by decide)) (hF.1.fam (by decide) (by decide)) ft10_0 ((hF.v rfl)) ?_
      refine ev_iload_n rfl ?_
      refine ev_iastG (r := 2) (j := 0) (hF.1.lt (by decide)) (hF.1.sh (by decide) rfl).1 rfl (hF.1.inb (by decide) (by decide)) (fun h1 e1 => ?_)
      have hS1 := hF.1.wr e1
      refine ev_aload_n rfl ?_
      refine ev_getf (r := 1) (v := 3) (hS1.lt (by decide)) (hS1.fam (by decide) (by decide)) ft10_4 ((jw_ne e1 (Or.inl (by decide))).trans ((hF.v rfl))) ?_
      refine ev_aload_n rfl ?_
      refine ev_getf (r := 1) (v := 0) (hS1.lt (by decide)) (hS1.fam (by decide) (by decide)) ft10_0 ((jw_ne e1 (Or.inl (by decide))).trans ((hF.v rfl))) ?_
      refine ev_iconst ?_
      refine ev_iastG (r := 3) (j := 0) (hS1.lt (by decide)) (hS1.sh (by decide) rfl).1 rfl (hS1.inb (by decide) (by decide)) (fun h2 e2 => ?_)
      have hS2 := hS1.wr e2
      refine ev_aload_n rfl ?_
      refine ev_aload_n rfl ?_
      refine ev_getf (r := 1) (v := 0) (hS2.lt (by decide)) (hS2.fam (by decide) (by decide)) ft10_0 ((jw_ne e2 (Or.inl (by decide))).trans ((jw_ne e1 (Or.inl (by decide))).trans ((hF.v rfl)))) ?_
      refine ev_in (d := 5) (a := 0) (b := 0) (cd' := c144_0) (m := 3) (L0 := [(2, 1), (0, 0), (9, 0)]) (jcall_v (A := [(0, 0)]) (S' := []) (r := 1) rfl (hS2.lt (by decide)) (hS2.sh (by decide) rfl).1 (Nat.le_of_ble_eq_true rfl)) (by decide) ml144 pp144 (Nat.le_of_ble_eq_true rfl) rfl (by decide) (by decide) ?_
      refine ev_iload_n rfl ?_
      refine ev_iconst ?_
      refine ev_iconst ?_
      refine ev_in (d := 4) (a := 0) (b := 0) (cd' := c147_0) (m := 3) (L0 := [(0, 0), (0, 0), (0, 0)]) (jcall_s (A := [(0, 0), (0, 0), (0, 0)]) (S' := []) (by decide) rfl (Nat.le_of_ble_eq_true rfl)) (by decide) ml147 pp147 (Nat.le_of_ble_eq_true rfl) rfl (by decide) (by decide) ?_
      refine ev_bipush ?_
      refine ev_iload_n rfl ?_
      refine ev_imul (r := 0) (by decide) ?_
      refine ev_iconst ?_
      refine ev_iload_n rfl ?_
      refine ev_imul (r := 0) (by decide) ?_
      refine ev_iadd (r := 0) (by decide) ?_
      refine ev_iload_n rfl ?_
      refine ev_iadd (r := 0) (by decide) ?_
      refine ev_ret rfl (by decide) (by decide) ?_
      show jEv _ _ _ _ _ _ _ (_, [(2, 1), (0, 0), (9, 0)], [(0, 0)], _, _, _)
      refine ev_istore_n (L' := [(2, 1), (0, 0), (0, 0)]) (Nat.le_of_ble_eq_true rfl) rfl ?_
      refine ev_iload_n rfl ?_
      refine ev_iload_n rfl ?_
      refine ev_iconst ?_
      refine ev_iadd (r := 1) (by decide) ?_
      refine ev_iconst ?_
      refine ev_iconst ?_
      refine ev_in (d := 4) (a := 0) (b := 0) (cd' := c147_0) (m := 3) (L0 := [(0, 1), (0, 0), (0, 0)]) (jcall_s (A := [(0, 0), (0, 0), (0, 1)]) (S' := [(0, 0)]) (by decide) rfl (Nat.le_of_ble_eq_true rfl)) (by decide) ml147 pp147 (Nat.le_of_ble_eq_true rfl) rfl (by decide) (by decide) ?_
      refine ev_bipush ?_
      refine ev_iload_n rfl ?_
      refine ev_imul (r := 9) (by decide) ?_
      refine ev_iconst ?_
      refine ev_iload_n rfl ?_
      refine ev_imul (r := 0) (by decide) ?_
      refine ev_iadd (r := 9) (by decide) ?_
      refine ev_iload_n rfl ?_
      refine ev_iadd (r := 9) (by decide) ?_
      refine ev_ret rfl (by decide) (by decide) ?_
      show jEv _ _ _ _ _ _ _ (_, [(2, 1), (0, 0), (0, 0)], [(0, 9), (0, 0)], _, _, _)
      refine ev_icmpge f144_38 (fun c9 => absurd c9 (by omega)) (fun c9 => ?_)
      refine ev_iload_n rfl ?_
      refine ev_bipush ?_
      refine ev_icmpge f144_38 (fun c10 => absurd c10 (by omega)) (fun c10 => ?_)
      refine ev_aload_n rfl ?_
      refine ev_getf (r := 1) (v := 4) (hS2.lt (by decide)) (hS2.fam (by decide) (by decide)) ft10_5 ((jw_ne e2 (Or.inl (by decide))).trans ((jw_ne e1 (Or.inl (by decide))).trans ((hF.v rfl)))) ?_
      refine ev_iload_n rfl ?_
      refine ev_iconst ?_
      refine ev_iastG (r := 4) (j := 0) (hS2.lt (by decide)) (hS2.sh (by decide) rfl).1 rfl (hS2.inb (by decide) (by decide)) (fun h3 e3 => ?_)
      have hS3 := hS2.wr e3
      refine ev_iinc (w := 1) (L' := [(2, 1), (0, 0), (0, 1)]) rfl (by decide) rfl ?_
      refine ev_goto f144_7 ?_
      refine ev_iload_n rfl ?_
      refine ev_iload_n rfl ?_
      refine ev_iconst ?_
      refine ev_iadd (r := 1) (by decide) ?_
      refine ev_iconst ?_
      refine ev_iconst ?_
      refine ev_in (d := 4) (a := 0) (b := 0) (cd' := c147_0) (m := 3) (L0 := [(0, 1), (0, 0), (0, 0)]) (jcall_s (A := [(0, 0), (0, 0), (0, 1)]) (S' := [(0, 1)]) (by decide) rfl (Nat.le_of_ble_eq_true rfl)) (by decide) ml147 pp147 (Nat.le_of_ble_eq_true rfl) rfl (by decide) (by decide) ?_
      refine ev_bipush ?_
      refine ev_iload_n rfl ?_
      refine ev_imul (r := 9) (by decide) ?_
      refine ev_iconst ?_
      refine ev_iload_n rfl ?_
      refine ev_imul (r := 0) (by decide) ?_
      refine ev_iadd (r := 9) (by decide) ?_
      refine ev_iload_n rfl ?_
      refine ev_iadd (r := 9) (by decide) ?_
      refine ev_ret rfl (by decide) (by decide) ?_
      show jEv _ _ _ _ _ _ _ (_, [(2, 1), (0, 0), (0, 1)], [(0, 9), (0, 1)], _, _, _)
      refine ev_icmpge f144_38 (fun c11 => absurd c11 (by omega)) (fun c11 => ?_)
      refine ev_iload_n rfl ?_
      refine ev_bipush ?_
      refine ev_icmpge f144_38 (fun c12 => absurd c12 (by omega)) (fun c12 => ?_)
      refine ev_aload_n rfl ?_
      refine ev_getf (r := 1) (v := 4) (hS3.lt (by decide)) (hS3.fam (by decide) (by decide)) ft10_5 ((jw_ne e3 (Or.inl (by decide))).trans ((jw_ne e2 (Or.inl (by decide))).trans ((jw_ne e1 (Or.inl (by decide))).trans ((hF.v rfl))))) ?_
      refine ev_iload_n rfl ?_
      refine ev_iconst ?_
      refine ev_iastG (r := 4) (j := 1) (hS3.lt (by decide)) (hS3.sh (by decide) rfl).1 rfl (hS3.inb (by decide) (by decide)) (fun h4 e4 => ?_)
      have hS4 := hS3.wr e4
      refine ev_iinc (w := 2) (L' := [(2, 1), (0, 0), (0, 2)]) rfl (by decide) rfl ?_
      refine ev_goto f144_7 ?_
      refine ev_iload_n rfl ?_
      refine ev_iload_n rfl ?_
      refine ev_iconst ?_
      refine ev_iadd (r := 1) (by decide) ?_
      refine ev_iconst ?_
      refine ev_iconst ?_
      refine ev_in (d := 4) (a := 0) (b := 0) (cd' := c147_0) (m := 3) (L0 := [(0, 1), (0, 0), (0, 0)]) (jcall_s (A := [(0, 0), (0, 0), (0, 1)]) (S' := [(0, 2)]) (by decide) rfl (Nat.le_of_ble_eq_true rfl)) (by decide) ml147 pp147 (Nat.le_of_ble_eq_true rfl) rfl (by decide) (by decide) ?_
      refine ev_bipush ?_
      refine ev_iload_n rfl ?_
      refine ev_imul (r := 9) (by decide) ?_
      refine ev_iconst ?_
      refine ev_iload_n rfl ?_
      refine ev_imul (r := 0) (by decide) ?_
      refine ev_iadd (r := 9) (by decide) ?_
      refine ev_iload_n rfl ?_
      refine ev_iadd (r := 9) (by decide) ?_
      refine ev_ret rfl (by decide) (by decide) ?_
      show jEv _ _ _ _ _ _ _ (_, [(2, 1), (0, 0), (0, 2)], [(0, 9), (0, 2)], _, _, _)
      refine ev_icmpge f144_38 (fun c13 => absurd c13 (by omega)) (fun c13 => ?_)
      refine ev_iload_n rfl ?_
      refine ev_bipush ?_
      refine ev_icmpge f144_38 (fun c14 => absurd c14 (by omega)) (fun c14 => ?_)
      refine ev_aload_n rfl ?_
      refine ev_getf (r := 1) (v := 4) (hS4.lt (by decide)) (hS4.fam (by decide) (by decide)) ft10_5 ((jw_ne e4 (Or.inl (by decide))).trans ((jw_ne e3 (Or.inl (by decide))).trans ((jw_ne e2 (Or.inl (by decide))).trans ((jw_ne e1 (Or.inl (by decide))).trans ((hF.v rfl)))))) ?_
      refine ev_iload_n rfl ?_
      refine ev_iconst ?_
      refine ev_iastG (r := 4) (j := 2) (hS4.lt (by decide)) (hS4.sh (by decide) rfl).1 rfl (hS4.inb (by decide) (by decide)) (fun h5 e5 => ?_)
      have hS5 := hS4.wr e5
      refine ev_iinc (w := 3) (L' := [(2, 1), (0, 0), (0, 3)]) rfl (by decide) rfl ?_
      refine ev_goto f144_7 ?_
      refine ev_iload_n rfl ?_
      refine ev_iload_n rfl ?_
      refine ev_iconst ?_
      refine ev_iadd (r := 1) (by decide) ?_
      refine ev_iconst ?_
      refine ev_iconst ?_
      refine ev_in (d := 4) (a := 0) (b := 0) (cd' := c147_0) (m := 3) (L0 := [(0, 1), (0, 0), (0, 0)]) (jcall_s (A := [(0, 0), (0, 0), (0, 1)]) (S' := [(0, 3)]) (by decide) rfl (Nat.le_of_ble_eq_true rfl)) (by decide) ml147 pp147 (Nat.le_of_ble_eq_true rfl) rfl (by decide) (by decide) ?_
      refine ev_bipush ?_
      refine ev_iload_n rfl ?_
      refine ev_imul (r := 9) (by decide) ?_
      refine ev_iconst ?_
      refine ev_iload_n rfl ?_
      refine ev_imul (r := 0) (by decide) ?_
      refine ev_iadd (r := 9) (by decide) ?_
      refine ev_iload_n rfl ?_
      refine ev_iadd (r := 9) (by decide) ?_
      refine ev_ret rfl (by decide) (by decide) ?_
      show jEv _ _ _ _ _ _ _ (_, [(2, 1), (0, 0), (0, 3)], [(0, 9), (0, 3)], _, _, _)
      refine ev_icmpge f144_38 (fun c15 => absurd c15 (by omega)) (fun c15 => ?_)
      refine ev_iload_n rfl ?_
      refine ev_bipush ?_
      refine ev_icmpge f144_38 (fun c16 => absurd c16 (by omega)) (fun c16 => ?_)
      refine ev_aload_n rfl ?_
      refine ev_getf (r := 1) (v := 4) (hS5.lt (by decide)) (hS5.fam (by decide) (by decide)) ft10_5 ((jw_ne e5 (Or.inl (by decide))).trans ((jw_ne e4 (Or.inl (by decide))).trans ((jw_ne e3 (Or.inl (by decide))).trans ((jw_ne e2 (Or.inl (by decide))).trans ((jw_ne e1 (Or.inl (by decide))).trans ((hF.v rfl))))))) ?_
      refine ev_iload_n rfl ?_
      refine ev_iconst ?_
      refine ev_iastG (r := 4) (j := 3) (hS5.lt (by decide)) (hS5.sh (by decide) rfl).1 rfl (hS5.inb (by decide) (by decide)) (fun h6 e6 => ?_)
      have hS6 := hS5.wr e6
      refine ev_iinc (w := 4) (L' := [(2, 1), (0, 0), (0, 4)]) rfl (by decide) rfl ?_
      refine ev_goto f144_7 ?_
      refine ev_iload_n rfl ?_
      refine ev_iload_n rfl ?_
      refine ev_iconst ?_
      refine ev_iadd (r := 1) (by decide) ?_
      refine ev_iconst ?_
      refine ev_iconst ?_
      refine ev_in (d := 4) (a := 0) (b := 0) (cd' := c147_0) (m := 3) (L0 := [(0, 1), (0, 0), (0, 0)]) (jcall_s (A := [(0, 0), (0, 0), (0, 1)]) (S' := [(0, 4)]) (by decide) rfl (Nat.le_of_ble_eq_true rfl)) (by decide) ml147 pp147 (Nat.le_of_ble_eq_true rfl) rfl (by decide) (by decide) ?_
      refine ev_bipush ?_
      refine ev_iload_n rfl ?_
      refine ev_imul (r := 9) (by decide) ?_
      refine ev_iconst ?_
      refine ev_iload_n rfl ?_
      refine ev_imul (r := 0) (by decide) ?_
      refine ev_iadd (r := 9) (by decide) ?_
      refine ev_iload_n rfl ?_
      refine ev_iadd (r := 9) (by decide) ?_
      refine ev_ret rfl (by decide) (by decide) ?_
      show jEv _ _ _ _ _ _ _ (_, [(2, 1), (0, 0), (0, 4)], [(0, 9), (0, 4)], _, _, _)
      refine ev_icmpge f144_38 (fun c17 => absurd c17 (by omega)) (fun c17 => ?_)
      refine ev_iload_n rfl ?_
      refine ev_bipush ?_
      refine ev_icmpge f144_38 (fun c18 => absurd c18 (by omega)) (fun c18 => ?_)
      refine ev_aload_n rfl ?_
      refine ev_getf (r := 1) (v := 4) (hS6.lt (by decide)) (hS6.fam (by decide) (by decide)) ft10_5 ((jw_ne e6 (Or.inl (by decide))).trans ((jw_ne e5 (Or.inl (by decide))).trans ((jw_ne e4 (Or.inl (by decide))).trans ((jw_ne e3 (Or.inl (by decide))).trans ((jw_ne e2 (Or.inl (by decide))).trans ((jw_ne e1 (Or.inl (by decide))).trans ((hF.v rfl)))))))) ?_
      refine ev_iload_n rfl ?_
      refine ev_iconst ?_
      refine ev_iastG (r := 4) (j := 4) (hS6.lt (by decide)) (hS6.sh (by decide) rfl).1 rfl (hS6.inb (by decide) (by decide)) (fun h7 e7 => ?_)
      have hS7 := hS6.wr e7
      refine ev_iinc (w := 5) (L' := [(2, 1), (0, 0), (0, 5)]) rfl (by decide) rfl ?_
      refine ev_goto f144_7 ?_
      refine ev_iload_n rfl ?_
      refine ev_iload_n rfl ?_
      refine ev_iconst ?_
      refine ev_iadd (r := 1) (by decide) ?_
      refine ev_iconst ?_
      refine ev_iconst ?_
      refine ev_in (d := 4) (a := 0) (b := 0) (cd' := c147_0) (m := 3) (L0 := [(0, 1), (0, 0), (0, 0)]) (jcall_s (A := [(0, 0), (0, 0), (0, 1)]) (S' := [(0, 5)]) (by decide) rfl (Nat.le_of_ble_eq_true rfl)) (by decide) ml147 pp147 (Nat.le_of_ble_eq_true rfl) rfl (by decide) (by decide) ?_
      refine ev_bipush ?_
      refine ev_iload_n rfl ?_
      refine ev_imul (r := 9) (by decide) ?_
      refine ev_iconst ?_
      refine ev_iload_n rfl ?_
      refine ev_imul (r := 0) (by decide) ?_
      refine ev_iadd (r := 9) (by decide) ?_
      refine ev_iload_n rfl ?_
      refine ev_iadd (r := 9) (by decide) ?_
      refine ev_ret rfl (by decide) (by decide) ?_
      show jEv _ _ _ _ _ _ _ (_, [(2, 1), (0, 0), (0, 5)], [(0, 9), (0, 5)], _, _, _)
      refine ev_icmpge f144_38 (fun c19 => absurd c19 (by omega)) (fun c19 => ?_)
      refine ev_iload_n rfl ?_
      refine ev_bipush ?_
      refine ev_icmpge f144_38 (fun c20 => absurd c20 (by omega)) (fun c20 => ?_)
      refine ev_aload_n rfl ?_
      refine ev_getf (r := 1) (v := 4) (hS7.lt (by decide)) (hS7.fam (by decide) (by decide)) ft10_5 ((jw_ne e7 (Or.inl (by decide))).trans ((jw_ne e6 (Or.inl (by decide))).trans ((jw_ne e5 (Or.inl (by decide))).trans ((jw_ne e4 (Or.inl (by decide))).trans ((jw_ne e3 (Or.inl (by decide))).trans ((jw_ne e2 (Or.inl (by decide))).trans ((jw_ne e1 (Or.inl (by decide))).trans ((hF.v rfl))))))))) ?_
      refine ev_iload_n rfl ?_
      refine ev_iconst ?_
      refine ev_iastG (r := 4) (j := 5) (hS7.lt (by decide)) (hS7.sh (by decide) rfl).1 rfl (hS7.inb (by decide) (by decide)) (fun h8 e8 => ?_)
      have hS8 := hS7.wr e8
      refine ev_iinc (w := 6) (L' := [(2, 1), (0, 0), (0, 6)]) rfl (by decide) rfl ?_
      refine ev_goto f144_7 ?_
      refine ev_iload_n rfl ?_
      refine ev_iload_n rfl ?_
      refine ev_iconst ?_
      refine ev_iadd (r := 1) (by decide) ?_
      refine ev_iconst ?_
      refine ev_iconst ?_
      refine ev_in (d := 4) (a := 0) (b := 0) (cd' := c147_0) (m := 3) (L0 := [(0, 1), (0, 0), (0, 0)]) (jcall_s (A := [(0, 0), (0, 0), (0, 1)]) (S' := [(0, 6)]) (by decide) rfl (Nat.le_of_ble_eq_true rfl)) (by decide) ml147 pp147 (Nat.le_of_ble_eq_true rfl) rfl (by decide) (by decide) ?_
      refine ev_bipush ?_
      refine ev_iload_n rfl ?_
      refine ev_imul (r := 9) (by decide) ?_
      refine ev_iconst ?_
      refine ev_iload_n rfl ?_
      refine ev_imul (r := 0) (by decide) ?_
      refine ev_iadd (r := 9) (by decide) ?_
      refine ev_iload_n rfl ?_
      refine ev_iadd (r := 9) (by decide) ?_
      refine ev_ret rfl (by decide) (by decide) ?_
      show jEv _ _ _ _ _ _ _ (_, [(2, 1), (0, 0), (0, 6)], [(0, 9), (0, 6)], _, _, _)
      refine ev_icmpge f144_38 (fun c21 => absurd c21 (by omega)) (fun c21 => ?_)
      refine ev_iload_n rfl ?_
      refine ev_bipush ?_
      refine ev_icmpge f144_38 (fun c22 => absurd c22 (by omega)) (fun c22 => ?_)
      refine ev_aload_n rfl ?_
      refine ev_getf (r := 1) (v := 4) (hS8.lt (by decide)) (hS8.fam (by decide) (by decide)) ft10_5 ((jw_ne e8 (Or.inl (by decide))).trans ((jw_ne e7 (Or.inl (by decide))).trans ((jw_ne e6 (Or.inl (by decide))).trans ((jw_ne e5 (Or.inl (by decide))).trans ((jw_ne e4 (Or.inl (by decide))).trans ((jw_ne e3 (Or.inl (by decide))).trans ((jw_ne e2 (Or.inl (by decide))).trans ((jw_ne e1 (Or.inl (by decide))).trans ((hF.v rfl)))))))))) ?_
      refine ev_iload_n rfl ?_
      refine ev_iconst ?_
      refine ev_iastG (r := 4) (j := 6) (hS8.lt (by decide)) (hS8.sh (by decide) rfl).1 rfl (hS8.inb (by decide) (by decide)) (fun h9 e9 => ?_)
      have hS9 := hS8.wr e9
      refine ev_iinc (w := 7) (L' := [(2, 1), (0, 0), (0, 7)]) rfl (by decide) rfl ?_
      refine ev_goto f144_7 ?_
      refine ev_iload_n rfl ?_
      refine ev_iload_n rfl ?_
      refine ev_iconst ?_
      refine ev_iadd (r := 1) (by decide) ?_
      refine ev_iconst ?_
      refine ev_iconst ?_
      refine ev_in (d := 4) (a := 0) (b := 0) (cd' := c147_0) (m := 3) (L0 := [(0, 1), (0, 0), (0, 0)]) (jcall_s (A := [(0, 0), (0, 0), (0, 1)]) (S' := [(0, 7)]) (by decide) rfl (Nat.le_of_ble_eq_true rfl)) (by decide) ml147 pp147 (Nat.le_of_ble_eq_true rfl) rfl (by decide) (by decide) ?_
      refine ev_bipush ?_
      refine ev_iload_n rfl ?_
      refine ev_imul (r := 9) (by decide) ?_
      refine ev_iconst ?_
      refine ev_iload_n rfl ?_
      refine ev_imul (r := 0) (by decide) ?_
      refine ev_iadd (r := 9) (by decide) ?_
      refine ev_iload_n rfl ?_
      refine ev_iadd (r := 9) (by decide) ?_
      refine ev_ret rfl (by decide) (by decide) ?_
      show jEv _ _ _ _ _ _ _ (_, [(2, 1), (0, 0), (0, 7)], [(0, 9), (0, 7)], _, _, _)
      refine ev_icmpge f144_38 (fun c23 => absurd c23 (by omega)) (fun c23 => ?_)
      refine ev_iload_n rfl ?_
      refine ev_bipush ?_
      refine ev_icmpge f144_38 (fun c24 => absurd c24 (by omega)) (fun c24 => ?_)
      refine ev_aload_n rfl ?_
      refine ev_getf (r := 1) (v := 4) (hS9.lt (by decide)) (hS9.fam (by decide) (by decide)) ft10_5 ((jw_ne e9 (Or.inl (by decide))).trans ((jw_ne e8 (Or.inl (by decide))).trans ((jw_ne e7 (Or.inl (by decide))).trans ((jw_ne e6 (Or.inl (by decide))).trans ((jw_ne e5 (Or.inl (by decide))).trans ((jw_ne e4 (Or.inl (by decide))).trans ((jw_ne e3 (Or.inl (by decide))).trans ((jw_ne e2 (Or.inl (by decide))).trans ((jw_ne e1 (Or.inl (by decide))).trans ((hF.v rfl))))))))))) ?_
      refine ev_iload_n rfl ?_
      refine ev_iconst ?_
      refine ev_iastG (r := 4) (j := 7) (hS9.lt (by decide)) (hS9.sh (by decide) rfl).1 rfl (hS9.inb (by decide) (by decide)) (fun h10 e10 => ?_)
      have hS10 := hS9.wr e10
      refine ev_iinc (w := 8) (L' := [(2, 1), (0, 0), (0, 8)]) rfl (by decide) rfl ?_
      refine ev_goto f144_7 ?_
      refine ev_iload_n rfl ?_
      refine ev_iload_n rfl ?_
      refine ev_iconst ?_
      refine ev_iadd (r := 1) (by decide) ?_
      refine ev_iconst ?_
      refine ev_iconst ?_
      refine ev_in (d := 4) (a := 0) (b := 0) (cd' := c147_0) (m := 3) (L0 := [(0, 1), (0, 0), (0, 0)]) (jcall_s (A := [(0, 0), (0, 0), (0, 1)]) (S' := [(0, 8)]) (by decide) rfl (Nat.le_of_ble_eq_true rfl)) (by decide) ml147 pp147 (Nat.le_of_ble_eq_true rfl) rfl (by decide) (by decide) ?_
      refine ev_bipush ?_
      refine ev_iload_n rfl ?_
      refine ev_imul (r := 9) (by decide) ?_
      refine ev_iconst ?_
      refine ev_iload_n rfl ?_
      refine ev_imul (r := 0) (by decide) ?_
      refine ev_iadd (r := 9) (by decide) ?_
      refine ev_iload_n rfl ?_
      refine ev_iadd (r := 9) (by decide) ?_
      refine ev_ret rfl (by decide) (by decide) ?_
      show jEv _ _ _ _ _ _ _ (_, [(2, 1), (0, 0), (0, 8)], [(0, 9), (0, 8)], _, _, _)
      refine ev_icmpge f144_38 (fun c25 => absurd c25 (by omega)) (fun c25 => ?_)
      refine ev_iload_n rfl ?_
      refine ev_bipush ?_
      refine ev_icmpge f144_38 (fun c26 => absurd c26 (by omega)) (fun c26 => ?_)
      refine ev_aload_n rfl ?_
      refine ev_getf (r := 1) (v := 4) (hS10.lt (by decide)) (hS10.fam (by decide) (by decide)) ft10_5 ((jw_ne e10 (Or.inl (by decide))).trans ((jw_ne e9 (Or.inl (by decide))).trans ((jw_ne e8 (Or.inl (by decide))).trans ((jw_ne e7 (Or.inl (by decide))).trans ((jw_ne e6 (Or.inl (by decide))).trans ((jw_ne e5 (Or.inl (by decide))).trans ((jw_ne e4 (Or.inl (by decide))).trans ((jw_ne e3 (Or.inl (by decide))).trans ((jw_ne e2 (Or.inl (by decide))).trans ((jw_ne e1 (Or.inl (by decide))).trans ((hF.v rfl)))))))))))) ?_
      refine ev_iload_n rfl ?_
      refine ev_iconst ?_
      refine ev_iastG (r := 4) (j := 8) (hS10.lt (by decide)) (hS10.sh (by decide) rfl).1 rfl (hS10.inb (by decide) (by decide)) (fun h11 e11 => ?_)
      have hS11 := hS10.wr e11
      refine ev_iinc (w := 9) (L' := [(2, 1), (0, 0), (0, 9)]) rfl (by decide) rfl ?_
      refine ev_goto f144_7 ?_
      refine ev_iload_n rfl ?_
      refine ev_iload_n rfl ?_
      refine ev_iconst ?_
      refine ev_iadd (r := 1) (by decide) ?_
      refine ev_iconst ?_
      refine ev_iconst ?_
      refine ev_in (d := 4) (a := 0) (b := 0) (cd' := c147_0) (m := 3) (L0 := [(0, 1), (0, 0), (0, 0)]) (jcall_s (A := [(0, 0), (0, 0), (0, 1)]) (S' := [(0, 9)]) (by decide) rfl (Nat.le_of_ble_eq_true rfl)) (by decide) ml147 pp147 (Nat.le_of_ble_eq_true rfl) rfl (by decide) (by decide) ?_
      refine ev_bipush ?_
      refine ev_iload_n rfl ?_
      refine ev_imul (r := 9) (by decide) ?_
      refine ev_iconst ?_
      refine ev_iload_n rfl ?_
      refine ev_imul (r := 0) (by decide) ?_
      refine ev_iadd (r := 9) (by decide) ?_
      refine ev_iload_n rfl ?_
      refine ev_iadd (r := 9) (by decide) ?_
      refine ev_ret rfl (by decide) (by decide) ?_
      show jEv _ _ _ _ _ _ _ (_, [(2, 1), (0, 0), (0, 9)], [(0, 9), (0, 9)], _, _, _)
      refine ev_icmpge f144_38 (fun c27 => ?_) (fun c27 => absurd c27 (by omega))
      refine ev_ret rfl (by decide) (by decide) ?_
      show jEv _ _ _ _ _ _ _ (_, [(2, 1), (0, (xs 1))], [], _, _, _)
      refine ev_aload_n rfl ?_
      refine ev_dup (by decide) ?_
      refine ev_getf (r := 1) (v := 0) (hS11.lt (by decide)) (hS11.fam (by decide) (by decide)) ft10_0 ((jw_ne e11 (Or.inl (by decide))).trans ((jw_ne e10 (Or.inl (by decide))).trans ((jw_ne e9 (Or.inl (by decide))).trans ((jw_ne e8 (Or.inl (by decide))).trans ((jw_ne e7 (Or.inl (by decide))).trans ((jw_ne e6 (Or.inl (by decide))).trans ((jw_ne e5 (Or.inl (by decide))).trans ((jw_ne e4 (Or.inl (by decide))).trans ((jw_ne e3 (Or.inl (by decide))).trans ((jw_ne e2 (Or.inl (by decide))).trans ((jw_ne e1 (Or.inl (by decide))).trans ((hF.v rfl))))))))))))) ?_
      refine ev_iconst ?_
      refine ev_iadd (r := 1) (by decide) ?_
      refine ev_putfG (r := 1) (hS11.lt (by decide)) (hS11.fam (by decide) (by decide)) ft10_0 (fun e => absurd e nz10_0) (fun e => absurd e (by decide)) (fun h12 e12 => ?_)
      have hS12 := hS11.wr e12
      refine ev_aload_n rfl ?_
      refine ev_iconst ?_
      refine ev_putfG (r := 1) (hS12.lt (by decide)) (hS12.fam (by decide) (by decide)) ft10_2 (fun _ => by decide) (fun e => absurd e (by decide)) (fun h13 e13 => ?_)
      have hS13 := hS12.wr e13
      refine ev_aload_n rfl ?_
      refine ev_getf (r := 1) (v := 1) (hS13.lt (by decide)) (hS13.fam (by decide) (by decide)) ft10_0 ((jw_ne e13 (Or.inr (by decide))).trans (jw_eq e12)) ?_
      refine ev_iconst ?_
      refine ev_isub (r := 0) (by decide) ?_
      refine ev_ret rfl (by decide) (by decide) ?_
      show jEv _ _ _ _ _ _ _ (_, [(2, 0), (0, (xs 1))], [(0, 0)], _, _, _)
      refine ev_ret rfl (by decide) (by decide) ?_
      show jEv _ _ _ _ _ _ _ (_, [(2, (-2)), (2, 0), (2, 42), (0, 0)], [(0, 0)], _, _, _)
      refine ev_aload_n rfl ?_
      refine ev_aload_n rfl ?_
      refine ev_iload_n rfl ?_
      refine ev_iconst ?_
      refine ev_iadd (r := 1) (by decide) ?_
      refine ev_sald (j := 1) (v := (xs 1)) rfl rfl rfl ?_
      refine ev_in (d := 7) (a := 0) (b := 0) (cd' := c247_0) (m := 3) (L0 := [(2, 42), (0, (xs 1)), (9, 0)]) (jcall_v (A := [(0, (xs 1))]) (S' := [(0, 0)]) (r := 42) rfl (hS13.lt (by decide)) (hS13.sh (by decide) rfl).1 (Nat.le_of_ble_eq_true rfl)) (by decide) ml247 pp247 (Nat.le_of_ble_eq_true rfl) rfl (by decide) (by decide) ?_
      refine ev_iload_n rfl ?_
      refine ev_iconst ?_
      refine ev_iconst ?_
      refine ev_in (d := 6) (a := 0) (b := 0) (cd' := c242_0) (m := 3) (L0 := [(0, (xs 1)), (0, 2), (0, 3)]) (jcall_s (A := [(0, 3), (0, 2), (0, (xs 1))]) (S' := []) (by decide) rfl (Nat.le_of_ble_eq_true rfl)) (by decide) ml242 pp242 (Nat.le_of_ble_eq_true rfl) rfl (by decide) (by decide) ?_
      refine ev_iload_n rfl ?_
      refine ev_iload_n rfl ?_
      refine ev_icmplt f242_14 (fun c28 => absurd c28 (by omega)) (fun c28 => ?_)
      refine ev_iload_n rfl ?_
      refine ev_iload_n rfl ?_
      refine ev_icmpgt f242_14 (fun c29 => absurd c29 (by omega)) (fun c29 => ?_)
      refine ev_iconst ?_
      refine ev_goto f242_15 ?_
      refine ev_ret rfl (by decide) (by decide) ?_
      show jEv _ _ _ _ _ _ _ (_, [(2, 42), (0, (xs 1)), (9, 0)], [(0, 1)], _, _, _)
      refine ev_ifne f247_11 (fun c30 => ?_) (fun c30 => absurd c30 (by omega))
      refine ev_aload_n rfl ?_
      refine ev_getf (r := 42) (v := 0) (hS13.lt (by decide)) (hS13.fam (by decide) (by decide)) ft12_9 ((jw_ne e13 (Or.inl (by decide))).trans ((jw_ne e12 (Or.inl (by decide))).trans ((jw_ne e11 (Or.inl (by decide))).trans ((jw_ne e10 (Or.inl (by decide))).trans ((jw_ne e9 (Or.inl (by decide))).trans ((jw_ne e8 (Or.inl (by decide))).trans ((jw_ne e7 (Or.inl (by decide))).trans ((jw_ne e6 (Or.inl (by decide))).trans ((jw_ne e5 (Or.inl (by decide))).trans ((jw_ne e4 (Or.inl (by decide))).trans ((jw_ne e3 (Or.inl (by decide))).trans ((jw_ne e2 (Or.inl (by decide))).trans ((jw_ne e1 (Or.inl (by decide))).trans ((hF.v rfl))))))))))))))) ?_
      refine ev_ifle f247_21 (fun c31 => ?_) (fun c31 => absurd c31 (by omega))
      refine ev_aload_n rfl ?_
      refine ev_getf (r := 42) (v := 0) (hS13.lt (by decide)) (hS13.fam (by decide) (by decide)) ft12_1 ((jw_ne e13 (Or.inl (by decide))).trans ((jw_ne e12 (Or.inl (by decide))).trans ((jw_ne e11 (Or.inl (by decide))).trans ((jw_ne e10 (Or.inl (by decide))).trans ((jw_ne e9 (Or.inl (by decide))).trans ((jw_ne e8 (Or.inl (by decide))).trans ((jw_ne e7 (Or.inl (by decide))).trans ((jw_ne e6 (Or.inl (by decide))).trans ((jw_ne e5 (Or.inl (by decide))).trans ((jw_ne e4 (Or.inl (by decide))).trans ((jw_ne e3 (Or.inl (by decide))).trans ((jw_ne e2 (Or.inl (by decide))).trans ((jw_ne e1 (Or.inl (by decide))).trans ((hF.v rfl))))))))))))))) ?_
      refine ev_iconst ?_
      refine ev_icmpne f247_32 (fun c32 => ?_) (fun c32 => absurd c32 (by omega))
      refine ev_aload_n rfl ?_
      refine ev_getf (r := 42) (v := 43) (hS13.lt (by decide)) (hS13.fam (by decide) (by decide)) ft12_2 ((jw_ne e13 (Or.inl (by decide))).trans ((jw_ne e12 (Or.inl (by decide))).trans ((jw_ne e11 (Or.inl (by decide))).trans ((jw_ne e10 (Or.inl (by decide))).trans ((jw_ne e9 (Or.inl (by decide))).trans ((jw_ne e8 (Or.inl (by decide))).trans ((jw_ne e7 (Or.inl (by decide))).trans ((jw_ne e6 (Or.inl (by decide))).trans ((jw_ne e5 (Or.inl (by decide))).trans ((jw_ne e4 (Or.inl (by decide))).trans ((jw_ne e3 (Or.inl (by decide))).trans ((jw_ne e2 (Or.inl (by decide))).trans ((jw_ne e1 (Or.inl (by decide))).trans ((hF.v rfl))))))))))))))) ?_
      refine ev_aload_n rfl ?_
      refine ev_getf (r := 42) (v := 0) (hS13.lt (by decide)) (hS13.fam (by decide) (by decide)) ft12_1 ((jw_ne e13 (Or.inl (by decide))).trans ((jw_ne e12 (Or.inl (by decide))).trans ((jw_ne e11 (Or.inl (by decide))).trans ((jw_ne e10 (Or.inl (by decide))).trans ((jw_ne e9 (Or.inl (by decide))).trans ((jw_ne e8 (Or.inl (by decide))).trans ((jw_ne e7 (Or.inl (by decide))).trans ((jw_ne e6 (Or.inl (by decide))).trans ((jw_ne e5 (Or.inl (by decide))).trans ((jw_ne e4 (Or.inl (by decide))).trans ((jw_ne e3 (Or.inl (by decide))).trans ((jw_ne e2 (Or.inl (by decide))).trans ((jw_ne e1 (Or.inl (by decide))).trans ((hF.v rfl))))))))))))))) ?_
      refine ev_iload_n rfl ?_
      refine ev_iastG (r := 43) (j := 0) (hS13.lt (by decide)) (hS13.sh (by decide) rfl).1 rfl (hS13.inb (by decide) (by decide)) (fun h14 e14 => ?_)
      have hS14 := hS13.wr e14
      refine ev_bipush ?_
      refine ev_aload_n rfl ?_
      refine ev_getf (r := 42) (v := 0) (hS14.lt (by decide)) (hS14.fam (by decide) (by decide)) ft12_1 ((jw_ne e14 (Or.inl (by decide))).trans ((jw_ne e13 (Or.inl (by decide))).trans ((jw_ne e12 (Or.inl (by decide))).trans ((jw_ne e11 (Or.inl (by decide))).trans ((jw_ne e10 (Or.inl (by decide))).trans ((jw_ne e9 (Or.inl (by decide))).trans ((jw_ne e8 (Or.inl (by decide))).trans ((jw_ne e7 (Or.inl (by decide))).trans ((jw_ne e6 (Or.inl (by decide))).trans ((jw_ne e5 (Or.inl (by decide))).trans ((jw_ne e4 (Or.inl (by decide))).trans ((jw_ne e3 (Or.inl (by decide))).trans ((jw_ne e2 (Or.inl (by decide))).trans ((jw_ne e1 (Or.inl (by decide))).trans ((hF.v rfl)))))))))))))))) ?_
      refine ev_imul (r := 0) (by decide) ?_
      refine ev_istore_n (L' := [(2, 42), (0, (xs 1)), (0, 0)]) (Nat.le_of_ble_eq_true rfl) rfl ?_
      refine ev_iload_n rfl ?_
      refine ev_bipush ?_
      refine ev_aload_n rfl ?_
      refine ev_getf (r := 42) (v := 0) (hS14.lt (by decide)) (hS14.fam (by decide) (by decide)) ft12_1 ((jw_ne e14 (Or.inl (by decide))).trans ((jw_ne e13 (Or.inl (by decide))).trans ((jw_ne e12 (Or.inl (by decide))).trans ((jw_ne e11 (Or.inl (by decide))).trans ((jw_ne e10 (Or.inl (by decide))).trans ((jw_ne e9 (Or.inl (by decide))).trans ((jw_ne e8 (Or.inl (by decide))).trans ((jw_ne e7 (Or.inl (by decide))).trans ((jw_ne e6 (Or.inl (by decide))).trans ((jw_ne e5 (Or.inl (by decide))).trans ((jw_ne e4 (Or.inl (by decide))).trans ((jw_ne e3 (Or.inl (by decide))).trans ((jw_ne e2 (Or.inl (by decide))).trans ((jw_ne e1 (Or.inl (by decide))).trans ((hF.v rfl)))))))))))))))) ?_
      refine ev_imul (r := 0) (by decide) ?_
      refine ev_bipush ?_
      refine ev_iadd (r := 9) (by decide) ?_
      refine ev_icmpge f247_77 (fun c33 => absurd c33 (by omega)) (fun c33 => ?_)
      refine ev_aload_n rfl ?_
      refine ev_getf (r := 42) (v := 45) (hS14.lt (by decide)) (hS14.fam (by decide) (by decide)) ft12_4 ((jw_ne e14 (Or.inl (by decide))).trans ((jw_ne e13 (Or.inl (by decide))).trans ((jw_ne e12 (Or.inl (by decide))).trans ((jw_ne e11 (Or.inl (by decide))).trans ((jw_ne e10 (Or.inl (by decide))).trans ((jw_ne e9 (Or.inl (by decide))).trans ((jw_ne e8 (Or.inl (by decide))).trans ((jw_ne e7 (Or.inl (by decide))).trans ((jw_ne e6 (Or.inl (by decide))).trans ((jw_ne e5 (Or.inl (by decide))).trans ((jw_ne e4 (Or.inl (by decide))).trans ((jw_ne e3 (Or.inl (by decide))).trans ((jw_ne e2 (Or.inl (by decide))).trans ((jw_ne e1 (Or.inl (by decide))).trans ((hF.v rfl)))))))))))))))) ?_
      refine ev_iload_n rfl ?_
      refine ev_iconst ?_
      refine ev_iastG (r := 45) (j := 0) (hS14.lt (by decide)) (hS14.sh (by decide) rfl).1 rfl (hS14.inb (by decide) (by decide)) (fun h15 e15 => ?_)
      have hS15 := hS14.wr e15
      refine ev_iinc (w := 1) (L' := [(2, 42), (0, (xs 1)), (0, 1)]) rfl (by decide) rfl ?_
      refine ev_goto f247_50 ?_
      refine ev_iload_n rfl ?_
      refine ev_bipush ?_
      refine ev_aload_n rfl ?_
      refine ev_getf (r := 42) (v := 0) (hS15.lt (by decide)) (hS15.fam (by decide) (by decide)) ft12_1 ((jw_ne e15 (Or.inl (by decide))).trans ((jw_ne e14 (Or.inl (by decide))).trans ((jw_ne e13 (Or.inl (by decide))).trans ((jw_ne e12 (Or.inl (by decide))).trans ((jw_ne e11 (Or.inl (by decide))).trans ((jw_ne e10 (Or.inl (by decide))).trans ((jw_ne e9 (Or.inl (by decide))).trans ((jw_ne e8 (Or.inl (by decide))).trans ((jw_ne e7 (Or.inl (by decide))).trans ((jw_ne e6 (Or.inl (by decide))).trans ((jw_ne e5 (Or.inl (by decide))).trans ((jw_ne e4 (Or.inl (by decide))).trans ((jw_ne e3 (Or.inl (by decide))).trans ((jw_ne e2 (Or.inl (by decide))).trans ((jw_ne e1 (Or.inl (by decide))).trans ((hF.v rfl))))))))))))))))) ?_
      refine ev_imul (r := 0) (by decide) ?_
      refine ev_bipush ?_
      refine ev_iadd (r := 9) (by decide) ?_
      refine ev_icmpge f247_77 (fun c34 => absurd c34 (by omega)) (fun c34 => ?_)
      refine ev_aload_n rfl ?_
      refine ev_getf (r := 42) (v := 45) (hS15.lt (by decide)) (hS15.fam (by decide) (by decide)) ft12_4 ((jw_ne e15 (Or.inl (by decide))).trans ((jw_ne e14 (Or.inl (by decide))).trans ((jw_ne e13 (Or.inl (by decide))).trans ((jw_ne e12 (Or.inl (by decide))).trans ((jw_ne e11 (Or.inl (by decide))).trans ((jw_ne e10 (Or.inl (by decide))).trans ((jw_ne e9 (Or.inl (by decide))).trans ((jw_ne e8 (Or.inl (by decide))).trans ((jw_ne e7 (Or.inl (by decide))).trans ((jw_ne e6 (Or.inl (by decide))).trans ((jw_ne e5 (Or.inl (by decide))).trans ((jw_ne e4 (Or.inl (by decide))).trans ((jw_ne e3 (Or.inl (by decide))).trans ((jw_ne e2 (Or.inl (by decide))).trans ((jw_ne e1 (Or.inl (by decide))).trans ((hF.v rfl))))))))))))))))) ?_
      refine ev_iload_n rfl ?_
      refine ev_iconst ?_
      refine ev_iastG (r := 45) (j := 1) (hS15.lt (by decide)) (hS15.sh (by decide) rfl).1 rfl (hS15.inb (by decide) (by decide)) (fun h16 e16 => ?_)
      have hS16 := hS15.wr e16
      refine ev_iinc (w := 2) (L' := [(2, 42), (0, (xs 1)), (0, 2)]) rfl (by decide) rfl ?_
      refine ev_goto f247_50 ?_
      refine ev_iload_n rfl ?_
      refine ev_bipush ?_
      refine ev_aload_n rfl ?_
      refine ev_getf (r := 42) (v := 0) (hS16.lt (by decide)) (hS16.fam (by decide) (by decide)) ft12_1 ((jw_ne e16 (Or.inl (by decide))).trans ((jw_ne e15 (Or.inl (by decide))).trans ((jw_ne e14 (Or.inl (by decide))).trans ((jw_ne e13 (Or.inl (by decide))).trans ((jw_ne e12 (Or.inl (by decide))).trans ((jw_ne e11 (Or.inl (by decide))).trans ((jw_ne e10 (Or.inl (by decide))).trans ((jw_ne e9 (Or.inl (by decide))).trans ((jw_ne e8 (Or.inl (by decide))).trans ((jw_ne e7 (Or.inl (by decide))).trans ((jw_ne e6 (Or.inl (by decide))).trans ((jw_ne e5 (Or.inl (by decide))).trans ((jw_ne e4 (Or.inl (by decide))).trans ((jw_ne e3 (Or.inl (by decide))).trans ((jw_ne e2 (Or.inl (by decide))).trans ((jw_ne e1 (Or.inl (by decide))).trans ((hF.v rfl)))))))))))))))))) ?_
      refine ev_imul (r := 0) (by decide) ?_
      refine ev_bipush ?_
      refine ev_iadd (r := 9) (by decide) ?_
      refine ev_icmpge f247_77 (fun c35 => absurd c35 (by omega)) (fun c35 => ?_)
      refine ev_aload_n rfl ?_
      refine ev_getf (r := 42) (v := 45) (hS16.lt (by decide)) (hS16.fam (by decide) (by decide)) ft12_4 ((jw_ne e16 (Or.inl (by decide))).trans ((jw_ne e15 (Or.inl (by decide))).trans ((jw_ne e14 (Or.inl (by decide))).trans ((jw_ne e13 (Or.inl (by decide))).trans ((jw_ne e12 (Or.inl (by decide))).trans ((jw_ne e11 (Or.inl (by decide))).trans ((jw_ne e10 (Or.inl (by decide))).trans ((jw_ne e9 (Or.inl (by decide))).trans ((jw_ne e8 (Or.inl (by decide))).trans ((jw_ne e7 (Or.inl (by decide))).trans ((jw_ne e6 (Or.inl (by decide))).trans ((jw_ne e5 (Or.inl (by decide))).trans ((jw_ne e4 (Or.inl (by decide))).trans ((jw_ne e3 (Or.inl (by decide))).trans ((jw_ne e2 (Or.inl (by decide))).trans ((jw_ne e1 (Or.inl (by decide))).trans ((hF.v rfl)))))))))))))))))) ?_
      refine ev_iload_n rfl ?_
      refine ev_iconst ?_
      refine ev_iastG (r := 45) (j := 2) (hS16.lt (by decide)) (hS16.sh (by decide) rfl).1 rfl (hS16.inb (by decide) (by decide)) (fun h17 e17 => ?_)
      have hS17 := hS16.wr e17
      refine ev_iinc (w := 3) (L' := [(2, 42), (0, (xs 1)), (0, 3)]) rfl (by decide) rfl ?_
      refine ev_goto f247_50 ?_
      refine ev_iload_n rfl ?_
      refine ev_bipush ?_
      refine ev_aload_n rfl ?_
      refine ev_getf (r := 42) (v := 0) (hS17.lt (by decide)) (hS17.fam (by decide) (by decide)) ft12_1 ((jw_ne e17 (Or.inl (by decide))).trans ((jw_ne e16 (Or.inl (by decide))).trans ((jw_ne e15 (Or.inl (by decide))).trans ((jw_ne e14 (Or.inl (by decide))).trans ((jw_ne e13 (Or.inl (by decide))).trans ((jw_ne e12 (Or.inl (by decide))).trans ((jw_ne e11 (Or.inl (by decide))).trans ((jw_ne e10 (Or.inl (by decide))).trans ((jw_ne e9 (Or.inl (by decide))).trans ((jw_ne e8 (Or.inl (by decide))).trans ((jw_ne e7 (Or.inl (by decide))).trans ((jw_ne e6 (Or.inl (by decide))).trans ((jw_ne e5 (Or.inl (by decide))).trans ((jw_ne e4 (Or.inl (by decide))).trans ((jw_ne e3 (Or.inl (by decide))).trans ((jw_ne e2 (Or.inl (by decide))).trans ((jw_ne e1 (Or.inl (by decide))).trans ((hF.v rfl))))))))))))))))))) ?_
      refine ev_imul (r := 0) (by decide) ?_
      refine ev_bipush ?_
      refine ev_iadd (r := 9) (by decide) ?_
      refine ev_icmpge f247_77 (fun c36 => absurd c36 (by omega)) (fun c36 => ?_)
      refine ev_aload_n rfl ?_
      refine ev_getf (r := 42) (v := 45) (hS17.lt (by decide)) (hS17.fam (by decide) (by decide)) ft12_4 ((jw_ne e17 (Or.inl (by decide))).trans ((jw_ne e16 (Or.inl (by decide))).trans ((jw_ne e15 (Or.inl (by decide))).trans ((jw_ne e14 (Or.inl (by decide))).trans ((jw_ne e13 (Or.inl (by decide))).trans ((jw_ne e12 (Or.inl (by decide))).trans ((jw_ne e11 (Or.inl (by decide))).trans ((jw_ne e10 (Or.inl (by decide))).trans ((jw_ne e9 (Or.inl (by decide))).trans ((jw_ne e8 (Or.inl (by decide))).trans ((jw_ne e7 (Or.inl (by decide))).trans ((jw_ne e6 (Or.inl (by decide))).trans ((jw_ne e5 (Or.inl (by decide))).trans ((jw_ne e4 (Or.inl (by decide))).trans ((jw_ne e3 (Or.inl (by decide))).trans ((jw_ne e2 (Or.inl (by decide))).trans ((jw_ne e1 (Or.inl (by decide))).trans ((hF.v rfl))))))))))))))))))) ?_
      refine ev_iload_n rfl ?_
      refine ev_iconst ?_
      refine ev_iastG (r := 45) (j := 3) (hS17.lt (by decide)) (hS17.sh (by decide) rfl).1 rfl (hS17.inb (by decide) (by decide)) (fun h18 e18 => ?_)
      have hS18 := hS17.wr e18
      refine ev_iinc (w := 4) (L' := [(2, 42), (0, (xs 1)), (0, 4)]) rfl (by decide) rfl ?_
      refine ev_goto f247_50 ?_
      refine ev_iload_n rfl ?_
      refine ev_bipush ?_
      refine ev_aload_n rfl ?_
      refine ev_getf (r := 42) (v := 0) (hS18.lt (by decide)) (hS18.fam (by decide) (by decide)) ft12_1 ((jw_ne e18 (Or.inl (by decide))).trans ((jw_ne e17 (Or.inl (by decide))).trans ((jw_ne e16 (Or.inl (by decide))).trans ((jw_ne e15 (Or.inl (by decide))).trans ((jw_ne e14 (Or.inl (by decide))).trans ((jw_ne e13 (Or.inl (by decide))).trans ((jw_ne e12 (Or.inl (by decide))).trans ((jw_ne e11 (Or.inl (by decide))).trans ((jw_ne e10 (Or.inl (by decide))).trans ((jw_ne e9 (Or.inl (by decide))).trans ((jw_ne e8 (Or.inl (by decide))).trans ((jw_ne e7 (Or.inl (by decide))).trans ((jw_ne e6 (Or.inl (by decide))).trans ((jw_ne e5 (Or.inl (by decide))).trans ((jw_ne e4 (Or.inl (by decide))).trans ((jw_ne e3 (Or.inl (by decide))).trans ((jw_ne e2 (Or.inl (by decide))).trans ((jw_ne e1 (Or.inl (by decide))).trans ((hF.v rfl)))))))))))))))))))) ?_
      refine ev_imul (r := 0) (by decide) ?_
      refine ev_bipush ?_
      refine ev_iadd (r := 9) (by decide) ?_
      refine ev_icmpge f247_77 (fun c37 => absurd c37 (by omega)) (fun c37 => ?_)
      refine ev_aload_n rfl ?_
      refine ev_getf (r := 42) (v := 45) (hS18.lt (by decide)) (hS18.fam (by decide) (by decide)) ft12_4 ((jw_ne e18 (Or.inl (by decide))).trans ((jw_ne e17 (Or.inl (by decide))).trans ((jw_ne e16 (Or.inl (by decide))).trans ((jw_ne e15 (Or.inl (by decide))).trans ((jw_ne e14 (Or.inl (by decide))).trans ((jw_ne e13 (Or.inl (by decide))).trans ((jw_ne e12 (Or.inl (by decide))).trans ((jw_ne e11 (Or.inl (by decide))).trans ((jw_ne e10 (Or.inl (by decide))).trans ((jw_ne e9 (Or.inl (by decide))).trans ((jw_ne e8 (Or.inl (by decide))).trans ((jw_ne e7 (Or.inl (by decide))).trans ((jw_ne e6 (Or.inl (by decide))).trans ((jw_ne e5 (Or.inl (by decide))).trans ((jw_ne e4 (Or.inl (by decide))).trans ((jw_ne e3 (Or.inl (by decide))).trans ((jw_ne e2 (Or.inl (by decide))).trans ((jw_ne e1 (Or.inl (by decide))).trans ((hF.v rfl)))))))))))))))))))) ?_
      refine ev_iload_n rfl ?_
      refine ev_iconst ?_
      refine ev_iastG (r := 45) (j := 4) (hS18.lt (by decide)) (hS18.sh (by decide) rfl).1 rfl (hS18.inb (by decide) (by decide)) (fun h19 e19 => ?_)
      have hS19 := hS18.wr e19
      refine ev_iinc (w := 5) (L' := [(2, 42), (0, (xs 1)), (0, 5)]) rfl (by decide) rfl ?_
      refine ev_goto f247_50 ?_
      refine ev_iload_n rfl ?_
      refine ev_bipush ?_
      refine ev_aload_n rfl ?_
      refine ev_getf (r := 42) (v := 0) (hS19.lt (by decide)) (hS19.fam (by decide) (by decide)) ft12_1 ((jw_ne e19 (Or.inl (by decide))).trans ((jw_ne e18 (Or.inl (by decide))).trans ((jw_ne e17 (Or.inl (by decide))).trans ((jw_ne e16 (Or.inl (by decide))).trans ((jw_ne e15 (Or.inl (by decide))).trans ((jw_ne e14 (Or.inl (by decide))).trans ((jw_ne e13 (Or.inl (by decide))).trans ((jw_ne e12 (Or.inl (by decide))).trans ((jw_ne e11 (Or.inl (by decide))).trans ((jw_ne e10 (Or.inl (by decide))).trans ((jw_ne e9 (Or.inl (by decide))).trans ((jw_ne e8 (Or.inl (by decide))).trans ((jw_ne e7 (Or.inl (by decide))).trans ((jw_ne e6 (Or.inl (by decide))).trans ((jw_ne e5 (Or.inl (by decide))).trans ((jw_ne e4 (Or.inl (by decide))).trans ((jw_ne e3 (Or.inl (by decide))).trans ((jw_ne e2 (Or.inl (by decide))).trans ((jw_ne e1 (Or.inl (by decide))).trans ((hF.v rfl))))))))))))))))))))) ?_
      refine ev_imul (r := 0) (by decide) ?_
      refine ev_bipush ?_
      refine ev_iadd (r := 9) (by decide) ?_
      refine ev_icmpge f247_77 (fun c38 => absurd c38 (by omega)) (fun c38 => ?_)
      refine ev_aload_n rfl ?_
      refine ev_getf (r := 42) (v := 45) (hS19.lt (by decide)) (hS19.fam (by decide) (by decide)) ft12_4 ((jw_ne e19 (Or.inl (by decide))).trans ((jw_ne e18 (Or.inl (by decide))).trans ((jw_ne e17 (Or.inl (by decide))).trans ((jw_ne e16 (Or.inl (by decide))).trans ((jw_ne e15 (Or.inl (by decide))).trans ((jw_ne e14 (Or.inl (by decide))).trans ((jw_ne e13 (Or.inl (by decide))).trans ((jw_ne e12 (Or.inl (by decide))).trans ((jw_ne e11 (Or.inl (by decide))).trans ((jw_ne e10 (Or.inl (by decide))).trans ((jw_ne e9 (Or.inl (by decide))).trans ((jw_ne e8 (Or.inl (by decide))).trans ((jw_ne e7 (Or.inl (by decide))).trans ((jw_ne e6 (Or.inl (by decide))).trans ((jw_ne e5 (Or.inl (by decide))).trans ((jw_ne e4 (Or.inl (by decide))).trans ((jw_ne e3 (Or.inl (by decide))).trans ((jw_ne e2 (Or.inl (by decide))).trans ((jw_ne e1 (Or.inl (by decide))).trans ((hF.v rfl))))))))))))))))))))) ?_
      refine ev_iload_n rfl ?_
      refine ev_iconst ?_
      refine ev_iastG (r := 45) (j := 5) (hS19.lt (by decide)) (hS19.sh (by decide) rfl).1 rfl (hS19.inb (by decide) (by decide)) (fun h20 e20 => ?_)
      have hS20 := hS19.wr e20
      refine ev_iinc (w := 6) (L' := [(2, 42), (0, (xs 1)), (0, 6)]) rfl (by decide) rfl ?_
      refine ev_goto f247_50 ?_
      refine ev_iload_n rfl ?_
      refine ev_bipush ?_
      refine ev_aload_n rfl ?_
      refine ev_getf (r := 42) (v := 0) (hS20.lt (by decide)) (hS20.fam (by decide) (by decide)) ft12_1 ((jw_ne e20 (Or.inl (by decide))).trans ((jw_ne e19 (Or.inl (by decide))).trans ((jw_ne e18 (Or.inl (by decide))).trans ((jw_ne e17 (Or.inl (by decide))).trans ((jw_ne e16 (Or.inl (by decide))).trans ((jw_ne e15 (Or.inl (by decide))).trans ((jw_ne e14 (Or.inl (by decide))).trans ((jw_ne e13 (Or.inl (by decide))).trans ((jw_ne e12 (Or.inl (by decide))).trans ((jw_ne e11 (Or.inl (by decide))).trans ((jw_ne e10 (Or.inl (by decide))).trans ((jw_ne e9 (Or.inl (by decide))).trans ((jw_ne e8 (Or.inl (by decide))).trans ((jw_ne e7 (Or.inl (by decide))).trans ((jw_ne e6 (Or.inl (by decide))).trans ((jw_ne e5 (Or.inl (by decide))).trans ((jw_ne e4 (Or.inl (by decide))).trans ((jw_ne e3 (Or.inl (by decide))).trans ((jw_ne e2 (Or.inl (by decide))).trans ((jw_ne e1 (Or.inl (by decide))).trans ((hF.v rfl)))))))))))))))))))))) ?_
      refine ev_imul (r := 0) (by decide) ?_
      refine ev_bipush ?_
      refine ev_iadd (r := 9) (by decide) ?_
      refine ev_icmpge f247_77 (fun c39 => absurd c39 (by omega)) (fun c39 => ?_)
      refine ev_aload_n rfl ?_
      refine ev_getf (r := 42) (v := 45) (hS20.lt (by decide)) (hS20.fam (by decide) (by decide)) ft12_4 ((jw_ne e20 (Or.inl (by decide))).trans ((jw_ne e19 (Or.inl (by decide))).trans ((jw_ne e18 (Or.inl (by decide))).trans ((jw_ne e17 (Or.inl (by decide))).trans ((jw_ne e16 (Or.inl (by decide))).trans ((jw_ne e15 (Or.inl (by decide))).trans ((jw_ne e14 (Or.inl (by decide))).trans ((jw_ne e13 (Or.inl (by decide))).trans ((jw_ne e12 (Or.inl (by decide))).trans ((jw_ne e11 (Or.inl (by decide))).trans ((jw_ne e10 (Or.inl (by decide))).trans ((jw_ne e9 (Or.inl (by decide))).trans ((jw_ne e8 (Or.inl (by decide))).trans ((jw_ne e7 (Or.inl (by decide))).trans ((jw_ne e6 (Or.inl (by decide))).trans ((jw_ne e5 (Or.inl (by decide))).trans ((jw_ne e4 (Or.inl (by decide))).trans ((jw_ne e3 (Or.inl (by decide))).trans ((jw_ne e2 (Or.inl (by decide))).trans ((jw_ne e1 (Or.inl (by decide))).trans ((hF.v rfl)))))))))))))))))))))) ?_
      refine ev_iload_n rfl ?_
      refine ev_iconst ?_
      refine ev_iastG (r := 45) (j := 6) (hS20.lt (by decide)) (hS20.sh (by decide) rfl).1 rfl (hS20.inb (by decide) (by decide)) (fun h21 e21 => ?_)
      have hS21 := hS20.wr e21
      refine ev_iinc (w := 7) (L' := [(2, 42), (0, (xs 1)), (0, 7)]) rfl (by decide) rfl ?_
      refine ev_goto f247_50 ?_
      refine ev_iload_n rfl ?_
      refine ev_bipush ?_
      refine ev_aload_n rfl ?_
      refine ev_getf (r := 42) (v := 0) (hS21.lt (by decide)) (hS21.fam (by decide) (by decide)) ft12_1 ((jw_ne e21 (Or.inl (by decide))).trans ((jw_ne e20 (Or.inl (by decide))).trans ((jw_ne e19 (Or.inl (by decide))).trans ((jw_ne e18 (Or.inl (by decide))).trans ((jw_ne e17 (Or.inl (by decide))).trans ((jw_ne e16 (Or.inl (by decide))).trans ((jw_ne e15 (Or.inl (by decide))).trans ((jw_ne e14 (Or.inl (by decide))).trans ((jw_ne e13 (Or.inl (by decide))).trans ((jw_ne e12 (Or.inl (by decide))).trans ((jw_ne e11 (Or.inl (by decide))).trans ((jw_ne e10 (Or.inl (by decide))).trans ((jw_ne e9 (Or.inl (by decide))).trans ((jw_ne e8 (Or.inl (by decide))).trans ((jw_ne e7 (Or.inl (by decide))).trans ((jw_ne e6 (Or.inl (by decide))).trans ((jw_ne e5 (Or.inl (by decide))).trans ((jw_ne e4 (Or.inl (by decide))).trans ((jw_ne e3 (Or.inl (by decide))).trans ((jw_ne e2 (Or.inl (by decide))).trans ((jw_ne e1 (Or.inl (by decide))).trans ((hF.v rfl))))))))))))))))))))))) ?_
      refine ev_imul (r := 0) (by decide) ?_
      refine ev_bipush ?_
      refine ev_iadd (r := 9) (by decide) ?_
      refine ev_icmpge f247_77 (fun c40 => absurd c40 (by omega)) (fun c40 => ?_)
      refine ev_aload_n rfl ?_
      refine ev_getf (r := 42) (v := 45) (hS21.lt (by decide)) (hS21.fam (by decide) (by decide)) ft12_4 ((jw_ne e21 (Or.inl (by decide))).trans ((jw_ne e20 (Or.inl (by decide))).trans ((jw_ne e19 (Or.inl (by decide))).trans ((jw_ne e18 (Or.inl (by decide))).trans ((jw_ne e17 (Or.inl (by decide))).trans ((jw_ne e16 (Or.inl (by decide))).trans ((jw_ne e15 (Or.inl (by decide))).trans ((jw_ne e14 (Or.inl (by decide))).trans ((jw_ne e13 (Or.inl (by decide))).trans ((jw_ne e12 (Or.inl (by decide))).trans ((jw_ne e11 (Or.inl (by decide))).trans ((jw_ne e10 (Or.inl (by decide))).trans ((jw_ne e9 (Or.inl (by decide))).trans ((jw_ne e8 (Or.inl (by decide))).trans ((jw_ne e7 (Or.inl (by decide))).trans ((jw_ne e6 (Or.inl (by decide))).trans ((jw_ne e5 (Or.inl (by decide))).trans ((jw_ne e4 (Or.inl (by decide))).trans ((jw_ne e3 (Or.inl (by decide))).trans ((jw_ne e2 (Or.inl (by decide))).trans ((jw_ne e1 (Or.inl (by decide))).trans ((hF.v rfl))))))))))))))))))))))) ?_
      refine ev_iload_n rfl ?_
      refine ev_iconst ?_
      refine ev_iastG (r := 45) (j := 7) (hS21.lt (by decide)) (hS21.sh (by decide) rfl).1 rfl (hS21.inb (by decide) (by decide)) (fun h22 e22 => ?_)
      have hS22 := hS21.wr e22
      refine ev_iinc (w := 8) (L' := [(2, 42), (0, (xs 1)), (0, 8)]) rfl (by decide) rfl ?_
      refine ev_goto f247_50 ?_
      refine ev_iload_n rfl ?_
      refine ev_bipush ?_
      refine ev_aload_n rfl ?_
      refine ev_getf (r := 42) (v := 0) (hS22.lt (by decide)) (hS22.fam (by decide) (by decide)) ft12_1 ((jw_ne e22 (Or.inl (by decide))).trans ((jw_ne e21 (Or.inl (by decide))).trans ((jw_ne e20 (Or.inl (by decide))).trans ((jw_ne e19 (Or.inl (by decide))).trans ((jw_ne e18 (Or.inl (by decide))).trans ((jw_ne e17 (Or.inl (by decide))).trans ((jw_ne e16 (Or.inl (by decide))).trans ((jw_ne e15 (Or.inl (by decide))).trans ((jw_ne e14 (Or.inl (by decide))).trans ((jw_ne e13 (Or.inl (by decide))).trans ((jw_ne e12 (Or.inl (by decide))).trans ((jw_ne e11 (Or.inl (by decide))).trans ((jw_ne e10 (Or.inl (by decide))).trans ((jw_ne e9 (Or.inl (by decide))).trans ((jw_ne e8 (Or.inl (by decide))).trans ((jw_ne e7 (Or.inl (by decide))).trans ((jw_ne e6 (Or.inl (by decide))).trans ((jw_ne e5 (Or.inl (by decide))).trans ((jw_ne e4 (Or.inl (by decide))).trans ((jw_ne e3 (Or.inl (by decide))).trans ((jw_ne e2 (Or.inl (by decide))).trans ((jw_ne e1 (Or.inl (by decide))).trans ((hF.v rfl)))))))))))))))))))))))) ?_
      refine ev_imul (r := 0) (by decide) ?_
      refine ev_bipush ?_
      refine ev_iadd (r := 9) (by decide) ?_
      refine ev_icmpge f247_77 (fun c41 => absurd c41 (by omega)) (fun c41 => ?_)
      refine ev_aload_n rfl ?_
      refine ev_getf (r := 42) (v := 45) (hS22.lt (by decide)) (hS22.fam (by decide) (by decide)) ft12_4 ((jw_ne e22 (Or.inl (by decide))).trans ((jw_ne e21 (Or.inl (by decide))).trans ((jw_ne e20 (Or.inl (by decide))).trans ((jw_ne e19 (Or.inl (by decide))).trans ((jw_ne e18 (Or.inl (by decide))).trans ((jw_ne e17 (Or.inl (by decide))).trans ((jw_ne e16 (Or.inl (by decide))).trans ((jw_ne e15 (Or.inl (by decide))).trans ((jw_ne e14 (Or.inl (by decide))).trans ((jw_ne e13 (Or.inl (by decide))).trans ((jw_ne e12 (Or.inl (by decide))).trans ((jw_ne e11 (Or.inl (by decide))).trans ((jw_ne e10 (Or.inl (by decide))).trans ((jw_ne e9 (Or.inl (by decide))).trans ((jw_ne e8 (Or.inl (by decide))).trans ((jw_ne e7 (Or.inl (by decide))).trans ((jw_ne e6 (Or.inl (by decide))).trans ((jw_ne e5 (Or.inl (by decide))).trans ((jw_ne e4 (Or.inl (by decide))).trans ((jw_ne e3 (Or.inl (by decide))).trans ((jw_ne e2 (Or.inl (by decide))).trans ((jw_ne e1 (Or.inl (by decide))).trans ((hF.v rfl)))))))))))))))))))))))) ?_
      refine ev_iload_n rfl ?_
      refine ev_iconst ?_
      refine ev_iastG (r := 45) (j := 8) (hS22.lt (by decide)) (hS22.sh (by decide) rfl).1 rfl (hS22.inb (by decide) (by decide)) (fun h23 e23 => ?_)
      have hS23 := hS22.wr e23
      refine ev_iinc (w := 9) (L' := [(2, 42), (0, (xs 1)), (0, 9)]) rfl (by decide) rfl ?_
      refine ev_goto f247_50 ?_
      refine ev_iload_n rfl ?_
      refine ev_bipush ?_
      refine ev_aload_n rfl ?_
      refine ev_getf (r := 42) (v := 0) (hS23.lt (by decide)) (hS23.fam (by decide) (by decide)) ft12_1 ((jw_ne e23 (Or.inl (by decide))).trans ((jw_ne e22 (Or.inl (by decide))).trans ((jw_ne e21 (Or.inl (by decide))).trans ((jw_ne e20 (Or.inl (by decide))).trans ((jw_ne e19 (Or.inl (by decide))).trans ((jw_ne e18 (Or.inl (by decide))).trans ((jw_ne e17 (Or.inl (by decide))).trans ((jw_ne e16 (Or.inl (by decide))).trans ((jw_ne e15 (Or.inl (by decide))).trans ((jw_ne e14 (Or.inl (by decide))).trans ((jw_ne e13 (Or.inl (by decide))).trans ((jw_ne e12 (Or.inl (by decide))).trans ((jw_ne e11 (Or.inl (by decide))).trans ((jw_ne e10 (Or.inl (by decide))).trans ((jw_ne e9 (Or.inl (by decide))).trans ((jw_ne e8 (Or.inl (by decide))).trans ((jw_ne e7 (Or.inl (by decide))).trans ((jw_ne e6 (Or.inl (by decide))).trans ((jw_ne e5 (Or.inl (by decide))).trans ((jw_ne e4 (Or.inl (by decide))).trans ((jw_ne e3 (Or.inl (by decide))).trans ((jw_ne e2 (Or.inl (by decide))).trans ((jw_ne e1 (Or.inl (by decide))).trans ((hF.v rfl))))))))))))))))))))))))) ?_
      refine ev_imul (r := 0) (by decide) ?_
      refine ev_bipush ?_
      refine ev_iadd (r := 9) (by decide) ?_
      refine ev_icmpge f247_77 (fun c42 => ?_) (fun c42 => absurd c42 (by omega))
      refine ev_aload_n rfl ?_
      refine ev_dup (by decide) ?_
      refine ev_getf (r := 42) (v := 0) (hS23.lt (by decide)) (hS23.fam (by decide) (by decide)) ft12_1 ((jw_ne e23 (Or.inl (by decide))).trans ((jw_ne e22 (Or.inl (by decide))).trans ((jw_ne e21 (Or.inl (by decide))).trans ((jw_ne e20 (Or.inl (by decide))).trans ((jw_ne e19 (Or.inl (by decide))).trans ((jw_ne e18 (Or.inl (by decide))).trans ((jw_ne e17 (Or.inl (by decide))).trans ((jw_ne e16 (Or.inl (by decide))).trans ((jw_ne e15 (Or.inl (by decide))).trans ((jw_ne e14 (Or.inl (by decide))).trans ((jw_ne e13 (Or.inl (by decide))).trans ((jw_ne e12 (Or.inl (by decide))).trans ((jw_ne e11 (Or.inl (by decide))).trans ((jw_ne e10 (Or.inl (by decide))).trans ((jw_ne e9 (Or.inl (by decide))).trans ((jw_ne e8 (Or.inl (by decide))).trans ((jw_ne e7 (Or.inl (by decide))).trans ((jw_ne e6 (Or.inl (by decide))).trans ((jw_ne e5 (Or.inl (by decide))).trans ((jw_ne e4 (Or.inl (by decide))).trans ((jw_ne e3 (Or.inl (by decide))).trans ((jw_ne e2 (Or.inl (by decide))).trans ((jw_ne e1 (Or.inl (by decide))).trans ((hF.v rfl))))))))))))))))))))))))) ?_
      refine ev_iconst ?_
      refine ev_iadd (r := 1) (by decide) ?_
      refine ev_putfG (r := 42) (hS23.lt (by decide)) (hS23.fam (by decide) (by decide)) ft12_1 (fun e => absurd e nz12_1) (fun e => absurd e (by decide)) (fun h24 e24 => ?_)
      have hS24 := hS23.wr e24
      refine ev_aload_n rfl ?_
      refine ev_getf (r := 42) (v := 1) (hS24.lt (by decide)) (hS24.fam (by decide) (by decide)) ft12_1 (jw_eq e24) ?_
      refine ev_iconst ?_
      refine ev_isub (r := 0) (by decide) ?_
      refine ev_ret rfl (by decide) (by decide) ?_
      show jEv _ _ _ _ _ _ _ (_, [(2, (-2)), (2, 0), (2, 42), (0, 0)], [(0, 0), (0, 0)], _, _, _)
      refine ev_icmpeq f384_2190 (fun c43 => ?_) (fun c43 => absurd c43 (by omega))
      exact law_tail _
    · refine ev_iconst ?_
      refine ev_ret rfl (by decide) (by decide) ?_
      show jEv _ _ _ _ _ _ _ (_, [(2, (-2)), (2, 0), (2, 42), (0, 0)], [(0, (-1))], _, _, _)
      refine ev_aload_n rfl ?_
      refine ev_aload_n rfl ?_
      refine ev_iload_n rfl ?_
      refine ev_iconst ?_
      refine ev_iadd (r := 1) (by decide) ?_
      refine ev_sald (j := 1) (v := (xs 1)) rfl rfl rfl ?_
      refine ev_in (d := 7) (a := 0) (b := 0) (cd' := c247_0) (m := 3) (L0 := [(2, 42), (0, (xs 1)), (9, 0)]) (jcall_v (A := [(0, (xs 1))]) (S' := [(0, (-1))]) (r := 42) rfl (hF.1.lt (by decide)) (hF.1.sh (by decide) rfl).1 (Nat.le_of_ble_eq_true rfl)) (by decide) ml247 pp247 (Nat.le_of_ble_eq_true rfl) rfl (by decide) (by decide) ?_
      refine ev_iload_n rfl ?_
      refine ev_iconst ?_
      refine ev_iconst ?_
      refine ev_in (d := 6) (a := 0) (b := 0) (cd' := c242_0) (m := 3) (L0 := [(0, (xs 1)), (0, 2), (0, 3)]) (jcall_s (A := [(0, 3), (0, 2), (0, (xs 1))]) (S' := []) (by decide) rfl (Nat.le_of_ble_eq_true rfl)) (by decide) ml242 pp242 (Nat.le_of_ble_eq_true rfl) rfl (by decide) (by decide) ?_
      refine ev_iload_n rfl ?_
      refine ev_iload_n rfl ?_
      refine ev_icmplt f242_14 (fun c44 => absurd c44 (by omega)) (fun c44 => ?_)
      refine ev_iload_n rfl ?_
      refine ev_iload_n rfl ?_
      refine ev_icmpgt f242_14 (fun c45 => ?_) (fun c45 => absurd c45 (by omega))
      refine ev_iconst ?_
      refine ev_ret rfl (by decide) (by decide) ?_
      show jEv _ _ _ _ _ _ _ (_, [(2, 42), (0, (xs 1)), (9, 0)], [(0, 0)], _, _, _)
      refine ev_ifne f247_11 (fun c46 => absurd c46 (by omega)) (fun c46 => ?_)
      refine ev_iconst ?_
      refine ev_ret rfl (by decide) (by decide) ?_
      show jEv _ _ _ _ _ _ _ (_, [(2, (-2)), (2, 0), (2, 42), (0, 0)], [(0, (-1)), (0, (-1))], _, _, _)
      refine ev_icmpeq f384_2190 (fun c47 => ?_) (fun c47 => absurd c47 (by omega))
      exact law_tail _

/-! hang -/
set_option maxHeartbeats 4000000 in
theorem case_1 {xs : Nat → Int} (hr : ∀ j, -2147483648 ≤ xs j ∧ xs j < 2147483648) {h : JH} (hF : Fresh h) : jEv (jOk 8) (some 6) xs c384_0 600000 7302250 (fun v _ => v = some (0, 1)) (c384_283, [(2, -2), (2, 0), (2, 42), (0, 0)], [], h, 83, 23761) := by
  have r1 := hr 1
  have r2 := hr 2
  have r3 := hr 3
  have r4 := hr 4
  have r5 := hr 5
  refine ev_aload_n rfl ?_
  refine ev_aload_n rfl ?_
  refine ev_iload_n rfl ?_
  refine ev_iconst ?_
  refine ev_iadd (r := 1) (by decide) ?_
  refine ev_sald (j := 1) (v := (xs 1)) rfl rfl rfl ?_
  refine ev_aload_n rfl ?_
  refine ev_iload_n rfl ?_
  refine ev_iconst ?_
  refine ev_iadd (r := 2) (by decide) ?_
  refine ev_sald (j := 2) (v := (xs 2)) rfl rfl rfl ?_
  refine ev_in (d := 7) (a := 0) (b := 0) (cd' := c167_0) (m := 3) (L0 := [(2, 0), (0, (xs 1)), (0, (xs 2))]) (jcall_v (A := [(0, (xs 2)), (0, (xs 1))]) (S' := []) (r := 0) rfl (hF.1.lt (by decide)) (hF.1.sh (by decide) rfl).1 (Nat.le_of_ble_eq_true rfl)) (by decide) ml167 pp167 (Nat.le_of_ble_eq_true rfl) rfl (by decide) (by decide) ?_
  refine ev_aload_n rfl ?_
  refine ev_getf (r := 0) (v := 1) (hF.1.lt (by decide)) (hF.1.fam (by decide) (by decide)) ft11_0 ((hF.v rfl)) ?_
  refine ev_iload_n rfl ?_
  refine ev_in (d := 6) (a := 0) (b := 0) (cd' := c140_0) (m := 2) (L0 := [(2, 1), (0, (xs 1))]) (jcall_v (A := [(0, (xs 1))]) (S' := []) (r := 1) rfl (hF.1.lt (by decide)) (hF.1.sh (by decide) rfl).1 (Nat.le_of_ble_eq_true rfl)) (by decide) ml140 pp140 (Nat.le_of_ble_eq_true rfl) rfl (by decide) (by decide) ?_
  refine ev_iload_n rfl ?_
  refine ev_iflt f140_16 (fun c1 => ?_) (fun c1 => ?_)
  · refine ev_iconst ?_
    refine ev_ret rfl (by decide) (by decide) ?_
    show jEv _ _ _ _ _ _ _ (_, [(2, 0), (0, (xs 1)), (0, (xs 2))], [(0, 0)], _, _, _)
    refine ev_ifeq f167_20 (fun c2 => ?_) (fun c2 => absurd c2 (by omega))
    refine ev_iconst ?_
    refine ev_ret rfl (by decide) (by decide) ?_
    show jEv _ _ _ _ _ _ _ (_, [(2, (-2)), (2, 0), (2, 42), (0, 0)], [(0, (-1))], _, _, _)
    refine ev_aload_n rfl ?_
    refine ev_aload_n rfl ?_
    refine ev_iload_n rfl ?_
    refine ev_iconst ?_
    refine ev_iadd (r := 1) (by decide) ?_
    refine ev_sald (j := 1) (v := (xs 1)) rfl rfl rfl ?_
    refine ev_aload_n rfl ?_
    refine ev_iload_n rfl ?_
    refine ev_iconst ?_
    refine ev_iadd (r := 2) (by decide) ?_
    refine ev_sald (j := 2) (v := (xs 2)) rfl rfl rfl ?_
    refine ev_in (d := 7) (a := 0) (b := 0) (cd' := c248_0) (m := 4) (L0 := [(2, 42), (0, (xs 1)), (0, (xs 2)), (9, 0)]) (jcall_v (A := [(0, (xs 2)), (0, (xs 1))]) (S' := [(0, (-1))]) (r := 42) rfl (hF.1.lt (by decide)) (hF.1.sh (by decide) rfl).1 (Nat.le_of_ble_eq_true rfl)) (by decide) ml248 pp248 (Nat.le_of_ble_eq_true rfl) rfl (by decide) (by decide) ?_
    refine ev_aload_n rfl ?_
    refine ev_iload_n rfl ?_
    refine ev_in (d := 6) (a := 0) (b := 0) (cd' := c245_0) (m := 2) (L0 := [(2, 42), (0, (xs 1))]) (jcall_v (A := [(0, (xs 1))]) (S' := []) (r := 42) rfl (hF.1.lt (by decide)) (hF.1.sh (by decide) rfl).1 (Nat.le_of_ble_eq_true rfl)) (by decide) ml245 pp245 (Nat.le_of_ble_eq_true rfl) rfl (by decide) (by decide) ?_
    refine ev_iload_n rfl ?_
    refine ev_iconst ?_
    refine ev_aload_n rfl ?_
    refine ev_getf (r := 42) (v := 0) (hF.1.lt (by decide)) (hF.1.fam (by decide) (by decide)) ft12_1 ((hF.v rfl)) ?_
    refine ev_iconst ?_
    refine ev_isub (r := (-1)) (by decide) ?_
    refine ev_in (d := 5) (a := 0) (b := 0) (cd' := c242_0) (m := 3) (L0 := [(0, (xs 1)), (0, 0), (0, (-1))]) (jcall_s (A := [(0, (-1)), (0, 0), (0, (xs 1))]) (S' := []) (by decide) rfl (Nat.le_of_ble_eq_true rfl)) (by decide) ml242 pp242 (Nat.le_of_ble_eq_true rfl) rfl (by decide) (by decide) ?_
    refine ev_iload_n rfl ?_
    refine ev_iload_n rfl ?_
    refine ev_icmplt f242_14 (fun c3 => ?_) (fun c3 => absurd c3 (by omega))
    refine ev_iconst ?_
    refine ev_ret rfl (by decide) (by decide) ?_
    show jEv _ _ _ _ _ _ _ (_, [(2, 42), (0, (xs 1))], [(0, 0)], _, _, _)
    refine ev_ret rfl (by decide) (by decide) ?_
    show jEv _ _ _ _ _ _ _ (_, [(2, 42), (0, (xs 1)), (0, (xs 2)), (9, 0)], [(0, 0)], _, _, _)
    refine ev_ifeq f248_19 (fun c4 => ?_) (fun c4 => absurd c4 (by omega))
    refine ev_iconst ?_
    refine ev_ret rfl (by decide) (by decide) ?_
    show jEv _ _ _ _ _ _ _ (_, [(2, (-2)), (2, 0), (2, 42), (0, 0)], [(0, (-1)), (0, (-1))], _, _, _)
    refine ev_icmpeq f384_2190 (fun c5 => ?_) (fun c5 => absurd c5 (by omega))
    exact law_tail _
  · refine ev_iload_n rfl ?_
    refine ev_aload_n rfl ?_
    refine ev_getf (r := 1) (v := 0) (hF.1.lt (by decide)) (hF.1.fam (by decide) (by decide)) ft10_0 ((hF.v rfl)) ?_
    refine ev_icmpge f140_16 (fun c6 => ?_) (fun c6 => absurd c6 (by omega))
    refine ev_iconst ?_
    refine ev_ret rfl (by decide) (by decide) ?_
    show jEv _ _ _ _ _ _ _ (_, [(2, 0), (0, (xs 1)), (0, (xs 2))], [(0, 0)], _, _, _)
    refine ev_ifeq f167_20 (fun c7 => ?_) (fun c7 => absurd c7 (by omega))
    refine ev_iconst ?_
    refine ev_ret rfl (by decide) (by decide) ?_
    show jEv _ _ _ _ _ _ _ (_, [(2, (-2)), (2, 0), (2, 42), (0, 0)], [(0, (-1))], _, _, _)
    refine ev_aload_n rfl ?_
    refine ev_aload_n rfl ?_
    refine ev_iload_n rfl ?_
    refine ev_iconst ?_
    refine ev_iadd (r := 1) (by decide) ?_
    refine ev_sald (j := 1) (v := (xs 1)) rfl rfl rfl ?_
    refine ev_aload_n rfl ?_
    refine ev_iload_n rfl ?_
    refine ev_iconst ?_
    refine ev_iadd (r := 2) (by decide) ?_
    refine ev_sald (j := 2) (v := (xs 2)) rfl rfl rfl ?_
    refine ev_in (d := 7) (a := 0) (b := 0) (cd' := c248_0) (m := 4) (L0 := [(2, 42), (0, (xs 1)), (0, (xs 2)), (9, 0)]) (jcall_v (A := [(0, (xs 2)), (0, (xs 1))]) (S' := [(0, (-1))]) (r := 42) rfl (hF.1.lt (by decide)) (hF.1.sh (by decide) rfl).1 (Nat.le_of_ble_eq_true rfl)) (by decide) ml248 pp248 (Nat.le_of_ble_eq_true rfl) rfl (by decide) (by decide) ?_
    refine ev_aload_n rfl ?_
    refine ev_iload_n rfl ?_
    refine ev_in (d := 6) (a := 0) (b := 0) (cd' := c245_0) (m := 2) (L0 := [(2, 42), (0, (xs 1))]) (jcall_v (A := [(0, (xs 1))]) (S' := []) (r := 42) rfl (hF.1.lt (by decide)) (hF.1.sh (by decide) rfl).1 (Nat.le_of_ble_eq_true rfl)) (by decide) ml245 pp245 (Nat.le_of_ble_eq_true rfl) rfl (by decide) (by decide) ?_
    refine ev_iload_n rfl ?_
    refine ev_iconst ?_
    refine ev_aload_n rfl ?_
    refine ev_getf (r := 42) (v := 0) (hF.1.lt (by decide)) (hF.1.fam (by decide) (by decide)) ft12_1 ((hF.v rfl)) ?_
    refine ev_iconst ?_
    refine ev_isub (r := (-1)) (by decide) ?_
    refine ev_in (d := 5) (a := 0) (b := 0) (cd' := c242_0) (m := 3) (L0 := [(0, (xs 1)), (0, 0), (0, (-1))]) (jcall_s (A := [(0, (-1)), (0, 0), (0, (xs 1))]) (S' := []) (by decide) rfl (Nat.le_of_ble_eq_true rfl)) (by decide) ml242 pp242 (Nat.le_of_ble_eq_true rfl) rfl (by decide) (by decide) ?_
    refine ev_iload_n rfl ?_
    refine ev_iload_n rfl ?_
    refine ev_icmplt f242_14 (fun c8 => absurd c8 (by omega)) (fun c8 => ?_)
    refine ev_iload_n rfl ?_
    refine ev_iload_n rfl ?_
    refine ev_icmpgt f242_14 (fun c9 => ?_) (fun c9 => absurd c9 (by omega))
    refine ev_iconst ?_
    refine ev_ret rfl (by decide) (by decide) ?_
    show jEv _ _ _ _ _ _ _ (_, [(2, 42), (0, (xs 1))], [(0, 0)], _, _, _)
    refine ev_ret rfl (by decide) (by decide) ?_
    show jEv _ _ _ _ _ _ _ (_, [(2, 42), (0, (xs 1)), (0, (xs 2)), (9, 0)], [(0, 0)], _, _, _)
    refine ev_ifeq f248_19 (fun c10 => ?_) (fun c10 => absurd c10 (by omega))
    refine ev_iconst ?_
    refine ev_ret rfl (by decide) (by decide) ?_
    show jEv _ _ _ _ _ _ _ (_, [(2, (-2)), (2, 0), (2, 42), (0, 0)], [(0, (-1)), (0, (-1))], _, _, _)
    refine ev_icmpeq f384_2190 (fun c11 => ?_) (fun c11 => absurd c11 (by omega))
    exact law_tail _
