theorem feelInit {d : Nat} {h : JH} {r s : Nat} {n p : Int} (hr : r < h.1) (hf : jfam 0 (h.2.1 r).1 = true) : jOk (d + 1) 0 0 0 [(2, (r : Int)), (2, (s : Int)), (0, n), (0, p)] h (fun v h' => v = none ∧ h' = jwr (jwr (jwr h r 0 s) r 1 n) r 2 p) := by
  refine ⟨by decide, by rw [ml0]; exact Nat.le_of_ble_eq_true rfl, ?_⟩
  rw [ml0, pp0]
  show jEv _ none _ c0_0 0 0 _ (c0_0, [(2, (r : Int)), (2, (s : Int)), (0, n), (0, p)], [], h, 0, 0)
  refine ev_aload_n rfl ?_
  refine ev_obji (Nat.le_of_ble_eq_true rfl) ?_
  refine ev_aload_n rfl ?_
  refine ev_aload_n rfl ?_
  refine ev_putf (r := r) hr hf ft0_0 (fun e => absurd e nz0_0) (fun _ => by omega) ?_
  refine ev_aload_n rfl ?_
  refine ev_iload_n rfl ?_
  refine ev_putf (r := r) hr hf ft0_1 (fun e => absurd e nz0_1) (fun e => absurd e (by decide)) ?_
  refine ev_aload_n rfl ?_
  refine ev_iload_n rfl ?_
  refine ev_putf (r := r) hr hf ft0_2 (fun e => absurd e nz0_2) (fun e => absurd e (by decide)) ?_
  exact ev_ret rfl (by decide) (by decide) ⟨rfl, rfl⟩
theorem feelInit9 {d : Nat} {h : JH} {r s : Nat} {n p : Int} (hr : r < h.1) (hf : jfam 0 (h.2.1 r).1 = true) : jOk (d + 2) 0 0 9 [(2, (r : Int)), (2, (s : Int)), (0, n), (0, p)] h (fun v h' => v = none ∧ h' = jwr (jwr (jwr h r 0 s) r 1 n) r 2 p) := by
  refine ⟨by decide, by rw [ml9]; exact Nat.le_of_ble_eq_true rfl, ?_⟩
  rw [ml9, pp9]
  show jEv _ none _ c9_0 0 0 _ (c9_0, [(2, (r : Int)), (2, (s : Int)), (0, n), (0, p)], [], h, 0, 0)
  refine ev_aload_n rfl ?_
  refine ev_aload_n rfl ?_
  refine ev_iload_n rfl ?_
  refine ev_iload_n rfl ?_
  refine ev_call (jcall_i (A := [(0, p), (0, n), (2, (s : Int))]) (S' := []) (r := r) (by decide) rfl (Nat.le_of_ble_eq_true rfl)) (feelInit (d := d) hr hf) (by decide) (by decide) (fun v h' q => ?_)
  obtain ⟨rfl, rfl⟩ := q
  exact ev_ret rfl (by decide) (by decide) ⟨rfl, rfl⟩
theorem feelInit13 {d : Nat} {h : JH} {r s : Nat} {n p : Int} (hr : r < h.1) (hf : jfam 0 (h.2.1 r).1 = true) : jOk (d + 2) 0 0 13 [(2, (r : Int)), (2, (s : Int)), (0, n), (0, p)] h (fun v h' => v = none ∧ h' = jwr (jwr (jwr h r 0 s) r 1 n) r 2 p) := by
  refine ⟨by decide, by rw [ml13]; exact Nat.le_of_ble_eq_true rfl, ?_⟩
  rw [ml13, pp13]
  show jEv _ none _ c13_0 0 0 _ (c13_0, [(2, (r : Int)), (2, (s : Int)), (0, n), (0, p)], [], h, 0, 0)
  refine ev_aload_n rfl ?_
  refine ev_aload_n rfl ?_
  refine ev_iload_n rfl ?_
  refine ev_iload_n rfl ?_
  refine ev_call (jcall_i (A := [(0, p), (0, n), (2, (s : Int))]) (S' := []) (r := r) (by decide) rfl (Nat.le_of_ble_eq_true rfl)) (feelInit (d := d) hr hf) (by decide) (by decide) (fun v h' q => ?_)
  obtain ⟨rfl, rfl⟩ := q
  exact ev_ret rfl (by decide) (by decide) ⟨rfl, rfl⟩
theorem feelInit17 {d : Nat} {h : JH} {r s : Nat} {n p : Int} (hr : r < h.1) (hf : jfam 0 (h.2.1 r).1 = true) : jOk (d + 2) 0 0 17 [(2, (r : Int)), (2, (s : Int)), (0, n), (0, p)] h (fun v h' => v = none ∧ h' = jwr (jwr (jwr h r 0 s) r 1 n) r 2 p) := by
  refine ⟨by decide, by rw [ml17]; exact Nat.le_of_ble_eq_true rfl, ?_⟩
  rw [ml17, pp17]
  show jEv _ none _ c17_0 0 0 _ (c17_0, [(2, (r : Int)), (2, (s : Int)), (0, n), (0, p)], [], h, 0, 0)
  refine ev_aload_n rfl ?_
  refine ev_aload_n rfl ?_
  refine ev_iload_n rfl ?_
  refine ev_iload_n rfl ?_
  refine ev_call (jcall_i (A := [(0, p), (0, n), (2, (s : Int))]) (S' := []) (r := r) (by decide) rfl (Nat.le_of_ble_eq_true rfl)) (feelInit (d := d) hr hf) (by decide) (by decide) (fun v h' q => ?_)
  obtain ⟨rfl, rfl⟩ := q
  exact ev_ret rfl (by decide) (by decide) ⟨rfl, rfl⟩
theorem feelInit83 {d : Nat} {h : JH} {r s : Nat} {n p : Int} (hr : r < h.1) (hf : jfam 0 (h.2.1 r).1 = true) : jOk (d + 3) 0 0 83 [(2, (r : Int)), (2, (s : Int)), (0, n), (0, p)] h (fun v h' => v = none ∧ h' = jwr (jwr (jwr h r 0 s) r 1 n) r 2 p) := by
  refine ⟨by decide, by rw [ml83]; exact Nat.le_of_ble_eq_true rfl, ?_⟩
  rw [ml83, pp83]
  show jEv _ none _ c83_0 0 0 _ (c83_0, [(2, (r : Int)), (2, (s : Int)), (0, n), (0, p)], [], h, 0, 0)
  refine ev_aload_n rfl ?_
  refine ev_aload_n rfl ?_
  refine ev_iload_n rfl ?_
  refine ev_iload_n rfl ?_
  refine ev_call (jcall_i (A := [(0, p), (0, n), (2, (s : Int))]) (S' := []) (r := r) (by decide) rfl (Nat.le_of_ble_eq_true rfl)) (feelInit9 (d := d) hr hf) (by decide) (by decide) (fun v h' q => ?_)
  obtain ⟨rfl, rfl⟩ := q
  exact ev_ret rfl (by decide) (by decide) ⟨rfl, rfl⟩
theorem feelInit97 {d : Nat} {h : JH} {r s : Nat} {n p : Int} (hr : r < h.1) (hf : jfam 0 (h.2.1 r).1 = true) : jOk (d + 3) 0 0 97 [(2, (r : Int)), (2, (s : Int)), (0, n), (0, p)] h (fun v h' => v = none ∧ h' = jwr (jwr (jwr h r 0 s) r 1 n) r 2 p) := by
  refine ⟨by decide, by rw [ml97]; exact Nat.le_of_ble_eq_true rfl, ?_⟩
  rw [ml97, pp97]
  show jEv _ none _ c97_0 0 0 _ (c97_0, [(2, (r : Int)), (2, (s : Int)), (0, n), (0, p)], [], h, 0, 0)
  refine ev_aload_n rfl ?_
  refine ev_aload_n rfl ?_
  refine ev_iload_n rfl ?_
  refine ev_iload_n rfl ?_
  refine ev_call (jcall_i (A := [(0, p), (0, n), (2, (s : Int))]) (S' := []) (r := r) (by decide) rfl (Nat.le_of_ble_eq_true rfl)) (feelInit17 (d := d) hr hf) (by decide) (by decide) (fun v h' q => ?_)
  obtain ⟨rfl, rfl⟩ := q
  exact ev_ret rfl (by decide) (by decide) ⟨rfl, rfl⟩
def feelT (c : Int) : Nat := if c = 1 then 1 else if c = 2 then 2 else if c = 3 then 6 else if c = 4 then 3 else if c = 5 then 8 else 0
theorem jn0 : jN 0 = 3 := by decide +kernel
theorem jn1 : jN 1 = 3 := by decide +kernel
theorem jn2 : jN 2 = 3 := by decide +kernel
theorem jn3 : jN 3 = 3 := by decide +kernel
theorem jn6 : jN 6 = 3 := by decide +kernel
theorem jn8 : jN 8 = 3 := by decide +kernel
theorem newFeel {d : Nat} {h : JH} {s : Nat} {c n p : Int} (h0 : 0 < h.1) (hf : jfam 11 (h.2.1 0).1 = true) (hs : h.2.2 0 4 = (s : Int)) (hs2 : s < h.1) : jOk (d + 4) 1 3 225 [(2, 0), (0, c), (0, n), (0, p)] h (fun v h' => v = some (2, (h.1 : Int)) ∧ h' = jwr (jwr (jwr (jnew h (feelT c) 3) h.1 0 s) h.1 1 n) h.1 2 p) := by
  refine ⟨by decide, by rw [ml225]; exact Nat.le_of_ble_eq_true rfl, ?_⟩
  rw [ml225, pp225]
  show jEv _ none _ c225_0 1 3 _ (c225_0, [(2, 0), (0, c), (0, n), (0, p)], [], h, 0, 0)
  refine ev_iload_n rfl ?_
  rcases (show c = 1 ∨ c = 2 ∨ c = 3 ∨ c = 4 ∨ c = 5 ∨ (c < 1 ∨ 5 < c) by omega) with hc | hc | hc | hc | hc | hc
  · refine ev_sw (t := 36) (by rw [hc]; decide) f225_36 ?_
    have et : feelT c = 1 := by rw [hc]; rfl
    rw [et]
    refine ev_new jn1 (by decide) (by decide) ?_
    refine ev_dup (by decide) ?_
    refine ev_aload_n rfl ?_
    have hne : ¬ (0 : Nat) = h.1 := by omega
    refine ev_getf (r := 0) (v := (s : Int)) (Nat.lt_succ_of_lt h0) (by show jfam 11 (if 0 = h.1 then (1, 3) else h.2.1 0).1 = true; rw [if_neg hne]; exact hf) ft11_4 (by show (if 0 = h.1 then jdef 1 4 else h.2.2 0 4) = (s : Int); rw [if_neg hne]; exact hs) ?_
    refine ev_iload_n rfl ?_
    refine ev_iload_n rfl ?_
    refine ev_call (jcall_i (A := [(0, p), (0, n), (2, (s : Int))]) (S' := [(2, (h.1 : Int))]) (r := h.1) (by decide) rfl (Nat.le_of_ble_eq_true rfl)) (feelInit9 (d := d + 1) (Nat.lt_succ_self _) (by show jfam 0 (if h.1 = h.1 then (1, 3) else h.2.1 h.1).1 = true; rw [if_pos rfl]; rfl)) (by decide) (by decide) (fun v h' q => ?_)
    obtain ⟨rfl, rfl⟩ := q
    exact ev_ret rfl (by decide) (by decide) ⟨rfl, rfl⟩
  · refine ev_sw (t := 50) (by rw [hc]; decide) f225_50 ?_
    have et : feelT c = 2 := by rw [hc]; rfl
    rw [et]
    refine ev_new jn2 (by decide) (by decide) ?_
    refine ev_dup (by decide) ?_
    refine ev_aload_n rfl ?_
    have hne : ¬ (0 : Nat) = h.1 := by omega
    refine ev_getf (r := 0) (v := (s : Int)) (Nat.lt_succ_of_lt h0) (by show jfam 11 (if 0 = h.1 then (2, 3) else h.2.1 0).1 = true; rw [if_neg hne]; exact hf) ft11_4 (by show (if 0 = h.1 then jdef 2 4 else h.2.2 0 4) = (s : Int); rw [if_neg hne]; exact hs) ?_
    refine ev_iload_n rfl ?_
    refine ev_iload_n rfl ?_
    refine ev_call (jcall_i (A := [(0, p), (0, n), (2, (s : Int))]) (S' := [(2, (h.1 : Int))]) (r := h.1) (by decide) rfl (Nat.le_of_ble_eq_true rfl)) (feelInit13 (d := d + 1) (Nat.lt_succ_self _) (by show jfam 0 (if h.1 = h.1 then (2, 3) else h.2.1 h.1).1 = true; rw [if_pos rfl]; rfl)) (by decide) (by decide) (fun v h' q => ?_)
    obtain ⟨rfl, rfl⟩ := q
    exact ev_ret rfl (by decide) (by decide) ⟨rfl, rfl⟩
  · refine ev_sw (t := 64) (by rw [hc]; decide) f225_64 ?_
    have et : feelT c = 6 := by rw [hc]; rfl
    rw [et]
    refine ev_new jn6 (by decide) (by decide) ?_
    refine ev_dup (by decide) ?_
    refine ev_aload_n rfl ?_
    have hne : ¬ (0 : Nat) = h.1 := by omega
    refine ev_getf (r := 0) (v := (s : Int)) (Nat.lt_succ_of_lt h0) (by show jfam 11 (if 0 = h.1 then (6, 3) else h.2.1 0).1 = true; rw [if_neg hne]; exact hf) ft11_4 (by show (if 0 = h.1 then jdef 6 4 else h.2.2 0 4) = (s : Int); rw [if_neg hne]; exact hs) ?_
    refine ev_iload_n rfl ?_
    refine ev_iload_n rfl ?_
    refine ev_call (jcall_i (A := [(0, p), (0, n), (2, (s : Int))]) (S' := [(2, (h.1 : Int))]) (r := h.1) (by decide) rfl (Nat.le_of_ble_eq_true rfl)) (feelInit83 (d := d) (Nat.lt_succ_self _) (by show jfam 0 (if h.1 = h.1 then (6, 3) else h.2.1 h.1).1 = true; rw [if_pos rfl]; rfl)) (by decide) (by decide) (fun v h' q => ?_)
    obtain ⟨rfl, rfl⟩ := q
    exact ev_ret rfl (by decide) (by decide) ⟨rfl, rfl⟩
  · refine ev_sw (t := 78) (by rw [hc]; decide) f225_78 ?_
    have et : feelT c = 3 := by rw [hc]; rfl
    rw [et]
    refine ev_new jn3 (by decide) (by decide) ?_
    refine ev_dup (by decide) ?_
    refine ev_aload_n rfl ?_
    have hne : ¬ (0 : Nat) = h.1 := by omega
    refine ev_getf (r := 0) (v := (s : Int)) (Nat.lt_succ_of_lt h0) (by show jfam 11 (if 0 = h.1 then (3, 3) else h.2.1 0).1 = true; rw [if_neg hne]; exact hf) ft11_4 (by show (if 0 = h.1 then jdef 3 4 else h.2.2 0 4) = (s : Int); rw [if_neg hne]; exact hs) ?_
    refine ev_iload_n rfl ?_
    refine ev_iload_n rfl ?_
    refine ev_call (jcall_i (A := [(0, p), (0, n), (2, (s : Int))]) (S' := [(2, (h.1 : Int))]) (r := h.1) (by decide) rfl (Nat.le_of_ble_eq_true rfl)) (feelInit17 (d := d + 1) (Nat.lt_succ_self _) (by show jfam 0 (if h.1 = h.1 then (3, 3) else h.2.1 h.1).1 = true; rw [if_pos rfl]; rfl)) (by decide) (by decide) (fun v h' q => ?_)
    obtain ⟨rfl, rfl⟩ := q
    exact ev_ret rfl (by decide) (by decide) ⟨rfl, rfl⟩
  · refine ev_sw (t := 92) (by rw [hc]; decide) f225_92 ?_
    have et : feelT c = 8 := by rw [hc]; rfl
    rw [et]
    refine ev_new jn8 (by decide) (by decide) ?_
    refine ev_dup (by decide) ?_
    refine ev_aload_n rfl ?_
    have hne : ¬ (0 : Nat) = h.1 := by omega
    refine ev_getf (r := 0) (v := (s : Int)) (Nat.lt_succ_of_lt h0) (by show jfam 11 (if 0 = h.1 then (8, 3) else h.2.1 0).1 = true; rw [if_neg hne]; exact hf) ft11_4 (by show (if 0 = h.1 then jdef 8 4 else h.2.2 0 4) = (s : Int); rw [if_neg hne]; exact hs) ?_
    refine ev_iload_n rfl ?_
    refine ev_iload_n rfl ?_
    refine ev_call (jcall_i (A := [(0, p), (0, n), (2, (s : Int))]) (S' := [(2, (h.1 : Int))]) (r := h.1) (by decide) rfl (Nat.le_of_ble_eq_true rfl)) (feelInit97 (d := d) (Nat.lt_succ_self _) (by show jfam 0 (if h.1 = h.1 then (8, 3) else h.2.1 h.1).1 = true; rw [if_pos rfl]; rfl)) (by decide) (by decide) (fun v h' q => ?_)
    obtain ⟨rfl, rfl⟩ := q
    exact ev_ret rfl (by decide) (by decide) ⟨rfl, rfl⟩
  · refine ev_sw (t := 106) (by rw [if_pos hc]; rfl) f225_106 ?_
    have et : feelT c = 0 := by unfold feelT; rw [if_neg (by omega), if_neg (by omega), if_neg (by omega), if_neg (by omega), if_neg (by omega)]
    rw [et]
    refine ev_new jn0 (by decide) (by decide) ?_
    refine ev_dup (by decide) ?_
    refine ev_aload_n rfl ?_
    have hne : ¬ (0 : Nat) = h.1 := by omega
    refine ev_getf (r := 0) (v := (s : Int)) (Nat.lt_succ_of_lt h0) (by show jfam 11 (if 0 = h.1 then (0, 3) else h.2.1 0).1 = true; rw [if_neg hne]; exact hf) ft11_4 (by show (if 0 = h.1 then jdef 0 4 else h.2.2 0 4) = (s : Int); rw [if_neg hne]; exact hs) ?_
    refine ev_iload_n rfl ?_
    refine ev_iload_n rfl ?_
    refine ev_call (jcall_i (A := [(0, p), (0, n), (2, (s : Int))]) (S' := [(2, (h.1 : Int))]) (r := h.1) (by decide) rfl (Nat.le_of_ble_eq_true rfl)) (feelInit (d := d + 2) (Nat.lt_succ_self _) (by show jfam 0 (if h.1 = h.1 then (0, 3) else h.2.1 h.1).1 = true; rw [if_pos rfl]; rfl)) (by decide) (by decide) (fun v h' q => ?_)
    obtain ⟨rfl, rfl⟩ := q
    exact ev_ret rfl (by decide) (by decide) ⟨rfl, rfl⟩
theorem Fresh.new {h h' : JH} (e : Fresh h) {t : Nat} {s n p : Int} (hh : h' = jwr (jwr (jwr (jnew h t 3) h.1 0 s) h.1 1 n) h.1 2 p) : Fresh h' := by
  subst hh
  have h83 := e.1.1
  refine ⟨⟨Nat.le_succ_of_le h83, fun a ha => ?_⟩, fun a i x hx => ?_⟩
  · show (if a = h.1 then (t, 3) else h.2.1 a) = _
    rw [if_neg (by omega)]
    exact e.1.2 a ha
  · by_cases ha : a < 83
    · have ne : ¬ a = h.1 := by omega
      show (if a = h.1 ∧ i = 2 then p else if a = h.1 ∧ i = 1 then n else if a = h.1 ∧ i = 0 then s else if a = h.1 then jdef t i else h.2.2 a i) = x
      rw [if_neg (by omega), if_neg (by omega), if_neg (by omega), if_neg ne]
      exact e.2 a i x hx
    · have e3 : frV.getD a [] = [] := by
        rw [List.getD_eq_getElem?_getD, List.getElem?_eq_none (by rw [frV_len]; omega)]
        rfl
      rw [e3] at hx
      simp at hx
theorem newF_in {h h' : JH} {t : Nat} {s n p : Int} (ht : jfam 0 t = true) (hh : h' = jwr (jwr (jwr (jnew h t 3) h.1 0 s) h.1 1 n) h.1 2 p) : h.1 < h'.1 ∧ jfam 0 (h'.2.1 h.1).1 = true := by
  subst hh
  refine ⟨Nat.lt_succ_self _, ?_⟩
  show jfam 0 (if h.1 = h.1 then (t, 3) else h.2.1 h.1).1 = true
  rw [if_pos rfl]
  exact ht
theorem feelT_fam (c : Int) : jfam 0 (feelT c) = true := by
  unfold feelT
  repeat' split
  all_goals rfl
