theorem jand63 (x : Int) : 0 ≤ jand x 63 ∧ jand x 63 ≤ 63 := by
  unfold jand
  have e : (Int32.ofInt x &&& Int32.ofInt 63).toBitVec.toNat ≤ 63 := by
    rw [Int32.toBitVec_and, BitVec.toNat_and]
    exact Nat.and_le_right
  have e2 : (Int32.ofInt x &&& Int32.ofInt 63).toInt = ((Int32.ofInt x &&& Int32.ofInt 63).toBitVec.toNat : Int) := by
    show (Int32.ofInt x &&& Int32.ofInt 63).toBitVec.toInt = _
    rw [BitVec.toInt_eq_toNat_cond, if_pos (by omega)]
  rw [e2]
  omega
set_option maxHeartbeats 4000000 in
theorem law_loop {xs : Nat → Int} (hr : ∀ j, -2147483648 ≤ xs j ∧ xs j < 2147483648) {L : Nat} (hL : L ≤ 384) : ∀ (N n : Nat) (G : GH) (h : JH) (cu su : Nat), n + N = 65 → Gd G h → h.1 ≤ 83 + 13 * n → cu ≤ 83 + 13 * n → su ≤ 23761 + 1814 * n → Rl h → jEv (jOk 800) (some L) xs c384_0 600000 7302250 (fun v _ => v = some (0, 1)) (c384_18, [(2, -2), (2, 0), (2, 42), (0, 6 * (n : Int))], [], h, cu, su) := by
  intro N
  induction N with
  | zero =>
    intro n G h cu su hn g hB hc hs rl
    refine ev_iload_n rfl ?_
    refine ev_aload_n rfl ?_
    refine ev_saln (m := L) rfl ?_
    refine ev_bipush ?_
    refine ev_isub (r := (L : Int) - 6) (by unfold w32; omega) ?_
    refine ev_icmpgt f384_2185 (fun c => ?_) (fun c => absurd c (by omega))
    refine ev_iconst ?_
    exact ev_ret rfl (by omega) (by omega) rfl
  | succ N ih =>
    intro n G h cu su hn g hB hc hs rl
    refine ev_iload_n rfl ?_
    refine ev_aload_n rfl ?_
    refine ev_saln (m := L) rfl ?_
    refine ev_bipush ?_
    refine ev_isub (r := (L : Int) - 6) (by unfold w32; omega) ?_
    refine ev_icmpgt f384_2185 (fun c => ?_) (fun c => ?_)
    · refine ev_iconst ?_
      exact ev_ret rfl (by omega) (by omega) rfl
    · have kk : ∀ (G' : GH) (h' : JH) (cu' su' : Nat), Gd G' h' → h'.1 ≤ 83 + 13 * (n + 1) → cu' ≤ 83 + 13 * (n + 1) → su' ≤ 23761 + 1814 * (n + 1) → Rl h' → jEv (jOk 800) (some L) xs c384_0 600000 7302250 (fun v _ => v = some (0, 1)) (c384_2179, [(2, -2), (2, 0), (2, 42), (0, 6 * (n : Int))], [], h', cu', su') := by
        intro G' h' cu' su' g' b1 b2 b3 r'
        refine ev_iinc (w := 6 * ((n + 1 : Nat) : Int)) (L' := [(2, -2), (2, 0), (2, 42), (0, 6 * ((n + 1 : Nat) : Int))]) rfl (by unfold w32; omega) rfl ?_
        refine ev_goto f384_18 ?_
        exact ih (n + 1) G' h' cu' su' (by omega) g' b1 b2 b3 r'
      refine ev_aload_n rfl ?_
      refine ev_iload_n rfl ?_
      refine ev_sald (j := 6 * n) (by omega) (by simp only [jxin, decide_eq_true_eq]; omega) rfl ?_
      refine ev_bipush ?_
      refine ev_iand (r := jand (xs (6 * n)) 63) rfl ?_
      have hb := jand63 (xs (6 * n))
      generalize jand (xs (6 * n)) 63 = z at hb ⊢
      rcases (show z = 0 ∨ z = 1 ∨ z = 2 ∨ z = 3 ∨ z = 4 ∨ z = 5 ∨ z = 6 ∨ z = 7 ∨ z = 8 ∨ z = 9 ∨ z = 10 ∨ z = 11 ∨ z = 12 ∨ z = 13 ∨ z = 14 ∨ z = 15 ∨ z = 16 ∨ z = 17 ∨ z = 18 ∨ z = 19 ∨ z = 20 ∨ z = 21 ∨ z = 22 ∨ z = 23 ∨ z = 24 ∨ z = 25 ∨ z = 26 ∨ z = 27 ∨ z = 28 ∨ z = 29 ∨ z = 30 ∨ z = 31 ∨ z = 32 ∨ z = 33 ∨ z = 34 ∨ z = 35 ∨ z = 36 ∨ z = 37 ∨ z = 38 ∨ z = 39 ∨ z = 40 ∨ z = 41 ∨ z = 42 ∨ z = 43 ∨ z = 44 ∨ z = 45 ∨ z = 46 ∨ z = 47 ∨ z = 48 ∨ z = 49 ∨ z = 50 ∨ z = 51 ∨ z = 52 ∨ 52 < z by omega) with rfl | rfl | rfl | rfl | rfl | rfl | rfl | rfl | rfl | rfl | rfl | rfl | rfl | rfl | rfl | rfl | rfl | rfl | rfl | rfl | rfl | rfl | rfl | rfl | rfl | rfl | rfl | rfl | rfl | rfl | rfl | rfl | rfl | rfl | rfl | rfl | rfl | rfl | rfl | rfl | rfl | rfl | rfl | rfl | rfl | rfl | rfl | rfl | rfl | rfl | rfl | rfl | rfl | hz
      · refine ev_sw (t := 260) (by decide) f384_260 ?_
        exact case_0 hr (by omega) (by omega) g hB hc hs rl kk
      · refine ev_sw (t := 283) (by decide) f384_283 ?_
        exact case_1 hr (by omega) (by omega) g hB hc hs rl kk
      · refine ev_sw (t := 316) (by decide) f384_316 ?_
        exact case_2 hr (by omega) (by omega) g hB hc hs rl kk
      · refine ev_sw (t := 369) (by decide) f384_369 ?_
        exact case_3 hr (by omega) (by omega) g hB hc hs rl kk
      · refine ev_sw (t := 382) (by decide) f384_382 ?_
        exact case_4 hr (by omega) (by omega) g hB hc hs rl kk
      · refine ev_sw (t := 405) (by decide) f384_405 ?_
        exact case_5 hr (by omega) (by omega) g hB hc hs rl kk
      · refine ev_sw (t := 448) (by decide) f384_448 ?_
        exact case_6 hr (by omega) (by omega) g hB hc hs rl kk
      · refine ev_sw (t := 481) (by decide) f384_481 ?_
        exact case_7 hr (by omega) (by omega) g hB hc hs rl kk
      · refine ev_sw (t := 494) (by decide) f384_494 ?_
        exact case_8 hr (by omega) (by omega) g hB hc hs rl kk
      · refine ev_sw (t := 537) (by decide) f384_537 ?_
        exact case_9 hr (by omega) (by omega) g hB hc hs rl kk
      · refine ev_sw (t := 590) (by decide) f384_590 ?_
        exact case_10 hr (by omega) (by omega) g hB hc hs rl kk
      · refine ev_sw (t := 603) (by decide) f384_603 ?_
        exact case_11 hr (by omega) (by omega) g hB hc hs rl kk
      · refine ev_sw (t := 616) (by decide) f384_616 ?_
        exact case_12 hr (by omega) (by omega) g hB hc hs rl kk
      · refine ev_sw (t := 649) (by decide) f384_649 ?_
        exact case_13 hr (by omega) (by omega) g hB hc hs rl kk
      · refine ev_sw (t := 682) (by decide) f384_682 ?_
        exact case_14 hr (by omega) (by omega) g hB hc hs rl kk
      · refine ev_sw (t := 715) (by decide) f384_715 ?_
        exact case_15 hr (by omega) (by omega) g hB hc hs rl kk
      · refine ev_sw (t := 758) (by decide) f384_758 ?_
        exact case_16 hr (by omega) (by omega) g hB hc hs rl kk
      · refine ev_sw (t := 801) (by decide) f384_801 ?_
        exact case_17 hr (by omega) (by omega) g hB hc hs rl kk
      · refine ev_sw (t := 844) (by decide) f384_844 ?_
        exact case_18 hr (by omega) (by omega) g hB hc hs rl kk
      · refine ev_sw (t := 877) (by decide) f384_877 ?_
        exact case_19 hr (by omega) (by omega) g hB hc hs rl kk
      · refine ev_sw (t := 930) (by decide) f384_930 ?_
        exact case_20 hr (by omega) (by omega) g hB hc hs rl kk
      · refine ev_sw (t := 963) (by decide) f384_963 ?_
        exact case_21 hr (by omega) (by omega) g hB hc hs rl kk
      · refine ev_sw (t := 1006) (by decide) f384_1006 ?_
        exact case_22 hr (by omega) (by omega) g hB hc hs rl kk
      · refine ev_sw (t := 1059) (by decide) f384_1059 ?_
        exact case_23 hr (by omega) (by omega) g hB hc hs rl kk
      · refine ev_sw (t := 1082) (by decide) f384_1082 ?_
        exact case_24 hr (by omega) (by omega) g hB hc hs rl kk
      · refine ev_sw (t := 1125) (by decide) f384_1125 ?_
        exact case_25 hr (by omega) (by omega) g hB hc hs rl kk
      · refine ev_sw (t := 1178) (by decide) f384_1178 ?_
        exact case_26 hr (by omega) (by omega) g hB hc hs rl kk
      · refine ev_sw (t := 1201) (by decide) f384_1201 ?_
        exact case_27 hr (by omega) (by omega) g hB hc hs rl kk
      · refine ev_sw (t := 1254) (by decide) f384_1254 ?_
        exact case_28 hr (by omega) (by omega) g hB hc hs rl kk
      · refine ev_sw (t := 1307) (by decide) f384_1307 ?_
        exact case_29 hr (by omega) (by omega) g hB hc hs rl kk
      · refine ev_sw (t := 1340) (by decide) f384_1340 ?_
        exact case_30 hr (by omega) (by omega) g hB hc hs rl kk
      · refine ev_sw (t := 1383) (by decide) f384_1383 ?_
        exact case_31 hr (by omega) (by omega) g hB hc hs rl kk
      · refine ev_sw (t := 1406) (by decide) f384_1406 ?_
        exact case_32 hr (by omega) (by omega) g hB hc hs rl kk
      · refine ev_sw (t := 1429) (by decide) f384_1429 ?_
        exact case_33 hr (by omega) (by omega) g hB hc hs rl kk
      · refine ev_sw (t := 1452) (by decide) f384_1452 ?_
        exact case_34 hr (by omega) (by omega) g hB hc hs rl kk
      · refine ev_sw (t := 1495) (by decide) f384_1495 ?_
        exact case_35 hr (by omega) (by omega) g hB hc hs rl kk
      · refine ev_sw (t := 1518) (by decide) f384_1518 ?_
        exact case_36 hr (by omega) (by omega) g hB hc hs rl kk
      · refine ev_sw (t := 1551) (by decide) f384_1551 ?_
        exact case_37 hr (by omega) (by omega) g hB hc hs rl kk
      · refine ev_sw (t := 1564) (by decide) f384_1564 ?_
        exact case_38 hr (by omega) (by omega) g hB hc hs rl kk
      · refine ev_sw (t := 1597) (by decide) f384_1597 ?_
        exact case_39 hr (by omega) (by omega) g hB hc hs rl kk
      · refine ev_sw (t := 1630) (by decide) f384_1630 ?_
        exact case_40 hr (by omega) (by omega) g hB hc hs rl kk
      · refine ev_sw (t := 1683) (by decide) f384_1683 ?_
        exact case_41 hr (by omega) (by omega) g hB hc hs rl kk
      · refine ev_sw (t := 1726) (by decide) f384_1726 ?_
        exact case_42 hr (by omega) (by omega) g hB hc hs rl kk
      · refine ev_sw (t := 1769) (by decide) f384_1769 ?_
        exact case_43 hr (by omega) (by omega) g hB hc hs rl kk
      · refine ev_sw (t := 1812) (by decide) f384_1812 ?_
        exact case_44 hr (by omega) (by omega) g hB hc hs rl kk
      · refine ev_sw (t := 1855) (by decide) f384_1855 ?_
        exact case_45 hr (by omega) (by omega) g hB hc hs rl kk
      · refine ev_sw (t := 1878) (by decide) f384_1878 ?_
        exact case_46 hr (by omega) (by omega) g hB hc hs rl kk
      · refine ev_sw (t := 1911) (by decide) f384_1911 ?_
        exact case_47 hr (by omega) (by omega) g hB hc hs rl kk
      · refine ev_sw (t := 1954) (by decide) f384_1954 ?_
        exact case_48 hr (by omega) (by omega) g hB hc hs rl kk
      · refine ev_sw (t := 2027) (by decide) f384_2027 ?_
        exact case_49 hr (by omega) (by omega) g hB hc hs rl kk
      · refine ev_sw (t := 2060) (by decide) f384_2060 ?_
        exact case_50 hr (by omega) (by omega) g hB hc hs rl kk
      · refine ev_sw (t := 2123) (by decide) f384_2123 ?_
        exact case_51 hr (by omega) (by omega) g hB hc hs rl kk
      · refine ev_sw (t := 2156) (by decide) f384_2156 ?_
        exact case_52 hr (by omega) (by omega) g hB hc hs rl kk
      · refine ev_sw (t := 2179) (by rw [if_pos (Or.inr hz)]; rfl) f384_2179 ?_
        exact kk G h cu su g (by omega) (by omega) (by omega) rl
set_option maxHeartbeats 4000000 in
theorem law_run {xs : Nat → Int} (hr : ∀ j, -2147483648 ≤ xs j ∧ xs j < 2147483648) {L : Nat} (hL : L ≤ 384) : jEv (jOk 800) (some L) xs c384_0 600000 7302250 (fun v _ => v = some (0, 1)) (c384_0, [(2, -2), (9, 0), (9, 0), (9, 0)], [], jh0, 0, 0) := by
  obtain ⟨h1, h2, o1, e1, o2, hF, h83, hZ⟩ := ctors2
  refine ev_new jn11 (by decide) (by decide) ?_
  refine ev_dup (by decide) ?_
  show jEv _ _ _ _ _ _ _ (_, _, [(2, 0), (2, 0)], jA1, 1, 17)
  refine ev_call (jcall_i (A := []) (S' := [(2, 0)]) (r := 0) (by decide) rfl (Nat.le_of_ble_eq_true rfl)) (jOk_le (by decide) o1) (by decide) (by decide) (fun v h' q => ?_)
  obtain ⟨rfl, rfl⟩ := q
  show jEv _ _ _ _ _ _ _ (_, [(2, -2), (9, 0), (9, 0), (9, 0)], [(2, 0)], _, 42, 4544)
  refine ev_astore_n (L' := [(2, -2), (2, 0), (9, 0), (9, 0)]) (Nat.le_of_ble_eq_true rfl) rfl ?_
  refine ev_new jn12 (by decide) (by decide) ?_
  refine ev_dup (by decide) ?_
  rw [e1]
  show jEv _ _ _ _ _ _ _ (_, _, [(2, 42), (2, 42)], _, 43, 4610)
  refine ev_call (jcall_i (A := []) (S' := [(2, 42)]) (r := 42) (by decide) rfl (Nat.le_of_ble_eq_true rfl)) (jOk_le (by decide) o2) (by decide) (by decide) (fun v h' q => ?_)
  obtain ⟨rfl, rfl⟩ := q
  show jEv _ _ _ _ _ _ _ (_, [(2, -2), (2, 0), (9, 0), (9, 0)], [(2, 42)], _, 83, 23761)
  refine ev_astore_n (L' := [(2, -2), (2, 0), (2, 42), (9, 0)]) (Nat.le_of_ble_eq_true rfl) rfl ?_
  refine ev_iconst ?_
  refine ev_istore_n (L' := [(2, -2), (2, 0), (2, 42), (0, 0)]) (Nat.le_of_ble_eq_true rfl) rfl ?_
  show jEv _ _ _ _ _ _ _ (_, [(2, -2), (2, 0), (2, 42), (0, 6 * ((0 : Nat) : Int))], _, _, _, _)
  exact law_loop hr hL 65 0 _ _ 83 23761 (by omega) (hF.gd hZ h83) (by omega) (by omega) (by omega) ⟨⟨(hF.v (a := 7) (i := 0) (x := 0) rfl).trans (hF.v (a := 42) (i := 17) (x := 0) rfl).symm, fun j hj => by rw [(hF.v (a := 7) (i := 0) (x := 0) rfl)] at hj; omega, (hF.v (a := 1) (i := 0) (x := 0) rfl).trans (hF.v (a := 42) (i := 1) (x := 0) rfl).symm, fun j hj => by rw [(hF.v (a := 1) (i := 0) (x := 0) rfl)] at hj; omega, (hF.v (a := 0) (i := 3) (x := 0) rfl).trans (hF.v (a := 42) (i := 9) (x := 0) rfl).symm⟩, fun j hj => by rw [(hF.v (a := 1) (i := 0) (x := 0) rfl)] at hj; omega, fun j hj j4 => by rcases (show j = 0 ∨ j = 1 ∨ j = 2 ∨ j = 3 by omega) with z | z | z | z <;> subst z <;> exact hF.v rfl⟩
theorem whole_start {p : Program} {e : Env} {s : State} {m : MethodId} {below : List Frame} {meth : Method} {c : Code} (l : Launch) {b L : Nat} {xs : Nat → Int32} (hL : L ≤ 384) (C0 : lw_At p s m meth c b L xs) : W p l e room_1 s m #[Value.ref b] below meth c s.heap [] 0 0 (lw_Z below #[Value.ref b] s) (entryFrame m ([Value.ref b] : List Value).toArray 4) := by
  refine law_sound l (by omega) C0 (d := 800) (by decide) jgood jlawN ?_
  rw [ml384, pp384]
  exact law_run (fun j => j32_in _) hL
set_option maxHeartbeats 4000000 in
theorem lw_walk (l : Launch) (b : Addr) (xs : List Int32) : MetFree l x (headSpec (Jvm.Cond.code x code maxLocals ret :: tables_1) room_1) (lw_P b xs) (fun _ _ _ _ _ => True) lw_Q := by
  refine MetFree.of_bodyS (code := code) (maxLocals := maxLocals) (ret := ret) (by decide) ?_ ?_
  · intro args s m h hn
    obtain ⟨meth, c, h1, h2, h3, h4, h5, h6, -, -⟩ := Cond.code_spec hn (atoms_spec (ws := Jvm.Cond.code x code maxLocals ret :: tables_1) h _ List.mem_cons_self)
    exact ⟨meth, c, h1, h2, h3, h4, h5, h6⟩
  · intro p e s m args below meth c s₁ B hml0 hP _
    obtain ⟨rfl, hx, hbd, hgv⟩ := hP
    obtain ⟨scr, harrAt, hlist, hof, hsmall⟩ := hx
    obtain ⟨hcb, hkn, -, -⟩ := State.arrayAt?_spec harrAt
    have hown : s.vm.findClass R_law = some m.cls := findClass_of_methodNamed B.named
    have hts0 : ∀ c ∈ (Jvm.Cond.code x code maxLocals ret :: tables_1), c.before #[Value.ref b] s = true := atoms_spec (ws := Jvm.Cond.code x code maxLocals ret :: tables_1) B.pre
    have hts : ∀ w ∈ lw_tbl, w.before #[Value.ref b] s = true := k2_hts_sels lw_privs (fun w hw => hts0 w (List.mem_cons_of_mem _ hw)) lw_privs_ok
    have hml : c.maxLocals = 4 := B.maxLocals_eq (hts0 _ List.mem_cons_self)
    have X₀ : Stand p l e room_1 s m #[Value.ref b] below meth c s₁ [] 0 0 := Stand.of_body B
    have hh0 : s₁.heap = s.heap := by rw [B.state]; rfl
    have hsz : scr.slots.size = xs.length := by rw [← Array.length_toList, hlist, List.length_map]
    have hval : ∀ j : Nat, j < xs.length → scr.slots[j]? = some (.int (xs.getD j 0)) := fun j hj => by
      rw [← Array.getElem?_toList, hlist]
      simp [hj]
    have hbl : b < s.heap.size := (Array.getElem?_eq_some_iff.mp hcb).1
    have hX : va_X b xs.length (fun j => xs.getD j 0) s s.heap := ⟨scr, hcb, hof, hkn, hsz, hval⟩
    have K : W p l e room_1 s m #[Value.ref b] below meth c s₁.heap [] 0 0 (lw_Z below #[Value.ref b] s) (entryFrame m ([Value.ref b] : List Value).toArray 4) := by
      rw [hh0]
      exact whole_start l hbd ⟨B.exec, B.bytes, B.returns, hml, hown, hts, hX, hbl, B.notSynchronized, hgv⟩
    obtain ⟨t, a1, o, b1, b2, b3⟩ := K s₁ rfl X₀
    exact ⟨t, o, a1, b1, b2, b3⟩
theorem lw_pre_spec {args : Array Value} {s : State} (h : (Jvm.Cond.and given_1 narrow_1).before args s = true) (hr : rest_1_c.before args s = true) : ∃ (b : Addr) (xs : List Int32), lw_P b xs args s := by
  have hs := flat_of_before _ h
  have hq := flat_of_before _ hr
  have hc : (Cond.count 1).before args s = true := hs _ (by decide +kernel)
  have harr : (Cond.arrayOf (.arg 0) .int).before args s = true := hs _ (by decide +kernel)
  have hle : (Cond.le (.length (.arg 0)) (.int 384)).before args s = true := hs _ (by decide +kernel)
  have hlen : (Cond.isInt (.length (.arg 0))).before args s = true := hq _ (by decide +kernel)
  have hall : (Cond.all (.arg 0) (.isInt (.elem (.arg 0) (.index 0)))).before args s = true := hq _ (by decide +kernel)
  obtain ⟨b, xs, hb, hx⟩ := State.ints_of_pre rfl harr hlen hall
  have hsm : xs.length < 2 ^ 31 := hx.choose_spec.2.2.2
  have hev : (Term.length (.arg 0)).eval args s none [] s = some (.int xs.length.toInt32) := hx.length_eval hb
  have hv := Cond.le_ints hev (show (Term.int 384).eval args s none [] s = some (.int 384) from rfl)
  have hd : xs.length.toInt32 ≤ 384 := by
    simpa [Cond.before, Cond.holds, hv] using hle
  have hN : xs.length ≤ 384 := (Int32.ofNat_le_ofNat hsm (by decide)).mp (show Int32.ofNat xs.length ≤ Int32.ofNat 384 from hd)
  exact ⟨b, xs, Cond.one_arg hc (show args[0]? = some (.ref b) from hb), hx, hN, h⟩
theorem lw_comes (l : Launch) : Comes l x (Jvm.Cond.code x code maxLocals ret :: tables_1) room_1 (fun tb e args s => Calls_1 tb e args s ∧ rest_1 tb e args s ∧ Pre_1 tb e args s)
    (fun _ _ args s o t => lw_Q args s o t) := by
  intro p e ha hc hk s m args below hf hfit hheap happ hpre
  obtain ⟨b, xs, hP⟩ := lw_pre_spec hpre.2.2 hpre.2.1
  obtain ⟨k, o, h1, h2, h3, hQ⟩ := lw_walk l b xs p e ha hc hk s m args below hf ((Spec.applies_iff_loose hf).mp happ).1 hP trivial
  exact ⟨k, o, h1, h2, h3, hQ⟩
theorem lw_frame {s t : State} {o : Outcome} {args : Array Value} (h : Framed s o t [] 600000 7302250) :
    Framed s o t (fieldLocs frame_1_writes args s ++ arrayLocs frame_1_arrays args s ++ staticLocs frame_1_statics s) 600000 7302250 := h
theorem lw_limb (L : Cond) (hL : ∀ (args : Array Value) (s t : State), L.after args s (.returned (some (.int 1))) t = true) :
    ArmFor flags0 classFile x code maxLocals ret World_1 tables_1 room_1 Calls_1 rest_1 Pre_1
      (fun tb e a s o t => postC L tb e a s o t ∧ Framed s o t (fieldLocs frame_1_writes a s ++ arrayLocs frame_1_arrays a s ++ staticLocs frame_1_statics s) 600000 7302250) := by
  intro l _ _ _ p e ha hc hk s m args below hf hfit hheap happ hpre
  obtain ⟨k, o, h1, h2, h3, rfl, hF⟩ := lw_comes l p e ha hc hk s m args below hf hfit hheap happ hpre
  exact ⟨k, _, h1, h2, h3, hL args s _, lw_frame hF⟩
theorem i_vc : Claimed_1_1 ∧ Claimed_1_2 := ⟨lw_limb limb_1_1 (fun args s t => by simp [limb_1_1, Cond.after, Cond.holds, Cond.value]), lw_limb limb_1_2 (fun args s t => Cond.after_iff.mpr (by
  first | (rw [show limb_1_2 = Cond.eq .result (.int 1) from rfl, Cond.eq_ints (x := 1) (y := 1) rfl rfl]; simp; done) | (simp [limb_1_2, Cond.value, Term.eval]; done)))⟩
