theorem jand63 (x : Int) : 0 ≤ jand x 63 ∧ jand x 63 ≤ 63 := by
  unfold jand
  have e : (Int32.ofInt x &&& Int32.ofInt 63).toBitVec.toNat ≤ 63 := by
    rw [Int32.toBitVec_and, BitVec.toNat_and]
    exact Nat.and_le_right
  have e2 : (Int32.ofInt x &&& Int32.ofInt 63).toInt = ((Int32.ofInt x &&& Int32.ofInt 63).toBitVec.toNat : Int) := by
    show (Int32.ofInt x &&& Int32.ofInt 63).toBitVec.toInt = _
    rw [BitVec.toInt_eq_toNat_cond, if_pos (by omega)]
  rw [e2]
  omega
theorem jn11 : jN 11 = 17 := by decide +kernel
theorem jn12 : jN 12 = 66 := by decide +kernel
theorem ml384 : jML jnM = 4 := by decide +kernel
theorem pp384 : jP jnM = c384_0 := rfl
set_option maxRecDepth 100000 in
theorem jlawN : jchkN jnM = true := by decide +kernel
set_option maxHeartbeats 4000000 in
theorem law_run {xs : Nat → Int} (hr : ∀ j, -2147483648 ≤ xs j ∧ xs j < 2147483648) {L : Nat} (hL : L ≤ 6) : jEv (jOk 8) (some L) xs c384_0 600000 7302250 (fun v _ => v = some (0, 1)) (c384_0, [(2, -2), (9, 0), (9, 0), (9, 0)], [], jh0, 0, 0) := by
  obtain ⟨h1, h2, o1, e1, o2, hF⟩ := ctors
  refine ev_new jn11 (by decide) (by decide) ?_
  refine ev_dup (by decide) ?_
  show jEv _ _ _ _ _ _ _ (_, _, [(2, 0), (2, 0)], jA1, 1, 17)
  refine ev_call (jcall_i (A := []) (S' := [(2, 0)]) (r := 0) (by decide) rfl (Nat.le_of_ble_eq_true rfl)) (jOk_le (by decide) o1) (by decide) (by decide) (fun v h' q => ?_)
  obtain ⟨rfl, rfl⟩ := q
  show jEv _ _ _ _ _ _ _ (_, [(2, -2), (9, 0), (9, 0), (9, 0)], [(2, 0)], _, 42, 4544)
  refine ev_astore_n (L' := [(2, -2), (2, 0), (9, 0), (9, 0)]) (Nat.le_of_ble_eq_true rfl) rfl ?_
  refine ev_new jn12 (by decide) (by decide) ?_
  refine ev_dup (by decide) ?_
  rw [e1]
  show jEv _ _ _ _ _ _ _ (_, _, [(2, 42), (2, 42)], _, 43, 4610)
  refine ev_call (jcall_i (A := []) (S' := [(2, 42)]) (r := 42) (by decide) rfl (Nat.le_of_ble_eq_true rfl)) (jOk_le (by decide) o2) (by decide) (by decide) (fun v h' q => ?_)
  obtain ⟨rfl, rfl⟩ := q
  show jEv _ _ _ _ _ _ _ (_, [(2, -2), (2, 0), (9, 0), (9, 0)], [(2, 42)], _, 83, 23761)
  refine ev_astore_n (L' := [(2, -2), (2, 0), (2, 42), (9, 0)]) (Nat.le_of_ble_eq_true rfl) rfl ?_
  refine ev_iconst ?_
  refine ev_istore_n (L' := [(2, -2), (2, 0), (2, 42), (0, 0)]) (Nat.le_of_ble_eq_true rfl) rfl ?_
  refine ev_iload_n rfl ?_
  refine ev_aload_n rfl ?_
  refine ev_saln (m := L) rfl ?_
  refine ev_bipush ?_
  refine ev_isub (r := (L : Int) - 6) (by unfold w32; omega) ?_
  refine ev_icmpgt f384_2196 (fun c => ?_) (fun c => ?_)
  · refine ev_iconst ?_
    exact ev_ret rfl (by decide) (by decide) rfl
  · have e6 : L = 6 := by omega
    subst e6
    refine ev_aload_n rfl ?_
    refine ev_iload_n rfl ?_
    refine ev_sald (j := 0) rfl rfl rfl ?_
    refine ev_bipush ?_
    refine ev_iand (r := jand (xs 0) 63) rfl ?_
    have hb := jand63 (xs 0)
    generalize jand (xs 0) 63 = z at hb ⊢
    rcases (show z = 0 ∨ z = 1 ∨ z = 2 ∨ z = 3 ∨ z = 4 ∨ z = 5 ∨ z = 6 ∨ z = 7 ∨ z = 8 ∨ z = 9 ∨ z = 10 ∨ z = 11 ∨ z = 12 ∨ z = 13 ∨ z = 14 ∨ z = 15 ∨ z = 16 ∨ z = 17 ∨ z = 18 ∨ z = 19 ∨ z = 20 ∨ z = 21 ∨ z = 22 ∨ z = 23 ∨ z = 24 ∨ z = 25 ∨ z = 26 ∨ z = 27 ∨ z = 28 ∨ z = 29 ∨ z = 30 ∨ z = 31 ∨ z = 32 ∨ z = 33 ∨ z = 34 ∨ z = 35 ∨ z = 36 ∨ z = 37 ∨ z = 38 ∨ z = 39 ∨ z = 40 ∨ z = 41 ∨ z = 42 ∨ z = 43 ∨ z = 44 ∨ z = 45 ∨ z = 46 ∨ z = 47 ∨ z = 48 ∨ z = 49 ∨ z = 50 ∨ z = 51 ∨ z = 52 ∨ 52 < z by omega) with rfl | rfl | rfl | rfl | rfl | rfl | rfl | rfl | rfl | rfl | rfl | rfl | rfl | rfl | rfl | rfl | rfl | rfl | rfl | rfl | rfl | rfl | rfl | rfl | rfl | rfl | rfl | rfl | rfl | rfl | rfl | rfl | rfl | rfl | rfl | rfl | rfl | rfl | rfl | rfl | rfl | rfl | rfl | rfl | rfl | rfl | rfl | rfl | rfl | rfl | rfl | rfl | rfl | hz
    · refine ev_sw (t := 260) (by decide) f384_260 ?_
      exact case_0 hr hF
    · refine ev_sw (t := 283) (by decide) f384_283 ?_
      exact case_1 hr hF
    · refine ev_sw (t := 316) (by decide) f384_316 ?_
      exact case_2 hr hF
    · refine ev_sw (t := 369) (by decide) f384_369 ?_
      exact case_3 hr hF
    · refine ev_sw (t := 383) (by decide) f384_383 ?_
      exact case_4 hr hF
    · refine ev_sw (t := 407) (by decide) f384_407 ?_
      exact case_5 hr hF
    · refine ev_sw (t := 451) (by decide) f384_451 ?_
      exact case_6 hr hF
    · refine ev_sw (t := 484) (by decide) f384_484 ?_
      exact case_7 hr hF
    · refine ev_sw (t := 497) (by decide) f384_497 ?_
      exact case_8 hr hF
    · refine ev_sw (t := 540) (by decide) f384_540 ?_
      exact case_9 hr hF
    · refine ev_sw (t := 593) (by decide) f384_593 ?_
      exact case_10 hr hF
    · refine ev_sw (t := 606) (by decide) f384_606 ?_
      exact case_11 hr hF
    · refine ev_sw (t := 619) (by decide) f384_619 ?_
      exact case_12 hr hF
    · refine ev_sw (t := 652) (by decide) f384_652 ?_
      exact case_13 hr hF
    · refine ev_sw (t := 685) (by decide) f384_685 ?_
      exact case_14 hr hF
    · refine ev_sw (t := 718) (by decide) f384_718 ?_
      exact case_15 hr hF
    · refine ev_sw (t := 762) (by decide) f384_762 ?_
      exact case_16 hr hF
    · refine ev_sw (t := 805) (by decide) f384_805 ?_
      exact case_17 hr hF
    · refine ev_sw (t := 849) (by decide) f384_849 ?_
      exact case_18 hr hF
    · refine ev_sw (t := 882) (by decide) f384_882 ?_
      exact case_19 hr hF
    · refine ev_sw (t := 936) (by decide) f384_936 ?_
      exact case_20 hr hF
    · refine ev_sw (t := 969) (by decide) f384_969 ?_
      exact case_21 hr hF
    · refine ev_sw (t := 1013) (by decide) f384_1013 ?_
      exact case_22 hr hF
    · refine ev_sw (t := 1067) (by decide) f384_1067 ?_
      exact case_23 hr hF
    · refine ev_sw (t := 1090) (by decide) f384_1090 ?_
      exact case_24 hr hF
    · refine ev_sw (t := 1133) (by decide) f384_1133 ?_
      exact case_25 hr hF
    · refine ev_sw (t := 1186) (by decide) f384_1186 ?_
      exact case_26 hr hF
    · refine ev_sw (t := 1209) (by decide) f384_1209 ?_
      exact case_27 hr hF
    · refine ev_sw (t := 1262) (by decide) f384_1262 ?_
      exact case_28 hr hF
    · refine ev_sw (t := 1316) (by decide) f384_1316 ?_
      exact case_29 hr hF
    · refine ev_sw (t := 1349) (by decide) f384_1349 ?_
      exact case_30 hr hF
    · refine ev_sw (t := 1392) (by decide) f384_1392 ?_
      exact case_31 hr hF
    · refine ev_sw (t := 1415) (by decide) f384_1415 ?_
      exact case_32 hr hF
    · refine ev_sw (t := 1438) (by decide) f384_1438 ?_
      exact case_33 hr hF
    · refine ev_sw (t := 1461) (by decide) f384_1461 ?_
      exact case_34 hr hF
    · refine ev_sw (t := 1504) (by decide) f384_1504 ?_
      exact case_35 hr hF
    · refine ev_sw (t := 1527) (by decide) f384_1527 ?_
      exact case_36 hr hF
    · refine ev_sw (t := 1560) (by decide) f384_1560 ?_
      exact case_37 hr hF
    · refine ev_sw (t := 1573) (by decide) f384_1573 ?_
      exact case_38 hr hF
    · refine ev_sw (t := 1606) (by decide) f384_1606 ?_
      exact case_39 hr hF
    · refine ev_sw (t := 1639) (by decide) f384_1639 ?_
      exact case_40 hr hF
    · refine ev_sw (t := 1692) (by decide) f384_1692 ?_
      exact case_41 hr hF
    · refine ev_sw (t := 1735) (by decide) f384_1735 ?_
      exact case_42 hr hF
    · refine ev_sw (t := 1779) (by decide) f384_1779 ?_
      exact case_43 hr hF
    · refine ev_sw (t := 1822) (by decide) f384_1822 ?_
      exact case_44 hr hF
    · refine ev_sw (t := 1865) (by decide) f384_1865 ?_
      exact case_45 hr hF
    · refine ev_sw (t := 1888) (by decide) f384_1888 ?_
      exact case_46 hr hF
    · refine ev_sw (t := 1921) (by decide) f384_1921 ?_
      exact case_47 hr hF
    · refine ev_sw (t := 1964) (by decide) f384_1964 ?_
      exact case_48 hr hF
    · refine ev_sw (t := 2037) (by decide) f384_2037 ?_
      exact case_49 hr hF
    · refine ev_sw (t := 2071) (by decide) f384_2071 ?_
      exact case_50 hr hF
    · refine ev_sw (t := 2134) (by decide) f384_2134 ?_
      exact case_51 hr hF
    · refine ev_sw (t := 2167) (by decide) f384_2167 ?_
      exact case_52 hr hF
    · refine ev_sw (t := 2190) (by rw [if_pos (Or.inr hz)]; rfl) f384_2190 ?_
      exact law_tail _
theorem whole_start {p : Program} {e : Env} {s : State} {m : MethodId} {below : List Frame} {meth : Method} {c : Code} (l : Launch) {b L : Nat} {xs : Nat → Int32} (hL : L ≤ 6) (C0 : lw_At p s m meth c b L xs) : W p l e room_1 s m #[Value.ref b] below meth c s.heap [] 0 0 (lw_Z below #[Value.ref b] s) (entryFrame m ([Value.ref b] : List Value).toArray 4) := by
  refine law_sound l (by omega) C0 (d := 8) (by decide) jgood jlawN ?_
  rw [ml384, pp384]
  exact law_run (fun j => j32_in _) hL
set_option maxHeartbeats 4000000 in
theorem lw_walk (l : Launch) (b : Addr) (xs : List Int32) : MetFree l x (headSpec (Jvm.Cond.code x code maxLocals ret :: tables_1) room_1) (lw_P b xs) (fun _ _ _ _ _ => True) lw_Q := by
  refine MetFree.of_bodyS (code := code) (maxLocals := maxLocals) (ret := ret) (by decide) ?_ ?_
  · intro args s m h hn
    obtain ⟨meth, c, h1, h2, h3, h4, h5, h6, -, -⟩ := Cond.code_spec hn (atoms_spec (ws := Jvm.Cond.code x code maxLocals ret :: tables_1) h _ List.mem_cons_self)
    exact ⟨meth, c, h1, h2, h3, h4, h5, h6⟩
  · intro p e s m args below meth c s₁ B hml0 hP _
    obtain ⟨rfl, hx, hbd, hgv⟩ := hP
    obtain ⟨scr, harrAt, hlist, hof, hsmall⟩ := hx
    obtain ⟨hcb, hkn, -, -⟩ := State.arrayAt?_spec harrAt
    have hown : s.vm.findClass R_law = some m.cls := findClass_of_methodNamed B.named
    have hts0 : ∀ c ∈ (Jvm.Cond.code x code maxLocals ret :: tables_1), c.before #[Value.ref b] s = true := atoms_spec (ws := Jvm.Cond.code x code maxLocals ret :: tables_1) B.pre
    have hts : ∀ w ∈ lw_tbl, w.before #[Value.ref b] s = true := k2_hts_sels lw_privs (fun w hw => hts0 w (List.mem_cons_of_mem _ hw)) lw_privs_ok
    have hml : c.maxLocals = 4 := B.maxLocals_eq (hts0 _ List.mem_cons_self)
    have X₀ : Stand p l e room_1 s m #[Value.ref b] below meth c s₁ [] 0 0 := Stand.of_body B
    have hh0 : s₁.heap = s.heap := by rw [B.state]; rfl
    have hsz : scr.slots.size = xs.length := by rw [← Array.length_toList, hlist, List.length_map]
    have hval : ∀ j : Nat, j < xs.length → scr.slots[j]? = some (.int (xs.getD j 0)) := fun j hj => by
      rw [← Array.getElem?_toList, hlist]
      simp [hj]
    have hbl : b < s.heap.size := (Array.getElem?_eq_some_iff.mp hcb).1
    have hX : va_X b xs.length (fun j => xs.getD j 0) s s.heap := ⟨scr, hcb, hof, hkn, hsz, hval⟩
    have K : W p l e room_1 s m #[Value.ref b] below meth c s₁.heap [] 0 0 (lw_Z below #[Value.ref b] s) (entryFrame m ([Value.ref b] : List Value).toArray 4) := by
      rw [hh0]
      exact whole_start l hbd ⟨B.exec, B.bytes, B.returns, hml, hown, hts, hX, hbl, B.notSynchronized, hgv⟩
    obtain ⟨t, a1, o, b1, b2, b3⟩ := K s₁ rfl X₀
    exact ⟨t, o, a1, b1, b2, b3⟩
theorem lw_pre_spec {args : Array Value} {s : State} (h : (Jvm.Cond.and given_1 narrow_1).before args s = true) (hr : rest_1_c.before args s = true) : ∃ (b : Addr) (xs : List Int32), lw_P b xs args s := by
  have hs := flat_of_before _ h
  have hq := flat_of_before _ hr
  have hc : (Cond.count 1).before args s = true := hs _ (by decide +kernel)
  have harr : (Cond.arrayOf (.arg 0) .int).before args s = true := hs _ (by decide +kernel)
  have hle : (Cond.le (.length (.arg 0)) (.int 6)).before args s = true := hs _ (by decide +kernel)
  have hlen : (Cond.isInt (.length (.arg 0))).before args s = true := hq _ (by decide +kernel)
  have hall : (Cond.all (.arg 0) (.isInt (.elem (.arg 0) (.index 0)))).before args s = true := hq _ (by decide +kernel)
  obtain ⟨b, xs, hb, hx⟩ := State.ints_of_pre rfl harr hlen hall
  have hsm : xs.length < 2 ^ 31 := hx.choose_spec.2.2.2
  have hev : (Term.length (.arg 0)).eval args s none [] s = some (.int xs.length.toInt32) := hx.length_eval hb
  have hv := Cond.le_ints hev (show (Term.int 6).eval args s none [] s = some (.int 6) from rfl)
  have hd : xs.length.toInt32 ≤ 6 := by
    simpa [Cond.before, Cond.holds, hv] using hle
  have hN : xs.length ≤ 6 := (Int32.ofNat_le_ofNat hsm (by decide)).mp (show Int32.ofNat xs.length ≤ Int32.ofNat 6 from hd)
  exact ⟨b, xs, Cond.one_arg hc (show args[0]? = some (.ref b) from hb), hx, hN, h⟩
theorem lw_comes (l : Launch) : Comes l x (Jvm.Cond.code x code maxLocals ret :: tables_1) room_1 (fun tb e args s => Calls_1 tb e args s ∧ rest_1 tb e args s ∧ Pre_1 tb e args s)
    (fun _ _ args s o t => lw_Q args s o t) := by
  intro p e ha hc hk s m args below hf hfit hheap happ hpre
  obtain ⟨b, xs, hP⟩ := lw_pre_spec hpre.2.2 hpre.2.1
  obtain ⟨k, o, h1, h2, h3, hQ⟩ := lw_walk l b xs p e ha hc hk s m args below hf ((Spec.applies_iff_loose hf).mp happ).1 hP trivial
  exact ⟨k, o, h1, h2, h3, hQ⟩
theorem lw_frame {s t : State} {o : Outcome} {args : Array Value} (h : Framed s o t [] 600000 7302250) :
    Framed s o t (fieldLocs frame_1_writes args s ++ arrayLocs frame_1_arrays args s ++ staticLocs frame_1_statics s) 600000 7302250 := h
theorem lw_limb (L : Cond) (hL : ∀ (args : Array Value) (s t : State), L.after args s (.returned (some (.int 1))) t = true) :
    ArmFor flags0 classFile x code maxLocals ret World_1 tables_1 room_1 Calls_1 rest_1 Pre_1
      (fun tb e a s o t => postC L tb e a s o t ∧ Framed s o t (fieldLocs frame_1_writes a s ++ arrayLocs frame_1_arrays a s ++ staticLocs frame_1_statics s) 600000 7302250) := by
  intro l _ _ _ p e ha hc hk s m args below hf hfit hheap happ hpre
  obtain ⟨k, o, h1, h2, h3, rfl, hF⟩ := lw_comes l p e ha hc hk s m args below hf hfit hheap happ hpre
  exact ⟨k, _, h1, h2, h3, hL args s _, lw_frame hF⟩
theorem i_vc : Claimed_1_1 ∧ Claimed_1_2 := ⟨lw_limb limb_1_1 (fun args s t => by simp [limb_1_1, Cond.after, Cond.holds, Cond.value]), lw_limb limb_1_2 (fun args s t => Cond.after_iff.mpr (by
  first | (rw [show limb_1_2 = Cond.eq .result (.int 1) from rfl, Cond.eq_ints (x := 1) (y := 1) rfl rfl]; simp; done) | (simp [limb_1_2, Cond.value, Term.eval]; done)))⟩
