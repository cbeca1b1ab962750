/-! THE CLAIM OUT OF ONE WALK OF THE LAW'S BODY. Your part is whole_start (and what it stands on); all else here is the same for every law, but numbers. -/
def R_law : String := "SueOrSettleLaw"
def lw_P (b : Addr) (xs : List Int32) (args : Array Value) (s : State) : Prop := args = #[.ref b] ∧ s.IntsAt b xs ∧ xs.length ≤ 384 ∧ (Jvm.Cond.and given_1 narrow_1).before args s = true
def lw_Q (_ : Array Value) (s : State) (o : Outcome) (t : State) : Prop := o = .returned (some (.int 1)) ∧ Framed s o t [] 600000 7302250
def lw_Z (below : List Frame) (a : Array Value) (s : State) : State → Prop := fun t => ∃ o, t.status = .running ∧ Ended t below o ∧ lw_Q a s o t
/-- the law's own end, with 1 on the stack, nothing written that was there before, its room as the claim has it -/
theorem lw_ret {p : Program} {l : Launch} {e : Env} {s : State} {m : MethodId} {below : List Frame} {meth : Method} {c : Code} {b : Nat} (hx : p.tables.exec = Jvm.exec) (hb : c.code = code) (hr : meth.sig.returnType = ret) (hlocks : meth.locks = false) {pc : Nat} {H : Heap} {ls : Array Slot} (hdg : decode code pc = .ok (.ireturn, 1)) : W p l e room_1 s m #[Value.ref b] below meth c H [] 600000 7302250 (lw_Z below #[Value.ref b] s) (F0 m pc ls [.int 1]) := by
  intro T hT X
  obtain ⟨fs, hret, hrun, hended, hW, hframe⟩ := X.leave (v := some (.int 1)) (hlocks := hlocks) (fun h => by rw [hr] at h; cases h)
  have hmeth' : T.vm.method? m = some meth := X.method'
  refine ⟨T.setFrames fs, ?_, .returned (some (.int 1)), hrun, hended, rfl, ⟨_, rfl⟩, hW, hframe⟩
  jvm_step X.here [X.here.top, hx, hb, hdg, hmeth', hr, ret, narrow_b1]
  (try refine ⟨rfl, ?_⟩); (try refine ⟨rfl, ?_⟩)
  first | (intro acts; rw [hret _ acts rfl rfl rfl]) | rw [hret _ _ rfl rfl rfl]
  exact Steps.refl _
/-- what holds at the law's entry: the machine, the code, the tables' words (any of lw_tbl by 'hts w (by decide +kernel)'), the script of L ints xs at the cell b, what the Statement gives of the start (any of its parts by flat_of_before) -/
def lw_At (p : Program) (s : State) (m : MethodId) (meth : Method) (c : Code) (b L : Nat) (xs : Nat → Int32) : Prop :=
  p.tables.exec = Jvm.exec ∧ c.code = code ∧ meth.sig.returnType = ret ∧ c.maxLocals = 4 ∧ s.vm.findClass R_law = some m.cls ∧ (∀ w ∈ lw_tbl, w.before #[Value.ref b] s = true) ∧ va_X b L xs s s.heap ∧ b < s.heap.size ∧ meth.locks = false ∧ (Jvm.Cond.and given_1 narrow_1).before #[Value.ref b] s = true
/-- nothing made yet -/
def jh0 : JH := (0, fun _ => (0, 0), fun _ _ => 0)
theorem jnc_ok {s : State} {args : Array Value} (h : (Jvm.Cond.and given_1 narrow_1).before args s = true) : ∀ q ∈ jNC, va_Nc q.1 q.2 s := by
  have hf := flat_of_before _ h
  unfold jNC
  refine List.forall_mem_cons.mpr ⟨va_Nc.of (hf _ (by decide +kernel)), ?_⟩
  refine List.forall_mem_cons.mpr ⟨va_Nc.of (hf _ (by decide +kernel)), ?_⟩
  refine List.forall_mem_cons.mpr ⟨va_Nc.of (hf _ (by decide +kernel)), ?_⟩
  refine List.forall_mem_cons.mpr ⟨va_Nc.of (hf _ (by decide +kernel)), ?_⟩
  refine List.forall_mem_cons.mpr ⟨va_Nc.of (hf _ (by decide +kernel)), ?_⟩
  refine List.forall_mem_cons.mpr ⟨va_Nc.of (hf _ (by decide +kernel)), ?_⟩
  refine List.forall_mem_cons.mpr ⟨va_Nc.of (hf _ (by decide +kernel)), ?_⟩
  refine List.forall_mem_cons.mpr ⟨va_Nc.of (hf _ (by decide +kernel)), ?_⟩
  refine List.forall_mem_cons.mpr ⟨va_Nc.of (hf _ (by decide +kernel)), ?_⟩
  refine List.forall_mem_cons.mpr ⟨va_Nc.of (hf _ (by decide +kernel)), ?_⟩
  refine List.forall_mem_cons.mpr ⟨va_Nc.of (hf _ (by decide +kernel)), ?_⟩
  refine List.forall_mem_cons.mpr ⟨va_Nc.of (hf _ (by decide +kernel)), ?_⟩
  refine List.forall_mem_cons.mpr ⟨va_Nc.of (hf _ (by decide +kernel)), ?_⟩
  refine List.forall_mem_cons.mpr ⟨va_Nc.of (hf _ (by decide +kernel)), ?_⟩
  refine List.forall_mem_cons.mpr ⟨va_Nc.of (hf _ (by decide +kernel)), ?_⟩
  refine List.forall_mem_cons.mpr ⟨va_Nc.of (hf _ (by decide +kernel)), ?_⟩
  refine List.forall_mem_cons.mpr ⟨va_Nc.of (hf _ (by decide +kernel)), ?_⟩
  refine List.forall_mem_cons.mpr ⟨va_Nc.of (hf _ (by decide +kernel)), ?_⟩
  refine List.forall_mem_cons.mpr ⟨va_Nc.of (hf _ (by decide +kernel)), ?_⟩
  refine List.forall_mem_cons.mpr ⟨va_Nc.of (hf _ (by decide +kernel)), ?_⟩
  refine List.forall_mem_cons.mpr ⟨va_Nc.of (hf _ (by decide +kernel)), ?_⟩
  refine List.forall_mem_cons.mpr ⟨va_Nc.of (hf _ (by decide +kernel)), ?_⟩
  refine List.forall_mem_cons.mpr ⟨va_Nc.of (hf _ (by decide +kernel)), ?_⟩
  intro q hq
  cases hq
theorem jarrs {s : State} {args : Array Value} (hts : ∀ w ∈ lw_tbl, w.before args s = true) : ∃ cA : Nat → ClassId, ∀ t, 20 ≤ t → t ≤ 25 → ArrOfT s (cA t) (jty t) ∧ va_RA s (cA t) (jty t) := by
  have prim : ∀ (t : Nat), Cond.arrayClass (jty t) ∈ jTB → (∀ cX : ClassId, s.vm.findClass ("[" ++ (jty t).toString) = some cX → va_RA s cX (jty t)) → ∃ cX : ClassId, ArrOfT s cX (jty t) ∧ va_RA s cX (jty t) := by
    intro t hw hr
    obtain ⟨cX, k, comp, h1, h2, h3⟩ := Cond.arrayClass_spec (hts _ (List.mem_filter.mp hw).1)
    exact ⟨cX, fun N z => ⟨(fun k h => by cases h), k, h2, comp, h3⟩, hr cX h1⟩
  have refs : ∀ (C : String), va_AO C s → ∃ cX : ClassId, ArrOfT s cX (.object C) ∧ va_RA s cX (.object C) := by
    intro C ho
    obtain ⟨comp, cX, k, h1, h2, h3, h4, h5⟩ := Cond.arrayOver_spec (va_AO.use (A := args) ho)
    exact ⟨cX, fun N z => ⟨(fun k h => by cases h), k, h3, comp, h4⟩, k, comp, h3, h4, h1, h5⟩
  obtain ⟨c0, h0⟩ := prim 20 (jarrW .int (by decide)) (fun _ h => h)
  obtain ⟨c1, h1⟩ := prim 21 (jarrW .long (by decide)) (fun _ h => h)
  obtain ⟨c2, h2⟩ := prim 22 (jarrW .byte (by decide)) (fun _ h => h)
  obtain ⟨c3, h3⟩ := prim 23 (jarrW .boolean (by decide)) (fun _ h => h)
  obtain ⟨c4, h4⟩ := refs RX4 (va_AO.of (A := args) (hts (.arrayOver (.object RX4)) (jword_mem (n := 1116) (by decide +kernel))))
  obtain ⟨c5, h5⟩ := refs RX0 (va_AO.of (A := args) (hts (.arrayOver (.object RX0)) (jword_mem (n := 1173) (by decide +kernel))))
  refine ⟨fun t => if t = 20 then c0 else if t = 21 then c1 else if t = 22 then c2 else if t = 23 then c3 else if t = 24 then c4 else c5, fun t ht1 ht2 => ?_⟩
  have : t = 20 ∨ t = 21 ∨ t = 22 ∨ t = 23 ∨ t = 24 ∨ t = 25 := by omega
  rcases this with e | e | e | e | e | e <;> subst e
  · exact h0
  · exact h1
  · exact h2
  · exact h3
  · exact h4
  · exact h5
set_option maxHeartbeats 4000000 in
set_option maxRecDepth 100000 in
theorem jkn {s : State} {args : Array Value} (hts : ∀ w ∈ lw_tbl, w.before args s = true) : ∃ D : va_G, ∀ (k : Nat) (q : vw_C), vwCl[k]? = some q → u_Kn s q.1 q.2.1 q.2.2 (D.1 k) (D.2 k) := by
  have hts' : ∀ w ∈ jTB, w.before args s = true := fun w h => hts w (List.mem_filter.mp h).1
  obtain ⟨k0, i0, hk0⟩ := u_known (C := RX0) (T := TX0) (N := 3) (n := 3) hts' jlay0 (hts _ (jword_mem (n := 1144) (by decide +kernel)))
  obtain ⟨k1, i1, hk1⟩ := u_known (C := RX1) (T := TX1) (N := 3) (n := 3) hts' jlay1 (hts _ (jword_mem (n := 3193) (by decide +kernel)))
  obtain ⟨k2, i2, hk2⟩ := u_known (C := RX2) (T := TX2) (N := 3) (n := 3) hts' jlay2 (hts _ (jword_mem (n := 3203) (by decide +kernel)))
  obtain ⟨k3, i3, hk3⟩ := u_known (C := RX3) (T := TX3) (N := 3) (n := 3) hts' jlay3 (hts _ (jword_mem (n := 3223) (by decide +kernel)))
  obtain ⟨k4, i4, hk4⟩ := u_known (C := RX4) (T := TX4) (N := 14) (n := 14) hts' jlay4 (hts _ (jword_mem (n := 3036) (by decide +kernel)))
  obtain ⟨k5, i5, hk5⟩ := u_known (C := RX5) (T := TX5) (N := 15) (n := 15) hts' jlay5 (hts _ (jword_mem (n := 1061) (by decide +kernel)))
  obtain ⟨k6, i6, hk6⟩ := u_known (C := RX6) (T := TX6) (N := 3) (n := 3) hts' jlay6 (hts _ (jword_mem (n := 3213) (by decide +kernel)))
  obtain ⟨k7, i7, hk7⟩ := u_known (C := RX7) (T := TX7) (N := 6) (n := 6) hts' jlay7 (hts _ (jword_mem (n := 1118) (by decide +kernel)))
  obtain ⟨k8, i8, hk8⟩ := u_known (C := RX8) (T := TX8) (N := 3) (n := 3) hts' jlay8 (hts _ (jword_mem (n := 3233) (by decide +kernel)))
  obtain ⟨k9, i9, hk9⟩ := u_known (C := RX9) (T := TX9) (N := 15) (n := 15) hts' jlay9 (hts _ (jword_mem (n := 1175) (by decide +kernel)))
  obtain ⟨k10, i10, hk10⟩ := u_known (C := RX10) (T := TX10) (N := 8) (n := 8) hts' jlay10 (hts _ (jword_mem (n := 1026) (by decide +kernel)))
  obtain ⟨k11, i11, hk11⟩ := u_known (C := RX11) (T := TX11) (N := 17) (n := 17) hts' jlay11 (hts _ (jword_mem (n := 1018) (by decide +kernel)))
  obtain ⟨k12, i12, hk12⟩ := u_known (C := RX12) (T := TX12) (N := 66) (n := 66) hts' jlay12 (hts _ (jword_mem (n := 6191) (by decide +kernel)))
  refine ⟨(fun k => if k = 0 then k0 else if k = 1 then k1 else if k = 2 then k2 else if k = 3 then k3 else if k = 4 then k4 else if k = 5 then k5 else if k = 6 then k6 else if k = 7 then k7 else if k = 8 then k8 else if k = 9 then k9 else if k = 10 then k10 else if k = 11 then k11 else k12, fun k => if k = 0 then i0 else if k = 1 then i1 else if k = 2 then i2 else if k = 3 then i3 else if k = 4 then i4 else if k = 5 then i5 else if k = 6 then i6 else if k = 7 then i7 else if k = 8 then i8 else if k = 9 then i9 else if k = 10 then i10 else if k = 11 then i11 else i12), ?_⟩
  intro k q hq
  match k, hq with
  | 0, hq => cases hq; exact hk0
  | 1, hq => cases hq; exact hk1
  | 2, hq => cases hq; exact hk2
  | 3, hq => cases hq; exact hk3
  | 4, hq => cases hq; exact hk4
  | 5, hq => cases hq; exact hk5
  | 6, hq => cases hq; exact hk6
  | 7, hq => cases hq; exact hk7
  | 8, hq => cases hq; exact hk8
  | 9, hq => cases hq; exact hk9
  | 10, hq => cases hq; exact hk10
  | 11, hq => cases hq; exact hk11
  | 12, hq => cases hq; exact hk12
  | k + 13, hq => simp [vwCl] at hq
set_option maxHeartbeats 1000000 in
/-- the law's run on the simple machine is its run on the real one -/
theorem law_sound {p : Program} {e : Env} {s : State} {m : MethodId} {below : List Frame} {meth : Method} {c : Code} (l : Launch) {b L : Nat} {xs : Nat → Int32} (hL : L < 2147483648) (C0 : lw_At p s m meth c b L xs) {d : Nat} (hd : d ≤ 1000) (hall : ∀ k, k < jnM → jP k ≠ [] → jchkM k = true) (hN : jchkN jnM = true)
    (hev : jEv (jOk d) (some L) (fun j => (xs j).toInt) (jP jnM) 600000 7302250 (fun v _ => v = some (0, 1)) (jP jnM, jentry [(2, -2)] (jML jnM), [], jh0, 0, 0)) : W p l e room_1 s m #[Value.ref b] below meth c s.heap [] 0 0 (lw_Z below #[Value.ref b] s) (entryFrame m ([Value.ref b] : List Value).toArray 4) := by
  obtain ⟨hx, hb, hr, hml, hown, hts, hX, hbl, hlocks, hgv⟩ := id C0
  obtain ⟨D, hD⟩ := jkn hts
  obtain ⟨cA, hcA⟩ := jarrs hts
  have has : ∀ v ∈ [((2, -2) : AV)], jok v := by
    intro v hv
    rw [List.mem_singleton.mp hv]
    exact jok_a.mpr (by omega)
  have hKp : jKp D cA s.heap.size b (some L) (fun j => (xs j).toInt) s s.heap := by
    refine ⟨⟨hD, hcA, fun w hw => ?_, ⟨va_AO.of (A := #[Value.ref b]) (hts (.arrayOver (.object RX4)) (jword_mem (n := 1116) (by decide +kernel))), va_AO.of (A := #[Value.ref b]) (hts (.arrayOver (.object RX0)) (jword_mem (n := 1173) (by decide +kernel)))⟩, jnc_ok hgv⟩, hbl, fun n hn => ?_⟩
    · obtain ⟨h1, h2⟩ := List.mem_filter.mp hw
      have h3 := hts w h1
      cases w <;> simp [jisN] at h2 <;> exact va_Nw.of rfl h3
    · cases hn
      have : (fun j => Int32.ofInt ((xs j).toInt)) = xs := by funext j; exact Int32.ofInt_toInt _
      refine ⟨?_, fun j => j32_in _, hL⟩
      rw [this]
      exact hX
  have C : jCx p room_1 s m #[Value.ref b] meth c D cA s.heap.size b (some L) (fun j => (xs j).toInt) jnM := ⟨hx, hb, hml, hown, fun w hw => hts w (List.mem_filter.mp hw).1, hKp, Nat.le_refl _, ?_, by decide, by decide⟩
  · have hH : jHp D cA s.heap.size b s.heap jh0 := ⟨rfl, fun k hk => by cases hk⟩
    have key := hev (jX p l e room_1 s m #[Value.ref b] below meth c (lw_Z below #[Value.ref b] s) D cA s.heap.size b jnM) ?_ ?_ ?_
    · have h1 := key.2 ⟨[], rfl⟩ (jentry_len (by decide))
      simp only at h1
      have hpz : jpc (jP jnM) = 0 := by decide +kernel
      rw [hpz] at h1
      have h2 := h1 s.heap [] _ hH va_S.rf (jL_entry has (by decide)) (fun v hv => by cases hv)
      have e1 : ([((2, -2) : AV)].map (jv s.heap.size b)) = [Value.ref b] := rfl
      rw [e1] at h2
      rw [lg_entry_eq]
      exact h2
    · intro st st' h1 h2 h3
      exact jstep_ok C hN h1 h2 h3
    · intro K LL S h' cu su v hv h2 h3 hQ
      revert hv
      match K with
      | [] => intro hv; cases hv
      | (pc, i, n, ps, z) :: K' =>
        intro hv
        refine ⟨by simp, fun hsf hlen2 => ?_⟩
        obtain ⟨hdd, hc, hsK, hpK⟩ := jchkM_at hN hsf
        simp only at hdd
        show jXW _ _ _ _ _ _ _ _ _ _ _ _ _ _ _ pc LL S h' cu su
        intro H locs ls hH' hS hLs hs
        subst hQ
        simp only [jret] at hv
        simp only [jchkL] at hc
        cases i
        case ireturn =>
          dsimp only at hv hc
          simp only [Bool.and_eq_true, beq_iff_eq] at hc
          obtain ⟨hn, hc⟩ := hc
          split at hv
          · rename_i w
            split at hv
            · rename_i hw
              simp only [Option.some.injEq] at hv
              subst hv
              refine va_forget (fun q hq => hS.2.2 q hq) (W.widen h2 h3 ?_)
              exact lw_ret hx hb hr hlocks (by rw [← hb]; have := hdd; rw [hn] at this; rw [hb]; exact this)
            · cases hv
          · cases hv
        case return_ =>
          dsimp only at hv
          split at hv <;> cases hv
        case lreturn =>
          dsimp only at hv
          split at hv
          · split at hv
            · rename_i w hw
              simp only [Option.some.injEq] at hv
              subst hv
              cases hw
            · cases hv
          · cases hv
        case areturn =>
          dsimp only at hv
          split at hv
          · split at hv
            · rename_i w hw
              simp only [Option.some.injEq] at hv
              subst hv
              cases hw
            · cases hv
          · cases hv
        all_goals (cases hv)
    · intro K LL S h' cu su k' as' S' xx yy Q' h1 h2 h3 h4 h5
      exact jcall_ok C hN (d := d) (by show d + 1 ≤ 2048; omega) (by show 60 * (d + 1) ≤ 84000; omega) h1 (fun has' => jsound hall d xx yy k' as' h' Q' h2 has') h3 h4 h5
  · intro h
    exact absurd h (by decide)
