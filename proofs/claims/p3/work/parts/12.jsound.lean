/-! calls: a callee's contract is what the simple machine says of it -/
def jRm (d a b : Nat) : Room := { frames := d, cells := a, slots := b, locals := 60 * d }
def jPc (D : va_G) (cA : Nat → ClassId) (B b : Nat) (as : List AV) (h : JH) : Array Value → State → Prop := fun av U => av = (as.map (jv B b)).toArray ∧ jR D cA B b none (fun _ => 0) U U.heap h
def jQc (D : va_G) (cA : Nat → ClassId) (B b : Nat) (Q : Option AV → JH → Prop) : Array Value → State → Outcome → State → Prop := fun _ st oc t => (∃ (w : Option AV) (h' : JH), oc = .returned (w.map (jv B b)) ∧ (∀ a, w = some a → jok a) ∧ Q w h' ∧ jHp D cA B b t.heap h') ∧ va_F (fun q => B ≤ q) st t
theorem jPc_blind {D : va_G} {cA : Nat → ClassId} {B b : Nat} {as : List AV} {h : JH} : FrameBlind (jPc D cA B b as h) := fun a U g mk q => ⟨q.1, q.2.1, jKp.moved (s := U) (U := U.calling g mk a) (State.WarmedH.refl U) q.2.2 rfl⟩
theorem jGood {k : Nat} (h : jmOk k = true) : GoodIn jTB (jWs k) := by
  have h := jmOk_F h
  simp only [jmF, Bool.and_eq_true] at h
  intro w hw
  rcases List.mem_cons.mp hw with e | e
  · subst e
    have := jcw_mem h.1.2
    exact ⟨this, good_of_word (List.mem_filter.mp this).2⟩
  · exact ⟨e, good_of_word (List.mem_filter.mp e).2⟩
theorem jmOk_d {k n : Nat} (h : jmOk k = true) (hn : jNA k = n) : (jY k).cls ≠ "java/lang/invoke/MethodHandle" ∧ (jY k).cls ≠ "java/lang/invoke/VarHandle" ∧ (parseMethodDescriptor (jY k).desc).map (fun d => d.parameters.length) = some n := by
  have h := jmOk_F h
  simp only [jmF, Bool.and_eq_true, decide_eq_true_eq] at h
  subst hn
  exact ⟨h.1.1.1.1.1, h.1.1.1.1.2, h.1.1.2⟩
theorem jmOk_L {k : Nat} (h : jmOk k = true) : jML k ≤ 40 := by
  have h := jmOk_F h
  simp only [jmF, Bool.and_eq_true, decide_eq_true_eq] at h
  exact h.2
section JSU
variable {p : Program} {l : Launch} {e : Env} {R : Room} {s : State} {m : MethodId} {args : Array Value} {below : List Frame} {meth : Method} {c : Code}
/-- a call of a method that the superclass has, its own or from above it -/
theorem ja_callSU {T : State} {locs : List Loc} {cells slots : Nat} (X : Stand p l e R s m args below meth c T locs cells slots) (hexec : p.tables.exec = Jvm.exec) {own xc : String} {index : Nat} {y : MethodName} {bytes : ByteArray} {maxL : Nat} {ret : Option FieldType}
    (hown : s.vm.findClass own = some m.cls) (hlink : (Cond.methodLink own index ⟨xc, y.name, y.desc⟩).before args s = true) (hsame : (Cond.sameMethod xc y.cls y.name y.desc).before args s = true) (hsup : (Cond.superclass own xc).before args s = true) (hup : xc = y.cls ∨ (Cond.superclass xc y.cls).before args s = true)
    (hinst : (Cond.instanceMethod y).before args s = true) (hcode : (Cond.code y bytes maxL ret).before args s = true) (hno : y.name ≠ "<init>")
    {W : Nat} {Pre : Pt → Array Value → Prop} {Post : Pt → Array Value → Option Value → Pt → Prop} (hK : Back l R p e below s args y 3 W Pre Post)
    {b : Addr} {cellB : Cell} {kB : Class} (hcell : T.heap[b]? = some cellB) (hobj : cellB.vm.isStatics = false) (hkB : s.vm.classes[cellB.cls]? = some kB)
    {g : JFrame} (hg : g.method = m) (hsize : g.locals.size = c.maxLocals) {argsL rest : List Value} (hlen : ∀ sig, parseMethodDescriptor y.desc = some sig → argsL.length = sig.parameters.length)
    (hstack : g.stack = argsL.reverse ++ .ref b :: rest) (hW : 2 * g.monitorRoom + (rest.map fun v => v.category).sum ≤ W) (hdg : decode c.code g.pc = .ok (.invokespecial index, 3))
    (hpre : ∀ vm₁, s.WarmedH vm₁ → Pre ⟨T.setVm vm₁, locs, cells, slots⟩ (Value.ref b :: argsL).toArray) :
    ∃ (v : Option Value) (vm₁ : Vm) (B : Pt), s.WarmedH vm₁ ∧ Stand p l e R s m args below meth c B.U B.locs B.cells B.slots ∧ Post ⟨T.setVm vm₁, locs, cells, slots⟩ (Value.ref b :: argsL).toArray v B ∧
      ∀ target, Steps p.tables e below (B.U.setTop { g with pc := g.pc + 3, stack := v.toList ++ rest }) target → Steps p.tables e below (T.setTop g) target := by
  obtain ⟨mk, methM, hnamed, hmethM, hstM, habM⟩ := Cond.instanceMethod_spec hinst
  obtain ⟨methM', cM, hmethM', -, -, -, -, -, -, hsigM⟩ := Cond.code_spec hnamed hcode
  cases hmethM.symm.trans hmethM'
  obtain ⟨ps, dk, kp, hps, hdk, hkp, hsuper, -, -, hnid⟩ := Cond.superclass_spec hown hsup
  have hn : s.methodNamed? ⟨y.cls, y.name, y.desc⟩ = some mk := hnamed
  have hmc : s.vm.findClass y.cls = some mk.cls := findClass_of_methodNamed hnamed
  have hsub : s.vm.isSubclass ps mk.cls = true := by
    rcases hup with hup | hup
    · subst hup
      have hpm : ps = mk.cls := Option.some.inj (hps.symm.trans hmc)
      rw [hpm]
      simp [Vm.isSubclass, Vm.isSubclassAux]
    · obtain ⟨ps2, dk2, kp2, hps2, hdk2, hkp2, hsuper2, -, -, -⟩ := Cond.superclass_spec hps hup
      have hpm : ps2 = mk.cls := Option.some.inj (hps2.symm.trans hmc)
      have hsz : 0 < s.vm.classes.size := Nat.lt_of_le_of_lt (Nat.zero_le _) (Array.getElem?_eq_some_iff.mp hdk2).1
      obtain ⟨z, hz⟩ : ∃ z, s.vm.classes.size = z + 1 := ⟨s.vm.classes.size - 1, by omega⟩
      unfold Vm.isSubclass
      rw [hz]
      simp only [Vm.isSubclassAux, hdk2, hsuper2, hpm, beq_self_eq_true, Bool.true_or, Bool.or_true]
  obtain ⟨vm₁, X₁, hstep₁⟩ := X.invokespecialUp hexec (owner := y.cls) (x := ⟨xc, y.name, y.desc⟩) hown hlink hsame hn hmethM hstM habM hno hdk hnid hps hsuper hsub (a := b) (cell := cellB) hcell
    (fun z h => by rw [h] at hobj; cases hobj) hkB (g := g) hg (argsL := argsL) (rest := rest) (hlen _ hsigM) hstack hdg
  obtain ⟨v, B, X', hpost, hsteps⟩ := hK m meth c ⟨T.setVm vm₁, locs, cells, slots⟩ { g with stack := rest } (.invokespecial index) mk (Value.ref b :: argsL).toArray X₁ hg hsize hdg hW (X₁.named hnamed) (hpre vm₁ X₁.warmed)
  exact ⟨v, vm₁, B, X₁.warmed, X', hpost, fun target h => hstep₁ _ (by rw [doInvoke_state]; exact hsteps.trans h)⟩
variable {H : Heap} {locs : List Loc} {cells slots : Nat}
theorem ja_runSU {y : MethodName} {bytes cc : ByteArray} {maxL nL mc ms n index : Nat} {ret : Option FieldType} {ws : List Cond} {rm : Room} {Pc : Array Value → State → Prop} {Qc : Array Value → State → Outcome → State → Prop} {free : Addr → Prop} {Ts : List Cond} {own xc C : String} {cC : ClassId} {b : Addr} {As rest : List Value} {g : JFrame}
    (hat : ClassAt s C cC) (S : CallFix p m c cc nL s args Ts own) (hM : Met l y ws rm Pc Qc mc ms free)
    (cw : rm.cells = mc ∧ rm.slots = ms ∧ rm.frames + 1 ≤ R.frames ∧ 8 + (maxL + 11) + rm.locals ≤ R.locals ∧ (∀ w ∈ ws, ∀ (a' : Array Value) (U : State), s.WarmedH U.vm → w.before a' U = true) ∧ Cond.code y bytes maxL ret ∈ ws)
    (hl1 : (Cond.methodLink own index ⟨xc, y.name, y.desc⟩).before args s = true) (hl2 : (Cond.sameMethod xc y.cls y.name y.desc).before args s = true) (hl3 : (Cond.superclass own xc).before args s = true) (hup : xc = y.cls ∨ (Cond.superclass xc y.cls).before args s = true) (hl4 : (Cond.instanceMethod y).before args s = true) (hini : (Cond.initialized y.cls).before args s = true) (hcode : (Cond.code y bytes maxL ret).before args s = true) (hno : y.name ≠ "<init>") (hlen : ∀ sig, parseMethodDescriptor y.desc = some sig → n = sig.parameters.length) (hp : PreV s H C b Pc As)
    (hg : g.method = m) (hn : As.length = n) (hsize : g.locals.size = nL) (hstack : g.stack = As.reverse ++ .ref b :: rest) (hW : 2 * g.monitorRoom + (rest.map fun v => v.category).sum ≤ 8) (hdg : decode cc g.pc = .ok (.invokespecial index, 3)) (hf : cells + mc ≤ R.cells ∧ slots + ms ≤ R.slots) :
    va_Run p l e R s m args below meth c H locs cells slots mc ms g rest (Qc (Value.ref b :: As).toArray) (free) := by
  obtain ⟨hrc, hrs, hfr, hlo, hws, hcw⟩ := cw
  have hK : Back l R p e below s args y 3 8 (PreOf R mc ms Pc) (PostOf Qc mc ms free) := back_of (bytes := bytes) (maxL := maxL) (ret := ret) hM hp.1 hrc hrs hfr hlo hws hcw (fun a' U hW => word_at hW (Or.inl (by first | rfl | simp [Cond.onTables, Cond.keeps, Cond.steady])) hini)
  obtain ⟨hx, hb, hml, ho, -⟩ := S
  obtain ⟨-, ⟨cellB, hcB, hoB, hclB⟩, hPc⟩ := hp
  obtain ⟨hfc, kB, hkB, -⟩ := hat
  cases hfc.symm.trans hclB
  intro T hT X
  obtain ⟨v, vm₁, ⟨U', l2, c2, s2⟩, hW₁, X', ⟨g', mk, t, L, e1, e2, hq, h1, hL, h2, h3⟩, st⟩ := ja_callSU X hx (bytes := bytes) (maxL := maxL) (ret := ret) ho hl1 hl2 hl3 hup hl4 hcode hno hK (by rw [hT]; exact hcB) hoB hkB hg (hsize.trans hml.symm) (argsL := As) (rest := rest) (fun sig h => hn.trans (hlen sig h)) hstack hW (by rw [hb]; exact hdg)
    (fun vm₁ hW₁ => ⟨hf.1, hf.2, hPc (T.setVm vm₁) hT hW₁⟩)
  dsimp only [Pt.U, Pt.locs, Pt.cells, Pt.slots] at X' e1 e2 h1 h2 h3 st
  subst h1; subst h2; subst h3
  exact ⟨v, (T.setVm vm₁).calling g' mk (Value.ref b :: As).toArray, t, U', L, hT, X', hL, e1, e2, hq, st⟩
end JSU
section JCall
variable {p : Program} {l : Launch} {e : Env} {R : Room} {s : State} {m : MethodId} {args : Array Value} {below : List Frame} {meth : Method} {c : Code} {Q : State → Prop} {D : va_G} {cA : Nat → ClassId} {B b : Nat} {xl : Option Nat} {xs : Nat → Int}
theorem jx_run {pc : Nat} {L S S' : List AV} {h : JH} {cu su a b' : Nat} {Q' : Option AV → JH → Prop} {av : Array Value}
    (hB : B ≤ s.heap.size) (hrun : ∀ (H : Heap) (locs : List Loc) (ls : Array Slot), jHp D cA B b H h → va_S (fun q => B ≤ q) s.heap H locs → jL B b L ls → (∀ v ∈ S, jok v) → (∀ v ∈ S', jok v) ∧ va_Run p l e R s m args below meth c H locs cu su a b' (F0 m pc ls (S.map (jv B b))) (S'.map (jv B b)) (jQc D cA B b Q' av) (fun q => B ≤ q))
    (kk : ∀ (v : Option AV) (h' : JH), Q' v h' → jXW p l e R s m args below meth c Q D cA B b (pc + 3) L (v.toList ++ S') h' (cu + a) (su + b')) : jXW p l e R s m args below meth c Q D cA B b pc L S h cu su := by
  intro H locs ls hH hS hL hs T hT X
  obtain ⟨hs', hr⟩ := hrun H locs ls hH hS hL hs
  obtain ⟨v, st₀, t, T', Lc, h0, X', hLc, e1, e2, ⟨⟨w, h', hv, hw, hQ, hH'⟩, hz, hkp⟩, stp⟩ := hr T hT X
  have hv' : v = w.map (jv B b) := by injection hv
  subst hv'
  rw [h0] at hz hkp
  have hS' : va_S (fun q => B ≤ q) s.heap T'.heap (locs ++ Lc) := by
    refine ⟨Nat.le_trans hS.1 (by rw [e1]; exact hz), fun q h1 h2 => ?_, fun q hq => ?_⟩
    · rw [e1, hkp q (Nat.lt_of_lt_of_le h1 hS.1) h2]
      exact hS.2.1 q h1 h2
    · rcases List.mem_append.mp hq with g | g
      · exact hS.2.2 q g
      · exact hLc q g
  obtain ⟨t2, a1, b1⟩ := kk w h' hQ T'.heap (locs ++ Lc) ls (by rw [e1]; exact hH') hS' hL (by
    intro q hq
    rcases List.mem_append.mp hq with g | g
    · exact hw q (by cases w with | none => cases g | some z => rw [List.mem_singleton.mp g])
    · exact hs' q g) T' rfl X'
  refine ⟨t2, stp t2 ?_, b1⟩
  have e5 : (w.map (jv B b)).toList ++ S'.map (jv B b) = (w.toList ++ S').map (jv B b) := by cases w <;> rfl
  rw [e5]
  exact a1
theorem jpre {H : Heap} {locs : List Loc} {as : List AV} {h : JH} (hKp : jKp D cA B b xl xs s s.heap) (hB : B ≤ s.heap.size) (hH : jHp D cA B b H h) (hS : va_S (fun q => B ≤ q) s.heap H locs) : ∀ U : State, U.heap = H → s.WarmedH U.vm → jPc D cA B b as h (as.map (jv B b)).toArray U := by
  intro U hU hW
  exact ⟨rfl, by rw [hU]; exact hH, hKp.1.moved hW, hKp.2.1, fun n hn => by cases hn⟩
theorem jroom {S : List AV} {pc : Nat} {ls : Array Slot} {st : List Value} (hs : ∀ v ∈ S, jok v) (hw : jwid S ≤ 8) : 2 * (F0 m pc ls st).monitorRoom + ((S.map (jv B b)).map fun v => v.category).sum ≤ 8 := by
  rw [jcat_sum S hs]
  show 2 * 0 + _ ≤ 8
  omega
theorem jsplit {S : List AV} {n : Nat} {v : AV} (h : S[n]? = some v) : S = S.take n ++ v :: S.drop (n + 1) := by
  obtain ⟨hl, he⟩ := List.getElem?_eq_some_iff.mp h
  rw [← he, ← List.drop_eq_getElem_cons hl, List.take_append_drop]
set_option maxHeartbeats 1000000 in
theorem jcall_ok {k d : Nat} (C : jCx p R s m args meth c D cA B b xl xs k) (hM : jchkN k = true) (hR1 : d + 1 ≤ R.frames) (hR2 : 60 * (d + 1) ≤ R.locals) {K : List JE} {L S as S' : List AV} {h : JH} {cu su k' a b' : Nat} {Q' : Option AV → JH → Prop} (hcall : jcall K S h = some (k', as, S'))
    (hMet : (∀ v ∈ as, jok v) → Met l (jY k') (jWs k') (jRm d a b') (jPc D cA B b as h) (jQc D cA B b Q') a b' (fun q => B ≤ q)) (hcu : cu + a ≤ R.cells) (hsu : su + b' ≤ R.slots)
    (kk : ∀ (v : Option AV) (h' : JH), Q' v h' → jX p l e R s m args below meth c Q D cA B b k (K.tail, L, v.toList ++ S', h', cu + a, su + b')) : jX p l e R s m args below meth c Q D cA B b k (K, L, S, h, cu, su) := by
  obtain ⟨hx, hb, hml, ho, hts, hKp, hB, hnm, hfr, hlo⟩ := C
  have hK := hKp.1
  match K, hcall, kk with
  | [], hcall, kk => cases hcall
  | (pc, i, n, ps, z) :: K', hcall, kk =>
    refine ⟨by simp, fun hsf hlen => ?_⟩
    obtain ⟨hd, hc, hsK, hpK⟩ := jchkM_at hM hsf
    have hlen' : L.length = jML k := hlen
    simp only at hd hpK
    show jXW p l e R s m args below meth c Q D cA B b pc L S h cu su
    have fin : n = 3 → ∀ (v : Option AV) (h' : JH), Q' v h' → jXW p l e R s m args below meth c Q D cA B b (pc + 3) L (v.toList ++ S') h' (cu + a) (su + b') := by
      intro hn v h' hq
      have h1 := kk v h' hq
      have h2 := h1.2 hsK hlen'
      simp only [List.tail_cons] at h2
      have h3 : K' ≠ [] := h1.1
      rw [hpK h3, hn] at h2
      exact h2
    simp only [jcall] at hcall
    simp only [jchkL] at hc
    cases i
    case invokestatic x =>
      dsimp only at hcall hc
      split at hcall
      · rename_i hcond
        obtain ⟨hk, hle, hwd⟩ := hcond
        simp only [Option.some.injEq, Prod.mk.injEq] at hcall
        obtain ⟨e1, e2, e3⟩ := hcall
        subst e2
        subst e3
        simp only [Bool.and_eq_true, beq_iff_eq] at hc
        obtain ⟨hn, hc⟩ := hc
        subst hn
        have hlenA : (((S.take (ps.getD 1 0)).reverse).map (jv B b)).length = ps.getD 1 0 := by rw [List.length_map, List.length_reverse, List.length_take]; omega
        have hstk : S.map (jv B b) = (((S.take (ps.getD 1 0)).reverse).map (jv B b)).reverse ++ (S.drop (ps.getD 1 0)).map (jv B b) := by
          rw [← List.map_reverse, List.reverse_reverse, ← List.map_append, List.take_append_drop]
        have hsub : (∀ v ∈ S, jok v) → (∀ v ∈ (S.take (ps.getD 1 0)).reverse, jok v) ∧ ∀ v ∈ S.drop (ps.getD 1 0), jok v := fun g => ⟨fun v hv => g v (List.mem_of_mem_take (List.mem_reverse.mp hv)), fun v hv => g v (List.mem_of_mem_drop hv)⟩
        rcases hk with hk | hk
        · rw [if_pos hk] at hc
          simp only [Bool.and_eq_true, decide_eq_true_eq] at hc
          obtain ⟨⟨⟨⟨c1, c2⟩, c3⟩, c4⟩, c5⟩ := hc
          rw [e1] at c1 c2 c3 c4 c5
          refine jx_run (av := (((S.take (ps.getD 1 0)).reverse).map (jv B b)).toArray) hB (fun H locs ls hH hS hL hs => ⟨(hsub hs).2, ?_⟩) (fin rfl)
          exact va_runS (As := ((S.take (ps.getD 1 0)).reverse).map (jv B b)) ⟨hx, hb, hml, ho, hts⟩ (hMet (hsub hs).1) ⟨callB_of (ps.getD 1 0) hts (jGood c1) rfl rfl rfl (hts _ (jin_mem c5)) (hts _ (jin_mem c3)) (jmOk_d c1 c2) ⟨hR1, by have := jmOk_L c1; show 8 + (jML k' + 11) + 60 * d ≤ _; omega⟩, hts _ (jin_mem c4)⟩ ⟨jPc_blind, jpre hKp hB hH hS⟩ rfl hlenA (hL.1.trans hlen') hstk (jroom (hsub hs).2 hwd) hd ⟨hcu, hsu⟩
        · rw [if_neg (by omega), if_pos hk] at hc
          simp only [Bool.and_eq_true, decide_eq_true_eq] at hc
          obtain ⟨⟨⟨⟨c1, c2⟩, c3⟩, c4⟩, c5⟩ := hc
          rw [e1] at c1 c2 c3 c4 c5
          refine jx_run (av := (((S.take (ps.getD 1 0)).reverse).map (jv B b)).toArray) hB (fun H locs ls hH hS hL hs => ⟨(hsub hs).2, ?_⟩) (fin rfl)
          exact va_runSN (As := ((S.take (ps.getD 1 0)).reverse).map (jv B b)) ⟨hx, hb, hml, ho, hts⟩ (hMet (hsub hs).1) ⟨va_cnB (ps.getD 1 0) hts (jGood c1) rfl rfl rfl (hK.2.2.1 _ (jinN_mem c3)) (hts _ (jin_mem c5)) (jmOk_d c1 c2) ⟨hR1, by have := jmOk_L c1; show 8 + (jML k' + 11) + 60 * d ≤ _; omega⟩, hts _ (jin_mem c4), trivial⟩ ⟨jPc_blind, jpre hKp hB hH hS⟩ rfl hlenA (hL.1.trans hlen') hstk (jroom (hsub hs).2 hwd) hd ⟨hcu, hsu⟩
      · cases hcall
    case invokespecial x =>
      dsimp only at hcall hc
      split at hcall
      · rename_i v hv
        split at hcall
        · rename_i hcond
          obtain ⟨hk, hv2, hv0, hwd⟩ := hcond
          obtain ⟨vt, r⟩ := v
          simp only at hv2 hv0
          subst hv2
          simp only [Option.some.injEq, Prod.mk.injEq] at hcall
          obtain ⟨e1, e2, e3⟩ := hcall
          subst e2
          subst e3
          simp only [Bool.and_eq_true, beq_iff_eq] at hc
          obtain ⟨hn, hc⟩ := hc
          subst hn
          have hle : ps.getD 1 0 < S.length := (List.getElem?_eq_some_iff.mp hv).1
          have hlenA : (((S.take (ps.getD 1 0)).reverse).map (jv B b)).length = ps.getD 1 0 := by rw [List.length_map, List.length_reverse, List.length_take]; omega
          have hstk : S.map (jv B b) = (((S.take (ps.getD 1 0)).reverse).map (jv B b)).reverse ++ .ref (B + r.toNat) :: (S.drop (ps.getD 1 0 + 1)).map (jv B b) := by
            conv => lhs; rw [jsplit hv]
            rw [← List.map_reverse, List.reverse_reverse, List.map_append, List.map_cons, jv_r B b hv0]
          have hsub : (∀ v ∈ S, jok v) → (∀ v ∈ (2, r) :: (S.take (ps.getD 1 0)).reverse, jok v) ∧ ∀ v ∈ S.drop (ps.getD 1 0 + 1), jok v := fun g => ⟨jmc (jok_a.mpr (by omega)) (fun v hv => g v (List.mem_of_mem_take (List.mem_reverse.mp hv))), fun v hv => g v (List.mem_of_mem_drop hv)⟩
          have hav : (((2, r) :: (S.take (ps.getD 1 0)).reverse).map (jv B b)).toArray = (Value.ref (B + r.toNat) :: ((S.take (ps.getD 1 0)).reverse).map (jv B b)).toArray := by rw [List.map_cons, jv_r B b hv0]
          rcases hk with hk | hk
          · rw [if_pos hk] at hc
            simp only [Bool.and_eq_true, decide_eq_true_eq] at hc
            obtain ⟨⟨⟨⟨⟨⟨c1, c2⟩, c3⟩, c4⟩, c5⟩, c6⟩, c7⟩ := hc
            rw [e1] at c1 c2 c3 c4 c5 c6 c7
            refine jx_run (av := (Value.ref (B + r.toNat) :: ((S.take (ps.getD 1 0)).reverse).map (jv B b)).toArray) hB (fun H locs ls hH hS hL hs => ⟨(hsub hs).2, ?_⟩) (fin rfl)
            have hp := jpre (as := (2, r) :: (S.take (ps.getD 1 0)).reverse) hKp hB hH hS
            rw [hav] at hp
            have hcb := callB_of (R := R) (rm := jRm d a b') (mc := a) (ms := b') (ps.getD 1 0) hts (jGood c1) rfl rfl rfl (hts _ (jin_mem c5)) (hts _ (jin_mem c3)) (jmOk_d c1 c2) ⟨hR1, by have := jmOk_L c1; show 8 + (jML k' + 11) + 60 * d ≤ _; omega⟩
            rw [c7] at hcb
            exact va_runI (As := ((S.take (ps.getD 1 0)).reverse).map (jv B b)) (b := B + r.toNat) ⟨hx, hb, hml, ho, hts⟩ (hMet (hsub hs).1) ⟨hcb, c6, hts _ (jin_mem c4)⟩ ⟨jPc_blind, hp⟩ rfl hlenA (hL.1.trans hlen') hstk (jroom (hsub hs).2 hwd) hd ⟨hcu, hsu⟩
          · rw [if_neg (by omega), if_pos hk] at hc
            simp only [Bool.and_eq_true, decide_eq_true_eq] at hc
            obtain ⟨⟨⟨⟨⟨⟨c1, c2⟩, c3⟩, c4⟩, c5⟩, c6⟩, c7⟩ := hc
            rw [e1] at c1 c2 c3 c4 c5 c6 c7
            refine jx_run (av := (Value.ref (B + r.toNat) :: ((S.take (ps.getD 1 0)).reverse).map (jv B b)).toArray) hB (fun H locs ls hH hS hL hs => ⟨(hsub hs).2, ?_⟩) (fin rfl)
            have hp := jpre (as := (2, r) :: (S.take (ps.getD 1 0)).reverse) hKp hB hH hS
            rw [hav] at hp
            have hcb := va_cnB (R := R) (rm := jRm d a b') (mc := a) (ms := b') (ps.getD 1 0) hts (jGood c1) rfl rfl rfl (hK.2.2.1 _ (jinN_mem c3)) (hts _ (jin_mem c5)) (jmOk_d c1 c2) ⟨hR1, by have := jmOk_L c1; show 8 + (jML k' + 11) + 60 * d ≤ _; omega⟩
            rw [c7] at hcb
            exact va_runIN (As := ((S.take (ps.getD 1 0)).reverse).map (jv B b)) (b := B + r.toNat) ⟨hx, hb, hml, ho, hts⟩ (hMet (hsub hs).1) ⟨hcb, c6, hts _ (jin_mem c4)⟩ ⟨jPc_blind, hp⟩ rfl hlenA (hL.1.trans hlen') hstk (jroom (hsub hs).2 hwd) hd ⟨hcu, hsu⟩
        · split at hcall
          · rename_i hcond
            obtain ⟨hk, hv2, hv0, hvl, hvf, hwd⟩ := hcond
            obtain ⟨vt, r⟩ := v
            simp only at hv2 hv0 hvl hvf
            subst hv2
            simp only [Option.some.injEq, Prod.mk.injEq] at hcall
            obtain ⟨e1, e2, e3⟩ := hcall
            subst e2
            subst e3
            simp only [Bool.and_eq_true, beq_iff_eq] at hc
            obtain ⟨hn, hc⟩ := hc
            subst hn
            have hle : ps.getD 1 0 < S.length := (List.getElem?_eq_some_iff.mp hv).1
            have hlenA : (((S.take (ps.getD 1 0)).reverse).map (jv B b)).length = ps.getD 1 0 := by rw [List.length_map, List.length_reverse, List.length_take]; omega
            have hstk : S.map (jv B b) = (((S.take (ps.getD 1 0)).reverse).map (jv B b)).reverse ++ .ref (B + r.toNat) :: (S.drop (ps.getD 1 0 + 1)).map (jv B b) := by
              conv => lhs; rw [jsplit hv]
              rw [← List.map_reverse, List.reverse_reverse, List.map_append, List.map_cons, jv_r B b hv0]
            have hsub : (∀ v ∈ S, jok v) → (∀ v ∈ (2, r) :: (S.take (ps.getD 1 0)).reverse, jok v) ∧ ∀ v ∈ S.drop (ps.getD 1 0 + 1), jok v := fun g => ⟨jmc (jok_a.mpr (by omega)) (fun v hv => g v (List.mem_of_mem_take (List.mem_reverse.mp hv))), fun v hv => g v (List.mem_of_mem_drop hv)⟩
            have hav : (((2, r) :: (S.take (ps.getD 1 0)).reverse).map (jv B b)).toArray = (Value.ref (B + r.toNat) :: ((S.take (ps.getD 1 0)).reverse).map (jv B b)).toArray := by rw [List.map_cons, jv_r B b hv0]
            have hvt : (h.2.1 r.toNat).1 < 13 := jfam_lt (by omega) hvf
            obtain ⟨qr, hqr⟩ := jcl_some hvt
            rw [if_neg (by omega), if_neg (by omega), if_neg (by omega), if_pos hk] at hc
            unfold jchkS at hc
            simp only [Bool.and_eq_true, decide_eq_true_eq] at hc
            obtain ⟨⟨⟨⟨⟨c1, c2⟩, c3⟩, c4⟩, c5⟩, c6⟩ := hc
            rw [e1] at c1 c2 c3 c4 c5 c6
            split at c3
            · rename_i w hw
              split at c3
              · rename_i o y q
                simp only [Bool.and_eq_true, decide_eq_true_eq, Bool.or_eq_true] at c3
                obtain ⟨⟨⟨⟨⟨⟨⟨f1, f2⟩, f3⟩, f4⟩, f5⟩, f6⟩, f7⟩, f8⟩ := c3
                subst f1
                subst f2
                obtain ⟨qc, qn, qd⟩ := q
                simp only at f3 f4 f6 f7 f8
                subst f3
                subst f4
                refine jx_run (av := (Value.ref (B + r.toNat) :: ((S.take (ps.getD 1 0)).reverse).map (jv B b)).toArray) hB (fun H locs ls hH hS hL hs => ⟨(hsub hs).2, ?_⟩) (fin rfl)
                have hp := jpre (as := (2, r) :: (S.take (ps.getD 1 0)).reverse) hKp hB hH hS
                rw [hav] at hp
                obtain ⟨cell, q1, q2, q3⟩ := jbody hH hvl rfl hvt
                exact ja_runSU (As := ((S.take (ps.getD 1 0)).reverse).map (jv B b)) (b := B + r.toNat) (C := qr.1) (xc := qc) (bytes := jBy k') (maxL := jML k') (ret := jRt k') (hK.1 _ qr hqr).2 ⟨hx, hb, hml, ho, hts⟩ (hMet (hsub hs).1) ⟨rfl, rfl, hR1, by have := jmOk_L c1; show 8 + (jML k' + 11) + 60 * d ≤ _; omega, pay_in hts (jGood c1), List.mem_cons_self⟩ (hts _ (List.mem_filter.mpr ⟨jword_mem hw, f5⟩)) (hts _ (jin_mem f6)) (hts _ (jin_mem f7)) (f8.imp id (fun z => hts _ (jin_mem z))) (hts _ (jin_mem c4)) (hts _ (jin_mem c5)) (hts _ (jGood c1 _ List.mem_cons_self).1) c6 (fun sig hsg => by
                  have h2 := (jmOk_d c1 c2).2.2
                  rw [hsg] at h2
                  exact (Option.some.inj h2).symm) ⟨jPc_blind, ⟨cell, q1, by rw [q3]; rfl, by rw [q2]; exact (hK.1 _ qr hqr).2.1⟩, hp⟩ rfl hlenA (hL.1.trans hlen') hstk (jroom (hsub hs).2 hwd) hd ⟨hcu, hsu⟩
              · cases c3
            · cases c3
          · cases hcall
      · cases hcall
    case invokevirtual x =>
      dsimp only at hcall hc
      split at hcall
      · rename_i v hv
        split at hcall
        · rename_i hcond
          obtain ⟨hk, hv2, hv0, hvl, htg, hwd⟩ := hcond
          obtain ⟨vt, r⟩ := v
          simp only at hv2 hv0 hvl htg
          subst hv2
          simp only [Option.some.injEq, Prod.mk.injEq] at hcall
          obtain ⟨e1, e2, e3⟩ := hcall
          subst e2
          subst e3
          simp only [Bool.and_eq_true, beq_iff_eq] at hc
          obtain ⟨hn, hc⟩ := hc
          subst hn
          have hle : ps.getD 1 0 < S.length := (List.getElem?_eq_some_iff.mp hv).1
          have hlenA : (((S.take (ps.getD 1 0)).reverse).map (jv B b)).length = ps.getD 1 0 := by rw [List.length_map, List.length_reverse, List.length_take]; omega
          have hstk : S.map (jv B b) = (((S.take (ps.getD 1 0)).reverse).map (jv B b)).reverse ++ .ref (B + r.toNat) :: (S.drop (ps.getD 1 0 + 1)).map (jv B b) := by
            conv => lhs; rw [jsplit hv]
            rw [← List.map_reverse, List.reverse_reverse, List.map_append, List.map_cons, jv_r B b hv0]
          have hsub : (∀ v ∈ S, jok v) → (∀ v ∈ (2, r) :: (S.take (ps.getD 1 0)).reverse, jok v) ∧ ∀ v ∈ S.drop (ps.getD 1 0 + 1), jok v := fun g => ⟨jmc (jok_a.mpr (by omega)) (fun v hv => g v (List.mem_of_mem_take (List.mem_reverse.mp hv))), fun v hv => g v (List.mem_of_mem_drop hv)⟩
          have hav : (((2, r) :: (S.take (ps.getD 1 0)).reverse).map (jv B b)).toArray = (Value.ref (B + r.toNat) :: ((S.take (ps.getD 1 0)).reverse).map (jv B b)).toArray := by rw [List.map_cons, jv_r B b hv0]
          rw [if_pos hk] at hc
          simp only [Bool.and_eq_true, decide_eq_true_eq] at hc
          obtain ⟨⟨⟨⟨⟨⟨c1, c2⟩, c3⟩, c4⟩, c5⟩, c6⟩, c7⟩ := hc
          rw [e1] at c1 c2 c3 c4 c5 c6 c7
          split at c3
          · rename_i q hq
            simp only [decide_eq_true_eq] at c3
            refine jx_run (av := (Value.ref (B + r.toNat) :: ((S.take (ps.getD 1 0)).reverse).map (jv B b)).toArray) hB (fun H locs ls hH hS hL hs => ⟨(hsub hs).2, ?_⟩) (fin rfl)
            have hp := jpre (as := (2, r) :: (S.take (ps.getD 1 0)).reverse) hKp hB hH hS
            rw [hav] at hp
            obtain ⟨cell, q1, q2, q3⟩ := jbody hH hvl htg (jcl_lt hq)
            exact va_runV (As := ((S.take (ps.getD 1 0)).reverse).map (jv B b)) (C := (jY k').cls) (b := B + r.toNat) ⟨hx, hb, hml, ho, hts⟩ (hMet (hsub hs).1) ⟨callB_of (ps.getD 1 0) hts (jGood c1) rfl rfl rfl (hts _ (jin_mem c7)) (hts _ (jin_mem c4)) (jmOk_d c1 c2) ⟨hR1, by have := jmOk_L c1; show 8 + (jML k' + 11) + 60 * d ≤ _; omega⟩, hts _ (jin_mem c5), hts _ (jin_mem c6)⟩ ⟨jPc_blind, ⟨cell, q1, by rw [q3]; rfl, by rw [q2, c3]; exact (hK.1 _ q hq).2.1⟩, hp⟩ rfl hlenA (hL.1.trans hlen') hstk (jroom (hsub hs).2 hwd) hd ⟨hcu, hsu⟩
          · cases c3
        · split at hcall
          · rename_i hcond
            obtain ⟨hk, hv2, hv0, hvl, hvf, hne, hwd⟩ := hcond
            obtain ⟨vt, r⟩ := v
            simp only at hv2 hv0 hvl hvf
            subst hv2
            simp only [Option.some.injEq, Prod.mk.injEq] at hcall
            obtain ⟨e1, e2, e3⟩ := hcall
            subst e2
            subst e3
            simp only [Bool.and_eq_true, beq_iff_eq] at hc
            obtain ⟨hn, hc⟩ := hc
            subst hn
            have hle : ps.getD 1 0 < S.length := (List.getElem?_eq_some_iff.mp hv).1
            have hlenA : (((S.take (ps.getD 1 0)).reverse).map (jv B b)).length = ps.getD 1 0 := by rw [List.length_map, List.length_reverse, List.length_take]; omega
            have hstk : S.map (jv B b) = (((S.take (ps.getD 1 0)).reverse).map (jv B b)).reverse ++ .ref (B + r.toNat) :: (S.drop (ps.getD 1 0 + 1)).map (jv B b) := by
              conv => lhs; rw [jsplit hv]
              rw [← List.map_reverse, List.reverse_reverse, List.map_append, List.map_cons, jv_r B b hv0]
            have hsub : (∀ v ∈ S, jok v) → (∀ v ∈ (2, r) :: (S.take (ps.getD 1 0)).reverse, jok v) ∧ ∀ v ∈ S.drop (ps.getD 1 0 + 1), jok v := fun g => ⟨jmc (jok_a.mpr (by omega)) (fun v hv => g v (List.mem_of_mem_take (List.mem_reverse.mp hv))), fun v hv => g v (List.mem_of_mem_drop hv)⟩
            have hav : (((2, r) :: (S.take (ps.getD 1 0)).reverse).map (jv B b)).toArray = (Value.ref (B + r.toNat) :: ((S.take (ps.getD 1 0)).reverse).map (jv B b)).toArray := by rw [List.map_cons, jv_r B b hv0]
            have hvt : (h.2.1 r.toNat).1 < 13 := jfam_lt (by omega) hvf
            obtain ⟨qr, hqr⟩ := jcl_some hvt
            rw [if_neg (by omega), if_pos hk] at hc
            unfold jchkV at hc
            simp only [Bool.and_eq_true, decide_eq_true_eq] at hc
            obtain ⟨⟨⟨c1, c2⟩, c3⟩, c4⟩ := hc
            split at c3
            · rename_i w hw
              split at c3
              · rename_i o y q
                simp only [Bool.and_eq_true, decide_eq_true_eq] at c3
                obtain ⟨⟨⟨⟨⟨⟨f1, f2⟩, f3⟩, f4⟩, f5⟩, f6⟩, f7⟩ := c3
                subst f1
                subst f2
                have f8 := List.all_eq_true.mp f7 _ (jfam_in hvf)
                unfold jchkVt at f8
                simp only [Bool.or_eq_true, beq_iff_eq, Bool.and_eq_true, decide_eq_true_eq] at f8
                rcases f8 with f8 | ⟨⟨⟨⟨d1, d2⟩, d3⟩, d4⟩, d5⟩
                · exact absurd f8 hne
                rw [e1] at d1 d2 d3 d4 d5
                rw [hqr] at d3
                simp only at d3
                obtain ⟨qc, qn, qd⟩ := q
                simp only at f3 f4 f6
                subst f3
                subst f4
                refine jx_run (av := (Value.ref (B + r.toNat) :: ((S.take (ps.getD 1 0)).reverse).map (jv B b)).toArray) hB (fun H locs ls hH hS hL hs => ⟨(hsub hs).2, ?_⟩) (fin rfl)
                have hp := jpre (as := (2, r) :: (S.take (ps.getD 1 0)).reverse) hKp hB hH hS
                rw [hav] at hp
                obtain ⟨cell, q1, q2, q3⟩ := jbody hH hvl rfl hvt
                have hlk : Cond.methodLink (jY k).cls y ⟨qc, (jY (ps.getD 8 0)).name, (jY (ps.getD 8 0)).desc⟩ ∈ jTB := List.mem_filter.mpr ⟨jword_mem hw, f5⟩
                have hgd : ∀ {w : Cond}, w ∈ jTB → w ∈ jTB ∧ ((w.onTables && w.keeps) = true ∨ ∃ ty, w = .arrayClass ty) := fun h => ⟨h, good_of_word (List.mem_filter.mp h).2⟩
                have hG : GoodIn jTB (va_wsO (jY k).cls y qr.1 (jY (ps.getD 8 0)).cls ⟨qc, (jY (ps.getD 8 0)).name, (jY (ps.getD 8 0)).desc⟩ (jY k') (jWs k')) := by
                  intro w' hw'
                  unfold va_wsO at hw'
                  rcases List.mem_append.mp hw' with h' | h'
                  · simp only [List.mem_cons, List.not_mem_nil, or_false] at h'
                    rcases h' with h' | h' | h' | h' | h' | h' <;> subst h'
                    · exact hgd hlk
                    · exact hgd (jin_mem f6)
                    · exact hgd (jin_mem c4)
                    · exact hgd (jin_mem d3)
                    · exact hgd (jin_mem d4)
                    · exact hgd (jin_mem d5)
                  · exact jGood d1 w' h'
                have hcO : Cond.code (jY (ps.getD 8 0)) (jBy (ps.getD 8 0)) (jML (ps.getD 8 0)) (jRt (ps.getD 8 0)) ∈ jTB := (jGood c1 _ List.mem_cons_self).1
                exact va_runU (As := ((S.take (ps.getD 1 0)).reverse).map (jv B b)) (C := qr.1) (owner := (jY (ps.getD 8 0)).cls) (b := B + r.toNat) ⟨hx, hb, hml, ho, hts⟩ (hMet (hsub hs).1) (va_cwO (ps.getD 1 0) hts hG rfl rfl rfl hcO (jmOk_d c1 c2) ⟨hR1, by have := jmOk_L d1; show 8 + (jML k' + 11) + 60 * d ≤ _; omega⟩) ⟨jPc_blind, ⟨cell, q1, by rw [q3]; rfl, by rw [q2]; exact (hK.1 _ qr hqr).2.1⟩, hp⟩ rfl hlenA (hL.1.trans hlen') hstk (jroom (hsub hs).2 hwd) hd ⟨hcu, hsu⟩
              · cases c3
            · cases c3
          · cases hcall
      · cases hcall
    all_goals (cases hcall)
end JCall
/-! the arguments, as a method finds them -/
theorem jexp_at {B b : Nat} (as : List AV) (h : ∀ v ∈ as, jok v) : ∀ (o i : Nat) (v : AV), (jexp as)[i]? = some v → v.1 ≤ 2 → (o + i, jv B b v) ∈ lv_args o (as.map (jv B b)) ∧ jok v := by
  induction as with
  | nil => intro o i v hv; simp [jexp] at hv
  | cons w r ih =>
    intro o i v hv h2
    obtain ⟨g1, g2⟩ := jms1 h
    rw [List.map_cons]
    unfold lv_args
    rw [jv_cat B b g1]
    unfold jexp at hv
    by_cases hw : w.1 = 1
    · rw [if_pos hw] at hv
      rw [if_pos hw, if_pos rfl]
      match i, hv with
      | 0, hv =>
        simp only [List.getElem?_cons_zero, Option.some.injEq] at hv
        subst hv
        exact ⟨List.mem_cons_self, g1⟩
      | 1, hv =>
        simp only [List.getElem?_cons_succ, List.getElem?_cons_zero, Option.some.injEq] at hv
        subst hv
        simp at h2
      | i + 2, hv =>
        simp only [List.getElem?_cons_succ] at hv
        obtain ⟨a1, a2⟩ := ih g2 (o + 2) i v hv h2
        exact ⟨List.mem_cons_of_mem _ (by rw [show o + (i + 2) = o + 2 + i by omega]; exact a1), a2⟩
    · rw [if_neg hw] at hv
      rw [if_neg hw, if_neg (by decide)]
      match i, hv with
      | 0, hv =>
        simp only [List.getElem?_cons_zero, Option.some.injEq] at hv
        subst hv
        exact ⟨List.mem_cons_self, g1⟩
      | i + 1, hv =>
        simp only [List.getElem?_cons_succ] at hv
        obtain ⟨a1, a2⟩ := ih g2 (o + 1) i v hv h2
        exact ⟨List.mem_cons_of_mem _ (by rw [show o + (i + 1) = o + 1 + i by omega]; exact a1), a2⟩
theorem jexp_len {B b : Nat} (as : List AV) (h : ∀ v ∈ as, jok v) : (lg_sl (as.map (jv B b))).length = (jexp as).length := by
  induction as with
  | nil => rfl
  | cons w r ih =>
    obtain ⟨g1, g2⟩ := jms1 h
    have := ih g2
    unfold lg_sl at this ⊢
    rw [List.map_cons, List.flatMap_cons, List.length_append, this, jv_cat B b g1, show jexp (w :: r) = if w.1 = 1 then w :: (9, 0) :: jexp r else w :: jexp r from rfl]
    by_cases hw : w.1 = 1
    · simp only [if_pos hw, List.length_cons, List.length_nil]
      simp
      omega
    · simp only [if_neg hw, List.length_cons, List.length_nil]
      simp
      omega
theorem jL_entry {B b : Nat} {as : List AV} {n : Nat} (h : ∀ v ∈ as, jok v) (hl : (jexp as).length ≤ n) : jL B b (jentry as n) ((lg_sl (as.map (jv B b)) ++ List.replicate (n - (lg_sl (as.map (jv B b))).length) Slot.unset).toArray) := by
  have hh := lv_entry (as.map (jv B b)) (n := n) (by rw [jexp_len as h]; exact hl)
  refine ⟨?_, hh.2.1, fun i v hv h2 => ?_⟩
  · rw [hh.1]
    simp [jentry]
    omega
  · unfold jentry at hv
    by_cases hi : i < (jexp as).length
    · rw [List.getElem?_append_left hi] at hv
      obtain ⟨a1, a2⟩ := jexp_at (B := B) (b := b) as h 0 i v hv h2
      rw [Nat.zero_add] at a1
      exact ⟨hh.2.2 _ a1, a2⟩
    · rw [List.getElem?_append_right (by omega)] at hv
      have := List.mem_of_getElem? hv
      rw [List.mem_replicate] at this
      rw [this.2] at h2
      simp at h2
theorem jentry_len {as : List AV} {n : Nat} (hl : (jexp as).length ≤ n) : (jentry as n).length = n := by
  simp [jentry]
  omega
theorem jofW {l : Launch} {y : MethodName} {ws ws' : List Cond} {rm : Room} {Pc : Array Value → State → Prop} {Qc : Array Value → State → Outcome → State → Prop} {mc ms : Nat} {free : Addr → Prop} {cc : ByteArray} {maxL : Nat} {ret : Option FieldType}
    (hy : plainFor y = true) (hw : ws = Cond.code y cc maxL ret :: ws')
    (body : ∀ p e s m args below meth c s₁, BodyLoose p l y (headSpec ws rm) cc maxL ret e s m args below meth c s₁ → c.maxLocals = maxL → Pc args s →
      W p l e (headSpec ws rm).room s m args below meth c s.heap [] 0 0 (MQ below Qc args s mc ms free) (entryFrame m args maxL)) : Met l y ws rm Pc Qc mc ms free := by
  refine MetFree.of_bodyRF (code := cc) (maxLocals := maxL) (ret := ret) hy ?_ ?_
  · intro args s m h hn
    obtain ⟨meth, c, h1, h2, h3, h4, h5, h6, -, -⟩ := Cond.code_spec hn (atoms_spec (ws := ws) h _ (by rw [hw]; exact List.mem_cons_self))
    exact ⟨meth, c, h1, h2, h3, h4, h5, h6⟩
  · intro p e s m args below meth c s₁ B hml hP _ hst
    have hh0 : s₁.heap = s.heap := by rw [B.state]; rfl
    obtain ⟨t, a1, o, b1, b2, b3⟩ := body p e s m args below meth c s₁ B hml hP s₁ hh0 (Stand.of_body B)
    exact ⟨t, o, hst.trans a1, b1, b2, ⟨b3.1, b3.2⟩⟩
set_option maxHeartbeats 1000000 in
/-- what the simple machine says of a call holds of the real one -/
theorem jsound {l : Launch} {D : va_G} {cA : Nat → ClassId} {B b : Nat} (hall : ∀ k, k < jnM → jP k ≠ [] → jchkM k = true) : ∀ (d a b' k : Nat) (as : List AV) (h : JH) (Q : Option AV → JH → Prop), jOk d a b' k as h Q → (∀ v ∈ as, jok v) →
    Met l (jY k) (jWs k) (jRm d a b') (jPc D cA B b as h) (jQc D cA B b Q) a b' (fun q => B ≤ q) := by
  intro d
  induction d with
  | zero => intro a b' k as h Q hok; exact hok.elim
  | succ d ih =>
    intro a b' k as h Q hok has
    obtain ⟨hk, hlen, hev⟩ := hok
    by_cases hne : jP k = []
    · exfalso
      refine hev (fun st => st.1 ≠ []) ?_ ?_ ?_ hne
      · intro st st' h1 _ _ h2
        obtain ⟨K, r⟩ := st
        simp only at h2
        subst h2
        cases h1
      · intro K L S h' cu su v h1 _ _ _ h2
        simp only at h2
        subst h2
        cases h1
      · intro K L S h' cu su k' as' S' x y Q' h1 _ _ _ _ h2
        simp only at h2
        subst h2
        cases h1
    have hM0 := hall k hk hne
    simp only [jchkM, Bool.and_eq_true] at hM0
    obtain ⟨hM, hmk⟩ := hM0
    have hM' := hM
    simp only [jchkN, Bool.and_eq_true] at hM'
    obtain ⟨⟨⟨-, -⟩, -⟩, hp0⟩ := hM'
    have hmk' := jmOk_F hmk
    simp only [jmF, Bool.and_eq_true, decide_eq_true_eq] at hmk'
    refine jofW (cc := jBy k) (maxL := jML k) (ret := jRt k) (jpl_ok hmk'.1.1.1.2) rfl ?_
    intro p e s m args below meth c s₁ BB hml hP
    obtain ⟨rfl, hH, hKp⟩ := hP
    have hts0 := atoms_spec (ws := jWs k) BB.pre
    have hBs : B ≤ s.heap.size := by rw [hH.1]; omega
    have hR : (headSpec (jWs k) (jRm (d + 1) a b')).room = jRm (d + 1) a b' := rfl
    have C : jCx p (jRm (d + 1) a b') s m (as.map (jv B b)).toArray meth c D cA B b none (fun _ => 0) k := ⟨BB.exec, BB.bytes, hml, findClass_of_methodNamed BB.named, fun w hw => hts0 w (List.mem_cons_of_mem _ hw), hKp, hBs, fun h => (name_of_methodNamed BB.named BB.method).1.trans h, by show 1 ≤ d + 1; omega, by show 60 ≤ 60 * (d + 1); omega⟩
    have hlocks := BB.notSynchronized
    have hret := BB.returns
    have key := hev (jX p l e (jRm (d + 1) a b') s m (as.map (jv B b)).toArray below meth c (MQ below (jQc D cA B b Q) (as.map (jv B b)).toArray s a b' (fun q => B ≤ q)) D cA B b k) ?_ ?_ ?_
    · have h1 := key.2 ⟨[], rfl⟩ (jentry_len hlen)
      simp only at h1
      have hpz : jpc (jP k) = 0 := by simpa using hp0
      rw [hpz] at h1
      have h2 := h1 s.heap [] _ hH va_S.rf (jL_entry has hlen) (fun v hv => by cases hv)
      rw [hR, lg_entry_eq]
      exact h2
    · intro st st' h1 h2 h3
      exact jstep_ok C hM h1 h2 h3
    · intro K L S h' cu su v hv h2 h3 hQ
      revert hv
      match K with
      | [] => intro hv; cases hv
      | (pc, i, n, ps, z) :: K' =>
        intro hv
        refine ⟨by simp, fun hsf hlen2 => ?_⟩
        obtain ⟨hd, hc, hsK, hpK⟩ := jchkM_at hM hsf
        simp only at hd
        show jXW _ _ _ _ _ _ _ _ _ _ _ _ _ _ _ pc L S h' cu su
        intro H locs ls hH' hS hL hs
        refine W.widen h2 h3 ?_
        have hq : ∀ w : Option AV, (∀ a, w = some a → jok a) → Q w h' → ∀ t : State, t.heap = H → s.WarmedH t.vm → jQc D cA B b Q (as.map (jv B b)).toArray s (.returned (w.map (jv B b))) t := by
          intro w hw hqw t ht _
          exact ⟨⟨w, h', rfl, hw, hqw, by rw [ht]; exact hH'⟩, by rw [ht]; exact hS.1, fun q g1 g2 => by rw [ht]; exact hS.2.1 q g1 g2⟩
        simp only [jret] at hv
        simp only [jchkL] at hc
        cases i
        case return_ =>
          dsimp only at hv hc
          simp only [Bool.and_eq_true, beq_iff_eq, decide_eq_true_eq] at hc
          obtain ⟨hn, hc⟩ := hc
          split at hv
          · rename_i hS0
            subst hS0
            cases hv
            have hd1 : decode (jBy k) pc = .ok (.return_, 1) := by rw [hd, hn]
            exact W.vret BB.exec BB.bytes (by rw [hret, hc]) (hq none (fun _ g => by cases g) hQ) (fun q hq => hS.2.2 q hq) hd1 hlocks
          · cases hv
        case ireturn =>
          dsimp only at hv hc
          simp only [Bool.and_eq_true, beq_iff_eq] at hc
          obtain ⟨hn, hc⟩ := hc
          split at hv
          · rename_i w
            split at hv
            · rename_i hw
              cases hv
              obtain ⟨wt, wv⟩ := w
              obtain ⟨hw1, hw2⟩ := hw
              simp only at hw1 hw2
              subst hw1
              have hwo := (jms1 hs).1
              have hd1 : decode (jBy k) pc = .ok (.ireturn, 1) := by rw [hd, hn]
              by_cases hps : jhd ps = 1
              · rw [if_pos hps] at hc
                simp only [decide_eq_true_eq] at hc
                exact W.zret (ty := .boolean) BB.exec BB.bytes (by rw [hret, hc]) (by rcases hw2 hps with g | g <;> rw [g] <;> decide) (hq (some (0, wv)) (fun a g => by cases g; exact hwo) hQ) (fun q hq => hS.2.2 q hq) hd1 hlocks
              · rw [if_neg hps] at hc
                simp only [decide_eq_true_eq] at hc
                exact W.iret BB.exec BB.bytes (by rw [hret, hc]) (hq (some (0, wv)) (fun a g => by cases g; exact hwo) hQ) (fun q hq => hS.2.2 q hq) hd1 hlocks
            · cases hv
          · cases hv
        case lreturn =>
          dsimp only at hv hc
          simp only [Bool.and_eq_true, beq_iff_eq, decide_eq_true_eq] at hc
          obtain ⟨hn, hc⟩ := hc
          split at hv
          · rename_i w
            split at hv
            · rename_i hw
              cases hv
              obtain ⟨wt, wv⟩ := w
              simp only at hw
              subst hw
              have hwo := (jms1 hs).1
              have hd1 : decode (jBy k) pc = .ok (.lreturn, 1) := by rw [hd, hn]
              exact W.lret BB.exec BB.bytes (by rw [hret, hc]) (hq (some (1, wv)) (fun a g => by cases g; exact hwo) hQ) (fun q hq => hS.2.2 q hq) hd1 hlocks
            · cases hv
          · cases hv
        case areturn =>
          dsimp only at hv hc
          simp only [Bool.and_eq_true, beq_iff_eq] at hc
          obtain ⟨hn, hc⟩ := hc
          split at hv
          · rename_i w
            split at hv
            · rename_i hw
              cases hv
              obtain ⟨wt, wv⟩ := w
              simp only at hw
              subst hw
              have hwo := (jms1 hs).1
              have hd1 : decode (jBy k) pc = .ok (.areturn, 1) := by rw [hd, hn]
              split at hc
              · rename_i nm hrt
                refine W.aret BB.exec BB.bytes (by rw [hret, hrt]) (Or.inl ⟨_, rfl⟩) ?_ (hq (some (2, wv)) (fun a g => by cases g; exact hwo) hQ) (fun q hq => hS.2.2 q hq) hd1 hlocks
                rcases (show wv = -1 ∨ wv = -2 ∨ 0 ≤ wv by have := jok_a.mp hwo; omega) with g | g | g
                · subst g
                  exact Or.inl rfl
                · subst g
                  exact Or.inr ⟨_, rfl⟩
                · exact Or.inr ⟨_, jv_r B b g⟩
              · cases hc
            · cases hv
          · cases hv
        all_goals (cases hv)
    · intro K L S h' cu su k' as' S' x y Q' h1 h2 h3 h4 h5
      exact jcall_ok C hM (d := d) (Nat.le_refl _) (Nat.le_refl _) h1 (fun has' => ih x y k' as' h' Q' h2 has') h3 h4 h5
