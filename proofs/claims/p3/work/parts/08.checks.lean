def jM (k : Nat) : JM := (jMI.getD (k / 20) []).getD (k % 20) (0, 0)
def jNA (k : Nat) : Nat := (jM k).1
def jCW (k : Nat) : Nat := (jM k).2
/-- a method as the tables have it: its name, its bytes, its locals, what it answers -/
def jCd (k : Nat) : MethodName × ByteArray × Nat × Option FieldType := if k = jnM then (x, code, maxLocals, ret) else match jword (jCW k) with
  | some w => (match w with
    | .code y b m r => (y, b, m, r)
    | _ => (⟨"", "", ""⟩, ⟨#[]⟩, 0, none))
  | none => (⟨"", "", ""⟩, ⟨#[]⟩, 0, none)
def jY (k : Nat) : MethodName := (jCd k).1
def jBy (k : Nat) : ByteArray := (jCd k).2.1
def jML (k : Nat) : Nat := (jCd k).2.2.1
def jRt (k : Nat) : Option FieldType := (jCd k).2.2.2
def jcw (k : Nat) : Bool := decide (k ≠ jnM) && (match jword (jCW k) with
  | some w => (match w with
    | .code _ _ _ _ => true
    | _ => false) && goodWord w
  | none => false)
theorem jcw_mem {k : Nat} (h : jcw k = true) : Cond.code (jY k) (jBy k) (jML k) (jRt k) ∈ jTB := by
  unfold jcw at h
  rw [Bool.and_eq_true, decide_eq_true_eq] at h
  obtain ⟨hne, h⟩ := h
  unfold jY jBy jML jRt jCd
  rw [if_neg hne]
  cases hw : jword (jCW k) with
  | none => rw [hw] at h; cases h
  | some w =>
    rw [hw] at h
    simp only [Bool.and_eq_true] at h
    have hm := List.mem_filter.mpr ⟨jword_mem hw, h.2⟩
    have h1 := h.1
    split at h1
    · exact hm
    · cases h1
def jWs (k : Nat) : List Cond := Cond.code (jY k) (jBy k) (jML k) (jRt k) :: jTB
def jmathL : List (String × String) := [("floorDiv", "(JJ)J"), ("max", "(II)I"), ("max", "(JJ)J"), ("min", "(II)I"), ("min", "(JJ)J")]
def jpl (y : MethodName) : Bool := plainName y.cls || (y.cls == "java/lang/Math" && jmathL.contains (y.name, y.desc))
set_option maxRecDepth 100000 in
theorem jmath_no : natives.all (fun r => jmathL.all (fun q => !(r.name == q.1 && r.cls == "java/lang/Math" && r.desc == q.2))) = true := by decide +kernel
theorem jpl_ok {y : MethodName} (h : jpl y = true) : plainFor y = true := by
  unfold jpl at h
  unfold plainFor
  rw [Bool.or_eq_true] at h ⊢
  rcases h with h | h
  · exact Or.inl h
  · rw [Bool.and_eq_true, beq_iff_eq, List.contains_iff_mem] at h
    refine Or.inr ?_
    rw [Option.isNone_iff_eq_none]
    unfold NativeRow.find?
    rw [List.find?_eq_none]
    intro r hr
    have h1 := List.all_eq_true.mp (List.all_eq_true.mp jmath_no r hr) _ h.2
    rw [h.1]
    intro h2
    rw [h2] at h1
    cases h1
def jmF (k : Nat) : Bool := decide ((jY k).cls ≠ "java/lang/invoke/MethodHandle") && decide ((jY k).cls ≠ "java/lang/invoke/VarHandle") && jpl (jY k) && decide ((parseMethodDescriptor (jY k).desc).map (fun d => d.parameters.length) = some (jNA k)) && jcw k && decide (jML k ≤ 40)
set_option maxRecDepth 100000 in
theorem jmF_all : (List.range 384).all jmF = true := by decide +kernel
def jmOk (k : Nat) : Bool := decide (k < 384)
theorem jmOk_F {k : Nat} (h : jmOk k = true) : jmF k = true := List.all_eq_true.mp jmF_all k (List.mem_range.mpr (of_decide_eq_true h))
def jP (k : Nat) : List JE := (jPL.getD (k / 20) []).getD (k % 20) []
/-- a call of depth d at most: what it answers and leaves -/
def jOk : Nat → Nat → Nat → Nat → List AV → JH → (Option AV → JH → Prop) → Prop
  | 0, _, _, _, _, _, _ => False
  | d + 1, a, b, k, as, h, Q => k < jnM ∧ (jexp as).length ≤ jML k ∧ jEv (jOk d) none (fun _ => 0) (jP k) a b Q (jP k, jentry as (jML k), [], h, 0, 0)
def jtags (f : Nat) : List Nat := if f = 0 then [0, 1, 2, 3, 6, 8] else [f]
theorem jfam_in {f t : Nat} (h : jfam f t = true) : t ∈ jtags f := by
  unfold jfam at h
  unfold jtags
  by_cases e : f = 0
  · rw [if_pos e] at h ⊢
    simp only [Bool.or_eq_true, beq_iff_eq] at h
    simp only [List.mem_cons, List.not_mem_nil, or_false]
    omega
  · rw [if_neg e] at h ⊢
    simp only [beq_iff_eq] at h
    simp [h]
def jchkT (own : String) (x : Nat) (ps : List Nat) (fin : Bool) (init : Bool) (t : Nat) : Bool := match vwCl[t]?, jword (ps.getD 2 0) with
  | some q, some w => (match w with
    | .fieldLink o y ref nm d => decide (o = own) && decide (y = x) && decide (nm = (q.2.1 (ps.getD 1 0)).2.1) && decide (d = (q.2.1 (ps.getD 1 0)).2.2.1) && goodWord w && decide (ps.getD 1 0 < q.2.2) && (decide (ref = (q.2.1 (ps.getD 1 0)).1) || jin (ps.getD 3 0) (.sameField ref (q.2.1 (ps.getD 1 0)).1 (q.2.1 (ps.getD 1 0)).2.1 (q.2.1 (ps.getD 1 0)).2.2.1)) && decide (jfty t (ps.getD 1 0) = jfty (ps.getD 0 0) (ps.getD 1 0)) && (!fin || (q.2.1 (ps.getD 1 0)).2.2.2 == false || (init && decide ((q.2.1 (ps.getD 1 0)).1 = own)))
    | _ => false)
  | _, _ => false
def jchkF (own : String) (x : Nat) (ps : List Nat) (fin init : Bool) : Bool := (jtags (ps.getD 0 0)).all (jchkT own x ps fin init)
/-- a call of the superclass's method -/
def jchkS (own : String) (x : Nat) (ps : List Nat) : Bool := jmOk (ps.getD 2 0) && decide (jNA (ps.getD 2 0) = ps.getD 1 0) && (match jword (ps.getD 3 0) with
    | some w => (match w with
      | .methodLink o y q => decide (o = own) && decide (y = x) && decide (q.name = (jY (ps.getD 2 0)).name) && decide (q.desc = (jY (ps.getD 2 0)).desc) && goodWord w && jin (ps.getD 4 0) (.sameMethod q.cls (jY (ps.getD 2 0)).cls q.name q.desc) && jin (ps.getD 5 0) (.superclass own q.cls) && (decide (q.cls = (jY (ps.getD 2 0)).cls) || jin (ps.getD 8 0) (.superclass q.cls (jY (ps.getD 2 0)).cls))
      | _ => false)
    | none => false) && jin (ps.getD 6 0) (.instanceMethod (jY (ps.getD 2 0))) && jin (ps.getD 7 0) (.initialized (jY (ps.getD 2 0)).cls) && decide ((jY (ps.getD 2 0)).name ≠ "<init>")
/-- a call on a feeling: of each kind its own method -/
def jchkVt (q : MethodName) (ps : List Nat) (t : Nat) : Bool := ps.getD (2 + jpos t) 0 == 9999 || (jmOk (ps.getD (2 + jpos t) 0) && decide (jNA (ps.getD (2 + jpos t) 0) = ps.getD 1 0) && (match vwCl[t]? with
    | some r => jin (ps.getD (12 + jpos t) 0) (.selects r.1 q (jY (ps.getD (2 + jpos t) 0)))
    | none => false) && jin (ps.getD (18 + jpos t) 0) (.instanceMethod (jY (ps.getD (2 + jpos t) 0))) && jin (ps.getD (24 + jpos t) 0) (.initialized (jY (ps.getD (2 + jpos t) 0)).cls))
def jchkV (own : String) (x : Nat) (ps : List Nat) : Bool := jmOk (ps.getD 8 0) && decide (jNA (ps.getD 8 0) = ps.getD 1 0) && (match jword (ps.getD 9 0) with
    | some w => (match w with
      | .methodLink o y q => decide (o = own) && decide (y = x) && decide (q.name = (jY (ps.getD 8 0)).name) && decide (q.desc = (jY (ps.getD 8 0)).desc) && goodWord w && jin (ps.getD 10 0) (.sameMethod q.cls (jY (ps.getD 8 0)).cls q.name q.desc) && (jtags 0).all (jchkVt q ps)
      | _ => false)
    | none => false) && jin (ps.getD 11 0) (.instanceMethod (jY (ps.getD 8 0)))
def jchkL (k : Nat) (e : JE) : Bool := match e with
  | (pc, i, n, ps, z) => match i with
    | .iconst v => decide (-2147483648 ≤ v ∧ v < 2147483648) && n == 1
    | .bipush v => decide (-128 ≤ v ∧ v ≤ 127) && n == 2
    | .sipush v => decide (-32768 ≤ v ∧ v ≤ 32767) && n == 3
    | .ldc x => jin (ps.getD 0 0) (.constant (jY k).cls x (Int32.ofInt z)) && decide (-2147483648 ≤ z ∧ z < 2147483648) && n == 2
    | .ldc_w x => jin (ps.getD 0 0) (.constant (jY k).cls x (Int32.ofInt z)) && decide (-2147483648 ≤ z ∧ z < 2147483648) && n == 3
    | .ldc2_w x => jin (ps.getD 0 0) (.constantLong (jY k).cls x (Int64.ofInt z)) && decide (-9223372036854775808 ≤ z ∧ z < 9223372036854775808) && n == 3
    | .iload _ => n == 2
    | .lload _ => n == 2
    | .aload _ => n == 2
    | .istore _ => n == 2
    | .lstore _ => n == 2
    | .astore _ => n == 2
    | .iinc _ _ => n == 3
    | .ifCond _ off => decide ((pc : Int) + off = (jhd ps : Int)) && n == 3
    | .if_icmp _ off => decide ((pc : Int) + off = (jhd ps : Int)) && n == 3
    | .ifnull off => decide ((pc : Int) + off = (jhd ps : Int)) && n == 3
    | .ifnonnull off => decide ((pc : Int) + off = (jhd ps : Int)) && n == 3
    | .goto off => decide ((pc : Int) + off = (jhd ps : Int)) && n == 3
    | .tableswitch d lo hi offs => decide (ps.map (fun (t : Nat) => (t : Int)) = ((pc : Int) + d) :: offs.toList.map (fun o => (pc : Int) + o))
    | .getfield x => jchkF (jY k).cls x ps false false && n == 3
    | .putfield x => jchkF (jY k).cls x ps true (decide ((jY k).name = "<init>")) && n == 3
    | .baload => (jhd ps == 22 || jhd ps == 23) && n == 1
    | .aaload => (jhd ps == 24 || jhd ps == 25) && n == 1
    | .aastore => (decide (ps = [24, 4]) || decide (ps = [25, 0])) && n == 1
    | .new x => (match vwCl[jhd ps]? with
      | some q => jin (ps.getD 1 0) (.classLink (jY k).cls x q.1) && jin (ps.getD 2 0) (.instantiable q.1 q.2.2) && jin (ps.getD 3 0) (.initialized q.1) && n == 3
      | none => false)
    | .newarray a => decide (jat a < 24) && n == 2
    | .anewarray x => ((jhd ps == 24 && jin (ps.getD 1 0) (.classLink (jY k).cls x RX4)) || (jhd ps == 25 && jin (ps.getD 1 0) (.classLink (jY k).cls x RX0))) && n == 3
    | .instanceof x => (match vwCl[jhd ps]? with
      | some q => jin (ps.getD 1 0) (.classLink (jY k).cls x q.1) && decide (jhd ps ∈ [1, 2, 3, 6, 8]) && n == 3
      | none => false)
    | .ireturn => n == 1 && (if jhd ps = 1 then decide (jRt k = some .boolean) else decide (jRt k = some .int))
    | .lreturn => n == 1 && decide (jRt k = some .long)
    | .areturn => n == 1 && (match jRt k with
      | some (.object _) => true
      | _ => false)
    | .return_ => n == 1 && decide (jRt k = none)
    | .invokestatic x => n == 3 && (if jhd ps = 0 then jmOk (ps.getD 2 0) && decide (jNA (ps.getD 2 0) = ps.getD 1 0) && jin (ps.getD 3 0) (.methodLink (jY k).cls x (jY (ps.getD 2 0))) && jin (ps.getD 4 0) (.static (jY (ps.getD 2 0))) && jin (ps.getD 5 0) (.initialized (jY (ps.getD 2 0)).cls)
      else if jhd ps = 2 then jmOk (ps.getD 2 0) && decide (jNA (ps.getD 2 0) = ps.getD 1 0) && jinN (ps.getD 3 0) (.methodLinkNest (jY k).cls x (jY (ps.getD 2 0)) "SueOrSettle") && jin (ps.getD 4 0) (.static (jY (ps.getD 2 0))) && jin (ps.getD 5 0) (.initialized (jY (ps.getD 2 0)).cls)
      else if jhd ps = 7 then jin (ps.getD 1 0) (.methodLink (jY k).cls x arraycopyName) && jin (ps.getD 2 0) (.native arraycopyName) && jin (ps.getD 3 0) (.static arraycopyName) && jin (ps.getD 4 0) (.initialized "java/lang/System") else true)
    | .invokespecial x => n == 3 && (if jhd ps = 1 then jmOk (ps.getD 2 0) && decide (jNA (ps.getD 2 0) = ps.getD 1 0) && jin (ps.getD 3 0) (.methodLink (jY k).cls x (jY (ps.getD 2 0))) && jin (ps.getD 4 0) (.instanceMethod (jY (ps.getD 2 0))) && jin (ps.getD 5 0) (.initialized (jY (ps.getD 2 0)).cls) && decide ((jY (ps.getD 2 0)).name = "<init>") && decide (jRt (ps.getD 2 0) = none)
      else if jhd ps = 3 then jmOk (ps.getD 2 0) && decide (jNA (ps.getD 2 0) = ps.getD 1 0) && jinN (ps.getD 3 0) (.methodLinkNest (jY k).cls x (jY (ps.getD 2 0)) "SueOrSettle") && jin (ps.getD 4 0) (.instanceMethod (jY (ps.getD 2 0))) && jin (ps.getD 5 0) (.initialized (jY (ps.getD 2 0)).cls) && decide ((jY (ps.getD 2 0)).name = "<init>") && decide (jRt (ps.getD 2 0) = none)
      else if jhd ps = 6 then jin (ps.getD 1 0) (.methodLink (jY k).cls x Lib.objectInit) && jin (ps.getD 2 0) (.instanceMethod Lib.objectInit) && jin (ps.getD 3 0) (.code Lib.objectInit ⟨#[0xb1]⟩ 1 none)
      else if jhd ps = 4 then jchkS (jY k).cls x ps else true)
    | .invokevirtual x => n == 3 && (if jhd ps = 5 then jmOk (ps.getD 2 0) && decide (jNA (ps.getD 2 0) = ps.getD 1 0) && (match vwCl[ps.getD 3 0]? with
        | some q => decide ((jY (ps.getD 2 0)).cls = q.1)
        | none => false) && jin (ps.getD 4 0) (.methodLink (jY k).cls x (jY (ps.getD 2 0))) && jin (ps.getD 5 0) (.instanceMethod (jY (ps.getD 2 0))) && jin (ps.getD 6 0) (.selects (jY (ps.getD 2 0)).cls (jY (ps.getD 2 0)) (jY (ps.getD 2 0))) && jin (ps.getD 7 0) (.initialized (jY (ps.getD 2 0)).cls)
      else if jhd ps = 9 then jchkV (jY k).cls x ps else true)
    | _ => n == 1
def jchkN (k : Nat) : Bool := (jP k).all (jchkL k) && jwalk (jBy k) (jP k) (jBy k).data.toList && jadj (jP k) && (jpc (jP k) == 0)
def jchkM (k : Nat) : Bool := jchkN k && jmOk k
