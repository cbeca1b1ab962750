/-! the simple machine beside the real one -/
def jv (B b : Nat) (v : AV) : Value := match v with
  | (0, i) => .int (Int32.ofInt i)
  | (1, i) => .long (Int64.ofInt i)
  | (_, i) => if i = -1 then .null else if i = -2 then .ref b else .ref (B + i.toNat)
def jok (v : AV) : Prop := (v.1 = 0 ∧ -2147483648 ≤ v.2 ∧ v.2 < 2147483648) ∨ (v.1 = 1 ∧ -9223372036854775808 ≤ v.2 ∧ v.2 < 9223372036854775808) ∨ (v.1 = 2 ∧ -2 ≤ v.2)
theorem jok_i {i : Int} : jok (0, i) ↔ -2147483648 ≤ i ∧ i < 2147483648 := by simp [jok]
theorem jok_l {i : Int} : jok (1, i) ↔ -9223372036854775808 ≤ i ∧ i < 9223372036854775808 := by simp [jok]
theorem jok_a {i : Int} : jok (2, i) ↔ -2 ≤ i := by simp [jok]
theorem jv_i (B b : Nat) (i : Int) : jv B b (0, i) = .int (Int32.ofInt i) := rfl
theorem jv_l (B b : Nat) (i : Int) : jv B b (1, i) = .long (Int64.ofInt i) := rfl
theorem jv_n (B b : Nat) : jv B b (2, -1) = .null := rfl
theorem jv_s (B b : Nat) : jv B b (2, -2) = .ref b := rfl
theorem jv_r (B b : Nat) {i : Int} (h : 0 ≤ i) : jv B b (2, i) = .ref (B + i.toNat) := by
  unfold jv
  simp only
  rw [if_neg (by omega), if_neg (by omega)]
theorem jok_tag {v : AV} (h : jok v) : v.1 = 0 ∨ v.1 = 1 ∨ v.1 = 2 := by
  rcases h with h | h | h
  · exact Or.inl h.1
  · exact Or.inr (Or.inl h.1)
  · exact Or.inr (Or.inr h.1)
theorem jv_cat (B b : Nat) {v : AV} (h : jok v) : (jv B b v).category = if v.1 = 1 then 2 else 1 := by
  obtain ⟨t, i⟩ := v
  rcases jok_tag h with e | e | e <;> simp only at e <;> subst e
  · rfl
  · rfl
  · unfold jv
    simp only
    split
    · rfl
    · split <;> rfl
/-- the locals -/
def jL (B b : Nat) (L : List AV) (ls : Array Slot) : Prop := ls.size = L.length ∧ lv_wf ls ∧ ∀ (i : Nat) (v : AV), L[i]? = some v → v.1 ≤ 2 → ls[i]? = some (.val (jv B b v)) ∧ jok v
def jprs (B b : Nat) (L : List AV) : List (Nat × Value) := (List.range L.length).filterMap fun i => match L[i]? with
  | some v => if v.1 ≤ 2 then some (i, jv B b v) else none
  | none => none
theorem jprs_in {B b : Nat} {L : List AV} {i : Nat} {v : AV} (h : L[i]? = some v) (hv : v.1 ≤ 2) : (i, jv B b v) ∈ jprs B b L := by
  refine List.mem_filterMap.mpr ⟨i, List.mem_range.mpr (List.getElem?_eq_some_iff.mp h).1, ?_⟩
  rw [h]
  simp [hv]
theorem jprs_of {B b : Nat} {L : List AV} {q : Nat × Value} (h : q ∈ jprs B b L) : ∃ v, L[q.1]? = some v ∧ v.1 ≤ 2 ∧ q.2 = jv B b v := by
  obtain ⟨i, -, hi⟩ := List.mem_filterMap.mp h
  cases hl : L[i]? with
  | none => rw [hl] at hi; cases hi
  | some v =>
    rw [hl] at hi
    simp only at hi
    by_cases hv : v.1 ≤ 2
    · rw [if_pos hv] at hi
      cases hi
      exact ⟨v, hl, hv, rfl⟩
    · rw [if_neg hv] at hi
      cases hi
theorem jL.has {B b : Nat} {L : List AV} {ls : Array Slot} (h : jL B b L ls) : lv_has ls L.length (jprs B b L) := by
  refine ⟨h.1, h.2.1, fun q hq => ?_⟩
  obtain ⟨v, h1, h2, h3⟩ := jprs_of hq
  rw [h3]
  exact (h.2.2 _ _ h1 h2).1
theorem jcl_len (L : List AV) (k : Nat) : (jcl L k).length = L.length := by
  unfold jcl
  cases k with
  | zero => rfl
  | succ k' =>
    simp only
    cases L[k']? with
    | none => rfl
    | some v => simp only; split <;> simp
theorem jput_len (L : List AV) (k : Nat) (v : AV) : (jput L k v).length = L.length := by simp [jput, jcl_len]
theorem jput2_len (L : List AV) (k : Nat) (v : AV) : (jput2 L k v).length = L.length := by simp [jput2, jcl_len]
theorem jcl_get {L : List AV} {k j : Nat} {v : AV} (h : (jcl L k)[j]? = some v) (hv : v.1 ≤ 2) : L[j]? = some v ∧ ¬ (j + 1 = k ∧ v.1 = 1) := by
  unfold jcl at h
  cases k with
  | zero => exact ⟨h, by omega⟩
  | succ k' =>
    simp only at h
    cases hl : L[k']? with
    | none =>
      rw [hl] at h
      refine ⟨h, fun q => ?_⟩
      have : j = k' := by omega
      subst this
      rw [hl] at h
      cases h
    | some w =>
      rw [hl] at h
      simp only at h
      by_cases hw : w.1 = 1
      · rw [if_pos hw] at h
        by_cases hj : j = k'
        · subst hj
          rw [List.getElem?_set_self (List.getElem?_eq_some_iff.mp hl).1] at h
          cases h
          simp at hv
        · rw [List.getElem?_set_ne (fun q => hj q.symm)] at h
          exact ⟨h, by omega⟩
      · rw [if_neg hw] at h
        refine ⟨h, fun q => ?_⟩
        have : j = k' := by omega
        subst this
        rw [hl] at h
        cases h
        exact hw q.2
theorem jL.put {B b : Nat} {L : List AV} {ls ls' : Array Slot} {k : Nat} {v : AV} (h : jL B b L ls) (hk : k < L.length) (hv : jok v) (h' : lv_has ls' L.length ((k, jv B b v) :: (jprs B b L).filter (fun q => !(q.1 == k) && !(q.1 + 1 == k && q.2.category == 2)))) : jL B b (jput L k v) ls' := by
  refine ⟨by rw [jput_len]; exact h'.1, h'.2.1, fun j w hj hw => ?_⟩
  obtain ⟨g1, g2⟩ := jcl_get hj hw
  by_cases e : j = k
  · subst e
    rw [List.getElem?_set_self hk] at g1
    cases g1
    exact ⟨h'.2.2 (j, jv B b v) List.mem_cons_self, hv⟩
  · rw [List.getElem?_set_ne (fun q => e q.symm)] at g1
    have ok := (h.2.2 j w g1 hw).2
    refine ⟨h'.2.2 (j, jv B b w) (List.mem_cons_of_mem _ (List.mem_filter.mpr ⟨jprs_in g1 hw, ?_⟩)), ok⟩
    simp only [jv_cat B b ok]
    by_cases e1 : j + 1 = k
    · have : ¬ w.1 = 1 := fun q => g2 ⟨e1, q⟩
      simp [e, this]
    · simp [e, e1]
theorem jL.put2 {B b : Nat} {L : List AV} {ls ls' : Array Slot} {k : Nat} {v : AV} (h : jL B b L ls) (hk : k + 1 < L.length) (hv : jok v) (h' : lv_has ls' L.length ((k, jv B b v) :: (jprs B b L).filter (fun q => !(q.1 == k) && (!(q.1 == k + 1) && !(q.1 + 1 == k && q.2.category == 2))))) : jL B b (jput2 L k v) ls' := by
  refine ⟨by rw [jput2_len]; exact h'.1, h'.2.1, fun j w hj hw => ?_⟩
  obtain ⟨g1, g2⟩ := jcl_get hj hw
  by_cases e2 : j = k + 1
  · subst e2
    rw [List.getElem?_set_self (by simpa using hk)] at g1
    cases g1
    simp at hw
  · rw [List.getElem?_set_ne (fun q => e2 q.symm)] at g1
    by_cases e : j = k
    · subst e
      rw [List.getElem?_set_self (by omega)] at g1
      cases g1
      exact ⟨h'.2.2 (j, jv B b v) List.mem_cons_self, hv⟩
    · rw [List.getElem?_set_ne (fun q => e q.symm)] at g1
      have ok := (h.2.2 j w g1 hw).2
      refine ⟨h'.2.2 (j, jv B b w) (List.mem_cons_of_mem _ (List.mem_filter.mpr ⟨jprs_in g1 hw, ?_⟩)), ok⟩
      simp only [jv_cat B b ok]
      by_cases e1 : j + 1 = k
      · have : ¬ w.1 = 1 := fun q => g2 ⟨e1, q⟩
        simp [e, e2, this]
      · simp [e, e1, e2]
/-- the heap -/
def jfkd (t j : Nat) : Nat := if t < 20 then jsk (jfty t j) else jak t
def jcok (t j : Nat) (x : Int) : Prop := jok (jfkd t j, x) ∧ (t < 20 → jfty t j = 3 → x = 0 ∨ x = 1) ∧ (t = 22 → -128 ≤ x ∧ x ≤ 127) ∧ (t = 23 → x = 0 ∨ x = 1) ∧ (jfkd t j = 2 → x ≠ -2)
def jV (B b t : Nat) (f : Nat → Int) : Nat → Value := fun j => jv B b (jfkd t j, f j)
def jcell (D : va_G) (cA : Nat → ClassId) (B b : Nat) (H : Heap) (k t n : Nat) (f : Nat → Int) : Prop :=
  (∀ j, j < n → jcok t j (f j)) ∧ ((t < 13 ∧ n = jN t ∧ t_OB (B + k) (D.1 t) n (D.2 t) H (jV B b t f)) ∨ (20 ≤ t ∧ t ≤ 25 ∧ H[B + k]? = some (arrV (cA t) n (jV B b t f))))
def jHp (D : va_G) (cA : Nat → ClassId) (B b : Nat) (H : Heap) (h : JH) : Prop := H.size = B + h.1 ∧ ∀ k, k < h.1 → jcell D cA B b H k (h.2.1 k).1 (h.2.1 k).2 (h.2.2 k)
theorem jcell.kept {D : va_G} {cA : Nat → ClassId} {B b : Nat} {H H1 : Heap} {k t n : Nat} {f : Nat → Int} (h : jcell D cA B b H k t n f) (hq : H1[B + k]? = H[B + k]?) : jcell D cA B b H1 k t n f := by
  obtain ⟨h1, h2⟩ := h
  refine ⟨h1, ?_⟩
  rcases h2 with ⟨a, b, c⟩ | ⟨a, b, c⟩
  · exact Or.inl ⟨a, b, c.kept hq⟩
  · exact Or.inr ⟨a, b, by rw [hq]; exact c⟩
def jty (t : Nat) : FieldType := if t = 20 then .int else if t = 21 then .long else if t = 22 then .byte else if t = 23 then .boolean else if t = 24 then .object RX4 else .object RX0
def jisN (w : Cond) : Bool := match w with
  | .methodLinkNest _ _ _ _ => true
  | .castable _ _ => true
  | .declares _ => true
  | _ => false
def jNW : List Cond := lw_tbl.filter jisN
def jTB : List Cond := lw_tbl.filter goodWord
def jK (D : va_G) (cA : Nat → ClassId) (U : State) : Prop := (∀ (k : Nat) (q : vw_C), vwCl[k]? = some q → u_Kn U q.1 q.2.1 q.2.2 (D.1 k) (D.2 k)) ∧ (∀ t, 20 ≤ t → t ≤ 25 → ArrOfT U (cA t) (jty t) ∧ va_RA U (cA t) (jty t)) ∧ (∀ w ∈ jNW, va_Nw w U) ∧ (va_AO RX4 U ∧ va_AO RX0 U) ∧ ∀ q ∈ jNC, va_Nc q.1 q.2 U
theorem jNw_moved {w : Cond} (hw : jisN w = true) {s U : State} (hW : s.WarmedH U.vm) (h : va_Nw w s) : va_Nw w U := by
  cases w <;> simp [jisN] at hw
  all_goals first | exact va_Nw.warmM hW h | exact va_Nw.warmC hW h | exact va_Nw.warmD hW h
theorem jNc_moved {C T : String} {u U : State} (hvm : u.vm.Alike U.vm) (h : va_Nc C T u) : va_Nc C T U := by
  obtain ⟨c, t, h1, h2, h3⟩ := h
  exact ⟨c, t, by rw [hvm.findClass]; exact h1, by rw [hvm.findClass]; exact h2, by rw [hvm.assignable]; exact h3⟩
theorem jK.moved {D : va_G} {cA : Nat → ClassId} {s U : State} (hW : s.WarmedH U.vm) (h : jK D cA s) : jK D cA U :=
  ⟨fun k q hq => u_Kn_moved hW.alike (h.1 k q hq), fun t h1 h2 => ⟨arrOfT_moved hW.alike (h.2.1 t h1 h2).1, (h.2.1 t h1 h2).2.moved hW.alike⟩, fun w hw => jNw_moved (List.mem_filter.mp hw).2 hW (h.2.2.1 w hw), ⟨va_AO.moved hW.alike h.2.2.2.1.1, va_AO.moved hW.alike h.2.2.2.1.2⟩, fun q hq => jNc_moved hW.alike (h.2.2.2.2 q hq)⟩
def jKp (D : va_G) (cA : Nat → ClassId) (B b : Nat) (xl : Option Nat) (xs : Nat → Int) (U : State) (H : Heap) : Prop := jK D cA U ∧ b < B ∧ ∀ n, xl = some n → va_X b n (fun j => Int32.ofInt (xs j)) U H ∧ (∀ j, -2147483648 ≤ xs j ∧ xs j < 2147483648) ∧ n < 2147483648
def jR (D : va_G) (cA : Nat → ClassId) (B b : Nat) (xl : Option Nat) (xs : Nat → Int) (U : State) (H : Heap) (h : JH) : Prop := jHp D cA B b H h ∧ jKp D cA B b xl xs U H
theorem jKp.moved {D : va_G} {cA : Nat → ClassId} {B b : Nat} {xl : Option Nat} {xs : Nat → Int} {s U : State} {H H1 : Heap} (hW : s.WarmedH U.vm) (h : jKp D cA B b xl xs s H) (hq : H1[b]? = H[b]?) : jKp D cA B b xl xs U H1 :=
  ⟨h.1.moved hW, h.2.1, fun n hn => ⟨((h.2.2 n hn).1.kept hq).moved hW.alike, (h.2.2 n hn).2⟩⟩

section JX
variable {p : Program} {l : Launch} {e : Env} {R : Room} {s : State} {m : MethodId} {args : Array Value} {below : List Frame} {meth : Method} {c : Code} {Q : State → Prop} {D : va_G} {cA : Nat → ClassId} {B b : Nat} {xl : Option Nat} {xs : Nat → Int} {cc : ByteArray} {own : String}
/-- the real machine, at a frame that the simple one describes, comes to a state with Q -/
def jXW (p : Program) (l : Launch) (e : Env) (R : Room) (s : State) (m : MethodId) (args : Array Value) (below : List Frame) (meth : Method) (c : Code) (Q : State → Prop) (D : va_G) (cA : Nat → ClassId) (B b : Nat) (pc : Nat) (L S : List AV) (h : JH) (cu su : Nat) : Prop :=
  ∀ (H : Heap) (locs : List Loc) (ls : Array Slot), jHp D cA B b H h → va_S (fun q => B ≤ q) s.heap H locs → jL B b L ls → (∀ v ∈ S, jok v) → W p l e R s m args below meth c H locs cu su Q (F0 m pc ls (S.map (jv B b)))
theorem jms1 {v : AV} {S : List AV} (h : ∀ w ∈ v :: S, jok w) : jok v ∧ ∀ w ∈ S, jok w := ⟨h v List.mem_cons_self, fun w hw => h w (List.mem_cons_of_mem _ hw)⟩
theorem jms2 {v w : AV} {S : List AV} (h : ∀ z ∈ v :: w :: S, jok z) : jok v ∧ jok w ∧ ∀ z ∈ S, jok z := ⟨(jms1 h).1, (jms1 (jms1 h).2).1, (jms1 (jms1 h).2).2⟩
theorem jmc {v : AV} {S : List AV} (h1 : jok v) (h : ∀ w ∈ S, jok w) : ∀ w ∈ v :: S, jok w := fun w hw => (List.mem_cons.mp hw).elim (fun e => e ▸ h1) (h w)

theorem jx_iconst (hx : p.tables.exec = Jvm.exec) (hb : c.code = cc) {pc : Nat} {L S : List AV} {h : JH} {cu su : Nat} {v : Int} (hv : -2147483648 ≤ v ∧ v < 2147483648) (hd : decode cc pc = .ok (.iconst v, 1)) (k : jXW p l e R s m args below meth c Q D cA B b (pc + 1) L ((0, v) :: S) h cu su) : jXW p l e R s m args below meth c Q D cA B b pc L (S) h cu su := by
  intro H locs ls hH hS hL hs
  exact lv_iconst hx hb hd rfl (k H locs ls hH hS hL (jmc (jok_i.mpr hv) hs))

theorem jx_bipush (hx : p.tables.exec = Jvm.exec) (hb : c.code = cc) {pc : Nat} {L S : List AV} {h : JH} {cu su : Nat} {v : Int} (hv : -128 ≤ v ∧ v ≤ 127) (hd : decode cc pc = .ok (.bipush v, 2)) (k : jXW p l e R s m args below meth c Q D cA B b (pc + 2) L ((0, v) :: S) h cu su) : jXW p l e R s m args below meth c Q D cA B b pc L (S) h cu su := by
  intro H locs ls hH hS hL hs
  exact lv_bipush hx hb hd (j32_b8 hv.1 hv.2) (k H locs ls hH hS hL (jmc (jok_i.mpr (by omega)) hs))

theorem jx_sipush (hx : p.tables.exec = Jvm.exec) (hb : c.code = cc) {pc : Nat} {L S : List AV} {h : JH} {cu su : Nat} {v : Int} (hv : -32768 ≤ v ∧ v ≤ 32767) (hd : decode cc pc = .ok (.sipush v, 3)) (k : jXW p l e R s m args below meth c Q D cA B b (pc + 3) L ((0, v) :: S) h cu su) : jXW p l e R s m args below meth c Q D cA B b pc L (S) h cu su := by
  intro H locs ls hH hS hL hs
  exact lv_sipush hx hb hd (j32_b16 hv.1 hv.2) (k H locs ls hH hS hL (jmc (jok_i.mpr (by omega)) hs))

theorem jx_lconst (hx : p.tables.exec = Jvm.exec) (hb : c.code = cc) {pc : Nat} {L S : List AV} {h : JH} {cu su : Nat} {v : Fin 2} (hd : decode cc pc = .ok (.lconst v, 1)) (k : jXW p l e R s m args below meth c Q D cA B b (pc + 1) L ((1, (v.val : Int)) :: S) h cu su) : jXW p l e R s m args below meth c Q D cA B b pc L (S) h cu su := by
  intro H locs ls hH hS hL hs
  have hv := v.isLt
  exact lv_lconst hx hb hd (by rw [← Int64.ofInt_eq_ofNat]) (k H locs ls hH hS hL (jmc (jok_l.mpr (by omega)) hs))

theorem jx_null (hx : p.tables.exec = Jvm.exec) (hb : c.code = cc) {pc : Nat} {L S : List AV} {h : JH} {cu su : Nat}  (hd : decode cc pc = .ok (.aconst_null, 1)) (k : jXW p l e R s m args below meth c Q D cA B b (pc + 1) L ((2, -1) :: S) h cu su) : jXW p l e R s m args below meth c Q D cA B b pc L (S) h cu su := by
  intro H locs ls hH hS hL hs
  exact lv_null hx hb hd (k H locs ls hH hS hL (jmc (jok_a.mpr (by omega)) hs))

theorem jx_ldc (hx : p.tables.exec = Jvm.exec) (hb : c.code = cc) {pc : Nat} {L S : List AV} {h : JH} {cu su : Nat} {x : Nat} {z : Int} {own : String} (ho : s.vm.findClass own = some m.cls) (hw : (Jvm.Cond.constant own x (Int32.ofInt z)).before args s = true) (hv : -2147483648 ≤ z ∧ z < 2147483648) (hd : decode cc pc = .ok (.ldc x, 2)) (k : jXW p l e R s m args below meth c Q D cA B b (pc + 2) L ((0, z) :: S) h cu su) : jXW p l e R s m args below meth c Q D cA B b pc L (S) h cu su := by
  intro H locs ls hH hS hL hs
  exact lv_ldc hx hb ho hw hd (k H locs ls hH hS hL (jmc (jok_i.mpr hv) hs))

theorem jx_ldcw (hx : p.tables.exec = Jvm.exec) (hb : c.code = cc) {pc : Nat} {L S : List AV} {h : JH} {cu su : Nat} {x : Nat} {z : Int} {own : String} (ho : s.vm.findClass own = some m.cls) (hw : (Jvm.Cond.constant own x (Int32.ofInt z)).before args s = true) (hv : -2147483648 ≤ z ∧ z < 2147483648) (hd : decode cc pc = .ok (.ldc_w x, 3)) (k : jXW p l e R s m args below meth c Q D cA B b (pc + 3) L ((0, z) :: S) h cu su) : jXW p l e R s m args below meth c Q D cA B b pc L (S) h cu su := by
  intro H locs ls hH hS hL hs
  exact lv_ldcw hx hb ho hw hd (k H locs ls hH hS hL (jmc (jok_i.mpr hv) hs))

theorem jx_ldc2 (hx : p.tables.exec = Jvm.exec) (hb : c.code = cc) {pc : Nat} {L S : List AV} {h : JH} {cu su : Nat} {x : Nat} {z : Int} {own : String} (ho : s.vm.findClass own = some m.cls) (hw : (Jvm.Cond.constantLong own x (Int64.ofInt z)).before args s = true) (hv : -9223372036854775808 ≤ z ∧ z < 9223372036854775808) (hd : decode cc pc = .ok (.ldc2_w x, 3)) (k : jXW p l e R s m args below meth c Q D cA B b (pc + 3) L ((1, z) :: S) h cu su) : jXW p l e R s m args below meth c Q D cA B b pc L (S) h cu su := by
  intro H locs ls hH hS hL hs
  exact lv_ldc2 hx hb ho hw hd (k H locs ls hH hS hL (jmc (jok_l.mpr hv) hs))

theorem jx_iload (hx : p.tables.exec = Jvm.exec) (hb : c.code = cc) {pc : Nat} {L S : List AV} {h : JH} {cu su : Nat} {i : Nat} {v : Int} (hv : L[i]? = some (0, v)) (hd : decode cc pc = .ok (.iload i, 2)) (k : jXW p l e R s m args below meth c Q D cA B b (pc + 2) L ((0, v) :: S) h cu su) : jXW p l e R s m args below meth c Q D cA B b pc L (S) h cu su := by
  intro H locs ls hH hS hL hs
  obtain ⟨g1, g2⟩ := hL.2.2 _ _ hv (by simp)
  exact lv_iload hx hb hd g1 (k H locs ls hH hS hL (jmc g2 hs))

theorem jx_lload (hx : p.tables.exec = Jvm.exec) (hb : c.code = cc) {pc : Nat} {L S : List AV} {h : JH} {cu su : Nat} {i : Nat} {v : Int} (hv : L[i]? = some (1, v)) (hd : decode cc pc = .ok (.lload i, 2)) (k : jXW p l e R s m args below meth c Q D cA B b (pc + 2) L ((1, v) :: S) h cu su) : jXW p l e R s m args below meth c Q D cA B b pc L (S) h cu su := by
  intro H locs ls hH hS hL hs
  obtain ⟨g1, g2⟩ := hL.2.2 _ _ hv (by simp)
  exact lv_lload hx hb hd g1 (k H locs ls hH hS hL (jmc g2 hs))

theorem jx_iload_n (hx : p.tables.exec = Jvm.exec) (hb : c.code = cc) {pc : Nat} {L S : List AV} {h : JH} {cu su : Nat} {i : Fin 4} {v : Int} (hv : L[i.val]? = some (0, v)) (hd : decode cc pc = .ok (.iload_n i, 1)) (k : jXW p l e R s m args below meth c Q D cA B b (pc + 1) L ((0, v) :: S) h cu su) : jXW p l e R s m args below meth c Q D cA B b pc L (S) h cu su := by
  intro H locs ls hH hS hL hs
  obtain ⟨g1, g2⟩ := hL.2.2 _ _ hv (by simp)
  exact lv_iload_n hx hb hd rfl g1 (k H locs ls hH hS hL (jmc g2 hs))

theorem jx_lload_n (hx : p.tables.exec = Jvm.exec) (hb : c.code = cc) {pc : Nat} {L S : List AV} {h : JH} {cu su : Nat} {i : Fin 4} {v : Int} (hv : L[i.val]? = some (1, v)) (hd : decode cc pc = .ok (.lload_n i, 1)) (k : jXW p l e R s m args below meth c Q D cA B b (pc + 1) L ((1, v) :: S) h cu su) : jXW p l e R s m args below meth c Q D cA B b pc L (S) h cu su := by
  intro H locs ls hH hS hL hs
  obtain ⟨g1, g2⟩ := hL.2.2 _ _ hv (by simp)
  exact lv_lload_n hx hb hd rfl g1 (k H locs ls hH hS hL (jmc g2 hs))

theorem jx_aload (hx : p.tables.exec = Jvm.exec) (hb : c.code = cc) {pc : Nat} {L S : List AV} {h : JH} {cu su : Nat} {i : Nat} {v : Int} (hv : L[i]? = some (2, v)) (hd : decode cc pc = .ok (.aload i, 2)) (k : jXW p l e R s m args below meth c Q D cA B b (pc + 2) L ((2, v) :: S) h cu su) : jXW p l e R s m args below meth c Q D cA B b pc L (S) h cu su := by
  intro H locs ls hH hS hL hs
  obtain ⟨g1, g2⟩ := hL.2.2 _ _ hv (by simp)
  have hk := k H locs ls hH hS hL (jmc g2 hs)
  rcases (show v = -1 ∨ v = -2 ∨ 0 ≤ v by have := jok_a.mp g2; omega) with e | e | e
  · subst e
    exact lv_aloadN hx hb hd g1 hk
  · subst e
    exact lv_aload hx hb hd g1 hk
  · rw [jv_r B b e] at g1
    refine lv_aload hx hb hd g1 ?_
    rw [List.map_cons, jv_r B b e] at hk
    exact hk

theorem jx_aload_n (hx : p.tables.exec = Jvm.exec) (hb : c.code = cc) {pc : Nat} {L S : List AV} {h : JH} {cu su : Nat} {i : Fin 4} {v : Int} (hv : L[i.val]? = some (2, v)) (hd : decode cc pc = .ok (.aload_n i, 1)) (k : jXW p l e R s m args below meth c Q D cA B b (pc + 1) L ((2, v) :: S) h cu su) : jXW p l e R s m args below meth c Q D cA B b pc L (S) h cu su := by
  intro H locs ls hH hS hL hs
  obtain ⟨g1, g2⟩ := hL.2.2 _ _ hv (by simp)
  have hk := k H locs ls hH hS hL (jmc g2 hs)
  rcases (show v = -1 ∨ v = -2 ∨ 0 ≤ v by have := jok_a.mp g2; omega) with e | e | e
  · subst e
    exact lv_aload_nN hx hb hd rfl g1 hk
  · subst e
    exact lv_aload_n hx hb hd rfl g1 hk
  · rw [jv_r B b e] at g1
    refine lv_aload_n hx hb hd rfl g1 ?_
    rw [List.map_cons, jv_r B b e] at hk
    exact hk

theorem jx_istore (hx : p.tables.exec = Jvm.exec) (hb : c.code = cc) {pc : Nat} {L S : List AV} {h : JH} {cu su : Nat} {i : Nat} {v : Int} (hi : i < L.length) (hd : decode cc pc = .ok (.istore i, 2)) (k : jXW p l e R s m args below meth c Q D cA B b (pc + 2) (jput L i (0, v)) S h cu su) : jXW p l e R s m args below meth c Q D cA B b pc L ((0, v) :: S) h cu su := by
  intro H locs ls hH hS hL hs
  obtain ⟨g1, g2⟩ := jms1 hs
  exact lv_istore hx hb hd hL.has hi rfl (fun ls' hl => k H locs ls' hH hS (hL.put hi g1 hl) g2)

theorem jx_istore_n (hx : p.tables.exec = Jvm.exec) (hb : c.code = cc) {pc : Nat} {L S : List AV} {h : JH} {cu su : Nat} {i : Fin 4} {v : Int} (hi : i.val < L.length) (hd : decode cc pc = .ok (.istore_n i, 1)) (k : jXW p l e R s m args below meth c Q D cA B b (pc + 1) (jput L i.val (0, v)) S h cu su) : jXW p l e R s m args below meth c Q D cA B b pc L ((0, v) :: S) h cu su := by
  intro H locs ls hH hS hL hs
  obtain ⟨g1, g2⟩ := jms1 hs
  exact lv_istore_n hx hb hd rfl hL.has hi rfl (fun ls' hl => k H locs ls' hH hS (hL.put hi g1 hl) g2)

theorem jx_lstore (hx : p.tables.exec = Jvm.exec) (hb : c.code = cc) {pc : Nat} {L S : List AV} {h : JH} {cu su : Nat} {i : Nat} {v : Int} (hi : i + 1 < L.length) (hd : decode cc pc = .ok (.lstore i, 2)) (k : jXW p l e R s m args below meth c Q D cA B b (pc + 2) (jput2 L i (1, v)) S h cu su) : jXW p l e R s m args below meth c Q D cA B b pc L ((1, v) :: S) h cu su := by
  intro H locs ls hH hS hL hs
  obtain ⟨g1, g2⟩ := jms1 hs
  exact lv_lstore hx hb hd hL.has hi rfl (fun ls' hl => k H locs ls' hH hS (hL.put2 hi g1 hl) g2)

theorem jx_lstore_n (hx : p.tables.exec = Jvm.exec) (hb : c.code = cc) {pc : Nat} {L S : List AV} {h : JH} {cu su : Nat} {i : Fin 4} {v : Int} (hi : i.val + 1 < L.length) (hd : decode cc pc = .ok (.lstore_n i, 1)) (k : jXW p l e R s m args below meth c Q D cA B b (pc + 1) (jput2 L i.val (1, v)) S h cu su) : jXW p l e R s m args below meth c Q D cA B b pc L ((1, v) :: S) h cu su := by
  intro H locs ls hH hS hL hs
  obtain ⟨g1, g2⟩ := jms1 hs
  exact lv_lstore_n hx hb hd rfl hL.has hi rfl (fun ls' hl => k H locs ls' hH hS (hL.put2 hi g1 hl) g2)

theorem jx_astore (hx : p.tables.exec = Jvm.exec) (hb : c.code = cc) {pc : Nat} {L S : List AV} {h : JH} {cu su : Nat} {i : Nat} {v : Int} (hi : i < L.length) (hd : decode cc pc = .ok (.astore i, 2)) (k : jXW p l e R s m args below meth c Q D cA B b (pc + 2) (jput L i (2, v)) S h cu su) : jXW p l e R s m args below meth c Q D cA B b pc L ((2, v) :: S) h cu su := by
  intro H locs ls hH hS hL hs
  obtain ⟨g1, g2⟩ := jms1 hs
  rcases (show v = -1 ∨ v = -2 ∨ 0 ≤ v by have := jok_a.mp g1; omega) with e | e | e
  · subst e
    exact lv_astoreN hx hb hd hL.has hi rfl (fun ls' hl => k H locs ls' hH hS (hL.put hi g1 hl) g2)
  · subst e
    exact lv_astore hx hb hd hL.has hi rfl (fun ls' hl => k H locs ls' hH hS (hL.put hi g1 hl) g2)
  · rw [List.map_cons, jv_r B b e]
    exact lv_astore hx hb hd hL.has hi rfl (fun ls' hl => k H locs ls' hH hS (hL.put hi g1 (by rw [jv_r B b e]; exact hl)) g2)

theorem jx_astore_n (hx : p.tables.exec = Jvm.exec) (hb : c.code = cc) {pc : Nat} {L S : List AV} {h : JH} {cu su : Nat} {i : Fin 4} {v : Int} (hi : i.val < L.length) (hd : decode cc pc = .ok (.astore_n i, 1)) (k : jXW p l e R s m args below meth c Q D cA B b (pc + 1) (jput L i.val (2, v)) S h cu su) : jXW p l e R s m args below meth c Q D cA B b pc L ((2, v) :: S) h cu su := by
  intro H locs ls hH hS hL hs
  obtain ⟨g1, g2⟩ := jms1 hs
  rcases (show v = -1 ∨ v = -2 ∨ 0 ≤ v by have := jok_a.mp g1; omega) with e | e | e
  · subst e
    exact lv_astore_nN hx hb hd rfl hL.has hi rfl (fun ls' hl => k H locs ls' hH hS (hL.put hi g1 hl) g2)
  · subst e
    exact lv_astore_n hx hb hd rfl hL.has hi rfl (fun ls' hl => k H locs ls' hH hS (hL.put hi g1 hl) g2)
  · rw [List.map_cons, jv_r B b e]
    exact lv_astore_n hx hb hd rfl hL.has hi rfl (fun ls' hl => k H locs ls' hH hS (hL.put hi g1 (by rw [jv_r B b e]; exact hl)) g2)

theorem jx_iinc (hx : p.tables.exec = Jvm.exec) (hb : c.code = cc) {pc : Nat} {L S : List AV} {h : JH} {cu su : Nat} {i : Nat} {n v : Int} (hv : L[i]? = some (0, v)) (hd : decode cc pc = .ok (.iinc i n, 3)) (k : jXW p l e R s m args below meth c Q D cA B b (pc + 3) (jput L i (0, w32 (v + n))) S h cu su) : jXW p l e R s m args below meth c Q D cA B b pc L S h cu su := by
  intro H locs ls hH hS hL hs
  have hi : i < L.length := (List.getElem?_eq_some_iff.mp hv).1
  obtain ⟨k0, hk0⟩ := List.getElem?_of_mem (jprs_in (B := B) (b := b) hv (by simp))
  exact lv_iinc (v := Int32.ofInt (w32 (v + n))) hx hb hd hL.has hk0 (by rw [j32_add]) hi rfl (fun ls' hl => k H locs ls' hH hS (hL.put hi (jok_i.mpr (jw32_in _)) hl) hs)

theorem jx_iadd (hx : p.tables.exec = Jvm.exec) (hb : c.code = cc) {pc : Nat} {L S : List AV} {h : JH} {cu su : Nat} {x y : Int} (hd : decode cc pc = .ok (.iadd, 1)) (k : jXW p l e R s m args below meth c Q D cA B b (pc + 1) L ((0, w32 (x + y)) :: S) h cu su) : jXW p l e R s m args below meth c Q D cA B b pc L ((0, y) :: (0, x) :: S) h cu su := by
  intro H locs ls hH hS hL hs
  obtain ⟨g1, g2, g3⟩ := jms2 hs
  refine lv_iadd hx hb hd ?_
  rw [j32_add]
  exact k H locs ls hH hS hL (jmc (jok_i.mpr (jw32_in _)) g3)

theorem jx_isub (hx : p.tables.exec = Jvm.exec) (hb : c.code = cc) {pc : Nat} {L S : List AV} {h : JH} {cu su : Nat} {x y : Int} (hd : decode cc pc = .ok (.isub, 1)) (k : jXW p l e R s m args below meth c Q D cA B b (pc + 1) L ((0, w32 (x - y)) :: S) h cu su) : jXW p l e R s m args below meth c Q D cA B b pc L ((0, y) :: (0, x) :: S) h cu su := by
  intro H locs ls hH hS hL hs
  obtain ⟨g1, g2, g3⟩ := jms2 hs
  refine lv_isub hx hb hd ?_
  rw [j32_sub]
  exact k H locs ls hH hS hL (jmc (jok_i.mpr (jw32_in _)) g3)

theorem jx_imul (hx : p.tables.exec = Jvm.exec) (hb : c.code = cc) {pc : Nat} {L S : List AV} {h : JH} {cu su : Nat} {x y : Int} (hd : decode cc pc = .ok (.imul, 1)) (k : jXW p l e R s m args below meth c Q D cA B b (pc + 1) L ((0, w32 (x * y)) :: S) h cu su) : jXW p l e R s m args below meth c Q D cA B b pc L ((0, y) :: (0, x) :: S) h cu su := by
  intro H locs ls hH hS hL hs
  obtain ⟨g1, g2, g3⟩ := jms2 hs
  refine lv_imul hx hb hd ?_
  rw [j32_mul]
  exact k H locs ls hH hS hL (jmc (jok_i.mpr (jw32_in _)) g3)

theorem jx_iand (hx : p.tables.exec = Jvm.exec) (hb : c.code = cc) {pc : Nat} {L S : List AV} {h : JH} {cu su : Nat} {x y : Int} (hd : decode cc pc = .ok (.iand, 1)) (k : jXW p l e R s m args below meth c Q D cA B b (pc + 1) L ((0, jand x y) :: S) h cu su) : jXW p l e R s m args below meth c Q D cA B b pc L ((0, y) :: (0, x) :: S) h cu su := by
  intro H locs ls hH hS hL hs
  obtain ⟨g1, g2, g3⟩ := jms2 hs
  refine lv_iand hx hb hd ?_
  have hk := k H locs ls hH hS hL (jmc (jok_i.mpr (j32_in _)) g3)
  rw [List.map_cons, jv_i, jand, Int32.ofInt_toInt] at hk
  exact hk

theorem jx_ior (hx : p.tables.exec = Jvm.exec) (hb : c.code = cc) {pc : Nat} {L S : List AV} {h : JH} {cu su : Nat} {x y : Int} (hd : decode cc pc = .ok (.ior, 1)) (k : jXW p l e R s m args below meth c Q D cA B b (pc + 1) L ((0, jor x y) :: S) h cu su) : jXW p l e R s m args below meth c Q D cA B b pc L ((0, y) :: (0, x) :: S) h cu su := by
  intro H locs ls hH hS hL hs
  obtain ⟨g1, g2, g3⟩ := jms2 hs
  refine lv_ior hx hb hd ?_
  have hk := k H locs ls hH hS hL (jmc (jok_i.mpr (j32_in _)) g3)
  rw [List.map_cons, jv_i, jor, Int32.ofInt_toInt] at hk
  exact hk

theorem jx_ixor (hx : p.tables.exec = Jvm.exec) (hb : c.code = cc) {pc : Nat} {L S : List AV} {h : JH} {cu su : Nat} {x y : Int} (hd : decode cc pc = .ok (.ixor, 1)) (k : jXW p l e R s m args below meth c Q D cA B b (pc + 1) L ((0, jxor x y) :: S) h cu su) : jXW p l e R s m args below meth c Q D cA B b pc L ((0, y) :: (0, x) :: S) h cu su := by
  intro H locs ls hH hS hL hs
  obtain ⟨g1, g2, g3⟩ := jms2 hs
  refine lv_ixor hx hb hd ?_
  have hk := k H locs ls hH hS hL (jmc (jok_i.mpr (j32_in _)) g3)
  rw [List.map_cons, jv_i, jxor, Int32.ofInt_toInt] at hk
  exact hk

theorem jx_ishl (hx : p.tables.exec = Jvm.exec) (hb : c.code = cc) {pc : Nat} {L S : List AV} {h : JH} {cu su : Nat} {x y : Int} (hd : decode cc pc = .ok (.ishl, 1)) (k : jXW p l e R s m args below meth c Q D cA B b (pc + 1) L ((0, jshl x y) :: S) h cu su) : jXW p l e R s m args below meth c Q D cA B b pc L ((0, y) :: (0, x) :: S) h cu su := by
  intro H locs ls hH hS hL hs
  obtain ⟨g1, g2, g3⟩ := jms2 hs
  refine lv_ishl hx hb hd ?_
  have hk := k H locs ls hH hS hL (jmc (jok_i.mpr (j32_in _)) g3)
  rw [List.map_cons, jv_i, jshl, Int32.ofInt_toInt] at hk
  exact hk

theorem jx_ishr (hx : p.tables.exec = Jvm.exec) (hb : c.code = cc) {pc : Nat} {L S : List AV} {h : JH} {cu su : Nat} {x y : Int} (hd : decode cc pc = .ok (.ishr, 1)) (k : jXW p l e R s m args below meth c Q D cA B b (pc + 1) L ((0, jshr x y) :: S) h cu su) : jXW p l e R s m args below meth c Q D cA B b pc L ((0, y) :: (0, x) :: S) h cu su := by
  intro H locs ls hH hS hL hs
  obtain ⟨g1, g2, g3⟩ := jms2 hs
  refine lv_ishr hx hb hd ?_
  have hk := k H locs ls hH hS hL (jmc (jok_i.mpr (j32_in _)) g3)
  rw [List.map_cons, jv_i, jshr, Int32.ofInt_toInt] at hk
  exact hk

theorem jx_iushr (hx : p.tables.exec = Jvm.exec) (hb : c.code = cc) {pc : Nat} {L S : List AV} {h : JH} {cu su : Nat} {x y : Int} (hd : decode cc pc = .ok (.iushr, 1)) (k : jXW p l e R s m args below meth c Q D cA B b (pc + 1) L ((0, jushr x y) :: S) h cu su) : jXW p l e R s m args below meth c Q D cA B b pc L ((0, y) :: (0, x) :: S) h cu su := by
  intro H locs ls hH hS hL hs
  obtain ⟨g1, g2, g3⟩ := jms2 hs
  refine lv_iushr hx hb hd rfl ?_
  have hk := k H locs ls hH hS hL (jmc (jok_i.mpr (j32_in _)) g3)
  rw [List.map_cons, jv_i, jushr, Int32.ofInt_toInt] at hk
  exact hk

theorem jx_idiv (hx : p.tables.exec = Jvm.exec) (hb : c.code = cc) {pc : Nat} {L S : List AV} {h : JH} {cu su : Nat} {x y : Int} (hy : y ≠ 0) (hd : decode cc pc = .ok (.idiv, 1)) (k : jXW p l e R s m args below meth c Q D cA B b (pc + 1) L ((0, w32 (x.tdiv y)) :: S) h cu su) : jXW p l e R s m args below meth c Q D cA B b pc L ((0, y) :: (0, x) :: S) h cu su := by
  intro H locs ls hH hS hL hs
  obtain ⟨g1, g2, g3⟩ := jms2 hs
  refine lv_idiv hx hb hd (fun q => hy ?_) ?_
  · rw [j32_0, j32_eq (jok_i.mp g1) ⟨by omega, by omega⟩] at q
    exact q
  · rw [j32_div (jok_i.mp g2) (jok_i.mp g1)]
    exact k H locs ls hH hS hL (jmc (jok_i.mpr (jw32_in _)) g3)

theorem jx_irem (hx : p.tables.exec = Jvm.exec) (hb : c.code = cc) {pc : Nat} {L S : List AV} {h : JH} {cu su : Nat} {x y : Int} (hy : y ≠ 0) (hd : decode cc pc = .ok (.irem, 1)) (k : jXW p l e R s m args below meth c Q D cA B b (pc + 1) L ((0, x.tmod y) :: S) h cu su) : jXW p l e R s m args below meth c Q D cA B b pc L ((0, y) :: (0, x) :: S) h cu su := by
  intro H locs ls hH hS hL hs
  obtain ⟨g1, g2, g3⟩ := jms2 hs
  refine lv_irem hx hb hd (fun q => hy ?_) ?_
  · rw [j32_0, j32_eq (jok_i.mp g1) ⟨by omega, by omega⟩] at q
    exact q
  · rw [j32_rem (jok_i.mp g2) (jok_i.mp g1)]
    exact k H locs ls hH hS hL (jmc (jok_i.mpr (j32_rem_in (jok_i.mp g1) hy)) g3)

theorem jx_ineg (hx : p.tables.exec = Jvm.exec) (hb : c.code = cc) {pc : Nat} {L S : List AV} {h : JH} {cu su : Nat} {x : Int} (hd : decode cc pc = .ok (.ineg, 1)) (k : jXW p l e R s m args below meth c Q D cA B b (pc + 1) L ((0, w32 (-x)) :: S) h cu su) : jXW p l e R s m args below meth c Q D cA B b pc L ((0, x) :: S) h cu su := by
  intro H locs ls hH hS hL hs
  obtain ⟨g1, g3⟩ := jms1 hs
  refine lv_ineg hx hb hd ?_
  rw [j32_neg]
  exact k H locs ls hH hS hL (jmc (jok_i.mpr (jw32_in _)) g3)

theorem jx_ladd (hx : p.tables.exec = Jvm.exec) (hb : c.code = cc) {pc : Nat} {L S : List AV} {h : JH} {cu su : Nat} {x y : Int} (hd : decode cc pc = .ok (.ladd, 1)) (k : jXW p l e R s m args below meth c Q D cA B b (pc + 1) L ((1, w64 (x + y)) :: S) h cu su) : jXW p l e R s m args below meth c Q D cA B b pc L ((1, y) :: (1, x) :: S) h cu su := by
  intro H locs ls hH hS hL hs
  obtain ⟨g1, g2, g3⟩ := jms2 hs
  refine lv_ladd hx hb hd ?_
  rw [j64_add]
  exact k H locs ls hH hS hL (jmc (jok_l.mpr (jw64_in _)) g3)

theorem jx_lsub (hx : p.tables.exec = Jvm.exec) (hb : c.code = cc) {pc : Nat} {L S : List AV} {h : JH} {cu su : Nat} {x y : Int} (hd : decode cc pc = .ok (.lsub, 1)) (k : jXW p l e R s m args below meth c Q D cA B b (pc + 1) L ((1, w64 (x - y)) :: S) h cu su) : jXW p l e R s m args below meth c Q D cA B b pc L ((1, y) :: (1, x) :: S) h cu su := by
  intro H locs ls hH hS hL hs
  obtain ⟨g1, g2, g3⟩ := jms2 hs
  refine lv_lsub hx hb hd ?_
  rw [j64_sub]
  exact k H locs ls hH hS hL (jmc (jok_l.mpr (jw64_in _)) g3)

theorem jx_lmul (hx : p.tables.exec = Jvm.exec) (hb : c.code = cc) {pc : Nat} {L S : List AV} {h : JH} {cu su : Nat} {x y : Int} (hd : decode cc pc = .ok (.lmul, 1)) (k : jXW p l e R s m args below meth c Q D cA B b (pc + 1) L ((1, w64 (x * y)) :: S) h cu su) : jXW p l e R s m args below meth c Q D cA B b pc L ((1, y) :: (1, x) :: S) h cu su := by
  intro H locs ls hH hS hL hs
  obtain ⟨g1, g2, g3⟩ := jms2 hs
  refine lv_lmul hx hb hd ?_
  rw [j64_mul]
  exact k H locs ls hH hS hL (jmc (jok_l.mpr (jw64_in _)) g3)

theorem jx_land (hx : p.tables.exec = Jvm.exec) (hb : c.code = cc) {pc : Nat} {L S : List AV} {h : JH} {cu su : Nat} {x y : Int} (hd : decode cc pc = .ok (.land, 1)) (k : jXW p l e R s m args below meth c Q D cA B b (pc + 1) L ((1, jandL x y) :: S) h cu su) : jXW p l e R s m args below meth c Q D cA B b pc L ((1, y) :: (1, x) :: S) h cu su := by
  intro H locs ls hH hS hL hs
  obtain ⟨g1, g2, g3⟩ := jms2 hs
  refine lv_land hx hb hd ?_
  have hk := k H locs ls hH hS hL (jmc (jok_l.mpr (j64_in _)) g3)
  rw [List.map_cons, jv_l, jandL, Int64.ofInt_toInt] at hk
  exact hk

theorem jx_lor (hx : p.tables.exec = Jvm.exec) (hb : c.code = cc) {pc : Nat} {L S : List AV} {h : JH} {cu su : Nat} {x y : Int} (hd : decode cc pc = .ok (.lor, 1)) (k : jXW p l e R s m args below meth c Q D cA B b (pc + 1) L ((1, jorL x y) :: S) h cu su) : jXW p l e R s m args below meth c Q D cA B b pc L ((1, y) :: (1, x) :: S) h cu su := by
  intro H locs ls hH hS hL hs
  obtain ⟨g1, g2, g3⟩ := jms2 hs
  refine lv_lor hx hb hd ?_
  have hk := k H locs ls hH hS hL (jmc (jok_l.mpr (j64_in _)) g3)
  rw [List.map_cons, jv_l, jorL, Int64.ofInt_toInt] at hk
  exact hk

theorem jx_lxor (hx : p.tables.exec = Jvm.exec) (hb : c.code = cc) {pc : Nat} {L S : List AV} {h : JH} {cu su : Nat} {x y : Int} (hd : decode cc pc = .ok (.lxor, 1)) (k : jXW p l e R s m args below meth c Q D cA B b (pc + 1) L ((1, jxorL x y) :: S) h cu su) : jXW p l e R s m args below meth c Q D cA B b pc L ((1, y) :: (1, x) :: S) h cu su := by
  intro H locs ls hH hS hL hs
  obtain ⟨g1, g2, g3⟩ := jms2 hs
  refine lv_lxor hx hb hd ?_
  have hk := k H locs ls hH hS hL (jmc (jok_l.mpr (j64_in _)) g3)
  rw [List.map_cons, jv_l, jxorL, Int64.ofInt_toInt] at hk
  exact hk

theorem jx_lshl (hx : p.tables.exec = Jvm.exec) (hb : c.code = cc) {pc : Nat} {L S : List AV} {h : JH} {cu su : Nat} {x y : Int} (hd : decode cc pc = .ok (.lshl, 1)) (k : jXW p l e R s m args below meth c Q D cA B b (pc + 1) L ((1, jshlL x y) :: S) h cu su) : jXW p l e R s m args below meth c Q D cA B b pc L ((0, y) :: (1, x) :: S) h cu su := by
  intro H locs ls hH hS hL hs
  obtain ⟨g1, g2, g3⟩ := jms2 hs
  refine lv_lshl hx hb hd rfl ?_
  have hk := k H locs ls hH hS hL (jmc (jok_l.mpr (j64_in _)) g3)
  rw [List.map_cons, jv_l, jshlL, Int64.ofInt_toInt] at hk
  exact hk

theorem jx_lushr (hx : p.tables.exec = Jvm.exec) (hb : c.code = cc) {pc : Nat} {L S : List AV} {h : JH} {cu su : Nat} {x y : Int} (hd : decode cc pc = .ok (.lushr, 1)) (k : jXW p l e R s m args below meth c Q D cA B b (pc + 1) L ((1, jushrL x y) :: S) h cu su) : jXW p l e R s m args below meth c Q D cA B b pc L ((0, y) :: (1, x) :: S) h cu su := by
  intro H locs ls hH hS hL hs
  obtain ⟨g1, g2, g3⟩ := jms2 hs
  refine lv_lushr hx hb hd rfl ?_
  have hk := k H locs ls hH hS hL (jmc (jok_l.mpr (j64_in _)) g3)
  rw [List.map_cons, jv_l, jushrL, Int64.ofInt_toInt] at hk
  exact hk

theorem jx_ldiv (hx : p.tables.exec = Jvm.exec) (hb : c.code = cc) {pc : Nat} {L S : List AV} {h : JH} {cu su : Nat} {x y : Int} (hy : y ≠ 0) (hd : decode cc pc = .ok (.ldiv, 1)) (k : jXW p l e R s m args below meth c Q D cA B b (pc + 1) L ((1, w64 (x.tdiv y)) :: S) h cu su) : jXW p l e R s m args below meth c Q D cA B b pc L ((1, y) :: (1, x) :: S) h cu su := by
  intro H locs ls hH hS hL hs
  obtain ⟨g1, g2, g3⟩ := jms2 hs
  refine lv_ldiv hx hb hd (fun q => hy ?_) ?_
  · rw [j64_0, j64_eq (jok_l.mp g1) ⟨by omega, by omega⟩] at q
    exact q
  · rw [j64_div (jok_l.mp g2) (jok_l.mp g1)]
    exact k H locs ls hH hS hL (jmc (jok_l.mpr (jw64_in _)) g3)

theorem jx_lrem (hx : p.tables.exec = Jvm.exec) (hb : c.code = cc) {pc : Nat} {L S : List AV} {h : JH} {cu su : Nat} {x y : Int} (hy : y ≠ 0) (hd : decode cc pc = .ok (.lrem, 1)) (k : jXW p l e R s m args below meth c Q D cA B b (pc + 1) L ((1, x.tmod y) :: S) h cu su) : jXW p l e R s m args below meth c Q D cA B b pc L ((1, y) :: (1, x) :: S) h cu su := by
  intro H locs ls hH hS hL hs
  obtain ⟨g1, g2, g3⟩ := jms2 hs
  refine lv_lrem hx hb hd (fun q => hy ?_) ?_
  · rw [j64_0, j64_eq (jok_l.mp g1) ⟨by omega, by omega⟩] at q
    exact q
  · rw [j64_rem (jok_l.mp g2) (jok_l.mp g1)]
    exact k H locs ls hH hS hL (jmc (jok_l.mpr (j64_rem_in (jok_l.mp g1) hy)) g3)

theorem jx_lneg (hx : p.tables.exec = Jvm.exec) (hb : c.code = cc) {pc : Nat} {L S : List AV} {h : JH} {cu su : Nat} {x : Int} (hd : decode cc pc = .ok (.lneg, 1)) (k : jXW p l e R s m args below meth c Q D cA B b (pc + 1) L ((1, w64 (-x)) :: S) h cu su) : jXW p l e R s m args below meth c Q D cA B b pc L ((1, x) :: S) h cu su := by
  intro H locs ls hH hS hL hs
  obtain ⟨g1, g3⟩ := jms1 hs
  refine lv_lneg hx hb hd ?_
  rw [j64_neg]
  exact k H locs ls hH hS hL (jmc (jok_l.mpr (jw64_in _)) g3)

theorem jx_lcmp (hx : p.tables.exec = Jvm.exec) (hb : c.code = cc) {pc : Nat} {L S : List AV} {h : JH} {cu su : Nat} {x y : Int} (hd : decode cc pc = .ok (.lcmp, 1)) (k : jXW p l e R s m args below meth c Q D cA B b (pc + 1) L ((0, jcmpL x y) :: S) h cu su) : jXW p l e R s m args below meth c Q D cA B b pc L ((1, y) :: (1, x) :: S) h cu su := by
  intro H locs ls hH hS hL hs
  obtain ⟨g1, g2, g3⟩ := jms2 hs
  refine W.lcmp hx hb hd ?_
  rw [j64_cmp (jok_l.mp g2) (jok_l.mp g1)]
  refine k H locs ls hH hS hL (jmc (jok_i.mpr ?_) g3)
  unfold jcmpL
  split
  · omega
  · split <;> omega

theorem jx_i2l (hx : p.tables.exec = Jvm.exec) (hb : c.code = cc) {pc : Nat} {L S : List AV} {h : JH} {cu su : Nat} {x : Int} (hd : decode cc pc = .ok (.i2l, 1)) (k : jXW p l e R s m args below meth c Q D cA B b (pc + 1) L ((1, x) :: S) h cu su) : jXW p l e R s m args below meth c Q D cA B b pc L ((0, x) :: S) h cu su := by
  intro H locs ls hH hS hL hs
  obtain ⟨g1, g3⟩ := jms1 hs
  have g := jok_i.mp g1
  exact lv_i2l hx hb hd (j32_64 g.1 g.2) (k H locs ls hH hS hL (jmc (jok_l.mpr (by omega)) g3))

theorem jx_l2i (hx : p.tables.exec = Jvm.exec) (hb : c.code = cc) {pc : Nat} {L S : List AV} {h : JH} {cu su : Nat} {x : Int} (hd : decode cc pc = .ok (.l2i, 1)) (k : jXW p l e R s m args below meth c Q D cA B b (pc + 1) L ((0, w32 x) :: S) h cu su) : jXW p l e R s m args below meth c Q D cA B b pc L ((1, x) :: S) h cu su := by
  intro H locs ls hH hS hL hs
  obtain ⟨g1, g3⟩ := jms1 hs
  have g := jok_l.mp g1
  exact lv_l2i hx hb hd (j64_32 g.1 g.2) (k H locs ls hH hS hL (jmc (jok_i.mpr (jw32_in _)) g3))

theorem jx_i2b (hx : p.tables.exec = Jvm.exec) (hb : c.code = cc) {pc : Nat} {L S : List AV} {h : JH} {cu su : Nat} {x : Int} (hd : decode cc pc = .ok (.i2b, 1)) (k : jXW p l e R s m args below meth c Q D cA B b (pc + 1) L ((0, w8 x) :: S) h cu su) : jXW p l e R s m args below meth c Q D cA B b pc L ((0, x) :: S) h cu su := by
  intro H locs ls hH hS hL hs
  obtain ⟨g1, g3⟩ := jms1 hs
  have g := jok_i.mp g1
  have g5 := jw8_in x
  exact lv_i2b hx hb hd (j32_8 g.1 g.2) (k H locs ls hH hS hL (jmc (jok_i.mpr (by omega)) g3))

theorem jx_i2s (hx : p.tables.exec = Jvm.exec) (hb : c.code = cc) {pc : Nat} {L S : List AV} {h : JH} {cu su : Nat} {x : Int} (hd : decode cc pc = .ok (.i2s, 1)) (k : jXW p l e R s m args below meth c Q D cA B b (pc + 1) L ((0, w16 x) :: S) h cu su) : jXW p l e R s m args below meth c Q D cA B b pc L ((0, x) :: S) h cu su := by
  intro H locs ls hH hS hL hs
  obtain ⟨g1, g3⟩ := jms1 hs
  have g := jok_i.mp g1
  have g5 := jw16_in x
  exact lv_i2s hx hb hd (j32_16 g.1 g.2) (k H locs ls hH hS hL (jmc (jok_i.mpr (by omega)) g3))

theorem jx_pop (hx : p.tables.exec = Jvm.exec) (hb : c.code = cc) {pc : Nat} {L S : List AV} {h : JH} {cu su : Nat} {v : AV} (hv : ¬ v.1 = 1) (hd : decode cc pc = .ok (.pop, 1)) (k : jXW p l e R s m args below meth c Q D cA B b (pc + 1) L (S) h cu su) : jXW p l e R s m args below meth c Q D cA B b pc L (v :: S) h cu su := by
  intro H locs ls hH hS hL hs
  obtain ⟨g1, g3⟩ := jms1 hs
  exact lv_pop hx hb hd (by rw [jv_cat B b g1, if_neg hv]) (k H locs ls hH hS hL g3)

theorem jx_pop2 (hx : p.tables.exec = Jvm.exec) (hb : c.code = cc) {pc : Nat} {L S : List AV} {h : JH} {cu su : Nat} {v : AV} (hv : v.1 = 1) (hd : decode cc pc = .ok (.pop2, 1)) (k : jXW p l e R s m args below meth c Q D cA B b (pc + 1) L (S) h cu su) : jXW p l e R s m args below meth c Q D cA B b pc L (v :: S) h cu su := by
  intro H locs ls hH hS hL hs
  obtain ⟨g1, g3⟩ := jms1 hs
  exact lv_pop2_2 hx hb hd (by rw [jv_cat B b g1, if_pos hv]) (k H locs ls hH hS hL g3)

theorem jx_dup (hx : p.tables.exec = Jvm.exec) (hb : c.code = cc) {pc : Nat} {L S : List AV} {h : JH} {cu su : Nat} {v : AV} (hv : ¬ v.1 = 1) (hd : decode cc pc = .ok (.dup, 1)) (k : jXW p l e R s m args below meth c Q D cA B b (pc + 1) L (v :: v :: S) h cu su) : jXW p l e R s m args below meth c Q D cA B b pc L (v :: S) h cu su := by
  intro H locs ls hH hS hL hs
  obtain ⟨g1, g3⟩ := jms1 hs
  exact lv_dup hx hb hd (by rw [jv_cat B b g1, if_neg hv]) (k H locs ls hH hS hL (jmc g1 hs))

theorem jx_dup2l (hx : p.tables.exec = Jvm.exec) (hb : c.code = cc) {pc : Nat} {L S : List AV} {h : JH} {cu su : Nat} {v : AV} (hv : v.1 = 1) (hd : decode cc pc = .ok (.dup2, 1)) (k : jXW p l e R s m args below meth c Q D cA B b (pc + 1) L (v :: v :: S) h cu su) : jXW p l e R s m args below meth c Q D cA B b pc L (v :: S) h cu su := by
  intro H locs ls hH hS hL hs
  obtain ⟨g1, g3⟩ := jms1 hs
  exact lv_dup2_2 hx hb hd (by rw [jv_cat B b g1, if_pos hv]) (k H locs ls hH hS hL (jmc g1 hs))

theorem jx_dup2 (hx : p.tables.exec = Jvm.exec) (hb : c.code = cc) {pc : Nat} {L S : List AV} {h : JH} {cu su : Nat} {v w : AV} (hv : ¬ v.1 = 1) (hw : ¬ w.1 = 1) (hd : decode cc pc = .ok (.dup2, 1)) (k : jXW p l e R s m args below meth c Q D cA B b (pc + 1) L (w :: v :: w :: v :: S) h cu su) : jXW p l e R s m args below meth c Q D cA B b pc L (w :: v :: S) h cu su := by
  intro H locs ls hH hS hL hs
  obtain ⟨g1, g2, g3⟩ := jms2 hs
  exact lv_dup2_11 hx hb hd (by rw [jv_cat B b g1, if_neg hw]) (by rw [jv_cat B b g2, if_neg hv]) (k H locs ls hH hS hL (jmc g1 (jmc g2 hs)))

theorem jx_icmp_eq (hx : p.tables.exec = Jvm.exec) (hb : c.code = cc) {pc tgt : Nat} {L S : List AV} {h : JH} {cu su : Nat} {x y off : Int} (hd : decode cc pc = .ok (.if_icmp .eq off, 3)) (ht : (pc : Int) + off = tgt) (kt : x = y → jXW p l e R s m args below meth c Q D cA B b tgt L S h cu su) (kf : ¬ (x = y) → jXW p l e R s m args below meth c Q D cA B b (pc + 3) L S h cu su) : jXW p l e R s m args below meth c Q D cA B b pc L ((0, y) :: (0, x) :: S) h cu su := by
  intro H locs ls hH hS hL hs
  obtain ⟨g1, g2, g3⟩ := jms2 hs
  have ra := jok_i.mp g2
  have rc := jok_i.mp g1
  refine lv_icmp_eq hx hb hd ht (fun q => kt ?_ H locs ls hH hS hL g3) (fun q => kf ?_ H locs ls hH hS hL g3)
  · first | exact (j32_eq ra rc).mp q | exact fun z => q ((j32_eq ra rc).mpr z) | exact Decidable.of_not_not (fun z => absurd q (by simp_all))
  · first | exact fun z => q ((j32_eq ra rc).mpr z) | exact fun z => z ((j32_eq ra rc).mp q) | (intro z; exact q (fun w => z ((j32_eq ra rc).mp w)))

theorem jx_if_eq (hx : p.tables.exec = Jvm.exec) (hb : c.code = cc) {pc tgt : Nat} {L S : List AV} {h : JH} {cu su : Nat} {x off : Int} (hd : decode cc pc = .ok (.ifCond .eq off, 3)) (ht : (pc : Int) + off = tgt) (kt : x = 0 → jXW p l e R s m args below meth c Q D cA B b tgt L S h cu su) (kf : ¬ (x = 0) → jXW p l e R s m args below meth c Q D cA B b (pc + 3) L S h cu su) : jXW p l e R s m args below meth c Q D cA B b pc L ((0, x) :: S) h cu su := by
  intro H locs ls hH hS hL hs
  obtain ⟨g1, g3⟩ := jms1 hs
  have ra := jok_i.mp g1
  have rc : -2147483648 ≤ (0 : Int) ∧ (0 : Int) < 2147483648 := by omega
  refine lv_if_eq hx hb hd ht (fun q => kt ?_ H locs ls hH hS hL g3) (fun q => kf ?_ H locs ls hH hS hL g3)
  · rw [j32_0] at q
    first | exact (j32_eq ra rc).mp q | exact fun z => q ((j32_eq ra rc).mpr z) | exact Decidable.of_not_not (fun z => absurd q (by simp_all))
  · rw [j32_0] at q
    first | exact fun z => q ((j32_eq ra rc).mpr z) | exact fun z => z ((j32_eq ra rc).mp q) | (intro z; exact q (fun w => z ((j32_eq ra rc).mp w)))

theorem jx_icmp_ne (hx : p.tables.exec = Jvm.exec) (hb : c.code = cc) {pc tgt : Nat} {L S : List AV} {h : JH} {cu su : Nat} {x y off : Int} (hd : decode cc pc = .ok (.if_icmp .ne off, 3)) (ht : (pc : Int) + off = tgt) (kt : x ≠ y → jXW p l e R s m args below meth c Q D cA B b tgt L S h cu su) (kf : ¬ (x ≠ y) → jXW p l e R s m args below meth c Q D cA B b (pc + 3) L S h cu su) : jXW p l e R s m args below meth c Q D cA B b pc L ((0, y) :: (0, x) :: S) h cu su := by
  intro H locs ls hH hS hL hs
  obtain ⟨g1, g2, g3⟩ := jms2 hs
  have ra := jok_i.mp g2
  have rc := jok_i.mp g1
  refine lv_icmp_ne hx hb hd ht (fun q => kt ?_ H locs ls hH hS hL g3) (fun q => kf ?_ H locs ls hH hS hL g3)
  · first | exact (j32_eq ra rc).mp q | exact fun z => q ((j32_eq ra rc).mpr z) | exact Decidable.of_not_not (fun z => absurd q (by simp_all))
  · first | exact fun z => q ((j32_eq ra rc).mpr z) | exact fun z => z ((j32_eq ra rc).mp q) | (intro z; exact q (fun w => z ((j32_eq ra rc).mp w)))

theorem jx_if_ne (hx : p.tables.exec = Jvm.exec) (hb : c.code = cc) {pc tgt : Nat} {L S : List AV} {h : JH} {cu su : Nat} {x off : Int} (hd : decode cc pc = .ok (.ifCond .ne off, 3)) (ht : (pc : Int) + off = tgt) (kt : x ≠ 0 → jXW p l e R s m args below meth c Q D cA B b tgt L S h cu su) (kf : ¬ (x ≠ 0) → jXW p l e R s m args below meth c Q D cA B b (pc + 3) L S h cu su) : jXW p l e R s m args below meth c Q D cA B b pc L ((0, x) :: S) h cu su := by
  intro H locs ls hH hS hL hs
  obtain ⟨g1, g3⟩ := jms1 hs
  have ra := jok_i.mp g1
  have rc : -2147483648 ≤ (0 : Int) ∧ (0 : Int) < 2147483648 := by omega
  refine lv_if_ne hx hb hd ht (fun q => kt ?_ H locs ls hH hS hL g3) (fun q => kf ?_ H locs ls hH hS hL g3)
  · rw [j32_0] at q
    first | exact (j32_eq ra rc).mp q | exact fun z => q ((j32_eq ra rc).mpr z) | exact Decidable.of_not_not (fun z => absurd q (by simp_all))
  · rw [j32_0] at q
    first | exact fun z => q ((j32_eq ra rc).mpr z) | exact fun z => z ((j32_eq ra rc).mp q) | (intro z; exact q (fun w => z ((j32_eq ra rc).mp w)))

theorem jx_icmp_lt (hx : p.tables.exec = Jvm.exec) (hb : c.code = cc) {pc tgt : Nat} {L S : List AV} {h : JH} {cu su : Nat} {x y off : Int} (hd : decode cc pc = .ok (.if_icmp .lt off, 3)) (ht : (pc : Int) + off = tgt) (kt : x < y → jXW p l e R s m args below meth c Q D cA B b tgt L S h cu su) (kf : ¬ (x < y) → jXW p l e R s m args below meth c Q D cA B b (pc + 3) L S h cu su) : jXW p l e R s m args below meth c Q D cA B b pc L ((0, y) :: (0, x) :: S) h cu su := by
  intro H locs ls hH hS hL hs
  obtain ⟨g1, g2, g3⟩ := jms2 hs
  have ra := jok_i.mp g2
  have rc := jok_i.mp g1
  refine lv_icmp_lt hx hb hd ht (fun q => kt ?_ H locs ls hH hS hL g3) (fun q => kf ?_ H locs ls hH hS hL g3)
  · first | exact (j32_lt ra rc).mp q | exact fun z => q ((j32_lt ra rc).mpr z) | exact Decidable.of_not_not (fun z => absurd q (by simp_all))
  · first | exact fun z => q ((j32_lt ra rc).mpr z) | exact fun z => z ((j32_lt ra rc).mp q) | (intro z; exact q (fun w => z ((j32_lt ra rc).mp w)))

theorem jx_if_lt (hx : p.tables.exec = Jvm.exec) (hb : c.code = cc) {pc tgt : Nat} {L S : List AV} {h : JH} {cu su : Nat} {x off : Int} (hd : decode cc pc = .ok (.ifCond .lt off, 3)) (ht : (pc : Int) + off = tgt) (kt : x < 0 → jXW p l e R s m args below meth c Q D cA B b tgt L S h cu su) (kf : ¬ (x < 0) → jXW p l e R s m args below meth c Q D cA B b (pc + 3) L S h cu su) : jXW p l e R s m args below meth c Q D cA B b pc L ((0, x) :: S) h cu su := by
  intro H locs ls hH hS hL hs
  obtain ⟨g1, g3⟩ := jms1 hs
  have ra := jok_i.mp g1
  have rc : -2147483648 ≤ (0 : Int) ∧ (0 : Int) < 2147483648 := by omega
  refine lv_if_lt hx hb hd ht (fun q => kt ?_ H locs ls hH hS hL g3) (fun q => kf ?_ H locs ls hH hS hL g3)
  · rw [j32_0] at q
    first | exact (j32_lt ra rc).mp q | exact fun z => q ((j32_lt ra rc).mpr z) | exact Decidable.of_not_not (fun z => absurd q (by simp_all))
  · rw [j32_0] at q
    first | exact fun z => q ((j32_lt ra rc).mpr z) | exact fun z => z ((j32_lt ra rc).mp q) | (intro z; exact q (fun w => z ((j32_lt ra rc).mp w)))

theorem jx_icmp_ge (hx : p.tables.exec = Jvm.exec) (hb : c.code = cc) {pc tgt : Nat} {L S : List AV} {h : JH} {cu su : Nat} {x y off : Int} (hd : decode cc pc = .ok (.if_icmp .ge off, 3)) (ht : (pc : Int) + off = tgt) (kt : y ≤ x → jXW p l e R s m args below meth c Q D cA B b tgt L S h cu su) (kf : ¬ (y ≤ x) → jXW p l e R s m args below meth c Q D cA B b (pc + 3) L S h cu su) : jXW p l e R s m args below meth c Q D cA B b pc L ((0, y) :: (0, x) :: S) h cu su := by
  intro H locs ls hH hS hL hs
  obtain ⟨g1, g2, g3⟩ := jms2 hs
  have ra := jok_i.mp g2
  have rc := jok_i.mp g1
  refine lv_icmp_ge hx hb hd ht (fun q => kt ?_ H locs ls hH hS hL g3) (fun q => kf ?_ H locs ls hH hS hL g3)
  · first | exact (j32_le rc ra).mp q | exact fun z => q ((j32_le rc ra).mpr z) | exact Decidable.of_not_not (fun z => absurd q (by simp_all))
  · first | exact fun z => q ((j32_le rc ra).mpr z) | exact fun z => z ((j32_le rc ra).mp q) | (intro z; exact q (fun w => z ((j32_le rc ra).mp w)))

theorem jx_if_ge (hx : p.tables.exec = Jvm.exec) (hb : c.code = cc) {pc tgt : Nat} {L S : List AV} {h : JH} {cu su : Nat} {x off : Int} (hd : decode cc pc = .ok (.ifCond .ge off, 3)) (ht : (pc : Int) + off = tgt) (kt : 0 ≤ x → jXW p l e R s m args below meth c Q D cA B b tgt L S h cu su) (kf : ¬ (0 ≤ x) → jXW p l e R s m args below meth c Q D cA B b (pc + 3) L S h cu su) : jXW p l e R s m args below meth c Q D cA B b pc L ((0, x) :: S) h cu su := by
  intro H locs ls hH hS hL hs
  obtain ⟨g1, g3⟩ := jms1 hs
  have ra := jok_i.mp g1
  have rc : -2147483648 ≤ (0 : Int) ∧ (0 : Int) < 2147483648 := by omega
  refine lv_if_ge hx hb hd ht (fun q => kt ?_ H locs ls hH hS hL g3) (fun q => kf ?_ H locs ls hH hS hL g3)
  · rw [j32_0] at q
    first | exact (j32_le rc ra).mp q | exact fun z => q ((j32_le rc ra).mpr z) | exact Decidable.of_not_not (fun z => absurd q (by simp_all))
  · rw [j32_0] at q
    first | exact fun z => q ((j32_le rc ra).mpr z) | exact fun z => z ((j32_le rc ra).mp q) | (intro z; exact q (fun w => z ((j32_le rc ra).mp w)))

theorem jx_icmp_gt (hx : p.tables.exec = Jvm.exec) (hb : c.code = cc) {pc tgt : Nat} {L S : List AV} {h : JH} {cu su : Nat} {x y off : Int} (hd : decode cc pc = .ok (.if_icmp .gt off, 3)) (ht : (pc : Int) + off = tgt) (kt : y < x → jXW p l e R s m args below meth c Q D cA B b tgt L S h cu su) (kf : ¬ (y < x) → jXW p l e R s m args below meth c Q D cA B b (pc + 3) L S h cu su) : jXW p l e R s m args below meth c Q D cA B b pc L ((0, y) :: (0, x) :: S) h cu su := by
  intro H locs ls hH hS hL hs
  obtain ⟨g1, g2, g3⟩ := jms2 hs
  have ra := jok_i.mp g2
  have rc := jok_i.mp g1
  refine lv_icmp_gt hx hb hd ht (fun q => kt ?_ H locs ls hH hS hL g3) (fun q => kf ?_ H locs ls hH hS hL g3)
  · first | exact (j32_lt rc ra).mp q | exact fun z => q ((j32_lt rc ra).mpr z) | exact Decidable.of_not_not (fun z => absurd q (by simp_all))
  · first | exact fun z => q ((j32_lt rc ra).mpr z) | exact fun z => z ((j32_lt rc ra).mp q) | (intro z; exact q (fun w => z ((j32_lt rc ra).mp w)))

theorem jx_if_gt (hx : p.tables.exec = Jvm.exec) (hb : c.code = cc) {pc tgt : Nat} {L S : List AV} {h : JH} {cu su : Nat} {x off : Int} (hd : decode cc pc = .ok (.ifCond .gt off, 3)) (ht : (pc : Int) + off = tgt) (kt : 0 < x → jXW p l e R s m args below meth c Q D cA B b tgt L S h cu su) (kf : ¬ (0 < x) → jXW p l e R s m args below meth c Q D cA B b (pc + 3) L S h cu su) : jXW p l e R s m args below meth c Q D cA B b pc L ((0, x) :: S) h cu su := by
  intro H locs ls hH hS hL hs
  obtain ⟨g1, g3⟩ := jms1 hs
  have ra := jok_i.mp g1
  have rc : -2147483648 ≤ (0 : Int) ∧ (0 : Int) < 2147483648 := by omega
  refine lv_if_gt hx hb hd ht (fun q => kt ?_ H locs ls hH hS hL g3) (fun q => kf ?_ H locs ls hH hS hL g3)
  · rw [j32_0] at q
    first | exact (j32_lt rc ra).mp q | exact fun z => q ((j32_lt rc ra).mpr z) | exact Decidable.of_not_not (fun z => absurd q (by simp_all))
  · rw [j32_0] at q
    first | exact fun z => q ((j32_lt rc ra).mpr z) | exact fun z => z ((j32_lt rc ra).mp q) | (intro z; exact q (fun w => z ((j32_lt rc ra).mp w)))

theorem jx_icmp_le (hx : p.tables.exec = Jvm.exec) (hb : c.code = cc) {pc tgt : Nat} {L S : List AV} {h : JH} {cu su : Nat} {x y off : Int} (hd : decode cc pc = .ok (.if_icmp .le off, 3)) (ht : (pc : Int) + off = tgt) (kt : x ≤ y → jXW p l e R s m args below meth c Q D cA B b tgt L S h cu su) (kf : ¬ (x ≤ y) → jXW p l e R s m args below meth c Q D cA B b (pc + 3) L S h cu su) : jXW p l e R s m args below meth c Q D cA B b pc L ((0, y) :: (0, x) :: S) h cu su := by
  intro H locs ls hH hS hL hs
  obtain ⟨g1, g2, g3⟩ := jms2 hs
  have ra := jok_i.mp g2
  have rc := jok_i.mp g1
  refine lv_icmp_le hx hb hd ht (fun q => kt ?_ H locs ls hH hS hL g3) (fun q => kf ?_ H locs ls hH hS hL g3)
  · first | exact (j32_le ra rc).mp q | exact fun z => q ((j32_le ra rc).mpr z) | exact Decidable.of_not_not (fun z => absurd q (by simp_all))
  · first | exact fun z => q ((j32_le ra rc).mpr z) | exact fun z => z ((j32_le ra rc).mp q) | (intro z; exact q (fun w => z ((j32_le ra rc).mp w)))

theorem jx_if_le (hx : p.tables.exec = Jvm.exec) (hb : c.code = cc) {pc tgt : Nat} {L S : List AV} {h : JH} {cu su : Nat} {x off : Int} (hd : decode cc pc = .ok (.ifCond .le off, 3)) (ht : (pc : Int) + off = tgt) (kt : x ≤ 0 → jXW p l e R s m args below meth c Q D cA B b tgt L S h cu su) (kf : ¬ (x ≤ 0) → jXW p l e R s m args below meth c Q D cA B b (pc + 3) L S h cu su) : jXW p l e R s m args below meth c Q D cA B b pc L ((0, x) :: S) h cu su := by
  intro H locs ls hH hS hL hs
  obtain ⟨g1, g3⟩ := jms1 hs
  have ra := jok_i.mp g1
  have rc : -2147483648 ≤ (0 : Int) ∧ (0 : Int) < 2147483648 := by omega
  refine lv_if_le hx hb hd ht (fun q => kt ?_ H locs ls hH hS hL g3) (fun q => kf ?_ H locs ls hH hS hL g3)
  · rw [j32_0] at q
    first | exact (j32_le ra rc).mp q | exact fun z => q ((j32_le ra rc).mpr z) | exact Decidable.of_not_not (fun z => absurd q (by simp_all))
  · rw [j32_0] at q
    first | exact fun z => q ((j32_le ra rc).mpr z) | exact fun z => z ((j32_le ra rc).mp q) | (intro z; exact q (fun w => z ((j32_le ra rc).mp w)))

theorem jx_goto (hx : p.tables.exec = Jvm.exec) (hb : c.code = cc) {pc tgt : Nat} {L S : List AV} {h : JH} {cu su : Nat} {off : Int} (hd : decode cc pc = .ok (.goto off, 3)) (ht : (pc : Int) + off = tgt) (k : jXW p l e R s m args below meth c Q D cA B b tgt L S h cu su) : jXW p l e R s m args below meth c Q D cA B b pc L S h cu su := by
  intro H locs ls hH hS hL hs
  exact lv_goto hx hb hd ht (k H locs ls hH hS hL hs)
theorem jx_ifnull (hx : p.tables.exec = Jvm.exec) (hb : c.code = cc) {pc tgt : Nat} {L S : List AV} {h : JH} {cu su : Nat} {x off : Int} (hd : decode cc pc = .ok (.ifnull off, 3)) (ht : (pc : Int) + off = tgt) (kt : x = -1 → jXW p l e R s m args below meth c Q D cA B b tgt L S h cu su) (kf : ¬ x = -1 → jXW p l e R s m args below meth c Q D cA B b (pc + 3) L S h cu su) : jXW p l e R s m args below meth c Q D cA B b pc L ((2, x) :: S) h cu su := by
  intro H locs ls hH hS hL hs
  obtain ⟨g1, g3⟩ := jms1 hs
  rcases (show x = -1 ∨ x = -2 ∨ 0 ≤ x by have := jok_a.mp g1; omega) with e | e | e
  · subst e
    exact lv_ifnullN hx hb hd ht (kt rfl H locs ls hH hS hL g3)
  · subst e
    exact lv_ifnull hx hb hd (kf (by omega) H locs ls hH hS hL g3)
  · rw [List.map_cons, jv_r B b e]
    exact lv_ifnull hx hb hd (kf (by omega) H locs ls hH hS hL g3)
theorem jx_ifnonnull (hx : p.tables.exec = Jvm.exec) (hb : c.code = cc) {pc tgt : Nat} {L S : List AV} {h : JH} {cu su : Nat} {x off : Int} (hd : decode cc pc = .ok (.ifnonnull off, 3)) (ht : (pc : Int) + off = tgt) (kt : ¬ x = -1 → jXW p l e R s m args below meth c Q D cA B b tgt L S h cu su) (kf : x = -1 → jXW p l e R s m args below meth c Q D cA B b (pc + 3) L S h cu su) : jXW p l e R s m args below meth c Q D cA B b pc L ((2, x) :: S) h cu su := by
  intro H locs ls hH hS hL hs
  obtain ⟨g1, g3⟩ := jms1 hs
  rcases (show x = -1 ∨ x = -2 ∨ 0 ≤ x by have := jok_a.mp g1; omega) with e | e | e
  · subst e
    exact lv_ifnonnullN hx hb hd (kf rfl H locs ls hH hS hL g3)
  · subst e
    exact lv_ifnonnull hx hb hd ht (kt (by omega) H locs ls hH hS hL g3)
  · rw [List.map_cons, jv_r B b e]
    exact lv_ifnonnull hx hb hd ht (kt (by omega) H locs ls hH hS hL g3)
theorem jx_tabIn (hx : p.tables.exec = Jvm.exec) (hb : c.code = cc) {pc tgt len : Nat} {L S : List AV} {h : JH} {cu su : Nat} {x dflt lo hi off : Int} {offs : Array Int} (hd : decode cc pc = .ok (.tableswitch dflt lo hi offs, len)) (h1 : ¬ x < lo) (h2 : ¬ hi < x) (ho : offs[(x - lo).toNat]? = some off) (ht : (pc : Int) + off = tgt) (k : jXW p l e R s m args below meth c Q D cA B b tgt L S h cu su) : jXW p l e R s m args below meth c Q D cA B b pc L ((0, x) :: S) h cu su := by
  intro H locs ls hH hS hL hs
  obtain ⟨g1, g3⟩ := jms1 hs
  have a := jok_i.mp g1
  exact lv_tableIn hx hb hd (by rw [j32 a.1 a.2]; exact h1) (by rw [j32 a.1 a.2]; exact h2) (by rw [j32 a.1 a.2]; exact ho) ht (k H locs ls hH hS hL g3)
theorem jx_tabOut (hx : p.tables.exec = Jvm.exec) (hb : c.code = cc) {pc tgt len : Nat} {L S : List AV} {h : JH} {cu su : Nat} {x dflt lo hi : Int} {offs : Array Int} (hd : decode cc pc = .ok (.tableswitch dflt lo hi offs, len)) (h1 : x < lo ∨ hi < x) (ht : (pc : Int) + dflt = tgt) (k : jXW p l e R s m args below meth c Q D cA B b tgt L S h cu su) : jXW p l e R s m args below meth c Q D cA B b pc L ((0, x) :: S) h cu su := by
  intro H locs ls hH hS hL hs
  obtain ⟨g1, g3⟩ := jms1 hs
  have a := jok_i.mp g1
  exact lv_tableOut hx hb hd (by rw [j32 a.1 a.2]; exact h1) ht (k H locs ls hH hS hL g3)

end JX