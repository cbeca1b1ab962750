theorem jdecode_eq (b : ByteArray) (pc : Nat) : decode b pc = (match Decoder.instr pc b pc with
    | Except.error x => Except.error x
    | Except.ok q => Except.ok (q.1, q.2 - pc)) := by
  show Except.bind (Decoder.instr pc b pc) _ = _
  cases Decoder.instr pc b pc with
  | error x => rfl
  | ok q => rfl
def jslice (l : List UInt8) (n : Nat) : ByteArray := ⟨(l.take n).toArray⟩
def jisw (i : Instr) : Bool := match i with
  | .tableswitch _ _ _ _ => true
  | _ => false
def jchkD (bytes : ByteArray) (pc : Nat) (e : JE) : Bool := match decode bytes pc with
  | .ok (i, n) => decide (i = e.2.1) && n == e.2.2.1
  | .error _ => false
theorem jchkD_ok {bytes : ByteArray} {pc : Nat} {e : JE} (h : jchkD bytes pc e = true) : decode bytes pc = .ok (e.2.1, e.2.2.1) := by
  unfold jchkD at h
  cases hx : decode bytes pc with
  | error x => rw [hx] at h; cases h
  | ok x =>
    obtain ⟨i, n⟩ := x
    rw [hx] at h
    simp only [Bool.and_eq_true, decide_eq_true_eq, beq_iff_eq] at h
    rw [h.1, h.2]
def jfst (l : List UInt8) : Bool := match l with
  | x :: _ => jplain x.toNat
  | [] => false
/-- the bytes from a place on, beside the code from there on -/
def jwalk (bytes : ByteArray) : List JE → List UInt8 → Bool
  | [], _ => true
  | e :: r, l => (if jisw e.2.1 = true then jchkD bytes e.1 e else jchkD (jslice l e.2.2.1) 0 e && jfst l && e.2.2.1 != 0) && jwalk bytes r (l.drop e.2.2.1)
theorem jdec_at {bytes : ByteArray} {pc : Nat} {l : List UInt8} {e : JE} (hl : l = bytes.data.toList.drop pc) (h : jchkD (jslice l e.2.2.1) 0 e = true) (hf : jfst l = true) (hn : e.2.2.1 ≠ 0) : decode bytes pc = .ok (e.2.1, e.2.2.1) := by
  have h1 := jchkD_ok h
  have hH : ∀ k, k < (jslice l e.2.2.1).size → bytes.data.toList[pc + k]? = (jslice l e.2.2.1).data.toList[k]? := by
    intro k hk
    have hk2 : k < (l.take e.2.2.1).length := by
      have : (jslice l e.2.2.1).size = (l.take e.2.2.1).length := by
        show (jslice l e.2.2.1).data.size = _
        simp [jslice]
      rw [this] at hk
      exact hk
    show _ = (l.take e.2.2.1).toArray.toList[k]?
    rw [List.toList_toArray, List.getElem?_take_of_lt (by rw [List.length_take] at hk2; omega), hl, List.getElem?_drop]
  rw [jdecode_eq] at h1 ⊢
  have hk := jat_instr hH pc 0 0 (fun a p hu => by
    rw [ju1_eq] at hu
    split at hu
    · rename_i hs
      injection hu with hu
      injection hu with hu1 hu2
      subst hu1
      match l, hf with
      | x :: r, hf =>
        have : (jslice (x :: r) e.2.2.1)[0] = x := by
          obtain ⟨n', hn'⟩ := Nat.exists_eq_succ_of_ne_zero hn
          simp [jslice, ByteArray.getElem_eq_getElem_data, hn']
        rw [this]
        exact hf
    · cases hu)
  cases hi : Decoder.instr 0 (jslice l e.2.2.1) 0 with
  | error x =>
    rw [hi] at h1
    cases h1
  | ok q =>
    obtain ⟨i, nx⟩ := q
    rw [hi] at h1
    have h3 := hk i nx hi
    rw [Nat.add_zero] at h3
    rw [h3]
    injection h1 with h2
    injection h2 with h4 h5
    show Except.ok (i, pc + nx - pc) = Except.ok (e.2.1, e.2.2.1)
    simp only at h4 h5
    rw [← h4, ← h5]
    congr 2
    omega
theorem jwalk_ok {bytes : ByteArray} : ∀ (cd : List JE) (l : List UInt8), jwalk bytes cd l = true → l = bytes.data.toList.drop (jpc cd) → jadj cd = true → ∀ e ∈ cd, decode bytes e.1 = .ok (e.2.1, e.2.2.1) := by
  intro cd
  induction cd with
  | nil => intro l _ _ _ e he; cases he
  | cons x r ih =>
    intro l hw hl ha e he
    simp only [jwalk, Bool.and_eq_true] at hw
    have hl' : l = bytes.data.toList.drop x.1 := hl
    have ha' : jadj r = true := by
      simp only [jadj, Bool.and_eq_true] at ha
      exact ha.2
    rcases List.mem_cons.mp he with e1 | e1
    · subst e1
      have h1 := hw.1
      split at h1
      · exact jchkD_ok h1
      · simp only [Bool.and_eq_true, bne_iff_ne] at h1
        exact jdec_at hl' h1.1.1 h1.1.2 h1.2
    · refine ih (l.drop x.2.2.1) hw.2 ?_ ha' e e1
      match r, e1 with
      | y :: r', _ =>
        simp only [jadj, Bool.and_eq_true, beq_iff_eq] at ha
        show _ = bytes.data.toList.drop y.1
        rw [hl', List.drop_drop, ha.1]
