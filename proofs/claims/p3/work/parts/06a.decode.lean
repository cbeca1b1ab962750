def jadj : List JE → Bool
  | [] => true
  | e :: r => (match r with
    | [] => true
    | e' :: _ => e'.1 == e.1 + e.2.2.1) && jadj r
/-! an instruction is decoded out of its own bytes: what stands around them doesn't matter (but for the switches) -/
def jAg {α : Type} (b b' : ByteArray) (pc : Nat) (d d' : Decoder α) : Prop := ∀ (k : Nat) (v : α) (k' : Nat), d' b' k = .ok (v, k') → d b (pc + k) = .ok (v, pc + k')
section JAg
variable {b b' : ByteArray} {pc : Nat}
theorem jag_pure {α : Type} (a : α) : jAg b b' pc (pure a) (pure a) := by
  intro k v k' h
  cases h
  rfl
theorem jag_throw {α : Type} (x y : DecodeError) : jAg (α := α) b b' pc (throw x) (throw y) := by
  intro k v k' h
  cases h
theorem jag_bind {α β : Type} {d d' : Decoder α} {f f' : α → Decoder β} (h1 : jAg b b' pc d d') (h2 : ∀ a, jAg b b' pc (f a) (f' a)) : jAg b b' pc (d >>= f) (d' >>= f') := by
  intro k v k' h
  have e1 : (d' >>= f') b' k = (match d' b' k with
    | .error x => .error x
    | .ok (a, p) => f' a b' p) := by
    show (StateT.bind (d' b') (fun a => f' a b')) k = _
    unfold StateT.bind
    cases d' b' k with
    | error x => rfl
    | ok q => rfl
  rw [e1] at h
  have e2 : (d >>= f) b (pc + k) = (match d b (pc + k) with
    | .error x => .error x
    | .ok (a, p) => f a b p) := by
    show (StateT.bind (d b) (fun a => f a b)) (pc + k) = _
    unfold StateT.bind
    cases d b (pc + k) with
    | error x => rfl
    | ok q => rfl
  rw [e2]
  cases hd : d' b' k with
  | error x => rw [hd] at h; cases h
  | ok q =>
    obtain ⟨a, p⟩ := q
    rw [hd] at h
    rw [h1 k a p hd]
    exact h2 a p v k' h
theorem ju1_eq (B : ByteArray) (p : Nat) : (Reader.u1 : Decoder Nat) B p = if hp : p < B.size then .ok ((B[p]'hp).toNat, p + 1) else .error (HasTruncated.truncated p) := by
  unfold Reader.u1
  by_cases hp : p < B.size
  · rw [dif_pos hp]
    simp [StateT.bind, bind, Except.bind, MonadReader.read, readThe, MonadReaderOf.read, ReaderT.read, get, getThe, MonadStateOf.get, StateT.get, liftM, monadLift, MonadLift.monadLift, ReaderT.bind, ReaderT.pure, StateT.pure, Pure.pure, Except.pure, set, MonadStateOf.set, StateT.set, throw, throwThe, MonadExceptOf.throw, StateT.lift, hp]
  · rw [dif_neg hp]
    simp [StateT.bind, bind, Except.bind, MonadReader.read, readThe, MonadReaderOf.read, ReaderT.read, get, getThe, MonadStateOf.get, StateT.get, liftM, monadLift, MonadLift.monadLift, ReaderT.bind, ReaderT.pure, StateT.pure, Pure.pure, Except.pure, set, MonadStateOf.set, StateT.set, throw, throwThe, MonadExceptOf.throw, StateT.lift, hp]
theorem jag_u1 (hH : ∀ k, k < b'.size → b.data.toList[pc + k]? = b'.data.toList[k]?) : jAg b b' pc Reader.u1 Reader.u1 := by
  intro k v k' h
  rw [ju1_eq] at h ⊢
  by_cases hp : k < b'.size
  · rw [dif_pos hp] at h
    have hk := hH k hp
    have hp' : k < b'.data.toList.length := by simpa using hp
    rw [List.getElem?_eq_getElem hp'] at hk
    obtain ⟨hb, he⟩ := List.getElem?_eq_some_iff.mp hk
    have hb' : pc + k < b.size := by simpa using hb
    rw [dif_pos hb']
    injection h with h
    injection h with h1 h2
    subst h1
    subst h2
    congr 2
    have e1 : b[pc + k]'hb' = b.data.toList[pc + k]'hb := by simp [ByteArray.getElem_eq_getElem_data]
    have e2 : b'[k]'hp = b'.data.toList[k]'hp' := by simp [ByteArray.getElem_eq_getElem_data]
    rw [e1, e2, he]
  · rw [dif_neg hp] at h
    cases h
theorem jag_map {α β : Type} {d d' : Decoder α} (f : α → β) (h : jAg b b' pc d d') : jAg b b' pc (f <$> d) (f <$> d') := jag_bind (f := fun a => pure (f a)) (f' := fun a => pure (f a)) h (fun a => jag_pure (f a))
theorem jag_u2 (hH : ∀ k, k < b'.size → b.data.toList[pc + k]? = b'.data.toList[k]?) : jAg b b' pc Reader.u2 Reader.u2 := jag_bind (jag_u1 hH) (fun _ => jag_bind (jag_u1 hH) (fun _ => jag_pure _))
theorem jag_s1 (hH : ∀ k, k < b'.size → b.data.toList[pc + k]? = b'.data.toList[k]?) : jAg b b' pc Reader.s1 Reader.s1 := jag_map _ (jag_u1 hH)
theorem jag_s2 (hH : ∀ k, k < b'.size → b.data.toList[pc + k]? = b'.data.toList[k]?) : jAg b b' pc Reader.s2 Reader.s2 := jag_map _ (jag_u2 hH)
theorem jag_newarray (hH : ∀ k, k < b'.size → b.data.toList[pc + k]? = b'.data.toList[k]?) (q q' : Nat) : jAg b b' pc (Decoder.newarray q) (Decoder.newarray q') := by
  refine jag_bind (jag_u1 hH) (fun op => ?_)
  split <;> first | exact jag_pure _ | exact jag_throw _ _
end JAg
def jops : List Nat := [1, 2, 3, 4, 5, 6, 7, 8, 9, 10, 16, 17, 18, 19, 20, 21, 22, 25, 26, 27, 28, 29, 30, 31, 32, 33, 42, 43, 44, 45, 46, 47, 50, 51, 54, 55, 58, 59, 60, 61, 62, 63, 64, 65, 66, 75, 76, 77, 78, 79, 80, 83, 84, 87, 88, 89, 92, 96, 97, 100, 101, 104, 105, 108, 109, 112, 113, 116, 117, 120, 121, 122, 124, 125, 126, 127, 128, 129, 130, 131, 132, 133, 136, 145, 147, 148, 153, 154, 155, 156, 157, 158, 159, 160, 161, 162, 163, 164, 167, 172, 173, 176, 177, 180, 181, 182, 183, 184, 187, 188, 189, 190, 193, 198, 199]
def jplain (op : Nat) : Bool := jops.contains op
section JAg2
variable {b b' : ByteArray} {pc : Nat}
def jAt {α : Type} (b b' : ByteArray) (pc k : Nat) (d d' : Decoder α) : Prop := ∀ (v : α) (k' : Nat), d' b' k = .ok (v, k') → d b (pc + k) = .ok (v, pc + k')
theorem jat_bind {α β : Type} {k : Nat} {d d' : Decoder α} {f f' : α → Decoder β} (h1 : jAt b b' pc k d d') (h2 : ∀ a p, d' b' k = .ok (a, p) → jAt b b' pc p (f a) (f' a)) : jAt b b' pc k (d >>= f) (d' >>= f') := by
  intro v k' h
  have e1 : (d' >>= f') b' k = (match d' b' k with
    | .error x => .error x
    | .ok (a, p) => f' a b' p) := by
    show (StateT.bind (d' b') (fun a => f' a b')) k = _
    unfold StateT.bind
    cases d' b' k with
    | error x => rfl
    | ok q => rfl
  rw [e1] at h
  have e2 : (d >>= f) b (pc + k) = (match d b (pc + k) with
    | .error x => .error x
    | .ok (a, p) => f a b p) := by
    show (StateT.bind (d b) (fun a => f a b)) (pc + k) = _
    unfold StateT.bind
    cases d b (pc + k) with
    | error x => rfl
    | ok q => rfl
  rw [e2]
  cases hd : d' b' k with
  | error x => rw [hd] at h; cases h
  | ok q =>
    obtain ⟨a, p⟩ := q
    rw [hd] at h
    rw [h1 a p hd]
    exact h2 a p hd v k' h
set_option maxRecDepth 100000 in
set_option maxHeartbeats 8000000 in
theorem jat_instr (hH : ∀ k, k < b'.size → b.data.toList[pc + k]? = b'.data.toList[k]?) (q q' k : Nat) (hop : ∀ a p, (Reader.u1 : Decoder Nat) b' k = .ok (a, p) → jplain a = true) : jAt b b' pc k (Decoder.instr q) (Decoder.instr q') := by
  refine jat_bind (fun v k' h => jag_u1 hH k v k' h) (fun op p hp => ?_)
  have hpl := hop op p hp
  clear hp hop
  simp only [jplain, jops, List.contains_cons, List.contains_nil, Bool.or_false, Bool.or_eq_true, beq_iff_eq] at hpl
  rcases hpl with rfl | rfl | rfl | rfl | rfl | rfl | rfl | rfl | rfl | rfl | rfl | rfl | rfl | rfl | rfl | rfl | rfl | rfl | rfl | rfl | rfl | rfl | rfl | rfl | rfl | rfl | rfl | rfl | rfl | rfl | rfl | rfl | rfl | rfl | rfl | rfl | rfl | rfl | rfl | rfl | rfl | rfl | rfl | rfl | rfl | rfl | rfl | rfl | rfl | rfl | rfl | rfl | rfl | rfl | rfl | rfl | rfl | rfl | rfl | rfl | rfl | rfl | rfl | rfl | rfl | rfl | rfl | rfl | rfl | rfl | rfl | rfl | rfl | rfl | rfl | rfl | rfl | rfl | rfl | rfl | rfl | rfl | rfl | rfl | rfl | rfl | rfl | rfl | rfl | rfl | rfl | rfl | rfl | rfl | rfl | rfl | rfl | rfl | rfl | rfl | rfl | rfl | rfl | rfl | rfl | rfl | rfl | rfl | rfl | rfl | rfl | rfl | rfl | rfl | rfl
  all_goals first
    | exact fun v k' h => jag_pure _ p v k' h
    | exact fun v k' h => jag_bind (jag_u1 hH) (fun _ => jag_pure _) p v k' h
    | exact fun v k' h => jag_bind (jag_s1 hH) (fun _ => jag_pure _) p v k' h
    | exact fun v k' h => jag_bind (jag_u2 hH) (fun _ => jag_pure _) p v k' h
    | exact fun v k' h => jag_bind (jag_s2 hH) (fun _ => jag_pure _) p v k' h
    | exact fun v k' h => jag_bind (jag_u1 hH) (fun _ => jag_bind (jag_s1 hH) (fun _ => jag_pure _)) p v k' h
    | exact fun v k' h => jag_newarray hH _ _ p v k' h
    | exact fun v k' h => jag_throw _ _ p v k' h
end JAg2
