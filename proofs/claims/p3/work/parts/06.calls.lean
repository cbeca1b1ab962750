/-! methods, calls, and what the tables say of each instruction -/
abbrev JM : Type := Nat × Nat
def jexp : List AV → List AV
  | [] => []
  | v :: r => if v.1 = 1 then v :: (9, 0) :: jexp r else v :: jexp r
def jentry (a : List AV) (n : Nat) : List AV := jexp a ++ List.replicate (n - (jexp a).length) (9, 0)
def jwid (S : List AV) : Nat := (S.map fun v => if v.1 = 1 then 2 else 1).sum
/-- the place of a kind of feeling in a call's list -/
def jpos (t : Nat) : Nat := if t = 0 then 0 else if t = 1 then 1 else if t = 2 then 2 else if t = 3 then 3 else if t = 6 then 4 else 5
/-- which method is called, with what, and what stays on the stack -/
def jcall : List JE → List AV → JH → Option (Nat × List AV × List AV)
  | (pc, i, n, ps, z) :: K, S, h => match i with
    | .invokestatic _ => if (jhd ps = 0 ∨ jhd ps = 2) ∧ ps.getD 1 0 ≤ S.length ∧ jwid (S.drop (ps.getD 1 0)) ≤ 8 then some (ps.getD 2 0, (S.take (ps.getD 1 0)).reverse, S.drop (ps.getD 1 0)) else none
    | .invokespecial _ => (match S[ps.getD 1 0]? with
      | some v => if (jhd ps = 1 ∨ jhd ps = 3) ∧ v.1 = 2 ∧ 0 ≤ v.2 ∧ jwid (S.drop (ps.getD 1 0 + 1)) ≤ 8 then some (ps.getD 2 0, v :: (S.take (ps.getD 1 0)).reverse, S.drop (ps.getD 1 0 + 1)) else if jhd ps = 4 ∧ v.1 = 2 ∧ 0 ≤ v.2 ∧ v.2.toNat < h.1 ∧ jfam 0 (h.2.1 v.2.toNat).1 = true ∧ jwid (S.drop (ps.getD 1 0 + 1)) ≤ 8 then some (ps.getD 2 0, v :: (S.take (ps.getD 1 0)).reverse, S.drop (ps.getD 1 0 + 1)) else none
      | none => none)
    | .invokevirtual _ => (match S[ps.getD 1 0]? with
      | some v => if jhd ps = 5 ∧ v.1 = 2 ∧ 0 ≤ v.2 ∧ v.2.toNat < h.1 ∧ (h.2.1 v.2.toNat).1 = ps.getD 3 0 ∧ jwid (S.drop (ps.getD 1 0 + 1)) ≤ 8 then some (ps.getD 2 0, v :: (S.take (ps.getD 1 0)).reverse, S.drop (ps.getD 1 0 + 1)) else if jhd ps = 9 ∧ v.1 = 2 ∧ 0 ≤ v.2 ∧ v.2.toNat < h.1 ∧ jfam 0 (h.2.1 v.2.toNat).1 = true ∧ ps.getD (2 + jpos (h.2.1 v.2.toNat).1) 0 ≠ 9999 ∧ jwid (S.drop (ps.getD 1 0 + 1)) ≤ 8 then some (ps.getD (2 + jpos (h.2.1 v.2.toNat).1) 0, v :: (S.take (ps.getD 1 0)).reverse, S.drop (ps.getD 1 0 + 1)) else none
      | none => none)
    | _ => none
  | [], _, _ => none
/-- what is made stays within bounds -/
def jlim (mc ms : Nat) (st st' : JS) : Prop := (st'.2.2.2.2.1 = st.2.2.2.2.1 ∧ st'.2.2.2.2.2 = st.2.2.2.2.2) ∨ (st'.2.2.2.2.1 ≤ mc ∧ st'.2.2.2.2.2 ≤ ms)
/-- the simple machine's runs: from st it comes to a return with Q; calls by what 'ok' says of them -/
def jEv (ok : Nat → Nat → Nat → List AV → JH → (Option AV → JH → Prop) → Prop) (xl : Option Nat) (xs : Nat → Int) (cd : List JE) (mc ms : Nat) (Q : Option AV → JH → Prop) (st : JS) : Prop :=
  ∀ X : JS → Prop,
    (∀ st st' : JS, jstep xl xs cd st = some st' → jlim mc ms st st' → X st' → X st) →
    (∀ (K : List JE) (L S : List AV) (h : JH) (cu su : Nat) (v : Option AV), jret K S = some v → cu ≤ mc → su ≤ ms → Q v h → X (K, L, S, h, cu, su)) →
    (∀ (K : List JE) (L S : List AV) (h : JH) (cu su k : Nat) (as S' : List AV) (a b : Nat) (Q' : Option AV → JH → Prop), jcall K S h = some (k, as, S') → ok a b k as h Q' → cu + a ≤ mc → su + b ≤ ms →
      (∀ (v : Option AV) (h' : JH), Q' v h' → X (K.tail, L, v.toList ++ S', h', cu + a, su + b)) → X (K, L, S, h, cu, su)) → X st
