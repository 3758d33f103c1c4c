/-- a page holds a task -/
def ac_RP (mm : ac_M) (r : Nat) (T : ac_Tk) : Prop := ac_okK T.1 T.2.1 T.2.2.1 T.2.2.2.1 T.2.2.2.2 ∧ mm r 0 = (T.1 : Int) ∧ mm r 1 = (T.2.2.1.length : Int) ∧ ac_E mm r 2 T.2.2.1 ∧ (∀ i : Nat, 1 ≤ i → i ≤ 10 → mm r (17 + i) = T.2.2.2.1 i + 1) ∧ mm r 28 = ac_b (T.2.2.2.2.isSome = true) ∧ (∀ i, i < 10 → 0 ≤ mm r (29 + i) ∧ mm r (29 + i) ≤ 2) ∧ ∀ l, T.2.2.2.2 = some l → ∀ i c : Nat, l[i]? = some c → mm r (29 + i) = (c : Int)
theorem ac_RP_keep {mm m : ac_M} {r : Nat} {T : ac_Tk} (h : ac_RP mm r T) (hf : m r = mm r) : ac_RP m r T := by
  unfold ac_RP ac_E at *; rw [hf]; exact h
theorem ac_iteA {α : Type} {c : Prop} {_ : Decidable c} {a b : α} (h : c) : (if c then a else b) = a := if_pos h
theorem ac_eqnilcat {α : Type} (l : List α) : l = [] ∨ ∃ l' a, l = l' ++ [a] := by
  rcases List.eq_nil_or_concat l with h | ⟨l', a, h⟩
  · exact Or.inl h
  · exact Or.inr ⟨l', a, by simpa using h⟩
