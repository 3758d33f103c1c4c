def ac_fEr (mm m : ac_M) (x r : Nat) : Prop := (∀ k', k' ≠ x → k' ≠ r → (k' < x + 11 ∨ x + 14 < k') → m k' = mm k') ∧ ∀ j, (j < 22 ∨ 25 < j) → m x j = mm x j
theorem ac_fE_fEr {mm m : ac_M} {x r : Nat} (h : ac_fE mm m x) : ac_fEr mm m x r := ⟨fun k' a _ b => h.1 k' a b, h.2⟩
theorem ac_fEr_t {a b c : ac_M} {x r : Nat} (h : ac_fEr a b x r) (h2 : ac_fEr b c x r) : ac_fEr a c x r := ⟨fun k' h0 h1 h3 => (h2.1 k' h0 h1 h3).trans (h.1 k' h0 h1 h3), fun j hj => (h2.2 j hj).trans (h.2 j hj)⟩
theorem ac_RP_fE {mm m : ac_M} {x r : Nat} {T : ac_Tk} (hr : r = x + 3 ∨ r = x + 4) (h : ac_RP mm r T) (hf : ac_fE mm m x) : ac_RP m r T := ac_RP_keep h (hf.1 r (by omega) (by omega))
theorem ac_takeE {y l : List Nat} {i a b : Nat} (ha : y[i]? = some a) (hb : l[i]? = some b) : y.take (i + 1) = l.take (i + 1) ↔ y.take i = l.take i ∧ a = b := by
  rw [List.take_add_one, List.take_add_one, ha, hb]
  have hy := (List.getElem?_eq_some_iff.mp ha).1
  have hl := (List.getElem?_eq_some_iff.mp hb).1
  constructor
  · intro h
    have h2 := List.append_inj h (by rw [List.length_take, List.length_take]; omega)
    refine ⟨h2.1, ?_⟩
    have := h2.2
    simpa using this
  · rintro ⟨h1, rfl⟩; rw [h1]
/-- a task with another colouring -/
def ac_col (T : ac_Tk) (o : Option (List Nat)) : ac_Tk := (T.1, T.2.1, T.2.2.1, T.2.2.2.1, o)
theorem ac_stl_col {T : ac_Tk} (h : ac_rk T.2.2.2.2 (ac_Lt T) = -9) : ac_stl T = ac_col T (ac_Lt T).head? := by unfold ac_stl; rw [if_pos h]; rfl
def ac_slr (l : List Int) (i : Int) : Int := if 0 ≤ i ∧ i < (l.length : Int) then l.getD i.toNat 0 else (l.length : Int)
theorem ac_slr_hit {pre l : List Int} {v i : Int} (h : i = (pre.length : Int)) : ac_slr (pre ++ v :: l) i = v := by
  unfold ac_slr
  rw [if_pos ⟨by omega, by rw [List.length_append, List.length_cons]; omega⟩, h, Int.toNat_natCast, List.getD_eq_getElem?_getD, List.getElem?_append_right (Nat.le_refl _), Nat.sub_self]; rfl
