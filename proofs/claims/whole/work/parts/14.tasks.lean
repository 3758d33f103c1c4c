section AcTk
variable {mm mm' : ac_M} {t n k : Nat} {E : List ac_Eq} {pin : Nat → Int} {col : Option (List Nat)}
theorem ac_RT_keep (h : ac_RT mm t n k E pin col) (h0 : mm' t = mm t) (h1 : mm' (t + 1) = mm (t + 1)) (h2 : mm' (t + 2) = mm (t + 2)) (h3 : mm' (t + 3) = mm (t + 3)) : ac_RT mm' t n k E pin col := by
  unfold ac_RT ac_E at *
  rw [h0, h1, h2, h3]
  exact h
theorem ac_fr_keep {t' : Nat} (hf : ac_fr mm mm' t') (hd : t + 4 ≤ t' ∨ t' + 4 ≤ t) (h : ac_RT mm t n k E pin col) : ac_RT mm' t n k E pin col :=
  ac_RT_keep h (hf _ (by omega)) (hf _ (by omega)) (hf _ (by omega)) (hf _ (by omega))
theorem ac_RT_append {x : ac_Eq} (h : ac_RT mm t n k E pin col) (hL : E.length < 4) (hx : ac_okq x) (h0 : ∀ j, mm' t j = if j = 5 then (E.length : Int) + 1 else mm t j)
    (h1 : ∀ j, mm' (t + 1) j = if j = 4 * E.length + 3 then x.2.2.2 else if j = 4 * E.length + 2 then x.2.2.1 else if j = 4 * E.length + 1 then x.2.1 else if j = 4 * E.length then x.1 else mm (t + 1) j) (h2 : mm' (t + 2) = mm (t + 2)) (h3 : mm' (t + 3) = mm (t + 3)) : ac_RT mm' t n k (E ++ [x]) pin col := by
  obtain ⟨⟨hn, hk, ⟨hE1, hE2⟩, hp0, hpr, hc0⟩, r3, r4, r5, r6, rE, rp, rcb, rc⟩ := h
  refine ⟨⟨hn, hk, ⟨by rw [List.length_append]; simp; omega, fun q hq => ?_⟩, hp0, hpr, hc0⟩, by rw [h0]; exact r3, by rw [h0]; exact r4, by rw [h0, if_pos rfl]; simp, by rw [h0]; exact r6, fun e q hq => ?_, by rw [h2]; exact rp, by rw [h3]; exact rcb, by rw [h3]; exact rc⟩
  · rcases List.mem_append.mp hq with hq | hq
    · exact hE2 q hq
    · rw [List.mem_singleton.mp hq]; exact hx
  · rw [h1, h1, h1, h1]
    by_cases he : e < E.length
    · rw [List.getElem?_append_left he] at hq
      obtain ⟨q1, q2, q3, q4⟩ := rE e q hq
      refine ⟨?_, ?_, ?_, ?_⟩
      · rw [if_neg (by omega), if_neg (by omega), if_neg (by omega), if_neg (by omega)]; exact q1
      · rw [if_neg (by omega), if_neg (by omega), if_neg (by omega), if_neg (by omega)]; exact q2
      · rw [if_neg (by omega), if_neg (by omega), if_neg (by omega), if_neg (by omega)]; exact q3
      · rw [if_neg (by omega), if_neg (by omega), if_neg (by omega), if_neg (by omega)]; exact q4
    · have he2 : e = E.length := by
        have := (List.getElem?_eq_some_iff.mp hq).1
        rw [List.length_append] at this
        simp at this; omega
      subst he2
      rw [List.getElem?_append_right (Nat.le_refl _), Nat.sub_self] at hq
      cases hq
      refine ⟨?_, ?_, ?_, ?_⟩
      · rw [if_neg (by omega), if_neg (by omega), if_neg (by omega), if_pos (by omega)]
      · rw [if_neg (by omega), if_neg (by omega), if_pos (by omega)]
      · rw [if_neg (by omega), if_pos (by omega)]
      · rw [if_pos (by omega)]
/-- another pin -/
def ac_sp (pin : Nat → Int) (x : Nat) (c : Int) : Nat → Int := fun i => if i = x then c else pin i
theorem ac_RT_setPin {x : Nat} {c : Int} (h : ac_RT mm t n k E pin col) (hx : 1 ≤ x ∧ x ≤ n) (hc : -1 ≤ c ∧ c < k) (h0 : mm' t = mm t) (h1 : mm' (t + 1) = mm (t + 1)) (h2 : ∀ j, mm' (t + 2) j = if j = x then c else mm (t + 2) j) (h3 : mm' (t + 3) = mm (t + 3)) : ac_RT mm' t n k E (ac_sp pin x c) col := by
  obtain ⟨⟨hn, hk, hE, hp0, hpr, hc0⟩, r3, r4, r5, r6, rE, rp, rcb, rc⟩ := h
  refine ⟨⟨hn, hk, hE, fun i hi => ?_, fun i => ?_, hc0⟩, by rw [h0]; exact r3, by rw [h0]; exact r4, by rw [h0]; exact r5, by rw [h0]; exact r6, fun e q hq => by rw [h1]; exact rE e q hq, fun i i1 i2 => ?_, by rw [h3]; exact rcb, by rw [h3]; exact rc⟩
  · unfold ac_sp; rw [if_neg (by omega)]; exact hp0 i hi
  · unfold ac_sp; split
    · exact hc
    · exact hpr i
  · rw [h2]; unfold ac_sp; split
    · rfl
    · exact rp i i1 i2
theorem ac_RT_unpin (h : ac_RT mm t n k E pin col) (h0 : mm' t = mm t) (h1 : mm' (t + 1) = mm (t + 1)) (h2 : ∀ j, j < 11 → mm' (t + 2) j = -1) (h3 : mm' (t + 3) = mm (t + 3)) : ac_RT mm' t n k E (fun _ => -1) col := by
  obtain ⟨⟨hn, hk, hE, hp0, hpr, hc0⟩, r3, r4, r5, r6, rE, rp, rcb, rc⟩ := h
  exact ⟨⟨hn, hk, hE, fun _ _ => rfl, fun i => (show (-1 : Int) ≤ -1 ∧ (-1 : Int) < (k : Int) by omega), hc0⟩, by rw [h0]; exact r3, by rw [h0]; exact r4, by rw [h0]; exact r5, by rw [h0]; exact r6, fun e q hq => by rw [h1]; exact rE e q hq, fun i i1 i2 => h2 i (by omega), by rw [h3]; exact rcb, by rw [h3]; exact rc⟩
theorem ac_RT_start (hn : 1 ≤ n ∧ n ≤ 10) (hk : 2 ≤ k ∧ k ≤ 3) (a3 : mm t 3 = (n : Int)) (a4 : mm t 4 = (k : Int)) (a5 : mm t 5 = 0) (a6 : mm t 6 = 0) (h2 : ∀ j, j < 11 → mm (t + 2) j = -1) (h3 : ∀ j, j < 3 → mm (t + 3) j = 0) : ac_RT mm t n k [] (fun _ => -1) none :=
  ⟨⟨hn, hk, ⟨by simp, fun q hq => by simp at hq⟩, fun _ _ => rfl, fun i => (show (-1 : Int) ≤ -1 ∧ (-1 : Int) < (k : Int) by omega), fun l h => by cases h⟩, a3, a4, a5, a6, fun e q hq => by simp at hq, fun i i1 i2 => h2 i (by omega), fun c hc => by rw [h3 c hc]; omega, fun l h => by cases h⟩
theorem ac_RT_copy {o : Nat} (h : ac_RT mm o n k E pin col) (h0 : ∀ j, 3 ≤ j → j < 7 → mm' t j = mm o j) (h1 : ∀ j, j < 16 → mm' (t + 1) j = mm (o + 1) j) (h2 : ∀ j, j < 11 → mm' (t + 2) j = mm (o + 2) j) (h3 : ∀ j, j < 3 → mm' (t + 3) j = mm (o + 3) j) : ac_RT mm' t n k E pin col := by
  obtain ⟨⟨hn, hk, ⟨hE1, hE2⟩, hp0, hpr, hc0⟩, r3, r4, r5, r6, rE, rp, rcb, rc⟩ := h
  refine ⟨⟨hn, hk, ⟨hE1, hE2⟩, hp0, hpr, hc0⟩, by rw [h0 3 (by omega) (by omega)]; exact r3, by rw [h0 4 (by omega) (by omega)]; exact r4, by rw [h0 5 (by omega) (by omega)]; exact r5, by rw [h0 6 (by omega) (by omega)]; exact r6, fun e q hq => ?_, fun i i1 i2 => by rw [h2 i (by omega)]; exact rp i i1 i2, fun c hc => by rw [h3 c hc]; exact rcb c hc, fun l hl c hc => by rw [h3 c hc]; exact rc l hl c hc⟩
  have he := (List.getElem?_eq_some_iff.mp hq).1
  rw [h1 _ (by omega), h1 _ (by omega), h1 _ (by omega), h1 _ (by omega)]
  exact rE e q hq
/-- N changed: pins beyond it go, the colouring too if N is another -/
def ac_cut (pin : Nat → Int) (n : Nat) : Nat → Int := fun i => if i ≤ n then pin i else -1
theorem ac_RT_resize {n' : Nat} (h : ac_RT mm t n k E pin col) (hn' : 1 ≤ n' ∧ n' ≤ 10) (hp : ∀ i, n' < i → pin i = -1) (h0 : ∀ j, mm' t j = if j = 3 then (n' : Int) else if j = 6 then (if col.isSome ∧ n' = n then 1 else 0) else mm t j) (h1 : mm' (t + 1) = mm (t + 1)) (h2 : mm' (t + 2) = mm (t + 2)) (h3 : mm' (t + 3) = mm (t + 3)) : ac_RT mm' t n' k E pin (if n' = n then col else none) := by
  obtain ⟨⟨hn, hk, hE, hp0, hpr, hc0⟩, r3, r4, r5, r6, rE, rp, rcb, rc⟩ := h
  refine ⟨⟨hn', hk, hE, fun i hi => hi.elim (fun hi => hp0 i (Or.inl hi)) (hp i), hpr, fun l hl => ?_⟩, by rw [h0]; rfl, by rw [h0]; exact r4, by rw [h0]; exact r5, ?_, fun e q hq => by rw [h1]; exact rE e q hq, by rw [h2]; exact rp, by rw [h3]; exact rcb, fun l hl => ?_⟩
  · by_cases hnn : n' = n
    · rw [if_pos hnn] at hl; subst hnn; exact hc0 l hl
    · rw [if_neg hnn] at hl; cases hl
  · rw [h0, if_neg (by omega), if_pos rfl]
    by_cases hnn : n' = n
    · rw [if_pos hnn]; simp [hnn]
    · rw [if_neg hnn]; simp [hnn]
  · rw [h3]
    by_cases hnn : n' = n
    · rw [if_pos hnn] at hl; exact rc l hl
    · rw [if_neg hnn] at hl; cases hl
theorem ac_RT_colour {col' : Option (List Nat)} (h : ac_RT mm t n k E pin col) (hl : ∀ l, col' = some l → l.length = n ∧ ∀ c ∈ l, c < k) (h0 : ∀ j, j ≠ 6 → mm' t j = mm t j) (h6 : mm' t 6 = if col'.isSome then 1 else 0) (h1 : mm' (t + 1) = mm (t + 1)) (h2 : mm' (t + 2) = mm (t + 2)) (h3 : ∀ c, c < 3 → 0 ≤ mm' (t + 3) c ∧ mm' (t + 3) c < 2048) (h4 : ∀ l, col' = some l → ∀ c, c < 3 → mm' (t + 3) c = (ac_set l c : Int)) : ac_RT mm' t n k E pin col' := by
  obtain ⟨⟨hn, hk, hE, hp0, hpr, hc0⟩, r3, r4, r5, r6, rE, rp, rcb, rc⟩ := h
  exact ⟨⟨hn, hk, hE, hp0, hpr, hl⟩, by rw [h0 3 (by omega)]; exact r3, by rw [h0 4 (by omega)]; exact r4, by rw [h0 5 (by omega)]; exact r5, h6, fun e q hq => by rw [h1]; exact rE e q hq, by rw [h2]; exact rp, h3, h4⟩
end AcTk
/-- how many pins there are -/
def ac_pins (pin : Nat → Int) : Nat → Nat
  | 0 => 0
  | n + 1 => ac_pins pin n + (if pin (n + 1) = -1 then 0 else 1)
theorem ac_pins_le (pin : Nat → Int) (n : Nat) : ac_pins pin n ≤ n := by
  induction n with
  | zero => exact Nat.le_refl _
  | succ n ih => unfold ac_pins; split <;> omega
/-- the solutions that are left in a row of x, with f numbers y to come; and with f numbers x -/
def ac_ry (q : ac_Eq) (n x : Nat) : Nat → List Int
  | 0 => []
  | f + 1 => (if 0 < ac_th q x ((n - f : Nat) : Int) n then [10000 * (x : Int) + 100 * ((n - f : Nat) : Int) + ac_th q x ((n - f : Nat) : Int) n] else []) ++ ac_ry q n x f
def ac_rx (q : ac_Eq) (n : Nat) : Nat → List Int
  | 0 => []
  | f + 1 => ac_ry q n (n - f) n ++ ac_rx q n f
def ac_sols (q : ac_Eq) (n : Nat) : List Int := ac_rx q n n
def ac_nth (l : List Int) (i : Int) : Int := if 0 ≤ i then (l[i.toNat]?).getD (-9) else -9
theorem ac_tmodin {a b c : Int} (h1 : -40 ≤ a) (h2 : a ≤ 40) (h3 : -40 ≤ b) (h4 : b ≤ 40) : ac_in ((a + b).tmod c) := by
  have h5 : ((a + b).tmod c).natAbs ≤ (a + b).natAbs := by
    rw [Int.natAbs_tmod]; exact Nat.mod_le _ _
  exact ⟨by omega, by omega⟩
def ac_regd (q : ac_Eq) : Decidable (ac_reg q) := by unfold ac_reg; infer_instance
theorem ac_nth_s {a : Int} {l : List Int} {i : Int} (h : i ≠ 0) : ac_nth (a :: l) i = ac_nth l (i - 1) := by
  unfold ac_nth
  by_cases h0 : 0 ≤ i
  · rw [if_pos h0, if_pos (by omega), show i.toNat = (i - 1).toNat + 1 by omega]; rfl
  · rw [if_neg h0, if_neg (by omega)]
theorem ac_nth_nil (i : Int) : ac_nth [] i = -9 := by
  unfold ac_nth; split <;> rfl
