/-! the search of the reference: one way after the other -/
def ac_nx (A : List Nat → Nat → Bool) (l : List Nat) : Nat → Nat → Option Nat
  | 0, _ => none
  | f + 1, c => if A l c = true then some c else ac_nx A l f (c + 1)
def ac_gr (A : List Nat → Nat → Bool) (f : Nat) (l : List Nat) : Nat → Nat → List (List Nat)
  | 0, _ => []
  | r + 1, c => (if A l c = true then ac_ext A f (l ++ [c]) else []) ++ ac_gr A f l r (c + 1)
theorem ac_ext_gr (A : List Nat → Nat → Bool) (f : Nat) (l : List Nat) : ac_ext A (f + 1) l = ac_gr A f l 3 0 := by
  rw [ac_ext, ac_gr, ac_gr, ac_gr, ac_gr, List.append_nil, List.append_assoc]
theorem ac_gr_no {A : List Nat → Nat → Bool} {f : Nat} {l : List Nat} : ∀ (r c : Nat), (∀ d, c ≤ d → ¬ A l d = true) → ac_gr A f l r c = []
  | 0, c, _ => rfl
  | r + 1, c, h => by rw [ac_gr, if_neg (h c (Nat.le_refl _)), List.nil_append, ac_gr_no r (c + 1) (fun d hd => h d (by omega))]
theorem ac_nx_some {A : List Nat → Nat → Bool} {f : Nat} {l : List Nat} {k : Nat} (hk : k ≤ 3) : ∀ (r c c' : Nat), c + r = k → ac_nx A l r c = some c' → (c ≤ c' ∧ c' < k) ∧ A l c' = true ∧ ac_gr A f l (3 - c) c = ac_ext A f (l ++ [c']) ++ ac_gr A f l (3 - (c' + 1)) (c' + 1)
  | 0, c, c', hc, h => by cases h
  | r + 1, c, c', hc, h => by
    rw [ac_nx] at h
    rw [show 3 - c = 3 - (c + 1) + 1 by omega, ac_gr]
    by_cases hA : A l c = true
    · rw [if_pos hA] at h
      cases h
      exact ⟨by omega, hA, by rw [if_pos hA]⟩
    · rw [if_neg hA] at h
      rw [if_neg hA, List.nil_append]
      obtain ⟨h1, h2, h3⟩ := ac_nx_some (f := f) hk r (c + 1) c' (by omega) h
      exact ⟨by omega, h2, h3⟩
theorem ac_nx_none {A : List Nat → Nat → Bool} {l : List Nat} {k : Nat} : ∀ (r c : Nat), c + r = k → ac_nx A l r c = none → ∀ d, c ≤ d → d < k → ¬ A l d = true
  | 0, c, hc, h, d, h1, h2 => by omega
  | r + 1, c, hc, h, d, h1, h2 => by
    rw [ac_nx] at h
    by_cases hA : A l c = true
    · rw [if_pos hA] at h; cases h
    · rw [if_neg hA] at h
      by_cases hd : d = c
      · rw [hd]; exact hA
      · exact ac_nx_none r (c + 1) (by omega) h d (by omega) h2
def ac_rs (A : List Nat → Nat → Bool) (n : Nat) : List Nat → List (List Nat)
  | [] => []
  | c :: s => ac_gr A (n - (s.length + 1)) s.reverse (3 - (c + 1)) (c + 1) ++ ac_rs A n s
/-- the colourings behind those that begin with l -/
def ac_rest (A : List Nat → Nat → Bool) (n : Nat) (l : List Nat) : List (List Nat) := ac_rs A n l.reverse
theorem ac_rest_nil (A : List Nat → Nat → Bool) (n : Nat) : ac_rest A n [] = [] := rfl
theorem ac_rest_snoc (A : List Nat → Nat → Bool) (n : Nat) (l : List Nat) (c : Nat) : ac_rest A n (l ++ [c]) = ac_gr A (n - (l.length + 1)) l (3 - (c + 1)) (c + 1) ++ ac_rest A n l := by
  unfold ac_rest
  rw [List.reverse_append, List.reverse_singleton, List.singleton_append, ac_rs, List.length_reverse, List.reverse_reverse]
def ac_muR (n : Nat) : List Nat → Nat
  | [] => 0
  | c :: s => (3 - c) * 5 ^ (n - (s.length + 1)) + ac_muR n s
def ac_mu (n : Nat) (l : List Nat) : Nat := ac_muR n l.reverse
theorem ac_mu_snoc (n : Nat) (l : List Nat) (c : Nat) : ac_mu n (l ++ [c]) = (3 - c) * 5 ^ (n - (l.length + 1)) + ac_mu n l := by
  unfold ac_mu
  rw [List.reverse_append, List.reverse_singleton, List.singleton_append, ac_muR, List.length_reverse]
/-- the measure of a place in the search: l, and the colour c - 1 for the next number -/
def ac_mp (n : Nat) (l : List Nat) (c : Nat) : Nat := (4 - c) * 5 ^ (n - (l.length + 1)) + ac_mu n l
theorem ac_mp_up (n : Nat) (l : List Nat) (c b : Nat) (hb : b ≤ 3) : ac_mp n l (c + 1) < ac_mp n (l ++ [c]) b := by
  unfold ac_mp
  rw [ac_mu_snoc, show 4 - (c + 1) = 3 - c by omega]
  have := Nat.two_pow_pos 0
  have h5 : 0 < 5 ^ (n - ((l ++ [c]).length + 1)) := Nat.pow_pos (by decide)
  have h6 : 0 < (4 - b) * 5 ^ (n - ((l ++ [c]).length + 1)) := Nat.mul_pos (by omega) h5
  omega
theorem ac_mp_dn (n : Nat) (l : List Nat) (c c' : Nat) (hc : c ≤ c') (hc3 : c' ≤ 2) (hn : l.length + 1 < n) : ac_mp n (l ++ [c']) 0 < ac_mp n l c := by
  unfold ac_mp
  rw [ac_mu_snoc, List.length_append, List.length_singleton]
  have e : 5 ^ (n - (l.length + 1)) = 5 * 5 ^ (n - (l.length + 1 + 1)) := by
    rw [show n - (l.length + 1) = n - (l.length + 1 + 1) + 1 by omega, Nat.pow_succ, Nat.mul_comm]
  have h5 : 0 < 5 ^ (n - (l.length + 1 + 1)) := Nat.pow_pos (by decide)
  rw [e]
  generalize 5 ^ (n - (l.length + 1 + 1)) = z at *
  have h1 : (4 - c) * (5 * z) ≥ (4 - c') * (5 * z) := Nat.mul_le_mul_right _ (by omega)
  have h2 : (4 - c') * (5 * z) = (3 - c') * (5 * z) + 5 * z := by
    rw [show 4 - c' = (3 - c') + 1 by omega, Nat.add_mul, Nat.one_mul]
  omega
/-- what the search rests on -/
def ac_EN (mm : ac_M) (x S k n : Nat) (E : List ac_Eq) (pin : Nat → Int) : Prop := ((1 ≤ n ∧ n ≤ 10) ∧ (2 ≤ k ∧ k ≤ 3) ∧ ac_okE E ∧ ∀ i, -1 ≤ pin i ∧ pin i < k) ∧ mm x 4 = (k : Int) ∧ mm x 22 = (n : Int) ∧ ac_ST mm x S E ∧ ∃ r : Nat, mm x 25 = (r : Int) ∧ (r = x + 3 ∨ r = x + 4) ∧ ((mm x 23 = 0 ∧ pin = fun _ => -1) ∨ (mm x 23 = 1 ∧ ∀ i, 1 ≤ i → i ≤ 10 → mm r (17 + i) = pin i + 1)) ∧ ∀ i, 1 ≤ i → i ≤ 10 → 0 ≤ mm r (17 + i) ∧ mm r (17 + i) ≤ 3
theorem ac_EN_keep {mm m : ac_M} {x S k n : Nat} {E : List ac_Eq} {pin : Nat → Int} (h : ac_EN mm x S k n E pin) (h0 : ∀ j, j ≠ 24 → m x j = mm x j) (h1 : m (x + 11) = mm (x + 11)) (h2 : m (x + 12) = mm (x + 12)) (h3 : m (x + 3) = mm (x + 3)) (h4 : m (x + 4) = mm (x + 4)) : ac_EN m x S k n E pin := by
  obtain ⟨a, b, c, ⟨d1, d2⟩, r, e1, e2, e3, e4⟩ := h
  have er : m r = mm r := by rcases e2 with e | e <;> rw [e] <;> assumption
  exact ⟨a, by rw [h0 4 (by decide)]; exact b, by rw [h0 22 (by decide)]; exact c, ⟨by rw [h2]; exact d1, by rw [h1]; exact d2⟩, r, by rw [h0 25 (by decide)]; exact e1, e2, by rw [h0 23 (by decide), er]; exact e3, by rw [er]; exact e4⟩
/-- colours of l, none broken -/
def ac_vp (S k : Nat) (E : List ac_Eq) (l : List Nat) : Prop := (∀ c ∈ l, c < k) ∧ ∀ c, c < 3 → ac_br E (ac_set l c) &&& S = 0
theorem ac_vp_nil {S k : Nat} {E : List ac_Eq} : ac_vp S k E [] := ⟨fun c h => (by cases h), fun c _ => by rw [ac_br_nil, Nat.zero_and]⟩
theorem ac_vp_snoc {S k : Nat} {E : List ac_Eq} {pin : Nat → Int} {l : List Nat} {c : Nat} (h : ac_vp S k E l) (hA : ac_mayS S k E pin l c = true) : ac_vp S k E (l ++ [c]) := by
  obtain ⟨h1, h2, h3⟩ := ac_mayS_iff.mp hA
  refine ⟨fun d hd => ?_, fun d hd => ?_⟩
  · rcases List.mem_append.mp hd with hd | hd
    · exact h.1 d hd
    · rw [List.mem_singleton.mp hd]; exact h1
  · by_cases hdc : c = d
    · subst hdc; exact h3
    · rw [ac_set_snoc, if_neg hdc]; exact h.2 d hd
theorem ac_vp_pre {S k : Nat} {E : List ac_Eq} {l : List Nat} {c : Nat} (h : ac_vp S k E (l ++ [c])) : ac_vp S k E l :=
  ⟨fun d hd => h.1 d (List.mem_append_left _ hd), fun d hd => ac_and_mono (ac_br_mono (ac_set_sub_app l [c] d)) (h.2 d hd)⟩
/-- the search's own cells alone have changed -/
def ac_fE (mm m : ac_M) (x : Nat) : Prop := (∀ k', k' ≠ x → (k' < x + 11 ∨ x + 14 < k') → m k' = mm k') ∧ ∀ j, (j < 22 ∨ 25 < j) → m x j = mm x j
theorem ac_fE_r (mm : ac_M) (x : Nat) : ac_fE mm mm x := ⟨fun _ _ _ => rfl, fun _ _ => rfl⟩
theorem ac_fE_t {a b c : ac_M} {x : Nat} (h : ac_fE a b x) (h2 : ac_fE b c x) : ac_fE a c x := ⟨fun k' h0 h1 => (h2.1 k' h0 h1).trans (h.1 k' h0 h1), fun j hj => (h2.2 j hj).trans (h.2 j hj)⟩
/-- the row of ways holds a colouring -/
def ac_wy (mm : ac_M) (x : Nat) (l : List Nat) : Prop := ∀ i c : Nat, l[i]? = some c → mm (x + 13) (i + 1) = (c : Int)
/-- where the search stands: rem is still to come -/
def ac_PO (mm : ac_M) (x S k n : Nat) (E : List ac_Eq) (pin : Nat → Int) (rem : List (List Nat)) : Prop := (mm x 24 = 0 ∧ ac_cl mm (x + 14) [] ∧ rem = ac_ext (ac_mayS S k E pin) n []) ∨ (mm x 24 = 1 ∧ ∃ l, l.length = n ∧ ac_wy mm x l ∧ ac_cl mm (x + 14) l ∧ ac_vp S k E l ∧ rem = ac_rest (ac_mayS S k E pin) n l)
