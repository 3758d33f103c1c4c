/-! dead ends -/
def ac_dr (A : List Nat → Nat → Bool) (f : Nat) (l : List Nat) : Nat → Nat → Nat
  | 0, _ => 0
  | r + 1, c => (if A l c = true then ac_dead A f (l ++ [c]) else 0) + ac_dr A f l r (c + 1)
def ac_dan (A : List Nat → Nat → Bool) (l : List Nat) : Nat → Nat → Bool
  | 0, _ => false
  | r + 1, c => A l c || ac_dan A l r (c + 1)
theorem ac_dead_dr (A : List Nat → Nat → Bool) (f : Nat) (l : List Nat) : ac_dead A (f + 1) l = ac_dr A f l 3 0 + (if ac_dan A l 3 0 = true then 0 else 1) := by
  rw [ac_dead]
  simp only [ac_dr, ac_dan, Bool.or_false, Nat.add_zero, Nat.zero_add, Bool.or_eq_true, Nat.add_assoc]
theorem ac_dr_no {A : List Nat → Nat → Bool} {f : Nat} {l : List Nat} : ∀ (r c : Nat), (∀ d, c ≤ d → ¬ A l d = true) → ac_dr A f l r c = 0 ∧ ac_dan A l r c = false
  | 0, c, _ => ⟨rfl, rfl⟩
  | r + 1, c, h => by
    obtain ⟨h1, h2⟩ := ac_dr_no (f := f) r (c + 1) (fun d hd => h d (by omega))
    exact ⟨by rw [ac_dr, if_neg (h c (Nat.le_refl _)), h1], by rw [ac_dan, Bool.eq_false_iff.mpr (h c (Nat.le_refl _)), h2]; rfl⟩
theorem ac_dr_some {A : List Nat → Nat → Bool} {f : Nat} {l : List Nat} {k : Nat} (hk : k ≤ 3) : ∀ (r c z : Nat), c + r = k → ac_nx A l r c = some z → ac_dr A f l (3 - c) c = ac_dead A f (l ++ [z]) + ac_dr A f l (3 - (z + 1)) (z + 1) ∧ ac_dan A l (3 - c) c = true
  | 0, c, z, hc, h => by cases h
  | r + 1, c, z, hc, h => by
    rw [ac_nx] at h
    rw [show 3 - c = 3 - (c + 1) + 1 by omega, ac_dr, ac_dn]
    by_cases hA : A l c = true
    · rw [if_pos hA] at h
      cases h
      exact ⟨by rw [if_pos hA], by rw [hA]; rfl⟩
    · rw [if_neg hA] at h
      obtain ⟨h1, h2⟩ := ac_dr_some (f := f) hk r (c + 1) z (by omega) h
      exact ⟨by rw [if_neg hA, h1, Nat.zero_add], by rw [h2, Bool.or_true]⟩
def ac_drs (A : List Nat → Nat → Bool) (n : Nat) : List Nat → Nat
  | [] => 0
  | c :: s => ac_dr A (n - (s.length + 1)) s.reverse (3 - (c + 1)) (c + 1) + ac_drs A n s
theorem ac_drs_snoc (A : List Nat → Nat → Bool) (n : Nat) (l : List Nat) (c : Nat) : ac_drs A n (l ++ [c]).reverse = ac_dr A (n - (l.length + 1)) l (3 - (c + 1)) (c + 1) + ac_drs A n l.reverse := by
  rw [List.reverse_append, List.reverse_singleton, List.singleton_append, ac_drs, List.length_reverse, List.reverse_reverse]
/-- the dead ends that are still to come -/
def ac_dt (A : List Nat → Nat → Bool) (n : Nat) (l : List Nat) (c : Nat) (w : Bool) : Nat := ac_dr A (n - (l.length + 1)) l (3 - c) c + (if w = true ∨ ac_dan A l (3 - c) c = true then 0 else 1) + ac_drs A n l.reverse
theorem ac_dt_start (A : List Nat → Nat → Bool) {n : Nat} (hn : 1 ≤ n) : ac_dead A n [] = ac_dt A n [] 0 false := by
  obtain ⟨n, rfl⟩ : ∃ b, n = b + 1 := ⟨n - 1, by omega⟩
  rw [ac_dead_dr]
  unfold ac_dt
  simp [ac_drs]
theorem ac_dt_none {A : List Nat → Nat → Bool} {n k c : Nat} {l : List Nat} {w : Bool} (hck : c ≤ k) (hk : ∀ d, A l d = true → d < k) (h : ac_nx A l (k - c) c = none) : ac_dt A n l c w = (if w = true then 0 else 1) + ac_drs A n l.reverse := by
  obtain ⟨h1, h2⟩ := ac_dr_no (A := A) (f := n - (l.length + 1)) (l := l) (3 - c) c (fun d hd q => ac_nx_none (k - c) c (by omega) h d hd (hk d q) q)
  unfold ac_dt
  rw [h1, h2, Nat.zero_add]
  simp
theorem ac_dt_back {A : List Nat → Nat → Bool} {n c : Nat} {l : List Nat} : ac_drs A n (l ++ [c]).reverse = ac_dt A n l (c + 1) true := by
  rw [ac_drs_snoc]; unfold ac_dt; rw [if_pos (Or.inl rfl), Nat.add_zero]
theorem ac_dt_same {A : List Nat → Nat → Bool} {n k c z : Nat} {l : List Nat} {w : Bool} (hk : k ≤ 3) (hck : c ≤ k) (hn : l.length + 1 = n) (h : ac_nx A l (k - c) c = some z) : ac_dt A n l c w = ac_dt A n l (z + 1) true := by
  obtain ⟨h1, h2⟩ := ac_dr_some (f := n - (l.length + 1)) hk (k - c) c z (by omega) h
  have h0 : n - (l.length + 1) = 0 := by omega
  unfold ac_dt
  rw [h1, h2, if_pos (Or.inr rfl), if_pos (Or.inl rfl), h0, ac_dead, Nat.zero_add]
theorem ac_dt_down {A : List Nat → Nat → Bool} {n k c z : Nat} {l : List Nat} {w : Bool} (hk : k ≤ 3) (hck : c ≤ k) (hn : l.length + 1 < n) (h : ac_nx A l (k - c) c = some z) : ac_dt A n l c w = ac_dt A n (l ++ [z]) 0 false := by
  obtain ⟨h1, h2⟩ := ac_dr_some (f := n - (l.length + 1)) hk (k - c) c z (by omega) h
  have h0 : n - (l.length + 1) = n - ((l ++ [z]).length + 1) + 1 := by rw [List.length_append, List.length_singleton]; omega
  unfold ac_dt
  rw [h1, h2, if_pos (Or.inr rfl), ac_drs_snoc, h0, ac_dead_dr, ← h0]
  simp
  omega
