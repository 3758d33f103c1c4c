/-! kinds: who is among the block lists -/
def ac_gw (k : Nat) : Nat → List Nat → Prop
  | _, [] => True
  | o, b :: t => (b ≤ o ∧ b < k) ∧ ac_gw k (max o (b + 1)) t
def ac_nmf (pin : Nat → Int) : Nat → List Nat → Nat → Nat
  | _, [], nm => nm
  | i, b :: t, nm => ac_nmf pin (i + 1) t (nm &&& ac_nmw (pin (i + 1)) b)
theorem ac_nmf_0 (pin : Nat → Int) : ∀ (t : List Nat) (i : Nat), ac_nmf pin i t 0 = 0
  | [], _ => rfl
  | b :: t, i => by rw [ac_nmf, Nat.zero_and]; exact ac_nmf_0 pin t (i + 1)
theorem ac_grl_mem {k : Nat} {E : List ac_Eq} {pin : Nat → Int} (hk : k ≤ 3) : ∀ (f : Nat) (l : List Nat) (o nm : Nat) (bl : List Nat), (∀ c, c < 3 → ac_br E (ac_set l c) = 0) → (bl ∈ ac_grl k E pin f l o nm ↔ ∃ t, bl = l ++ t ∧ t.length = f ∧ ac_gw k o t ∧ ac_nmf pin l.length t nm ≠ 0 ∧ ∀ c, c < 3 → ac_br E (ac_set bl c) = 0)
  | 0, l, o, nm, bl, h0 => by
    rw [ac_grl]
    by_cases hn : nm = 0
    · rw [if_pos hn]
      constructor
      · intro h; cases h
      · rintro ⟨t, h1, h2, h3, h4, -⟩
        exact absurd (by rw [hn]; exact ac_nmf_0 pin t _) h4
    · rw [if_neg hn, List.mem_singleton]
      constructor
      · intro h; subst h; exact ⟨[], by rw [List.append_nil], rfl, trivial, hn, h0⟩
      · rintro ⟨t, h1, h2, -⟩
        rw [List.length_eq_zero_iff.mp h2, List.append_nil] at h1; exact h1
  | f + 1, l, o, nm, bl, h0 => by
    rw [ac_grl]
    by_cases hn : nm = 0
    · rw [if_pos hn]
      constructor
      · intro h; cases h
      · rintro ⟨t, h1, h2, h3, h4, -⟩
        exact absurd (by rw [hn]; exact ac_nmf_0 pin t _) h4
    · rw [if_neg hn, ac_cc_mem]
      constructor
      · rintro ⟨b, hb, h⟩
        by_cases hg : ac_grc k E l o b
        · rw [if_pos hg] at h
          obtain ⟨t, h1, h2, h3, h4, h5⟩ := (ac_grl_mem hk f _ _ _ bl (fun c hc => by
            by_cases hbc : b = c
            · subst hbc; exact hg.2.2
            · rw [ac_set_snoc, if_neg hbc]; exact h0 c hc)).mp h
          rw [List.length_append, List.length_singleton] at h4
          exact ⟨b :: t, by rw [h1, List.append_assoc]; rfl, by rw [List.length_cons, h2], ⟨⟨hg.1, hg.2.1⟩, h3⟩, h4, h5⟩
        · rw [if_neg hg] at h; cases h
      · rintro ⟨t, h1, h2, h3, h4, h5⟩
        cases t with
        | nil => simp at h2
        | cons b t =>
          obtain ⟨⟨g1, g2⟩, g3⟩ := h3
          have hsub : ac_br E (ac_set (l ++ [b]) b) = 0 := by
            have h6 := h5 b (by omega)
            rw [h1, show l ++ b :: t = (l ++ [b]) ++ t by rw [List.append_assoc]; rfl] at h6
            have hm := ac_br_mono (E := E) (ac_set_sub_app (l ++ [b]) t b)
            refine Nat.eq_of_testBit_eq (fun i => ?_)
            rw [Nat.zero_testBit]
            cases hb2 : (ac_br E (ac_set (l ++ [b]) b)).testBit i with
            | false => rfl
            | true =>
              have h7 := hm i hb2
              rw [h6, Nat.zero_testBit] at h7; cases h7
          have hg : ac_grc k E l o b := ⟨g1, g2, hsub⟩
          refine ⟨b, by omega, ?_⟩
          rw [if_pos hg]
          refine (ac_grl_mem hk f _ _ _ bl (fun c hc => ?_)).mpr ⟨t, by rw [h1, List.append_assoc]; rfl, by simpa using h2, g3, by rw [List.length_append, List.length_singleton]; exact h4, h5⟩
          by_cases hbc : b = c
          · subst hbc; exact hsub
          · rw [ac_set_snoc, if_neg hbc]; exact h0 c hc
