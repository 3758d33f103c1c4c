/-! kinds: no block list twice -/
theorem ac_cc_nodup {g : Nat → List (List Nat)} : ∀ n, (∀ i, i < n → (g i).Nodup) → (∀ i j, i < j → j < n → ∀ a, a ∈ g i → a ∉ g j) → (ac_cc g n).Nodup
  | 0, _, _ => List.nodup_nil
  | n + 1, h1, h2 => by
    rw [ac_cc]
    refine List.nodup_append.mpr ⟨ac_cc_nodup n (fun i hi => h1 i (by omega)) (fun i j a b => h2 i j a (by omega)), h1 n (by omega), fun a ha b hb q => ?_⟩
    subst q
    obtain ⟨i, hi, hm⟩ := ac_cc_mem.mp ha
    exact h2 i n hi (by omega) a hm hb
theorem ac_grl_pre {k : Nat} {E : List ac_Eq} {pin : Nat → Int} : ∀ (f : Nat) (l : List Nat) (o nm : Nat) (bl : List Nat), bl ∈ ac_grl k E pin f l o nm → ∃ t, bl = l ++ t
  | 0, l, o, nm, bl, h => by
    rw [ac_grl] at h
    split at h
    · cases h
    · exact ⟨[], by rw [List.append_nil]; exact List.mem_singleton.mp h⟩
  | f + 1, l, o, nm, bl, h => by
    rw [ac_grl] at h
    split at h
    · cases h
    · obtain ⟨b, -, h⟩ := ac_cc_mem.mp h
      by_cases hg : ac_grc k E l o b
      · rw [if_pos hg] at h
        obtain ⟨t, ht⟩ := ac_grl_pre f _ _ _ bl h
        exact ⟨b :: t, by rw [ht, List.append_assoc]; rfl⟩
      · rw [if_neg hg] at h; cases h
theorem ac_grl_nodup {k : Nat} {E : List ac_Eq} {pin : Nat → Int} : ∀ (f : Nat) (l : List Nat) (o nm : Nat), (ac_grl k E pin f l o nm).Nodup
  | 0, l, o, nm => by
    rw [ac_grl]; split
    · exact List.nodup_nil
    · exact List.nodup_cons.mpr ⟨fun h => (by cases h), List.nodup_nil⟩
  | f + 1, l, o, nm => by
    rw [ac_grl]; split
    · exact List.nodup_nil
    · refine ac_cc_nodup 3 (fun b _ => ?_) (fun i j hij hj a ha hb => ?_)
      · by_cases hg : ac_grc k E l o b
        · rw [if_pos hg]; exact ac_grl_nodup f _ _ _
        · rw [if_neg hg]; exact List.nodup_nil
      · by_cases hg : ac_grc k E l o i
        · by_cases hg2 : ac_grc k E l o j
          · rw [if_pos hg] at ha
            rw [if_pos hg2] at hb
            obtain ⟨t, ht⟩ := ac_grl_pre f _ _ _ a ha
            obtain ⟨t2, ht2⟩ := ac_grl_pre f _ _ _ a hb
            rw [ht, List.append_assoc, List.append_assoc] at ht2
            have := List.append_cancel_left ht2
            simp at this
            omega
          · rw [if_neg hg2] at hb; cases hb
        · rw [if_neg hg] at ha; cases ha
