/-! kinds: lists without duplicates -/
theorem ac_nd_len : ∀ (A B : List Nat), A.Nodup → (∀ a ∈ A, a ∈ B) → A.length ≤ B.length
  | [], B, _, _ => Nat.zero_le _
  | a :: A, B, hn, h => by
    obtain ⟨h1, h2⟩ := List.nodup_cons.mp hn
    have ha := h a (List.mem_cons_self ..)
    have := ac_nd_len A (B.erase a) h2 (fun c hc => (List.mem_erase_of_ne (fun q => h1 (by rw [← q]; exact hc))).mpr (h c (List.mem_cons_of_mem _ hc)))
    rw [List.length_erase_of_mem ha] at this
    have hB : 0 < B.length := List.length_pos_of_mem ha
    rw [List.length_cons]; omega
theorem ac_nd_eq {A B : List Nat} (hA : A.Nodup) (hB : B.Nodup) (h : ∀ v, v ∈ A ↔ v ∈ B) : A.length = B.length :=
  Nat.le_antisymm (ac_nd_len A B hA (fun a q => (h a).mp q)) (ac_nd_len B A hB (fun a q => (h a).mpr q))
theorem ac_dc_spec : ∀ (L : List (List Nat)) (sn : List Nat), ∃ D : List Nat, D.Nodup ∧ D.length = ac_dc sn L ∧ ∀ v, v ∈ D ↔ (v ∉ sn ∧ ∃ l, l ∈ L ∧ ac_cod l = v)
  | [], sn => ⟨[], List.nodup_nil, rfl, fun v => ⟨fun h => (by cases h), fun h => by obtain ⟨-, l, h, -⟩ := h; cases h⟩⟩
  | l :: L, sn => by
    rw [ac_dc]
    by_cases hc : ac_cod l ∈ sn
    · rw [if_pos hc]
      obtain ⟨D, d1, d2, d3⟩ := ac_dc_spec L sn
      refine ⟨D, d1, d2, fun v => ?_⟩
      rw [d3]
      constructor
      · rintro ⟨h1, l', h2, h3⟩; exact ⟨h1, l', List.mem_cons_of_mem _ h2, h3⟩
      · rintro ⟨h1, l', h2, h3⟩
        rcases List.mem_cons.mp h2 with h2 | h2
        · subst h2; rw [h3] at hc; exact absurd hc h1
        · exact ⟨h1, l', h2, h3⟩
    · rw [if_neg hc]
      obtain ⟨D, d1, d2, d3⟩ := ac_dc_spec L (ac_cod l :: sn)
      refine ⟨ac_cod l :: D, List.nodup_cons.mpr ⟨fun q => ((d3 _).mp q).1 (List.mem_cons_self ..), d1⟩, by rw [List.length_cons, d2, Nat.add_comm], fun v => ?_⟩
      rw [List.mem_cons, d3]
      constructor
      · rintro (h | ⟨h1, l', h2, h3⟩)
        · subst h; exact ⟨hc, l, List.mem_cons_self .., rfl⟩
        · exact ⟨fun q => h1 (List.mem_cons_of_mem _ q), l', List.mem_cons_of_mem _ h2, h3⟩
      · rintro ⟨h1, l', h2, h3⟩
        by_cases hv : v = ac_cod l
        · exact Or.inl hv
        · refine Or.inr ⟨fun q => (List.mem_cons.mp q).elim hv h1, ?_⟩
          rcases List.mem_cons.mp h2 with h2 | h2
          · subst h2; exact absurd h3.symm hv
          · exact ⟨l', h2, h3⟩
theorem ac_dc_eq {L : List (List Nat)} {G : List Nat} (hG : G.Nodup) (h : ∀ v, v ∈ G ↔ ∃ l, l ∈ L ∧ ac_cod l = v) : ac_dc [] L = G.length := by
  obtain ⟨D, d1, d2, d3⟩ := ac_dc_spec L []
  rw [← d2]
  exact ac_nd_eq d1 hG (fun v => by rw [d3, h]; exact ⟨fun q => q.2, fun q => ⟨fun z => (by cases z), q⟩⟩)
/-- the block lists that are counted -/
def ac_grl (k : Nat) (E : List ac_Eq) (pin : Nat → Int) : Nat → List Nat → Nat → Nat → List (List Nat)
  | 0, l, _, nm => if nm = 0 then [] else [l]
  | f + 1, l, o, nm => if nm = 0 then [] else ac_cc (fun b => @ite _ (ac_grc k E l o b) (ac_grcd k E l o b) (ac_grl k E pin f (l ++ [b]) (max o (b + 1)) (nm &&& ac_nmw (pin (l.length + 1)) b)) []) 3
theorem ac_grl_len (k : Nat) (E : List ac_Eq) (pin : Nat → Int) : ∀ (f : Nat) (l : List Nat) (o nm : Nat), (ac_grl k E pin f l o nm).length = ac_grp k E pin f l o nm
  | 0, l, o, nm => by
    rw [ac_grl, ac_grp]; split <;> rfl
  | f + 1, l, o, nm => by
    rw [ac_grl, ac_grp]
    split
    · rfl
    · rw [ac_cc_len]
      congr 1
      funext b
      by_cases hb : ac_grc k E l o b
      · rw [if_pos hb, if_pos hb]; exact ac_grl_len k E pin f _ _ _
      · rw [if_neg hb, if_neg hb]; rfl
