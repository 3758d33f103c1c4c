def ac_zr (mm : ac_M) (r a k : Nat) : ac_M := fun k' j => if k' = r ∧ a ≤ j ∧ j < k then 0 else mm k' j
theorem ac_zr_0 {mm : ac_M} {r a : Nat} : ac_zr mm r a a = mm := by
  funext k j; exact if_neg (fun q => by omega)
theorem ac_zr_s {mm : ac_M} {r a k : Nat} (h : a ≤ k) : ac_up (ac_zr mm r a k) r k 0 = ac_zr mm r a (k + 1) := by
  funext k' j
  unfold ac_up ac_zr
  by_cases h1 : k' = r
  · by_cases h2 : j = k
    · rw [if_pos ⟨h1, h2⟩, if_pos ⟨h1, by omega, by omega⟩]
    · rw [if_neg (fun q => h2 q.2)]
      by_cases h3 : a ≤ j ∧ j < k
      · rw [if_pos ⟨h1, h3⟩, if_pos ⟨h1, by omega, by omega⟩]
      · rw [if_neg (fun q => h3 q.2), if_neg (fun q => h3 (by omega))]
  · rw [if_neg (fun q => h1 q.1), if_neg (fun q => h1 q.1), if_neg (fun q => h1 q.1)]
theorem ac_zr_k {mm : ac_M} {r a k k' : Nat} (h : k' ≠ r) : ac_zr mm r a k k' = mm k' := by
  funext j; exact if_neg (fun q => h q.1)
theorem ac_zr_o {mm : ac_M} {r a k j : Nat} (h : j < a ∨ k ≤ j) : ac_zr mm r a k r j = mm r j := if_neg (fun q => by omega)
theorem ac_zr_at {mm : ac_M} {r a k j : Nat} (h : a ≤ j) (h2 : j < k) : ac_zr mm r a k r j = 0 := if_pos ⟨rfl, h, h2⟩
/-- N changed on a page -/
theorem ac_RP_reach {mm m : ac_M} {r n : Nat} {T : ac_Tk} (h : ac_RP mm r T) (hn : 1 ≤ n ∧ n ≤ 10) (h0 : m r 0 = (n : Int)) (h28 : m r 28 = if n = T.1 then mm r 28 else 0) (hz : ∀ i, n ≤ i → i < 10 → m r (18 + i) = 0) (ho : ∀ j, j ≠ 0 → j ≠ 28 → (j < 18 + n ∨ 28 ≤ j) → m r j = mm r j) : ac_RP m r (n, T.2.1, T.2.2.1, ac_cut T.2.2.2.1 n, if n = T.1 then T.2.2.2.2 else none) := by
  obtain ⟨h1, p0, p1, pE, pp, p28, pcb, pcl⟩ := h
  have hE4 := h1.2.2.1.1
  refine ⟨ac_reach_okK h1 hn, h0, by rw [ho 1 (by decide) (by decide) (by omega)]; exact p1, fun e q hq => ?_, fun i a b => ?_, ?_, fun i hi => by rw [ho _ (by omega) (by omega) (by omega)]; exact pcb i hi, fun l hl i c hc => ?_⟩
  · have he := (List.getElem?_eq_some_iff.mp hq).1
    simp only at he
    have := pE e q hq
    rw [ho _ (by omega) (by omega) (by omega), ho _ (by omega) (by omega) (by omega), ho _ (by omega) (by omega) (by omega), ho _ (by omega) (by omega) (by omega)]; exact this
  · show m r (17 + i) = ac_cut T.2.2.2.1 n i + 1
    unfold ac_cut
    by_cases hi : i ≤ n
    · rw [if_pos hi, ho _ (by omega) (by omega) (by omega)]; exact pp i a b
    · rw [if_neg hi, show 17 + i = 18 + (i - 1) by omega, hz _ (by omega) (by omega)]; rfl
  · show m r 28 = ac_b ((if n = T.1 then T.2.2.2.2 else none).isSome = true)
    rw [h28]
    by_cases hh : n = T.1
    · rw [if_pos hh, if_pos hh]; exact p28
    · rw [if_neg hh, if_neg hh]; rfl
  · have hl2 : (if n = T.1 then T.2.2.2.2 else none) = some l := hl
    by_cases hh : n = T.1
    · rw [if_pos hh] at hl2
      rw [ho _ (by omega) (by omega) (by omega)]; exact pcl l hl2 i c hc
    · rw [if_neg hh] at hl2; cases hl2
theorem ac_RP_col {mm m : ac_M} {r : Nat} {T : ac_Tk} {l l' : List Nat} (h : ac_RP mm r T) (hl : T.2.2.2.2 = some l) (hl1 : l'.length = T.1) (hl2 : ∀ c ∈ l', c < T.2.1) (ho : ∀ j, j < 29 → m r j = mm r j) (hc : ∀ i c : Nat, l'[i]? = some c → m r (29 + i) = (c : Int)) (hb : ∀ i, i < 10 → 0 ≤ m r (29 + i) ∧ m r (29 + i) ≤ 2) : ac_RP m r (ac_wcol T l') := by
  obtain ⟨h1, p0, p1, pE, pp, p28, pcb, pcl⟩ := h
  have hE4 := h1.2.2.1.1
  refine ⟨⟨h1.1, h1.2.1, h1.2.2.1, h1.2.2.2.1, h1.2.2.2.2.1, fun z hz => by cases hz; exact ⟨hl1, hl2⟩⟩, by rw [ho 0 (by decide)]; exact p0, by rw [ho 1 (by decide)]; exact p1, fun e q hq => ?_, fun i a b => by rw [ho _ (by omega)]; exact pp i a b, ?_, hb, fun z hz i c hzc => by cases hz; exact hc i c hzc⟩
  · have he := (List.getElem?_eq_some_iff.mp hq).1
    simp only [ac_wcol] at he
    have := pE e q hq
    rw [ho _ (by omega), ho _ (by omega), ho _ (by omega), ho _ (by omega)]; exact this
  · rw [ho 28 (by decide), p28, hl]; rfl
theorem ac_RP_add {mm m : ac_M} {r : Nat} {T : ac_Tk} {q : ac_Eq} (h : ac_RP mm r T) (hL : T.2.2.1.length < 4) (hq : ac_okq q) (hm : ∀ j, m r j = if j = 1 then (T.2.2.1.length : Int) + 1 else if j = 2 + 4 * T.2.2.1.length + 3 then q.2.2.2 else if j = 2 + 4 * T.2.2.1.length + 2 then q.2.2.1 else if j = 2 + 4 * T.2.2.1.length + 1 then q.2.1 else if j = 2 + 4 * T.2.2.1.length then q.1 else mm r j) : ac_RP m r (T.1, T.2.1, T.2.2.1 ++ [q], T.2.2.2.1, T.2.2.2.2) := by
  obtain ⟨⟨o1, o2, ⟨o3, o4⟩, o5, o6, o7⟩, p0, p1, pE, pp, p28, pcb, pcl⟩ := h
  have ho : ∀ j, j ≠ 1 → (j < 2 + 4 * T.2.2.1.length ∨ 18 ≤ j) → m r j = mm r j := fun j h1 h2 => by
    rw [hm, if_neg h1, if_neg (by omega), if_neg (by omega), if_neg (by omega), if_neg (by omega)]
  refine ⟨⟨o1, o2, ⟨by rw [List.length_append, List.length_singleton]; omega, fun z hz => ?_⟩, o5, o6, o7⟩, by rw [ho 0 (by decide) (by omega)]; exact p0, ?_, fun e z hz => ?_, fun i a b => by rw [ho _ (by omega) (by omega)]; exact pp i a b, by rw [ho 28 (by decide) (by omega)]; exact p28, fun i hi => by rw [ho _ (by omega) (by omega)]; exact pcb i hi, fun l hl i c hc => by rw [ho _ (by omega) (by omega)]; exact pcl l hl i c hc⟩
  · rcases List.mem_append.mp hz with hz | hz
    · exact o4 z hz
    · rw [List.mem_singleton.mp hz]; exact hq
  · rw [hm, if_pos rfl, List.length_append]; rfl
  · by_cases he : e < T.2.2.1.length
    · have hz2 : T.2.2.1[e]? = some z := by rw [← hz]; exact (List.getElem?_append_left he).symm
      have := pE e z hz2
      rw [ho _ (by omega) (by omega), ho _ (by omega) (by omega), ho _ (by omega) (by omega), ho _ (by omega) (by omega)]; exact this
    · have he2 : e = T.2.2.1.length := by
        have := (List.getElem?_eq_some_iff.mp hz).1
        simp only [List.length_append, List.length_singleton] at this; omega
      subst he2
      have hz2 : ([q] : List ac_Eq)[0]? = some z := by rw [← hz]; exact (by rw [List.getElem?_append_right (Nat.le_refl _), Nat.sub_self])
      cases hz2
      refine ⟨?_, ?_, ?_, ?_⟩
      · rw [hm, if_neg (by omega), if_neg (by omega), if_neg (by omega), if_neg (by omega), if_pos rfl]
      · rw [hm, if_neg (by omega), if_neg (by omega), if_neg (by omega), if_pos rfl]
      · rw [hm, if_neg (by omega), if_neg (by omega), if_pos rfl]
      · rw [hm, if_neg (by omega), if_pos rfl]
theorem ac_RP_drop {mm m : ac_M} {r : Nat} {T : ac_Tk} (h : ac_RP mm r T) (hL : 0 < T.2.2.1.length) (hm : ∀ j, m r j = if j = 1 then (T.2.2.1.length : Int) - 1 else mm r j) : ac_RP m r (T.1, T.2.1, T.2.2.1.dropLast, T.2.2.2.1, T.2.2.2.2) := by
  obtain ⟨⟨o1, o2, ⟨o3, o4⟩, o5, o6, o7⟩, p0, p1, pE, pp, p28, pcb, pcl⟩ := h
  have ho : ∀ j, j ≠ 1 → m r j = mm r j := fun j h1 => by rw [hm, if_neg h1]
  refine ⟨⟨o1, o2, ⟨by rw [List.length_dropLast]; omega, fun z hz => o4 z (List.dropLast_subset _ hz)⟩, o5, o6, o7⟩, by rw [ho 0 (by decide)]; exact p0, ?_, fun e z hz => ?_, fun i a b => by rw [ho _ (by omega)]; exact pp i a b, by rw [ho 28 (by decide)]; exact p28, fun i hi => by rw [ho _ (by omega)]; exact pcb i hi, fun l hl i c hc => by rw [ho _ (by omega)]; exact pcl l hl i c hc⟩
  · rw [hm, if_pos rfl]
    show _ = ((T.2.2.1.dropLast.length : Nat) : Int)
    rw [List.length_dropLast]; omega
  · have hz2 : T.2.2.1.dropLast[e]? = some z := hz
    rw [List.getElem?_dropLast] at hz2
    split at hz2
    · have := pE e z hz2
      rw [ho _ (by omega), ho _ (by omega), ho _ (by omega), ho _ (by omega)]; exact this
    · cases hz2
theorem ac_RP_pin {mm m : ac_M} {r x : Nat} {c : Int} {T : ac_Tk} (h : ac_RP mm r T) (hx : 1 ≤ x ∧ x ≤ T.1) (hm : ∀ j, m r j = if j = 17 + x then (if 0 ≤ c ∧ c < (T.2.1 : Int) then c else -1) + 1 else mm r j) : ac_RP m r (T.1, T.2.1, T.2.2.1, ac_sp T.2.2.2.1 x (if 0 ≤ c ∧ c < (T.2.1 : Int) then c else -1), T.2.2.2.2) := by
  obtain ⟨h1, p0, p1, pE, pp, p28, pcb, pcl⟩ := h
  have hE4 := h1.2.2.1.1
  have hn := h1.1
  have ho : ∀ j, j ≠ 17 + x → m r j = mm r j := fun j h1 => by rw [hm, if_neg h1]
  refine ⟨ac_pin_okK h1 hx, by rw [ho 0 (by omega)]; exact p0, by rw [ho 1 (by omega)]; exact p1, fun e z hz => ?_, fun i a b => ?_, by rw [ho 28 (by omega)]; exact p28, fun i hi => by rw [ho _ (by omega)]; exact pcb i hi, fun l hl i c hc => by rw [ho _ (by omega)]; exact pcl l hl i c hc⟩
  · have he := (List.getElem?_eq_some_iff.mp hz).1
    simp only at he
    have := pE e z hz
    rw [ho _ (by omega), ho _ (by omega), ho _ (by omega), ho _ (by omega)]; exact this
  · show m r (17 + i) = ac_sp T.2.2.2.1 x (if 0 ≤ c ∧ c < (T.2.1 : Int) then c else -1) i + 1
    unfold ac_sp
    by_cases hi : i = x
    · subst hi; rw [hm, if_pos rfl, if_pos rfl]
    · rw [if_neg hi, ho _ (by omega)]; exact pp i a b
