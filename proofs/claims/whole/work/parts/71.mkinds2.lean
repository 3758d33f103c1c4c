/-! kinds: colourings and block lists -/
def ac_pn (j b : Nat) : Nat := (ac_names (3 * j + b)).toNat
def ac_nv (j : Nat) : Nat := if j = 3 then 4 else if j = 4 then 3 else j
def ac_jn (a b : Nat) : Nat := if a = 0 then (if b = 1 then 0 else 1) else if a = 1 then (if b = 0 then 2 else 3) else (if b = 0 then 4 else 5)
/-- the namings that a number of colours allows -/
def ac_J (k j : Nat) : Prop := j < 6 ∧ (k = 2 → j = 0 ∨ j = 2)
theorem ac_pn_c : ∀ j, j < 6 → ∀ b, b < 3 → ac_names (3 * j + b) = (ac_pn j b : Int) ∧ ac_pn j b < 3 := by decide
theorem ac_pn_inj : ∀ j, j < 6 → ∀ b, b < 3 → ∀ c, c < 3 → ac_pn j b = ac_pn j c → b = c := by decide
theorem ac_pn_nv : ∀ j, j < 6 → ∀ c, c < 3 → ac_pn (ac_nv j) c < 3 ∧ ac_pn j (ac_pn (ac_nv j) c) = c := by decide
theorem ac_pn_two : ∀ c, c < 2 → (ac_pn 0 c < 2 ∧ ac_pn 2 c < 2) ∧ ac_pn (ac_nv 0) c < 2 ∧ ac_pn (ac_nv 2) c < 2 := by decide
theorem ac_jn_c : ∀ a, a < 3 → ∀ b, b < 3 → a ≠ b → ac_jn a b < 6 ∧ ac_pn (ac_jn a b) 0 = a ∧ ac_pn (ac_jn a b) 1 = b := by decide
theorem ac_jn_two : ∀ a, a < 2 → ∀ b, b < 2 → a ≠ b → ac_jn a b = 0 ∨ ac_jn a b = 2 := by decide
theorem ac_J_lt {k j c : Nat} (hk : 2 ≤ k ∧ k ≤ 3) (hJ : ac_J k j) (hc : c < k) : ac_pn j c < k ∧ ac_pn (ac_nv j) c < k := by
  obtain ⟨h1, h2⟩ := hJ
  rcases (show k = 2 ∨ k = 3 by omega) with rfl | rfl
  · have h3 := ac_pn_two c hc
    rcases h2 rfl with rfl | rfl
    · exact ⟨h3.1.1, h3.2.1⟩
    · exact ⟨h3.1.2, h3.2.2⟩
  · exact ⟨(ac_pn_c j h1 c hc).2, (ac_pn_nv j h1 c hc).1⟩
theorem ac_J_jn {k a b : Nat} (hk : 2 ≤ k ∧ k ≤ 3) (ha : a < k) (hb : b < k) (h : a ≠ b) : ac_J k (ac_jn a b) := by
  refine ⟨(ac_jn_c a (by omega) b (by omega) h).1, fun e => ?_⟩
  subst e; exact ac_jn_two a ha b hb h
theorem ac_gw_lt {k : Nat} : ∀ (t : List Nat) (o : Nat), ac_gw k o t → ∀ b ∈ t, b < k
  | [], _, _, b, h => by cases h
  | c :: t, o, hg, b, h => by
    rcases List.mem_cons.mp h with h | h
    · rw [h]; exact hg.1.2
    · exact ac_gw_lt t _ hg.2 b h
theorem ac_gw_2 {k : Nat} (hk : k ≤ 3) : ∀ (t : List Nat) (o : Nat), 2 ≤ o → (∀ b ∈ t, b < k) → ac_gw k o t
  | [], _, _, _ => trivial
  | c :: t, o, ho, h => by
    have hc := h c (List.mem_cons_self ..)
    exact ⟨⟨by omega, hc⟩, ac_gw_2 hk t _ (by omega) (fun b hb => h b (List.mem_cons_of_mem _ hb))⟩
theorem ac_ren2 {k j : Nat} (hk : 2 ≤ k ∧ k ≤ 3) (hJ : ac_J k j) {l : List Nat} (h : ∀ c ∈ l, c < k) : ∃ bl : List Nat, (∀ b ∈ bl, b < k) ∧ bl.map (ac_pn j) = l := by
  refine ⟨l.map (ac_pn (ac_nv j)), fun b hb => ?_, ?_⟩
  · obtain ⟨c, h1, h2⟩ := List.mem_map.mp hb
    rw [← h2]; exact (ac_J_lt hk hJ (h c h1)).2
  · rw [List.map_map]
    have : ∀ c ∈ l, (ac_pn j ∘ ac_pn (ac_nv j)) c = id c := fun c hc => (ac_pn_nv j hJ.1 c (by have := h c hc; omega)).2
    rw [List.map_congr_left this, List.map_id]
theorem ac_ren1 {k a : Nat} (hk : 2 ≤ k ∧ k ≤ 3) (ha : a < k) : ∀ (l : List Nat), (∀ c ∈ l, c < k) → ∃ (j : Nat) (bl : List Nat), ac_J k j ∧ ac_pn j 0 = a ∧ ac_gw k 1 bl ∧ bl.map (ac_pn j) = l
  | [], _ => by
    obtain ⟨b, hb, hab⟩ : ∃ b, b < k ∧ a ≠ b := by
      by_cases h : a = 0
      · exact ⟨1, by omega, by omega⟩
      · exact ⟨0, by omega, h⟩
    exact ⟨ac_jn a b, [], ac_J_jn hk ha hb hab, (ac_jn_c a (by omega) b (by omega) hab).2.1, trivial, rfl⟩
  | c :: l, h => by
    have hc := h c (List.mem_cons_self ..)
    have hl : ∀ d ∈ l, d < k := fun d hd => h d (List.mem_cons_of_mem _ hd)
    by_cases hca : a = c
    · obtain ⟨j, bl, h1, h2, h3, h4⟩ := ac_ren1 hk ha l hl
      refine ⟨j, 0 :: bl, h1, h2, ⟨⟨by omega, by omega⟩, h3⟩, ?_⟩
      rw [List.map_cons, h2, h4, hca]
    · have hJ := ac_J_jn hk ha hc hca
      obtain ⟨bl, h3, h4⟩ := ac_ren2 hk hJ hl
      have hj := ac_jn_c a (by omega) c (by omega) hca
      refine ⟨ac_jn a c, 1 :: bl, hJ, hj.2.1, ⟨⟨by omega, by omega⟩, ac_gw_2 hk.2 bl _ (by omega) h3⟩, ?_⟩
      rw [List.map_cons, hj.2.2, h4]
theorem ac_ren0 {k : Nat} (hk : 2 ≤ k ∧ k ≤ 3) : ∀ (l : List Nat), (∀ c ∈ l, c < k) → ∃ (j : Nat) (bl : List Nat), ac_J k j ∧ ac_gw k 0 bl ∧ bl.map (ac_pn j) = l
  | [], _ => ⟨0, [], ⟨by omega, fun _ => Or.inl rfl⟩, trivial, rfl⟩
  | c :: l, h => by
    obtain ⟨j, bl, h1, h2, h3, h4⟩ := ac_ren1 hk (h c (List.mem_cons_self ..)) l (fun d hd => h d (List.mem_cons_of_mem _ hd))
    refine ⟨j, 0 :: bl, h1, ⟨⟨by omega, by omega⟩, h3⟩, ?_⟩
    rw [List.map_cons, h2, h4]
/-- the code does not see the names -/
theorem ac_cod_map' {j : Nat} (hj : j < 6) : ∀ (l : List Nat) (v u a b a' b' : Nat), (∀ c ∈ l, c < 3) → a < 3 → b < 3 → (u ≠ 0 → a' = ac_pn j a) → (u ≠ 0 → u ≠ 1 → b' = ac_pn j b) → ((l.map (ac_pn j)).foldl ac_cs1 (v, u, a', b')).1 = (l.foldl ac_cs1 (v, u, a, b)).1
  | [], v, u, a, b, a', b', _, _, _, _, _ => rfl
  | c :: l, v, u, a, b, a', b', h, ha, hb, e1, e2 => by
    have hc := h c (List.mem_cons_self ..)
    have hl : ∀ d ∈ l, d < 3 := fun d hd => h d (List.mem_cons_of_mem _ hd)
    rw [List.map_cons, List.foldl_cons, List.foldl_cons]
    have iff1 : ∀ z, z < 3 → (ac_pn j c = ac_pn j z ↔ c = z) := fun z hz => ⟨ac_pn_inj j hj c hc z hz, fun q => by rw [q]⟩
    unfold ac_cs1
    simp only
    by_cases hu0 : u = 0
    · rw [if_pos hu0, if_pos hu0]
      exact ac_cod_map' hj l _ _ _ _ _ _ hl hc hb (fun _ => rfl) (fun _ q => absurd rfl q)
    · rw [if_neg hu0, if_neg hu0]
      have ea := e1 hu0
      subst ea
      by_cases hu1 : u = 1
      · rw [if_pos hu1, if_pos hu1]
        by_cases hca : c = a
        · rw [if_pos hca, if_pos ((iff1 a ha).mpr hca)]
          exact ac_cod_map' hj l _ _ _ _ _ _ hl ha hb (fun _ => rfl) (fun _ q => absurd rfl q)
        · rw [if_neg hca, if_neg (fun q => hca ((iff1 a ha).mp q))]
          exact ac_cod_map' hj l _ _ _ _ _ _ hl ha hc (fun _ => rfl) (fun _ _ => rfl)
      · have eb := e2 hu0 hu1
        subst eb
        rw [if_neg hu1, if_neg hu1]
        have e : (if ac_pn j c = ac_pn j a then 0 else if ac_pn j c = ac_pn j b then 1 else 2) = (if c = a then 0 else if c = b then 1 else 2) := by
          by_cases hca : c = a
          · rw [if_pos hca, if_pos ((iff1 a ha).mpr hca)]
          · rw [if_neg hca, if_neg (fun q => hca ((iff1 a ha).mp q))]
            by_cases hcb : c = b
            · rw [if_pos hcb, if_pos ((iff1 b hb).mpr hcb)]
            · rw [if_neg hcb, if_neg (fun q => hcb ((iff1 b hb).mp q))]
        rw [e]
        exact ac_cod_map' hj l _ _ _ _ _ _ hl ha hb (fun _ => rfl) (fun _ _ => rfl)
theorem ac_cod_map {j : Nat} (hj : j < 6) {l : List Nat} (h : ∀ c ∈ l, c < 3) : ac_cod (l.map (ac_pn j)) = ac_cod l :=
  ac_cod_map' hj l 0 0 0 0 0 0 h (by decide) (by decide) (fun q => absurd rfl q) (fun q => absurd rfl q)
/-- the number that digits make -/
def ac_vl (v : Nat) (t : List Nat) : Nat := t.foldl (fun v b => 3 * v + b) v
theorem ac_val2 : ∀ (t : List Nat) (v u : Nat), 2 ≤ u → (∀ b ∈ t, b < 3) → (t.foldl ac_cs1 (v, u, 0, 1)).1 = ac_vl v t
  | [], v, u, _, _ => rfl
  | b :: t, v, u, hu, h => by
    have hb := h b (List.mem_cons_self ..)
    have e : ac_cs1 (v, u, 0, 1) b = (3 * v + b, u, 0, 1) := by
      unfold ac_cs1
      simp only
      rw [if_neg (by omega), if_neg (by omega)]
      rcases (show b = 0 ∨ b = 1 ∨ b = 2 by omega) with rfl | rfl | rfl <;> rfl
    rw [List.foldl_cons, e, ac_val2 t _ _ hu (fun c hc => h c (List.mem_cons_of_mem _ hc))]; rfl
theorem ac_val1 {k : Nat} (hk : k ≤ 3) : ∀ (t : List Nat) (v b0 : Nat), ac_gw k 1 t → (t.foldl ac_cs1 (v, 1, 0, b0)).1 = ac_vl v t
  | [], v, b0, _ => rfl
  | b :: t, v, b0, h => by
    obtain ⟨⟨h1, h2⟩, h3⟩ := h
    rcases (show b = 0 ∨ b = 1 by omega) with rfl | rfl
    · rw [List.foldl_cons, show ac_cs1 (v, 1, 0, b0) 0 = (3 * v, 1, 0, b0) from rfl, ac_val1 hk t _ _ h3]; rfl
    · rw [List.foldl_cons, show ac_cs1 (v, 1, 0, b0) 1 = (3 * v + 1, 2, 0, 1) from rfl, ac_val2 t _ _ (by decide) (fun c hc => by have := ac_gw_lt t _ h3 c hc; omega)]; rfl
theorem ac_cod_gw {k : Nat} (hk : k ≤ 3) : ∀ (t : List Nat), ac_gw k 0 t → ac_cod t = ac_vl 0 t
  | [], _ => rfl
  | b :: t, h => by
    obtain ⟨⟨h1, h2⟩, h3⟩ := h
    obtain rfl : b = 0 := by omega
    unfold ac_cod
    rw [List.foldl_cons, show ac_cs1 (0, 0, 0, 0) 0 = (0, 1, 0, 0) from rfl, ac_val1 hk t _ _ h3]; rfl
theorem ac_vl_inj : ∀ (t t' : List Nat) (v v' : Nat), t.length = t'.length → (∀ b ∈ t, b < 3) → (∀ b ∈ t', b < 3) → ac_vl v t = ac_vl v' t' → v = v' ∧ t = t'
  | [], [], v, v', _, _, _, h => ⟨h, rfl⟩
  | [], b' :: t', v, v', hl, _, _, _ => by simp at hl
  | b :: t, [], v, v', hl, _, _, _ => by simp at hl
  | b :: t, b' :: t', v, v', hl, h1, h2, h => by
    have hb := h1 b (List.mem_cons_self ..)
    have hb' := h2 b' (List.mem_cons_self ..)
    obtain ⟨e1, e2⟩ := ac_vl_inj t t' (3 * v + b) (3 * v' + b') (by simpa using hl) (fun c hc => h1 c (List.mem_cons_of_mem _ hc)) (fun c hc => h2 c (List.mem_cons_of_mem _ hc)) h
    have ev : v = v' := by omega
    have eb : b = b' := by omega
    exact ⟨ev, by rw [eb, e2]⟩
/-- the names that the pins leave -/
theorem ac_nmA_bit (p : Int) (b j : Nat) : ∀ m, (ac_nmA p b m).testBit j = decide (j < m ∧ ac_names (3 * j + b) = p)
  | 0 => by rw [ac_nmA, Nat.zero_testBit]; exact (decide_eq_false (fun q => by omega)).symm
  | m + 1 => by
    rw [ac_nmA, Nat.testBit_or, ac_nmA_bit p b j m]
    by_cases hj : j = m
    · subst hj
      by_cases hp : ac_names (3 * j + b) = p
      · rw [if_pos hp, Nat.testBit_two_pow, decide_eq_true (show j = j from rfl), Bool.or_true, decide_eq_true ⟨by omega, hp⟩]
      · rw [if_neg hp, Nat.zero_testBit, Bool.or_false]
        exact (decide_eq_false (fun q => hp q.2)).trans (decide_eq_false (fun q => hp q.2)).symm
    · have e : (if ac_names (3 * m + b) = p then 2 ^ m else 0).testBit j = false := by
        split
        · rw [Nat.testBit_two_pow]; exact decide_eq_false (fun q => hj q.symm)
        · exact Nat.zero_testBit _
      rw [e, Bool.or_false]
      exact decide_eq_decide.mpr ⟨fun q => ⟨by omega, q.2⟩, fun q => ⟨by omega, q.2⟩⟩
theorem ac_63 : ∀ j, j < 6 → (63 : Nat).testBit j = true := by decide
theorem ac_nmw_bit {p : Int} {b j : Nat} (hj : j < 6) : (ac_nmw p b).testBit j = true ↔ p = -1 ∨ ac_names (3 * j + b) = p := by
  unfold ac_nmw
  by_cases hp : p = -1
  · rw [if_pos hp]; exact ⟨fun _ => Or.inl hp, fun _ => ac_63 j hj⟩
  · rw [if_neg hp, ac_nmA_bit, decide_eq_true_eq]
    exact ⟨fun q => Or.inr q.2, fun q => ⟨hj, q.resolve_left hp⟩⟩
theorem ac_nmf_bit {pin : Nat → Int} {j : Nat} (hj : j < 6) : ∀ (t : List Nat) (i nm : Nat), (ac_nmf pin i t nm).testBit j = true ↔ nm.testBit j = true ∧ ∀ x b : Nat, t[x]? = some b → pin (i + x + 1) = -1 ∨ ac_names (3 * j + b) = pin (i + x + 1)
  | [], i, nm => ⟨fun q => ⟨q, fun x b h => by simp at h⟩, fun q => q.1⟩
  | b :: t, i, nm => by
    rw [ac_nmf, ac_nmf_bit hj t, Nat.testBit_and, Bool.and_eq_true, ac_nmw_bit hj]
    constructor
    · rintro ⟨⟨h1, h2⟩, h3⟩
      refine ⟨h1, fun x c hx => ?_⟩
      cases x with
      | zero => cases hx; exact h2
      | succ x =>
        have := h3 x c hx
        rw [show i + 1 + x + 1 = i + (x + 1) + 1 by omega] at this; exact this
    · rintro ⟨h1, h2⟩
      refine ⟨⟨h1, h2 0 b rfl⟩, fun x c hx => ?_⟩
      have := h2 (x + 1) c hx
      rw [show i + (x + 1) + 1 = i + 1 + x + 1 by omega] at this; exact this
theorem ac_nmf_le {pin : Nat → Int} : ∀ (t : List Nat) (i nm : Nat), ac_nmf pin i t nm ≤ nm
  | [], i, nm => Nat.le_refl _
  | b :: t, i, nm => by
    rw [ac_nmf]; exact Nat.le_trans (ac_nmf_le t _ _) Nat.and_le_left
theorem ac_nmf_ne {pin : Nat → Int} {t : List Nat} {i nm : Nat} (h : nm < 64) : ac_nmf pin i t nm ≠ 0 ↔ ∃ j, j < 6 ∧ (ac_nmf pin i t nm).testBit j = true := by
  constructor
  · intro h0
    refine Classical.byContradiction fun hn => h0 (Nat.eq_of_testBit_eq fun j => ?_)
    rw [Nat.zero_testBit]
    by_cases hj : j < 6
    · cases hb : (ac_nmf pin i t nm).testBit j with
      | false => rfl
      | true => exact absurd ⟨j, hj, hb⟩ hn
    · refine Nat.testBit_lt_two_pow (Nat.lt_of_lt_of_le (Nat.lt_of_le_of_lt (ac_nmf_le t i nm) h) ?_)
      exact Nat.le_trans (show 64 ≤ 2 ^ 6 by decide) (Nat.pow_le_pow_right (by decide) (by omega))
  · rintro ⟨j, -, hj⟩ h0
    rw [h0, Nat.zero_testBit] at hj; cases hj
theorem ac_J_bit {k j : Nat} (hk : 2 ≤ k ∧ k ≤ 3) (hj : j < 6) : (if k = 2 then 5 else 63 : Nat).testBit j = true ↔ ac_J k j := by
  rcases (show k = 2 ∨ k = 3 by omega) with rfl | rfl
  · rw [if_pos rfl]
    have : ∀ j, j < 6 → ((5 : Nat).testBit j = true ↔ j = 0 ∨ j = 2) := by decide
    rw [this j hj]
    exact ⟨fun q => ⟨hj, fun _ => q⟩, fun q => q.2 rfl⟩
  · rw [if_neg (by decide)]
    exact ⟨fun _ => ⟨hj, fun q => by omega⟩, fun _ => ac_63 j hj⟩
theorem ac_set_map {j : Nat} (hj : j < 6) {bl : List Nat} (h : ∀ b ∈ bl, b < 3) {c : Nat} (hc : c < 3) : ac_set (bl.map (ac_pn j)) (ac_pn j c) = ac_set bl c := by
  refine Nat.eq_of_testBit_eq fun i => ?_
  rw [ac_set_bit, ac_set_bit]
  refine decide_eq_decide.mpr ?_
  rw [List.getElem?_map, Option.map_eq_some_iff]
  constructor
  · rintro ⟨h1, b, h2, h3⟩
    rw [ac_pn_inj j hj c hc b (h b (List.mem_of_getElem? h2)) h3.symm]
    exact ⟨h1, h2⟩
  · rintro ⟨h1, h2⟩; exact ⟨h1, c, h2, rfl⟩
theorem ac_kinds_eq {T : ac_Tk} (hk : 2 ≤ T.2.1 ∧ T.2.1 ≤ 3) : ac_dc [] (ac_Lt T) = ac_knd T := by
  have hM : (if T.2.1 = 2 then 5 else 63 : Nat) < 64 := by split <;> decide
  obtain ⟨M, hMe⟩ : ∃ M : Nat, M = if T.2.1 = 2 then 5 else 63 := ⟨_, rfl⟩
  have h00 : ∀ c, c < 3 → ac_br T.2.2.1 (ac_set [] c) = 0 := fun c _ => ac_br_nil c
  have mem : ∀ bl, bl ∈ ac_grl T.2.1 T.2.2.1 T.2.2.2.1 T.1 [] 0 M ↔ bl.length = T.1 ∧ ac_gw T.2.1 0 bl ∧ ac_nmf T.2.2.2.1 0 bl M ≠ 0 ∧ ∀ c, c < 3 → ac_br T.2.2.1 (ac_set bl c) = 0 := by
    intro bl
    rw [ac_grl_mem hk.2 T.1 [] 0 M bl h00]
    constructor
    · rintro ⟨t, h1, h2, h3, h4, h5⟩
      rw [List.nil_append] at h1; subst h1
      exact ⟨h2, h3, h4, h5⟩
    · rintro ⟨h2, h3, h4, h5⟩
      exact ⟨bl, rfl, h2, h3, h4, h5⟩
  unfold ac_knd
  rw [← hMe, ← ac_grl_len, ← List.length_map (f := ac_cod)]
  refine ac_dc_eq ?_ fun v => ?_
  · -- no code twice
    have hnd := ac_grl_nodup (k := T.2.1) (E := T.2.2.1) (pin := T.2.2.2.1) T.1 [] 0 M
    have inj : ∀ a b : List Nat, a ∈ ac_grl T.2.1 T.2.2.1 T.2.2.2.1 T.1 [] 0 M → b ∈ ac_grl T.2.1 T.2.2.1 T.2.2.2.1 T.1 [] 0 M → ac_cod a = ac_cod b → a = b := by
      intro a b ha hb e
      obtain ⟨a1, a2, -⟩ := (mem a).mp ha
      obtain ⟨b1, b2, -⟩ := (mem b).mp hb
      rw [ac_cod_gw hk.2 a a2, ac_cod_gw hk.2 b b2] at e
      exact (ac_vl_inj a b 0 0 (by rw [a1, b1]) (fun c hc => by have := ac_gw_lt a _ a2 c hc; omega) (fun c hc => by have := ac_gw_lt b _ b2 c hc; omega) e).2
    have gen : ∀ L : List (List Nat), L.Nodup → (∀ a b : List Nat, a ∈ L → b ∈ L → ac_cod a = ac_cod b → a = b) → (L.map ac_cod).Nodup := by
      intro L
      induction L with
      | nil => intro _ _; exact List.nodup_nil
      | cons a L ih =>
        intro h1 h2
        obtain ⟨h3, h4⟩ := List.nodup_cons.mp h1
        rw [List.map_cons]
        refine List.nodup_cons.mpr ⟨fun q => ?_, ih h4 (fun a b ha hb => h2 a b (List.mem_cons_of_mem _ ha) (List.mem_cons_of_mem _ hb))⟩
        obtain ⟨b, hb, e⟩ := List.mem_map.mp q
        have := h2 b a (List.mem_cons_of_mem _ hb) (List.mem_cons_self ..) e
        rw [this] at hb; exact h3 hb
    exact gen _ hnd inj
  · rw [List.mem_map]
    constructor
    · rintro ⟨bl, hb, hv⟩
      obtain ⟨b1, b2, b3, b4⟩ := (mem bl).mp hb
      have b5 := ac_gw_lt bl _ b2
      obtain ⟨j, hj, hbit⟩ := (ac_nmf_ne (by rw [hMe]; exact hM)).mp b3
      obtain ⟨hm, hp⟩ := (ac_nmf_bit hj bl 0 M).mp hbit
      rw [hMe] at hm
      have hJ := (ac_J_bit hk hj).mp hm
      have b6 : ∀ b ∈ bl, b < 3 := fun b hb => by have := b5 b hb; omega
      refine ⟨bl.map (ac_pn j), (ac_Lt_mem hk.2).mpr ⟨by rw [List.length_map, b1], fun c hc => ?_, fun i c hc => ?_, fun c hc => ?_⟩, by rw [ac_cod_map hj b6, hv]⟩
      · obtain ⟨b, h1, h2⟩ := List.mem_map.mp hc
        rw [← h2]; exact (ac_J_lt hk hJ (b5 b h1)).1
      · rw [List.getElem?_map, Option.map_eq_some_iff] at hc
        obtain ⟨b, h1, h2⟩ := hc
        have h3 := hp i b h1
        rw [Nat.zero_add, (ac_pn_c j hj b (b6 b (List.mem_of_getElem? h1))).1, h2] at h3
        rcases h3 with h3 | h3
        · exact Or.inl h3
        · exact Or.inr h3.symm
      · obtain ⟨q1, q2⟩ := ac_pn_nv j hj c hc
        rw [← q2, ac_set_map hj b6 q1]; exact b4 _ q1
    · rintro ⟨l, hl, hv⟩
      obtain ⟨l1, l2, l3, l4⟩ := (ac_Lt_mem hk.2).mp hl
      obtain ⟨j, bl, hJ, hg, hm⟩ := ac_ren0 hk l l2
      have b5 := ac_gw_lt bl _ hg
      have b6 : ∀ b ∈ bl, b < 3 := fun b hb => by have := b5 b hb; omega
      subst hm
      refine ⟨bl, (mem bl).mpr ⟨by rw [← l1, List.length_map], hg, ?_, fun c hc => ?_⟩, by rw [← hv, ac_cod_map hJ.1 b6]⟩
      · refine (ac_nmf_ne (by rw [hMe]; exact hM)).mpr ⟨j, hJ.1, (ac_nmf_bit hJ.1 bl 0 M).mpr ⟨by rw [hMe]; exact (ac_J_bit hk hJ.1).mpr hJ, fun x b hx => ?_⟩⟩
        have h3 := l3 x (ac_pn j b) (by rw [List.getElem?_map, hx]; rfl)
        rw [Nat.zero_add, (ac_pn_c j hJ.1 b (b6 b (List.mem_of_getElem? hx))).1]
        rcases h3 with h3 | h3
        · exact Or.inl h3
        · exact Or.inr h3.symm
      · have := l4 (ac_pn j c) (ac_pn_c j hJ.1 c hc).2
        rw [ac_set_map hJ.1 b6 hc] at this; exact this
theorem k_X7_kinds {G : ac_G} {Y : ac_Y} {mm : ac_M} {d x : Nat} {T : ac_Tk} (hd : 8 ≤ d) (hM : ac_isM Y x) (rP : ac_RP mm (x + 3) T) (hk : mm x 4 = (T.2.1 : Int)) : ac_C G yX7_kinds cX7_kinds 3 (some .int) d 0 0 Y mm [(2, (x : Int))] (ac_R Y [(0, (ac_knd T : Int))] (fun m => ac_fG mm m x)) := by
  rw [← ac_kinds_eq rP.1.2.1]
  exact k_X7_kinds0 hd hM rP hk
