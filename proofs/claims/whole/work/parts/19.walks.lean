/-! the search for colourings -/
def ac_isW (Y : ac_Y) (w : Nat) : Prop := (Y.2.1 w = (0, 5) ∧ Y.2.2 w 0 = w + 1 ∧ Y.2.2 w 1 = w + 4 ∧ Y.2.2 w 2 = w + 10 ∧ Y.2.2 w 3 = w + 14 ∧ Y.2.2 w 4 = w + 15 ∧ Y.2.2 w 5 = w + 16 ∧ Y.2.2 w 6 = w + 17) ∧ (Y.2.1 (w + 14) = (1, 3) ∧ Y.2.1 (w + 15) = (1, 3) ∧ Y.2.1 (w + 16) = (1, 11) ∧ Y.2.1 (w + 17) = (1, 16)) ∧ ac_isS Y (w + 1) ∧ ac_isC Y (w + 4) ∧ ac_isT Y (w + 10)
/-- what stays as it is while the colourings are visited -/
def ac_W0 (mm : ac_M) (w n k : Nat) (E : List ac_Eq) (pin : Nat → Int) (col : Option (List Nat)) (obs : List ac_Ob) : Prop := ac_RT mm (w + 10) n k E pin col ∧ ac_RC mm (w + 4) E ∧ ac_RS mm (w + 1) obs
theorem ac_W0_keep {mm mm' : ac_M} {w n k : Nat} {E : List ac_Eq} {pin : Nat → Int} {col : Option (List Nat)} {obs : List ac_Ob} (h : ac_W0 mm w n k E pin col obs) (hf : ∀ k', w < k' → k' < w + 14 → mm' k' = mm k') : ac_W0 mm' w n k E pin col obs :=
  ⟨ac_RT_keep h.1 (hf _ (by omega) (by omega)) (hf _ (by omega) (by omega)) (hf _ (by omega) (by omega)) (hf _ (by omega) (by omega)), ac_RC_keep h.2.1 (hf _ (by omega) (by omega)) (hf _ (by omega) (by omega)) (hf _ (by omega) (by omega)), ac_RS_keep h.2.2 (hf _ (by omega) (by omega)) (hf _ (by omega) (by omega)) (hf _ (by omega) (by omega))⟩
/-- the classes of a colouring -/
def ac_cl (mm : ac_M) (r : Nat) (l : List Nat) : Prop := ∀ c, c < 3 → mm r c = (ac_set l c : Int)
def ac_may (k : Nat) (E : List ac_Eq) (pin : Nat → Int) (l : List Nat) (c : Nat) : Bool := decide (c < k) && (decide (pin (l.length + 1) = -1 ∨ pin (l.length + 1) = (c : Int)) && decide (ac_br E (ac_set (l ++ [c]) c) = 0))
theorem ac_may_iff {k : Nat} {E : List ac_Eq} {pin : Nat → Int} {l : List Nat} {c : Nat} : ac_may k E pin l c = true ↔ c < k ∧ (pin (l.length + 1) = -1 ∨ pin (l.length + 1) = (c : Int)) ∧ ac_br E (ac_set (l ++ [c]) c) = 0 := by
  unfold ac_may; rw [Bool.and_eq_true, Bool.and_eq_true, decide_eq_true_eq, decide_eq_true_eq, decide_eq_true_eq]
/-- all colourings that go on from l by f numbers, in their order -/
def ac_ext (A : List Nat → Nat → Bool) : Nat → List Nat → List (List Nat)
  | 0, l => [l]
  | f + 1, l => (if A l 0 = true then ac_ext A f (l ++ [0]) else []) ++ (if A l 1 = true then ac_ext A f (l ++ [1]) else []) ++ (if A l 2 = true then ac_ext A f (l ++ [2]) else [])
def ac_dead (A : List Nat → Nat → Bool) : Nat → List Nat → Nat
  | 0, _ => 0
  | f + 1, l => ((if A l 0 = true then ac_dead A f (l ++ [0]) else 0) + (if A l 1 = true then ac_dead A f (l ++ [1]) else 0) + (if A l 2 = true then ac_dead A f (l ++ [2]) else 0)) + (if A l 0 = true ∨ A l 1 = true ∨ A l 2 = true then 0 else 1)
def ac_deep (A : List Nat → Nat → Bool) : Nat → List Nat → Nat
  | 0, l => l.length
  | f + 1, l => max (max (max l.length (if A l 0 = true then ac_deep A f (l ++ [0]) else 0)) (if A l 1 = true then ac_deep A f (l ++ [1]) else 0)) (if A l 2 = true then ac_deep A f (l ++ [2]) else 0)
/-- what the colours below c give -/
def ac_gl (A : List Nat → Nat → Bool) (f : Nat) (l : List Nat) : Nat → List (List Nat)
  | 0 => []
  | c + 1 => ac_gl A f l c ++ (if A l c = true then ac_ext A f (l ++ [c]) else [])
def ac_gd (A : List Nat → Nat → Bool) (f : Nat) (l : List Nat) : Nat → Nat
  | 0 => 0
  | c + 1 => ac_gd A f l c + (if A l c = true then ac_dead A f (l ++ [c]) else 0)
def ac_ge (A : List Nat → Nat → Bool) (f : Nat) (l : List Nat) : Nat → Nat
  | 0 => l.length
  | c + 1 => max (ac_ge A f l c) (if A l c = true then ac_deep A f (l ++ [c]) else 0)
def ac_ga (A : List Nat → Nat → Bool) (l : List Nat) : Nat → Bool
  | 0 => false
  | c + 1 => ac_ga A l c || A l c
theorem ac_ext_s (A : List Nat → Nat → Bool) (f : Nat) (l : List Nat) : ac_ext A (f + 1) l = ac_gl A f l 3 := by
  show _ = [] ++ _ ++ _ ++ _
  rw [List.nil_append]; rfl
theorem ac_dead_s (A : List Nat → Nat → Bool) (f : Nat) (l : List Nat) : ac_dead A (f + 1) l = ac_gd A f l 3 + (if ac_ga A l 3 = true then 0 else 1) := by
  have h : (A l 0 = true ∨ A l 1 = true ∨ A l 2 = true) ↔ ac_ga A l 3 = true := by
    show _ ↔ (((false || A l 0) || A l 1) || A l 2) = true
    rw [Bool.false_or, Bool.or_eq_true, Bool.or_eq_true]
    exact ⟨fun h => h.elim (fun h => Or.inl (Or.inl h)) (fun h => h.elim (fun h => Or.inl (Or.inr h)) Or.inr), fun h => h.elim (fun h => h.elim Or.inl (fun h => Or.inr (Or.inl h))) (fun h => Or.inr (Or.inr h))⟩
  show _ = (0 + _ + _ + _) + _
  rw [ac_dead, Nat.zero_add]
  by_cases hh : ac_ga A l 3 = true
  · rw [if_pos hh, if_pos (h.mpr hh)]
  · rw [if_neg hh, if_neg (fun q => hh (h.mp q))]
theorem ac_deep_s (A : List Nat → Nat → Bool) (f : Nat) (l : List Nat) : ac_deep A (f + 1) l = ac_ge A f l 3 := rfl
theorem ac_ext_len (A : List Nat → Nat → Bool) : ∀ (f : Nat) (l : List Nat), (ac_ext A f l).length ≤ 3 ^ f
  | 0, l => Nat.le_refl _
  | f + 1, l => by
    have h : ∀ c, (if A l c = true then ac_ext A f (l ++ [c]) else []).length ≤ 3 ^ f := fun c => by
      split
      · exact ac_ext_len A f _
      · exact Nat.zero_le _
    have h0 := h 0
    have h1 := h 1
    have h2 := h 2
    rw [ac_ext, List.length_append, List.length_append, Nat.pow_succ]
    omega
theorem ac_deep_le (A : List Nat → Nat → Bool) : ∀ (f : Nat) (l : List Nat), ac_deep A f l ≤ l.length + f
  | 0, l => Nat.le_refl _
  | f + 1, l => by
    have h : ∀ c, (if A l c = true then ac_deep A f (l ++ [c]) else 0) ≤ l.length + (f + 1) := fun c => by
      split
      · have := ac_deep_le A f (l ++ [c]); rw [List.length_append] at this; simp at this; omega
      · exact Nat.zero_le _
    have h0 := h 0
    have h1 := h 1
    have h2 := h 2
    rw [ac_deep]; omega
theorem ac_ext_pre {A : List Nat → Nat → Bool} : ∀ {f : Nat} {l x : List Nat}, x ∈ ac_ext A f l → x.length = l.length + f ∧ ∃ y, x = l ++ y
  | 0, l, x, h => by
    rw [List.mem_singleton.mp h]; exact ⟨rfl, [], (List.append_nil _).symm⟩
  | f + 1, l, x, h => by
    rw [ac_ext, List.mem_append, List.mem_append] at h
    have key : ∀ c, x ∈ (if A l c = true then ac_ext A f (l ++ [c]) else []) → x.length = l.length + (f + 1) ∧ ∃ y, x = l ++ y := by
      intro c hc
      split at hc
      · obtain ⟨h1, y, h2⟩ := ac_ext_pre hc
        rw [List.length_append] at h1
        simp at h1
        exact ⟨by omega, [c] ++ y, by rw [h2, List.append_assoc]⟩
      · cases hc
    rcases h with (h | h) | h
    · exact key 0 h
    · exact key 1 h
    · exact key 2 h
/-- the colours of number x, as bits -/
def ac_cb : List (List Nat) → Nat → Nat
  | [], _ => 0
  | l :: L, x => (match l[x - 1]? with | some c => 2 ^ c | none => 0) ||| ac_cb L x
theorem ac_cb_app (L M : List (List Nat)) (x : Nat) : ac_cb (L ++ M) x = ac_cb L x ||| ac_cb M x := by
  induction L with
  | nil => rw [List.nil_append, ac_cb, Nat.zero_or]
  | cons l L ih => rw [List.cons_append, ac_cb, ih, ac_cb, Nat.or_assoc]
theorem ac_cb_same {L : List (List Nat)} {x c : Nat} (h : ∀ l ∈ L, l[x - 1]? = some c) : ac_cb L x = if L = [] then 0 else 2 ^ c := by
  induction L with
  | nil => rfl
  | cons l L ih =>
    rw [ac_cb, h l (List.mem_cons_self ..), ih (fun l hl => h l (List.mem_cons_of_mem _ hl)), if_neg (List.cons_ne_nil _ _)]
    show 2 ^ c ||| (if L = [] then 0 else 2 ^ c) = 2 ^ c
    by_cases hL : L = []
    · rw [if_pos hL, Nat.or_zero]
    · rw [if_neg hL, Nat.or_self]
theorem ac_cb_ext {A : List Nat → Nat → Bool} {f c : Nat} {l : List Nat} : ac_cb (ac_ext A f (l ++ [c])) (l.length + 1) = if ac_ext A f (l ++ [c]) = [] then 0 else 2 ^ c := by
  refine ac_cb_same fun x hx => ?_
  obtain ⟨-, y, rfl⟩ := ac_ext_pre hx
  simp
theorem ac_cb_lt {L : List (List Nat)} {x : Nat} (h : ∀ l ∈ L, ∀ c ∈ l, c < 3) : ac_cb L x < 8 := by
  induction L with
  | nil => exact (by decide : (0 : Nat) < 8)
  | cons l L ih =>
    rw [ac_cb]
    refine Nat.or_lt_two_pow (n := 3) ?_ (ih fun l hl => h l (List.mem_cons_of_mem _ hl))
    cases hx : l[x - 1]? with
    | none => exact (by decide : (0 : Nat) < 2 ^ 3)
    | some c => exact Nat.pow_lt_pow_of_lt (by decide) (h l (List.mem_cons_self ..) c (List.mem_of_getElem? hx))
/-- the place of a colouring: the last one if there were more than one -/
def ac_rkA (col : Option (List Nat)) : Nat → Int → List (List Nat) → Int
  | _, r, [] => r
  | i, r, l :: L => ac_rkA col (i + 1) (if col = some l then (i : Int) else r) L
def ac_rk (col : Option (List Nat)) (L : List (List Nat)) : Int := ac_rkA col 0 (-9) L
theorem ac_rkA_snoc (col : Option (List Nat)) (l : List Nat) : ∀ (L : List (List Nat)) (i : Nat) (r : Int), ac_rkA col i r (L ++ [l]) = if col = some l then ((i + L.length : Nat) : Int) else ac_rkA col i r L
  | [], i, r => by simp only [List.nil_append, ac_rkA, List.length_nil, Nat.add_zero]
  | x :: L, i, r => by
    simp only [List.cons_append, ac_rkA, ac_rkA_snoc col l L, List.length_cons]
    rw [show i + 1 + L.length = i + (L.length + 1) by omega]
theorem ac_rk_snoc {col : Option (List Nat)} {l : List Nat} {L : List (List Nat)} : ac_rk col (L ++ [l]) = if col = some l then (L.length : Int) else ac_rk col L := by
  unfold ac_rk; rw [ac_rkA_snoc, Nat.zero_add]
def ac_low (obs : List ac_Ob) (L : List (List Nat)) : Int := match L.findIdx? (ac_ag obs) with
  | some i => (i : Int)
  | none => -9
theorem ac_low_snoc {obs : List ac_Ob} {l : List Nat} {L : List (List Nat)} : ac_low obs (L ++ [l]) = if ac_ag obs l = true then (if L.countP (ac_ag obs) = 0 then (L.length : Int) else ac_low obs L) else ac_low obs L := by
  unfold ac_low
  rw [List.findIdx?_append]
  cases h : L.findIdx? (ac_ag obs) with
  | some i =>
    have h0 : L.countP (ac_ag obs) ≠ 0 := by
      intro hc
      have h2 := List.countP_eq_zero.mp hc
      have h3 := List.findIdx?_eq_none_iff.mpr (fun x hx => by simpa using h2 x hx)
      rw [h3] at h; cases h
    rw [if_neg h0]
    simp
  | none =>
    have h0 : L.countP (ac_ag obs) = 0 := by
      refine List.countP_eq_zero.mpr fun x hx => ?_
      simpa using List.findIdx?_eq_none_iff.mp h x hx
    rw [if_pos h0]
    by_cases ha : ac_ag obs l = true
    · rw [if_pos ha]
      simp [List.findIdx?_cons, ha]
    · rw [if_neg ha]
      simp [List.findIdx?_cons, ha]
theorem ac_set_inj {l l' : List Nat} (hl : l.length = l'.length) (h3 : ∀ c ∈ l, c < 3) (h : ∀ c, c < 3 → ac_set l c = ac_set l' c) : l = l' := by
  refine List.ext_getElem? fun i => ?_
  by_cases hi : i < l.length
  · have e1 : l[i]? = some (l[i]) := List.getElem?_eq_getElem hi
    have hc := h3 _ (List.getElem_mem hi)
    have hb : (ac_set l (l[i])).testBit (i + 1) = true := by rw [ac_set_bit]; simp
    rw [h _ hc, ac_set_bit] at hb
    simp only [Nat.add_sub_cancel, decide_eq_true_eq] at hb
    rw [e1, hb.2]
  · rw [List.getElem?_eq_none (by omega), List.getElem?_eq_none (by omega)]
theorem ac_set_0 (l : List Nat) (c : Nat) : (ac_set l c).testBit 0 = false := by
  rw [ac_set_bit]; simp
theorem ac_set_up {l : List Nat} {c : Nat} : ac_set l c ||| 2 ^ (l.length + 1) = ac_set (l ++ [c]) c := by
  rw [ac_set_snoc, if_pos rfl]
theorem ac_set_dn {l : List Nat} {c : Nat} : ac_andn (ac_set (l ++ [c]) c) (2 ^ (l.length + 1)) = ac_set l c := by
  refine Nat.eq_of_testBit_eq fun j => ?_
  rw [ac_andn_bit, ← ac_set_up, Nat.testBit_or, Nat.testBit_two_pow]
  by_cases h : l.length + 1 = j
  · subst h
    rw [ac_set_bit, List.getElem?_eq_none (by omega)]; simp
  · simp [h]
theorem ac_cl_lay {mm mm' : ac_M} {r c : Nat} {l : List Nat} (h : ac_cl mm r l) (h2 : ∀ j, mm' r j = if j = c then (ac_set (l ++ [c]) c : Int) else mm r j) : ac_cl mm' r (l ++ [c]) := by
  intro j hj
  rw [h2]
  by_cases hc : j = c
  · subst hc; rw [if_pos rfl]
  · rw [if_neg hc, h j hj, ac_set_snoc, if_neg (fun q => hc q.symm)]
theorem ac_cl_lift {mm mm' : ac_M} {r c : Nat} {l : List Nat} (h : ac_cl mm r (l ++ [c])) (h2 : ∀ j, mm' r j = if j = c then (ac_set l c : Int) else mm r j) : ac_cl mm' r l := by
  intro j hj
  rw [h2]
  by_cases hc : j = c
  · subst hc; rw [if_pos rfl]
  · rw [if_neg hc, h j hj, ac_set_snoc, if_neg (fun q => hc q.symm)]
theorem ac_cl_keep {mm mm' : ac_M} {r : Nat} {l : List Nat} (h : ac_cl mm r l) (h2 : mm' r = mm r) : ac_cl mm' r l := by
  intro j hj; rw [h2]; exact h j hj
/-- what has been found, done being visited -/
def ac_RW (mm : ac_M) (w : Nat) (col : Option (List Nat)) (obs : List ac_Ob) (wanted : Int) (done : List (List Nat)) (P : Nat → Nat) (dead deep : Nat) : Prop :=
  (mm w 7 = wanted ∧ mm w 8 = (done.length : Int) ∧ mm w 9 = ac_rk col done ∧ mm w 10 = (dead : Int) ∧ mm w 11 = (deep : Int) ∧ mm w 12 = (done.countP (ac_ag obs) : Int) ∧ mm w 13 = ac_low obs done) ∧ (∀ (x : Nat) (l0 : List Nat), wanted = (x : Int) → done[x]? = some l0 → ac_cl mm (w + 15) l0) ∧ ∀ x, 1 ≤ x → x < 11 → mm (w + 16) x = (P x : Int)
theorem ac_RW_keep {mm mm' : ac_M} {w : Nat} {col : Option (List Nat)} {obs : List ac_Ob} {wanted : Int} {done : List (List Nat)} {P : Nat → Nat} {dead deep : Nat} (h : ac_RW mm w col obs wanted done P dead deep) (h0 : mm' w = mm w) (h1 : mm' (w + 15) = mm (w + 15)) (h2 : mm' (w + 16) = mm (w + 16)) : ac_RW mm' w col obs wanted done P dead deep := by
  unfold ac_RW ac_cl at *; rw [h0, h1, h2]; exact h
theorem ac_RW_P {mm : ac_M} {w : Nat} {col : Option (List Nat)} {obs : List ac_Ob} {wanted : Int} {done : List (List Nat)} {P P' : Nat → Nat} {dead deep : Nat} (h : ac_RW mm w col obs wanted done P dead deep) (hP : ∀ x, 1 ≤ x → x < 11 → P' x = P x) : ac_RW mm w col obs wanted done P' dead deep :=
  ⟨h.1, h.2.1, fun x h1 h2 => by rw [hP x h1 h2]; exact h.2.2 x h1 h2⟩
/-- nothing but the walk's own numbers and rows has changed -/
def ac_fw (mm mm' : ac_M) (w : Nat) : Prop := ∀ k, k ≠ w → (k < w + 14 ∨ w + 16 < k) → mm' k = mm k
theorem ac_low_in {obs : List ac_Ob} {L : List (List Nat)} (h : L.length < 2147483648) : ac_in (ac_low obs L) := by
  unfold ac_low
  cases hx : L.findIdx? (ac_ag obs) with
  | none => exact ⟨by decide, by decide⟩
  | some i =>
    have := (List.findIdx?_eq_some_iff_findIdx_eq.mp hx).1
    exact ⟨by show (-2147483648 : Int) ≤ (i : Int); omega, by show (i : Int) < 2147483648; omega⟩
theorem ac_fw_t {a b c : ac_M} {w : Nat} (h : ac_fw a b w) (h2 : ac_fw b c w) : ac_fw a c w := fun k h0 h1 => (h2 k h0 h1).trans (h k h0 h1)
theorem ac_W0_fw {mm mm' : ac_M} {w n k : Nat} {E : List ac_Eq} {pin : Nat → Int} {col : Option (List Nat)} {obs : List ac_Ob} (h : ac_W0 mm w n k E pin col obs) (hf : ac_fw mm mm' w) : ac_W0 mm' w n k E pin col obs := ac_W0_keep h (fun k' h1 h2 => hf k' (by omega) (by omega))
theorem ac_gl_len (A : List Nat → Nat → Bool) (f : Nat) (l : List Nat) : ∀ c, (ac_gl A f l c).length ≤ c * 3 ^ f
  | 0 => Nat.zero_le _
  | c + 1 => by
    have h1 := ac_gl_len A f l c
    have h2 : (if A l c = true then ac_ext A f (l ++ [c]) else []).length ≤ 3 ^ f := by
      split
      · exact ac_ext_len A f _
      · exact Nat.zero_le _
    rw [ac_gl, List.length_append, Nat.succ_mul]
    omega
theorem ac_ge_le (A : List Nat → Nat → Bool) (f : Nat) (l : List Nat) : ∀ c, ac_ge A f l c ≤ l.length + (f + 1)
  | 0 => by rw [ac_ge]; omega
  | c + 1 => by
    have h1 := ac_ge_le A f l c
    have h2 : (if A l c = true then ac_deep A f (l ++ [c]) else 0) ≤ l.length + (f + 1) := by
      split
      · have := ac_deep_le A f (l ++ [c]); rw [List.length_append] at this; simp at this; omega
      · exact Nat.zero_le _
    rw [ac_ge]; omega
theorem ac_P_step {A : List Nat → Nat → Bool} {f c : Nat} {l : List Nat} {P : Nat → Nat} (hA : A l c = true) (y : Nat) :
    P y ||| (if l.length < y then ac_cb (ac_gl A f l (c + 1)) y else 0) = (if y = l.length + 1 then (((P y ||| (if l.length < y then ac_cb (ac_gl A f l c) y else 0)) ||| (if (l ++ [c]).length < y then ac_cb (ac_ext A f (l ++ [c])) y else 0)) ||| (if ac_ext A f (l ++ [c]) = [] then 0 else 2 ^ c)) else ((P y ||| (if l.length < y then ac_cb (ac_gl A f l c) y else 0)) ||| (if (l ++ [c]).length < y then ac_cb (ac_ext A f (l ++ [c])) y else 0))) := by
  have hlen : (l ++ [c]).length = l.length + 1 := by simp
  rw [ac_gl, if_pos hA, ac_cb_app, hlen]
  by_cases h1 : y = l.length + 1
  · subst h1
    rw [if_pos (by omega), if_pos rfl, if_pos (by omega), if_neg (by omega), Nat.or_zero, ac_cb_ext, Nat.or_assoc]
  · rw [if_neg h1]
    by_cases h2 : l.length < y
    · rw [if_pos h2, if_pos h2, if_pos (by omega), Nat.or_assoc]
    · rw [if_neg h2, if_neg h2, if_neg (by omega), Nat.or_zero, Nat.or_zero]
theorem ac_may_pre {k : Nat} {E : List ac_Eq} {pin : Nat → Int} {l : List Nat} {c : Nat} (h : ac_may k E pin l c = true) (hl : ∀ x ∈ l, x < k) : ∀ x ∈ l ++ [c], x < k := by
  intro x hx
  rcases List.mem_append.mp hx with hx | hx
  · exact hl x hx
  · rw [List.mem_singleton.mp hx]; exact (ac_may_iff.mp h).1
