/-! colourings as values -/
def ac_mayS (S k : Nat) (E : List ac_Eq) (pin : Nat → Int) (l : List Nat) (c : Nat) : Bool := decide (c < k) && (decide (pin (l.length + 1) = -1 ∨ pin (l.length + 1) = (c : Int)) && decide (ac_br E (ac_set (l ++ [c]) c) &&& S = 0))
theorem ac_mayS_iff {S k : Nat} {E : List ac_Eq} {pin : Nat → Int} {l : List Nat} {c : Nat} : ac_mayS S k E pin l c = true ↔ c < k ∧ (pin (l.length + 1) = -1 ∨ pin (l.length + 1) = (c : Int)) ∧ ac_br E (ac_set (l ++ [c]) c) &&& S = 0 := by
  unfold ac_mayS; rw [Bool.and_eq_true, Bool.and_eq_true, decide_eq_true_eq, decide_eq_true_eq, decide_eq_true_eq]
theorem ac_br_all {E : List ac_Eq} (X : Nat) : ac_br E X &&& (2 ^ E.length - 1) = ac_br E X := by
  refine Nat.eq_of_testBit_eq fun i => ?_
  rw [Nat.testBit_and, Nat.testBit_two_pow_sub_one]
  cases h : (ac_br E X).testBit i with
  | false => rfl
  | true =>
    obtain ⟨q, hq, -⟩ := ac_br_bit.mp h
    rw [decide_eq_true (List.getElem?_eq_some_iff.mp hq).1]; rfl
theorem ac_may_all {k : Nat} {E : List ac_Eq} {pin : Nat → Int} : ac_may k E pin = ac_mayS (2 ^ E.length - 1) k E pin := by
  funext l c; unfold ac_may ac_mayS; rw [ac_br_all]
theorem ac_br_mono {E : List ac_Eq} {X Z : Nat} (h : ac_sub X Z) : ac_sub (ac_br E X) (ac_br E Z) := by
  intro e he
  obtain ⟨q, h1, h2⟩ := ac_br_bit.mp he
  obtain ⟨x, y, a, b, c, d, f, g⟩ := ac_sol_iff.mp h2
  exact ac_br_bit.mpr ⟨q, h1, ac_sol_iff.mpr ⟨x, y, a, b, c, h x d, h y f, h _ g⟩⟩
theorem ac_and_mono {a b S : Nat} (h : ac_sub a b) (h0 : b &&& S = 0) : a &&& S = 0 := by
  refine Nat.eq_of_testBit_eq fun i => ?_
  rw [Nat.zero_testBit, Nat.testBit_and]
  cases h1 : a.testBit i with
  | false => rfl
  | true =>
    have h2 : (b &&& S).testBit i = false := by rw [h0, Nat.zero_testBit]
    rw [Nat.testBit_and, h i h1] at h2; exact h2
theorem ac_set_sub_app (l y : List Nat) (c : Nat) : ac_sub (ac_set l c) (ac_set (l ++ y) c) := by
  intro i hi
  rw [ac_set_bit, decide_eq_true_eq] at hi ⊢
  refine ⟨hi.1, ?_⟩
  rw [List.getElem?_append_left (List.getElem?_eq_some_iff.mp hi.2).1]; exact hi.2
/-- what is found is what may be put number by number -/
theorem ac_ext_mem {A : List Nat → Nat → Bool} : ∀ {f : Nat} {p x : List Nat}, x ∈ ac_ext A f p ↔ ∃ y : List Nat, x = p ++ y ∧ y.length = f ∧ ∀ i c, y[i]? = some c → c < 3 ∧ A (p ++ y.take i) c = true
  | 0, p, x => by
    constructor
    · intro h; rw [List.mem_singleton.mp h]; exact ⟨[], (List.append_nil _).symm, rfl, fun i c h => by simp at h⟩
    · rintro ⟨y, rfl, hy, -⟩
      rw [List.eq_nil_of_length_eq_zero hy, List.append_nil]; exact List.mem_singleton.mpr rfl
  | f + 1, p, x => by
    have key : ∀ c, c < 3 → (x ∈ (if A p c = true then ac_ext A f (p ++ [c]) else []) ↔ ∃ y : List Nat, x = p ++ (c :: y) ∧ y.length = f ∧ ∀ i d, (c :: y)[i]? = some d → d < 3 ∧ A (p ++ (c :: y).take i) d = true) := by
      intro c hc
      constructor
      · intro h
        split at h
        · rename_i hA
          obtain ⟨y, rfl, hy, hh⟩ := ac_ext_mem.mp h
          refine ⟨y, by simp, hy, fun i d hd => ?_⟩
          cases i with
          | zero => cases hd; rw [List.take_zero, List.append_nil]; exact ⟨hc, hA⟩
          | succ i => have := hh i d hd; rw [List.take_succ_cons]; rw [List.append_assoc] at this; exact this
        · cases h
      · rintro ⟨y, rfl, hy, hh⟩
        have h0 := hh 0 c rfl
        rw [List.take_zero, List.append_nil] at h0
        rw [if_pos h0.2]
        refine ac_ext_mem.mpr ⟨y, by simp, hy, fun i d hd => ?_⟩
        have := hh (i + 1) d hd
        rw [List.take_succ_cons] at this
        rw [List.append_assoc]; exact this
    rw [ac_ext, List.mem_append, List.mem_append, key 0 (by decide), key 1 (by decide), key 2 (by decide)]
    constructor
    · rintro ((⟨y, h1, h2, h3⟩ | ⟨y, h1, h2, h3⟩) | ⟨y, h1, h2, h3⟩)
      · exact ⟨0 :: y, h1, by simp [h2], h3⟩
      · exact ⟨1 :: y, h1, by simp [h2], h3⟩
      · exact ⟨2 :: y, h1, by simp [h2], h3⟩
    · rintro ⟨y, h1, h2, h3⟩
      cases y with
      | nil => simp at h2
      | cons c y =>
        have hc := (h3 0 c rfl).1
        have h4 : y.length = f := by simpa using h2
        rcases (show c = 0 ∨ c = 1 ∨ c = 2 by omega) with rfl | rfl | rfl
        · exact Or.inl (Or.inl ⟨y, h1, h4, h3⟩)
        · exact Or.inl (Or.inr ⟨y, h1, h4, h3⟩)
        · exact Or.inr ⟨y, h1, h4, h3⟩
theorem ac_ext_nodup {A : List Nat → Nat → Bool} : ∀ {f : Nat} {p : List Nat}, (ac_ext A f p).Nodup
  | 0, p => by rw [ac_ext]; simp
  | f + 1, p => by
    have hn : ∀ c, (if A p c = true then ac_ext A f (p ++ [c]) else []).Nodup := fun c => by
      split
      · exact ac_ext_nodup
      · exact List.nodup_nil
    have hd : ∀ c x, x ∈ (if A p c = true then ac_ext A f (p ++ [c]) else []) → x[p.length]? = some c := by
      intro c x hx
      split at hx
      · obtain ⟨-, y, rfl⟩ := ac_ext_pre hx; simp
      · cases hx
    have hdd : ∀ c d, c ≠ d → ∀ x, x ∈ (if A p c = true then ac_ext A f (p ++ [c]) else []) → ∀ z, z ∈ (if A p d = true then ac_ext A f (p ++ [d]) else []) → x ≠ z := by
      rintro c d hcd x hx z hz rfl
      have h1 := hd c x hx
      rw [hd d x hz] at h1
      exact hcd (Option.some.inj h1).symm
    rw [ac_ext, List.nodup_append, List.nodup_append]
    refine ⟨⟨hn 0, hn 1, fun x hx z hz => hdd 0 1 (by decide) x hx z hz⟩, hn 2, fun x hx z hz => ?_⟩
    rcases List.mem_append.mp hx with hx | hx
    · exact hdd 0 2 (by decide) x hx z hz
    · exact hdd 1 2 (by decide) x hx z hz
theorem ac_L_mem {S n k : Nat} {E : List ac_Eq} {pin : Nat → Int} {l : List Nat} (hk : k ≤ 3) : l ∈ ac_ext (ac_mayS S k E pin) n [] ↔ l.length = n ∧ (∀ c ∈ l, c < k) ∧ (∀ i c : Nat, l[i]? = some c → pin (i + 1) = -1 ∨ pin (i + 1) = (c : Int)) ∧ ∀ c, c < 3 → ac_br E (ac_set l c) &&& S = 0 := by
  rw [ac_ext_mem]
  constructor
  · rintro ⟨y, hly, hy, hh⟩
    have e : y = l := by rw [hly]; rfl
    subst e
    have ht : ∀ i c, y[i]? = some c → (y.take i).length = i := fun i c hc => by
      have := (List.getElem?_eq_some_iff.mp hc).1
      rw [List.length_take]; omega
    refine ⟨hy, fun c hc => ?_, fun i c hc => ?_, fun c hc => ?_⟩
    · obtain ⟨i, hi⟩ := List.getElem?_of_mem hc
      exact (ac_mayS_iff.mp (hh i c hi).2).1
    · have := (ac_mayS_iff.mp (hh i c hc).2).2.1
      rw [List.nil_append, ht i c hc] at this; exact this
    · -- the last number that has the colour
      have key : ∀ m, m ≤ y.length → ac_br E (ac_set (y.take m) c) &&& S = 0 := by
        intro m
        induction m with
        | zero =>
          intro _
          have : ac_br E (ac_set (y.take 0) c) = 0 := by
            refine Nat.eq_of_testBit_eq fun e => ?_
            rw [Nat.zero_testBit, Bool.eq_false_iff]
            intro he
            obtain ⟨q, -, h2⟩ := ac_br_bit.mp he
            obtain ⟨x, z, -, -, -, h3, -⟩ := ac_sol_iff.mp h2
            rw [ac_set_bit] at h3; simp at h3
          rw [this, Nat.zero_and]
        | succ m ih =>
          intro hm
          obtain ⟨d, hd⟩ : ∃ d, y[m]? = some d := ⟨_, List.getElem?_eq_getElem (by omega)⟩
          have e : y.take (m + 1) = y.take m ++ [d] := by rw [List.take_add_one, hd]; rfl
          rw [e]
          by_cases hdc : d = c
          · subst hdc
            have := (ac_mayS_iff.mp (hh m d hd).2).2.2
            rw [List.nil_append] at this; exact this
          · rw [ac_set_snoc, if_neg hdc]; exact ih (by omega)
      have := key y.length (Nat.le_refl _)
      rw [List.take_length] at this; exact this
  · rintro ⟨h1, h2, h3, h4⟩
    refine ⟨l, rfl, h1, fun i c hc => ?_⟩
    have hil := (List.getElem?_eq_some_iff.mp hc).1
    have hck := h2 c (List.mem_of_getElem? hc)
    have ht : (l.take i).length = i := by rw [List.length_take]; omega
    refine ⟨by omega, ac_mayS_iff.mpr ⟨hck, ?_, ?_⟩⟩
    · rw [List.nil_append, ht]; exact h3 i c hc
    · rw [List.nil_append]
      have e : l = (l.take i ++ [c]) ++ l.drop (i + 1) := by
        have e2 : l.take (i + 1) = l.take i ++ [c] := by rw [List.take_add_one, hc]; rfl
        rw [← e2, List.take_append_drop]
      refine ac_and_mono (ac_br_mono ?_) (h4 c (by omega))
      have := ac_set_sub_app (l.take i ++ [c]) (l.drop (i + 1)) c
      rw [← e] at this; exact this
/-- the colourings that some of the equations allow are those of all that break none of them -/
theorem ac_ext_filter {S k : Nat} {E : List ac_Eq} {pin : Nat → Int} (hk : k ≤ 3) : ∀ (f : Nat) (p : List Nat), (∀ c, c < 3 → ac_br E (ac_set p c) &&& S = 0) → ac_ext (ac_mayS S k E pin) f p = (ac_ext (ac_pinA k pin) f p).filter (fun x => decide (ac_brk E x &&& S = 0))
  | 0, p, h => by
    have e : ac_brk E p &&& S = 0 := by
      unfold ac_brk
      rw [Nat.and_or_distrib_right, Nat.and_or_distrib_right, h 0 (by decide), h 1 (by decide), h 2 (by decide)]; rfl
    rw [ac_ext, ac_ext, List.filter_cons, if_pos (decide_eq_true e)]; rfl
  | f + 1, p, h => by
    have key : ∀ c, c < 3 → (if ac_mayS S k E pin p c = true then ac_ext (ac_mayS S k E pin) f (p ++ [c]) else []) = (if ac_pinA k pin p c = true then ac_ext (ac_pinA k pin) f (p ++ [c]) else []).filter (fun x => decide (ac_brk E x &&& S = 0)) := by
      intro c hc
      by_cases h1 : ac_pinA k pin p c = true
      · obtain ⟨a1, a2⟩ := ac_pinA_iff.mp h1
        by_cases h2 : ac_br E (ac_set (p ++ [c]) c) &&& S = 0
        · rw [if_pos (ac_mayS_iff.mpr ⟨a1, a2, h2⟩), if_pos h1]
          refine ac_ext_filter hk f _ fun d hd => ?_
          by_cases hdc : c = d
          · subst hdc; exact h2
          · rw [ac_set_snoc, if_neg hdc]; exact h d hd
        · rw [if_neg (fun q => h2 (ac_mayS_iff.mp q).2.2), if_pos h1]
          refine (List.filter_eq_nil_iff.mpr fun x hx => ?_).symm
          obtain ⟨-, y, rfl⟩ := ac_ext_pre hx
          rw [decide_eq_true_eq]
          intro hb
          apply h2
          refine ac_and_mono (ac_br_mono (ac_set_sub_app (p ++ [c]) y c)) ?_
          refine ac_and_mono ?_ hb
          intro i hi
          unfold ac_brk
          rw [Nat.testBit_or, Nat.testBit_or, Bool.or_eq_true, Bool.or_eq_true]
          rcases (show c = 0 ∨ c = 1 ∨ c = 2 by omega) with rfl | rfl | rfl
          · exact Or.inl (Or.inl hi)
          · exact Or.inl (Or.inr hi)
          · exact Or.inr hi
      · rw [if_neg h1, if_neg (fun q => h1 (ac_pinA_iff.mpr ⟨(ac_mayS_iff.mp q).1, (ac_mayS_iff.mp q).2.1⟩))]; rfl
    rw [ac_ext, ac_ext, List.filter_append, List.filter_append, key 0 (by decide), key 1 (by decide), key 2 (by decide)]
theorem ac_br_nil {E : List ac_Eq} (c : Nat) : ac_br E (ac_set [] c) = 0 := by
  refine Nat.eq_of_testBit_eq fun e => ?_
  rw [Nat.zero_testBit, Bool.eq_false_iff]
  intro he
  obtain ⟨q, -, h2⟩ := ac_br_bit.mp he
  obtain ⟨x, z, -, -, -, h3, -⟩ := ac_sol_iff.mp h2
  rw [ac_set_bit] at h3; simp at h3
theorem ac_hs_len {S n k : Nat} {E : List ac_Eq} {pin : Nat → Int} (hk : k ≤ 3) (hE : E.length ≤ 4) : ac_hs (ac_tl E (ac_ext (ac_pinA k pin) n [])) S 16 = (ac_ext (ac_mayS S k E pin) n []).length := by
  rw [ac_hs_count hE, ac_ext_filter hk n [] (fun c _ => by rw [ac_br_nil, Nat.zero_and]), List.countP_eq_length_filter]
/-- the colourings of a task -/
def ac_Lt (T : ac_Tk) : List (List Nat) := ac_ext (ac_may T.2.1 T.2.2.1 T.2.2.2.1) T.1 []
def ac_okS (T : ac_Tk) : Prop := ac_okK T.1 T.2.1 T.2.2.1 T.2.2.2.1 T.2.2.2.2 ∧ (∀ l, T.2.2.2.2 = some l → l ∈ ac_Lt T) ∧ (T.2.2.2.2 = none → ac_Lt T = [])
def ac_stl (T : ac_Tk) : ac_Tk := if ac_rk T.2.2.2.2 (ac_Lt T) = -9 then (T.1, T.2.1, T.2.2.1, T.2.2.2.1, (ac_Lt T).head?) else T
theorem ac_Lt_mem {T : ac_Tk} (hk : T.2.1 ≤ 3) {l : List Nat} : l ∈ ac_Lt T ↔ l.length = T.1 ∧ (∀ c ∈ l, c < T.2.1) ∧ (∀ i c : Nat, l[i]? = some c → T.2.2.2.1 (i + 1) = -1 ∨ T.2.2.2.1 (i + 1) = (c : Int)) ∧ ∀ c, c < 3 → ac_br T.2.2.1 (ac_set l c) = 0 := by
  unfold ac_Lt
  rw [ac_may_all, ac_L_mem hk]
  simp only [ac_br_all]
theorem ac_Lt_nodup (T : ac_Tk) : (ac_Lt T).Nodup := ac_ext_nodup
theorem ac_Lt_len (T : ac_Tk) (h : T.1 ≤ 10) : (ac_Lt T).length ≤ 59049 := Nat.le_trans (ac_ext_len _ _ _) (Nat.pow_le_pow_right (by decide) h)
theorem ac_rkA_no {col : Option (List Nat)} : ∀ (L : List (List Nat)) (i : Nat) (r : Int), (∀ l, col = some l → l ∉ L) → ac_rkA col i r L = r
  | [], i, r, _ => rfl
  | x :: L, i, r, h => by
    rw [ac_rkA, if_neg (fun q => h x q (List.mem_cons_self ..)), ac_rkA_no L (i + 1) r (fun l hl hm => h l hl (List.mem_cons_of_mem _ hm))]
theorem ac_rkA_yes {l : List Nat} : ∀ (L1 L2 : List (List Nat)) (i : Nat) (r : Int), l ∉ L2 → ac_rkA (some l) i r (L1 ++ l :: L2) = ((i + L1.length : Nat) : Int)
  | [], L2, i, r, h => by
    rw [List.nil_append, ac_rkA, if_pos rfl, ac_rkA_no L2 (i + 1) (i : Int) (fun x hx => by cases hx; exact h)]; rfl
  | x :: L1, L2, i, r, h => by
    rw [List.cons_append, ac_rkA, ac_rkA_yes L1 L2 (i + 1) _ h, List.length_cons, show i + 1 + L1.length = i + (L1.length + 1) by omega]
theorem ac_rk_no {col : Option (List Nat)} {L : List (List Nat)} (h : ∀ l, col = some l → l ∉ L) : ac_rk col L = -9 := ac_rkA_no L 0 (-9) h
theorem ac_rk_yes {l : List Nat} {L1 L2 : List (List Nat)} (h : l ∉ L2) : ac_rk (some l) (L1 ++ l :: L2) = (L1.length : Int) := by
  unfold ac_rk; rw [ac_rkA_yes L1 L2 0 _ h, Nat.zero_add]
theorem ac_rk_in {col : Option (List Nat)} {L : List (List Nat)} (hn : L.Nodup) : (ac_rk col L = -9 ∧ ∀ l, col = some l → l ∉ L) ∨ (0 ≤ ac_rk col L ∧ ac_rk col L < L.length ∧ ∃ l, col = some l ∧ l ∈ L) := by
  cases col with
  | none => exact Or.inl ⟨ac_rk_no (fun l h => by cases h), fun l h => by cases h⟩
  | some l =>
    by_cases h : l ∈ L
    · obtain ⟨L1, L2, rfl⟩ := List.append_of_mem h
      have h2 : l ∉ L2 := by
        have := (List.nodup_append.mp hn).2.1
        exact (List.nodup_cons.mp this).1
      rw [ac_rk_yes h2]
      refine Or.inr ⟨by omega, ?_, l, rfl, h⟩
      rw [List.length_append, List.length_cons]; omega
    · exact Or.inl ⟨ac_rk_no (fun x hx => by cases hx; exact h), fun x hx => by cases hx; exact h⟩
theorem ac_stl_ok {T : ac_Tk} (h : ac_okK T.1 T.2.1 T.2.2.1 T.2.2.2.1 T.2.2.2.2) : ac_okS (ac_stl T) := by
  have hk := h.2.1.2
  unfold ac_stl
  by_cases hr : ac_rk T.2.2.2.2 (ac_Lt T) = -9
  · rw [if_pos hr]
    have hL : ac_Lt (T.1, T.2.1, T.2.2.1, T.2.2.2.1, (ac_Lt T).head?) = ac_Lt T := rfl
    refine ⟨⟨h.1, h.2.1, h.2.2.1, h.2.2.2.1, h.2.2.2.2.1, fun l hl => ?_⟩, fun l hl => ?_, fun hl => ?_⟩
    · have hl2 : (ac_Lt T).head? = some l := hl
      have hm : l ∈ ac_Lt T := List.mem_of_mem_head? (by rw [hl2]; rfl)
      obtain ⟨a, b, -⟩ := (ac_Lt_mem hk).mp hm
      exact ⟨a, b⟩
    · rw [hL]; exact List.mem_of_mem_head? (by rw [show (ac_Lt T).head? = some l from hl]; rfl)
    · rw [hL]; exact List.head?_eq_none_iff.mp hl
  · rw [if_neg hr]
    refine ⟨h, fun l hl => ?_, fun hl => ?_⟩
    · rcases ac_rk_in (col := T.2.2.2.2) (ac_Lt_nodup T) with h1 | ⟨-, -, l', h1, h2⟩
      · exact absurd h1.1 hr
      · rw [hl] at h1; cases h1; exact h2
    · rw [hl] at hr; exact absurd (ac_rk_no (fun l h => by cases h)) hr
theorem ac_stl_same {T : ac_Tk} : (ac_stl T).1 = T.1 ∧ (ac_stl T).2.1 = T.2.1 ∧ (ac_stl T).2.2.1 = T.2.2.1 ∧ (ac_stl T).2.2.2.1 = T.2.2.2.1 ∧ ac_Lt (ac_stl T) = ac_Lt T := by
  unfold ac_stl; split <;> exact ⟨rfl, rfl, rfl, rfl, rfl⟩
/-- how deep the search goes, how far there are colourings -/
theorem ac_deep_ext {A : List Nat → Nat → Bool} : ∀ (f m : Nat) (l : List Nat), m ≤ f → (ac_ext A m l ≠ [] ↔ m + l.length ≤ ac_deep A f l)
  | 0, m, l, h => by
    obtain rfl : m = 0 := by omega
    rw [ac_ext, ac_deep]; simp
  | f + 1, 0, l, h => by
    have : l.length ≤ ac_deep A (f + 1) l := by rw [ac_deep]; omega
    rw [ac_ext]; simp; exact this
  | f + 1, m + 1, l, h => by
    have key : ∀ c, ((if A l c = true then ac_ext A m (l ++ [c]) else []) ≠ [] ↔ m + 1 + l.length ≤ (if A l c = true then ac_deep A f (l ++ [c]) else 0)) := by
      intro c
      by_cases hA : A l c = true
      · rw [if_pos hA, if_pos hA, ac_deep_ext f m (l ++ [c]) (by omega), List.length_append, List.length_singleton]; omega
      · rw [if_neg hA, if_neg hA]; simp
    have k0 := key 0
    have k1 := key 1
    have k2 := key 2
    rw [ac_ext, ac_deep]
    generalize (if A l 0 = true then ac_ext A m (l ++ [0]) else []) = x0 at *
    generalize (if A l 1 = true then ac_ext A m (l ++ [1]) else []) = x1 at *
    generalize (if A l 2 = true then ac_ext A m (l ++ [2]) else []) = x2 at *
    generalize (if A l 0 = true then ac_deep A f (l ++ [0]) else 0) = d0 at *
    generalize (if A l 1 = true then ac_deep A f (l ++ [1]) else 0) = d1 at *
    generalize (if A l 2 = true then ac_deep A f (l ++ [2]) else 0) = d2 at *
    have e : (x0 ++ x1 ++ x2 ≠ [] ↔ x0 ≠ [] ∨ x1 ≠ [] ∨ x2 ≠ []) := by
      cases x0 <;> cases x1 <;> cases x2 <;> simp
    rw [e, k0, k1, k2]; omega
/-- the smallest N that no colouring avoids, from n on -/
def ac_lst (A : List Nat → Nat → Bool) : Nat → Nat → Int
  | 0, _ => -9
  | f + 1, n => if ac_ext A n [] = [] then (n : Int) else ac_lst A f (n + 1)
def ac_lim (A : List Nat → Nat → Bool) : Int := if ac_deep A 10 [] < 10 then (ac_deep A 10 [] : Int) + 1 else -9
theorem ac_lst_lim {A : List Nat → Nat → Bool} : ∀ (f n : Nat), n + f = 11 → n ≤ ac_deep A 10 [] + 1 → ac_lst A f n = ac_lim A
  | 0, n, h, hn => by
    rw [ac_lst, ac_lim, if_neg (by omega)]
  | f + 1, n, h, hn => by
    have hx := ac_deep_ext (A := A) 10 n [] (by omega)
    rw [List.length_nil, Nat.add_zero] at hx
    rw [ac_lst]
    by_cases he : ac_ext A n [] = []
    · rw [if_pos he]
      have h2 : ¬ n ≤ ac_deep A 10 [] := fun q => hx.mpr q he
      rw [ac_lim, if_pos (by omega)]; omega
    · rw [if_neg he]
      exact ac_lst_lim f (n + 1) (by omega) (by have := hx.mp he; omega)
theorem ac_least {A : List Nat → Nat → Bool} : ac_lst A 10 1 = ac_lim A := ac_lst_lim 10 1 rfl (by omega)
/-- painting -/
def ac_pt (T : ac_Tk) (x c : Nat) : Bool := match T.2.2.2.2 with
  | none => false
  | some l => decide (l.getD (x - 1) 0 ≠ c) && decide (l.set (x - 1) c ∈ ac_Lt T)
theorem ac_set_or {l : List Nat} {x c : Nat} (hx : 1 ≤ x ∧ x ≤ l.length) : ac_set (l.set (x - 1) c) c = ac_set l c ||| 2 ^ x := by
  rw [ac_set_set l (x - 1) c c (by omega), if_pos rfl, show x - 1 + 1 = x by omega]
  refine Nat.eq_of_testBit_eq fun j => ?_
  rw [Nat.testBit_or, Nat.testBit_or, ac_andn_bit, Nat.testBit_two_pow]
  by_cases h : x = j <;> simp [h]
theorem ac_pt_iff {T : ac_Tk} {l : List Nat} {x c : Nat} (hk : T.2.1 ≤ 3) (hl : l ∈ ac_Lt T) (hc : c < T.2.1) (hx : 1 ≤ x ∧ x ≤ T.1) : l.set (x - 1) c ∈ ac_Lt T ↔ (T.2.2.2.1 x = -1 ∨ T.2.2.2.1 x = (c : Int)) ∧ ac_br T.2.2.1 (ac_set l c ||| 2 ^ x) = 0 := by
  obtain ⟨h1, h2, h3, h4⟩ := (ac_Lt_mem hk).mp hl
  rw [ac_Lt_mem hk, ← ac_set_or (by omega)]
  have hg : (l.set (x - 1) c)[x - 1]? = some c := by rw [List.getElem?_set_self (by omega)]
  constructor
  · rintro ⟨-, -, g3, g4⟩
    have := g3 (x - 1) c hg
    rw [show x - 1 + 1 = x by omega] at this
    exact ⟨this, g4 c (by omega)⟩
  · rintro ⟨g3, g4⟩
    refine ⟨by rw [List.length_set]; exact h1, fun d hd => ?_, fun i d hd => ?_, fun d hd => ?_⟩
    · rcases List.mem_or_eq_of_mem_set hd with hd | hd
      · exact h2 d hd
      · rw [hd]; exact hc
    · by_cases hi : x - 1 = i
      · subst hi
        rw [hg] at hd; cases hd
        rw [show x - 1 + 1 = x by omega]; exact g3
      · rw [List.getElem?_set_ne hi] at hd; exact h3 i d hd
    · by_cases hdc : c = d
      · subst hdc; exact g4
      · rw [ac_set_set l (x - 1) c d (by omega), if_neg hdc]
        have hs := ac_br_mono (E := T.2.2.1) (ac_andn_sub (ac_set l d) (2 ^ (x - 1 + 1)))
        refine Nat.eq_of_testBit_eq fun e => ?_
        rw [Nat.zero_testBit, Bool.eq_false_iff]
        intro he
        have := hs e he
        rw [h4 d hd, Nat.zero_testBit] at this; cases this
/-- how many of the first m numbers have other colours -/
def ac_dif (l l' : List Nat) : Nat → Nat
  | 0 => 0
  | m + 1 => ac_dif l l' m + if l[m]? = l'[m]? then 0 else 1
theorem ac_dif_le (l l' : List Nat) : ∀ m, ac_dif l l' m ≤ m
  | 0 => Nat.le_refl _
  | m + 1 => by have := ac_dif_le l l' m; rw [ac_dif]; split <;> omega
theorem ac_alike_dif {l l' : List Nat} {n : Nat} (hl : l.length = n) (hl' : l'.length = n) (hn : n ≤ 10) (h3 : ∀ c ∈ l, c < 3) : ac_bits (ac_set l 0 &&& ac_set l' 0) + ac_bits (ac_set l 1 &&& ac_set l' 1) + ac_bits (ac_set l 2 &&& ac_set l' 2) + ac_dif l l' n = n := by
  have key : ∀ m, (List.range (m + 1)).countP (fun i => (ac_set l 0 &&& ac_set l' 0).testBit i) + (List.range (m + 1)).countP (fun i => (ac_set l 1 &&& ac_set l' 1).testBit i) + (List.range (m + 1)).countP (fun i => (ac_set l 2 &&& ac_set l' 2).testBit i) + ac_dif l l' (min m n) = min m n := by
    intro m
    induction m with
    | zero =>
      have hb0 : ∀ c, (ac_set l c &&& ac_set l' c).testBit 0 = false := by intro c; rw [Nat.testBit_and, ac_set_0]; rfl
      rw [show List.range (0 + 1) = [0] from rfl]
      simp only [List.countP_cons, List.countP_nil, hb0, Nat.zero_min, ac_dif]
      rfl
    | succ m ih =>
      have hs : ∀ p : Nat → Bool, (List.range (m + 1 + 1)).countP p = (List.range (m + 1)).countP p + if p (m + 1) = true then 1 else 0 := by
        intro p; rw [List.range_succ, List.countP_append]; congr 1
        rw [List.countP_cons, List.countP_nil, Nat.zero_add]
      rw [hs, hs, hs]
      generalize (List.range (m + 1)).countP (fun i => (ac_set l 0 &&& ac_set l' 0).testBit i) = A at ih ⊢
      generalize (List.range (m + 1)).countP (fun i => (ac_set l 1 &&& ac_set l' 1).testBit i) = B at ih ⊢
      generalize (List.range (m + 1)).countP (fun i => (ac_set l 2 &&& ac_set l' 2).testBit i) = C at ih ⊢
      have hb : ∀ c, (ac_set l c &&& ac_set l' c).testBit (m + 1) = decide (l[m]? = some c ∧ l'[m]? = some c) := by
        intro c; rw [Nat.testBit_and, ac_set_bit, ac_set_bit, ← Bool.decide_and]; simp
      rw [hb, hb, hb]
      by_cases hm : m < n
      · have e1 : l[m]? = some (l[m]'(by omega)) := List.getElem?_eq_getElem (by omega)
        have e2 : l'[m]? = some (l'[m]'(by omega)) := List.getElem?_eq_getElem (by omega)
        have hc := h3 _ (List.getElem_mem (show m < l.length by omega))
        rw [show min m n = m by omega] at ih
        rw [show min (m + 1) n = m + 1 by omega, ac_dif, e1, e2]
        simp only [Option.some.injEq, decide_eq_true_eq]
        generalize l[m]'(by omega) = a at *
        generalize l'[m]'(by omega) = b at *
        by_cases hab : a = b
        · subst hab
          rcases (show a = 0 ∨ a = 1 ∨ a = 2 by omega) with rfl | rfl | rfl <;> simp <;> omega
        · rw [if_neg (fun q => hab (by omega)), if_neg (fun q => hab (by omega)), if_neg (fun q => hab (by omega)), if_neg hab]; omega
      · rw [List.getElem?_eq_none (show l.length ≤ m by omega)]
        rw [show min m n = n by omega] at ih
        rw [show min (m + 1) n = n by omega]
        simp; omega
  have h := key 11
  rw [show min 11 n = n by omega] at h
  exact h
