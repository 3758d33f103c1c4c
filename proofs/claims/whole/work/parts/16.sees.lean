/-! observations, sets without equal colours -/
abbrev ac_Ob : Type := Nat × Nat × Nat
def ac_ago (l : List Nat) (o : ac_Ob) : Bool := !(decide (o.1 ≤ l.length ∧ o.2.1 ≤ l.length)) || (decide (l[o.1 - 1]? = l[o.2.1 - 1]?) == decide (o.2.2 = 1))
def ac_ag (obs : List ac_Ob) (l : List Nat) : Bool := obs.all (ac_ago l)
def ac_oko (o : ac_Ob) : Prop := (1 ≤ o.1 ∧ o.1 ≤ 10) ∧ (1 ≤ o.2.1 ∧ o.2.1 ≤ 10) ∧ o.1 ≠ o.2.1 ∧ (o.2.2 = 0 ∨ o.2.2 = 1)
def ac_isS (Y : ac_Y) (s : Nat) : Prop := Y.2.1 s = (0, 2) ∧ Y.2.1 (s + 1) = (1, 6) ∧ Y.2.1 (s + 2) = (2, 6) ∧ Y.2.2 s 0 = s + 1 ∧ Y.2.2 s 1 = s + 2
def ac_RS (mm : ac_M) (s : Nat) (obs : List ac_Ob) : Prop := (obs.length ≤ 6 ∧ ∀ o ∈ obs, ac_oko o) ∧ mm s 2 = (obs.length : Int) ∧ ∀ i o, obs[i]? = some o → mm (s + 1) i = ((2 ^ o.1 ||| 2 ^ o.2.1 : Nat) : Int) ∧ mm (s + 2) i = (o.2.2 : Int)
theorem ac_RS_keep {mm mm' : ac_M} {s : Nat} {obs : List ac_Ob} (h : ac_RS mm s obs) (h0 : mm' s = mm s) (h1 : mm' (s + 1) = mm (s + 1)) (h2 : mm' (s + 2) = mm (s + 2)) : ac_RS mm' s obs := by
  unfold ac_RS at *; rw [h0, h1, h2]; exact h
theorem ac_pair_hi {a b n : Nat} : (2 ^ a ||| 2 ^ b) / 2 ^ (n + 1) = 0 ↔ a ≤ n ∧ b ≤ n := by
  rw [Nat.div_eq_zero_iff]
  have h2 : ¬ 2 ^ (n + 1) = 0 := Nat.ne_of_gt (Nat.two_pow_pos _)
  constructor
  · intro h
    have h := h.resolve_left h2
    constructor
    · refine Nat.le_of_lt_succ ((Nat.pow_lt_pow_iff_right (a := 2) (by decide)).mp (Nat.lt_of_le_of_lt Nat.left_le_or h))
    · refine Nat.le_of_lt_succ ((Nat.pow_lt_pow_iff_right (a := 2) (by decide)).mp (Nat.lt_of_le_of_lt Nat.right_le_or h))
  · intro ⟨ha, hb⟩
    exact Or.inr (Nat.or_lt_two_pow (Nat.pow_lt_pow_of_lt (by decide) (by omega)) (Nat.pow_lt_pow_of_lt (by decide) (by omega)))
theorem ac_pair_in {S a b : Nat} : S &&& (2 ^ a ||| 2 ^ b) = 2 ^ a ||| 2 ^ b ↔ S.testBit a = true ∧ S.testBit b = true := by
  constructor
  · intro h
    have hx : ∀ i, (S &&& (2 ^ a ||| 2 ^ b)).testBit i = (2 ^ a ||| 2 ^ b).testBit i := fun i => by rw [h]
    constructor
    · have := hx a
      simpa [Nat.testBit_and, Nat.testBit_or, Nat.testBit_two_pow] using this
    · have := hx b
      simpa [Nat.testBit_and, Nat.testBit_or, Nat.testBit_two_pow] using this
  · intro ⟨ha, hb⟩
    refine Nat.eq_of_testBit_eq fun i => ?_
    rw [Nat.testBit_and, Nat.testBit_or, Nat.testBit_two_pow, Nat.testBit_two_pow]
    by_cases h1 : a = i
    · subst h1; simp [ha]
    · by_cases h2 : b = i
      · subst h2; simp [hb]
      · simp [h1, h2]
theorem ac_pair_set {l : List Nat} {a b c : Nat} (ha : 1 ≤ a) (hb : 1 ≤ b) : ((ac_set l c &&& (2 ^ a ||| 2 ^ b) : Nat) : Int) = ((2 ^ a ||| 2 ^ b : Nat) : Int) ↔ l[a - 1]? = some c ∧ l[b - 1]? = some c := by
  rw [show (((ac_set l c &&& (2 ^ a ||| 2 ^ b) : Nat) : Int) = ((2 ^ a ||| 2 ^ b : Nat) : Int) ↔ ac_set l c &&& (2 ^ a ||| 2 ^ b) = 2 ^ a ||| 2 ^ b) from ⟨fun h => by omega, fun h => by rw [h]⟩, ac_pair_in, ac_set_bit, ac_set_bit]
  simp [ha, hb]
theorem ac_pair_lt {a b : Nat} (ha : a ≤ 10) (hb : b ≤ 10) : 2 ^ a ||| 2 ^ b < 2048 := Nat.or_lt_two_pow (n := 11) (Nat.pow_lt_pow_of_lt (by decide) (by omega)) (Nat.pow_lt_pow_of_lt (by decide) (by omega))
theorem ac_same3 {l : List Nat} {a b : Nat} (hl : ∀ c ∈ l, c < 3) (ha : 1 ≤ a ∧ a ≤ l.length) (hb : 1 ≤ b ∧ b ≤ l.length) : (l[a - 1]? = l[b - 1]?) ↔ (l[a - 1]? = some 0 ∧ l[b - 1]? = some 0) ∨ (l[a - 1]? = some 1 ∧ l[b - 1]? = some 1) ∨ (l[a - 1]? = some 2 ∧ l[b - 1]? = some 2) := by
  have e1 : l[a - 1]? = some (l[a - 1]'(by omega)) := List.getElem?_eq_getElem (by omega)
  have e2 : l[b - 1]? = some (l[b - 1]'(by omega)) := List.getElem?_eq_getElem (by omega)
  have h1 := hl _ (List.getElem_mem (show a - 1 < l.length by omega))
  rw [e1, e2]
  simp only [Option.some.injEq]
  omega
/-! equations' solutions in sets -/
def ac_sol (q : ac_Eq) (S : Nat) : Bool := (List.range 10).any fun x => (List.range 10).any fun y => decide (0 < ac_th q (x + 1 : Nat) (y + 1 : Nat) 10) && (S.testBit (x + 1) && (S.testBit (y + 1) && S.testBit (ac_th q (x + 1 : Nat) (y + 1 : Nat) 10).toNat))
theorem ac_sol_iff {q : ac_Eq} {S : Nat} : ac_sol q S = true ↔ ∃ x y : Nat, (1 ≤ x ∧ x ≤ 10) ∧ (1 ≤ y ∧ y ≤ 10) ∧ 0 < ac_th q x y 10 ∧ S.testBit x = true ∧ S.testBit y = true ∧ S.testBit (ac_th q x y 10).toNat = true := by
  unfold ac_sol
  simp only [List.any_eq_true, List.mem_range, Bool.and_eq_true, decide_eq_true_eq]
  constructor
  · rintro ⟨x, hx, y, hy, h⟩
    exact ⟨x + 1, y + 1, by omega, by omega, h⟩
  · rintro ⟨x, y, hx, hy, h⟩
    obtain ⟨x, rfl⟩ : ∃ z, x = z + 1 := ⟨x - 1, by omega⟩
    obtain ⟨y, rfl⟩ : ∃ z, y = z + 1 := ⟨y - 1, by omega⟩
    exact ⟨x, by omega, y, by omega, h⟩
def ac_brA : Nat → List ac_Eq → Nat → Nat
  | _, [], _ => 0
  | i, q :: qs, S => (if ac_sol q S = true then 2 ^ i else 0) ||| ac_brA (i + 1) qs S
/-- the equations that have a solution in a set, as bits -/
def ac_br (E : List ac_Eq) (S : Nat) : Nat := ac_brA 0 E S
theorem ac_brA_bit (S : Nat) (E : List ac_Eq) : ∀ (i e : Nat), (ac_brA i E S).testBit e = true ↔ ∃ q, i ≤ e ∧ E[e - i]? = some q ∧ ac_sol q S = true := by
  induction E with
  | nil => intro i e; simp [ac_brA]
  | cons x xs ih =>
    intro i e
    rw [ac_brA, Nat.testBit_or, Bool.or_eq_true, ih]
    have h1 : (if ac_sol x S = true then 2 ^ i else 0).testBit e = true ↔ ac_sol x S = true ∧ i = e := by
      by_cases h : ac_sol x S = true
      · rw [if_pos h, Nat.testBit_two_pow]; simp [h]
      · rw [if_neg h]; simp [h]
    rw [h1]
    constructor
    · rintro (⟨h, rfl⟩ | ⟨q, h2, h3, h4⟩)
      · exact ⟨x, Nat.le_refl _, by rw [Nat.sub_self]; rfl, h⟩
      · exact ⟨q, by omega, by rw [show e - i = (e - (i + 1)) + 1 by omega]; exact h3, h4⟩
    · rintro ⟨q, h2, h3, h4⟩
      by_cases h : i = e
      · subst h
        rw [Nat.sub_self] at h3
        cases h3
        exact Or.inl ⟨h4, rfl⟩
      · refine Or.inr ⟨q, by omega, ?_, h4⟩
        rw [show e - i = (e - (i + 1)) + 1 by omega] at h3
        exact h3
theorem ac_br_bit {E : List ac_Eq} {S e : Nat} : (ac_br E S).testBit e = true ↔ ∃ q, E[e]? = some q ∧ ac_sol q S = true := by
  unfold ac_br
  rw [ac_brA_bit]
  simp
theorem ac_br_lt {E : List ac_Eq} (S : Nat) (h : E.length ≤ 4) : ac_br E S < 16 := by
  refine Nat.lt_pow_two_of_testBit (n := 4) _ fun i hi => ?_
  rw [Bool.eq_false_iff]
  intro h2
  obtain ⟨q, h3, -⟩ := ac_br_bit.mp h2
  have := (List.getElem?_eq_some_iff.mp h3).1
  omega
theorem ac_beq {a b : Nat} (h : ∀ e, a.testBit e = true ↔ b.testBit e = true) : a = b :=
  Nat.eq_of_testBit_eq fun i => Bool.eq_iff_iff.mpr (h i)
def ac_sub (T S : Nat) : Prop := ∀ i, T.testBit i = true → S.testBit i = true
theorem ac_sub_refl (S : Nat) : ac_sub S S := fun _ h => h
theorem ac_andn_le (a b : Nat) : ac_andn a b ≤ a := Nat.and_le_left
theorem ac_andn_sub (a b : Nat) : ac_sub (ac_andn a b) a := fun i h => by
  rw [ac_andn_bit, Bool.and_eq_true] at h; exact h.1
theorem ac_andn_no {S i : Nat} (h : S.testBit i = false) : ac_andn S (2 ^ i) = S := by
  refine Nat.eq_of_testBit_eq fun j => ?_
  rw [ac_andn_bit, Nat.testBit_two_pow]
  by_cases hj : i = j
  · subst hj; rw [h]; rfl
  · simp [hj]
theorem ac_andn_lt {S i : Nat} (h : S.testBit i = true) : ac_andn S (2 ^ i) < S := by
  refine Nat.lt_of_le_of_ne (ac_andn_le _ _) fun he => ?_
  have := ac_andn_bit S (2 ^ i) i
  rw [he, h, Nat.testBit_two_pow] at this
  simp at this
/-- row b holds the numbers f -/
def ac_mb (mm : ac_M) (b : Nat) (f : Nat → Nat) : ac_M := fun k j => if k = b ∧ j < 2048 then (f j : Int) else mm k j
def ac_uf (f : Nat → Nat) (i v : Nat) : Nat → Nat := fun j => if j = i then v else f j
theorem ac_mb_at {mm : ac_M} {b S : Nat} {f : Nat → Nat} (h : S < 2048) : ac_mb mm b f b S = (f S : Int) := if_pos ⟨rfl, h⟩
theorem ac_mb_k {mm : ac_M} {b k : Nat} {f : Nat → Nat} (h : k ≠ b) : ac_mb mm b f k = mm k := by
  funext j; exact if_neg (fun q => h q.1)
theorem ac_mb_up {mm : ac_M} {b S v : Nat} {f : Nat → Nat} (h : S < 2048) : ac_up (ac_mb mm b f) b S (v : Int) = ac_mb mm b (ac_uf f S v) := by
  funext k j
  unfold ac_up ac_mb ac_uf
  by_cases h1 : k = b
  · by_cases h2 : j = S
    · subst h2; rw [if_pos ⟨h1, rfl⟩, if_pos ⟨h1, h⟩, if_pos rfl]
    · rw [if_neg (fun q => h2 q.2), if_neg h2]
  · rw [if_neg (fun q => h1 q.1), if_neg (fun q => h1 q.1), if_neg (fun q => h1 q.1)]
/-- sets smaller than s hold what their sets within hold, the others not yet -/
def ac_F2 (f g : Nat → Nat) (s : Nat) : Prop := ∀ S, (S < s → ∀ e, (g S).testBit e = true ↔ ∃ T, ac_sub T S ∧ T.testBit 0 = S.testBit 0 ∧ (f T).testBit e = true) ∧ (s ≤ S → g S = f S)
/-- set s, its numbers below j seen -/
def ac_F2i (f g : Nat → Nat) (s j : Nat) : Prop := (∀ S, S < s → ∀ e, (g S).testBit e = true ↔ ∃ T, ac_sub T S ∧ T.testBit 0 = S.testBit 0 ∧ (f T).testBit e = true) ∧ (∀ S, s < S → g S = f S) ∧ ∀ e, (g s).testBit e = true ↔ (f s).testBit e = true ∨ ∃ i, 1 ≤ i ∧ i < j ∧ s.testBit i = true ∧ (g (ac_andn s (2 ^ i))).testBit e = true
theorem ac_F2_in {f g : Nat → Nat} {s : Nat} (h : ac_F2 f g s) : ac_F2i f g s 1 := by
  refine ⟨fun S hS => (h S).1 hS, fun S hS => (h S).2 (by omega), fun e => ?_⟩
  rw [(h s).2 (Nat.le_refl _)]
  refine ⟨fun q => Or.inl q, fun q => q.elim id ?_⟩
  rintro ⟨i, h1, h2, -⟩; omega
theorem ac_F2_step {f g : Nat → Nat} {s j : Nat} (hj : 1 ≤ j) (h : ac_F2i f g s j) : ac_F2i f (ac_uf g s (g s ||| g (ac_andn s (2 ^ j)))) s (j + 1) := by
  obtain ⟨h1, h2, h3⟩ := h
  refine ⟨fun S hS e => ?_, fun S hS => ?_, fun e => ?_⟩
  · unfold ac_uf; rw [if_neg (by omega)]; exact h1 S hS e
  · unfold ac_uf; rw [if_neg (by omega)]; exact h2 S hS
  · have hn : ∀ i, s.testBit i = true → ac_uf g s (g s ||| g (ac_andn s (2 ^ j))) (ac_andn s (2 ^ i)) = g (ac_andn s (2 ^ i)) := by
      intro i hi
      have := ac_andn_lt hi
      unfold ac_uf; rw [if_neg (by omega)]
    have e0 : ac_uf g s (g s ||| g (ac_andn s (2 ^ j))) s = g s ||| g (ac_andn s (2 ^ j)) := if_pos rfl
    rw [e0, Nat.testBit_or, Bool.or_eq_true, h3]
    constructor
    · rintro ((q | ⟨i, i1, i2, i3, i4⟩) | q)
      · exact Or.inl q
      · exact Or.inr ⟨i, i1, by omega, i3, by rw [hn i i3]; exact i4⟩
      · by_cases hs : s.testBit j = true
        · exact Or.inr ⟨j, hj, by omega, hs, by rw [hn j hs]; exact q⟩
        · rw [ac_andn_no (by simpa using hs)] at q
          rcases (h3 e).mp q with q | ⟨i, i1, i2, i3, i4⟩
          · exact Or.inl q
          · exact Or.inr ⟨i, i1, by omega, i3, by rw [hn i i3]; exact i4⟩
    · rintro (q | ⟨i, i1, i2, i3, i4⟩)
      · exact Or.inl (Or.inl q)
      · rw [hn i i3] at i4
        by_cases hi : i = j
        · subst hi; exact Or.inr i4
        · exact Or.inl (Or.inr ⟨i, i1, by omega, i3, i4⟩)
theorem ac_F2_out {f g : Nat → Nat} {s : Nat} (hs : s < 2048) (h : ac_F2i f g s 11) : ac_F2 f g (s + 1) := by
  obtain ⟨h1, h2, h3⟩ := h
  refine fun S => ⟨fun hS e => ?_, fun hS => h2 S (by omega)⟩
  by_cases h4 : S < s
  · exact h1 S h4 e
  · have : S = s := by omega
    subst this
    rw [h3]
    constructor
    · rintro (q | ⟨i, i1, i2, i3, i4⟩)
      · exact ⟨S, ac_sub_refl S, rfl, q⟩
      · obtain ⟨T, t1, t2, t3⟩ := (h1 _ (ac_andn_lt i3) e).mp i4
        refine ⟨T, fun j hj => ac_andn_sub _ _ j (t1 j hj), ?_, t3⟩
        rw [t2, ac_andn_bit, Nat.testBit_two_pow]
        have h9 : ¬ i = 0 := by omega
        simp [h9]
    · rintro ⟨T, t1, t2, t3⟩
      by_cases he : T = S
      · subst he; exact Or.inl t3
      · obtain ⟨i, hi⟩ : ∃ i, ¬ T.testBit i = S.testBit i := Classical.byContradiction fun hc => he (Nat.eq_of_testBit_eq fun i => Classical.byContradiction fun hc2 => hc ⟨i, hc2⟩)
        have hSi : S.testBit i = true := by
          cases hT : T.testBit i with
          | true => exact t1 i hT
          | false => rw [hT] at hi; cases hS2 : S.testBit i with
            | true => rfl
            | false => rw [hS2] at hi; exact absurd rfl hi
        have hTi : T.testBit i = false := by
          cases hT : T.testBit i with
          | true => rw [hT, hSi] at hi; exact absurd rfl hi
          | false => rfl
        have hi0 : i ≠ 0 := fun h0 => by subst h0; exact hi t2
        have hi11 : i < 11 := by
          by_cases hh : i < 11
          · exact hh
          · have : S.testBit i = false := Nat.testBit_lt_two_pow (Nat.lt_of_lt_of_le hs (show 2 ^ 11 ≤ 2 ^ i from Nat.pow_le_pow_right (by decide) (by omega)))
            rw [this] at hSi; cases hSi
        refine Or.inr ⟨i, by omega, hi11, hSi, (h1 _ (ac_andn_lt hSi) e).mpr ⟨T, fun j hj => ?_, ?_, t3⟩⟩
        · rw [ac_andn_bit, t1 j hj, Nat.testBit_two_pow]
          by_cases hij : i = j
          · subst hij; rw [hTi] at hj; cases hj
          · simp [hij]
        · rw [t2, ac_andn_bit, Nat.testBit_two_pow]
          simp [hi0]
def ac_msk (q : ac_Eq) (x y : Nat) : Nat := 2 ^ x ||| 2 ^ y ||| 2 ^ (ac_th q x y 10).toNat
/-- solutions up to equation e0 and x0, y0 are laid -/
def ac_F1 (E : List ac_Eq) (f : Nat → Nat) (e0 x0 y0 : Nat) : Prop := ∀ S e, (f S).testBit e = true ↔ ∃ (q : ac_Eq) (x y : Nat), E[e]? = some q ∧ (1 ≤ x ∧ x ≤ 10) ∧ (1 ≤ y ∧ y ≤ 10) ∧ 0 < ac_th q x y 10 ∧ S = ac_msk q x y ∧ (e < e0 ∨ e = e0 ∧ (x < x0 ∨ x = x0 ∧ y < y0))
theorem ac_F1_0 {E : List ac_Eq} : ac_F1 E (fun _ => 0) 0 1 1 := by
  intro S e
  constructor
  · intro h; simp at h
  · rintro ⟨q, x, y, -, hx, hy, -, -, h⟩; omega
theorem ac_F1_no {E : List ac_Eq} {f : Nat → Nat} {e x y : Nat} {q : ac_Eq} (hq : E[e]? = some q) (h : ac_F1 E f e x y) (ht : ¬ 0 < ac_th q x y 10) : ac_F1 E f e x (y + 1) := by
  intro S e'
  rw [h S e']
  constructor
  · rintro ⟨q', x', y', h1, h2, h3, h4, h5, h6⟩
    exact ⟨q', x', y', h1, h2, h3, h4, h5, by omega⟩
  · rintro ⟨q', x', y', h1, h2, h3, h4, h5, h6⟩
    refine ⟨q', x', y', h1, h2, h3, h4, h5, ?_⟩
    by_cases hc : e' = e ∧ x' = x ∧ y' = y
    · obtain ⟨rfl, rfl, rfl⟩ := hc
      rw [hq] at h1; cases h1
      exact absurd h4 ht
    · omega
theorem ac_F1_yes {E : List ac_Eq} {f : Nat → Nat} {e x y : Nat} {q : ac_Eq} (hq : E[e]? = some q) (hx : 1 ≤ x ∧ x ≤ 10) (hy : 1 ≤ y ∧ y ≤ 10) (h : ac_F1 E f e x y) (ht : 0 < ac_th q x y 10) : ac_F1 E (ac_uf f (ac_msk q x y) (f (ac_msk q x y) ||| 2 ^ e)) e x (y + 1) := by
  intro S e'
  have key : (ac_uf f (ac_msk q x y) (f (ac_msk q x y) ||| 2 ^ e) S).testBit e' = true ↔ (f S).testBit e' = true ∨ (S = ac_msk q x y ∧ e' = e) := by
    unfold ac_uf
    by_cases hS : S = ac_msk q x y
    · subst hS
      rw [if_pos rfl, Nat.testBit_or, Bool.or_eq_true, Nat.testBit_two_pow]
      rw [decide_eq_true_eq]
      exact ⟨fun h => h.elim Or.inl (fun h => Or.inr ⟨rfl, h.symm⟩), fun h => h.elim Or.inl (fun h => Or.inr h.2.symm)⟩
    · rw [if_neg hS]; simp [hS]
  rw [key, h S e']
  constructor
  · rintro (⟨q', x', y', h1, h2, h3, h4, h5, h6⟩ | ⟨rfl, rfl⟩)
    · exact ⟨q', x', y', h1, h2, h3, h4, h5, by omega⟩
    · exact ⟨q, x, y, hq, hx, hy, ht, rfl, by omega⟩
  · rintro ⟨q', x', y', h1, h2, h3, h4, h5, h6⟩
    by_cases hc : e' = e ∧ x' = x ∧ y' = y
    · obtain ⟨rfl, rfl, rfl⟩ := hc
      rw [hq] at h1; cases h1
      exact Or.inr ⟨h5, rfl⟩
    · exact Or.inl ⟨q', x', y', h1, h2, h3, h4, h5, by omega⟩
theorem ac_F1_y {E : List ac_Eq} {f : Nat → Nat} {e x : Nat} (h : ac_F1 E f e x 11) : ac_F1 E f e (x + 1) 1 := by
  intro S e'
  rw [h S e']
  constructor
  · rintro ⟨q', x', y', h1, h2, h3, h4, h5, h6⟩
    exact ⟨q', x', y', h1, h2, h3, h4, h5, by omega⟩
  · rintro ⟨q', x', y', h1, h2, h3, h4, h5, h6⟩
    exact ⟨q', x', y', h1, h2, h3, h4, h5, by omega⟩
theorem ac_F1_x {E : List ac_Eq} {f : Nat → Nat} {e : Nat} (h : ac_F1 E f e 11 1) : ac_F1 E f (e + 1) 1 1 := by
  intro S e'
  rw [h S e']
  constructor
  · rintro ⟨q', x', y', h1, h2, h3, h4, h5, h6⟩
    exact ⟨q', x', y', h1, h2, h3, h4, h5, by omega⟩
  · rintro ⟨q', x', y', h1, h2, h3, h4, h5, h6⟩
    exact ⟨q', x', y', h1, h2, h3, h4, h5, by omega⟩
theorem ac_msk_bit {q : ac_Eq} {x y i : Nat} : (ac_msk q x y).testBit i = true ↔ i = x ∨ i = y ∨ i = (ac_th q x y 10).toNat := by
  unfold ac_msk
  rw [Nat.testBit_or, Nat.testBit_or, Nat.testBit_two_pow, Nat.testBit_two_pow, Nat.testBit_two_pow]
  simp only [Bool.or_eq_true, decide_eq_true_eq]
  omega
theorem ac_th_le (q : ac_Eq) (x y : Nat) : (ac_th q x y 10).toNat ≤ 10 := by
  have := ac_th_in q x y 10 (by decide); omega
theorem ac_msk_lt {q : ac_Eq} {x y : Nat} (hx : x ≤ 10) (hy : y ≤ 10) : ac_msk q x y < 2048 :=
  Nat.or_lt_two_pow (n := 11) (ac_pair_lt hx hy) (Nat.pow_lt_pow_of_lt (by decide) (by have := ac_th_le q x y; omega))
theorem ac_fit_br {E : List ac_Eq} {f g : Nat → Nat} (h1 : ac_F1 E f E.length 1 1) (h2 : ac_F2 f g 2048) (S : Nat) (hS : S < 2048) (he : S.testBit 0 = false) : g S = ac_br E S := by
  refine ac_beq fun e => ?_
  rw [(h2 S).1 hS, ac_br_bit]
  constructor
  · rintro ⟨T, t1, t2, t3⟩
    obtain ⟨q, x, y, a1, a2, a3, a4, rfl, -⟩ := (h1 T e).mp t3
    exact ⟨q, a1, ac_sol_iff.mpr ⟨x, y, a2, a3, a4, t1 _ (ac_msk_bit.mpr (Or.inl rfl)), t1 _ (ac_msk_bit.mpr (Or.inr (Or.inl rfl))), t1 _ (ac_msk_bit.mpr (Or.inr (Or.inr rfl)))⟩⟩
  · rintro ⟨q, a1, a2⟩
    obtain ⟨x, y, b1, b2, b3, b4, b5, b6⟩ := ac_sol_iff.mp a2
    refine ⟨ac_msk q x y, fun i hi => ?_, ?_, (h1 _ e).mpr ⟨q, x, y, a1, b1, b2, b3, rfl, ?_⟩⟩
    · rcases ac_msk_bit.mp hi with rfl | rfl | rfl <;> assumption
    · rw [he, Bool.eq_false_iff]
      intro hi
      rcases ac_msk_bit.mp hi with hi | hi | hi <;> omega
    · exact Or.inl (List.getElem?_eq_some_iff.mp a1).1
def ac_isC (Y : ac_Y) (c : Nat) : Prop := Y.2.1 c = (0, 0) ∧ Y.2.1 (c + 1) = (1, 2048) ∧ Y.2.2 c 0 = c + 1 ∧ Y.2.2 c 1 = c + 2 ∧ ac_isT Y (c + 2)
/-- the table of clashes is that of some equations -/
def ac_RC (mm : ac_M) (c : Nat) (E : List ac_Eq) : Prop := ac_okE E ∧ mm (c + 2) 5 = (E.length : Int) ∧ ac_E mm (c + 3) 0 E ∧ ∀ S, S < 2048 → S.testBit 0 = false → mm (c + 1) S = (ac_br E S : Int)
theorem ac_RC_keep {mm mm' : ac_M} {c : Nat} {E : List ac_Eq} (h : ac_RC mm c E) (h0 : mm' (c + 1) = mm (c + 1)) (h1 : mm' (c + 2) = mm (c + 2)) (h2 : mm' (c + 3) = mm (c + 3)) : ac_RC mm' c E := by
  unfold ac_RC ac_E at *; rw [h0, h1, h2]; exact h
theorem ac_Eat {mm : ac_M} {r i : Nat} {E : List ac_Eq} (hE : ac_E mm r 0 E) (hk : ac_okE E) (hi : i < 4 * E.length) : -4 ≤ mm r i ∧ mm r i ≤ 4 := by
  obtain ⟨q, hq⟩ : ∃ q, E[i / 4]? = some q := ⟨_, List.getElem?_eq_getElem (by omega)⟩
  obtain ⟨h0, h1, h2, h3⟩ := hE _ _ hq
  obtain ⟨⟨a1, -⟩, ⟨a2, -⟩, ⟨a3, -⟩, a4⟩ := hk.2 q (List.mem_of_getElem? hq)
  rcases (show i = 0 + 4 * (i / 4) ∨ i = 0 + 4 * (i / 4) + 1 ∨ i = 0 + 4 * (i / 4) + 2 ∨ i = 0 + 4 * (i / 4) + 3 by omega) with h | h | h | h
  · rw [h, h0]; exact a1
  · rw [h, h1]; exact a2
  · rw [h, h2]; exact a3
  · rw [h, h3]; omega
theorem ac_E_eq {mm : ac_M} {r r' : Nat} {E E' : List ac_Eq} (h : ac_E mm r 0 E) (h' : ac_E mm r' 0 E') (hl : E.length = E'.length) (hh : ∀ i, i < 4 * E.length → mm r i = mm r' i) : E = E' := by
  refine List.ext_getElem? fun e => ?_
  by_cases he : e < E.length
  · obtain ⟨q, hq⟩ : ∃ q, E[e]? = some q := ⟨_, List.getElem?_eq_getElem he⟩
    obtain ⟨q', hq'⟩ : ∃ q, E'[e]? = some q := ⟨_, List.getElem?_eq_getElem (by omega)⟩
    obtain ⟨h0, h1, h2, h3⟩ := h _ _ hq
    obtain ⟨g0, g1, g2, g3⟩ := h' _ _ hq'
    rw [hh _ (by omega)] at h0 h1 h2 h3
    rw [hq, hq']
    obtain ⟨a, b, c, d⟩ := q
    obtain ⟨a', b', c', d'⟩ := q'
    simp only at h0 h1 h2 h3 g0 g1 g2 g3
    rw [← h0, ← h1, ← h2, ← h3, ← g0, ← g1, ← g2, ← g3]
  · rw [List.getElem?_eq_none (by omega), List.getElem?_eq_none (by omega)]
theorem ac_E_ne {mm : ac_M} {r r' i : Nat} {E E' : List ac_Eq} (h : ac_E mm r 0 E) (h' : ac_E mm r' 0 E') (hi : i < 4 * E.length) (hh : mm r i ≠ mm r' i) : E ≠ E' := by
  rintro rfl
  obtain ⟨q, hq⟩ : ∃ q, E[i / 4]? = some q := ⟨_, List.getElem?_eq_getElem (by omega)⟩
  obtain ⟨h0, h1, h2, h3⟩ := h _ _ hq
  obtain ⟨g0, g1, g2, g3⟩ := h' _ _ hq
  apply hh
  rcases (show i = 0 + 4 * (i / 4) ∨ i = 0 + 4 * (i / 4) + 1 ∨ i = 0 + 4 * (i / 4) + 2 ∨ i = 0 + 4 * (i / 4) + 3 by omega) with h | h | h | h <;> rw [h]
  · rw [h0, g0]
  · rw [h1, g1]
  · rw [h2, g2]
  · rw [h3, g3]
