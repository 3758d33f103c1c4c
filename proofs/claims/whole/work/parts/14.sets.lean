theorem ac_drop_enc {base : Nat} {ls ls' : List (Nat × Int)} (h : ∀ (i : Nat) (w : Nat × Int), ls'[i]? = some w → w.1 ≠ 3 → ls[i]? = some w) : ∀ q ∈ ac_enc base ls', q ∈ ac_enc base ls := by
  intro q hq
  obtain ⟨w, h1, h2, h3⟩ := ac_enc_mem.mp hq
  exact ac_enc_mem.mpr ⟨w, h _ _ h1 h2, h2, h3⟩
def ac_fgt : List (Nat × Int) → List (Nat × Int) → Prop
  | [], [] => True
  | a :: as, b :: bs => (a = b ∨ a = (3, 0)) ∧ ac_fgt as bs
  | _, _ => False
theorem ac_fgt_get : ∀ {ls' ls : List (Nat × Int)}, ac_fgt ls' ls → ∀ (i : Nat) (w : Nat × Int), ls'[i]? = some w → w.1 ≠ 3 → ls[i]? = some w
  | [], [], _, i, w, h, _ => by simp at h
  | a :: as, b :: bs, hl, 0, w, h, h3 => by
    cases h
    rcases hl.1 with rfl | rfl
    · rfl
    · exact absurd rfl h3
  | a :: as, b :: bs, hl, i + 1, w, h, h3 => ac_fgt_get (ls' := as) (ls := bs) hl.2 i w h h3
/-- locals that are read no more are forgotten -/
theorem ac_drop {G : ac_G} {on : String × String} {cc : ByteArray} {nL : Nat} {ret : Option FieldType} {d mc ms : Nat} {P : ac_P} {ck cn : Nat} {Y : ac_Y} {mm : ac_M} {pc : Nat} {ls st : List (Nat × Int)} (ls' : List (Nat × Int)) (h : ac_fgt ls' ls) (kk : ac_V G on cc nL ret d mc ms P ck cn Y mm pc ls' st) : ac_V G on cc nL ret d mc ms P ck cn Y mm pc ls st :=
  fun p e s m args below meth c H locs la X hz hH hS hL => kk p e s m args below meth c H locs la X hz hH hS (ac_lweak hL (ac_drop_enc (ac_fgt_get h)))
/-- the memory by another name -/
theorem ac_mem {G : ac_G} {on : String × String} {cc : ByteArray} {nL : Nat} {ret : Option FieldType} {d mc ms : Nat} {P : ac_P} {ck cn : Nat} {Y : ac_Y} {mm mm' : ac_M} {pc : Nat} {ls st : List (Nat × Int)} (h : mm = mm') (kk : ac_V G on cc nL ret d mc ms P ck cn Y mm' pc ls st) : ac_V G on cc nL ret d mc ms P ck cn Y mm pc ls st := by subst h; exact kk
theorem ac_name {G : ac_G} {on : String × String} {cc : ByteArray} {nL : Nat} {ret : Option FieldType} {d mc ms : Nat} {P : ac_P} {ck cn : Nat} {Y : ac_Y} {mm : ac_M} {pc : Nat} {ls st : List (Nat × Int)} (kk : ∀ m, m = mm → ac_V G on cc nL ret d mc ms P ck cn Y m pc ls st) : ac_V G on cc nL ret d mc ms P ck cn Y mm pc ls st := kk mm rfl
def ac_qc (q : ac_Eq) : Nat → Int
  | 0 => q.1
  | 1 => q.2.1
  | 2 => q.2.2.1
  | _ => q.2.2.2
theorem ac_Eget {mm : ac_M} {r o e w : Nat} {E : List ac_Eq} {q : ac_Eq} {i : Int} (hE : ac_E mm r o E) (hq : E[e]? = some q) (hw : w < 4) (hi : i = o + 4 * e + w) : mm r i.toNat = ac_qc q w := by
  obtain ⟨h0, h1, h2, h3⟩ := hE e q hq
  rw [show i.toNat = o + 4 * e + w by omega]
  rcases (show w = 0 ∨ w = 1 ∨ w = 2 ∨ w = 3 by omega) with rfl | rfl | rfl | rfl
  · exact h0
  · exact h1
  · exact h2
  · exact h3
theorem ac_mul4 {a x : Int} (h1 : -4 ≤ a) (h2 : a ≤ 4) (h3 : 0 ≤ x) (h4 : x ≤ 10) : -40 ≤ a * x ∧ a * x ≤ 40 := by
  rcases (show a = -4 ∨ a = -3 ∨ a = -2 ∨ a = -1 ∨ a = 0 ∨ a = 1 ∨ a = 2 ∨ a = 3 ∨ a = 4 by omega) with rfl | rfl | rfl | rfl | rfl | rfl | rfl | rfl | rfl <;> omega
theorem ac_th_a {e : ac_Eq} {x y m : Int} (h : (e.1 * x + e.2.1 * y).tmod e.2.2.1 ≠ 0) : 0 = ac_th e x y m := by
  unfold ac_th; rw [if_pos (Or.inr h)]
theorem ac_th_b {e : ac_Eq} {x y m : Int} (h : (e.1 * x + e.2.1 * y).tdiv e.2.2.1 < 1 ∨ m < (e.1 * x + e.2.1 * y).tdiv e.2.2.1 ∨ ((x = y ∨ x = (e.1 * x + e.2.1 * y).tdiv e.2.2.1 ∨ y = (e.1 * x + e.2.1 * y).tdiv e.2.2.1) ∧ e.2.2.2 = 1)) : 0 = ac_th e x y m := by
  unfold ac_th
  by_cases h1 : e.2.2.1 = 0 ∨ (e.1 * x + e.2.1 * y).tmod e.2.2.1 ≠ 0
  · rw [if_pos h1]
  · rw [if_neg h1, if_pos h]
theorem ac_th_c {e : ac_Eq} {x y m : Int} (hc : e.2.2.1 ≠ 0) (h0 : (e.1 * x + e.2.1 * y).tmod e.2.2.1 = 0) (h : ¬ ((e.1 * x + e.2.1 * y).tdiv e.2.2.1 < 1 ∨ m < (e.1 * x + e.2.1 * y).tdiv e.2.2.1 ∨ ((x = y ∨ x = (e.1 * x + e.2.1 * y).tdiv e.2.2.1 ∨ y = (e.1 * x + e.2.1 * y).tdiv e.2.2.1) ∧ e.2.2.2 = 1))) : (e.1 * x + e.2.1 * y).tdiv e.2.2.1 = ac_th e x y m := by
  unfold ac_th
  rw [if_neg (fun q => q.elim hc (fun q => q h0)), if_neg h]
theorem ac_th_in (e : ac_Eq) (x y m : Int) (hm : 0 ≤ m) : 0 ≤ ac_th e x y m ∧ ac_th e x y m ≤ m := by
  unfold ac_th
  split
  · omega
  · split <;> omega
theorem ac_setA_bit (l : List Nat) : ∀ (i c j : Nat), (ac_setA i l c).testBit j = decide (i ≤ j ∧ l[j - i]? = some c) := by
  induction l with
  | nil => intro i c j; simp [ac_setA]
  | cons x xs ih =>
    intro i c j
    rw [ac_setA, Nat.testBit_or, ih]
    have h1 : (if x = c then 2 ^ i else 0).testBit j = decide (x = c ∧ i = j) := by
      by_cases h : x = c
      · rw [if_pos h, Nat.testBit_two_pow]; simp [h]
      · rw [if_neg h]; simp [h]
    rw [h1, ← Bool.decide_or]
    by_cases hj : i = j
    · subst hj; have h9 : ¬ i + 1 ≤ i := by omega
      simp [h9]
    · by_cases hj2 : i < j
      · obtain ⟨k, rfl⟩ : ∃ k, j = i + 1 + k := ⟨j - i - 1, by omega⟩
        have e1 : i + 1 + k - (i + 1) = k := by omega
        have e2 : i + 1 + k - i = k + 1 := by omega
        simp only [e1, e2, List.getElem?_cons_succ, hj, and_false, false_or]
        congr 1
        exact propext ⟨fun h => ⟨by omega, h.2⟩, fun h => ⟨by omega, h.2⟩⟩
      · have a1 : ¬ i ≤ j := by omega
        have a2 : ¬ i + 1 ≤ j := by omega
        simp [hj, a1, a2]
theorem ac_set_bit (l : List Nat) (c j : Nat) : (ac_set l c).testBit j = decide (1 ≤ j ∧ l[j - 1]? = some c) := ac_setA_bit l 1 c j
theorem ac_set_lt {l : List Nat} (c : Nat) (h : l.length ≤ 10) : ac_set l c < 2048 := by
  refine Nat.lt_pow_two_of_testBit (n := 11) _ fun i hi => ?_
  rw [ac_set_bit]
  simp only [decide_eq_false_iff_not, not_and]
  intro _
  rw [List.getElem?_eq_none (by omega)]
  simp
theorem ac_set_snoc (l : List Nat) (x c : Nat) : ac_set (l ++ [x]) c = if x = c then ac_set l c ||| 2 ^ (l.length + 1) else ac_set l c := by
  refine Nat.eq_of_testBit_eq fun j => ?_
  have h0 : (if x = c then ac_set l c ||| 2 ^ (l.length + 1) else ac_set l c).testBit j = decide ((1 ≤ j ∧ l[j - 1]? = some c) ∨ (x = c ∧ l.length + 1 = j)) := by
    by_cases h : x = c
    · rw [if_pos h, Nat.testBit_or, ac_set_bit, Nat.testBit_two_pow, ← Bool.decide_or]; simp [h]
    · rw [if_neg h, ac_set_bit]; simp [h]
  rw [h0, ac_set_bit]
  congr 1
  apply propext
  rcases Nat.lt_trichotomy (j - 1) l.length with h | h | h
  · rw [List.getElem?_append_left h]
    exact ⟨fun q => Or.inl q, fun q => q.elim id (fun q => by omega)⟩
  · rw [List.getElem?_append_right (by omega), h, Nat.sub_self, List.getElem?_eq_none (Nat.le_refl _)]
    constructor
    · intro q; exact Or.inr ⟨Option.some.inj q.2, by omega⟩
    · intro q
      rcases q with q | q
      · exact absurd q.2 (by simp)
      · exact ⟨by omega, by rw [q.1]; rfl⟩
  · rw [List.getElem?_append_right (by omega), List.getElem?_eq_none (l := l) (by omega), List.getElem?_eq_none (l := [x]) (by simp; omega)]
    exact ⟨fun q => Or.inl q, fun q => q.elim id (fun q => by omega)⟩
theorem ac_set_set (l : List Nat) (i x c : Nat) (hi : i < l.length) : ac_set (l.set i x) c = if x = c then ac_andn (ac_set l c) (2 ^ (i + 1)) ||| 2 ^ (i + 1) else ac_andn (ac_set l c) (2 ^ (i + 1)) := by
  refine Nat.eq_of_testBit_eq fun j => ?_
  have h0 : (if x = c then ac_andn (ac_set l c) (2 ^ (i + 1)) ||| 2 ^ (i + 1) else ac_andn (ac_set l c) (2 ^ (i + 1))).testBit j = decide (((1 ≤ j ∧ l[j - 1]? = some c) ∧ ¬ i + 1 = j) ∨ (x = c ∧ i + 1 = j)) := by
    by_cases h : x = c
    · rw [if_pos h, Nat.testBit_or, ac_andn_bit, ac_set_bit, Nat.testBit_two_pow, ← decide_not, ← Bool.decide_and, ← Bool.decide_or]; simp [h]
    · rw [if_neg h, ac_andn_bit, ac_set_bit, Nat.testBit_two_pow, ← decide_not, ← Bool.decide_and]; simp [h]
  rw [h0, ac_set_bit]
  congr 1
  apply propext
  rw [List.getElem?_set]
  by_cases h : i = j - 1
  · rw [if_pos h, if_pos hi]
    constructor
    · intro q; exact Or.inr ⟨Option.some.inj q.2, by omega⟩
    · intro q
      rcases q with q | q
      · omega
      · exact ⟨by omega, by rw [q.1]⟩
  · rw [if_neg h]
    exact ⟨fun q => Or.inl ⟨q, by omega⟩, fun q => q.elim (fun q => q.1) (fun q => by omega)⟩
theorem ac_bit1 (a x : Nat) : a / 2 ^ x &&& 1 = (a.testBit x).toNat := by
  rw [Nat.and_one_is_mod, Nat.testBit_eq_decide_div_mod_eq]
  rcases Nat.mod_two_eq_zero_or_one (a / 2 ^ x) with h | h <;> rw [h] <;> rfl
def ac_bits (x : Nat) : Nat := (List.range 12).countP (fun i => x.testBit i)
/-- a row's first numbers made v -/
def ac_fl (mm : ac_M) (r n : Nat) (v : Int) : ac_M := fun k j => if k = r ∧ j < n then v else mm k j
theorem ac_fl_0 {mm : ac_M} {r : Nat} {v : Int} : ac_fl mm r 0 v = mm := by
  funext k j; exact if_neg (fun q => absurd q.2 (Nat.not_lt_zero _))
theorem ac_fl_s {mm : ac_M} {r n : Nat} {v : Int} : ac_up (ac_fl mm r n v) r n v = ac_fl mm r (n + 1) v := by
  funext k j
  unfold ac_up ac_fl
  by_cases h1 : k = r
  · by_cases h2 : j = n
    · rw [if_pos ⟨h1, h2⟩, if_pos ⟨h1, by omega⟩]
    · rw [if_neg (fun q => h2 q.2)]
      by_cases h3 : j < n
      · rw [if_pos ⟨h1, h3⟩, if_pos ⟨h1, by omega⟩]
      · rw [if_neg (fun q => h3 q.2), if_neg (fun q => h3 (by omega))]
  · rw [if_neg (fun q => h1 q.1), if_neg (fun q => h1 q.1), if_neg (fun q => h1 q.1)]
/-- but the task t, all is as it was -/
def ac_fr (mm mm' : ac_M) (t : Nat) : Prop := ∀ k, (k < t ∨ t + 3 < k) → mm' k = mm k
theorem ac_bits_ok : ∀ x, x < 2048 → (((fun v => v + v / 2 ^ 16 &&& 63) ((fun w => w + w / 2 ^ 8) ((fun z => z + z / 2 ^ 4 &&& 252645135) ((fun y => (y &&& 858993459) + (y / 2 ^ 2 &&& 858993459)) (x - (x / 2 ^ 1 &&& 1431655765)))))) : Nat) = ac_bits x := by decide +kernel
