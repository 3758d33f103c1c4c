/-! the reference: its layout, its rows -/
def ac_isM (Y : ac_Y) (x : Nat) : Prop := (Y.2.2 x 1 = x + 1 ∧ Y.2.2 x 6 = x + 2 ∧ Y.2.2 x 7 = x + 3 ∧ Y.2.2 x 8 = x + 4 ∧ Y.2.2 x 9 = x + 5 ∧ Y.2.2 x 11 = x + 6 ∧ Y.2.2 x 12 = x + 7 ∧ Y.2.2 x 14 = x + 8 ∧ Y.2.2 x 15 = x + 9 ∧ Y.2.2 x 16 = x + 10 ∧ Y.2.2 x 18 = x + 11 ∧ Y.2.2 x 19 = x + 12 ∧ Y.2.2 x 20 = x + 13 ∧ Y.2.2 x 21 = x + 14 ∧ Y.2.2 x 26 = x + 15 ∧ Y.2.2 x 27 = x + 16) ∧ Y.2.1 x = (0, 7) ∧ Y.2.1 (x + 1) = (1, 60) ∧ Y.2.1 (x + 2) = (1, 39) ∧ Y.2.1 (x + 3) = (1, 39) ∧ Y.2.1 (x + 4) = (1, 39) ∧ Y.2.1 (x + 5) = (1, 546) ∧ Y.2.1 (x + 6) = (1, 78) ∧ Y.2.1 (x + 7) = (2, 2) ∧ Y.2.1 (x + 8) = (1, 6) ∧ Y.2.1 (x + 9) = (1, 6) ∧ Y.2.1 (x + 10) = (1, 6) ∧ Y.2.1 (x + 11) = (1, 400) ∧ Y.2.1 (x + 12) = (1, 12) ∧ Y.2.1 (x + 13) = (1, 11) ∧ Y.2.1 (x + 14) = (1, 3) ∧ Y.2.1 (x + 15) = (2, 59049) ∧ Y.2.1 (x + 16) = (2, 12)
/-- lists that loops make -/
def ac_cc {α : Type} (g : Nat → List α) : Nat → List α
  | 0 => []
  | n + 1 => ac_cc g n ++ g n
theorem ac_cc_len {α : Type} (g : Nat → List α) : ∀ n, (ac_cc g n).length = ac_sm (fun i => (g i).length) n
  | 0 => rfl
  | n + 1 => by rw [ac_cc, List.length_append, ac_cc_len g n]; rfl
theorem ac_cc_cut {α : Type} {g : Nat → List α} {i : Nat} : ∀ {n : Nat}, i < n → ∃ r, ac_cc g n = ac_cc g (i + 1) ++ r
  | 0, h => by omega
  | n + 1, h => by
    by_cases hi : i = n
    · subst hi; exact ⟨[], by rw [List.append_nil]⟩
    · obtain ⟨r, hr⟩ := ac_cc_cut (g := g) (n := n) (show i < n by omega)
      exact ⟨r ++ g n, by rw [ac_cc, hr, List.append_assoc]⟩
theorem ac_cc_mem {α : Type} {g : Nat → List α} {a : α} : ∀ {n : Nat}, a ∈ ac_cc g n ↔ ∃ i, i < n ∧ a ∈ g i
  | 0 => by
    constructor
    · intro h; cases h
    · rintro ⟨i, h, -⟩; omega
  | n + 1 => by
    rw [ac_cc, List.mem_append, ac_cc_mem]
    constructor
    · rintro (⟨i, h1, h2⟩ | h)
      · exact ⟨i, by omega, h2⟩
      · exact ⟨n, by omega, h⟩
    · rintro ⟨i, h1, h2⟩
      by_cases h : i = n
      · subst h; exact Or.inr h2
      · exact Or.inl ⟨i, by omega, h2⟩
theorem ac_th_most {q : ac_Eq} {a b : Int} {t : Nat} (ht : t ≤ 10) : ac_th q a b t = if 0 < ac_th q a b 10 ∧ ac_th q a b 10 ≤ t then ac_th q a b 10 else 0 := by
  unfold ac_th
  by_cases h1 : q.2.2.1 = 0 ∨ (q.1 * a + q.2.1 * b).tmod q.2.2.1 ≠ 0
  · rw [if_pos h1, if_pos h1, if_neg (by omega)]
  · rw [if_neg h1, if_neg h1]
    generalize (q.1 * a + q.2.1 * b).tdiv q.2.2.1 = z
    by_cases h2 : z < 1 ∨ (10 : Int) < z ∨ ((a = b ∨ a = z ∨ b = z) ∧ q.2.2.2 = 1)
    · have hL : z < 1 ∨ (t : Int) < z ∨ ((a = b ∨ a = z ∨ b = z) ∧ q.2.2.2 = 1) := by
        rcases h2 with h | h | h
        · exact Or.inl h
        · exact Or.inr (Or.inl (by omega))
        · exact Or.inr (Or.inr h)
      rw [if_pos h2, if_pos hL, if_neg (by omega)]
    · rw [if_neg h2]
      by_cases h3 : z ≤ t
      · have hL : ¬ (z < 1 ∨ (t : Int) < z ∨ ((a = b ∨ a = z ∨ b = z) ∧ q.2.2.2 = 1)) := by
          rintro (h | h | h)
          · exact h2 (Or.inl h)
          · omega
          · exact h2 (Or.inr (Or.inr h))
        have h1 : ¬ z < 1 := fun q => h2 (Or.inl q)
        rw [if_neg hL, if_pos ⟨by omega, h3⟩]
      · rw [if_pos (Or.inr (Or.inl (by omega))), if_neg (by omega)]
/-- one mask, if a and b give a solution whose greatest number is t -/
def ac_ly (q : ac_Eq) (t a b : Nat) : List Nat := if 0 < ac_th q a b t ∧ max (max a b) (ac_th q a b t).toNat = t then [2 ^ a ||| 2 ^ b ||| 2 ^ (ac_th q a b t).toNat] else []
def ac_lx (q : ac_Eq) (t a : Nat) : List Nat := ac_cc (fun b => ac_ly q t a (b + 1)) t
def ac_leq (S : Nat) (E : List ac_Eq) (t e : Nat) : List Nat := match E[e]? with
  | some q => if S.testBit e = true then ac_cc (fun a => ac_lx q t (a + 1)) t else []
  | none => []
def ac_lt1 (S : Nat) (E : List ac_Eq) (t : Nat) : List Nat := ac_cc (ac_leq S E t) E.length
def ac_lall (S : Nat) (E : List ac_Eq) (t : Nat) : List Nat := ac_cc (fun u => ac_lt1 S E (u + 1)) t
theorem ac_lt1_mem {S : Nat} {E : List ac_Eq} {t Q : Nat} (ht : t ≤ 10) : Q ∈ ac_lt1 S E t ↔ ∃ (e : Nat) (q : ac_Eq) (a b : Nat), E[e]? = some q ∧ S.testBit e = true ∧ (1 ≤ a ∧ a ≤ 10) ∧ (1 ≤ b ∧ b ≤ 10) ∧ 0 < ac_th q a b 10 ∧ max (max a b) (ac_th q a b 10).toNat = t ∧ Q = ac_msk q a b := by
  unfold ac_lt1
  rw [ac_cc_mem]
  constructor
  · rintro ⟨e, he, h⟩
    obtain ⟨q, hq⟩ : ∃ q, E[e]? = some q := ⟨_, List.getElem?_eq_getElem he⟩
    unfold ac_leq at h
    rw [hq] at h
    simp only at h
    split at h
    · rename_i hS
      obtain ⟨a, ha, h⟩ := ac_cc_mem.mp h
      unfold ac_lx at h
      obtain ⟨b, hb, h⟩ := ac_cc_mem.mp h
      unfold ac_ly at h
      split at h
      · rename_i hc
        obtain ⟨h1, h2⟩ := hc
        have hm := @ac_th_most q ((a + 1 : Nat) : Int) ((b + 1 : Nat) : Int) t ht
        have h3 : 0 < ac_th q ((a + 1 : Nat) : Int) ((b + 1 : Nat) : Int) 10 ∧ ac_th q ((a + 1 : Nat) : Int) ((b + 1 : Nat) : Int) 10 ≤ t := Decidable.byContradiction fun hn => by rw [if_neg hn] at hm; omega
        rw [if_pos h3] at hm
        rw [hm] at h h2
        exact ⟨e, q, a + 1, b + 1, hq, hS, by omega, by omega, h3.1, h2, List.mem_singleton.mp h⟩
      · cases h
    · cases h
  · rintro ⟨e, q, a, b, hq, hS, ha, hb, h1, h2, rfl⟩
    have hm := @ac_th_most q (a : Int) (b : Int) t ht
    rw [if_pos ⟨h1, by omega⟩] at hm
    refine ⟨e, (List.getElem?_eq_some_iff.mp hq).1, ?_⟩
    unfold ac_leq
    rw [hq]
    simp only
    rw [if_pos hS, ac_cc_mem]
    refine ⟨a - 1, by omega, ?_⟩
    unfold ac_lx
    rw [ac_cc_mem]
    refine ⟨b - 1, by omega, ?_⟩
    unfold ac_ly
    rw [show a - 1 + 1 = a by omega, show b - 1 + 1 = b by omega, hm, if_pos ⟨h1, h2⟩]
    exact List.mem_singleton.mpr rfl
theorem ac_sm_add (g h : Nat → Nat) : ∀ n, ac_sm (fun i => g i + h i) n = ac_sm g n + ac_sm h n
  | 0 => rfl
  | n + 1 => by rw [ac_sm, ac_sm, ac_sm, ac_sm_add g h n]; omega
/-- how many pairs give solutions whose greatest number is at most t, exactly t -/
def ac_c1 (q : ac_Eq) (t : Nat) : Nat := ac_sm (fun a => ac_sm (fun b => if 0 < ac_th q ((a + 1 : Nat) : Int) ((b + 1 : Nat) : Int) 10 ∧ max (max (a + 1) (b + 1)) (ac_th q ((a + 1 : Nat) : Int) ((b + 1 : Nat) : Int) 10).toNat ≤ t then 1 else 0) 10) 10
theorem ac_c1_le (q : ac_Eq) (t : Nat) : ac_c1 q t ≤ 100 := by
  unfold ac_c1
  refine Nat.le_trans (ac_sm_bound (B := 10) (fun a => ?_) 10) (by decide)
  refine Nat.le_trans (ac_sm_bound (B := 1) (fun b => ?_) 10) (by decide)
  split <;> omega
theorem ac_c1_s (q : ac_Eq) (t : Nat) (ht : t + 1 ≤ 10) : ac_c1 q (t + 1) = ac_c1 q t + (ac_cc (fun a => ac_lx q (t + 1) (a + 1)) (t + 1)).length := by
  rw [ac_cc_len]
  have e1 : ∀ a, (ac_lx q (t + 1) (a + 1)).length = ac_sm (fun b => (ac_ly q (t + 1) (a + 1) (b + 1)).length) (t + 1) := fun a => ac_cc_len _ _
  have e2 : ∀ a b, (ac_ly q (t + 1) (a + 1) (b + 1)).length = if 0 < ac_th q ((a + 1 : Nat) : Int) ((b + 1 : Nat) : Int) 10 ∧ max (max (a + 1) (b + 1)) (ac_th q ((a + 1 : Nat) : Int) ((b + 1 : Nat) : Int) 10).toNat = t + 1 then 1 else 0 := by
    intro a b
    have hm := @ac_th_most q ((a + 1 : Nat) : Int) ((b + 1 : Nat) : Int) (t + 1) ht
    unfold ac_ly
    rw [hm]
    by_cases hc : 0 < ac_th q ((a + 1 : Nat) : Int) ((b + 1 : Nat) : Int) 10 ∧ ac_th q ((a + 1 : Nat) : Int) ((b + 1 : Nat) : Int) 10 ≤ ((t + 1 : Nat) : Int)
    · rw [if_pos hc]
      by_cases hd : 0 < ac_th q ((a + 1 : Nat) : Int) ((b + 1 : Nat) : Int) 10 ∧ max (max (a + 1) (b + 1)) (ac_th q ((a + 1 : Nat) : Int) ((b + 1 : Nat) : Int) 10).toNat = t + 1
      · rw [if_pos hd, if_pos hd]; rfl
      · rw [if_neg hd, if_neg hd]; rfl
    · rw [if_neg hc, if_neg (by omega), if_neg (by omega)]; rfl
  have e3 : ac_sm (fun a => (ac_lx q (t + 1) (a + 1)).length) (t + 1) = ac_sm (fun a => ac_sm (fun b => if 0 < ac_th q ((a + 1 : Nat) : Int) ((b + 1 : Nat) : Int) 10 ∧ max (max (a + 1) (b + 1)) (ac_th q ((a + 1 : Nat) : Int) ((b + 1 : Nat) : Int) 10).toNat = t + 1 then 1 else 0) 10) 10 := by
    have f1 : ∀ a, (ac_lx q (t + 1) (a + 1)).length = ac_sm (fun b => if 0 < ac_th q ((a + 1 : Nat) : Int) ((b + 1 : Nat) : Int) 10 ∧ max (max (a + 1) (b + 1)) (ac_th q ((a + 1 : Nat) : Int) ((b + 1 : Nat) : Int) 10).toNat = t + 1 then 1 else 0) 10 := by
      intro a
      rw [e1, ac_sm_stop (g := fun b => if 0 < ac_th q ((a + 1 : Nat) : Int) ((b + 1 : Nat) : Int) 10 ∧ max (max (a + 1) (b + 1)) (ac_th q ((a + 1 : Nat) : Int) ((b + 1 : Nat) : Int) 10).toNat = t + 1 then 1 else 0) (b := t + 1) (fun c hc => if_neg (by omega)) 10 ht]
      exact ac_sm_congr _ (fun b _ => e2 a b)
    rw [ac_sm_stop (g := fun a => ac_sm (fun b => if 0 < ac_th q ((a + 1 : Nat) : Int) ((b + 1 : Nat) : Int) 10 ∧ max (max (a + 1) (b + 1)) (ac_th q ((a + 1 : Nat) : Int) ((b + 1 : Nat) : Int) 10).toNat = t + 1 then 1 else 0) 10) (b := t + 1) (fun c hc => ?_) 10 ht]
    · exact ac_sm_congr _ (fun a _ => f1 a)
    · show ac_sm _ 10 = 0
      rw [ac_sm_stop (b := 0) (fun b _ => if_neg (by omega)) 10 (by decide)]; rfl
  rw [e3]
  unfold ac_c1
  rw [← ac_sm_add]
  refine ac_sm_congr _ (fun a _ => ?_)
  rw [← ac_sm_add]
  refine ac_sm_congr _ (fun b _ => ?_)
  generalize max (max (a + 1) (b + 1)) (ac_th q ((a + 1 : Nat) : Int) ((b + 1 : Nat) : Int) 10).toNat = M
  by_cases h0 : 0 < ac_th q ((a + 1 : Nat) : Int) ((b + 1 : Nat) : Int) 10
  · by_cases h1 : M ≤ t
    · rw [if_pos ⟨h0, by omega⟩, if_pos ⟨h0, h1⟩, if_neg (by omega)]
    · by_cases h2 : M = t + 1
      · rw [if_pos ⟨h0, by omega⟩, if_neg (by omega), if_pos ⟨h0, h2⟩]
      · rw [if_neg (by omega), if_neg (by omega), if_neg (by omega)]
  · rw [if_neg (fun q => h0 q.1), if_neg (fun q => h0 q.1), if_neg (fun q => h0 q.1)]
theorem ac_lall_len (S : Nat) (E : List ac_Eq) (hE : E.length ≤ 4) : (ac_lall S E 10).length ≤ 400 := by
  have key : ∀ t, t ≤ 10 → (ac_lall S E t).length ≤ ac_sm (fun e => match E[e]? with | some q => ac_c1 q t | none => 0) E.length := by
    intro t
    induction t with
    | zero => intro _; exact Nat.zero_le _
    | succ t ih =>
      intro ht
      have h1 := ih (by omega)
      have h2 : (ac_lall S E (t + 1)).length = (ac_lall S E t).length + (ac_lt1 S E (t + 1)).length := by
        show (ac_cc _ (t + 1)).length = _
        rw [ac_cc, List.length_append]; rfl
      have h3 : (ac_lt1 S E (t + 1)).length ≤ ac_sm (fun e => match E[e]? with | some q => (ac_cc (fun a => ac_lx q (t + 1) (a + 1)) (t + 1)).length | none => 0) E.length := by
        unfold ac_lt1
        rw [ac_cc_len]
        refine ac_sm_le (fun e => ?_) _
        unfold ac_leq
        cases E[e]? with
        | none => exact Nat.le_refl _
        | some q =>
          simp only
          split
          · exact Nat.le_refl _
          · exact Nat.zero_le _
      have h4 : ac_sm (fun e => match E[e]? with | some q => ac_c1 q (t + 1) | none => 0) E.length = ac_sm (fun e => match E[e]? with | some q => ac_c1 q t | none => 0) E.length + ac_sm (fun e => match E[e]? with | some q => (ac_cc (fun a => ac_lx q (t + 1) (a + 1)) (t + 1)).length | none => 0) E.length := by
        rw [← ac_sm_add]
        refine ac_sm_congr _ (fun e _ => ?_)
        cases E[e]? with
        | none => rfl
        | some q => exact ac_c1_s q t ht
      rw [h2, h4]; omega
  refine Nat.le_trans (key 10 (Nat.le_refl _)) (Nat.le_trans (ac_sm_bound (B := 100) (fun e => ?_) _) ?_)
  · cases E[e]? with
    | none => exact Nat.zero_le _
    | some q => exact ac_c1_le q 10
  · exact Nat.mul_le_mul_right 100 hE
/-- the row of sets holds a list, the row 'from' where each greatest number's sets begin -/
def ac_ST (mm : ac_M) (x S : Nat) (E : List ac_Eq) : Prop := (∀ t : Nat, 1 ≤ t → t ≤ 11 → mm (x + 12) t = ((ac_lall S E (t - 1)).length : Int)) ∧ ∀ j Q : Nat, (ac_lall S E 10)[j]? = some Q → mm (x + 11) j = (Q : Int)
theorem ac_lall_lt {S : Nat} {E : List ac_Eq} {Q : Nat} (h : Q ∈ ac_lall S E 10) : Q < 2048 := by
  unfold ac_lall at h
  obtain ⟨u, hu, h⟩ := ac_cc_mem.mp h
  obtain ⟨e, q, a, b, -, -, ha, hb, -, -, rfl⟩ := (ac_lt1_mem (by omega)).mp h
  exact ac_msk_lt ha.2 hb.2
/-- what the reference asks of a number's colour: no set with this greatest number within -/
theorem ac_may_top {S : Nat} {E : List ac_Eq} {l : List Nat} {c : Nat} (hl : l.length + 1 ≤ 10) (hv : ac_br E (ac_set l c) &&& S = 0) :
    (∀ Q, Q ∈ ac_lt1 S E (l.length + 1) → ac_andn Q (ac_set (l ++ [c]) c) ≠ 0) ↔ ac_br E (ac_set (l ++ [c]) c) &&& S = 0 := by
  have hsub : ∀ Q V : Nat, ac_andn Q V = 0 ↔ ac_sub Q V := by
    intro Q V
    constructor
    · intro h i hi
      have := ac_andn_bit Q V i
      rw [h, Nat.zero_testBit, hi] at this
      simpa using this.symm
    · intro h
      refine Nat.eq_of_testBit_eq fun i => ?_
      rw [Nat.zero_testBit, ac_andn_bit]
      cases hQ : Q.testBit i with
      | false => rfl
      | true => rw [h i hQ]; rfl
  have hbnd : ∀ i, (ac_set (l ++ [c]) c).testBit i = true → i ≤ l.length + 1 := by
    intro i hi
    rw [ac_set_bit, decide_eq_true_eq] at hi
    have := (List.getElem?_eq_some_iff.mp hi.2).1
    rw [List.length_append, List.length_singleton] at this; omega
  have hlow : ∀ i, i ≤ l.length → (ac_set (l ++ [c]) c).testBit i = true → (ac_set l c).testBit i = true := by
    intro i hi h
    rw [ac_set_snoc, if_pos rfl, Nat.testBit_or, Nat.testBit_two_pow, Bool.or_eq_true] at h
    rcases h with h | h
    · exact h
    · rw [decide_eq_true_eq] at h; omega
  constructor
  · intro h
    refine Nat.eq_of_testBit_eq fun e => ?_
    rw [Nat.zero_testBit, Nat.testBit_and, Bool.eq_false_iff]
    intro he
    rw [Bool.and_eq_true] at he
    obtain ⟨q, hq, hs⟩ := ac_br_bit.mp he.1
    obtain ⟨a, b, ha, hb, hz, ta, tb, tz⟩ := ac_sol_iff.mp hs
    by_cases hmx : max (max a b) (ac_th q a b 10).toNat = l.length + 1
    · refine h (ac_msk q a b) ((ac_lt1_mem hl).mpr ⟨e, q, a, b, hq, he.2, ha, hb, hz, hmx, rfl⟩) ((hsub _ _).mpr fun i hi => ?_)
      rcases ac_msk_bit.mp hi with rfl | rfl | rfl <;> assumption
    · have h1 := hbnd _ ta
      have h2 := hbnd _ tb
      have h3 := hbnd _ tz
      have hb2 : (ac_br E (ac_set l c)).testBit e = true := ac_br_bit.mpr ⟨q, hq, ac_sol_iff.mpr ⟨a, b, ha, hb, hz, hlow _ (by omega) ta, hlow _ (by omega) tb, hlow _ (by omega) tz⟩⟩
      have h4 : (ac_br E (ac_set l c) &&& S).testBit e = false := by rw [hv, Nat.zero_testBit]
      rw [Nat.testBit_and, hb2, he.2] at h4; cases h4
  · intro h Q hQ hn
    obtain ⟨e, q, a, b, hq, hS, ha, hb, hz, -, rfl⟩ := (ac_lt1_mem hl).mp hQ
    have hs := (hsub _ _).mp hn
    have hb2 : (ac_br E (ac_set (l ++ [c]) c)).testBit e = true := ac_br_bit.mpr ⟨q, hq, ac_sol_iff.mpr ⟨a, b, ha, hb, hz, hs _ (ac_msk_bit.mpr (Or.inl rfl)), hs _ (ac_msk_bit.mpr (Or.inr (Or.inl rfl))), hs _ (ac_msk_bit.mpr (Or.inr (Or.inr rfl)))⟩⟩
    have h4 : (ac_br E (ac_set (l ++ [c]) c) &&& S).testBit e = false := by rw [h, Nat.zero_testBit]
    rw [Nat.testBit_and, hb2, hS] at h4; cases h4
