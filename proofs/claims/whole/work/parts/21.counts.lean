/-! what the walks count: possible colours, kinds, tallies -/
def ac_PL (P : Nat → Nat) (l : List Nat) (L : List (List Nat)) : Nat → Nat := fun y => P y ||| (if l.length < y then ac_cb L y else 0)
theorem ac_PL_0 (P : Nat → Nat) (l : List Nat) : ac_PL P l [] = P := by
  funext y; unfold ac_PL; rw [ac_cb]; simp
theorem ac_PL_1 (P : Nat → Nat) (l : List Nat) : ac_PL P l [l] = P := by
  funext y; unfold ac_PL
  by_cases h : l.length < y
  · rw [if_pos h, ac_cb, ac_cb, List.getElem?_eq_none (by omega)]; simp
  · rw [if_neg h, Nat.or_zero]
theorem ac_PL_s {A : List Nat → Nat → Bool} {f c : Nat} {l : List Nat} {P : Nat → Nat} (hA : A l c = true) (y : Nat) :
    ac_PL P l (ac_gl A f l (c + 1)) y = if y = l.length + 1 then ac_PL (ac_PL P l (ac_gl A f l c)) (l ++ [c]) (ac_ext A f (l ++ [c])) y ||| (if ac_ext A f (l ++ [c]) = [] then 0 else 2 ^ c) else ac_PL (ac_PL P l (ac_gl A f l c)) (l ++ [c]) (ac_ext A f (l ++ [c])) y := ac_P_step hA y
theorem ac_gl_n {A : List Nat → Nat → Bool} {f c : Nat} {l : List Nat} (h : ¬ A l c = true) : ac_gl A f l (c + 1) = ac_gl A f l c := by
  rw [ac_gl, if_neg h, List.append_nil]
theorem ac_gd_n {A : List Nat → Nat → Bool} {f c : Nat} {l : List Nat} (h : ¬ A l c = true) : ac_gd A f l (c + 1) = ac_gd A f l c := by
  rw [ac_gd, if_neg h, Nat.add_zero]
theorem ac_ge_n {A : List Nat → Nat → Bool} {f c : Nat} {l : List Nat} (h : ¬ A l c = true) : ac_ge A f l (c + 1) = ac_ge A f l c := by
  rw [ac_ge, if_neg h, Nat.max_zero]
theorem ac_ga_n {A : List Nat → Nat → Bool} {c : Nat} {l : List Nat} (h : ¬ A l c = true) : ac_ga A l (c + 1) = ac_ga A l c := by
  rw [ac_ga, Bool.eq_false_iff.mpr h, Bool.or_false]
theorem ac_ga_y {A : List Nat → Nat → Bool} {c : Nat} {l : List Nat} (h : A l c = true) : ac_ga A l (c + 1) = true := by
  rw [ac_ga, h, Bool.or_true]
theorem ac_gl_y {A : List Nat → Nat → Bool} {f c : Nat} {l : List Nat} (h : A l c = true) (D : List (List Nat)) : (D ++ ac_gl A f l c) ++ ac_ext A f (l ++ [c]) = D ++ ac_gl A f l (c + 1) := by
  rw [ac_gl, if_pos h, List.append_assoc]
theorem ac_gd_y {A : List Nat → Nat → Bool} {f c : Nat} {l : List Nat} (h : A l c = true) (D : Nat) : (D + ac_gd A f l c) + ac_dead A f (l ++ [c]) = D + ac_gd A f l (c + 1) := by
  rw [ac_gd, if_pos h, Nat.add_assoc]
theorem ac_ge_y {A : List Nat → Nat → Bool} {f c : Nat} {l : List Nat} (h : A l c = true) (D : Nat) : max (max D (ac_ge A f l c)) (ac_deep A f (l ++ [c])) = max D (ac_ge A f l (c + 1)) := by
  rw [ac_ge, if_pos h, Nat.max_assoc]
/-- sums -/
def ac_sm (g : Nat → Nat) : Nat → Nat
  | 0 => 0
  | c + 1 => ac_sm g c + g c
theorem ac_sm_stop {g : Nat → Nat} {b : Nat} (h : ∀ c, b ≤ c → g c = 0) : ∀ c, b ≤ c → ac_sm g c = ac_sm g b
  | 0, hc => by rw [show b = 0 by omega]
  | c + 1, hc => by
    by_cases hb : b = c + 1
    · rw [hb]
    · rw [ac_sm, h c (by omega), ac_sm_stop h c (by omega)]; rfl
theorem ac_sm_le {g h : Nat → Nat} (hg : ∀ i, g i ≤ h i) : ∀ c, ac_sm g c ≤ ac_sm h c
  | 0 => Nat.le_refl _
  | c + 1 => Nat.add_le_add (ac_sm_le hg c) (hg c)
theorem ac_sm_congr {g h : Nat → Nat} : ∀ c, (∀ i, i < c → g i = h i) → ac_sm g c = ac_sm h c
  | 0, _ => rfl
  | c + 1, hg => by rw [ac_sm, ac_sm, ac_sm_congr c (fun i hi => hg i (by omega)), hg c (by omega)]
/-- the ways to name the blocks that give block b the colour p -/
def ac_nmA (p : Int) (b : Nat) : Nat → Nat
  | 0 => 0
  | i + 1 => ac_nmA p b i ||| (if ac_names (3 * i + b) = p then 2 ^ i else 0)
def ac_nmw (p : Int) (b : Nat) : Nat := if p = -1 then 63 else ac_nmA p b 6
theorem ac_nmA_lt (p : Int) (b : Nat) : ∀ i, ac_nmA p b i < 2 ^ i
  | 0 => Nat.one_pos
  | i + 1 => by
    rw [ac_nmA]
    refine Nat.or_lt_two_pow (Nat.lt_trans (ac_nmA_lt p b i) (Nat.pow_lt_pow_of_lt (by decide) (by omega))) ?_
    split
    · exact Nat.pow_lt_pow_of_lt (by decide) (by omega)
    · exact Nat.two_pow_pos _
theorem ac_nmw_lt (p : Int) (b : Nat) : ac_nmw p b < 64 := by
  unfold ac_nmw; split
  · decide
  · exact ac_nmA_lt p b 6
def ac_grc (k : Nat) (E : List ac_Eq) (l : List Nat) (o b : Nat) : Prop := b ≤ o ∧ b < k ∧ ac_br E (ac_set (l ++ [b]) b) = 0
def ac_grcd (k : Nat) (E : List ac_Eq) (l : List Nat) (o b : Nat) : Decidable (ac_grc k E l o b) := by unfold ac_grc; infer_instance
/-- kinds that go on from the blocks l, o of them open -/
def ac_grp (k : Nat) (E : List ac_Eq) (pin : Nat → Int) : Nat → List Nat → Nat → Nat → Nat
  | 0, _, _, nm => if nm = 0 then 0 else 1
  | f + 1, l, o, nm => if nm = 0 then 0 else ac_sm (fun b => @ite _ (ac_grc k E l o b) (ac_grcd k E l o b) (ac_grp k E pin f (l ++ [b]) (max o (b + 1)) (nm &&& ac_nmw (pin (l.length + 1)) b)) 0) 3
def ac_gg (k : Nat) (E : List ac_Eq) (pin : Nat → Int) (f : Nat) (l : List Nat) (o nm : Nat) : Nat → Nat := ac_sm (fun b => @ite _ (ac_grc k E l o b) (ac_grcd k E l o b) (ac_grp k E pin f (l ++ [b]) (max o (b + 1)) (nm &&& ac_nmw (pin (l.length + 1)) b)) 0)
theorem ac_grp_s {k : Nat} {E : List ac_Eq} {pin : Nat → Int} {f : Nat} {l : List Nat} {o nm : Nat} (h : nm ≠ 0) : ac_grp k E pin (f + 1) l o nm = ac_gg k E pin f l o nm 3 := by
  rw [ac_grp, if_neg h]; rfl
theorem ac_grp_0 {k : Nat} {E : List ac_Eq} {pin : Nat → Int} {l : List Nat} {o : Nat} : ∀ f, ac_grp k E pin f l o 0 = 0
  | 0 => rfl
  | f + 1 => by rw [ac_grp, if_pos rfl]
theorem ac_gg_y {k : Nat} {E : List ac_Eq} {pin : Nat → Int} {f : Nat} {l : List Nat} {o nm b : Nat} (h : ac_grc k E l o b) : ac_gg k E pin f l o nm (b + 1) = ac_gg k E pin f l o nm b + ac_grp k E pin f (l ++ [b]) (max o (b + 1)) (nm &&& ac_nmw (pin (l.length + 1)) b) := by
  unfold ac_gg; rw [ac_sm, if_pos h]
theorem ac_gg_n {k : Nat} {E : List ac_Eq} {pin : Nat → Int} {f : Nat} {l : List Nat} {o nm b : Nat} (h : ¬ ac_grc k E l o b) : ac_gg k E pin f l o nm (b + 1) = ac_gg k E pin f l o nm b := by
  unfold ac_gg; rw [ac_sm, if_neg h]; rfl
theorem ac_gg_stop {k : Nat} {E : List ac_Eq} {pin : Nat → Int} {f : Nat} {l : List Nat} {o nm b : Nat} (h : o < b ∨ k ≤ b) (hb : b ≤ 3) : ac_gg k E pin f l o nm b = ac_gg k E pin f l o nm 3 := by
  unfold ac_gg
  refine (ac_sm_stop (fun c hc => if_neg ?_) 3 hb).symm
  rintro ⟨h1, h2, -⟩; omega
/-- the pins alone -/
def ac_pinA (k : Nat) (pin : Nat → Int) (l : List Nat) (c : Nat) : Bool := decide (c < k) && decide (pin (l.length + 1) = -1 ∨ pin (l.length + 1) = (c : Int))
theorem ac_pinA_iff {k : Nat} {pin : Nat → Int} {l : List Nat} {c : Nat} : ac_pinA k pin l c = true ↔ c < k ∧ (pin (l.length + 1) = -1 ∨ pin (l.length + 1) = (c : Int)) := by
  unfold ac_pinA; rw [Bool.and_eq_true, decide_eq_true_eq, decide_eq_true_eq]
/-- the equations that a colouring breaks -/
def ac_brk (E : List ac_Eq) (l : List Nat) : Nat := ac_br E (ac_set l 0) ||| ac_br E (ac_set l 1) ||| ac_br E (ac_set l 2)
theorem ac_brk_lt {E : List ac_Eq} (l : List Nat) (h : E.length ≤ 4) : ac_brk E l < 16 :=
  Nat.or_lt_two_pow (n := 4) (Nat.or_lt_two_pow (n := 4) (ac_br_lt _ h) (ac_br_lt _ h)) (ac_br_lt _ h)
def ac_tl (E : List ac_Eq) (L : List (List Nat)) (j : Nat) : Nat := L.countP (fun x => decide (ac_brk E x = j))
theorem ac_tl_app (E : List ac_Eq) (L M : List (List Nat)) (j : Nat) : ac_tl E (L ++ M) j = ac_tl E L j + ac_tl E M j := List.countP_append
def ac_hs (t : Nat → Nat) (e : Nat) : Nat → Nat := ac_sm (fun j => if j &&& e = 0 then t j else 0)
theorem ac_hs_count {E : List ac_Eq} (hE : E.length ≤ 4) (e : Nat) (L : List (List Nat)) : ac_hs (ac_tl E L) e 16 = L.countP (fun x => decide (ac_brk E x &&& e = 0)) := by
  induction L with
  | nil =>
    show ac_sm _ 16 = 0
    rw [ac_sm_stop (b := 0) (fun c _ => by show (if c &&& e = 0 then 0 else 0) = 0; split <;> rfl) 16 (by decide)]; rfl
  | cons x L ih =>
    rw [List.countP_cons, ← ih]
    have hb := ac_brk_lt (E := E) x hE
    generalize hv : ac_brk E x = v at *
    have ht : ∀ j, ac_tl E (x :: L) j = ac_tl E L j + if v = j then 1 else 0 := by
      intro j; unfold ac_tl; rw [List.countP_cons, hv]; simp
    have key : ∀ c, ac_hs (ac_tl E (x :: L)) e c = ac_hs (ac_tl E L) e c + if v < c ∧ v &&& e = 0 then 1 else 0 := by
      intro c
      induction c with
      | zero => rw [if_neg (by omega)]; rfl
      | succ c ih2 =>
        show ac_hs (ac_tl E (x :: L)) e c + (if c &&& e = 0 then ac_tl E (x :: L) c else 0) = ac_hs (ac_tl E L) e c + (if c &&& e = 0 then ac_tl E L c else 0) + _
        rw [ih2, ht]
        by_cases h1 : v = c
        · subst h1
          by_cases h2 : v &&& e = 0
          · rw [if_neg (by omega), if_pos h2, if_pos h2, if_pos rfl, if_pos ⟨by omega, h2⟩]; omega
          · rw [if_neg (by omega), if_neg h2, if_neg h2, if_neg (fun q => h2 q.2)]
        · rw [if_neg h1, Nat.add_zero]
          have e1 : (if v < c + 1 ∧ v &&& e = 0 then 1 else 0) = (if v < c ∧ v &&& e = 0 then 1 else 0) := by
            by_cases h3 : v < c ∧ v &&& e = 0
            · rw [if_pos h3, if_pos ⟨by omega, h3.2⟩]
            · rw [if_neg h3, if_neg (fun q => h3 ⟨by omega, q.2⟩)]
          rw [e1]; omega
    rw [key 16]
    congr 1
    by_cases h2 : v &&& e = 0
    · rw [if_pos ⟨hb, h2⟩]; simp [h2]
    · rw [if_neg (fun q => h2 q.2)]; simp [h2]
