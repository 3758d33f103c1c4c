/-! powers, fractions, shares, doings, draws -/
theorem ac_tv {G : ac_G} {on : String × String} {cc : ByteArray} {nL : Nat} {ret : Option FieldType} {d mc ms : Nat} {P : ac_P} {ck cn : Nat} {Y : ac_Y} {mm : ac_M} {pc : Nat} {ls st : List (Nat × Int)} {w w' : Nat × Int} (h : ∀ base : Nat, ac_v base w = ac_v base w') (kk : ac_V G on cc nL ret d mc ms P ck cn Y mm pc ls (w' :: st)) : ac_V G on cc nL ret d mc ms P ck cn Y mm pc ls (w :: st) := by
  intro p e s m args below meth c H locs la X hz hH hS hL
  have hk := kk p e s m args below meth c H locs la X hz hH hS hL
  rw [List.map_cons, ← h] at hk
  exact hk
def ac_nrm (x : Int) : Int := (Int64.ofInt x).toInt
theorem ac_nrm_in (x : Int) : ac_il (ac_nrm x) := by
  unfold ac_nrm ac_il
  have h1 := Int64.le_toInt (Int64.ofInt x)
  have h2 := Int64.toInt_lt (Int64.ofInt x)
  exact ⟨by simpa using h1, by simpa using h2⟩
theorem ac_nrm_v (x : Int) (base : Nat) : ac_v base (1, x) = ac_v base (1, ac_nrm x) := by
  show Value.long (Int64.ofInt x) = Value.long (Int64.ofInt (ac_nrm x))
  unfold ac_nrm
  rw [Int64.ofInt_toInt]
def ac_fac : Nat → Nat
  | 0 => 1
  | n + 1 => ac_fac n * (n + 1)
theorem ac_fac_le : ∀ n, n ≤ 4 → ac_fac n ≤ 24 := by decide
theorem ac_fac_pos : ∀ n, n ≤ 4 → 1 ≤ ac_fac n := by decide
def ac_euc : Nat → Nat → Nat → Nat
  | 0, a, _ => a
  | f + 1, a, b => if b = 0 then a else ac_euc f b (a % b)
theorem ac_euc_F : ∀ (j f a b : Nat), a < 2 ^ j → b < a → 2 * j ≤ f → ac_euc f a b = Nat.gcd a b
  | 0, f, a, b, h1, h2, h3 => by omega
  | j + 1, f, a, b, h1, h2, h3 => by
    obtain ⟨f, rfl⟩ : ∃ g, f = g + 2 := ⟨f - 2, by omega⟩
    rw [ac_euc]
    by_cases hb : b = 0
    · rw [if_pos hb, hb, Nat.gcd_zero_right]
    · rw [if_neg hb]
      have hm := Nat.mod_lt a (Nat.pos_of_ne_zero hb)
      have hg : Nat.gcd a b = Nat.gcd b (a % b) := by rw [Nat.gcd_comm a b, Nat.gcd_rec b a, Nat.gcd_comm]
      rw [hg]
      by_cases hs : b < 2 ^ j
      · exact ac_euc_F j (f + 1) b (a % b) hs hm (by omega)
      · rw [ac_euc]
        by_cases hr : a % b = 0
        · rw [if_pos hr, hr, Nat.gcd_zero_right]
        · rw [if_neg hr]
          have hp : 2 ^ (j + 1) = 2 * 2 ^ j := by rw [Nat.pow_succ]; omega
          have hmod : a % b = a - b := by rw [Nat.mod_eq_sub_mod (by omega), Nat.mod_eq_of_lt (by omega)]
          have hg2 : Nat.gcd b (a % b) = Nat.gcd (a % b) (b % (a % b)) := by rw [Nat.gcd_comm b, Nat.gcd_rec (a % b) b, Nat.gcd_comm]
          rw [hg2]
          exact ac_euc_F j f (a % b) (b % (a % b)) (by omega) (Nat.mod_lt b (Nat.pos_of_ne_zero hr)) (by omega)
theorem ac_euc_gcd {a b f : Nat} (h : b < 2 ^ 40) (hf : 81 ≤ f) : ac_euc f a b = Nat.gcd a b := by
  obtain ⟨f, rfl⟩ : ∃ g, f = g + 1 := ⟨f - 1, by omega⟩
  rw [ac_euc]
  by_cases hb : b = 0
  · rw [if_pos hb, hb, Nat.gcd_zero_right]
  · rw [if_neg hb, ac_euc_F 40 f b (a % b) h (Nat.mod_lt a (Nat.pos_of_ne_zero hb)) (by omega), Nat.gcd_comm b, ← Nat.gcd_rec b a, Nat.gcd_comm]
def ac_frac (a b : Nat) (up : Int) : Int := if up ≠ 0 then ((a / Nat.gcd b a : Nat) : Int) else ((b / Nat.gcd b a : Nat) : Int)
/-- how many colourings heed the equations S -/
def ac_NS (T : ac_Tk) (S : Nat) : Nat := (ac_ext (ac_mayS S T.2.1 T.2.2.1 T.2.2.2.1) T.1 []).length
def ac_shg (T : ac_Tk) (e b : Nat) : Nat := if b.testBit e = true then 0 else ac_fac (ac_bits b) * ac_fac (T.2.2.1.length - 1 - ac_bits b) * (ac_NS T b - ac_NS T (b ||| 2 ^ e))
def ac_shv (T : ac_Tk) (e : Nat) : Nat := ac_sm (ac_shg T e) (2 ^ T.2.2.1.length)
def ac_lsg (T : ac_Tk) (x b : Nat) : Nat := if 0 < ac_NS T b then (10 - x) ^ ac_bits b * x ^ (T.2.2.1.length - ac_bits b) else 0
def ac_los (T : ac_Tk) (x : Nat) : Nat := ac_sm (ac_lsg T x) (2 ^ T.2.2.1.length)
def ac_an_share (T : ac_Tk) (e up : Int) : Int := if ¬ (0 ≤ e ∧ e < (T.2.2.1.length : Int)) then -1 else ac_frac (ac_shv T e.toNat) (ac_fac T.2.2.1.length) up
def ac_an_luck (T : ac_Tk) (up : Int) : Int := ac_frac (ac_Lt T).length (T.2.1 ^ T.1) up
def ac_an_lost (T : ac_Tk) (x up : Int) : Int := if ¬ (0 ≤ x ∧ x ≤ 10) then -2 else ac_frac (ac_los T x.toNat) (10 ^ T.2.2.1.length) up
theorem ac_bits_d : ∀ n, n ≤ 4 → ∀ b, b < 2 ^ n → ac_bits b ≤ n ∧ ∀ e, e < n → b.testBit e = false → ac_bits b + 1 ≤ n := by decide +kernel
theorem ac_NS_le (T : ac_Tk) (S : Nat) (h : T.1 ≤ 10) : ac_NS T S ≤ 59049 := Nat.le_trans (ac_ext_len _ _ _) (Nat.pow_le_pow_right (by decide) h)
theorem ac_NS_hs (T : ac_Tk) (S : Nat) (hk : T.2.1 ≤ 3) (hE : T.2.2.1.length ≤ 4) : ac_hs (ac_tl T.2.2.1 (ac_ext (ac_pinA T.2.1 T.2.2.2.1) T.1 [])) S 16 = ac_NS T S := ac_hs_len hk hE
theorem ac_NS_mono (T : ac_Tk) (S S' : Nat) (hk : T.2.1 ≤ 3) (hE : T.2.2.1.length ≤ 4) : ac_NS T (S ||| S') ≤ ac_NS T S := by
  rw [← ac_NS_hs T _ hk hE, ← ac_NS_hs T _ hk hE, ac_hs_count hE, ac_hs_count hE]
  refine List.countP_mono_left fun l _ h => ?_
  rw [decide_eq_true_eq] at h ⊢
  rw [Nat.and_or_distrib_left] at h
  refine Nat.eq_of_testBit_eq fun i => ?_
  have h2 : (ac_brk T.2.2.1 l &&& S ||| ac_brk T.2.2.1 l &&& S').testBit i = false := by rw [h, Nat.zero_testBit]
  rw [Nat.testBit_or, Bool.or_eq_false_iff] at h2
  rw [h2.1, Nat.zero_testBit]
theorem ac_sm_bound {g : Nat → Nat} {B : Nat} (h : ∀ i, g i ≤ B) : ∀ c, ac_sm g c ≤ c * B
  | 0 => Nat.zero_le _
  | c + 1 => by
    have h1 := ac_sm_bound h c
    have h2 := h c
    rw [ac_sm, Nat.succ_mul]; omega
theorem ac_shg_le (T : ac_Tk) (e b : Nat) (hn : T.1 ≤ 10) (hb : ac_bits b ≤ 4) (hE : T.2.2.1.length ≤ 4) : ac_shg T e b ≤ 24 * 24 * 59049 := by
  unfold ac_shg
  split
  · exact Nat.zero_le _
  · exact Nat.mul_le_mul (Nat.mul_le_mul (ac_fac_le _ hb) (ac_fac_le _ (by omega))) (by have := ac_NS_le T b hn; omega)
theorem ac_sm_bound2 {g : Nat → Nat} {B : Nat} : ∀ c, (∀ i, i < c → g i ≤ B) → ac_sm g c ≤ c * B
  | 0, _ => Nat.zero_le _
  | c + 1, h => by
    have h1 := ac_sm_bound2 c (fun i hi => h i (by omega))
    have h2 := h c (by omega)
    rw [ac_sm, Nat.succ_mul]; omega
theorem ac_pow10 {a n : Nat} (ha : a ≤ 10) (hn : n ≤ 4) : a ^ n ≤ 10000 := Nat.le_trans (Nat.pow_le_pow_left ha n) (Nat.pow_le_pow_right (n := 10) (by decide) hn)
theorem ac_lsg_le (T : ac_Tk) (x b : Nat) (hx : x ≤ 10) (hb : ac_bits b ≤ 4) (hE : T.2.2.1.length ≤ 4) : ac_lsg T x b ≤ 10000 * 10000 := by
  unfold ac_lsg
  split
  · exact Nat.mul_le_mul (ac_pow10 (by omega) hb) (ac_pow10 hx (by omega))
  · exact Nat.zero_le _
/-! doings -/
def ac_poss (T : ac_Tk) (x : Nat) : Nat := if 1 ≤ x ∧ x ≤ 10 then ac_cb (ac_Lt T) x else 0
def ac_std (T : ac_Tk) (d : Nat) : Bool × ac_Tk :=
  if d / 1000 = 1 then (decide (ac_rfp T ((d % 1000 / 10 : Nat) : Int) ((d % 1000 % 10 : Nat) : Int) = 0), if ac_rfp T ((d % 1000 / 10 : Nat) : Int) ((d % 1000 % 10 : Nat) : Int) = 0 then ac_t_paint T ((d % 1000 / 10 : Nat) : Int) ((d % 1000 % 10 : Nat) : Int) else T)
  else if d / 1000 = 2 then (decide (ac_rfn T ((d % 1000 / 10 : Nat) : Int) ((d % 1000 % 10 : Nat) : Int) = 0), if ac_rfn T ((d % 1000 / 10 : Nat) : Int) ((d % 1000 % 10 : Nat) : Int) = 0 then ac_t_pin T (d % 1000 / 10) ((d % 1000 % 10 : Nat) : Int) else T)
  else if d / 1000 = 3 then (decide (1 ≤ d % 1000 ∧ d % 1000 ≤ 10), if 1 ≤ d % 1000 ∧ d % 1000 ≤ 10 then ac_t_reach T (d % 1000) else T)
  else if d / 1000 = 4 then (decide ((ac_Lt T).length = d % 1000), T)
  else if d / 1000 = 5 then (decide (ac_poss T (d % 1000 / 10) = 2 ^ (d % 1000 % 10)), T)
  else if d / 1000 = 6 then (decide (d % 1000 < T.2.2.1.length) && @decide (ac_reg (ac_eqn T ((d % 1000 : Nat) : Int))) (ac_regd _), T)
  else if d / 1000 = 7 then (decide (ac_limT T = if d % 1000 = 0 then -9 else ((d % 1000 : Nat) : Int)), T)
  else (false, T)
/-- n doings, those of a row of figures -/
def ac_jd (row : Nat) : Nat → ac_Tk → Nat → Int
  | 0, _, _ => -9
  | f + 1, T, i => if (ac_std T (row / 10000 ^ f % 10000)).1 = true then ac_jd row f (ac_std T (row / 10000 ^ f % 10000)).2 (i + 1) else (i : Int)
def ac_an_judge (T : ac_Tk) (n row : Int) : Int := if ¬ ((1 ≤ n ∧ n ≤ 4) ∧ 0 ≤ row ∧ row.toNat / 10000 ^ n.toNat = 0) then -2 else ac_jd row.toNat n.toNat T 0
theorem ac_paint_ok {T : ac_Tk} {a c : Int} (hok : ac_okS T) (h : ac_rfp T a c = 0) : ac_okS (ac_t_paint T a c) := by
  have hk := hok.1.2.1.2
  unfold ac_rfp at h
  by_cases q1 : 1 ≤ a ∧ a ≤ (T.1 : Int)
  · rw [if_neg (fun q => q q1)] at h
    by_cases q2 : 0 ≤ c ∧ c < (T.2.1 : Int)
    · rw [if_neg (fun q => q q2)] at h
      by_cases q3 : ac_pt T a.toNat c.toNat = true
      · unfold ac_pt at q3
        cases hcol : T.2.2.2.2 with
        | none => rw [hcol] at q3; cases q3
        | some l =>
          rw [hcol] at q3
          simp only [Bool.and_eq_true, decide_eq_true_eq] at q3
          have hcd : ac_colD T = l := by unfold ac_colD; rw [hcol]; rfl
          have hL : ac_Lt (ac_t_paint T a c) = ac_Lt T := rfl
          have hcol2 : (ac_t_paint T a c).2.2.2.2 = some (l.set (a.toNat - 1) c.toNat) := by unfold ac_t_paint ac_wcol; rw [hcd]
          obtain ⟨m1, m2, -⟩ := (ac_Lt_mem hk).mp q3.2
          refine ⟨⟨hok.1.1, hok.1.2.1, hok.1.2.2.1, hok.1.2.2.2.1, hok.1.2.2.2.2.1, fun z hz => ?_⟩, fun z hz => ?_, fun hz => ?_⟩
          · rw [hcol2] at hz; cases hz; exact ⟨m1, m2⟩
          · rw [hcol2] at hz; cases hz; rw [hL]; exact q3.2
          · rw [hcol2] at hz; cases hz
      · rw [if_neg q3] at h; exact absurd h (by decide)
    · rw [if_pos q2] at h; exact absurd h (by decide)
  · rw [if_pos q1] at h; exact absurd h (by decide)
theorem ac_pin_okK {T : ac_Tk} {x : Nat} {c : Int} (hok : ac_okK T.1 T.2.1 T.2.2.1 T.2.2.2.1 T.2.2.2.2) (hx : 1 ≤ x ∧ x ≤ T.1) : ac_okK T.1 T.2.1 T.2.2.1 (ac_sp T.2.2.2.1 x (if 0 ≤ c ∧ c < (T.2.1 : Int) then c else -1)) T.2.2.2.2 := by
  obtain ⟨h1, h2, h3, h4, h5, h6⟩ := hok
  refine ⟨h1, h2, h3, fun i hi => ?_, fun i => ?_, h6⟩
  · unfold ac_sp; rw [if_neg (by omega)]; exact h4 i hi
  · unfold ac_sp; split
    · split <;> omega
    · exact h5 i
theorem ac_reach_okK {T : ac_Tk} {n : Nat} (hok : ac_okK T.1 T.2.1 T.2.2.1 T.2.2.2.1 T.2.2.2.2) (hn : 1 ≤ n ∧ n ≤ 10) : ac_okK n T.2.1 T.2.2.1 (ac_cut T.2.2.2.1 n) (if n = T.1 then T.2.2.2.2 else none) := by
  obtain ⟨h1, h2, h3, h4, h5, h6⟩ := hok
  refine ⟨hn, h2, h3, fun i hi => ?_, fun i => ?_, fun l hl => ?_⟩
  · unfold ac_cut; split
    · exact h4 i (by omega)
    · rfl
  · unfold ac_cut; split
    · exact h5 i
    · omega
  · by_cases hnn : n = T.1
    · rw [if_pos hnn] at hl; rw [hnn]; exact h6 l hl
    · rw [if_neg hnn] at hl; cases hl
theorem ac_rfn_has {T : ac_Tk} {a c : Int} (h : ac_rfn T a c = 0) : 1 ≤ a ∧ a ≤ (T.1 : Int) := by
  unfold ac_rfn at h
  exact Decidable.byContradiction fun q1 => by rw [if_pos q1] at h; exact absurd h (by decide)
theorem ac_t_pin_ok {T : ac_Tk} {x : Nat} {c : Int} (hok : ac_okK T.1 T.2.1 T.2.2.1 T.2.2.2.1 T.2.2.2.2) (hx : 1 ≤ x ∧ x ≤ T.1) : ac_okS (ac_t_pin T x c) :=
  ac_stl_ok (T := (T.1, T.2.1, T.2.2.1, ac_sp T.2.2.2.1 x (if 0 ≤ c ∧ c < (T.2.1 : Int) then c else -1), T.2.2.2.2)) (ac_pin_okK hok hx)
theorem ac_t_reach_ok {T : ac_Tk} {n : Nat} (hok : ac_okK T.1 T.2.1 T.2.2.1 T.2.2.2.1 T.2.2.2.2) (hn : 1 ≤ n ∧ n ≤ 10) : ac_okS (ac_t_reach T n) :=
  ac_stl_ok (T := (n, T.2.1, T.2.2.1, ac_cut T.2.2.2.1 n, if n = T.1 then T.2.2.2.2 else none)) (ac_reach_okK hok hn)
theorem ac_std_ok {T : ac_Tk} {d : Nat} (hok : ac_okS T) : ac_okS (ac_std T d).2 := by
  unfold ac_std
  repeat' split
  all_goals first
    | exact hok
    | exact ac_paint_ok hok (by assumption)
    | exact ac_t_pin_ok hok.1 (by have := ac_rfn_has (by assumption : ac_rfn T ((d % 1000 / 10 : Nat) : Int) ((d % 1000 % 10 : Nat) : Int) = 0); omega)
    | exact ac_t_reach_ok hok.1 (by assumption)
/-! draws -/
def ac_lcg (c : Int) : Int := ac_nrm (c * 6364136223846793005 + 1442695040888963407)
def ac_lv (c : Int) : Nat := (c % 18446744073709551616 / 8589934592).toNat
theorem ac_lv_lt (c : Int) : ac_lv c < 2147483648 := by unfold ac_lv; omega
/-- the first of the f colours from v + i on that may be had -/
def ac_drw (A : Nat → Bool) (k v : Nat) : Nat → Nat → Option Nat
  | 0, _ => none
  | f + 1, i => if A ((v % k + i) % k) = true then some ((v % k + i) % k) else ac_drw A k v f (i + 1)
def ac_dra (A : List Nat → Nat → Bool) (k : Nat) : Nat → List Nat → Int → Nat × Int
  | 0, l, ch => (l.length, ch)
  | f + 1, l, ch => match ac_drw (A l) k (ac_lv (ac_lcg ch)) k 0 with
    | some c => ac_dra A k f (l ++ [c]) (ac_lcg ch)
    | none => (l.length, ac_lcg ch)
def ac_dn (T : ac_Tk) : Nat → Int → Nat × Int
  | 0, ch => (0, ch)
  | m + 1, ch => ((ac_dn T m ch).1 + (ac_dra (ac_may T.2.1 T.2.2.1 T.2.2.2.1) T.2.1 T.1 [] (ac_dn T m ch).2).1, (ac_dra (ac_may T.2.1 T.2.2.1 T.2.2.2.1) T.2.1 T.1 [] (ac_dn T m ch).2).2)
theorem ac_dra_le (A : List Nat → Nat → Bool) (k : Nat) : ∀ (f : Nat) (l : List Nat) (ch : Int), (ac_dra A k f l ch).1 ≤ l.length + f
  | 0, l, ch => Nat.le_refl _
  | f + 1, l, ch => by
    rw [ac_dra]
    split
    · rename_i c _
      have := ac_dra_le A k f (l ++ [c]) (ac_lcg ch)
      rw [List.length_append, List.length_singleton] at this; omega
    · show l.length ≤ _; omega
theorem ac_dn_le (T : ac_Tk) (h : T.1 ≤ 10) : ∀ (m : Nat) (ch : Int), (ac_dn T m ch).1 ≤ 10 * m
  | 0, ch => Nat.le_refl _
  | m + 1, ch => by
    have h1 := ac_dn_le T h m ch
    have h2 := ac_dra_le (ac_may T.2.1 T.2.2.1 T.2.2.2.1) T.2.1 T.1 [] (ac_dn T m ch).2
    rw [List.length_nil] at h2
    rw [ac_dn]; simp only; omega
theorem ac_tn_in (c : Bool) : ac_in ((c.toNat : Nat) : Int) := by cases c <;> exact ⟨by decide, by decide⟩
theorem ac_tn1 {c : Bool} (h : ¬ ((c.toNat : Nat) : Int) = 0) : c = true := by cases c with
  | true => rfl
  | false => exact absurd rfl h
theorem ac_tn0 {c : Bool} (h : ((c.toNat : Nat) : Int) = 0) : c = false := by cases c with
  | true => exact absurd h (by decide)
  | false => rfl
