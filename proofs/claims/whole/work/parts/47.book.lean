/-! what the reference holds -/
def ac_sh (mm : ac_M) (o : Nat) : ac_M := fun k j => mm k (o + j)
theorem ac_sh0 (mm : ac_M) : ac_sh mm 0 = mm := by funext k j; unfold ac_sh; rw [Nat.zero_add]
theorem ac_RP_cong {mm m : ac_M} {r r' : Nat} {T : ac_Tk} (h : ac_RP mm r T) (hf : ∀ j, j < 39 → m r' j = mm r j) : ac_RP m r' T := by
  obtain ⟨h1, h2, h3, h4, h5, h6, h7, h8⟩ := h
  have hE4 := h1.2.2.1.1
  refine ⟨h1, by rw [hf _ (by decide)]; exact h2, by rw [hf _ (by decide)]; exact h3, fun e q hq => ?_, fun i a b => by rw [hf _ (by omega)]; exact h5 i a b, by rw [hf _ (by decide)]; exact h6, fun i hi => by rw [hf _ (by omega)]; exact h7 i hi, fun l hl i c hc => ?_⟩
  · have he := (List.getElem?_eq_some_iff.mp hq).1
    have := h4 e q hq
    rw [hf _ (by omega), hf _ (by omega), hf _ (by omega), hf _ (by omega)]; exact this
  · have hi := (List.getElem?_eq_some_iff.mp hc).1
    have hl1 := (h1.2.2.2.2.2 l hl).1
    have hn := h1.1.2
    rw [hf _ (by omega)]; exact h8 l hl i c hc
/-- i numbers copied -/
def ac_cpn (mm : ac_M) (ra oa rb ob i : Nat) : ac_M := fun k j => if k = rb ∧ ob ≤ j ∧ j < ob + i then mm ra (oa + (j - ob)) else mm k j
theorem ac_cpn_0 {mm : ac_M} {ra oa rb ob : Nat} : ac_cpn mm ra oa rb ob 0 = mm := by
  funext k j; exact if_neg (fun q => by omega)
theorem ac_cpn_s {mm : ac_M} {ra oa rb ob i : Nat} : ac_up (ac_cpn mm ra oa rb ob i) rb (ob + i) (mm ra (oa + i)) = ac_cpn mm ra oa rb ob (i + 1) := by
  funext k j
  unfold ac_up ac_cpn
  by_cases h1 : k = rb
  · by_cases h2 : j = ob + i
    · rw [if_pos ⟨h1, h2⟩, if_pos ⟨h1, by omega, by omega⟩, h2, show ob + i - ob = i by omega]
    · rw [if_neg (fun q => h2 q.2)]
      by_cases h3 : ob ≤ j ∧ j < ob + i
      · rw [if_pos ⟨h1, h3⟩, if_pos ⟨h1, by omega, by omega⟩]
      · rw [if_neg (fun q => h3 q.2), if_neg (fun q => h3 (by omega))]
  · rw [if_neg (fun q => h1 q.1), if_neg (fun q => h1 q.1), if_neg (fun q => h1 q.1)]
theorem ac_cpn_rd {mm : ac_M} {ra oa rb ob i : Nat} (h : ra ≠ rb ∨ ob ≤ oa) : ac_cpn mm ra oa rb ob i ra (oa + i) = mm ra (oa + i) := if_neg (fun q => by omega)
theorem ac_cpn_k {mm : ac_M} {ra oa rb ob i k : Nat} (h : k ≠ rb) : ac_cpn mm ra oa rb ob i k = mm k := by
  funext j; exact if_neg (fun q => h q.1)
theorem ac_cpn_o {mm : ac_M} {ra oa rb ob i j : Nat} (h : j < ob ∨ ob + i ≤ j) : ac_cpn mm ra oa rb ob i rb j = mm rb j := if_neg (fun q => by omega)
theorem ac_cpn_at {mm : ac_M} {ra oa rb ob i j : Nat} (h : j < i) : ac_cpn mm ra oa rb ob i rb (ob + j) = mm ra (oa + j) := by
  unfold ac_cpn; rw [if_pos ⟨rfl, by omega, by omega⟩, show ob + j - ob = j by omega]
theorem ac_RP_cp {mm : ac_M} {ra oa rb ob : Nat} {T : ac_Tk} (h : ac_RP (ac_sh mm oa) ra T) : ac_RP (ac_sh (ac_cpn mm ra oa rb ob 39) ob) rb T :=
  ac_RP_cong h (fun j hj => ac_cpn_at hj)
def ac_RM (mm : ac_M) (x : Nat) (s : List Nat) (T : ac_Tk) (hs : List ac_Tk) (s0 s1 : Option ac_Tk) (obs : List ac_Ob) (ch : Int) : Prop :=
  ((s.length ≤ 60 ∧ ∀ v ∈ s, v < 256) ∧ mm x 2 = (s.length : Int) ∧ ∀ i, i < s.length → mm (x + 1) i = (ac_ch s i : Int)) ∧ (mm x 4 = (T.2.1 : Int) ∧ ac_RP mm (x + 3) T) ∧
  (hs.length ≤ 14 ∧ mm x 10 = (hs.length : Int) ∧ ∀ (i : Nat) (T' : ac_Tk), hs[i]? = some T' → T'.2.1 = T.2.1 ∧ ac_RP (ac_sh mm (39 * (hs.length - 1 - i))) (x + 5) T') ∧
  ((mm (x + 7) 0 = ac_b (s0.isSome = true) ∧ mm (x + 7) 1 = ac_b (s1.isSome = true)) ∧ (∀ T', s0 = some T' → T'.2.1 = T.2.1 ∧ ac_RP (ac_sh mm 0) (x + 6) T') ∧ ∀ T', s1 = some T' → T'.2.1 = T.2.1 ∧ ac_RP (ac_sh mm 39) (x + 6) T') ∧
  ((obs.length ≤ 6 ∧ ∀ o ∈ obs, ac_oko o) ∧ mm x 13 = (obs.length : Int) ∧ ∀ (i : Nat) (o : ac_Ob), obs[i]? = some o → mm (x + 8) i = (o.1 : Int) ∧ mm (x + 9) i = (o.2.1 : Int) ∧ mm (x + 10) i = (o.2.2 : Int)) ∧ mm x 17 = ch
theorem ac_sh_k {mm m : ac_M} {o k : Nat} (h : m k = mm k) : ac_sh m o k = ac_sh mm o k := by
  funext j; unfold ac_sh; rw [h]
section AcRM
variable {mm m : ac_M} {x : Nat} {s : List Nat} {T T' : ac_Tk} {hs hs' : List ac_Tk} {s0 s1 : Option ac_Tk} {obs obs' : List ac_Ob} {ch : Int}
/-- page, trial and the search's cells may change -/
theorem ac_RM_p (h : ac_RM mm x s T hs s0 s1 obs ch) (hP : ac_RP m (x + 3) T') (hk : T'.2.1 = T.2.1) (hf : ∀ k', (k' = x + 1 ∨ (x + 5 ≤ k' ∧ k' ≤ x + 10)) → m k' = mm k') (hx : ∀ j, (j = 2 ∨ j = 4 ∨ j = 10 ∨ j = 13 ∨ j = 17) → m x j = mm x j) : ac_RM m x s T' hs s0 s1 obs ch := by
  obtain ⟨⟨a1, a2, a3⟩, ⟨b1, b2⟩, ⟨c1, c2, c3⟩, ⟨⟨d1, d2⟩, d3, d4⟩, ⟨e1, e2, e3⟩, f⟩ := h
  refine ⟨⟨a1, by rw [hx 2 (by decide)]; exact a2, by rw [hf _ (by omega)]; exact a3⟩, ⟨by rw [hx 4 (by decide), hk]; exact b1, hP⟩, ⟨c1, by rw [hx 10 (by decide)]; exact c2, fun i T2 hi => ?_⟩, ⟨⟨by rw [hf _ (by omega)]; exact d1, by rw [hf _ (by omega)]; exact d2⟩, fun T2 hT => ?_, fun T2 hT => ?_⟩, ⟨e1, by rw [hx 13 (by decide)]; exact e2, by rw [hf (x + 8) (by omega), hf (x + 9) (by omega), hf (x + 10) (by omega)]; exact e3⟩, by rw [hx 17 (by decide)]; exact f⟩
  · obtain ⟨q1, q2⟩ := c3 i T2 hi
    exact ⟨by rw [hk]; exact q1, ac_RP_keep q2 (ac_sh_k (hf _ (by omega)))⟩
  · obtain ⟨q1, q2⟩ := d3 T2 hT
    exact ⟨by rw [hk]; exact q1, ac_RP_keep q2 (ac_sh_k (hf _ (by omega)))⟩
  · obtain ⟨q1, q2⟩ := d4 T2 hT
    exact ⟨by rw [hk]; exact q1, ac_RP_keep q2 (ac_sh_k (hf _ (by omega)))⟩
/-- the search's cells and the trial alone -/
theorem ac_RM_e (h : ac_RM mm x s T hs s0 s1 obs ch) (hf : ∀ k', (k' = x + 1 ∨ k' = x + 3 ∨ (x + 5 ≤ k' ∧ k' ≤ x + 10)) → m k' = mm k') (hx : ∀ j, (j = 2 ∨ j = 4 ∨ j = 10 ∨ j = 13 ∨ j = 17) → m x j = mm x j) : ac_RM m x s T hs s0 s1 obs ch :=
  ac_RM_p h (ac_RP_keep h.2.1.2 (hf _ (by omega))) rfl (fun k' hk' => hf k' (by omega)) hx
theorem ac_RM_fE (h : ac_RM mm x s T hs s0 s1 obs ch) (hf : ac_fE mm m x) : ac_RM m x s T hs s0 s1 obs ch :=
  ac_RM_e h (fun k' hk' => hf.1 k' (by omega) (by omega)) (fun j hj => hf.2 j (by omega))
end AcRM
/-- the reference's cells alone have changed -/
def ac_fM (mm m : ac_M) (x : Nat) : Prop := ∀ k', (k' < x ∨ x + 16 < k') → m k' = mm k'
theorem ac_fM_r (mm : ac_M) (x : Nat) : ac_fM mm mm x := fun _ _ => rfl
theorem ac_fM_t {a b c : ac_M} {x : Nat} (h : ac_fM a b x) (h2 : ac_fM b c x) : ac_fM a c x := fun k' hk' => (h2 k' hk').trans (h k' hk')
theorem ac_fE_fM {mm m : ac_M} {x : Nat} (h : ac_fE mm m x) : ac_fM mm m x := fun k' hk' => h.1 k' (by omega) (by omega)
theorem ac_fEr_fM {mm m : ac_M} {x r : Nat} (hr : r = x + 3 ∨ r = x + 4) (h : ac_fEr mm m x r) : ac_fM mm m x := fun k' hk' => h.1 k' (by omega) (by omega) (by omega)
theorem ac_up0_RM {mm : ac_M} {x : Nat} {s : List Nat} {T : ac_Tk} {hs : List ac_Tk} {s0 s1 : Option ac_Tk} {obs : List ac_Ob} {ch : Int} (h : ac_RM mm x s T hs s0 s1 obs ch) : ac_RM (ac_up mm x 0 0) x s T hs s0 s1 obs ch :=
  ac_RM_e h (fun k' hk' => by funext j; exact ac_up_k (by omega)) (fun j hj => ac_up_j (by omega))
theorem ac_up0_fM {mm : ac_M} {x : Nat} : ac_fM mm (ac_up mm x 0 0) x := fun k' hk' => by funext j; exact ac_up_k (by omega)
