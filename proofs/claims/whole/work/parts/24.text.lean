/-! tasks as values; the ring of tasks -/
abbrev ac_Tk : Type := Nat × Nat × List ac_Eq × (Nat → Int) × Option (List Nat)
def ac_RTk (mm : ac_M) (t : Nat) (T : ac_Tk) : Prop := ac_RT mm t T.1 T.2.1 T.2.2.1 T.2.2.2.1 T.2.2.2.2
theorem ac_RTk_keep {mm mm' : ac_M} {t : Nat} {T : ac_Tk} (h : ac_RTk mm t T) (h0 : mm' t = mm t) (h1 : mm' (t + 1) = mm (t + 1)) (h2 : mm' (t + 2) = mm (t + 2)) (h3 : mm' (t + 3) = mm (t + 3)) : ac_RTk mm' t T := ac_RT_keep h h0 h1 h2 h3
def ac_isH (Y : ac_Y) (h : Nat) : Prop := Y.2.1 h = (0, 1) ∧ Y.2.2 h 0 = h + 1 ∧ Y.2.1 (h + 1) = (3, 14) ∧ ∀ i, i < 14 → Y.2.2 (h + 1) i = h + 2 + 4 * i ∧ ac_isT Y (h + 2 + 4 * i)
/-- the ring: hs are the tasks, the latest first -/
def ac_RH (mm : ac_M) (h : Nat) (hs : List ac_Tk) : Prop := hs.length ≤ 14 ∧ mm h 2 = (hs.length : Int) ∧ ∃ p : Nat, p < 14 ∧ mm h 1 = (p : Int) ∧ ∀ (i : Nat) (T : ac_Tk), hs[i]? = some T → ac_RTk mm (h + 2 + 4 * ((p + 13 - i) % 14)) T
theorem ac_RH_keep {mm mm' : ac_M} {h : Nat} {hs : List ac_Tk} (hR : ac_RH mm h hs) (hf : ∀ k', h ≤ k' → k' ≤ h + 57 → mm' k' = mm k') : ac_RH mm' h hs := by
  obtain ⟨h1, h2, p, h3, h4, h5⟩ := hR
  refine ⟨h1, by rw [hf h (by omega) (by omega)]; exact h2, p, h3, by rw [hf h (by omega) (by omega)]; exact h4, fun i T hi => ac_RTk_keep (h5 i T hi) ?_ ?_ ?_ ?_⟩ <;> exact hf _ (by omega) (by omega)
/-! the text and its reader -/
def ac_isX (Y : ac_Y) (t : Nat) : Prop := Y.2.1 t = (0, 4) ∧ Y.2.1 (t + 1) = (1, 60) ∧ Y.2.2 t 0 = t + 1
def ac_ch (s : List Nat) (p : Nat) : Nat := s.getD p 0
def ac_RX (mm : ac_M) (t : Nat) (s : List Nat) (p : Nat) : Prop := (s.length ≤ 60 ∧ ∀ v ∈ s, v < 256) ∧ mm t 1 = (s.length : Int) ∧ mm t 2 = (p : Int) ∧ ∀ i, i < s.length → mm (t + 1) i = (ac_ch s i : Int)
theorem ac_RX_keep {mm mm' : ac_M} {t p : Nat} {s : List Nat} (h : ac_RX mm t s p) (h0 : mm' t = mm t) (h1 : mm' (t + 1) = mm (t + 1)) : ac_RX mm' t s p := by
  unfold ac_RX at *; rw [h0, h1]; exact h
theorem ac_RX_place {mm mm' : ac_M} {t p p' : Nat} {s : List Nat} (h : ac_RX mm t s p) (h0 : ∀ j, j ≠ 2 → mm' t j = mm t j) (h2 : mm' t 2 = (p' : Int)) (h1 : mm' (t + 1) = mm (t + 1)) : ac_RX mm' t s p' := by
  obtain ⟨a, b, c, d⟩ := h
  exact ⟨a, by rw [h0 1 (by decide)]; exact b, h2, fun i hi => by rw [h1]; exact d i hi⟩
theorem ac_ch_lt {s : List Nat} (h : ∀ v ∈ s, v < 256) (p : Nat) : ac_ch s p < 256 := by
  unfold ac_ch
  rw [List.getD_eq_getElem?_getD]
  cases hx : s[p]? with
  | none => exact (by decide : (0 : Nat) < 256)
  | some v => exact h v (List.mem_of_getElem? hx)
theorem ac_ch_out {s : List Nat} {p : Nat} (h : s.length ≤ p) : ac_ch s p = 0 := by
  unfold ac_ch
  rw [List.getD_eq_getElem?_getD, List.getElem?_eq_none h]; rfl
def ac_fc (c : Nat) : Int := if 49 ≤ c ∧ c ≤ 52 then (c : Int) - 48 else if 97 ≤ c ∧ c ≤ 100 then 96 - (c : Int) else 0
def ac_eqp (s : List Nat) (p : Nat) : Nat × Option ac_Eq :=
  if ac_fc (ac_ch s p) = 0 then (p, none) else if ac_fc (ac_ch s (p + 1)) = 0 then (p + 1, none) else if ac_fc (ac_ch s (p + 2)) = 0 then (p + 2, none)
  else if ac_ch s (p + 3) = 33 then (p + 4, some (ac_fc (ac_ch s p), ac_fc (ac_ch s (p + 1)), ac_fc (ac_ch s (p + 2)), 1)) else if ac_ch s (p + 3) = 61 then (p + 4, some (ac_fc (ac_ch s p), ac_fc (ac_ch s (p + 1)), ac_fc (ac_ch s (p + 2)), 0)) else (p + 3, none)
def ac_fre (n : Nat) (pin : Nat → Int) (i : Nat) : Prop := (1 ≤ i ∧ i ≤ n) ∧ pin i = -1
def ac_fred (n : Nat) (pin : Nat → Int) (i : Nat) : Decidable (ac_fre n pin i) := by unfold ac_fre; infer_instance
/-- a number from 1 to c is without a pin -/
def ac_lowf (n : Nat) (pin : Nat → Int) : Nat → Bool
  | 0 => false
  | c + 1 => ac_lowf n pin c || @decide (ac_fre n pin (c + 1)) (ac_fred n pin (c + 1))
theorem ac_lowf_iff {n : Nat} {pin : Nat → Int} : ∀ {c : Nat}, ac_lowf n pin c = true ↔ ∃ i, i ≤ c ∧ ac_fre n pin i
  | 0 => by
    constructor
    · intro h; cases h
    · rintro ⟨i, h1, h2⟩; unfold ac_fre at h2; omega
  | c + 1 => by
    rw [ac_lowf, Bool.or_eq_true, ac_lowf_iff (c := c), @decide_eq_true_eq _ (ac_fred n pin (c + 1))]
    constructor
    · rintro (⟨i, h1, h2⟩ | h)
      · exact ⟨i, by omega, h2⟩
      · exact ⟨c + 1, Nat.le_refl _, h⟩
    · rintro ⟨i, h1, h2⟩
      by_cases h : i = c + 1
      · subst h; exact Or.inr h2
      · exact Or.inl ⟨i, by omega, h2⟩
def ac_okt (n : Nat) (pin : Nat → Int) (c : Nat) : Prop := (c = 48 ∧ ac_lowf n pin 9 = true) ∨ (c = 49 ∧ ac_fre n pin 10)
def ac_oktd (n : Nat) (pin : Nat → Int) (c : Nat) : Decidable (ac_okt n pin c) := by
  unfold ac_okt; exact @instDecidableOr _ _ inferInstance (@instDecidableAnd _ _ inferInstance (ac_fred n pin 10))
def ac_oku (n : Nat) (pin : Nat → Int) (c u : Nat) : Prop := (48 ≤ u ∧ u ≤ 57) ∧ ac_fre n pin (10 * (c - 48) + (u - 48))
def ac_okud (n : Nat) (pin : Nat → Int) (c u : Nat) : Decidable (ac_oku n pin c u) := by
  unfold ac_oku; exact @instDecidableAnd _ _ inferInstance (ac_fred n pin _)
/-- the number of a pin: where the reader stands behind it, the number or 0 -/
def ac_nump (n : Nat) (pin : Nat → Int) (s : List Nat) (p : Nat) : Nat × Nat :=
  @ite _ (ac_okt n pin (ac_ch s p)) (ac_oktd n pin (ac_ch s p)) (@ite _ (ac_oku n pin (ac_ch s p) (ac_ch s (p + 1))) (ac_okud n pin (ac_ch s p) (ac_ch s (p + 1))) (p + 2, 10 * (ac_ch s p - 48) + (ac_ch s (p + 1) - 48)) (p + 1, 0)) (p, 0)
/-- a pin: where the reader stands behind it, number and colour -/
def ac_pinp (n k : Nat) (pin : Nat → Int) (s : List Nat) (p : Nat) : Nat × Option (Nat × Nat) :=
  if (ac_nump n pin s p).2 = 0 then ((ac_nump n pin s p).1, none)
  else if 48 ≤ ac_ch s (p + 2) ∧ ac_ch s (p + 2) < 48 + k then (p + 3, some ((ac_nump n pin s p).2, ac_ch s (p + 2) - 48)) else (p + 2, none)
def ac_prt (s : List Nat) (p : Nat) (T : ac_Tk) : Nat × Option ac_Tk :=
  if T.2.2.1.length < 4 ∧ ac_ch s p = 101 then ((ac_eqp s (p + 1)).1, (ac_eqp s (p + 1)).2.map (fun q => (T.1, T.2.1, T.2.2.1 ++ [q], T.2.2.2.1, T.2.2.2.2)))
  else if ac_pins T.2.2.2.1 T.1 < T.1 ∧ ac_ch s p = 112 then ((ac_pinp T.1 T.2.1 T.2.2.2.1 s (p + 1)).1, (ac_pinp T.1 T.2.1 T.2.2.2.1 s (p + 1)).2.map (fun q => (T.1, T.2.1, T.2.2.1, ac_sp T.2.2.2.1 q.1 q.2, T.2.2.2.2)))
  else (p, none)
def ac_hdp (s : List Nat) : Nat × Option (Nat × Nat) :=
  if ac_ch s 0 ≠ 82 then (0, none) else if ¬ (48 ≤ ac_ch s 1 ∧ ac_ch s 1 ≤ 49) then (1, none)
  else if ¬ ((ac_ch s 1 = 49 ∧ ac_ch s 2 = 48) ∨ (ac_ch s 1 = 48 ∧ 49 ≤ ac_ch s 2 ∧ ac_ch s 2 ≤ 57)) then (2, none)
  else if ¬ (50 ≤ ac_ch s 3 ∧ ac_ch s 3 ≤ 51) then (3, none) else (4, some (10 * (ac_ch s 1 - 48) + (ac_ch s 2 - 48), ac_ch s 3 - 48))
/-- the rest of the text, with at most f parts -/
def ac_rdL (s : List Nat) : Nat → Nat → ac_Tk → Int × ac_Tk
  | 0, _, T => (-9, T)
  | f + 1, p, T => if p < s.length then (match ac_prt s p T with | (q, none) => ((q : Int), T) | (q, some T') => ac_rdL s f q T') else (-9, T)
def ac_rd (s : List Nat) : Int × ac_Tk := match ac_hdp s with
  | (q, none) => ((q : Int), (1, 2, [], fun _ => -1, none))
  | (q, some (n, k)) => ac_rdL s 60 q (n, k, [], fun _ => -1, none)
theorem ac_take_get {α : Type} {l : List α} {n i : Nat} {x : α} (h : (l.take n)[i]? = some x) : i < n ∧ l[i]? = some x := by
  rw [List.getElem?_take] at h
  split at h
  · exact ⟨by assumption, h⟩
  · cases h
theorem ac_upd_same {mm : ac_M} {k j : Nat} {v : Int} (h : mm k j = v) : ac_up mm k j v = mm := by
  funext k' j'; unfold ac_up; split
  · rename_i q; rw [q.1, q.2]; exact h.symm
  · rfl
theorem ac_fc_in (c : Nat) : -4 ≤ ac_fc c ∧ ac_fc c ≤ 4 := by
  unfold ac_fc; split
  · omega
  · split <;> omega
theorem ac_top2 {G : ac_G} {on : String × String} {cc : ByteArray} {nL : Nat} {ret : Option FieldType} {d mc ms : Nat} {P : ac_P} {ck cn : Nat} {Y : ac_Y} {mm : ac_M} {pc : Nat} {ls st : List (Nat × Int)} {v w w' : Nat × Int} (hw : w = w') (kk : ac_V G on cc nL ret d mc ms P ck cn Y mm pc ls (v :: w' :: st)) : ac_V G on cc nL ret d mc ms P ck cn Y mm pc ls (v :: w :: st) := by subst hw; exact kk
