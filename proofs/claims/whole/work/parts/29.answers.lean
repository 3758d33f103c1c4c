/-! the class as a whole: what it holds -/
def ac_sl (mm : ac_M) (t : Nat) (o : Option ac_Tk) : Prop := (o = none → mm t 3 = 0) ∧ ∀ T, o = some T → ac_RTk mm t T
theorem ac_sl_keep {mm mm' : ac_M} {t : Nat} {o : Option ac_Tk} (h : ac_sl mm t o) (h0 : mm' t = mm t) (h1 : mm' (t + 1) = mm (t + 1)) (h2 : mm' (t + 2) = mm (t + 2)) (h3 : mm' (t + 3) = mm (t + 3)) : ac_sl mm' t o :=
  ⟨fun e => by rw [h0]; exact h.1 e, fun T e => ac_RTk_keep (h.2 T e) h0 h1 h2 h3⟩
def ac_isA (Y : ac_Y) (x : Nat) : Prop := (Y.2.1 x = (0, 6) ∧ Y.2.2 x 0 = x + 1 ∧ Y.2.2 x 1 = x + 3 ∧ Y.2.2 x 2 = x + 7 ∧ Y.2.2 x 3 = x + 11 ∧ Y.2.2 x 4 = x + 15 ∧ Y.2.2 x 5 = x + 19 ∧ Y.2.2 x 6 = x + 28 ∧ Y.2.2 x 7 = x + 86) ∧ ac_isX Y (x + 1) ∧ (ac_isT Y (x + 3) ∧ ac_isT Y (x + 7) ∧ ac_isT Y (x + 11) ∧ ac_isT Y (x + 15)) ∧ (Y.2.1 (x + 19) = (3, 2) ∧ Y.2.2 (x + 19) 0 = x + 20 ∧ Y.2.2 (x + 19) 1 = x + 24 ∧ ac_isT Y (x + 20) ∧ ac_isT Y (x + 24)) ∧ ac_isH Y (x + 28) ∧ ac_isW Y (x + 86)
def ac_RA (mm : ac_M) (x : Nat) (s : List Nat) (T : ac_Tk) (hs : List ac_Tk) (s0 s1 : Option ac_Tk) (obs : List ac_Ob) (ch : Int) : Prop :=
  (∃ p, ac_RX mm (x + 1) s p) ∧ ac_RTk mm (x + 3) T ∧ (ac_sl mm (x + 20) s0 ∧ ac_sl mm (x + 24) s1) ∧ ac_RH mm (x + 28) hs ∧ ac_RS mm (x + 87) obs ∧ (∃ E0, ac_RC mm (x + 90) E0) ∧ mm x 8 = ch
section AcRA
variable {mm m : ac_M} {x : Nat} {s : List Nat} {T T' : ac_Tk} {hs hs' : List ac_Tk} {s0 s1 : Option ac_Tk} {obs obs' : List ac_Ob} {ch : Int}
theorem ac_RA_re (h : ac_RA mm x s T hs s0 s1 obs ch) (hT : ac_RTk m (x + 3) T') (hS : ac_RS m (x + 87) obs') (hC : ∃ E0, ac_RC m (x + 90) E0) (hf : ∀ k', (k' < x + 3 ∨ (x + 18 < k' ∧ k' < x + 86) ∨ x + 103 < k') → m k' = mm k') : ac_RA m x s T' hs s0 s1 obs' ch := by
  obtain ⟨⟨p, h1⟩, h2, ⟨h3, h4⟩, h5, h6, h7, h8⟩ := h
  exact ⟨⟨p, ac_RX_keep h1 (hf _ (by omega)) (hf _ (by omega))⟩, hT, ⟨ac_sl_keep h3 (hf _ (by omega)) (hf _ (by omega)) (hf _ (by omega)) (hf _ (by omega)), ac_sl_keep h4 (hf _ (by omega)) (hf _ (by omega)) (hf _ (by omega)) (hf _ (by omega))⟩, ac_RH_keep h5 (fun k' a b => hf k' (by omega)), hS, hC, by rw [hf x (by omega)]; exact h8⟩
/-- the walk alone, or draft, trial and bare -/
theorem ac_RA_w (h : ac_RA mm x s T hs s0 s1 obs ch) (hS : ac_RS m (x + 87) obs') (hC : ∃ E0, ac_RC m (x + 90) E0) (hf : ∀ k', (k' < x + 7 ∨ (x + 18 < k' ∧ k' < x + 86) ∨ x + 103 < k') → m k' = mm k') : ac_RA m x s T hs s0 s1 obs' ch :=
  ac_RA_re h (ac_RTk_keep h.2.1 (hf _ (by omega)) (hf _ (by omega)) (hf _ (by omega)) (hf _ (by omega))) hS hC (fun k' a => hf k' (by omega))
theorem ac_RA_h (h : ac_RA mm x s T hs s0 s1 obs ch) (hH : ac_RH m (x + 28) hs') (hf : ∀ k', (k' < x + 28 ∨ x + 85 < k') → m k' = mm k') : ac_RA m x s T hs' s0 s1 obs ch := by
  obtain ⟨⟨p, h1⟩, h2, ⟨h3, h4⟩, h5, h6, ⟨E0, h7⟩, h8⟩ := h
  exact ⟨⟨p, ac_RX_keep h1 (hf _ (by omega)) (hf _ (by omega))⟩, ac_RTk_keep h2 (hf _ (by omega)) (hf _ (by omega)) (hf _ (by omega)) (hf _ (by omega)), ⟨ac_sl_keep h3 (hf _ (by omega)) (hf _ (by omega)) (hf _ (by omega)) (hf _ (by omega)), ac_sl_keep h4 (hf _ (by omega)) (hf _ (by omega)) (hf _ (by omega)) (hf _ (by omega))⟩, hH, ac_RS_keep h6 (hf _ (by omega)) (hf _ (by omega)) (hf _ (by omega)), ⟨E0, ac_RC_keep h7 (hf _ (by omega)) (hf _ (by omega)) (hf _ (by omega))⟩, by rw [hf x (by omega)]; exact h8⟩
theorem ac_RA_t (h : ac_RA mm x s T hs s0 s1 obs ch) (hT : ac_RTk m (x + 3) T') (hf : ac_fr mm m (x + 3)) : ac_RA m x s T' hs s0 s1 obs ch :=
  ac_RA_re h hT (ac_RS_keep h.2.2.2.2.1 (hf _ (by omega)) (hf _ (by omega)) (hf _ (by omega))) (h.2.2.2.2.2.1.elim fun E0 h7 => ⟨E0, ac_RC_keep h7 (hf _ (by omega)) (hf _ (by omega)) (hf _ (by omega))⟩) (fun k' a => hf k' (by omega))
theorem ac_RA_x {s' : List Nat} (h : ac_RA mm x s T hs s0 s1 obs ch) (hX : ∃ p, ac_RX m (x + 1) s' p) (hf : ∀ k', (k' < x + 1 ∨ x + 2 < k') → (k' < x + 7 ∨ x + 10 < k') → m k' = mm k') : ac_RA m x s' T hs s0 s1 obs ch := by
  obtain ⟨-, h2, ⟨h3, h4⟩, h5, h6, ⟨E0, h7⟩, h8⟩ := h
  exact ⟨hX, ac_RTk_keep h2 (hf _ (by omega) (by omega)) (hf _ (by omega) (by omega)) (hf _ (by omega) (by omega)) (hf _ (by omega) (by omega)), ⟨ac_sl_keep h3 (hf _ (by omega) (by omega)) (hf _ (by omega) (by omega)) (hf _ (by omega) (by omega)) (hf _ (by omega) (by omega)), ac_sl_keep h4 (hf _ (by omega) (by omega)) (hf _ (by omega) (by omega)) (hf _ (by omega) (by omega)) (hf _ (by omega) (by omega))⟩, ac_RH_keep h5 (fun k' a b => hf k' (by omega) (by omega)), ac_RS_keep h6 (hf _ (by omega) (by omega)) (hf _ (by omega) (by omega)) (hf _ (by omega) (by omega)), ⟨E0, ac_RC_keep h7 (hf _ (by omega) (by omega)) (hf _ (by omega) (by omega)) (hf _ (by omega) (by omega))⟩, by rw [hf x (by omega) (by omega)]; exact h8⟩
theorem ac_RA_s {s0' s1' : Option ac_Tk} (h : ac_RA mm x s T hs s0 s1 obs ch) (h0 : ac_sl m (x + 20) s0') (h1 : ac_sl m (x + 24) s1') (hf : ∀ k', (k' < x + 20 ∨ x + 27 < k') → m k' = mm k') : ac_RA m x s T hs s0' s1' obs ch := by
  obtain ⟨⟨p, hx⟩, h2, -, h5, h6, ⟨E0, h7⟩, h8⟩ := h
  exact ⟨⟨p, ac_RX_keep hx (hf _ (by omega)) (hf _ (by omega))⟩, ac_RTk_keep h2 (hf _ (by omega)) (hf _ (by omega)) (hf _ (by omega)) (hf _ (by omega)), ⟨h0, h1⟩, ac_RH_keep h5 (fun k' a b => hf k' (by omega)), ac_RS_keep h6 (hf _ (by omega)) (hf _ (by omega)) (hf _ (by omega)), ⟨E0, ac_RC_keep h7 (hf _ (by omega)) (hf _ (by omega)) (hf _ (by omega))⟩, by rw [hf x (by omega)]; exact h8⟩
theorem ac_RA_c {ch' : Int} (h : ac_RA mm x s T hs s0 s1 obs ch) (hc : m x 8 = ch') (hf : ∀ k', k' ≠ x → m k' = mm k') : ac_RA m x s T hs s0 s1 obs ch' := by
  obtain ⟨⟨p, hx⟩, h2, ⟨h3, h4⟩, h5, h6, ⟨E0, h7⟩, h8⟩ := h
  exact ⟨⟨p, ac_RX_keep hx (hf _ (by omega)) (hf _ (by omega))⟩, ac_RTk_keep h2 (hf _ (by omega)) (hf _ (by omega)) (hf _ (by omega)) (hf _ (by omega)), ⟨ac_sl_keep h3 (hf _ (by omega)) (hf _ (by omega)) (hf _ (by omega)) (hf _ (by omega)), ac_sl_keep h4 (hf _ (by omega)) (hf _ (by omega)) (hf _ (by omega)) (hf _ (by omega))⟩, ac_RH_keep h5 (fun k' a b => hf k' (by omega)), ac_RS_keep h6 (hf _ (by omega)) (hf _ (by omega)) (hf _ (by omega)), ⟨E0, ac_RC_keep h7 (hf _ (by omega)) (hf _ (by omega)) (hf _ (by omega))⟩, hc⟩
end AcRA
/-! the answers -/
def ac_eqn (T : ac_Tk) (e : Int) : ac_Eq := T.2.2.1.getD e.toNat (1, 1, 1, 0)
def ac_hasE (T : ac_Tk) (e : Int) : Prop := 0 ≤ e ∧ e < (T.2.2.1.length : Int)
def ac_hasN (T : ac_Tk) (x : Int) : Prop := 1 ≤ x ∧ x ≤ (T.1 : Int)
theorem ac_eqn_get {T : ac_Tk} {e : Int} (h : ac_hasE T e) : T.2.2.1[e.toNat]? = some (ac_eqn T e) := by
  obtain ⟨h1, h2⟩ := h
  unfold ac_eqn
  rw [List.getD_eq_getElem?_getD, List.getElem?_eq_getElem (by omega)]; rfl
def ac_an_equation (T : ac_Tk) (e w : Int) : Int :=
  if ¬ (0 ≤ e ∧ e < (T.2.2.1.length : Int)) then -1 else if 0 ≤ w ∧ w ≤ 2 then ac_qc (ac_eqn T e) w.toNat + 10 else if w = 3 then (ac_eqn T e).2.2.2 else if w = 4 then @ac_b (ac_reg (ac_eqn T e)) (ac_regd (ac_eqn T e)) else if w = 5 then ((ac_sols (ac_eqn T e) T.1).length : Int) else -2
def ac_an_solution (T : ac_Tk) (e i : Int) : Int := if ¬ (0 ≤ e ∧ e < (T.2.2.1.length : Int)) then -1 else ac_nth (ac_sols (ac_eqn T e) T.1) i
def ac_an_number (T : ac_Tk) (x w : Int) : Int :=
  if ¬ (1 ≤ x ∧ x ≤ (T.1 : Int)) then -1 else if w = 0 then (match T.2.2.2.2 with | some l => ((l.getD (x.toNat - 1) 0 : Nat) : Int) | none => -9) else if w = 1 then (if T.2.2.2.1 x.toNat = -1 then -9 else T.2.2.2.1 x.toNat) else if w = 2 then (ac_cb (ac_Lt T) x.toNat : Int) else if w = 3 then ac_b (ac_bits (ac_cb (ac_Lt T) x.toNat) = 1) else -2
def ac_push (T : ac_Tk) (hs : List ac_Tk) : List ac_Tk := (T :: hs).take 14
def ac_wcol (T : ac_Tk) (l : List Nat) : ac_Tk := (T.1, T.2.1, T.2.2.1, T.2.2.2.1, some l)
def ac_colD (T : ac_Tk) : List Nat := T.2.2.2.2.getD []
/-- colouring number c -/
def ac_go (T : ac_Tk) (c : Int) : Option (List Nat) := if 0 ≤ c then (ac_Lt T)[c.toNat]? else none
def ac_rfp (T : ac_Tk) (x c : Int) : Int := if ¬ (1 ≤ x ∧ x ≤ (T.1 : Int)) then -1 else if ¬ (0 ≤ c ∧ c < (T.2.1 : Int)) then -2 else if ac_pt T x.toNat c.toNat = true then 0 else -3
def ac_rfn (T : ac_Tk) (x c : Int) : Int := if ¬ (1 ≤ x ∧ x ≤ (T.1 : Int)) then -1 else if (0 ≤ c ∧ c < (T.2.1 : Int)) ∨ c = 9 then 0 else -2
def ac_t_paint (T : ac_Tk) (x c : Int) : ac_Tk := ac_wcol T ((ac_colD T).set (x.toNat - 1) c.toNat)
def ac_t_reach (T : ac_Tk) (n : Nat) : ac_Tk := ac_stl (n, T.2.1, T.2.2.1, ac_cut T.2.2.2.1 n, if n = T.1 then T.2.2.2.2 else none)
def ac_t_add (T : ac_Tk) (q : ac_Eq) : ac_Tk := ac_stl (T.1, T.2.1, T.2.2.1 ++ [q], T.2.2.2.1, T.2.2.2.2)
def ac_t_drop (T : ac_Tk) : ac_Tk := ac_stl (T.1, T.2.1, T.2.2.1.dropLast, T.2.2.2.1, T.2.2.2.2)
def ac_t_pin (T : ac_Tk) (x : Nat) (c : Int) : ac_Tk := ac_stl (T.1, T.2.1, T.2.2.1, ac_sp T.2.2.2.1 x (if 0 ≤ c ∧ c < (T.2.1 : Int) then c else -1), T.2.2.2.2)
theorem ac_RT_drop {mm mm' : ac_M} {t n k : Nat} {E : List ac_Eq} {pin : Nat → Int} {col : Option (List Nat)} (h : ac_RT mm t n k E pin col) (hL : 0 < E.length) (h0 : ∀ j, mm' t j = if j = 5 then (E.length : Int) - 1 else mm t j) (h1 : mm' (t + 1) = mm (t + 1)) (h2 : mm' (t + 2) = mm (t + 2)) (h3 : mm' (t + 3) = mm (t + 3)) : ac_RT mm' t n k E.dropLast pin col := by
  obtain ⟨⟨hn, hk, ⟨hE1, hE2⟩, hp0, hpr, hc0⟩, r3, r4, r5, r6, rE, rp, rcb, rc⟩ := h
  refine ⟨⟨hn, hk, ⟨by rw [List.length_dropLast]; omega, fun q hq => hE2 q (List.dropLast_subset E hq)⟩, hp0, hpr, hc0⟩, by rw [h0]; exact r3, by rw [h0]; exact r4, by rw [h0, if_pos rfl, List.length_dropLast]; omega, by rw [h0]; exact r6, fun e q hq => ?_, by rw [h2]; exact rp, by rw [h3]; exact rcb, by rw [h3]; exact rc⟩
  rw [h1]
  refine rE e q ?_
  rw [List.getElem?_dropLast] at hq
  split at hq
  · exact hq
  · cases hq
theorem ac_fr_t {a b c : ac_M} {t : Nat} (h : ac_fr a b t) (h2 : ac_fr b c t) : ac_fr a c t := fun k' hk' => (h2 k' hk').trans (h k' hk')
/-- the class's cells alone have changed -/
def ac_fA (mm m : ac_M) (x : Nat) : Prop := ∀ k', (k' < x ∨ x + 103 < k') → m k' = mm k'
theorem ac_fA_r (mm : ac_M) (x : Nat) : ac_fA mm mm x := fun _ _ => rfl
theorem ac_fA_t {a b c : ac_M} {x : Nat} (h : ac_fA a b x) (h2 : ac_fA b c x) : ac_fA a c x := fun k' hk' => (h2 k' hk').trans (h k' hk')
