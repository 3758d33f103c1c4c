set_option maxHeartbeats 8000000 in
theorem k_X6_limit {G : ac_G} {Y : ac_Y} {mm : ac_M} {d x : Nat} {u : Nat} {T : ac_Tk} {E0 : List ac_Eq} {obs : List ac_Ob} (hd : 18 ≤ d) (hA : ac_isA Y x) (hu : u = x + 3 ∨ u = x + 11) (rT : ac_RTk mm u T) (rS : ac_RS mm (x + 87) obs) (rC : ac_RC mm (x + 90) E0)  : ac_C G yX6_limit cX6_limit 2 (some .int) d 0 0 Y mm [(2, (x : Int)), (2, (u : Int))] (ac_R Y [(0, ac_lim (ac_may T.2.1 T.2.2.1 (fun _ => -1)))] (fun m => ac_RS m (x + 87) obs ∧ (∃ E0, ac_RC m (x + 90) E0) ∧ ∀ k', (k' < x + 15 ∨ x + 18 < k') → (k' < x + 86 ∨ x + 103 < k') → m k' = mm k')) := by
  have hA9 := hA
  obtain ⟨⟨kx, -⟩, hX, ⟨hT0, hT1, hT2, hT3⟩, ⟨ka, -, -, hS0, hS1⟩, hH, hW⟩ := hA
  have ktx := hX.1
  have kn0 := hT0.1
  have kn1 := hT1.1
  have kn2 := hT2.1
  have kn3 := hT3.1
  have kh := hH.1
  obtain ⟨⟨kw, -⟩, ⟨k14, k15, k16, k17⟩, hWS, hWC, hWT⟩ := id hW
  have kws := hWS.1
  have kwc := hWC.1
  have hTu : ac_isT Y u := by rcases hu with h | h <;> rw [h] <;> assumption
  obtain ⟨⟨⟨hn1, hn2⟩, ⟨hkk1, hkk2⟩, -⟩, -⟩ := id rT
  have hdl := ac_deep_le (ac_may T.2.1 T.2.2.1 (fun _ => -1)) 10 []
  rw [List.length_nil] at hdl
  unfold ac_lim
  refine ac_met (on := (RX6, "limit")) rfl rfl (Nat.le_of_ble_eq_true rfl) (ls := [(2, (x : Int)), (2, (u : Int))]) rfl ?_
  refine ac_aload_n (q := 1) dX6_limit_0 rfl rfl ?_
  refine ac_get (q := 4) dX6_limit_1 fl_X6_29 (by assumption) rfl (ac_rdr rfl hA9.1.2.2.2.2.2.1) ?_
  refine ac_aload_n (q := 5) dX6_limit_4 rfl rfl ?_
  refine ac_cv (q := 8) (k_X3_copy (t := x + 15) (o := u) (d := d - 1) (by omega) hT3 hTu (by omega) rT) ml_X6_69 (by assumption) dX6_limit_5 rfl rfl rfl (by omega) (Nat.le_of_ble_eq_true rfl) (Nat.zero_le _) (Nat.zero_le _) (fun m1 h1 => ?_)
  obtain ⟨g1, f1⟩ := h1
  refine ac_aload_n (q := 9) dX6_limit_8 rfl rfl ?_
  refine ac_get (q := 12) dX6_limit_9 fl_X6_29 (by assumption) rfl (ac_rdr rfl hA9.1.2.2.2.2.2.1) ?_
  refine ac_cv (q := 15) (k_X3_unpin (t := x + 15) (d := d - 1) (by omega) hT3) ml_X6_283 (by assumption) dX6_limit_12 rfl rfl rfl (by omega) (Nat.le_of_ble_eq_true rfl) (Nat.zero_le _) (Nat.zero_le _) (fun m2 h2 => ?_)
  have fu : ∀ k', k' ≠ x + 17 → m2 k' = m1 k' := fun k' hk' => by rw [h2]; funext j; exact if_neg (fun q => hk' q.1)
  have g2 : ac_RT m2 (x + 15) T.1 T.2.1 T.2.2.1 (fun _ => -1) T.2.2.2.2 := ac_RT_unpin g1 (fu _ (by omega)) (fu _ (by omega)) (fun j hj => by rw [h2]; exact if_pos ⟨rfl, hj⟩) (fu _ (by omega))
  refine ac_aload_n (q := 16) dX6_limit_15 rfl rfl ?_
  refine ac_get (q := 19) dX6_limit_16 fl_X6_29 (by assumption) rfl (ac_rdr rfl hA9.1.2.2.2.2.2.1) ?_
  refine ac_bipush (q := 21) dX6_limit_19 rfl (by decide) ?_
  refine ac_top (w' := (0, ((10 : Nat) : Int))) rfl ?_
  refine ac_cv (q := 24) (k_X3_resize (t := x + 15) (d := d - 1) (n' := 10) (by omega) hT3 g2 (by omega)) ml_X6_157 (by assumption) dX6_limit_21 rfl rfl rfl (by omega) (Nat.le_of_ble_eq_true rfl) (Nat.zero_le _) (Nat.zero_le _) (fun m3 h3 => ?_)
  obtain ⟨g3, f3⟩ := h3
  have ecut : ac_cut (fun _ => -1) 10 = (fun _ => (-1 : Int)) := by funext i; unfold ac_cut; split <;> rfl
  rw [ecut] at g3
  have fr3 : ∀ k', (k' < x + 15 ∨ x + 18 < k') → m3 k' = mm k' := fun k' a => by rw [f3 k' (by omega), fu k' (by omega), f1 k' (by omega)]
  refine ac_aload_n (q := 25) dX6_limit_24 rfl rfl ?_
  refine ac_get (q := 28) dX6_limit_25 fl_X6_46 (by assumption) rfl (ac_rdr rfl hA9.1.2.2.2.2.2.2.2.2) ?_
  refine ac_aload_n (q := 29) dX6_limit_28 rfl rfl ?_
  refine ac_get (q := 32) dX6_limit_29 fl_X6_29 (by assumption) rfl (ac_rdr rfl hA9.1.2.2.2.2.2.1) ?_
  refine ac_iconst (q := 33) dX6_limit_32 rfl ?_
  refine ac_cv (q := 36) (k_X5_survey (d := d - 1) (w := x + 86) (t := x + 15) (wanted := 0) (by omega) hW ⟨by decide, by decide⟩ (ac_RC_keep rC (fr3 _ (by omega)) (fr3 _ (by omega)) (fr3 _ (by omega))) (ac_RS_keep rS (fr3 _ (by omega)) (fr3 _ (by omega)) (fr3 _ (by omega))) hT3 g3 (by omega)) ml_X6_113 (by assumption) dX6_limit_33 rfl rfl rfl (by omega) (Nat.le_of_ble_eq_true rfl) (Nat.zero_le _) (Nat.zero_le _) (fun m4 h4 => ?_)
  obtain ⟨w4, R4, f4⟩ := h4
  have q11 := R4.1.2.2.2.2.1
  refine ac_aload_n (q := 37) dX6_limit_36 rfl rfl ?_
  refine ac_get (q := 40) dX6_limit_37 fl_X6_46 (by assumption) rfl (ac_rdr rfl hA9.1.2.2.2.2.2.2.2.2) ?_
  refine ac_get (q := 43) dX6_limit_40 fl_X6_286 kw rfl (ac_rdi rfl q11) ?_
  refine ac_bipush (q := 45) dX6_limit_43 rfl (by decide) ?_
  refine ac_icmp_ge (q := 48) (tgt := 60) dX6_limit_45 rfl rfl ⟨by omega, by omega⟩ ⟨by omega, by omega⟩ (fun h45 => ?_) (fun h45 => ?_)
  · refine ac_bipush (q := 62) dX6_limit_60 rfl (by decide) ?_
    refine ac_ireturn dX6_limit_62 rfl (Nat.zero_le _) (Nat.zero_le _) ?_
    first
      | exact ⟨by rw [if_pos (by omega)], rfl, w4.2.2, ⟨_, w4.2.1⟩, fun k' a b => (f4 k' (by omega)).trans (fr3 k' (by omega))⟩
      | exact ⟨by rw [if_neg (by omega)], rfl, w4.2.2, ⟨_, w4.2.1⟩, fun k' a b => (f4 k' (by omega)).trans (fr3 k' (by omega))⟩
  · refine ac_aload_n (q := 49) dX6_limit_48 rfl rfl ?_
    refine ac_get (q := 52) dX6_limit_49 fl_X6_46 (by assumption) rfl (ac_rdr rfl hA9.1.2.2.2.2.2.2.2.2) ?_
    refine ac_get (q := 55) dX6_limit_52 fl_X6_286 kw rfl (ac_rdi rfl q11) ?_
    refine ac_iconst (q := 56) dX6_limit_55 rfl ?_
    refine ac_iadd (q := 57) dX6_limit_56 rfl ?_
    refine ac_goto (q := 62) dX6_limit_57 rfl ?_
    refine ac_ireturn dX6_limit_62 rfl (Nat.zero_le _) (Nat.zero_le _) ?_
    first
      | exact ⟨by rw [if_pos (by omega)], rfl, w4.2.2, ⟨_, w4.2.1⟩, fun k' a b => (f4 k' (by omega)).trans (fr3 k' (by omega))⟩
      | exact ⟨by rw [if_neg (by omega)], rfl, w4.2.2, ⟨_, w4.2.1⟩, fun k' a b => (f4 k' (by omega)).trans (fr3 k' (by omega))⟩
