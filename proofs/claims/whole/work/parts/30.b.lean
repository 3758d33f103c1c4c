set_option maxHeartbeats 8000000 in
theorem k_X6_settle {G : ac_G} {Y : ac_Y} {mm : ac_M} {d x : Nat} {u : Nat} {T : ac_Tk} {E0 : List ac_Eq} {obs : List ac_Ob} (hd : 18 ≤ d) (hA : ac_isA Y x) (hu : u = x + 3 ∨ u = x + 11) (rT : ac_RTk mm u T) (rS : ac_RS mm (x + 87) obs) (rC : ac_RC mm (x + 90) E0)  : ac_C G yX6_settle cX6_settle 2 (some .int) d 0 0 Y mm [(2, (x : Int)), (2, (u : Int))] (ac_R Y [(0, ((ac_Lt T).length : Int))] (fun m => ac_RTk m u (ac_stl T) ∧ ac_RS m (x + 87) obs ∧ (∃ E0, ac_RC m (x + 90) E0) ∧ ∀ k', (k' < u ∨ u + 3 < k') → (k' < x + 86 ∨ x + 103 < k') → m k' = mm k')) := by
  have hA9 := hA
  obtain ⟨⟨kx, -⟩, hX, ⟨hT0, hT1, hT2, hT3⟩, ⟨ka, -, -, hS0, hS1⟩, hH, hW⟩ := hA
  have ktx := hX.1
  have kn0 := hT0.1
  have kn1 := hT1.1
  have kn2 := hT2.1
  have kn3 := hT3.1
  have kh := hH.1
  obtain ⟨⟨kw, -⟩, ⟨k14, k15, k16, k17⟩, hWS, hWC, hWT⟩ := id hW
  have kws := hWS.1
  have kwc := hWC.1
  have hTu : ac_isT Y u := by rcases hu with h | h <;> rw [h] <;> assumption
  have ku := hTu.1
  obtain ⟨⟨⟨hn1, hn2⟩, ⟨hkk1, hkk2⟩, -⟩, -⟩ := id rT
  have hLn := ac_Lt_len T hn2
  have hrk := ac_rk_in (col := T.2.2.2.2) (ac_Lt_nodup T)
  refine ac_met (on := (RX6, "settle")) rfl rfl (Nat.le_of_ble_eq_true rfl) (ls := [(2, (x : Int)), (2, (u : Int))]) rfl ?_
  refine ac_aload_n (q := 1) dX6_settle_0 rfl rfl ?_
  refine ac_get (q := 4) dX6_settle_1 fl_X6_46 (by assumption) rfl (ac_rdr rfl hA9.1.2.2.2.2.2.2.2.2) ?_
  refine ac_aload_n (q := 5) dX6_settle_4 rfl rfl ?_
  refine ac_iconst (q := 6) dX6_settle_5 rfl ?_
  refine ac_cv (q := 9) (k_X5_survey (d := d - 1) (w := x + 86) (t := u) (wanted := 0) (by omega) hW ⟨by decide, by decide⟩ rC rS hTu rT (by omega)) ml_X6_113 (by assumption) dX6_settle_6 rfl rfl rfl (by omega) (Nat.le_of_ble_eq_true rfl) (Nat.zero_le _) (Nat.zero_le _) (fun m1 h1 => ?_)
  obtain ⟨w1, R1, f1⟩ := h1
  have R1 : ac_RW m1 (x + 86) T.2.2.2.2 obs 0 (ac_Lt T) (ac_cb (ac_Lt T)) (ac_dead (ac_may T.2.1 T.2.2.1 T.2.2.2.1) T.1 []) (ac_deep (ac_may T.2.1 T.2.2.1 T.2.2.2.1) T.1 []) := R1
  refine ac_aload_n (q := 10) dX6_settle_9 rfl rfl ?_
  refine ac_get (q := 13) dX6_settle_10 fl_X6_46 (by assumption) rfl (ac_rdr rfl hA9.1.2.2.2.2.2.2.2.2) ?_
  refine ac_get (q := 16) dX6_settle_13 fl_X6_151 kw rfl (ac_rdi rfl R1.1.2.2.1) ?_
  refine ac_bipush (q := 18) dX6_settle_16 rfl (by decide) ?_
  refine ac_icmp_ne (q := 21) (tgt := 47) dX6_settle_18 rfl rfl ⟨by omega, by omega⟩ ⟨by omega, by omega⟩ (fun h18 => ?_) (fun h18 => ?_)
  · have q8 := R1.1.2.1
    have hfin : ac_RTk m1 u (ac_stl T) := by
      unfold ac_stl; rw [if_neg h18]
      exact ac_RTk_keep rT (f1 _ (by omega)) (f1 _ (by omega)) (f1 _ (by omega)) (f1 _ (by omega))
    refine ac_name (fun m2 hm2 => ?_)
    rw [← hm2] at q8 hfin
    have ff : ∀ k', (k' < u ∨ u + 3 < k') → (k' < x + 86 ∨ x + 103 < k') → m2 k' = mm k' := fun k' a1 a2 => by rw [hm2]; exact f1 k' (by omega)
    have hS2 : ac_RS m2 (x + 87) obs := by rw [hm2]; exact w1.2.2
    have hC2 : ∃ E0, ac_RC m2 (x + 90) E0 := by rw [hm2]; exact ⟨_, w1.2.1⟩
    refine ac_aload_n (q := 48) dX6_settle_47 rfl rfl ?_
    refine ac_get (q := 51) dX6_settle_48 fl_X6_46 (by assumption) rfl (ac_rdr rfl hA9.1.2.2.2.2.2.2.2.2) ?_
    refine ac_get (q := 54) dX6_settle_51 fl_X6_123 kw rfl (ac_rdi rfl q8) ?_
    refine ac_ireturn dX6_settle_54 rfl (Nat.zero_le _) (Nat.zero_le _) ?_
    exact ⟨rfl, rfl, hfin, hS2, hC2, ff⟩
  · have rT1 : ac_RTk m1 u T := ac_RTk_keep rT (f1 _ (by omega)) (f1 _ (by omega)) (f1 _ (by omega)) (f1 _ (by omega))
    have hcol : ∀ l, (ac_Lt T).head? = some l → l.length = T.1 ∧ (∀ c ∈ l, c < T.2.1) ∧ ∀ c, c < 3 → m1 (x + 101) c = (ac_set l c : Int) := fun l hl => by
      have hm : l ∈ ac_Lt T := List.mem_of_mem_head? (by rw [hl]; rfl)
      obtain ⟨a, b, -⟩ := (ac_Lt_mem hkk2).mp hm
      refine ⟨a, b, R1.2.1 0 l rfl ?_⟩
      rw [← hl, List.head?_eq_getElem?]
    refine ac_aload_n (q := 22) dX6_settle_21 rfl rfl ?_
    refine ac_aload_n (q := 23) dX6_settle_22 rfl rfl ?_
    refine ac_get (q := 26) dX6_settle_23 fl_X6_46 (by assumption) rfl (ac_rdr rfl hA9.1.2.2.2.2.2.2.2.2) ?_
    refine ac_get (q := 29) dX6_settle_26 fl_X6_129 (by assumption) rfl (ac_rdr rfl hW.1.2.2.2.2.2.1) ?_
    refine ac_aload_n (q := 30) dX6_settle_29 rfl rfl ?_
    refine ac_get (q := 33) dX6_settle_30 fl_X6_46 (by assumption) rfl (ac_rdr rfl hA9.1.2.2.2.2.2.2.2.2) ?_
    refine ac_get (q := 36) dX6_settle_33 fl_X6_123 kw rfl (ac_rdi rfl R1.1.2.1) ?_
    refine ac_if_le (q := 39) (tgt := 43) dX6_settle_36 rfl rfl ⟨by omega, by omega⟩ (fun h36 => ?_) (fun h36 => ?_)
    · have hhd : (ac_Lt T).head?.isSome = false := by rw [List.eq_nil_of_length_eq_zero (l := ac_Lt T) (by omega)]; rfl
      refine ac_iconst (q := 44) dX6_settle_43 rfl ?_
      refine ac_top (w' := (0, if (ac_Lt T).head?.isSome then 1 else 0)) (by rw [hhd]; rfl) ?_
      refine ac_cv (q := 47) (k_X3_recolour (t := u) (d := d - 1) (r := x + 101) (col' := (ac_Lt T).head?) (by omega) hTu rT1 k15 (by omega) (fun l hl => hcol l hl)) ml_X6_137 (by assumption) dX6_settle_44 rfl rfl rfl (by omega) (Nat.le_of_ble_eq_true rfl) (Nat.zero_le _) (Nat.zero_le _) (fun m2 h2 => ?_)
      obtain ⟨g2, f2⟩ := h2
      have q8 : m2 (x + 86) 8 = ((ac_Lt T).length : Int) := by rw [f2 _ (by omega)]; exact R1.1.2.1
      have hfin : ac_RTk m2 u (ac_stl T) := by unfold ac_stl; rw [if_pos h18]; exact g2
      have ff : ∀ k', (k' < u ∨ u + 3 < k') → (k' < x + 86 ∨ x + 103 < k') → m2 k' = mm k' := fun k' a1 a2 => (f2 k' a1).trans (f1 k' (by omega))
      have hS2 : ac_RS m2 (x + 87) obs := ac_RS_keep w1.2.2 (f2 _ (by omega)) (f2 _ (by omega)) (f2 _ (by omega))
      have hC2 : ∃ E0, ac_RC m2 (x + 90) E0 := ⟨_, ac_RC_keep w1.2.1 (f2 _ (by omega)) (f2 _ (by omega)) (f2 _ (by omega))⟩
      refine ac_aload_n (q := 48) dX6_settle_47 rfl rfl ?_
      refine ac_get (q := 51) dX6_settle_48 fl_X6_46 (by assumption) rfl (ac_rdr rfl hA9.1.2.2.2.2.2.2.2.2) ?_
      refine ac_get (q := 54) dX6_settle_51 fl_X6_123 kw rfl (ac_rdi rfl q8) ?_
      refine ac_ireturn dX6_settle_54 rfl (Nat.zero_le _) (Nat.zero_le _) ?_
      exact ⟨rfl, rfl, hfin, hS2, hC2, ff⟩
    · have hhd : (ac_Lt T).head?.isSome = true := by
        cases hL : ac_Lt T with
        | nil => rw [hL] at h36; exact absurd h36 (by simp)
        | cons a b => rfl
      refine ac_iconst (q := 40) dX6_settle_39 rfl ?_
      refine ac_goto (q := 44) dX6_settle_40 rfl ?_
      refine ac_top (w' := (0, if (ac_Lt T).head?.isSome then 1 else 0)) (by rw [hhd]; rfl) ?_
      refine ac_cv (q := 47) (k_X3_recolour (t := u) (d := d - 1) (r := x + 101) (col' := (ac_Lt T).head?) (by omega) hTu rT1 k15 (by omega) (fun l hl => hcol l hl)) ml_X6_137 (by assumption) dX6_settle_44 rfl rfl rfl (by omega) (Nat.le_of_ble_eq_true rfl) (Nat.zero_le _) (Nat.zero_le _) (fun m2 h2 => ?_)
      obtain ⟨g2, f2⟩ := h2
      have q8 : m2 (x + 86) 8 = ((ac_Lt T).length : Int) := by rw [f2 _ (by omega)]; exact R1.1.2.1
      have hfin : ac_RTk m2 u (ac_stl T) := by unfold ac_stl; rw [if_pos h18]; exact g2
      have ff : ∀ k', (k' < u ∨ u + 3 < k') → (k' < x + 86 ∨ x + 103 < k') → m2 k' = mm k' := fun k' a1 a2 => (f2 k' a1).trans (f1 k' (by omega))
      have hS2 : ac_RS m2 (x + 87) obs := ac_RS_keep w1.2.2 (f2 _ (by omega)) (f2 _ (by omega)) (f2 _ (by omega))
      have hC2 : ∃ E0, ac_RC m2 (x + 90) E0 := ⟨_, ac_RC_keep w1.2.1 (f2 _ (by omega)) (f2 _ (by omega)) (f2 _ (by omega))⟩
      refine ac_aload_n (q := 48) dX6_settle_47 rfl rfl ?_
      refine ac_get (q := 51) dX6_settle_48 fl_X6_46 (by assumption) rfl (ac_rdr rfl hA9.1.2.2.2.2.2.2.2.2) ?_
      refine ac_get (q := 54) dX6_settle_51 fl_X6_123 kw rfl (ac_rdi rfl q8) ?_
      refine ac_ireturn dX6_settle_54 rfl (Nat.zero_le _) (Nat.zero_le _) ?_
      exact ⟨rfl, rfl, hfin, hS2, hC2, ff⟩
