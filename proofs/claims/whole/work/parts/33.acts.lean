set_option maxHeartbeats 8000000 in
theorem k_X6_go {G : ac_G} {Y : ac_Y} {mm : ac_M} {d x : Nat} {s : List Nat} {T : ac_Tk} {hs : List ac_Tk} {s0 s1 : Option ac_Tk} {obs : List ac_Ob} {ch : Int} {c : Int} (hd : 30 ≤ d) (hA : ac_isA Y x) (hR : ac_RA mm x s T hs s0 s1 obs ch) (hok : ac_okS T) (hc : ac_in c) : ac_C G yX6_go cX6_go 3 (some .int) d 0 0 Y mm [(2, (x : Int)), (0, c)] (ac_R Y [(0, (ac_go T c).elim (-1) (fun l => (ac_dif (ac_colD T) l T.1 : Int)))] (fun m => ac_RA m x s ((ac_go T c).elim T (fun l => ac_wcol T l)) ((ac_go T c).elim hs (fun _ => ac_push T hs)) s0 s1 obs ch ∧ ac_fA mm m x)) := by
  have hA9 := hA
  obtain ⟨⟨kx, -⟩, hX, ⟨hT0, hT1, hT2, hT3⟩, ⟨ka, -, -, hS0, hS1⟩, hH, hW⟩ := hA
  have ktx := hX.1
  have kn0 := hT0.1
  have kn1 := hT1.1
  have kn2 := hT2.1
  have kn3 := hT3.1
  have kh := hH.1
  obtain ⟨⟨kw, -⟩, ⟨k14, k15, k16, k17⟩, hWS, hWC, hWT⟩ := id hW
  have kws := hWS.1
  have kwc := hWC.1
  have hR9 := hR
  obtain ⟨⟨p, rX⟩, rT, ⟨rs0, rs1⟩, rH, rS, ⟨E0, rC⟩, rc⟩ := hR
  obtain ⟨⟨⟨hn1, hn2⟩, ⟨hkk1, hkk2⟩, ⟨hE4, hE2⟩, hp0, hpr, hc0⟩, t3, t4, t5, t6, tE, tp, tcb, tc⟩ := id rT
  have hLn := ac_Lt_len T hn2
  obtain ⟨hc1, hc2⟩ := hc
  refine ac_met (on := (RX6, "go")) rfl rfl (Nat.le_of_ble_eq_true rfl) (ls := [(2, (x : Int)), (0, c), (3, 0)]) rfl ?_
  refine ac_aload_n (q := 1) dX6_go_0 rfl rfl ?_
  refine ac_get (q := 4) dX6_go_1 fl_X6_46 (by assumption) rfl (ac_rdr rfl hA9.1.2.2.2.2.2.2.2.2) ?_
  refine ac_aload_n (q := 5) dX6_go_4 rfl rfl ?_
  refine ac_get (q := 8) dX6_go_5 fl_X6_19 (by assumption) rfl (ac_rdr rfl hA9.1.2.2.1) ?_
  refine ac_iload_n (q := 9) dX6_go_8 rfl rfl ?_
  refine ac_cv (q := 12) (k_X5_survey (d := d - 1) (w := x + 86) (t := x + 3) (wanted := c) (by omega) hW ⟨by omega, by omega⟩ rC rS hT0 rT (by omega)) ml_X6_113 (by assumption) dX6_go_9 rfl rfl rfl (by omega) (Nat.le_of_ble_eq_true rfl) (Nat.zero_le _) (Nat.zero_le _) (fun m1 h1 => ?_)
  obtain ⟨w1, R1, f1⟩ := h1
  have R1 : ac_RW m1 (x + 86) T.2.2.2.2 obs c (ac_Lt T) (ac_cb (ac_Lt T)) (ac_dead (ac_may T.2.1 T.2.2.1 T.2.2.2.1) T.1 []) (ac_deep (ac_may T.2.1 T.2.2.1 T.2.2.2.1) T.1 []) := R1
  have A1 := ac_RA_w hR9 w1.2.2 ⟨_, w1.2.1⟩ (fun k' a => f1 k' (by omega))
  refine ac_iload_n (q := 13) dX6_go_12 rfl rfl ?_
  refine ac_if_lt (q := 16) (tgt := 27) dX6_go_13 rfl rfl ⟨by omega, by omega⟩ (fun h13 => ?_) (fun h13 => ?_)
  · refine ac_iconst (q := 28) dX6_go_27 rfl ?_
    refine ac_ireturn dX6_go_28 rfl (Nat.zero_le _) (Nat.zero_le _) ?_
    have hg : ac_go T c = none := by
      unfold ac_go
      by_cases h0 : 0 ≤ c
      · rw [if_pos h0, List.getElem?_eq_none (by omega)]
      · rw [if_neg h0]
    rw [hg]; exact ⟨rfl, rfl, A1, fun k' a => f1 k' (by omega)⟩
  · refine ac_iload_n (q := 17) dX6_go_16 rfl rfl ?_
    refine ac_aload_n (q := 18) dX6_go_17 rfl rfl ?_
    refine ac_get (q := 21) dX6_go_18 fl_X6_46 (by assumption) rfl (ac_rdr rfl hA9.1.2.2.2.2.2.2.2.2) ?_
    refine ac_get (q := 24) dX6_go_21 fl_X6_123 kw rfl (ac_rdi rfl R1.1.2.1) ?_
    refine ac_icmp_lt (q := 27) (tgt := 29) dX6_go_24 rfl rfl ⟨by omega, by omega⟩ ⟨by omega, by omega⟩ (fun h24 => ?_) (fun h24 => ?_)
    · obtain ⟨c, rfl⟩ := Int.eq_ofNat_of_zero_le (a := c) (by omega)
      obtain ⟨l', hl'⟩ : ∃ l', (ac_Lt T)[c]? = some l' := ⟨_, List.getElem?_eq_getElem (by omega)⟩
      have hg : ac_go T (c : Int) = some l' := by unfold ac_go; rw [if_pos (by omega), Int.toNat_natCast]; exact hl'
      obtain ⟨hl1', hl2', -⟩ := (ac_Lt_mem hkk2).mp (List.mem_of_getElem? hl')
      have hch := R1.2.1 c l' rfl hl'
      obtain ⟨l, hl⟩ : ∃ l, T.2.2.2.2 = some l := by
        cases hc : T.2.2.2.2 with
        | some l => exact ⟨l, rfl⟩
        | none => rw [hok.2.2 hc] at hl'; simp at hl'
      obtain ⟨hl1, hl2⟩ := hc0 l hl
      have hdif := ac_alike_dif hl1 hl1' hn2 (fun z hz => Nat.lt_of_lt_of_le (hl2 z hz) hkk2)
      refine ac_aload_n (q := 30) dX6_go_29 rfl rfl ?_
      refine ac_get (q := 33) dX6_go_30 fl_X6_39 (by assumption) rfl (ac_rdr rfl hA9.1.2.2.2.2.2.2.2.1) ?_
      refine ac_aload_n (q := 34) dX6_go_33 rfl rfl ?_
      refine ac_get (q := 37) dX6_go_34 fl_X6_19 (by assumption) rfl (ac_rdr rfl hA9.1.2.2.1) ?_
      refine ac_cv (q := 40) (k_X1_remember (h := x + 28) (t := x + 3) (d := d - 1) (by omega) hH A1.2.2.2.1 hT0 A1.2.1 (by omega)) ml_X6_126 (by assumption) dX6_go_37 rfl rfl rfl (by omega) (Nat.le_of_ble_eq_true rfl) (Nat.zero_le _) (Nat.zero_le _) (fun m2 h2 => ?_)
      obtain ⟨g2, f2⟩ := h2
      have A2 := ac_RA_h A1 g2 (fun k' a => f2 k' (by omega))
      refine ac_aload_n (q := 41) dX6_go_40 rfl rfl ?_
      refine ac_get (q := 44) dX6_go_41 fl_X6_19 (by assumption) rfl (ac_rdr rfl hA9.1.2.2.1) ?_
      refine ac_aload_n (q := 45) dX6_go_44 rfl rfl ?_
      refine ac_get (q := 48) dX6_go_45 fl_X6_46 (by assumption) rfl (ac_rdr rfl hA9.1.2.2.2.2.2.2.2.2) ?_
      refine ac_get (q := 51) dX6_go_48 fl_X6_129 (by assumption) rfl (ac_rdr rfl hW.1.2.2.2.2.2.1) ?_
      refine ac_cvp (q := 54) (k_X3_alike (t := x + 3) (r := x + 86 + 15) (l := l) (l' := l') (d := d - 1) (by omega) hT0 A2.2.1 k15 hl (ac_cl_keep hch (f2 _ (by omega)))) ml_X6_133 (by assumption) dX6_go_51 rfl rfl rfl (by omega) (Nat.le_of_ble_eq_true rfl) (Nat.zero_le _) (Nat.zero_le _) ?_
      refine ac_istore_n (q := 55) (j := 2) rfl dX6_go_54 rfl (Nat.le_of_ble_eq_true rfl) rfl rfl ?_
      simp only [List.set_cons_succ, List.set_cons_zero]
      refine ac_aload_n (q := 56) dX6_go_55 rfl rfl ?_
      refine ac_get (q := 59) dX6_go_56 fl_X6_19 (by assumption) rfl (ac_rdr rfl hA9.1.2.2.1) ?_
      refine ac_aload_n (q := 60) dX6_go_59 rfl rfl ?_
      refine ac_get (q := 63) dX6_go_60 fl_X6_46 (by assumption) rfl (ac_rdr rfl hA9.1.2.2.2.2.2.2.2.2) ?_
      refine ac_get (q := 66) dX6_go_63 fl_X6_129 (by assumption) rfl (ac_rdr rfl hW.1.2.2.2.2.2.1) ?_
      refine ac_iconst (q := 67) dX6_go_66 rfl ?_
      refine ac_top (w' := (0, if (some l' : Option (List Nat)).isSome then 1 else 0)) rfl ?_
      refine ac_cv (q := 70) (k_X3_recolour (t := x + 3) (r := x + 86 + 15) (col' := some l') (d := d - 1) (by omega) hT0 A2.2.1 k15 (by omega) (fun z hz => by cases hz; exact ⟨hl1', hl2', ac_cl_keep hch (f2 _ (by omega))⟩)) ml_X6_137 (by assumption) dX6_go_67 rfl rfl rfl (by omega) (Nat.le_of_ble_eq_true rfl) (Nat.zero_le _) (Nat.zero_le _) (fun m3 h3 => ?_)
      obtain ⟨g3, f3⟩ := h3
      have A3 := ac_RA_t (T' := ac_wcol T l') A2 g3 f3
      have e3 : m3 (x + 3) 3 = (T.1 : Int) := g3.2.1
      refine ac_aload_n (q := 71) dX6_go_70 rfl rfl ?_
      refine ac_get (q := 74) dX6_go_71 fl_X6_19 (by assumption) rfl (ac_rdr rfl hA9.1.2.2.1) ?_
      refine ac_get (q := 77) dX6_go_74 fl_X6_141 kn0 rfl (ac_rdi rfl e3) ?_
      refine ac_iload_n (q := 78) dX6_go_77 rfl rfl ?_
      refine ac_isub (q := 79) dX6_go_78 rfl ?_
      refine ac_ireturn dX6_go_79 rfl (Nat.zero_le _) (Nat.zero_le _) ?_
      rw [hg]
      have hcd : ac_colD T = l := by unfold ac_colD; rw [hl]; rfl
      refine ⟨?_, rfl, A3, fun k' a => by rw [f3 k' (by omega), f2 k' (by omega), f1 k' (by omega)]⟩
      show _ = [((0 : Nat), ((ac_dif (ac_colD T) l' T.1 : Nat) : Int))]
      rw [hcd]
      refine congrArg (fun z : Int => [((0 : Nat), z)]) ?_
      omega
    · refine ac_iconst (q := 28) dX6_go_27 rfl ?_
      refine ac_ireturn dX6_go_28 rfl (Nat.zero_le _) (Nat.zero_le _) ?_
      have hg : ac_go T c = none := by
        unfold ac_go
        by_cases h0 : 0 ≤ c
        · rw [if_pos h0, List.getElem?_eq_none (by omega)]
        · rw [if_neg h0]
      rw [hg]; exact ⟨rfl, rfl, A1, fun k' a => f1 k' (by omega)⟩

theorem ac_rfp_in (T : ac_Tk) (a c : Int) : -3 ≤ ac_rfp T a c ∧ ac_rfp T a c ≤ 0 := by
  unfold ac_rfp
  split
  · omega
  · split
    · omega
    · split <;> omega
theorem ac_rfn_in (T : ac_Tk) (a c : Int) : -2 ≤ ac_rfn T a c ∧ ac_rfn T a c ≤ 0 := by
  unfold ac_rfn
  split
  · omega
  · split <;> omega

set_option maxHeartbeats 8000000 in
theorem k_X6_paint {G : ac_G} {Y : ac_Y} {mm : ac_M} {d x : Nat} {s : List Nat} {T : ac_Tk} {hs : List ac_Tk} {s0 s1 : Option ac_Tk} {obs : List ac_Ob} {ch : Int} {a c : Int} (hd : 30 ≤ d) (hA : ac_isA Y x) (hR : ac_RA mm x s T hs s0 s1 obs ch) (hok : ac_okS T) (ha : ac_in a) (hc : ac_in c) : ac_C G yX6_paint cX6_paint 4 (some .int) d 0 0 Y mm [(2, (x : Int)), (0, a), (0, c)] (ac_R Y [(0, (if ac_rfp T a c = 0 then ac_rk (ac_t_paint T a c).2.2.2.2 (ac_Lt T) else ac_rfp T a c))] (fun m => ac_RA m x s (if ac_rfp T a c = 0 then ac_t_paint T a c else T) (if ac_rfp T a c = 0 then ac_push T hs else hs) s0 s1 obs ch ∧ ac_fA mm m x)) := by
  have hA9 := hA
  obtain ⟨⟨kx, -⟩, hX, ⟨hT0, hT1, hT2, hT3⟩, ⟨ka, -, -, hS0, hS1⟩, hH, hW⟩ := hA
  have ktx := hX.1
  have kn0 := hT0.1
  have kn1 := hT1.1
  have kn2 := hT2.1
  have kn3 := hT3.1
  have kh := hH.1
  obtain ⟨⟨kw, -⟩, ⟨k14, k15, k16, k17⟩, hWS, hWC, hWT⟩ := id hW
  have kws := hWS.1
  have kwc := hWC.1
  have hR9 := hR
  obtain ⟨⟨p, rX⟩, rT, ⟨rs0, rs1⟩, rH, rS, ⟨E0, rC⟩, rc⟩ := hR
  obtain ⟨⟨⟨hn1, hn2⟩, ⟨hkk1, hkk2⟩, ⟨hE4, hE2⟩, hp0, hpr, hc0⟩, t3, t4, t5, t6, tE, tp, tcb, tc⟩ := id rT
  have hLn := ac_Lt_len T hn2
  obtain ⟨ha1, ha2⟩ := ha
  obtain ⟨hc1, hc2⟩ := hc
  refine ac_met (on := (RX6, "paint")) rfl rfl (Nat.le_of_ble_eq_true rfl) (ls := [(2, (x : Int)), (0, a), (0, c), (3, 0)]) rfl ?_
  refine ac_aload_n (q := 1) dX6_paint_0 rfl rfl ?_
  refine ac_aload_n (q := 2) dX6_paint_1 rfl rfl ?_
  refine ac_get (q := 5) dX6_paint_2 fl_X6_19 (by assumption) rfl (ac_rdr rfl hA9.1.2.2.1) ?_
  refine ac_iload_n (q := 6) dX6_paint_5 rfl rfl ?_
  refine ac_iload_n (q := 7) dX6_paint_6 rfl rfl ?_
  refine ac_cv (q := 10) (k_X6_refusalOfPaint (u := x + 3) (d := d - 1) (by omega) hA9 (Or.inl rfl) rT hok rS rC ⟨by omega, by omega⟩ ⟨by omega, by omega⟩) ml_X6_144 (by assumption) dX6_paint_7 rfl rfl rfl (by omega) (Nat.le_of_ble_eq_true rfl) (Nat.zero_le _) (Nat.zero_le _) (fun m1 h1 => ?_)
  obtain ⟨gs1, gc1, f1⟩ := h1
  have A1 := ac_RA_w hR9 gs1 gc1 (fun k' a => f1 k' (by omega))
  have hrng := ac_rfp_in T a c
  refine ac_istore_n (q := 11) (j := 3) rfl dX6_paint_10 rfl (Nat.le_of_ble_eq_true rfl) rfl rfl ?_
  simp only [List.set_cons_succ, List.set_cons_zero]
  refine ac_iload_n (q := 12) dX6_paint_11 rfl rfl ?_
  refine ac_if_eq (q := 15) (tgt := 17) dX6_paint_12 rfl rfl ⟨by omega, by omega⟩ (fun h12 => ?_) (fun h12 => ?_)
  · have hpt : (1 ≤ a ∧ a ≤ (T.1 : Int)) ∧ (0 ≤ c ∧ c < (T.2.1 : Int)) ∧ ac_pt T a.toNat c.toNat = true := by
      unfold ac_rfp at h12
      by_cases q1 : 1 ≤ a ∧ a ≤ (T.1 : Int)
      · rw [if_neg (fun q => q q1)] at h12
        by_cases q2 : 0 ≤ c ∧ c < (T.2.1 : Int)
        · rw [if_neg (fun q => q q2)] at h12
          by_cases q3 : ac_pt T a.toNat c.toNat = true
          · exact ⟨q1, q2, q3⟩
          · rw [if_neg q3] at h12; exact absurd h12 (by decide)
        · rw [if_pos q2] at h12; exact absurd h12 (by decide)
      · rw [if_pos q1] at h12; exact absurd h12 (by decide)
    obtain ⟨⟨p1, p2⟩, ⟨p3, p4⟩, hpt⟩ := hpt
    obtain ⟨a, rfl⟩ := Int.eq_ofNat_of_zero_le (a := a) (by omega)
    obtain ⟨c, rfl⟩ := Int.eq_ofNat_of_zero_le (a := c) (by omega)
    simp only [Int.toNat_natCast] at hpt
    obtain ⟨l, hl⟩ : ∃ l, T.2.2.2.2 = some l := by
      unfold ac_pt at hpt
      cases hc : T.2.2.2.2 with
      | some l => exact ⟨l, rfl⟩
      | none => rw [hc] at hpt; cases hpt
    refine ac_aload_n (q := 18) dX6_paint_17 rfl rfl ?_
    refine ac_get (q := 21) dX6_paint_18 fl_X6_39 (by assumption) rfl (ac_rdr rfl hA9.1.2.2.2.2.2.2.2.1) ?_
    refine ac_aload_n (q := 22) dX6_paint_21 rfl rfl ?_
    refine ac_get (q := 25) dX6_paint_22 fl_X6_19 (by assumption) rfl (ac_rdr rfl hA9.1.2.2.1) ?_
    refine ac_cv (q := 28) (k_X1_remember (h := x + 28) (t := x + 3) (d := d - 1) (by omega) hH A1.2.2.2.1 hT0 A1.2.1 (by omega)) ml_X6_126 (by assumption) dX6_paint_25 rfl rfl rfl (by omega) (Nat.le_of_ble_eq_true rfl) (Nat.zero_le _) (Nat.zero_le _) (fun m2 h2 => ?_)
    obtain ⟨g2, f2⟩ := h2
    have A2 := ac_RA_h A1 g2 (fun k' a => f2 k' (by omega))
    refine ac_aload_n (q := 29) dX6_paint_28 rfl rfl ?_
    refine ac_get (q := 32) dX6_paint_29 fl_X6_19 (by assumption) rfl (ac_rdr rfl hA9.1.2.2.1) ?_
    refine ac_iload_n (q := 33) dX6_paint_32 rfl rfl ?_
    refine ac_iload_n (q := 34) dX6_paint_33 rfl rfl ?_
    refine ac_cv (q := 37) (k_X3_repaint (t := x + 3) (x := a) (c := c) (l := l) (d := d - 1) (by omega) hT0 A2.2.1 ⟨by omega, by omega⟩ (by omega) hl) ml_X6_148 (by assumption) dX6_paint_34 rfl rfl rfl (by omega) (Nat.le_of_ble_eq_true rfl) (Nat.zero_le _) (Nat.zero_le _) (fun m3 h3 => ?_)
    obtain ⟨g3, f3⟩ := h3
    have hcd : ac_colD T = l := by unfold ac_colD; rw [hl]; rfl
    have g3' : ac_RTk m3 (x + 3) (ac_t_paint T a c) := by unfold ac_t_paint; rw [hcd]; exact g3
    have A3 := ac_RA_t A2 g3' f3
    obtain ⟨E3, rC3⟩ := A3.2.2.2.2.2.1
    refine ac_aload_n (q := 38) dX6_paint_37 rfl rfl ?_
    refine ac_get (q := 41) dX6_paint_38 fl_X6_46 (by assumption) rfl (ac_rdr rfl hA9.1.2.2.2.2.2.2.2.2) ?_
    refine ac_aload_n (q := 42) dX6_paint_41 rfl rfl ?_
    refine ac_get (q := 45) dX6_paint_42 fl_X6_19 (by assumption) rfl (ac_rdr rfl hA9.1.2.2.1) ?_
    refine ac_iconst (q := 46) dX6_paint_45 rfl ?_
    refine ac_cv (q := 49) (k_X5_survey (d := d - 1) (w := x + 86) (t := x + 3) (wanted := 0) (by omega) hW ⟨by decide, by decide⟩ rC3 A3.2.2.2.2.1 hT0 g3' (by omega)) ml_X6_113 (by assumption) dX6_paint_46 rfl rfl rfl (by omega) (Nat.le_of_ble_eq_true rfl) (Nat.zero_le _) (Nat.zero_le _) (fun m4 h4 => ?_)
    obtain ⟨w4, R4, f4⟩ := h4
    have R4 : ac_RW m4 (x + 86) (ac_t_paint T a c).2.2.2.2 obs 0 (ac_Lt (ac_t_paint T a c)) (ac_cb (ac_Lt (ac_t_paint T a c))) (ac_dead (ac_may (ac_t_paint T a c).2.1 (ac_t_paint T a c).2.2.1 (ac_t_paint T a c).2.2.2.1) (ac_t_paint T a c).1 []) (ac_deep (ac_may (ac_t_paint T a c).2.1 (ac_t_paint T a c).2.2.1 (ac_t_paint T a c).2.2.2.1) (ac_t_paint T a c).1 []) := R4
    have A4 := ac_RA_w A3 w4.2.2 ⟨_, w4.2.1⟩ (fun k' a => f4 k' (by omega))
    refine ac_aload_n (q := 50) dX6_paint_49 rfl rfl ?_
    refine ac_get (q := 53) dX6_paint_50 fl_X6_46 (by assumption) rfl (ac_rdr rfl hA9.1.2.2.2.2.2.2.2.2) ?_
    refine ac_get (q := 56) dX6_paint_53 fl_X6_151 kw rfl (ac_rdi rfl R4.1.2.2.1) ?_
    refine ac_ireturn dX6_paint_56 rfl (Nat.zero_le _) (Nat.zero_le _) ?_
    rw [if_pos h12, if_pos h12, if_pos h12]
    exact ⟨rfl, rfl, A4, fun k' a => by rw [f4 k' (by omega), f3 k' (by omega), f2 k' (by omega), f1 k' (by omega)]⟩
  · refine ac_iload_n (q := 16) dX6_paint_15 rfl rfl ?_
    refine ac_ireturn dX6_paint_16 rfl (Nat.zero_le _) (Nat.zero_le _) ?_
    rw [if_neg h12, if_neg h12, if_neg h12]; exact ⟨rfl, rfl, A1, fun k' a => f1 k' (by omega)⟩

set_option maxHeartbeats 8000000 in
theorem k_X6_reach {G : ac_G} {Y : ac_Y} {mm : ac_M} {d x : Nat} {s : List Nat} {T : ac_Tk} {hs : List ac_Tk} {s0 s1 : Option ac_Tk} {obs : List ac_Ob} {ch : Int} {v : Int} (hd : 30 ≤ d) (hA : ac_isA Y x) (hR : ac_RA mm x s T hs s0 s1 obs ch) (hv : ac_in v) : ac_C G yX6_reach cX6_reach 2 (some .int) d 0 0 Y mm [(2, (x : Int)), (0, v)] (ac_R Y [(0, (if 1 ≤ v ∧ v ≤ 10 then ((ac_Lt (ac_t_reach T v.toNat)).length : Int) else -2))] (fun m => ac_RA m x s (if 1 ≤ v ∧ v ≤ 10 then ac_t_reach T v.toNat else T) (if 1 ≤ v ∧ v ≤ 10 then ac_push T hs else hs) s0 s1 obs ch ∧ ac_fA mm m x)) := by
  have hA9 := hA
  obtain ⟨⟨kx, -⟩, hX, ⟨hT0, hT1, hT2, hT3⟩, ⟨ka, -, -, hS0, hS1⟩, hH, hW⟩ := hA
  have ktx := hX.1
  have kn0 := hT0.1
  have kn1 := hT1.1
  have kn2 := hT2.1
  have kn3 := hT3.1
  have kh := hH.1
  obtain ⟨⟨kw, -⟩, ⟨k14, k15, k16, k17⟩, hWS, hWC, hWT⟩ := id hW
  have kws := hWS.1
  have kwc := hWC.1
  have hR9 := hR
  obtain ⟨⟨p, rX⟩, rT, ⟨rs0, rs1⟩, rH, rS, ⟨E0, rC⟩, rc⟩ := hR
  obtain ⟨⟨⟨hn1, hn2⟩, ⟨hkk1, hkk2⟩, ⟨hE4, hE2⟩, hp0, hpr, hc0⟩, t3, t4, t5, t6, tE, tp, tcb, tc⟩ := id rT
  have hLn := ac_Lt_len T hn2
  obtain ⟨hv1, hv2⟩ := hv
  refine ac_met (on := (RX6, "reach")) rfl rfl (Nat.le_of_ble_eq_true rfl) (ls := [(2, (x : Int)), (0, v)]) rfl ?_
  refine ac_iload_n (q := 1) dX6_reach_0 rfl rfl ?_
  refine ac_csp (q := 4) (k_X6_reachable (d := d - 1) (by omega) ⟨by omega, by omega⟩) ml_X6_154 dX6_reach_1 rfl rfl rfl (by omega) (Nat.le_of_ble_eq_true rfl) (Nat.zero_le _) (Nat.zero_le _) ?_
  refine ac_bif_ne (q := 7) (tgt := 10) dX6_reach_4 rfl rfl (fun h4 => ?_) (fun h4 => ?_)
  · obtain ⟨v, rfl⟩ := Int.eq_ofNat_of_zero_le (a := v) (by omega)
    simp only [Int.toNat_natCast]
    refine ac_aload_n (q := 11) dX6_reach_10 rfl rfl ?_
    refine ac_get (q := 14) dX6_reach_11 fl_X6_39 (by assumption) rfl (ac_rdr rfl hA9.1.2.2.2.2.2.2.2.1) ?_
    refine ac_aload_n (q := 15) dX6_reach_14 rfl rfl ?_
    refine ac_get (q := 18) dX6_reach_15 fl_X6_19 (by assumption) rfl (ac_rdr rfl hA9.1.2.2.1) ?_
    refine ac_cv (q := 21) (k_X1_remember (h := x + 28) (t := x + 3) (d := d - 1) (by omega) hH hR9.2.2.2.1 hT0 hR9.2.1 (by omega)) ml_X6_126 (by assumption) dX6_reach_18 rfl rfl rfl (by omega) (Nat.le_of_ble_eq_true rfl) (Nat.zero_le _) (Nat.zero_le _) (fun m2 h2 => ?_)
    obtain ⟨g2, f2⟩ := h2
    have A2 := ac_RA_h hR9 g2 (fun k' a => f2 k' (by omega))
    refine ac_aload_n (q := 22) dX6_reach_21 rfl rfl ?_
    refine ac_get (q := 25) dX6_reach_22 fl_X6_19 (by assumption) rfl (ac_rdr rfl hA9.1.2.2.1) ?_
    refine ac_iload_n (q := 26) dX6_reach_25 rfl rfl ?_
    refine ac_cv (q := 29) (k_X3_resize (t := x + 3) (n' := v) (d := d - 1) (by omega) hT0 A2.2.1 ⟨by omega, by omega⟩) ml_X6_157 (by assumption) dX6_reach_26 rfl rfl rfl (by omega) (Nat.le_of_ble_eq_true rfl) (Nat.zero_le _) (Nat.zero_le _) (fun m3 h3 => ?_)
    obtain ⟨g3, f3⟩ := h3
    have A3 := ac_RA_t (T' := (v, T.2.1, T.2.2.1, ac_cut T.2.2.2.1 v, if v = T.1 then T.2.2.2.2 else none)) A2 g3 f3
    refine ac_aload_n (q := 30) dX6_reach_29 rfl rfl ?_
    refine ac_aload_n (q := 31) dX6_reach_30 rfl rfl ?_
    refine ac_get (q := 34) dX6_reach_31 fl_X6_19 (by assumption) rfl (ac_rdr rfl hA9.1.2.2.1) ?_
    obtain ⟨Es, rCs⟩ := A3.2.2.2.2.2.1
    refine ac_cv (q := 37) (k_X6_settle (u := x + 3) (T := (v, T.2.1, T.2.2.1, ac_cut T.2.2.2.1 v, if v = T.1 then T.2.2.2.2 else none)) (d := d - 1) (by omega) hA9 (Or.inl rfl) A3.2.1 A3.2.2.2.2.1 rCs) ml_X6_54 (by assumption) dX6_reach_34 rfl rfl rfl (by omega) (Nat.le_of_ble_eq_true rfl) (Nat.zero_le _) (Nat.zero_le _) (fun m4 h4 => ?_)
    obtain ⟨g4, gs4, gc4, f4⟩ := h4
    have A4 := ac_RA_re A3 g4 gs4 gc4 (fun k' a => f4 k' (by omega) (by omega))
    refine ac_ireturn dX6_reach_37 rfl (Nat.zero_le _) (Nat.zero_le _) ?_
    rw [if_pos h4, if_pos h4, if_pos h4]
    exact ⟨by unfold ac_t_reach; rw [ac_stl_same.2.2.2.2], rfl, A4, fun k' a => by rw [f4 k' (by omega) (by omega), f3 k' (by omega), f2 k' (by omega)]⟩
  · refine ac_bipush (q := 9) dX6_reach_7 rfl (by decide) ?_
    refine ac_ireturn dX6_reach_9 rfl (Nat.zero_le _) (Nat.zero_le _) ?_
    rw [if_neg h4, if_neg h4, if_neg h4]; exact ⟨rfl, rfl, hR9, ac_fA_r mm x⟩

set_option maxHeartbeats 8000000 in
theorem k_X6_add {G : ac_G} {Y : ac_Y} {mm : ac_M} {d x : Nat} {s : List Nat} {T : ac_Tk} {hs : List ac_Tk} {s0 s1 : Option ac_Tk} {obs : List ac_Ob} {ch : Int} {a b c e : Int} (hd : 30 ≤ d) (hA : ac_isA Y x) (hR : ac_RA mm x s T hs s0 s1 obs ch) (ha : ac_in a) (hb : ac_in b) (hc : ac_in c) (he : ac_in e) : ac_C G yX6_add cX6_add 5 (some .int) d 0 0 Y mm [(2, (x : Int)), (0, a), (0, b), (0, c), (0, e)] (ac_R Y [(0, (if ¬ (((-4 ≤ a ∧ a ≤ 4) ∧ a ≠ 0) ∧ ((-4 ≤ b ∧ b ≤ 4) ∧ b ≠ 0) ∧ ((-4 ≤ c ∧ c ≤ 4) ∧ c ≠ 0) ∧ (0 ≤ e ∧ e ≤ 1)) then -2 else if 4 ≤ T.2.2.1.length then -4 else ((ac_Lt (ac_t_add T (a, b, c, e))).length : Int)))] (fun m => ac_RA m x s (if ¬ (((-4 ≤ a ∧ a ≤ 4) ∧ a ≠ 0) ∧ ((-4 ≤ b ∧ b ≤ 4) ∧ b ≠ 0) ∧ ((-4 ≤ c ∧ c ≤ 4) ∧ c ≠ 0) ∧ (0 ≤ e ∧ e ≤ 1)) then T else if 4 ≤ T.2.2.1.length then T else ac_t_add T (a, b, c, e)) (if ¬ (((-4 ≤ a ∧ a ≤ 4) ∧ a ≠ 0) ∧ ((-4 ≤ b ∧ b ≤ 4) ∧ b ≠ 0) ∧ ((-4 ≤ c ∧ c ≤ 4) ∧ c ≠ 0) ∧ (0 ≤ e ∧ e ≤ 1)) then hs else if 4 ≤ T.2.2.1.length then hs else ac_push T hs) s0 s1 obs ch ∧ ac_fA mm m x)) := by
  have hA9 := hA
  obtain ⟨⟨kx, -⟩, hX, ⟨hT0, hT1, hT2, hT3⟩, ⟨ka, -, -, hS0, hS1⟩, hH, hW⟩ := hA
  have ktx := hX.1
  have kn0 := hT0.1
  have kn1 := hT1.1
  have kn2 := hT2.1
  have kn3 := hT3.1
  have kh := hH.1
  obtain ⟨⟨kw, -⟩, ⟨k14, k15, k16, k17⟩, hWS, hWC, hWT⟩ := id hW
  have kws := hWS.1
  have kwc := hWC.1
  have hR9 := hR
  obtain ⟨⟨p, rX⟩, rT, ⟨rs0, rs1⟩, rH, rS, ⟨E0, rC⟩, rc⟩ := hR
  obtain ⟨⟨⟨hn1, hn2⟩, ⟨hkk1, hkk2⟩, ⟨hE4, hE2⟩, hp0, hpr, hc0⟩, t3, t4, t5, t6, tE, tp, tcb, tc⟩ := id rT
  have hLn := ac_Lt_len T hn2
  obtain ⟨ha1, ha2⟩ := ha
  obtain ⟨hb1, hb2⟩ := hb
  obtain ⟨hc1, hc2⟩ := hc
  obtain ⟨he1, he2⟩ := he
  refine ac_met (on := (RX6, "add")) rfl rfl (Nat.le_of_ble_eq_true rfl) (ls := [(2, (x : Int)), (0, a), (0, b), (0, c), (0, e)]) rfl ?_
  refine ac_iload_n (q := 1) dX6_add_0 rfl rfl ?_
  refine ac_csp (q := 4) (k_X6_factor (d := d - 1) (by omega) ⟨by omega, by omega⟩) ml_X6_161 dX6_add_1 rfl rfl rfl (by omega) (Nat.le_of_ble_eq_true rfl) (Nat.zero_le _) (Nat.zero_le _) ?_
  refine ac_bif_eq (q := 7) (tgt := 32) dX6_add_4 rfl rfl (fun h4 => ?_) (fun h4 => ?_)
  · refine ac_bipush (q := 34) dX6_add_32 rfl (by decide) ?_
    refine ac_ireturn dX6_add_34 rfl (Nat.zero_le _) (Nat.zero_le _) ?_
    have hno : ¬ (((-4 ≤ a ∧ a ≤ 4) ∧ a ≠ 0) ∧ ((-4 ≤ b ∧ b ≤ 4) ∧ b ≠ 0) ∧ ((-4 ≤ c ∧ c ≤ 4) ∧ c ≠ 0) ∧ (0 ≤ e ∧ e ≤ 1)) := fun q => by omega
    rw [if_pos hno, if_pos hno, if_pos hno]; exact ⟨rfl, rfl, hR9, ac_fA_r mm x⟩
  · refine ac_iload_n (q := 8) dX6_add_7 rfl rfl ?_
    refine ac_csp (q := 11) (k_X6_factor (d := d - 1) (by omega) ⟨by omega, by omega⟩) ml_X6_161 dX6_add_8 rfl rfl rfl (by omega) (Nat.le_of_ble_eq_true rfl) (Nat.zero_le _) (Nat.zero_le _) ?_
    refine ac_bif_eq (q := 14) (tgt := 32) dX6_add_11 rfl rfl (fun h11 => ?_) (fun h11 => ?_)
    · refine ac_bipush (q := 34) dX6_add_32 rfl (by decide) ?_
      refine ac_ireturn dX6_add_34 rfl (Nat.zero_le _) (Nat.zero_le _) ?_
      have hno : ¬ (((-4 ≤ a ∧ a ≤ 4) ∧ a ≠ 0) ∧ ((-4 ≤ b ∧ b ≤ 4) ∧ b ≠ 0) ∧ ((-4 ≤ c ∧ c ≤ 4) ∧ c ≠ 0) ∧ (0 ≤ e ∧ e ≤ 1)) := fun q => by omega
      rw [if_pos hno, if_pos hno, if_pos hno]; exact ⟨rfl, rfl, hR9, ac_fA_r mm x⟩
    · refine ac_iload_n (q := 15) dX6_add_14 rfl rfl ?_
      refine ac_csp (q := 18) (k_X6_factor (d := d - 1) (by omega) ⟨by omega, by omega⟩) ml_X6_161 dX6_add_15 rfl rfl rfl (by omega) (Nat.le_of_ble_eq_true rfl) (Nat.zero_le _) (Nat.zero_le _) ?_
      refine ac_bif_eq (q := 21) (tgt := 32) dX6_add_18 rfl rfl (fun h18 => ?_) (fun h18 => ?_)
      · refine ac_bipush (q := 34) dX6_add_32 rfl (by decide) ?_
        refine ac_ireturn dX6_add_34 rfl (Nat.zero_le _) (Nat.zero_le _) ?_
        have hno : ¬ (((-4 ≤ a ∧ a ≤ 4) ∧ a ≠ 0) ∧ ((-4 ≤ b ∧ b ≤ 4) ∧ b ≠ 0) ∧ ((-4 ≤ c ∧ c ≤ 4) ∧ c ≠ 0) ∧ (0 ≤ e ∧ e ≤ 1)) := fun q => by omega
        rw [if_pos hno, if_pos hno, if_pos hno]; exact ⟨rfl, rfl, hR9, ac_fA_r mm x⟩
      · refine ac_iload (q := 23) dX6_add_21 rfl rfl ?_
        refine ac_if_lt (q := 26) (tgt := 32) dX6_add_23 rfl rfl ⟨by omega, by omega⟩ (fun h23 => ?_) (fun h23 => ?_)
        · refine ac_bipush (q := 34) dX6_add_32 rfl (by decide) ?_
          refine ac_ireturn dX6_add_34 rfl (Nat.zero_le _) (Nat.zero_le _) ?_
          have hno : ¬ (((-4 ≤ a ∧ a ≤ 4) ∧ a ≠ 0) ∧ ((-4 ≤ b ∧ b ≤ 4) ∧ b ≠ 0) ∧ ((-4 ≤ c ∧ c ≤ 4) ∧ c ≠ 0) ∧ (0 ≤ e ∧ e ≤ 1)) := fun q => by omega
          rw [if_pos hno, if_pos hno, if_pos hno]; exact ⟨rfl, rfl, hR9, ac_fA_r mm x⟩
        · refine ac_iload (q := 28) dX6_add_26 rfl rfl ?_
          refine ac_iconst (q := 29) dX6_add_28 rfl ?_
          refine ac_icmp_le (q := 32) (tgt := 35) dX6_add_29 rfl rfl ⟨by omega, by omega⟩ ⟨by omega, by omega⟩ (fun h29 => ?_) (fun h29 => ?_)
          · refine ac_aload_n (q := 36) dX6_add_35 rfl rfl ?_
            refine ac_get (q := 39) dX6_add_36 fl_X6_19 (by assumption) rfl (ac_rdr rfl hA9.1.2.2.1) ?_
            refine ac_get (q := 42) dX6_add_39 fl_X6_164 kn0 rfl (ac_rdi rfl t5) ?_
            refine ac_iconst (q := 43) dX6_add_42 rfl ?_
            refine ac_icmp_lt (q := 46) (tgt := 49) dX6_add_43 rfl rfl ⟨by omega, by omega⟩ ⟨by omega, by omega⟩ (fun h43 => ?_) (fun h43 => ?_)
            · refine ac_aload_n (q := 50) dX6_add_49 rfl rfl ?_
              refine ac_get (q := 53) dX6_add_50 fl_X6_39 (by assumption) rfl (ac_rdr rfl hA9.1.2.2.2.2.2.2.2.1) ?_
              refine ac_aload_n (q := 54) dX6_add_53 rfl rfl ?_
              refine ac_get (q := 57) dX6_add_54 fl_X6_19 (by assumption) rfl (ac_rdr rfl hA9.1.2.2.1) ?_
              refine ac_cv (q := 60) (k_X1_remember (h := x + 28) (t := x + 3) (d := d - 1) (by omega) hH hR9.2.2.2.1 hT0 hR9.2.1 (by omega)) ml_X6_126 (by assumption) dX6_add_57 rfl rfl rfl (by omega) (Nat.le_of_ble_eq_true rfl) (Nat.zero_le _) (Nat.zero_le _) (fun m2 h2 => ?_)
              obtain ⟨g2, f2⟩ := h2
              have A2 := ac_RA_h hR9 g2 (fun k' a => f2 k' (by omega))
              refine ac_aload_n (q := 61) dX6_add_60 rfl rfl ?_
              refine ac_get (q := 64) dX6_add_61 fl_X6_19 (by assumption) rfl (ac_rdr rfl hA9.1.2.2.1) ?_
              refine ac_iload_n (q := 65) dX6_add_64 rfl rfl ?_
              refine ac_iload_n (q := 66) dX6_add_65 rfl rfl ?_
              refine ac_iload_n (q := 67) dX6_add_66 rfl rfl ?_
              refine ac_iload (q := 69) dX6_add_67 rfl rfl ?_
              refine ac_cv (q := 72) (k_X3_append (t := x + 3) (a := a) (b := b) (c := c) (ap := e) (d := d - 1) (by omega) hT0 A2.2.1 (by omega) ⟨h4, h11, h18, (show e = 0 ∨ e = 1 by omega)⟩) ml_X6_167 (by assumption) dX6_add_69 rfl rfl rfl (by omega) (Nat.le_of_ble_eq_true rfl) (Nat.zero_le _) (Nat.zero_le _) (fun m3 h3 => ?_)
              obtain ⟨g3, f3⟩ := h3
              have A3 := ac_RA_t (T' := (T.1, T.2.1, T.2.2.1 ++ [(a, b, c, e)], T.2.2.2.1, T.2.2.2.2)) A2 g3 f3
              refine ac_aload_n (q := 73) dX6_add_72 rfl rfl ?_
              refine ac_aload_n (q := 74) dX6_add_73 rfl rfl ?_
              refine ac_get (q := 77) dX6_add_74 fl_X6_19 (by assumption) rfl (ac_rdr rfl hA9.1.2.2.1) ?_
              obtain ⟨Es, rCs⟩ := A3.2.2.2.2.2.1
              refine ac_cv (q := 80) (k_X6_settle (u := x + 3) (T := (T.1, T.2.1, T.2.2.1 ++ [(a, b, c, e)], T.2.2.2.1, T.2.2.2.2)) (d := d - 1) (by omega) hA9 (Or.inl rfl) A3.2.1 A3.2.2.2.2.1 rCs) ml_X6_54 (by assumption) dX6_add_77 rfl rfl rfl (by omega) (Nat.le_of_ble_eq_true rfl) (Nat.zero_le _) (Nat.zero_le _) (fun m4 h4 => ?_)
              obtain ⟨g4, gs4, gc4, f4⟩ := h4
              have A4 := ac_RA_re A3 g4 gs4 gc4 (fun k' a => f4 k' (by omega) (by omega))
              refine ac_ireturn dX6_add_80 rfl (Nat.zero_le _) (Nat.zero_le _) ?_
              have hyes : ¬ ¬ (((-4 ≤ a ∧ a ≤ 4) ∧ a ≠ 0) ∧ ((-4 ≤ b ∧ b ≤ 4) ∧ b ≠ 0) ∧ ((-4 ≤ c ∧ c ≤ 4) ∧ c ≠ 0) ∧ (0 ≤ e ∧ e ≤ 1)) := fun q => q (by omega)
              have h4le : ¬ 4 ≤ T.2.2.1.length := by omega
              rw [if_neg hyes, if_neg hyes, if_neg hyes, if_neg h4le, if_neg h4le, if_neg h4le]
              exact ⟨by unfold ac_t_add; rw [ac_stl_same.2.2.2.2], rfl, A4, fun k' a => by rw [f4 k' (by omega) (by omega), f3 k' (by omega), f2 k' (by omega)]⟩
            · refine ac_bipush (q := 48) dX6_add_46 rfl (by decide) ?_
              refine ac_ireturn dX6_add_48 rfl (Nat.zero_le _) (Nat.zero_le _) ?_
              have hyes : ¬ ¬ (((-4 ≤ a ∧ a ≤ 4) ∧ a ≠ 0) ∧ ((-4 ≤ b ∧ b ≤ 4) ∧ b ≠ 0) ∧ ((-4 ≤ c ∧ c ≤ 4) ∧ c ≠ 0) ∧ (0 ≤ e ∧ e ≤ 1)) := fun q => q (by omega)
              have h4le : 4 ≤ T.2.2.1.length := by omega
              rw [if_neg hyes, if_neg hyes, if_neg hyes, if_pos h4le, if_pos h4le, if_pos h4le]; exact ⟨rfl, rfl, hR9, ac_fA_r mm x⟩
          · refine ac_bipush (q := 34) dX6_add_32 rfl (by decide) ?_
            refine ac_ireturn dX6_add_34 rfl (Nat.zero_le _) (Nat.zero_le _) ?_
            have hno : ¬ (((-4 ≤ a ∧ a ≤ 4) ∧ a ≠ 0) ∧ ((-4 ≤ b ∧ b ≤ 4) ∧ b ≠ 0) ∧ ((-4 ≤ c ∧ c ≤ 4) ∧ c ≠ 0) ∧ (0 ≤ e ∧ e ≤ 1)) := fun q => by omega
            rw [if_pos hno, if_pos hno, if_pos hno]; exact ⟨rfl, rfl, hR9, ac_fA_r mm x⟩

set_option maxHeartbeats 8000000 in
theorem k_X6_drop {G : ac_G} {Y : ac_Y} {mm : ac_M} {d x : Nat} {s : List Nat} {T : ac_Tk} {hs : List ac_Tk} {s0 s1 : Option ac_Tk} {obs : List ac_Ob} {ch : Int} (hd : 30 ≤ d) (hA : ac_isA Y x) (hR : ac_RA mm x s T hs s0 s1 obs ch)  : ac_C G yX6_drop cX6_drop 1 (some .int) d 0 0 Y mm [(2, (x : Int))] (ac_R Y [(0, (if T.2.2.1.length = 0 then -3 else ((ac_Lt (ac_t_drop T)).length : Int)))] (fun m => ac_RA m x s (if T.2.2.1.length = 0 then T else ac_t_drop T) (if T.2.2.1.length = 0 then hs else ac_push T hs) s0 s1 obs ch ∧ ac_fA mm m x)) := by
  have hA9 := hA
  obtain ⟨⟨kx, -⟩, hX, ⟨hT0, hT1, hT2, hT3⟩, ⟨ka, -, -, hS0, hS1⟩, hH, hW⟩ := hA
  have ktx := hX.1
  have kn0 := hT0.1
  have kn1 := hT1.1
  have kn2 := hT2.1
  have kn3 := hT3.1
  have kh := hH.1
  obtain ⟨⟨kw, -⟩, ⟨k14, k15, k16, k17⟩, hWS, hWC, hWT⟩ := id hW
  have kws := hWS.1
  have kwc := hWC.1
  have hR9 := hR
  obtain ⟨⟨p, rX⟩, rT, ⟨rs0, rs1⟩, rH, rS, ⟨E0, rC⟩, rc⟩ := hR
  obtain ⟨⟨⟨hn1, hn2⟩, ⟨hkk1, hkk2⟩, ⟨hE4, hE2⟩, hp0, hpr, hc0⟩, t3, t4, t5, t6, tE, tp, tcb, tc⟩ := id rT
  have hLn := ac_Lt_len T hn2
  refine ac_met (on := (RX6, "drop")) rfl rfl (Nat.le_of_ble_eq_true rfl) (ls := [(2, (x : Int))]) rfl ?_
  refine ac_aload_n (q := 1) dX6_drop_0 rfl rfl ?_
  refine ac_get (q := 4) dX6_drop_1 fl_X6_19 (by assumption) rfl (ac_rdr rfl hA9.1.2.2.1) ?_
  refine ac_get (q := 7) dX6_drop_4 fl_X6_164 kn0 rfl (ac_rdi rfl t5) ?_
  refine ac_if_gt (q := 10) (tgt := 13) dX6_drop_7 rfl rfl ⟨by omega, by omega⟩ (fun h7 => ?_) (fun h7 => ?_)
  · refine ac_aload_n (q := 14) dX6_drop_13 rfl rfl ?_
    refine ac_get (q := 17) dX6_drop_14 fl_X6_39 (by assumption) rfl (ac_rdr rfl hA9.1.2.2.2.2.2.2.2.1) ?_
    refine ac_aload_n (q := 18) dX6_drop_17 rfl rfl ?_
    refine ac_get (q := 21) dX6_drop_18 fl_X6_19 (by assumption) rfl (ac_rdr rfl hA9.1.2.2.1) ?_
    refine ac_cv (q := 24) (k_X1_remember (h := x + 28) (t := x + 3) (d := d - 1) (by omega) hH hR9.2.2.2.1 hT0 hR9.2.1 (by omega)) ml_X6_126 (by assumption) dX6_drop_21 rfl rfl rfl (by omega) (Nat.le_of_ble_eq_true rfl) (Nat.zero_le _) (Nat.zero_le _) (fun m2 h2 => ?_)
    obtain ⟨g2, f2⟩ := h2
    have A2 := ac_RA_h hR9 g2 (fun k' a => f2 k' (by omega))
    have e5 : m2 (x + 3) 5 = (T.2.2.1.length : Int) := A2.2.1.2.2.2.1
    refine ac_aload_n (q := 25) dX6_drop_24 rfl rfl ?_
    refine ac_get (q := 28) dX6_drop_25 fl_X6_19 (by assumption) rfl (ac_rdr rfl hA9.1.2.2.1) ?_
    refine ac_dup (q := 29) dX6_drop_28 rfl (show (2 : Nat) ≠ 1 by decide) ?_
    refine ac_get (q := 32) dX6_drop_29 fl_X6_164 kn0 rfl (ac_rdi rfl e5) ?_
    refine ac_iconst (q := 33) dX6_drop_32 rfl ?_
    refine ac_isub (q := 34) dX6_drop_33 rfl ?_
    refine ac_put (q := 37) dX6_drop_34 fl_X6_164 (by assumption) rfl rfl ?_
    have f3 : ac_fr m2 (ac_up m2 (x + 3) 5 ((T.2.2.1.length : Int) - 1)) (x + 3) := fun k' hk' => by funext j; exact ac_up_k (by omega)
    have g3 : ac_RTk (ac_up m2 (x + 3) 5 ((T.2.2.1.length : Int) - 1)) (x + 3) (T.1, T.2.1, T.2.2.1.dropLast, T.2.2.2.1, T.2.2.2.2) := ac_RT_drop A2.2.1 (by omega) (fun j => by unfold ac_up; simp) (by funext j; exact ac_up_k (by omega)) (by funext j; exact ac_up_k (by omega)) (by funext j; exact ac_up_k (by omega))
    have A3 := ac_RA_t A2 g3 f3
    generalize ac_up m2 (x + 3) 5 ((T.2.2.1.length : Int) - 1) = m3 at *
    refine ac_aload_n (q := 38) dX6_drop_37 rfl rfl ?_
    refine ac_aload_n (q := 39) dX6_drop_38 rfl rfl ?_
    refine ac_get (q := 42) dX6_drop_39 fl_X6_19 (by assumption) rfl (ac_rdr rfl hA9.1.2.2.1) ?_
    obtain ⟨Es, rCs⟩ := A3.2.2.2.2.2.1
    refine ac_cv (q := 45) (k_X6_settle (u := x + 3) (T := (T.1, T.2.1, T.2.2.1.dropLast, T.2.2.2.1, T.2.2.2.2)) (d := d - 1) (by omega) hA9 (Or.inl rfl) A3.2.1 A3.2.2.2.2.1 rCs) ml_X6_54 (by assumption) dX6_drop_42 rfl rfl rfl (by omega) (Nat.le_of_ble_eq_true rfl) (Nat.zero_le _) (Nat.zero_le _) (fun m4 h4 => ?_)
    obtain ⟨g4, gs4, gc4, f4⟩ := h4
    have A4 := ac_RA_re A3 g4 gs4 gc4 (fun k' a => f4 k' (by omega) (by omega))
    refine ac_ireturn dX6_drop_45 rfl (Nat.zero_le _) (Nat.zero_le _) ?_
    have h0 : ¬ T.2.2.1.length = 0 := by omega
    rw [if_neg h0, if_neg h0, if_neg h0]
    exact ⟨by unfold ac_t_drop; rw [ac_stl_same.2.2.2.2], rfl, A4, fun k' a => by rw [f4 k' (by omega) (by omega), f3 k' (by omega), f2 k' (by omega)]⟩
  · refine ac_bipush (q := 12) dX6_drop_10 rfl (by decide) ?_
    refine ac_ireturn dX6_drop_12 rfl (Nat.zero_le _) (Nat.zero_le _) ?_
    have h0 : T.2.2.1.length = 0 := by omega
    rw [if_pos h0, if_pos h0, if_pos h0]; exact ⟨rfl, rfl, hR9, ac_fA_r mm x⟩

set_option maxHeartbeats 8000000 in
theorem k_X6_pin {G : ac_G} {Y : ac_Y} {mm : ac_M} {d x : Nat} {s : List Nat} {T : ac_Tk} {hs : List ac_Tk} {s0 s1 : Option ac_Tk} {obs : List ac_Ob} {ch : Int} {a c : Int} (hd : 30 ≤ d) (hA : ac_isA Y x) (hR : ac_RA mm x s T hs s0 s1 obs ch) (ha : ac_in a) (hc : ac_in c) : ac_C G yX6_pin cX6_pin 4 (some .int) d 0 0 Y mm [(2, (x : Int)), (0, a), (0, c)] (ac_R Y [(0, (if ac_rfn T a c = 0 then ((ac_Lt (ac_t_pin T a.toNat c)).length : Int) else ac_rfn T a c))] (fun m => ac_RA m x s (if ac_rfn T a c = 0 then ac_t_pin T a.toNat c else T) (if ac_rfn T a c = 0 then ac_push T hs else hs) s0 s1 obs ch ∧ ac_fA mm m x)) := by
  have hA9 := hA
  obtain ⟨⟨kx, -⟩, hX, ⟨hT0, hT1, hT2, hT3⟩, ⟨ka, -, -, hS0, hS1⟩, hH, hW⟩ := hA
  have ktx := hX.1
  have kn0 := hT0.1
  have kn1 := hT1.1
  have kn2 := hT2.1
  have kn3 := hT3.1
  have kh := hH.1
  obtain ⟨⟨kw, -⟩, ⟨k14, k15, k16, k17⟩, hWS, hWC, hWT⟩ := id hW
  have kws := hWS.1
  have kwc := hWC.1
  have hR9 := hR
  obtain ⟨⟨p, rX⟩, rT, ⟨rs0, rs1⟩, rH, rS, ⟨E0, rC⟩, rc⟩ := hR
  obtain ⟨⟨⟨hn1, hn2⟩, ⟨hkk1, hkk2⟩, ⟨hE4, hE2⟩, hp0, hpr, hc0⟩, t3, t4, t5, t6, tE, tp, tcb, tc⟩ := id rT
  have hLn := ac_Lt_len T hn2
  obtain ⟨ha1, ha2⟩ := ha
  obtain ⟨hc1, hc2⟩ := hc
  refine ac_met (on := (RX6, "pin")) rfl rfl (Nat.le_of_ble_eq_true rfl) (ls := [(2, (x : Int)), (0, a), (0, c), (3, 0)]) rfl ?_
  refine ac_aload_n (q := 1) dX6_pin_0 rfl rfl ?_
  refine ac_get (q := 4) dX6_pin_1 fl_X6_19 (by assumption) rfl (ac_rdr rfl hA9.1.2.2.1) ?_
  refine ac_iload_n (q := 5) dX6_pin_4 rfl rfl ?_
  refine ac_iload_n (q := 6) dX6_pin_5 rfl rfl ?_
  refine ac_csp (q := 9) (k_X6_refusalOfPin (u := x + 3) (d := d - 1) (by omega) hT0 rT ⟨by omega, by omega⟩ ⟨by omega, by omega⟩) ml_X6_170 dX6_pin_6 rfl rfl rfl (by omega) (Nat.le_of_ble_eq_true rfl) (Nat.zero_le _) (Nat.zero_le _) ?_
  have hrng := ac_rfn_in T a c
  refine ac_istore_n (q := 10) (j := 3) rfl dX6_pin_9 rfl (Nat.le_of_ble_eq_true rfl) rfl rfl ?_
  simp only [List.set_cons_succ, List.set_cons_zero]
  refine ac_iload_n (q := 11) dX6_pin_10 rfl rfl ?_
  refine ac_if_eq (q := 14) (tgt := 16) dX6_pin_11 rfl rfl ⟨by omega, by omega⟩ (fun h11 => ?_) (fun h11 => ?_)
  · have hpa : 1 ≤ a ∧ a ≤ (T.1 : Int) := by
      unfold ac_rfn at h11
      exact Decidable.byContradiction fun q1 => by rw [if_pos q1] at h11; exact absurd h11 (by decide)
    obtain ⟨p1, p2⟩ := hpa
    obtain ⟨a, rfl⟩ := Int.eq_ofNat_of_zero_le (a := a) (by omega)
    simp only [Int.toNat_natCast]
    refine ac_aload_n (q := 17) dX6_pin_16 rfl rfl ?_
    refine ac_get (q := 20) dX6_pin_17 fl_X6_39 (by assumption) rfl (ac_rdr rfl hA9.1.2.2.2.2.2.2.2.1) ?_
    refine ac_aload_n (q := 21) dX6_pin_20 rfl rfl ?_
    refine ac_get (q := 24) dX6_pin_21 fl_X6_19 (by assumption) rfl (ac_rdr rfl hA9.1.2.2.1) ?_
    refine ac_cv (q := 27) (k_X1_remember (h := x + 28) (t := x + 3) (d := d - 1) (by omega) hH hR9.2.2.2.1 hT0 hR9.2.1 (by omega)) ml_X6_126 (by assumption) dX6_pin_24 rfl rfl rfl (by omega) (Nat.le_of_ble_eq_true rfl) (Nat.zero_le _) (Nat.zero_le _) (fun m2 h2 => ?_)
    obtain ⟨g2, f2⟩ := h2
    have A2 := ac_RA_h hR9 g2 (fun k' a => f2 k' (by omega))
    refine ac_aload_n (q := 28) dX6_pin_27 rfl rfl ?_
    refine ac_get (q := 31) dX6_pin_28 fl_X6_19 (by assumption) rfl (ac_rdr rfl hA9.1.2.2.1) ?_
    refine ac_iload_n (q := 32) dX6_pin_31 rfl rfl ?_
    refine ac_iload_n (q := 33) dX6_pin_32 rfl rfl ?_
    refine ac_cv (q := 36) (k_X3_setPin (t := x + 3) (x := a) (c := c) (d := d - 1) (by omega) hT0 A2.2.1 ⟨by omega, by omega⟩ ⟨by omega, by omega⟩) ml_X6_173 (by assumption) dX6_pin_33 rfl rfl rfl (by omega) (Nat.le_of_ble_eq_true rfl) (Nat.zero_le _) (Nat.zero_le _) (fun m3 h3 => ?_)
    obtain ⟨g3, f3⟩ := h3
    have A3 := ac_RA_t (T' := (T.1, T.2.1, T.2.2.1, ac_sp T.2.2.2.1 a (if 0 ≤ c ∧ c < (T.2.1 : Int) then c else -1), T.2.2.2.2)) A2 g3 f3
    refine ac_aload_n (q := 37) dX6_pin_36 rfl rfl ?_
    refine ac_aload_n (q := 38) dX6_pin_37 rfl rfl ?_
    refine ac_get (q := 41) dX6_pin_38 fl_X6_19 (by assumption) rfl (ac_rdr rfl hA9.1.2.2.1) ?_
    obtain ⟨Es, rCs⟩ := A3.2.2.2.2.2.1
    refine ac_cv (q := 44) (k_X6_settle (u := x + 3) (T := (T.1, T.2.1, T.2.2.1, ac_sp T.2.2.2.1 a (if 0 ≤ c ∧ c < (T.2.1 : Int) then c else -1), T.2.2.2.2)) (d := d - 1) (by omega) hA9 (Or.inl rfl) A3.2.1 A3.2.2.2.2.1 rCs) ml_X6_54 (by assumption) dX6_pin_41 rfl rfl rfl (by omega) (Nat.le_of_ble_eq_true rfl) (Nat.zero_le _) (Nat.zero_le _) (fun m4 h4 => ?_)
    obtain ⟨g4, gs4, gc4, f4⟩ := h4
    have A4 := ac_RA_re A3 g4 gs4 gc4 (fun k' a => f4 k' (by omega) (by omega))
    refine ac_ireturn dX6_pin_44 rfl (Nat.zero_le _) (Nat.zero_le _) ?_
    rw [if_pos h11, if_pos h11, if_pos h11]
    exact ⟨by unfold ac_t_pin; rw [ac_stl_same.2.2.2.2], rfl, A4, fun k' a => by rw [f4 k' (by omega) (by omega), f3 k' (by omega), f2 k' (by omega)]⟩
  · refine ac_iload_n (q := 15) dX6_pin_14 rfl rfl ?_
    refine ac_ireturn dX6_pin_15 rfl (Nat.zero_le _) (Nat.zero_le _) ?_
    rw [if_neg h11, if_neg h11, if_neg h11]; exact ⟨rfl, rfl, hR9, ac_fA_r mm x⟩

set_option maxHeartbeats 8000000 in
theorem k_X6_undo1 {G : ac_G} {Y : ac_Y} {mm : ac_M} {d x : Nat} {s : List Nat} {T : ac_Tk} {T1 : ac_Tk} {hs : List ac_Tk} {s0 s1 : Option ac_Tk} {obs : List ac_Ob} {ch : Int} (hd : 30 ≤ d) (hA : ac_isA Y x) (hR : ac_RA mm x s T (T1 :: hs) s0 s1 obs ch)  : ac_C G yX6_undo cX6_undo 1 (some .int) d 0 0 Y mm [(2, (x : Int))] (ac_R Y [(0, (hs.length : Int))] (fun m => ac_RA m x s T1 hs s0 s1 obs ch ∧ ac_fA mm m x)) := by
  have hA9 := hA
  obtain ⟨⟨kx, -⟩, hX, ⟨hT0, hT1, hT2, hT3⟩, ⟨ka, -, -, hS0, hS1⟩, hH, hW⟩ := hA
  have ktx := hX.1
  have kn0 := hT0.1
  have kn1 := hT1.1
  have kn2 := hT2.1
  have kn3 := hT3.1
  have kh := hH.1
  obtain ⟨⟨kw, -⟩, ⟨k14, k15, k16, k17⟩, hWS, hWC, hWT⟩ := id hW
  have kws := hWS.1
  have kwc := hWC.1
  have hR9 := hR
  obtain ⟨⟨p, rX⟩, rT, ⟨rs0, rs1⟩, rH, rS, ⟨E0, rC⟩, rc⟩ := hR
  obtain ⟨⟨⟨hn1, hn2⟩, ⟨hkk1, hkk2⟩, ⟨hE4, hE2⟩, hp0, hpr, hc0⟩, t3, t4, t5, t6, tE, tp, tcb, tc⟩ := id rT
  have hLn := ac_Lt_len T hn2
  refine ac_met (on := (RX6, "undo")) rfl rfl (Nat.le_of_ble_eq_true rfl) (ls := [(2, (x : Int))]) rfl ?_
  have hl14 := rH.1
  rw [List.length_cons] at hl14
  refine ac_aload_n (q := 1) dX6_undo_0 rfl rfl ?_
  refine ac_get (q := 4) dX6_undo_1 fl_X6_39 (by assumption) rfl (ac_rdr rfl hA9.1.2.2.2.2.2.2.2.1) ?_
  refine ac_aload_n (q := 5) dX6_undo_4 rfl rfl ?_
  refine ac_get (q := 8) dX6_undo_5 fl_X6_19 (by assumption) rfl (ac_rdr rfl hA9.1.2.2.1) ?_
  refine ac_cv (q := 11) (k_X1_restore1 (h := x + 28) (t := x + 3) (d := d - 1) (by omega) hH rH hT0 (by omega)) ml_X6_176 (by assumption) dX6_undo_8 rfl rfl rfl (by omega) (Nat.le_of_ble_eq_true rfl) (Nat.zero_le _) (Nat.zero_le _) (fun m1 h1 => ?_)
  obtain ⟨g1, g2, f1⟩ := h1
  have q2 := g1.2.1
  refine ac_if_eq (q := 14) (tgt := 24) dX6_undo_11 rfl rfl ⟨by omega, by omega⟩ (fun h11 => ?_) (fun h11 => ?_)
  · exact absurd h11 (by decide)
  · refine ac_aload_n (q := 15) dX6_undo_14 rfl rfl ?_
    refine ac_get (q := 18) dX6_undo_15 fl_X6_39 (by assumption) rfl (ac_rdr rfl hA9.1.2.2.2.2.2.2.2.1) ?_
    refine ac_get (q := 21) dX6_undo_18 fl_X6_180 kh rfl (ac_rdi rfl q2) ?_
    refine ac_goto (q := 26) dX6_undo_21 rfl ?_
    refine ac_ireturn dX6_undo_26 rfl (Nat.zero_le _) (Nat.zero_le _) ?_
    refine ⟨rfl, rfl, ?_, fun k' a => f1 k' (by omega) (by omega)⟩
    obtain ⟨-, -, ⟨u3, u4⟩, -, u6, ⟨Eu, u7⟩, u8⟩ := hR9
    exact ⟨⟨p, ac_RX_keep rX (f1 _ (by omega) (by omega)) (f1 _ (by omega) (by omega))⟩, g2, ⟨ac_sl_keep u3 (f1 _ (by omega) (by omega)) (f1 _ (by omega) (by omega)) (f1 _ (by omega) (by omega)) (f1 _ (by omega) (by omega)), ac_sl_keep u4 (f1 _ (by omega) (by omega)) (f1 _ (by omega) (by omega)) (f1 _ (by omega) (by omega)) (f1 _ (by omega) (by omega))⟩, g1, ac_RS_keep u6 (f1 _ (by omega) (by omega)) (f1 _ (by omega) (by omega)) (f1 _ (by omega) (by omega)), ⟨Eu, ac_RC_keep u7 (f1 _ (by omega) (by omega)) (f1 _ (by omega) (by omega)) (f1 _ (by omega) (by omega))⟩, by rw [f1 x (by omega) (by omega)]; exact u8⟩

set_option maxHeartbeats 8000000 in
theorem k_X6_undo0 {G : ac_G} {Y : ac_Y} {mm : ac_M} {d x : Nat} {s : List Nat} {T : ac_Tk} {T1 : ac_Tk} {hs : List ac_Tk} {s0 s1 : Option ac_Tk} {obs : List ac_Ob} {ch : Int} (hd : 30 ≤ d) (hA : ac_isA Y x) (hR : ac_RA mm x s T [] s0 s1 obs ch)  : ac_C G yX6_undo cX6_undo 1 (some .int) d 0 0 Y mm [(2, (x : Int))] (ac_R Y [(0, -3)] (fun m => ac_RA m x s T [] s0 s1 obs ch ∧ ac_fA mm m x)) := by
  have hA9 := hA
  obtain ⟨⟨kx, -⟩, hX, ⟨hT0, hT1, hT2, hT3⟩, ⟨ka, -, -, hS0, hS1⟩, hH, hW⟩ := hA
  have ktx := hX.1
  have kn0 := hT0.1
  have kn1 := hT1.1
  have kn2 := hT2.1
  have kn3 := hT3.1
  have kh := hH.1
  obtain ⟨⟨kw, -⟩, ⟨k14, k15, k16, k17⟩, hWS, hWC, hWT⟩ := id hW
  have kws := hWS.1
  have kwc := hWC.1
  have hR9 := hR
  obtain ⟨⟨p, rX⟩, rT, ⟨rs0, rs1⟩, rH, rS, ⟨E0, rC⟩, rc⟩ := hR
  obtain ⟨⟨⟨hn1, hn2⟩, ⟨hkk1, hkk2⟩, ⟨hE4, hE2⟩, hp0, hpr, hc0⟩, t3, t4, t5, t6, tE, tp, tcb, tc⟩ := id rT
  have hLn := ac_Lt_len T hn2
  refine ac_met (on := (RX6, "undo")) rfl rfl (Nat.le_of_ble_eq_true rfl) (ls := [(2, (x : Int))]) rfl ?_
  refine ac_aload_n (q := 1) dX6_undo_0 rfl rfl ?_
  refine ac_get (q := 4) dX6_undo_1 fl_X6_39 (by assumption) rfl (ac_rdr rfl hA9.1.2.2.2.2.2.2.2.1) ?_
  refine ac_aload_n (q := 5) dX6_undo_4 rfl rfl ?_
  refine ac_get (q := 8) dX6_undo_5 fl_X6_19 (by assumption) rfl (ac_rdr rfl hA9.1.2.2.1) ?_
  refine ac_cvp (q := 11) (k_X1_restore0 (h := x + 28) (t := x + 3) (T := T) (hs := []) (d := d - 1) (by omega) hH rH) ml_X6_176 (by assumption) dX6_undo_8 rfl rfl rfl (by omega) (Nat.le_of_ble_eq_true rfl) (Nat.zero_le _) (Nat.zero_le _) ?_
  refine ac_if_eq (q := 14) (tgt := 24) dX6_undo_11 rfl rfl ⟨by omega, by omega⟩ (fun h11 => ?_) (fun h11 => ?_)
  · refine ac_bipush (q := 26) dX6_undo_24 rfl (by decide) ?_
    refine ac_ireturn dX6_undo_26 rfl (Nat.zero_le _) (Nat.zero_le _) ?_
    exact ⟨rfl, rfl, hR9, ac_fA_r mm x⟩
  · exact absurd rfl h11
