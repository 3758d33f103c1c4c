set_option maxHeartbeats 8000000 in
theorem k_X6_power {G : ac_G} {Y : ac_Y} {mm : ac_M} {d : Nat} {a e : Nat} (hd : 1 ≤ d) (ha : a < 100) (he : e < 100) : ac_C G yX6_power cX6_power 5 (some .long) d 0 0 Y mm [(0, (a : Int)), (0, (e : Int))] (ac_R Y [(1, ((a ^ e : Nat) : Int))] (fun m => m = mm)) := by
  have loop : ∀ (r i : Nat), i + r = e → ac_V G (RX6, "power") cX6_power 5 (some .long) d 0 0 (ac_R Y [(1, ((a ^ e : Nat) : Int))] (fun m => m = mm)) 0 0 Y mm 5 [(0, (a : Int)), (0, (e : Int)), (1, ((a ^ i : Nat) : Int)), (3, 0), (0, (i : Int))] [] := by
    intro r
    induction r with
    | zero =>
      intro i hi
      obtain rfl : i = e := by omega
      refine ac_iload (q := 7) dX6_power_5 rfl rfl ?_
      refine ac_iload_n (q := 8) dX6_power_7 rfl rfl ?_
      refine ac_icmp_ge (q := 11) (tgt := 22) dX6_power_8 rfl rfl ⟨by omega, by omega⟩ ⟨by omega, by omega⟩ (fun h8 => ?_) (fun h8 => ?_)
      · refine ac_lload_n (q := 23) dX6_power_22 rfl rfl ?_
        refine ac_lreturn dX6_power_23 rfl (Nat.zero_le _) (Nat.zero_le _) ?_
        exact ⟨rfl, rfl, rfl⟩
      · exfalso; omega
    | succ r ih =>
      intro i hi
      have ei : ((i : Nat) : Int) + 1 = ((i + 1 : Nat) : Int) := rfl
      have hs := ih (i + 1) (by omega)
      rw [Nat.pow_succ, Int.natCast_mul] at hs
      refine ac_iload (q := 7) dX6_power_5 rfl rfl ?_
      refine ac_iload_n (q := 8) dX6_power_7 rfl rfl ?_
      refine ac_icmp_ge (q := 11) (tgt := 22) dX6_power_8 rfl rfl ⟨by omega, by omega⟩ ⟨by omega, by omega⟩ (fun h8 => ?_) (fun h8 => ?_)
      · exfalso; omega
      · refine ac_lload_n (q := 12) dX6_power_11 rfl rfl ?_
        refine ac_iload_n (q := 13) dX6_power_12 rfl rfl ?_
        refine ac_i2l (q := 14) dX6_power_13 rfl ⟨by omega, by omega⟩ ?_
        refine ac_lmul (q := 15) dX6_power_14 rfl ?_
        refine ac_lstore_n (q := 16) (j := 2) rfl dX6_power_15 rfl (Nat.le_of_ble_eq_true rfl) rfl rfl ?_
        simp only [List.set_cons_succ, List.set_cons_zero]
        refine ac_iinc (q := 19) dX6_power_16 rfl (Nat.le_of_ble_eq_true rfl) rfl rfl rfl rfl ?_
        simp only [List.set_cons_succ, List.set_cons_zero]
        refine ac_goto (q := 5) dX6_power_19 rfl ?_
        exact ac_ls (by rw [ei]) hs
  refine ac_met (on := (RX6, "power")) rfl rfl (Nat.le_of_ble_eq_true rfl) (ls := [(0, (a : Int)), (0, (e : Int)), (3, 0), (3, 0), (3, 0)]) rfl ?_
  refine ac_lconst (q := 1) (v := 1) dX6_power_0 rfl (by decide) ?_
  refine ac_lstore_n (q := 2) (j := 2) rfl dX6_power_1 rfl (Nat.le_of_ble_eq_true rfl) rfl rfl ?_
  simp only [List.set_cons_succ, List.set_cons_zero]
  refine ac_iconst (q := 3) dX6_power_2 rfl ?_
  refine ac_istore (q := 5) dX6_power_3 rfl (Nat.le_of_ble_eq_true rfl) rfl rfl ?_
  simp only [List.set_cons_succ, List.set_cons_zero]
  exact loop e 0 (by omega)

set_option maxHeartbeats 8000000 in
theorem k_X6_factorial {G : ac_G} {Y : ac_Y} {mm : ac_M} {d : Nat} {e : Nat} (hd : 1 ≤ d) (he : e < 100) : ac_C G yX6_factorial cX6_factorial 4 (some .long) d 0 0 Y mm [(0, (e : Int))] (ac_R Y [(1, ((ac_fac e : Nat) : Int))] (fun m => m = mm)) := by
  have loop : ∀ (r i : Nat), i + 1 + r = e → ac_V G (RX6, "factorial") cX6_factorial 4 (some .long) d 0 0 (ac_R Y [(1, ((ac_fac e : Nat) : Int))] (fun m => m = mm)) 0 0 Y mm 4 [(0, (e : Int)), (1, ((ac_fac (i + 1) : Nat) : Int)), (3, 0), (0, ((i + 2 : Nat) : Int))] [] := by
    intro r
    induction r with
    | zero =>
      intro i hi
      obtain rfl : i + 1 = e := by omega
      refine ac_iload_n (q := 5) dX6_factorial_4 rfl rfl ?_
      refine ac_iload_n (q := 6) dX6_factorial_5 rfl rfl ?_
      refine ac_icmp_gt (q := 9) (tgt := 20) dX6_factorial_6 rfl rfl ⟨by omega, by omega⟩ ⟨by omega, by omega⟩ (fun h6 => ?_) (fun h6 => ?_)
      · refine ac_lload_n (q := 21) dX6_factorial_20 rfl rfl ?_
        refine ac_lreturn dX6_factorial_21 rfl (Nat.zero_le _) (Nat.zero_le _) ?_
        exact ⟨rfl, rfl, rfl⟩
      · exfalso; omega
    | succ r ih =>
      intro i hi
      have ei : ((i + 2 : Nat) : Int) + 1 = ((i + 1 + 2 : Nat) : Int) := rfl
      have hs := ih (i + 1) (by omega)
      rw [ac_fac, Int.natCast_mul] at hs
      refine ac_iload_n (q := 5) dX6_factorial_4 rfl rfl ?_
      refine ac_iload_n (q := 6) dX6_factorial_5 rfl rfl ?_
      refine ac_icmp_gt (q := 9) (tgt := 20) dX6_factorial_6 rfl rfl ⟨by omega, by omega⟩ ⟨by omega, by omega⟩ (fun h6 => ?_) (fun h6 => ?_)
      · exfalso; omega
      · refine ac_lload_n (q := 10) dX6_factorial_9 rfl rfl ?_
        refine ac_iload_n (q := 11) dX6_factorial_10 rfl rfl ?_
        refine ac_i2l (q := 12) dX6_factorial_11 rfl ⟨by omega, by omega⟩ ?_
        refine ac_lmul (q := 13) dX6_factorial_12 rfl ?_
        refine ac_lstore_n (q := 14) (j := 1) rfl dX6_factorial_13 rfl (Nat.le_of_ble_eq_true rfl) rfl rfl ?_
        simp only [List.set_cons_succ, List.set_cons_zero]
        refine ac_iinc (q := 17) dX6_factorial_14 rfl (Nat.le_of_ble_eq_true rfl) rfl rfl rfl rfl ?_
        simp only [List.set_cons_succ, List.set_cons_zero]
        refine ac_goto (q := 4) dX6_factorial_17 rfl ?_
        exact ac_ls (by rw [ei]) hs
  refine ac_met (on := (RX6, "factorial")) rfl rfl (Nat.le_of_ble_eq_true rfl) (ls := [(0, (e : Int)), (3, 0), (3, 0), (3, 0)]) rfl ?_
  by_cases he0 : e = 0
  · subst he0
    refine ac_lconst (q := 1) (v := 1) dX6_factorial_0 rfl (by decide) ?_
    refine ac_lstore_n (q := 2) (j := 1) rfl dX6_factorial_1 rfl (Nat.le_of_ble_eq_true rfl) rfl rfl ?_
    simp only [List.set_cons_succ, List.set_cons_zero]
    refine ac_iconst (q := 3) dX6_factorial_2 rfl ?_
    refine ac_istore_n (q := 4) (j := 3) rfl dX6_factorial_3 rfl (Nat.le_of_ble_eq_true rfl) rfl rfl ?_
    simp only [List.set_cons_succ, List.set_cons_zero]
    refine ac_iload_n (q := 5) dX6_factorial_4 rfl rfl ?_
    refine ac_iload_n (q := 6) dX6_factorial_5 rfl rfl ?_
    refine ac_icmp_gt (q := 9) (tgt := 20) dX6_factorial_6 rfl rfl ⟨by omega, by omega⟩ ⟨by omega, by omega⟩ (fun h6 => ?_) (fun h6 => ?_)
    · refine ac_lload_n (q := 21) dX6_factorial_20 rfl rfl ?_
      refine ac_lreturn dX6_factorial_21 rfl (Nat.zero_le _) (Nat.zero_le _) ?_
      exact ⟨rfl, rfl, rfl⟩
    · exfalso; omega
  refine ac_lconst (q := 1) (v := 1) dX6_factorial_0 rfl (by decide) ?_
  refine ac_lstore_n (q := 2) (j := 1) rfl dX6_factorial_1 rfl (Nat.le_of_ble_eq_true rfl) rfl rfl ?_
  simp only [List.set_cons_succ, List.set_cons_zero]
  refine ac_iconst (q := 3) dX6_factorial_2 rfl ?_
  refine ac_istore_n (q := 4) (j := 3) rfl dX6_factorial_3 rfl (Nat.le_of_ble_eq_true rfl) rfl rfl ?_
  simp only [List.set_cons_succ, List.set_cons_zero]
  exact loop (e - 1) 0 (by omega)

set_option maxHeartbeats 8000000 in
theorem k_X6_fraction {G : ac_G} {Y : ac_Y} {mm : ac_M} {d : Nat} {a b : Nat} {up : Int} (hd : 1 ≤ d) (ha : a < 2 ^ 40) (hb : b < 2 ^ 40) (hb0 : 0 < b) (hup : ac_in up) : ac_C G yX6_fraction cX6_fraction 12 (some .int) d 0 0 Y mm [(1, (a : Int)), (1, (b : Int)), (0, up)] (ac_R Y [(0, ac_frac a b up)] (fun m => m = mm)) := by
  obtain ⟨hu1, hu2⟩ := hup
  have h40 : (2 : Nat) ^ 40 = 1099511627776 := by decide
  rw [h40] at ha hb
  have fin44 : ∀ (R i : Nat × Int), R.1 ≠ 0 → ac_V G (RX6, "fraction") cX6_fraction 12 (some .int) d 0 0 (ac_R Y [(0, ac_frac a b up)] (fun m => m = mm)) 0 0 Y mm 44 [(1, (a : Int)), (3, 0), (1, (b : Int)), (3, 0), (0, up), (1, ((Nat.gcd b a : Nat) : Int)), (3, 0), R, (3, 0), i, (3, 0), (3, 0)] [] := by
    intro R i hR
    have hg : 0 < Nat.gcd b a := Nat.gcd_pos_of_pos_left _ hb0
    have hgl : Nat.gcd b a ≤ b := Nat.gcd_le_left _ hb0
    generalize hgv : Nat.gcd b a = g at *
    refine ac_lload (q := 46) dX6_fraction_44 rfl rfl ?_
    refine ac_lconst (q := 47) (v := 0) dX6_fraction_46 rfl (by decide) ?_
    refine ac_lcmp (q := 48) dX6_fraction_47 rfl ⟨by omega, by omega⟩ ⟨by omega, by omega⟩ (fun v47 hv47 => ?_)
    refine ac_if_ne (q := 51) (tgt := 53) dX6_fraction_48 rfl rfl ⟨by omega, by omega⟩ (fun h48 => ?_) (fun h48 => ?_)
    · refine ac_iload (q := 55) dX6_fraction_53 rfl rfl ?_
      refine ac_if_eq (q := 58) (tgt := 62) dX6_fraction_55 rfl rfl ⟨by omega, by omega⟩ (fun h55 => ?_) (fun h55 => ?_)
      · refine ac_lload_n (q := 63) dX6_fraction_62 rfl rfl ?_
        refine ac_lload (q := 65) dX6_fraction_63 rfl rfl ?_
        refine ac_ldiv (q := 66) dX6_fraction_65 rfl ⟨by omega, by omega⟩ ⟨by omega, by omega⟩ (by omega) ?_
        rw [← Int.ofNat_tdiv]
        refine ac_l2i (q := 67) dX6_fraction_66 rfl ?_
        refine ac_ireturn dX6_fraction_67 rfl (Nat.zero_le _) (Nat.zero_le _) ?_
        unfold ac_frac
        rw [hgv]
        first
          | exact ⟨by rw [if_pos (by omega)], rfl, rfl⟩
          | exact ⟨by rw [if_neg (by omega)], rfl, rfl⟩
      · refine ac_lload_n (q := 59) dX6_fraction_58 rfl rfl ?_
        refine ac_goto (q := 63) dX6_fraction_59 rfl ?_
        refine ac_lload (q := 65) dX6_fraction_63 rfl rfl ?_
        refine ac_ldiv (q := 66) dX6_fraction_65 rfl ⟨by omega, by omega⟩ ⟨by omega, by omega⟩ (by omega) ?_
        rw [← Int.ofNat_tdiv]
        refine ac_l2i (q := 67) dX6_fraction_66 rfl ?_
        refine ac_ireturn dX6_fraction_67 rfl (Nat.zero_le _) (Nat.zero_le _) ?_
        unfold ac_frac
        rw [hgv]
        first
          | exact ⟨by rw [if_pos (by omega)], rfl, rfl⟩
          | exact ⟨by rw [if_neg (by omega)], rfl, rfl⟩
    · exfalso; omega
  have loop : ∀ (f i D R : Nat), i + f = 100 → D < 1099511627776 → R < 1099511627776 → ac_euc f D R = Nat.gcd b a → ac_V G (RX6, "fraction") cX6_fraction 12 (some .int) d 0 0 (ac_R Y [(0, ac_frac a b up)] (fun m => m = mm)) 0 0 Y mm 9 [(1, (a : Int)), (3, 0), (1, (b : Int)), (3, 0), (0, up), (1, ((D : Nat) : Int)), (3, 0), (1, ((R : Nat) : Int)), (3, 0), (0, (i : Int)), (3, 0), (3, 0)] [] := by
    intro f
    induction f with
    | zero =>
      intro i D R hi hD hR he
      obtain rfl : i = 100 := by omega
      rw [ac_euc] at he
      subst he
      refine ac_iload (q := 11) dX6_fraction_9 rfl rfl ?_
      refine ac_bipush (q := 13) dX6_fraction_11 rfl (by decide) ?_
      refine ac_icmp_ge (q := 16) (tgt := 44) dX6_fraction_13 rfl rfl ⟨by omega, by omega⟩ ⟨by omega, by omega⟩ (fun h13 => ?_) (fun h13 => ?_)
      · exact fin44 _ _ (show (1 : Nat) ≠ 0 by decide)
      · exfalso; omega
    | succ f ih =>
      intro i D R hi hD hR he
      have ei : ((i : Nat) : Int) + 1 = ((i + 1 : Nat) : Int) := rfl
      rw [ac_euc] at he
      refine ac_iload (q := 11) dX6_fraction_9 rfl rfl ?_
      refine ac_bipush (q := 13) dX6_fraction_11 rfl (by decide) ?_
      refine ac_icmp_ge (q := 16) (tgt := 44) dX6_fraction_13 rfl rfl ⟨by omega, by omega⟩ ⟨by omega, by omega⟩ (fun h13 => ?_) (fun h13 => ?_)
      · exfalso; omega
      · refine ac_lload (q := 18) dX6_fraction_16 rfl rfl ?_
        refine ac_lconst (q := 19) (v := 0) dX6_fraction_18 rfl (by decide) ?_
        refine ac_lcmp (q := 20) dX6_fraction_19 rfl ⟨by omega, by omega⟩ ⟨by omega, by omega⟩ (fun v19 hv19 => ?_)
        refine ac_if_eq (q := 23) (tgt := 44) dX6_fraction_20 rfl rfl ⟨by omega, by omega⟩ (fun h20 => ?_) (fun h20 => ?_)
        · rw [if_pos (by omega)] at he
          subst he
          exact fin44 _ _ (show (1 : Nat) ≠ 0 by decide)
        · rw [if_neg (by omega)] at he
          have hml := Nat.mod_lt D (show R > 0 by omega)
          refine ac_lload (q := 25) dX6_fraction_23 rfl rfl ?_
          refine ac_lload (q := 27) dX6_fraction_25 rfl rfl ?_
          refine ac_lrem (q := 28) dX6_fraction_27 rfl ⟨by omega, by omega⟩ ⟨by omega, by omega⟩ (by omega) ?_
          refine ac_top (w' := (1, ((D % R : Nat) : Int))) (congrArg (fun z => ((1 : Nat), z)) (by rw [Int.ofNat_tmod])) ?_
          refine ac_lstore (q := 30) dX6_fraction_28 rfl (Nat.le_of_ble_eq_true rfl) rfl rfl ?_
          simp only [List.set_cons_succ, List.set_cons_zero]
          refine ac_lload (q := 32) dX6_fraction_30 rfl rfl ?_
          refine ac_lstore (q := 34) dX6_fraction_32 rfl (Nat.le_of_ble_eq_true rfl) rfl rfl ?_
          simp only [List.set_cons_succ, List.set_cons_zero]
          refine ac_lload (q := 36) dX6_fraction_34 rfl rfl ?_
          refine ac_lstore (q := 38) dX6_fraction_36 rfl (Nat.le_of_ble_eq_true rfl) rfl rfl ?_
          simp only [List.set_cons_succ, List.set_cons_zero]
          refine ac_iinc (q := 41) dX6_fraction_38 rfl (Nat.le_of_ble_eq_true rfl) rfl rfl rfl rfl ?_
          simp only [List.set_cons_succ, List.set_cons_zero]
          refine ac_goto (q := 9) dX6_fraction_41 rfl ?_
          refine ac_drop [(1, (a : Int)), (3, 0), (1, (b : Int)), (3, 0), (0, up), (1, ((R : Nat) : Int)), (3, 0), (1, ((D % R : Nat) : Int)), (3, 0), (0, (i : Int) + 1), (3, 0), (3, 0)] (by repeat (first | exact trivial | refine ⟨Or.inl rfl, ?_⟩ | refine ⟨Or.inr rfl, ?_⟩)) ?_
          exact ac_ls (by rw [ei]) (ih (i + 1) R (D % R) (by omega) hR (by omega) he)
  refine ac_met (on := (RX6, "fraction")) rfl rfl (Nat.le_of_ble_eq_true rfl) (ls := [(1, (a : Int)), (3, 0), (1, (b : Int)), (3, 0), (0, up), (3, 0), (3, 0), (3, 0), (3, 0), (3, 0), (3, 0), (3, 0)]) rfl ?_
  refine ac_lload_n (q := 1) dX6_fraction_0 rfl rfl ?_
  refine ac_lstore (q := 3) dX6_fraction_1 rfl (Nat.le_of_ble_eq_true rfl) rfl rfl ?_
  simp only [List.set_cons_succ, List.set_cons_zero]
  refine ac_lload_n (q := 4) dX6_fraction_3 rfl rfl ?_
  refine ac_lstore (q := 6) dX6_fraction_4 rfl (Nat.le_of_ble_eq_true rfl) rfl rfl ?_
  simp only [List.set_cons_succ, List.set_cons_zero]
  refine ac_iconst (q := 7) dX6_fraction_6 rfl ?_
  refine ac_istore (q := 9) dX6_fraction_7 rfl (Nat.le_of_ble_eq_true rfl) rfl rfl ?_
  simp only [List.set_cons_succ, List.set_cons_zero]
  exact loop 100 0 b a rfl hb ha (ac_euc_gcd (by rw [h40]; exact ha) (by decide))

set_option maxHeartbeats 8000000 in
theorem k_X6_luck {G : ac_G} {Y : ac_Y} {mm : ac_M} {d x : Nat} {s : List Nat} {T : ac_Tk} {hs : List ac_Tk} {s0 s1 : Option ac_Tk} {obs : List ac_Ob} {ch : Int} {up : Int} (hd : 30 ≤ d) (hA : ac_isA Y x) (hR : ac_RA mm x s T hs s0 s1 obs ch) (hup : ac_in up) : ac_C G yX6_luck cX6_luck 2 (some .int) d 0 0 Y mm [(2, (x : Int)), (0, up)] (ac_R Y [(0, ac_an_luck T up)] (fun m => ac_RA m x s T hs s0 s1 obs ch ∧ ac_fA mm m x)) := by
  have hA9 := hA
  obtain ⟨⟨kx, -⟩, hX, ⟨hT0, hT1, hT2, hT3⟩, ⟨ka, -, -, hS0, hS1⟩, hH, hW⟩ := hA
  have ktx := hX.1
  have kn0 := hT0.1
  have kn1 := hT1.1
  have kn2 := hT2.1
  have kn3 := hT3.1
  have kh := hH.1
  obtain ⟨⟨kw, -⟩, ⟨k14, k15, k16, k17⟩, hWS, hWC, hWT⟩ := id hW
  have kws := hWS.1
  have kwc := hWC.1
  have hR9 := hR
  obtain ⟨⟨p, rX⟩, rT, ⟨rs0, rs1⟩, rH, rS, ⟨E0, rC⟩, rc⟩ := hR
  obtain ⟨⟨⟨hn1, hn2⟩, ⟨hkk1, hkk2⟩, ⟨hE4, hE2⟩, hp0, hpr, hc0⟩, t3, t4, t5, t6, tE, tp, tcb, tc⟩ := id rT
  have hLn := ac_Lt_len T hn2
  have hkp : T.2.1 ^ T.1 ≤ 59049 := Nat.le_trans (Nat.pow_le_pow_left hkk2 T.1) (Nat.pow_le_pow_right (n := 3) (by decide) hn2)
  have hkp0 : 0 < T.2.1 ^ T.1 := Nat.pow_pos (by omega)
  have h40 : (2 : Nat) ^ 40 = 1099511627776 := by decide
  refine ac_met (on := (RX6, "luck")) rfl rfl (Nat.le_of_ble_eq_true rfl) (ls := [(2, (x : Int)), (0, up)]) rfl ?_
  refine ac_aload_n (q := 1) dX6_luck_0 rfl rfl ?_
  refine ac_get (q := 4) dX6_luck_1 fl_X6_46 (by assumption) rfl (ac_rdr rfl hA9.1.2.2.2.2.2.2.2.2) ?_
  refine ac_aload_n (q := 5) dX6_luck_4 rfl rfl ?_
  refine ac_get (q := 8) dX6_luck_5 fl_X6_19 (by assumption) rfl (ac_rdr rfl hA9.1.2.2.1) ?_
  refine ac_iconst (q := 9) dX6_luck_8 rfl ?_
  refine ac_cv (q := 12) (k_X5_survey (d := d - 1) (w := x + 86) (t := x + 3) (wanted := 0) (by omega) hW ⟨by decide, by decide⟩ rC rS hT0 rT (by omega)) ml_X6_113 (by assumption) dX6_luck_9 rfl rfl rfl (by omega) (Nat.le_of_ble_eq_true rfl) (Nat.zero_le _) (Nat.zero_le _) (fun m1 h1 => ?_)
  obtain ⟨w1, R1, f1⟩ := h1
  have R1 : ac_RW m1 (x + 86) T.2.2.2.2 obs 0 (ac_Lt T) (ac_cb (ac_Lt T)) (ac_dead (ac_may T.2.1 T.2.2.1 T.2.2.2.1) T.1 []) (ac_deep (ac_may T.2.1 T.2.2.1 T.2.2.2.1) T.1 []) := R1
  have A1 := ac_RA_w hR9 w1.2.2 ⟨_, w1.2.1⟩ (fun k' a => f1 k' (by omega))
  have e3 : m1 (x + 3) 3 = (T.1 : Int) := A1.2.1.2.1
  have e4 : m1 (x + 3) 4 = (T.2.1 : Int) := A1.2.1.2.2.1
  refine ac_aload_n (q := 13) dX6_luck_12 rfl rfl ?_
  refine ac_get (q := 16) dX6_luck_13 fl_X6_46 (by assumption) rfl (ac_rdr rfl hA9.1.2.2.2.2.2.2.2.2) ?_
  refine ac_get (q := 19) dX6_luck_16 fl_X6_123 kw rfl (ac_rdi rfl R1.1.2.1) ?_
  refine ac_i2l (q := 20) dX6_luck_19 rfl ⟨by omega, by omega⟩ ?_
  refine ac_aload_n (q := 21) dX6_luck_20 rfl rfl ?_
  refine ac_get (q := 24) dX6_luck_21 fl_X6_19 (by assumption) rfl (ac_rdr rfl hA9.1.2.2.1) ?_
  refine ac_get (q := 27) dX6_luck_24 fl_X6_202 kn0 rfl (ac_rdi rfl e4) ?_
  refine ac_aload_n (q := 28) dX6_luck_27 rfl rfl ?_
  refine ac_get (q := 31) dX6_luck_28 fl_X6_19 (by assumption) rfl (ac_rdr rfl hA9.1.2.2.1) ?_
  refine ac_get (q := 34) dX6_luck_31 fl_X6_141 kn0 rfl (ac_rdi rfl e3) ?_
  refine ac_csp (q := 37) (k_X6_power (d := d - 1) (by omega) (by omega) (by omega)) ml_X6_262 dX6_luck_34 rfl rfl rfl (by omega) (Nat.le_of_ble_eq_true rfl) (Nat.zero_le _) (Nat.zero_le _) ?_
  refine ac_iload_n (q := 38) dX6_luck_37 rfl rfl ?_
  refine ac_csp (q := 41) (k_X6_fraction (a := (ac_Lt T).length) (b := T.2.1 ^ T.1) (d := d - 1) (by omega) (by rw [h40]; omega) (by rw [h40]; omega) hkp0 hup) ml_X6_258 dX6_luck_38 rfl rfl rfl (by omega) (Nat.le_of_ble_eq_true rfl) (Nat.zero_le _) (Nat.zero_le _) ?_
  refine ac_ireturn dX6_luck_41 rfl (Nat.zero_le _) (Nat.zero_le _) ?_
  exact ⟨rfl, rfl, A1, fun k' a => f1 k' (by omega)⟩

set_option maxHeartbeats 8000000 in
theorem k_X6_share {G : ac_G} {Y : ac_Y} {mm : ac_M} {d x : Nat} {s : List Nat} {T : ac_Tk} {hs : List ac_Tk} {s0 s1 : Option ac_Tk} {obs : List ac_Ob} {ch : Int} {e up : Int} (hd : 30 ≤ d) (hA : ac_isA Y x) (hR : ac_RA mm x s T hs s0 s1 obs ch) (he : ac_in e) (hup : ac_in up) : ac_C G yX6_share cX6_share 10 (some .int) d 0 0 Y mm [(2, (x : Int)), (0, e), (0, up)] (ac_R Y [(0, ac_an_share T e up)] (fun m => ac_RA m x s T hs s0 s1 obs ch ∧ ac_fA mm m x)) := by
  have hA9 := hA
  obtain ⟨⟨kx, -⟩, hX, ⟨hT0, hT1, hT2, hT3⟩, ⟨ka, -, -, hS0, hS1⟩, hH, hW⟩ := hA
  have ktx := hX.1
  have kn0 := hT0.1
  have kn1 := hT1.1
  have kn2 := hT2.1
  have kn3 := hT3.1
  have kh := hH.1
  obtain ⟨⟨kw, -⟩, ⟨k14, k15, k16, k17⟩, hWS, hWC, hWT⟩ := id hW
  have kws := hWS.1
  have kwc := hWC.1
  have hR9 := hR
  obtain ⟨⟨p, rX⟩, rT, ⟨rs0, rs1⟩, rH, rS, ⟨E0, rC⟩, rc⟩ := hR
  obtain ⟨⟨⟨hn1, hn2⟩, ⟨hkk1, hkk2⟩, ⟨hE4, hE2⟩, hp0, hpr, hc0⟩, t3, t4, t5, t6, tE, tp, tcb, tc⟩ := id rT
  have hLn := ac_Lt_len T hn2
  obtain ⟨he1, he2⟩ := he
  have h40 : (2 : Nat) ^ 40 = 1099511627776 := by decide
  refine ac_met (on := (RX6, "share")) rfl rfl (Nat.le_of_ble_eq_true rfl) (ls := [(2, (x : Int)), (0, e), (0, up), (3, 0), (3, 0), (3, 0), (3, 0), (3, 0), (3, 0), (3, 0)]) rfl ?_
  refine ac_aload_n (q := 1) dX6_share_0 rfl rfl ?_
  refine ac_get (q := 4) dX6_share_1 fl_X6_19 (by assumption) rfl (ac_rdr rfl hA9.1.2.2.1) ?_
  refine ac_iload_n (q := 5) dX6_share_4 rfl rfl ?_
  refine ac_cvp (q := 8) (k_X3_hasEquation (t := x + 3) (d := d - 1) (by omega) hT0 rT ⟨by omega, by omega⟩) ml_X6_83 (by assumption) dX6_share_5 rfl rfl rfl (by omega) (Nat.le_of_ble_eq_true rfl) (Nat.zero_le _) (Nat.zero_le _) ?_
  refine ac_bif_ne (q := 11) (tgt := 13) dX6_share_8 rfl rfl (fun h8 => ?_) (fun h8 => ?_)
  · obtain ⟨e, rfl⟩ := Int.eq_ofNat_of_zero_le (a := e) (by omega)
    have hans : ac_an_share T (e : Int) up = ac_frac (ac_shv T e) (ac_fac T.2.2.1.length) up := by unfold ac_an_share; rw [if_neg (by omega), Int.toNat_natCast]
    refine ac_aload_n (q := 14) dX6_share_13 rfl rfl ?_
    refine ac_get (q := 17) dX6_share_14 fl_X6_46 (by assumption) rfl (ac_rdr rfl hA9.1.2.2.2.2.2.2.2.2) ?_
    refine ac_aload_n (q := 18) dX6_share_17 rfl rfl ?_
    refine ac_get (q := 21) dX6_share_18 fl_X6_19 (by assumption) rfl (ac_rdr rfl hA9.1.2.2.1) ?_
    refine ac_cv (q := 24) (k_X5_tally (w := x + 86) (t := x + 3) (d := d - 1) (by omega) hW rC rS hT0 rT (by omega)) ml_X6_243 (by assumption) dX6_share_21 rfl rfl rfl (by omega) (Nat.le_of_ble_eq_true rfl) (Nat.zero_le _) (Nat.zero_le _) (fun m1 h1 => ?_)
    obtain ⟨w1, hta, f1⟩ := h1
    have A1 := ac_RA_w hR9 w1.2.2 ⟨_, w1.2.1⟩ (fun k' a => f1 k' (by omega))
    have e5 : m1 (x + 3) 5 = (T.2.2.1.length : Int) := A1.2.1.2.2.2.1
    have h2l : 2 ^ T.2.2.1.length ≤ 16 := Nat.pow_le_pow_right (n := 2) (by decide) hE4
    have hbd := ac_bits_d T.2.2.1.length hE4
    refine ac_aload_n (q := 25) dX6_share_24 rfl rfl ?_
    refine ac_get (q := 28) dX6_share_25 fl_X6_19 (by assumption) rfl (ac_rdr rfl hA9.1.2.2.1) ?_
    refine ac_get (q := 31) dX6_share_28 fl_X6_164 kn0 rfl (ac_rdi rfl e5) ?_
    refine ac_istore_n (q := 32) (j := 3) rfl dX6_share_31 rfl (Nat.le_of_ble_eq_true rfl) rfl rfl ?_
    simp only [List.set_cons_succ, List.set_cons_zero]
    refine ac_lconst (q := 33) (v := 0) dX6_share_32 rfl (by decide) ?_
    refine ac_lstore (q := 35) dX6_share_33 rfl (Nat.le_of_ble_eq_true rfl) rfl rfl ?_
    simp only [List.set_cons_succ, List.set_cons_zero]
    refine ac_iconst (q := 36) dX6_share_35 rfl ?_
    refine ac_istore (q := 38) dX6_share_36 rfl (Nat.le_of_ble_eq_true rfl) rfl rfl ?_
    simp only [List.set_cons_succ, List.set_cons_zero]
    have loop : ∀ (r i : Nat), i + r = 2 ^ T.2.2.1.length → ac_V G (RX6, "share") cX6_share 10 (some .int) d 0 0 (ac_R Y [(0, ac_an_share T e up)] (fun m => ac_RA m x s T hs s0 s1 obs ch ∧ ac_fA mm m x)) 0 0 Y m1 38 [(2, (x : Int)), (0, (e : Int)), (0, up), (0, (T.2.2.1.length : Int)), (1, ((ac_sm (ac_shg T e) i : Nat) : Int)), (3, 0), (0, ((i : Nat) : Int)), (3, 0), (3, 0), (3, 0)] [] := by
      intro r
      induction r with
      | zero =>
        intro i hi
        obtain rfl : i = 2 ^ T.2.2.1.length := by omega
        have hsb : ac_sm (ac_shg T e) (2 ^ T.2.2.1.length) ≤ 16 * (24 * 24 * 59049) := Nat.le_trans (ac_sm_bound2 _ (fun j hj => ac_shg_le T e j hn2 (by have := (hbd j hj).1; omega) hE4)) (Nat.mul_le_mul_right _ h2l)
        have hfp := ac_fac_pos T.2.2.1.length hE4
        have hfl := ac_fac_le T.2.2.1.length hE4
        refine ac_iload (q := 40) dX6_share_38 rfl rfl ?_
        refine ac_iconst (q := 41) dX6_share_40 rfl ?_
        refine ac_iload_n (q := 42) dX6_share_41 rfl rfl ?_
        refine ac_ishl1 (q := 43) (k := T.2.2.1.length) dX6_share_42 rfl (by omega) ?_
        refine ac_icmp_ge (q := 46) (tgt := 117) dX6_share_43 rfl rfl (ac_nin (by omega)) (ac_nin (by omega)) (fun h43 => ?_) (fun h43 => ?_)
        · refine ac_lload (q := 119) dX6_share_117 rfl rfl ?_
          refine ac_iload_n (q := 120) dX6_share_119 rfl rfl ?_
          refine ac_csp (q := 123) (k_X6_factorial (d := d - 1) (by omega) (by omega)) ml_X6_251 dX6_share_120 rfl rfl rfl (by omega) (Nat.le_of_ble_eq_true rfl) (Nat.zero_le _) (Nat.zero_le _) ?_
          refine ac_iload_n (q := 124) dX6_share_123 rfl rfl ?_
          refine ac_csp (q := 127) (k_X6_fraction (a := ac_shv T e) (b := ac_fac T.2.2.1.length) (d := d - 1) (by omega) (by rw [h40]; show ac_sm _ _ < _; omega) (by rw [h40]; omega) (by omega) hup) ml_X6_258 dX6_share_124 rfl rfl rfl (by omega) (Nat.le_of_ble_eq_true rfl) (Nat.zero_le _) (Nat.zero_le _) ?_
          refine ac_ireturn dX6_share_127 rfl (Nat.zero_le _) (Nat.zero_le _) ?_
          rw [hans]; exact ⟨rfl, rfl, A1, fun k' a => f1 k' (by omega)⟩
        · exact absurd h43 (Int.lt_irrefl _)
      | succ r ih =>
        intro i hi
        have ei : ((i : Nat) : Int) + 1 = ((i + 1 : Nat) : Int) := rfl
        have hs := ih (i + 1) (by omega)
        obtain ⟨hb1, hb2⟩ := hbd i (by omega)
        have hidiv : i / 2 ^ e ≤ i := Nat.div_le_self _ _
        have hmo := ac_NS_mono T i (2 ^ e) hkk2 hE4
        have hNl := ac_NS_le T i hn2
        refine ac_iload (q := 40) dX6_share_38 rfl rfl ?_
        refine ac_iconst (q := 41) dX6_share_40 rfl ?_
        refine ac_iload_n (q := 42) dX6_share_41 rfl rfl ?_
        refine ac_ishl1 (q := 43) (k := T.2.2.1.length) dX6_share_42 rfl (by omega) ?_
        refine ac_icmp_ge (q := 46) (tgt := 117) dX6_share_43 rfl rfl ⟨by omega, by omega⟩ ⟨by omega, by omega⟩ (fun h43 => ?_) (fun h43 => ?_)
        · exfalso; omega
        · refine ac_iload (q := 48) dX6_share_46 rfl rfl ?_
          refine ac_iload_n (q := 49) dX6_share_48 rfl rfl ?_
          refine ac_ishrN (q := 50) (k := e) dX6_share_49 rfl (by omega) (by omega) ?_
          refine ac_iconst (q := 51) dX6_share_50 rfl ?_
          refine ac_iand (q := 52) (b := 1) dX6_share_51 rfl ?_
          refine ac_top (w' := (0, (((i.testBit e).toNat : Nat) : Int))) (by rw [ac_bit1]) ?_
          refine ac_if_ne (q := 55) (tgt := 111) dX6_share_52 rfl rfl (ac_tn_in _) (fun h52 => ?_) (fun h52 => ?_)
          · have hbt := ac_tn1 h52
            have hsg : ac_sm (ac_shg T e) (i + 1) = ac_sm (ac_shg T e) i := by rw [ac_sm, ac_shg, if_pos hbt]; rfl
            rw [hsg] at hs
            refine ac_iinc (q := 114) dX6_share_111 rfl (Nat.le_of_ble_eq_true rfl) rfl rfl rfl rfl ?_
            simp only [List.set_cons_succ, List.set_cons_zero]
            refine ac_goto (q := 38) dX6_share_114 rfl ?_
            exact ac_ls (by rw [ei]) hs
          · have hbt := ac_tn0 h52
            have hsg : ((ac_sm (ac_shg T e) (i + 1) : Nat) : Int) = ((ac_sm (ac_shg T e) i : Nat) : Int) + ((ac_fac (ac_bits i) : Nat) : Int) * ((ac_fac (T.2.2.1.length - 1 - ac_bits i) : Nat) : Int) * (((ac_NS T i : Nat) : Int) - ((ac_NS T (i ||| 2 ^ e) : Nat) : Int)) := by
              rw [ac_sm, ac_shg, if_neg (by rw [hbt]; decide), Int.natCast_add, Int.natCast_mul, Int.natCast_mul, Int.ofNat_sub hmo]
            refine ac_iload (q := 57) dX6_share_55 rfl rfl ?_
            refine ac_csp (q := 60) (k_bits (d := d - 1) (by omega) (by omega)) ml_X6_246 dX6_share_57 rfl rfl rfl (by omega) (Nat.le_of_ble_eq_true rfl) (Nat.zero_le _) (Nat.zero_le _) ?_
            refine ac_istore (q := 62) dX6_share_60 rfl (Nat.le_of_ble_eq_true rfl) rfl rfl ?_
            simp only [List.set_cons_succ, List.set_cons_zero]
            refine ac_iload (q := 64) dX6_share_62 rfl rfl ?_
            refine ac_csp (q := 67) (k_X6_factorial (d := d - 1) (by omega) (by omega)) ml_X6_251 dX6_share_64 rfl rfl rfl (by omega) (Nat.le_of_ble_eq_true rfl) (Nat.zero_le _) (Nat.zero_le _) ?_
            refine ac_iload_n (q := 68) dX6_share_67 rfl rfl ?_
            refine ac_iconst (q := 69) dX6_share_68 rfl ?_
            refine ac_isub (q := 70) dX6_share_69 rfl ?_
            refine ac_iload (q := 72) dX6_share_70 rfl rfl ?_
            refine ac_isub (q := 73) dX6_share_72 rfl ?_
            refine ac_top (w' := (0, ((T.2.2.1.length - 1 - ac_bits i : Nat) : Int))) (congrArg (fun z : Int => ((0 : Nat), z)) (by have := hb2 e (by omega) hbt; omega)) ?_
            refine ac_csp (q := 76) (k_X6_factorial (d := d - 1) (by omega) (by omega)) ml_X6_251 dX6_share_73 rfl rfl rfl (by omega) (Nat.le_of_ble_eq_true rfl) (Nat.zero_le _) (Nat.zero_le _) ?_
            refine ac_lmul (q := 77) dX6_share_76 rfl ?_
            refine ac_lstore (q := 79) dX6_share_77 rfl (Nat.le_of_ble_eq_true rfl) rfl rfl ?_
            simp only [List.set_cons_succ, List.set_cons_zero]
            refine ac_lload (q := 81) dX6_share_79 rfl rfl ?_
            refine ac_lload (q := 83) dX6_share_81 rfl rfl ?_
            refine ac_aload_n (q := 84) dX6_share_83 rfl rfl ?_
            refine ac_get (q := 87) dX6_share_84 fl_X6_46 (by assumption) rfl (ac_rdr rfl hA9.1.2.2.2.2.2.2.2.2) ?_
            refine ac_iload (q := 89) dX6_share_87 rfl rfl ?_
            refine ac_cvp (q := 92) (k_X5_heeding (w := x + 86) (e := i) (t := ac_tl T.2.2.1 (ac_ext (ac_pinA T.2.1 T.2.2.2.1) T.1 [])) (d := d - 1) (by omega) hW hta) ml_X6_255 (by assumption) dX6_share_89 rfl rfl rfl (by omega) (Nat.le_of_ble_eq_true rfl) (Nat.zero_le _) (Nat.zero_le _) ?_
            refine ac_top (w' := (0, ((ac_NS T (i) : Nat) : Int))) (by rw [ac_NS_hs T _ hkk2 hE4]) ?_
            refine ac_aload_n (q := 93) dX6_share_92 rfl rfl ?_
            refine ac_get (q := 96) dX6_share_93 fl_X6_46 (by assumption) rfl (ac_rdr rfl hA9.1.2.2.2.2.2.2.2.2) ?_
            refine ac_iload (q := 98) dX6_share_96 rfl rfl ?_
            refine ac_iconst (q := 99) dX6_share_98 rfl ?_
            refine ac_iload_n (q := 100) dX6_share_99 rfl rfl ?_
            refine ac_ishl1 (q := 101) (k := e) dX6_share_100 rfl (by omega) ?_
            refine ac_ior (q := 102) dX6_share_101 rfl ?_
            refine ac_cvp (q := 105) (k_X5_heeding (w := x + 86) (e := i ||| 2 ^ e) (t := ac_tl T.2.2.1 (ac_ext (ac_pinA T.2.1 T.2.2.2.1) T.1 [])) (d := d - 1) (by omega) hW hta) ml_X6_255 (by assumption) dX6_share_102 rfl rfl rfl (by omega) (Nat.le_of_ble_eq_true rfl) (Nat.zero_le _) (Nat.zero_le _) ?_
            refine ac_top (w' := (0, ((ac_NS T (i ||| 2 ^ e) : Nat) : Int))) (by rw [ac_NS_hs T _ hkk2 hE4]) ?_
            refine ac_isub (q := 106) dX6_share_105 rfl ?_
            refine ac_i2l (q := 107) dX6_share_106 rfl ⟨by omega, by omega⟩ ?_
            refine ac_lmul (q := 108) dX6_share_107 rfl ?_
            refine ac_ladd (q := 109) dX6_share_108 rfl ?_
            refine ac_lstore (q := 111) dX6_share_109 rfl (Nat.le_of_ble_eq_true rfl) rfl rfl ?_
            simp only [List.set_cons_succ, List.set_cons_zero]
            refine ac_iinc (q := 114) dX6_share_111 rfl (Nat.le_of_ble_eq_true rfl) rfl rfl rfl rfl ?_
            simp only [List.set_cons_succ, List.set_cons_zero]
            refine ac_goto (q := 38) dX6_share_114 rfl ?_
            rw [hsg] at hs
            refine ac_drop [(2, (x : Int)), (0, (e : Int)), (0, up), (0, (T.2.2.1.length : Int)), (1, _), (3, 0), (0, (i : Int) + 1), (3, 0), (3, 0), (3, 0)] (by repeat (first | exact trivial | refine ⟨Or.inl rfl, ?_⟩ | refine ⟨Or.inr rfl, ?_⟩)) ?_
            exact ac_ls (by rw [ei]) hs
    exact loop (2 ^ T.2.2.1.length) 0 (by omega)
  · refine ac_iconst (q := 12) dX6_share_11 rfl ?_
    refine ac_ireturn dX6_share_12 rfl (Nat.zero_le _) (Nat.zero_le _) ?_
    unfold ac_an_share; rw [if_pos (by omega)]; exact ⟨rfl, rfl, hR9, ac_fA_r mm x⟩

set_option maxHeartbeats 8000000 in
theorem k_X6_lost {G : ac_G} {Y : ac_Y} {mm : ac_M} {d x : Nat} {s : List Nat} {T : ac_Tk} {hs : List ac_Tk} {s0 s1 : Option ac_Tk} {obs : List ac_Ob} {ch : Int} {a up : Int} (hd : 30 ≤ d) (hA : ac_isA Y x) (hR : ac_RA mm x s T hs s0 s1 obs ch) (ha : ac_in a) (hup : ac_in up) : ac_C G yX6_lost cX6_lost 8 (some .int) d 0 0 Y mm [(2, (x : Int)), (0, a), (0, up)] (ac_R Y [(0, ac_an_lost T a up)] (fun m => ac_RA m x s T hs s0 s1 obs ch ∧ ac_fA mm m x)) := by
  have hA9 := hA
  obtain ⟨⟨kx, -⟩, hX, ⟨hT0, hT1, hT2, hT3⟩, ⟨ka, -, -, hS0, hS1⟩, hH, hW⟩ := hA
  have ktx := hX.1
  have kn0 := hT0.1
  have kn1 := hT1.1
  have kn2 := hT2.1
  have kn3 := hT3.1
  have kh := hH.1
  obtain ⟨⟨kw, -⟩, ⟨k14, k15, k16, k17⟩, hWS, hWC, hWT⟩ := id hW
  have kws := hWS.1
  have kwc := hWC.1
  have hR9 := hR
  obtain ⟨⟨p, rX⟩, rT, ⟨rs0, rs1⟩, rH, rS, ⟨E0, rC⟩, rc⟩ := hR
  obtain ⟨⟨⟨hn1, hn2⟩, ⟨hkk1, hkk2⟩, ⟨hE4, hE2⟩, hp0, hpr, hc0⟩, t3, t4, t5, t6, tE, tp, tcb, tc⟩ := id rT
  have hLn := ac_Lt_len T hn2
  obtain ⟨ha1, ha2⟩ := ha
  have h40 : (2 : Nat) ^ 40 = 1099511627776 := by decide
  refine ac_met (on := (RX6, "lost")) rfl rfl (Nat.le_of_ble_eq_true rfl) (ls := [(2, (x : Int)), (0, a), (0, up), (3, 0), (3, 0), (3, 0), (3, 0), (3, 0)]) rfl ?_
  refine ac_iload_n (q := 1) dX6_lost_0 rfl rfl ?_
  refine ac_if_lt (q := 4) (tgt := 10) dX6_lost_1 rfl rfl ⟨by omega, by omega⟩ (fun h1 => ?_) (fun h1 => ?_)
  · refine ac_bipush (q := 12) dX6_lost_10 rfl (by decide) ?_
    refine ac_ireturn dX6_lost_12 rfl (Nat.zero_le _) (Nat.zero_le _) ?_
    unfold ac_an_lost; rw [if_pos (by omega)]; exact ⟨rfl, rfl, hR9, ac_fA_r mm x⟩
  · refine ac_iload_n (q := 5) dX6_lost_4 rfl rfl ?_
    refine ac_bipush (q := 7) dX6_lost_5 rfl (by decide) ?_
    refine ac_icmp_le (q := 10) (tgt := 13) dX6_lost_7 rfl rfl ⟨by omega, by omega⟩ ⟨by omega, by omega⟩ (fun h7 => ?_) (fun h7 => ?_)
    · obtain ⟨a, rfl⟩ := Int.eq_ofNat_of_zero_le (a := a) (by omega)
      have hans : ac_an_lost T (a : Int) up = ac_frac (ac_los T a) (10 ^ T.2.2.1.length) up := by unfold ac_an_lost; rw [if_neg (by omega), Int.toNat_natCast]
      refine ac_aload_n (q := 14) dX6_lost_13 rfl rfl ?_
      refine ac_get (q := 17) dX6_lost_14 fl_X6_46 (by assumption) rfl (ac_rdr rfl hA9.1.2.2.2.2.2.2.2.2) ?_
      refine ac_aload_n (q := 18) dX6_lost_17 rfl rfl ?_
      refine ac_get (q := 21) dX6_lost_18 fl_X6_19 (by assumption) rfl (ac_rdr rfl hA9.1.2.2.1) ?_
      refine ac_cv (q := 24) (k_X5_tally (w := x + 86) (t := x + 3) (d := d - 1) (by omega) hW rC rS hT0 rT (by omega)) ml_X6_243 (by assumption) dX6_lost_21 rfl rfl rfl (by omega) (Nat.le_of_ble_eq_true rfl) (Nat.zero_le _) (Nat.zero_le _) (fun m1 h1 => ?_)
      obtain ⟨w1, hta, f1⟩ := h1
      have A1 := ac_RA_w hR9 w1.2.2 ⟨_, w1.2.1⟩ (fun k' a => f1 k' (by omega))
      have e5 : m1 (x + 3) 5 = (T.2.2.1.length : Int) := A1.2.1.2.2.2.1
      have h2l : 2 ^ T.2.2.1.length ≤ 16 := Nat.pow_le_pow_right (n := 2) (by decide) hE4
      have hbd := ac_bits_d T.2.2.1.length hE4
      refine ac_aload_n (q := 25) dX6_lost_24 rfl rfl ?_
      refine ac_get (q := 28) dX6_lost_25 fl_X6_19 (by assumption) rfl (ac_rdr rfl hA9.1.2.2.1) ?_
      refine ac_get (q := 31) dX6_lost_28 fl_X6_164 kn0 rfl (ac_rdi rfl e5) ?_
      refine ac_istore_n (q := 32) (j := 3) rfl dX6_lost_31 rfl (Nat.le_of_ble_eq_true rfl) rfl rfl ?_
      simp only [List.set_cons_succ, List.set_cons_zero]
      refine ac_lconst (q := 33) (v := 0) dX6_lost_32 rfl (by decide) ?_
      refine ac_lstore (q := 35) dX6_lost_33 rfl (Nat.le_of_ble_eq_true rfl) rfl rfl ?_
      simp only [List.set_cons_succ, List.set_cons_zero]
      refine ac_iconst (q := 36) dX6_lost_35 rfl ?_
      refine ac_istore (q := 38) dX6_lost_36 rfl (Nat.le_of_ble_eq_true rfl) rfl rfl ?_
      simp only [List.set_cons_succ, List.set_cons_zero]
      have loop : ∀ (r i : Nat), i + r = 2 ^ T.2.2.1.length → ac_V G (RX6, "lost") cX6_lost 8 (some .int) d 0 0 (ac_R Y [(0, ac_an_lost T a up)] (fun m => ac_RA m x s T hs s0 s1 obs ch ∧ ac_fA mm m x)) 0 0 Y m1 38 [(2, (x : Int)), (0, (a : Int)), (0, up), (0, (T.2.2.1.length : Int)), (1, ((ac_sm (ac_lsg T a) i : Nat) : Int)), (3, 0), (0, ((i : Nat) : Int)), (3, 0)] [] := by
        intro r
        induction r with
        | zero =>
          intro i hi
          obtain rfl : i = 2 ^ T.2.2.1.length := by omega
          have hsb : ac_sm (ac_lsg T a) (2 ^ T.2.2.1.length) ≤ 16 * (10000 * 10000) := Nat.le_trans (ac_sm_bound2 _ (fun j hj => ac_lsg_le T a j (by omega) (by have := (hbd j hj).1; omega) hE4)) (Nat.mul_le_mul_right _ h2l)
          have hpp : 0 < 10 ^ T.2.2.1.length := Nat.pow_pos (by decide)
          have hpl := ac_pow10 (a := 10) (n := T.2.2.1.length) (by decide) hE4
          refine ac_iload (q := 40) dX6_lost_38 rfl rfl ?_
          refine ac_iconst (q := 41) dX6_lost_40 rfl ?_
          refine ac_iload_n (q := 42) dX6_lost_41 rfl rfl ?_
          refine ac_ishl1 (q := 43) (k := T.2.2.1.length) dX6_lost_42 rfl (by omega) ?_
          refine ac_icmp_ge (q := 46) (tgt := 94) dX6_lost_43 rfl rfl (ac_nin (by omega)) (ac_nin (by omega)) (fun h43 => ?_) (fun h43 => ?_)
          · refine ac_lload (q := 96) dX6_lost_94 rfl rfl ?_
            refine ac_bipush (q := 98) dX6_lost_96 rfl (by decide) ?_
            refine ac_iload_n (q := 99) dX6_lost_98 rfl rfl ?_
            refine ac_csp (q := 102) (k_X6_power (a := 10) (d := d - 1) (by omega) (by omega) (by omega)) ml_X6_262 dX6_lost_99 rfl rfl rfl (by omega) (Nat.le_of_ble_eq_true rfl) (Nat.zero_le _) (Nat.zero_le _) ?_
            refine ac_iload_n (q := 103) dX6_lost_102 rfl rfl ?_
            refine ac_csp (q := 106) (k_X6_fraction (a := ac_los T a) (b := 10 ^ T.2.2.1.length) (d := d - 1) (by omega) (by rw [h40]; show ac_sm _ _ < _; omega) (by rw [h40]; omega) hpp hup) ml_X6_258 dX6_lost_103 rfl rfl rfl (by omega) (Nat.le_of_ble_eq_true rfl) (Nat.zero_le _) (Nat.zero_le _) ?_
            refine ac_ireturn dX6_lost_106 rfl (Nat.zero_le _) (Nat.zero_le _) ?_
            rw [hans]; exact ⟨rfl, rfl, A1, fun k' a => f1 k' (by omega)⟩
          · exact absurd h43 (Int.lt_irrefl _)
        | succ r ih =>
          intro i hi
          have ei : ((i : Nat) : Int) + 1 = ((i + 1 : Nat) : Int) := rfl
          have hs := ih (i + 1) (by omega)
          obtain ⟨hb1, hb2⟩ := hbd i (by omega)
          have hNl := ac_NS_le T i hn2
          refine ac_iload (q := 40) dX6_lost_38 rfl rfl ?_
          refine ac_iconst (q := 41) dX6_lost_40 rfl ?_
          refine ac_iload_n (q := 42) dX6_lost_41 rfl rfl ?_
          refine ac_ishl1 (q := 43) (k := T.2.2.1.length) dX6_lost_42 rfl (by omega) ?_
          refine ac_icmp_ge (q := 46) (tgt := 94) dX6_lost_43 rfl rfl ⟨by omega, by omega⟩ ⟨by omega, by omega⟩ (fun h43 => ?_) (fun h43 => ?_)
          · exfalso; omega
          · refine ac_aload_n (q := 47) dX6_lost_46 rfl rfl ?_
            refine ac_get (q := 50) dX6_lost_47 fl_X6_46 (by assumption) rfl (ac_rdr rfl hA9.1.2.2.2.2.2.2.2.2) ?_
            refine ac_iload (q := 52) dX6_lost_50 rfl rfl ?_
            refine ac_cvp (q := 55) (k_X5_heeding (w := x + 86) (e := i) (t := ac_tl T.2.2.1 (ac_ext (ac_pinA T.2.1 T.2.2.2.1) T.1 [])) (d := d - 1) (by omega) hW hta) ml_X6_255 (by assumption) dX6_lost_52 rfl rfl rfl (by omega) (Nat.le_of_ble_eq_true rfl) (Nat.zero_le _) (Nat.zero_le _) ?_
            refine ac_top (w' := (0, ((ac_NS T i : Nat) : Int))) (by rw [ac_NS_hs T _ hkk2 hE4]) ?_
            refine ac_if_le (q := 58) (tgt := 88) dX6_lost_55 rfl rfl ⟨by omega, by omega⟩ (fun h55 => ?_) (fun h55 => ?_)
            · have hsg : ac_sm (ac_lsg T a) (i + 1) = ac_sm (ac_lsg T a) i := by rw [ac_sm, ac_lsg, if_neg (by omega)]; rfl
              rw [hsg] at hs
              refine ac_iinc (q := 91) dX6_lost_88 rfl (Nat.le_of_ble_eq_true rfl) rfl rfl rfl rfl ?_
              simp only [List.set_cons_succ, List.set_cons_zero]
              refine ac_goto (q := 38) dX6_lost_91 rfl ?_
              exact ac_ls (by rw [ei]) hs
            · have hsg : ((ac_sm (ac_lsg T a) (i + 1) : Nat) : Int) = ((ac_sm (ac_lsg T a) i : Nat) : Int) + (((10 - a) ^ ac_bits i : Nat) : Int) * ((a ^ (T.2.2.1.length - ac_bits i) : Nat) : Int) := by
                rw [ac_sm, ac_lsg, if_pos (by omega), Int.natCast_add, Int.natCast_mul]
              refine ac_iload (q := 60) dX6_lost_58 rfl rfl ?_
              refine ac_csp (q := 63) (k_bits (d := d - 1) (by omega) (by omega)) ml_X6_246 dX6_lost_60 rfl rfl rfl (by omega) (Nat.le_of_ble_eq_true rfl) (Nat.zero_le _) (Nat.zero_le _) ?_
              refine ac_istore (q := 65) dX6_lost_63 rfl (Nat.le_of_ble_eq_true rfl) rfl rfl ?_
              simp only [List.set_cons_succ, List.set_cons_zero]
              refine ac_lload (q := 67) dX6_lost_65 rfl rfl ?_
              refine ac_bipush (q := 69) dX6_lost_67 rfl (by decide) ?_
              refine ac_iload_n (q := 70) dX6_lost_69 rfl rfl ?_
              refine ac_isub (q := 71) dX6_lost_70 rfl ?_
              refine ac_iload (q := 73) dX6_lost_71 rfl rfl ?_
              refine ac_top2 (w' := (0, ((10 - a : Nat) : Int))) (congrArg (fun z : Int => ((0 : Nat), z)) (by omega)) ?_
              refine ac_csp (q := 76) (k_X6_power (a := 10 - a) (d := d - 1) (by omega) (by omega) (by omega)) ml_X6_262 dX6_lost_73 rfl rfl rfl (by omega) (Nat.le_of_ble_eq_true rfl) (Nat.zero_le _) (Nat.zero_le _) ?_
              refine ac_iload_n (q := 77) dX6_lost_76 rfl rfl ?_
              refine ac_iload_n (q := 78) dX6_lost_77 rfl rfl ?_
              refine ac_iload (q := 80) dX6_lost_78 rfl rfl ?_
              refine ac_isub (q := 81) dX6_lost_80 rfl ?_
              refine ac_top (w' := (0, ((T.2.2.1.length - ac_bits i : Nat) : Int))) (congrArg (fun z : Int => ((0 : Nat), z)) (by omega)) ?_
              refine ac_csp (q := 84) (k_X6_power (d := d - 1) (by omega) (by omega) (by omega)) ml_X6_262 dX6_lost_81 rfl rfl rfl (by omega) (Nat.le_of_ble_eq_true rfl) (Nat.zero_le _) (Nat.zero_le _) ?_
              refine ac_lmul (q := 85) dX6_lost_84 rfl ?_
              refine ac_ladd (q := 86) dX6_lost_85 rfl ?_
              refine ac_lstore (q := 88) dX6_lost_86 rfl (Nat.le_of_ble_eq_true rfl) rfl rfl ?_
              simp only [List.set_cons_succ, List.set_cons_zero]
              refine ac_iinc (q := 91) dX6_lost_88 rfl (Nat.le_of_ble_eq_true rfl) rfl rfl rfl rfl ?_
              simp only [List.set_cons_succ, List.set_cons_zero]
              refine ac_goto (q := 38) dX6_lost_91 rfl ?_
              rw [hsg] at hs
              refine ac_drop [(2, (x : Int)), (0, (a : Int)), (0, up), (0, (T.2.2.1.length : Int)), (1, _), (3, 0), (0, (i : Int) + 1), (3, 0)] (by repeat (first | exact trivial | refine ⟨Or.inl rfl, ?_⟩ | refine ⟨Or.inr rfl, ?_⟩)) ?_
              exact ac_ls (by rw [ei]) hs
      exact loop (2 ^ T.2.2.1.length) 0 (by omega)
    · refine ac_bipush (q := 12) dX6_lost_10 rfl (by decide) ?_
      refine ac_ireturn dX6_lost_12 rfl (Nat.zero_le _) (Nat.zero_le _) ?_
      unfold ac_an_lost; rw [if_pos (by omega)]; exact ⟨rfl, rfl, hR9, ac_fA_r mm x⟩
