set_option maxHeartbeats 8000000 in
theorem k_X7_isFactor {G : ac_G} {Y : ac_Y} {mm : ac_M} {d : Nat} {v : Int} (hd : 2 ≤ d) (hv : ac_in v) : ac_C G yX7_isFactor cX7_isFactor 1 (some .boolean) d 0 0 Y mm [(0, v)] (ac_R Y [(0, ac_b ((-4 ≤ v ∧ v ≤ 4) ∧ v ≠ 0))] (fun m => m = mm)) := by
  obtain ⟨hv1, hv2⟩ := hv
  refine ac_met (on := (RX7, "isFactor")) rfl rfl (Nat.le_of_ble_eq_true rfl) (ls := [(0, v)]) rfl ?_
  refine ac_iload_n (q := 1) dX7_isFactor_0 rfl rfl ?_
  refine ac_i2l (q := 2) dX7_isFactor_1 rfl ⟨by omega, by omega⟩ ?_
  refine ac_ldc2_w (q := 5) (v := -4) dX7_isFactor_2 rfl ct_X7_220 ?_
  refine ac_ldc2_w (q := 8) (v := 4) dX7_isFactor_5 rfl ct_X7_82 ?_
  refine ac_csp (q := 11) (k_X7_in (d := d - 1) (by omega) ⟨by omega, by omega⟩ ⟨by omega, by omega⟩ ⟨by omega, by omega⟩) ml_X7_72 dX7_isFactor_8 rfl rfl rfl (by omega) (Nat.le_of_ble_eq_true rfl) (Nat.zero_le _) (Nat.zero_le _) ?_
  refine ac_bif_eq (q := 14) (tgt := 22) dX7_isFactor_11 rfl rfl (fun h11 => ?_) (fun h11 => ?_)
  · refine ac_iconst (q := 23) dX7_isFactor_22 rfl ?_
    refine ac_zreturn dX7_isFactor_23 rfl (by first | exact ac_b01 | omega) (Nat.zero_le _) (Nat.zero_le _) ?_
    first | exact ⟨ac_l1 (by omega), rfl, rfl⟩ | exact ⟨ac_l0 (by omega), rfl, rfl⟩
  · refine ac_iload_n (q := 15) dX7_isFactor_14 rfl rfl ?_
    refine ac_if_eq (q := 18) (tgt := 22) dX7_isFactor_15 rfl rfl ⟨by omega, by omega⟩ (fun h15 => ?_) (fun h15 => ?_)
    · refine ac_iconst (q := 23) dX7_isFactor_22 rfl ?_
      refine ac_zreturn dX7_isFactor_23 rfl (by first | exact ac_b01 | omega) (Nat.zero_le _) (Nat.zero_le _) ?_
      first | exact ⟨ac_l1 (by omega), rfl, rfl⟩ | exact ⟨ac_l0 (by omega), rfl, rfl⟩
    · refine ac_iconst (q := 19) dX7_isFactor_18 rfl ?_
      refine ac_goto (q := 23) dX7_isFactor_19 rfl ?_
      refine ac_zreturn dX7_isFactor_23 rfl (by first | exact ac_b01 | omega) (Nat.zero_le _) (Nat.zero_le _) ?_
      first | exact ⟨ac_l1 (by omega), rfl, rfl⟩ | exact ⟨ac_l0 (by omega), rfl, rfl⟩

set_option maxHeartbeats 8000000 in
theorem k_X7_noEquation {G : ac_G} {Y : ac_Y} {mm : ac_M} {d x : Nat} {T : ac_Tk} {e : Int} (hd : 2 ≤ d) (hM : ac_isM Y x) (rP : ac_RP mm (x + 3) T) (he : ac_in e) : ac_C G yX7_noEquation cX7_noEquation 2 (some .boolean) d 0 0 Y mm [(2, (x : Int)), (0, e)] (ac_R Y [(0, ac_b (¬ (0 ≤ e ∧ e < (T.2.2.1.length : Int))))] (fun m => m = mm)) := by
  have hM9 := hM
  obtain ⟨kx, k1, k2, k3, k4, k5, k6, k7, k8, k9, k10, k11, k12, k13, k14, k15, k16⟩ := hM.2
  obtain ⟨⟨-, -, hE, -⟩, p0, p1, -⟩ := rP
  obtain ⟨he1, he2⟩ := he
  have hE4 := hE.1
  refine ac_met (on := (RX7, "noEquation")) rfl rfl (Nat.le_of_ble_eq_true rfl) (ls := [(2, (x : Int)), (0, e)]) rfl ?_
  refine ac_iload_n (q := 1) dX7_noEquation_0 rfl rfl ?_
  refine ac_i2l (q := 2) dX7_noEquation_1 rfl ⟨by omega, by omega⟩ ?_
  refine ac_lconst (q := 3) (v := 0) dX7_noEquation_2 rfl (by decide) ?_
  refine ac_aload_n (q := 4) dX7_noEquation_3 rfl rfl ?_
  refine ac_get (q := 7) dX7_noEquation_4 fl_X7_20 (by assumption) rfl (ac_rdr rfl hM9.1.2.2.1) ?_
  refine ac_iconst (q := 8) dX7_noEquation_7 rfl ?_
  refine ac_ialoadN (q := 9) (j := 1) (v := (T.2.2.1.length : Int)) dX7_noEquation_8 k3 (by decide) (by decide) rfl p1 ?_
  refine ac_iconst (q := 10) dX7_noEquation_9 rfl ?_
  refine ac_isub (q := 11) dX7_noEquation_10 rfl ?_
  refine ac_i2l (q := 12) dX7_noEquation_11 rfl ⟨by omega, by omega⟩ ?_
  refine ac_csp (q := 15) (k_X7_in (d := d - 1) (by omega) ⟨by omega, by omega⟩ ⟨by omega, by omega⟩ ⟨by omega, by omega⟩) ml_X7_72 dX7_noEquation_12 rfl rfl rfl (by omega) (Nat.le_of_ble_eq_true rfl) (Nat.zero_le _) (Nat.zero_le _) ?_
  refine ac_bif_ne (q := 18) (tgt := 22) dX7_noEquation_15 rfl rfl (fun h15 => ?_) (fun h15 => ?_)
  · refine ac_iconst (q := 23) dX7_noEquation_22 rfl ?_
    refine ac_zreturn dX7_noEquation_23 rfl (by first | exact ac_b01 | omega) (Nat.zero_le _) (Nat.zero_le _) ?_
    first | exact ⟨ac_l1 (by omega), rfl, rfl⟩ | exact ⟨ac_l0 (by omega), rfl, rfl⟩
  · refine ac_iconst (q := 19) dX7_noEquation_18 rfl ?_
    refine ac_goto (q := 23) dX7_noEquation_19 rfl ?_
    refine ac_zreturn dX7_noEquation_23 rfl (by first | exact ac_b01 | omega) (Nat.zero_le _) (Nat.zero_le _) ?_
    first | exact ⟨ac_l1 (by omega), rfl, rfl⟩ | exact ⟨ac_l0 (by omega), rfl, rfl⟩

set_option maxHeartbeats 8000000 in
theorem k_X7_noNumber {G : ac_G} {Y : ac_Y} {mm : ac_M} {d x : Nat} {T : ac_Tk} {a : Int} (hd : 2 ≤ d) (hM : ac_isM Y x) (rP : ac_RP mm (x + 3) T) (ha : ac_in a) : ac_C G yX7_noNumber cX7_noNumber 2 (some .boolean) d 0 0 Y mm [(2, (x : Int)), (0, a)] (ac_R Y [(0, ac_b (¬ (1 ≤ a ∧ a ≤ (T.1 : Int))))] (fun m => m = mm)) := by
  have hM9 := hM
  obtain ⟨kx, k1, k2, k3, k4, k5, k6, k7, k8, k9, k10, k11, k12, k13, k14, k15, k16⟩ := hM.2
  obtain ⟨⟨hn, -⟩, p0, -⟩ := rP
  obtain ⟨ha1, ha2⟩ := ha
  refine ac_met (on := (RX7, "noNumber")) rfl rfl (Nat.le_of_ble_eq_true rfl) (ls := [(2, (x : Int)), (0, a)]) rfl ?_
  refine ac_iload_n (q := 1) dX7_noNumber_0 rfl rfl ?_
  refine ac_i2l (q := 2) dX7_noNumber_1 rfl ⟨by omega, by omega⟩ ?_
  refine ac_lconst (q := 3) (v := 1) dX7_noNumber_2 rfl (by decide) ?_
  refine ac_aload_n (q := 4) dX7_noNumber_3 rfl rfl ?_
  refine ac_get (q := 7) dX7_noNumber_4 fl_X7_20 (by assumption) rfl (ac_rdr rfl hM9.1.2.2.1) ?_
  refine ac_iconst (q := 8) dX7_noNumber_7 rfl ?_
  refine ac_ialoadN (q := 9) (j := 0) (v := (T.1 : Int)) dX7_noNumber_8 k3 (by decide) (by decide) rfl p0 ?_
  refine ac_i2l (q := 10) dX7_noNumber_9 rfl ⟨by omega, by omega⟩ ?_
  refine ac_csp (q := 13) (k_X7_in (d := d - 1) (by omega) ⟨by omega, by omega⟩ ⟨by omega, by omega⟩ ⟨by omega, by omega⟩) ml_X7_72 dX7_noNumber_10 rfl rfl rfl (by omega) (Nat.le_of_ble_eq_true rfl) (Nat.zero_le _) (Nat.zero_le _) ?_
  refine ac_bif_ne (q := 16) (tgt := 20) dX7_noNumber_13 rfl rfl (fun h13 => ?_) (fun h13 => ?_)
  · refine ac_iconst (q := 21) dX7_noNumber_20 rfl ?_
    refine ac_zreturn dX7_noNumber_21 rfl (by first | exact ac_b01 | omega) (Nat.zero_le _) (Nat.zero_le _) ?_
    first | exact ⟨ac_l1 (by omega), rfl, rfl⟩ | exact ⟨ac_l0 (by omega), rfl, rfl⟩
  · refine ac_iconst (q := 17) dX7_noNumber_16 rfl ?_
    refine ac_goto (q := 21) dX7_noNumber_17 rfl ?_
    refine ac_zreturn dX7_noNumber_21 rfl (by first | exact ac_b01 | omega) (Nat.zero_le _) (Nat.zero_le _) ?_
    first | exact ⟨ac_l1 (by omega), rfl, rfl⟩ | exact ⟨ac_l0 (by omega), rfl, rfl⟩

set_option maxHeartbeats 8000000 in
theorem k_X7_solutionAt {G : ac_G} {Y : ac_Y} {mm : ac_M} {d x : Nat} {T : ac_Tk} {e : Nat} {q : ac_Eq} {i : Int} (hd : 3 ≤ d) (hM : ac_isM Y x) (rP : ac_RP mm (x + 3) T) (hq : T.2.2.1[e]? = some q) (hi : ac_in i) : ac_C G yX7_solutionAt cX7_solutionAt 7 (some .int) d 0 0 Y mm [(2, (x : Int)), (0, (e : Int)), (0, i)] (ac_R Y [(0, ac_slr (ac_sols q T.1) i)] (fun m => m = mm)) := by
  have hM9 := hM
  obtain ⟨kx, k1, k2, k3, k4, k5, k6, k7, k8, k9, k10, k11, k12, k13, k14, k15, k16⟩ := hM.2
  obtain ⟨⟨⟨hn1, hn2⟩, -, hE, -⟩, p0, p1, pE, -⟩ := rP
  obtain ⟨hi1, hi2⟩ := hi
  have hsl := ac_sols_len q T.1 hn2
  generalize hnv : T.1 = n at *
  have inner : ∀ (f a : Nat) (pre rest : List Int) (zz : Nat × Int), zz.1 ≠ 1 → f ≤ n → 1 ≤ a → a ≤ n → pre ++ (ac_ry q n a f ++ rest) = ac_sols q n → (i < 0 ∨ (pre.length : Int) ≤ i) → (∀ (pre : List Int) (zz : Nat × Int), zz.1 ≠ 1 → pre ++ rest = ac_sols q n → (i < 0 ∨ (pre.length : Int) ≤ i) → ac_V G (RX7, "solutionAt") cX7_solutionAt 7 (some .int) d 0 0 (ac_R Y [(0, ac_slr (ac_sols q n) i)] (fun m => m = mm)) 0 0 Y mm 85 [(2, (x : Int)), (0, (e : Int)), (0, i), (0, ((pre.length : Nat) : Int)), (0, (a : Int)), (3, 0), zz] []) → ac_V G (RX7, "solutionAt") cX7_solutionAt 7 (some .int) d 0 0 (ac_R Y [(0, ac_slr (ac_sols q n) i)] (fun m => m = mm)) 0 0 Y mm 19 [(2, (x : Int)), (0, (e : Int)), (0, i), (0, ((pre.length : Nat) : Int)), (0, (a : Int)), (0, ((n + 1 - f : Nat) : Int)), zz] [] := by
    intro f
    induction f with
    | zero =>
      intro a pre rest zz hzz hf ha1 ha2 hsp hno hK
      obtain ⟨zz1, zz2⟩ := zz
      simp only at hzz
      refine ac_iload (q := 21) dX7_solutionAt_19 rfl rfl ?_
      refine ac_aload_n (q := 22) dX7_solutionAt_21 rfl rfl ?_
      refine ac_get (q := 25) dX7_solutionAt_22 fl_X7_20 (by assumption) rfl (ac_rdr rfl hM9.1.2.2.1) ?_
      refine ac_iconst (q := 26) dX7_solutionAt_25 rfl ?_
      refine ac_ialoadN (q := 27) (j := 0) (v := (n : Int)) dX7_solutionAt_26 k3 (by decide) (by decide) rfl p0 ?_
      refine ac_icmp_gt (q := 30) (tgt := 85) dX7_solutionAt_27 rfl rfl ⟨by omega, by omega⟩ ⟨by omega, by omega⟩ (fun h27 => ?_) (fun h27 => ?_)
      · refine ac_drop [(2, (x : Int)), (0, (e : Int)), (0, i), (0, ((pre.length : Nat) : Int)), (0, (a : Int)), (3, 0), (zz1, zz2)] (by repeat (first | exact trivial | refine ⟨Or.inl rfl, ?_⟩ | refine ⟨Or.inr rfl, ?_⟩)) ?_
        exact hK pre (zz1, zz2) hzz hsp hno
      · exfalso; omega
    | succ f ih =>
      intro a pre rest zz hzz hf ha1 ha2 hsp hno hK
      obtain ⟨zz1, zz2⟩ := zz
      simp only at hzz
      have hpl : pre.length ≤ 100 := by rw [← hsp, List.length_append] at hsl; omega
      have hth := ac_th_in q a ((n - f : Nat) : Int) n (by omega)
      rw [show n + 1 - (f + 1) = n - f by omega]
      have ey : ((n - f : Nat) : Int) + 1 = ((n + 1 - f : Nat) : Int) := by omega
      rw [ac_ry] at hsp
      generalize hzv : ac_th q a ((n - f : Nat) : Int) n = z at *
      refine ac_iload (q := 21) dX7_solutionAt_19 rfl rfl ?_
      refine ac_aload_n (q := 22) dX7_solutionAt_21 rfl rfl ?_
      refine ac_get (q := 25) dX7_solutionAt_22 fl_X7_20 (by assumption) rfl (ac_rdr rfl hM9.1.2.2.1) ?_
      refine ac_iconst (q := 26) dX7_solutionAt_25 rfl ?_
      refine ac_ialoadN (q := 27) (j := 0) (v := (n : Int)) dX7_solutionAt_26 k3 (by decide) (by decide) rfl p0 ?_
      refine ac_icmp_gt (q := 30) (tgt := 85) dX7_solutionAt_27 rfl rfl ⟨by omega, by omega⟩ ⟨by omega, by omega⟩ (fun h27 => ?_) (fun h27 => ?_)
      · exfalso; omega
      · refine ac_aload_n (q := 31) dX7_solutionAt_30 rfl rfl ?_
        refine ac_get (q := 34) dX7_solutionAt_31 fl_X7_20 (by assumption) rfl (ac_rdr rfl hM9.1.2.2.1) ?_
        refine ac_iload_n (q := 35) dX7_solutionAt_34 rfl rfl ?_
        refine ac_iload (q := 37) dX7_solutionAt_35 rfl rfl ?_
        refine ac_iload (q := 39) dX7_solutionAt_37 rfl rfl ?_
        refine ac_aload_n (q := 40) dX7_solutionAt_39 rfl rfl ?_
        refine ac_get (q := 43) dX7_solutionAt_40 fl_X7_20 (by assumption) rfl (ac_rdr rfl hM9.1.2.2.1) ?_
        refine ac_iconst (q := 44) dX7_solutionAt_43 rfl ?_
        refine ac_ialoadN (q := 45) (j := 0) (v := (n : Int)) dX7_solutionAt_44 k3 (by decide) (by decide) rfl p0 ?_
        refine ac_csp (q := 48) (k_X7_third (r := x + 3) (e := e) (q := q) (a := (a : Int)) (b := ((n - f : Nat) : Int)) (u := (n : Int)) (d := d - 1) (by omega) k3 pE hE hq ⟨by omega, by omega⟩ ⟨by omega, by omega⟩ ⟨by omega, by omega⟩) ml_X7_126 dX7_solutionAt_45 rfl rfl rfl (by omega) (Nat.le_of_ble_eq_true rfl) (Nat.zero_le _) (Nat.zero_le _) ?_
        rw [hzv]
        refine ac_istore (q := 50) dX7_solutionAt_48 rfl (Nat.le_of_ble_eq_true rfl) rfl rfl ?_
        simp only [List.set_cons_succ, List.set_cons_zero]
        refine ac_iload (q := 52) dX7_solutionAt_50 rfl rfl ?_
        refine ac_if_le (q := 55) (tgt := 79) dX7_solutionAt_52 rfl rfl ⟨by omega, by omega⟩ (fun h52 => ?_) (fun h52 => ?_)
        · rw [if_neg (by omega), List.nil_append] at hsp
          refine ac_iinc (q := 82) dX7_solutionAt_79 rfl (Nat.le_of_ble_eq_true rfl) rfl rfl rfl rfl ?_
          simp only [List.set_cons_succ, List.set_cons_zero]
          refine ac_goto (q := 19) dX7_solutionAt_82 rfl ?_
          exact ac_ls (by rw [ey]) (ih a pre rest (0, z) (show (0 : Nat) ≠ 1 by decide) (by omega) ha1 ha2 hsp hno hK)
        · rw [if_pos (by omega), List.append_assoc, List.singleton_append] at hsp
          refine ac_iload_n (q := 56) dX7_solutionAt_55 rfl rfl ?_
          refine ac_iload_n (q := 57) dX7_solutionAt_56 rfl rfl ?_
          refine ac_icmp_ne (q := 60) (tgt := 76) dX7_solutionAt_57 rfl rfl ⟨by omega, by omega⟩ ⟨by omega, by omega⟩ (fun h57 => ?_) (fun h57 => ?_)
          · refine ac_iinc (q := 79) dX7_solutionAt_76 rfl (Nat.le_of_ble_eq_true rfl) rfl rfl rfl rfl ?_
            simp only [List.set_cons_succ, List.set_cons_zero]
            refine ac_iinc (q := 82) dX7_solutionAt_79 rfl (Nat.le_of_ble_eq_true rfl) rfl rfl rfl rfl ?_
            simp only [List.set_cons_succ, List.set_cons_zero]
            refine ac_goto (q := 19) dX7_solutionAt_82 rfl ?_
            rw [← List.singleton_append, ← List.append_assoc] at hsp
            have hlx : (pre ++ [10000 * (a : Int) + 100 * ((n - f : Nat) : Int) + z]).length = pre.length + 1 := by rw [List.length_append]; rfl
            exact ac_ls (by rw [ey, hlx]; rfl) (ih a _ rest (0, z) (show (0 : Nat) ≠ 1 by decide) (by omega) ha1 ha2 hsp (by rw [hlx]; omega) hK)
          · refine ac_sipush (q := 63) dX7_solutionAt_60 rfl (by decide) ?_
            refine ac_iload (q := 65) dX7_solutionAt_63 rfl rfl ?_
            refine ac_imul (q := 66) dX7_solutionAt_65 rfl ?_
            refine ac_bipush (q := 68) dX7_solutionAt_66 rfl (by decide) ?_
            refine ac_iload (q := 70) dX7_solutionAt_68 rfl rfl ?_
            refine ac_imul (q := 71) dX7_solutionAt_70 rfl ?_
            refine ac_iadd (q := 72) dX7_solutionAt_71 rfl ?_
            refine ac_iload (q := 74) dX7_solutionAt_72 rfl rfl ?_
            refine ac_iadd (q := 75) dX7_solutionAt_74 rfl ?_
            refine ac_ireturn dX7_solutionAt_75 rfl (Nat.zero_le _) (Nat.zero_le _) ?_
            refine ⟨?_, rfl, rfl⟩
            rw [← hsp, ac_slr_hit (by omega)]
  have outer : ∀ (f : Nat) (pre : List Int) (zz : Nat × Int), zz.1 ≠ 1 → f ≤ n → pre ++ ac_rx q n f = ac_sols q n → (i < 0 ∨ (pre.length : Int) ≤ i) → ac_V G (RX7, "solutionAt") cX7_solutionAt 7 (some .int) d 0 0 (ac_R Y [(0, ac_slr (ac_sols q n) i)] (fun m => m = mm)) 0 0 Y mm 5 [(2, (x : Int)), (0, (e : Int)), (0, i), (0, ((pre.length : Nat) : Int)), (0, ((n + 1 - f : Nat) : Int)), (3, 0), zz] [] := by
    intro f
    induction f with
    | zero =>
      intro pre zz hzz hf hsp hno
      obtain ⟨zz1, zz2⟩ := zz
      simp only at hzz
      refine ac_iload (q := 7) dX7_solutionAt_5 rfl rfl ?_
      refine ac_aload_n (q := 8) dX7_solutionAt_7 rfl rfl ?_
      refine ac_get (q := 11) dX7_solutionAt_8 fl_X7_20 (by assumption) rfl (ac_rdr rfl hM9.1.2.2.1) ?_
      refine ac_iconst (q := 12) dX7_solutionAt_11 rfl ?_
      refine ac_ialoadN (q := 13) (j := 0) (v := (n : Int)) dX7_solutionAt_12 k3 (by decide) (by decide) rfl p0 ?_
      refine ac_icmp_gt (q := 16) (tgt := 91) dX7_solutionAt_13 rfl rfl ⟨by omega, by omega⟩ ⟨by omega, by omega⟩ (fun h13 => ?_) (fun h13 => ?_)
      · refine ac_iload_n (q := 92) dX7_solutionAt_91 rfl rfl ?_
        refine ac_ireturn dX7_solutionAt_92 rfl (Nat.zero_le _) (Nat.zero_le _) ?_
        rw [ac_rx, List.append_nil] at hsp
        rw [← hsp]
        refine ⟨congrArg (fun z : Int => [((0 : Nat), z)]) ?_, rfl, rfl⟩
        unfold ac_slr; rw [if_neg (by omega)]
      · exfalso; omega
    | succ f ih =>
      intro pre zz hzz hf hsp hno
      obtain ⟨zz1, zz2⟩ := zz
      simp only at hzz
      rw [show n + 1 - (f + 1) = n - f by omega]
      have ex : ((n - f : Nat) : Int) + 1 = ((n + 1 - f : Nat) : Int) := by omega
      rw [ac_rx] at hsp
      refine ac_iload (q := 7) dX7_solutionAt_5 rfl rfl ?_
      refine ac_aload_n (q := 8) dX7_solutionAt_7 rfl rfl ?_
      refine ac_get (q := 11) dX7_solutionAt_8 fl_X7_20 (by assumption) rfl (ac_rdr rfl hM9.1.2.2.1) ?_
      refine ac_iconst (q := 12) dX7_solutionAt_11 rfl ?_
      refine ac_ialoadN (q := 13) (j := 0) (v := (n : Int)) dX7_solutionAt_12 k3 (by decide) (by decide) rfl p0 ?_
      refine ac_icmp_gt (q := 16) (tgt := 91) dX7_solutionAt_13 rfl rfl ⟨by omega, by omega⟩ ⟨by omega, by omega⟩ (fun h13 => ?_) (fun h13 => ?_)
      · exfalso; omega
      · refine ac_iconst (q := 17) dX7_solutionAt_16 rfl ?_
        refine ac_istore (q := 19) dX7_solutionAt_17 rfl (Nat.le_of_ble_eq_true rfl) rfl rfl ?_
        simp only [List.set_cons_succ, List.set_cons_zero]
        refine ac_ls (by rw [show (1 : Int) = ((n + 1 - n : Nat) : Int) by omega]) (inner n (n - f) pre (ac_rx q n f) (zz1, zz2) hzz (Nat.le_refl _) (by omega) (by omega) hsp hno (fun pre zz hzz hsp hno => ?_))
        obtain ⟨yy1, yy2⟩ := zz
        simp only at hzz
        refine ac_iinc (q := 88) dX7_solutionAt_85 rfl (Nat.le_of_ble_eq_true rfl) rfl rfl rfl rfl ?_
        simp only [List.set_cons_succ, List.set_cons_zero]
        refine ac_goto (q := 5) dX7_solutionAt_88 rfl ?_
        exact ac_ls (by rw [ex]) (ih pre (yy1, yy2) hzz (by omega) hsp hno)
  refine ac_met (on := (RX7, "solutionAt")) rfl rfl (Nat.le_of_ble_eq_true rfl) (ls := [(2, (x : Int)), (0, (e : Int)), (0, i), (3, 0), (3, 0), (3, 0), (3, 0)]) rfl ?_
  refine ac_iconst (q := 1) dX7_solutionAt_0 rfl ?_
  refine ac_istore_n (q := 2) (j := 3) rfl dX7_solutionAt_1 rfl (Nat.le_of_ble_eq_true rfl) rfl rfl ?_
  simp only [List.set_cons_succ, List.set_cons_zero]
  refine ac_iconst (q := 3) dX7_solutionAt_2 rfl ?_
  refine ac_istore (q := 5) dX7_solutionAt_3 rfl (Nat.le_of_ble_eq_true rfl) rfl rfl ?_
  simp only [List.set_cons_succ, List.set_cons_zero]
  exact ac_ls (by rw [show (1 : Int) = ((n + 1 - n : Nat) : Int) by omega]; rfl) (outer n [] (3, 0) (show (3 : Nat) ≠ 1 by decide) (Nat.le_refl _) rfl (by simp; omega))

set_option maxHeartbeats 8000000 in
theorem k_X7_equation {G : ac_G} {Y : ac_Y} {mm : ac_M} {d x : Nat} {s : List Nat} {T : ac_Tk} {hs : List ac_Tk} {s0 s1 : Option ac_Tk} {obs : List ac_Ob} {ch : Int} {e w : Int} (hd : 30 ≤ d) (hM : ac_isM Y x) (hR : ac_RM mm x s T hs s0 s1 obs ch) (he : ac_in e) (hw : ac_in w) : ac_C G yX7_equation cX7_equation 4 (some .int) d 0 0 Y mm [(2, (x : Int)), (0, e), (0, w)] (ac_R Y [(0, ac_an_equation T e w)] (fun m => ac_RM m x s T hs s0 s1 obs ch ∧ ac_fM mm m x)) := by
  have hM9 := hM
  obtain ⟨kx, k1, k2, k3, k4, k5, k6, k7, k8, k9, k10, k11, k12, k13, k14, k15, k16⟩ := hM.2
  obtain ⟨-, ⟨hkk, hPg⟩, -⟩ := id hR
  obtain ⟨⟨⟨hn1, hn2⟩, ⟨hk2, hk3⟩, hE, hp0, hpr, hc0⟩, -⟩ := id hPg
  have hE4 := hE.1
  have hLn := ac_Lt_len T hn2
  obtain ⟨he1, he2⟩ := he
  obtain ⟨hw1, hw2⟩ := hw
  refine ac_met (on := (RX7, "equation")) rfl rfl (Nat.le_of_ble_eq_true rfl) (ls := [(2, (x : Int)), (0, e), (0, w), (3, 0)]) rfl ?_
  refine ac_aload_n (q := 1) dX7_equation_0 rfl rfl ?_
  refine ac_iconst (q := 2) dX7_equation_1 rfl ?_
  refine ac_put (q := 5) dX7_equation_2 fl_X7_67 (by assumption) rfl rfl ?_
  have A0 := ac_up0_RM hR
  have F0 : ac_fM mm (ac_up mm x 0 0) x := ac_up0_fM
  generalize ac_up mm x 0 0 = m0 at *
  obtain ⟨q4, qP⟩ := A0.2.1
  obtain ⟨-, p0, p1, pE, pp, p28, pcb, pcl⟩ := id qP
  refine ac_aload_n (q := 6) dX7_equation_5 rfl rfl ?_
  refine ac_iload_n (q := 7) dX7_equation_6 rfl rfl ?_
  refine ac_cvp (q := 10) (k_X7_noEquation (T := T) (e := e) (d := d - 1) (by omega) hM9 qP ⟨by omega, by omega⟩) ml_X7_185 (by assumption) dX7_equation_7 rfl rfl rfl (by omega) (Nat.le_of_ble_eq_true rfl) (Nat.zero_le _) (Nat.zero_le _) ?_
  refine ac_bif_eq (q := 13) (tgt := 15) dX7_equation_10 rfl rfl (fun h10 => ?_) (fun h10 => ?_)
  · have hin : 0 ≤ e ∧ e < (T.2.2.1.length : Int) := Decidable.not_not.mp h10
    unfold ac_an_equation
    rw [if_neg (fun q => q hin)]
    obtain ⟨e, rfl⟩ := Int.eq_ofNat_of_zero_le (a := e) (by omega)
    have hq := ac_eqn_get (T := T) (e := (e : Int)) ⟨by omega, by omega⟩
    simp only [Int.toNat_natCast] at hq
    have hsl := ac_sols_len (ac_eqn T (e : Int)) T.1 hn2
    obtain ⟨u0, u1, u2, u3⟩ := pE e _ hq
    have heL := (List.getElem?_eq_some_iff.mp hq).1
    refine ac_iconst (q := 16) dX7_equation_15 rfl ?_
    refine ac_iconst (q := 17) dX7_equation_16 rfl ?_
    refine ac_iload_n (q := 18) dX7_equation_17 rfl rfl ?_
    refine ac_imul (q := 19) dX7_equation_18 rfl ?_
    refine ac_iadd (q := 20) dX7_equation_19 rfl ?_
    refine ac_top (w' := (0, ((2 + 4 * e : Nat) : Int))) (congrArg (fun z : Int => ((0 : Nat), z)) (by omega)) ?_
    refine ac_istore_n (q := 21) (j := 3) rfl dX7_equation_20 rfl (Nat.le_of_ble_eq_true rfl) rfl rfl ?_
    simp only [List.set_cons_succ, List.set_cons_zero]
    refine ac_iload_n (q := 22) dX7_equation_21 rfl rfl ?_
    by_cases hsw : w < 0 ∨ 5 < w
    · refine ac_tabOut (tgt := 105) dX7_equation_22 ⟨by omega, by omega⟩ hsw rfl ?_
      refine ac_bipush (q := 107) dX7_equation_105 rfl (by decide) ?_
      refine ac_ireturn dX7_equation_107 rfl (Nat.zero_le _) (Nat.zero_le _) ?_
      rw [if_neg (by omega), if_neg (by omega), if_neg (by omega), if_neg (by omega)]; exact ⟨rfl, rfl, A0, F0⟩
    · rcases (show w = 0 ∨ w = 1 ∨ w = 2 ∨ w = 3 ∨ w = 4 ∨ w = 5 by omega) with rfl | rfl | rfl | rfl | rfl | rfl
      · refine ac_tabIn (off := 38) (tgt := 60) dX7_equation_22 ⟨by decide, by decide⟩ (by decide) (by decide) rfl rfl ?_
        refine ac_aload_n (q := 61) dX7_equation_60 rfl rfl ?_
        refine ac_get (q := 64) dX7_equation_61 fl_X7_20 (by assumption) rfl (ac_rdr rfl hM9.1.2.2.1) ?_
        refine ac_iload_n (q := 65) dX7_equation_64 rfl rfl ?_
        refine ac_iload_n (q := 66) dX7_equation_65 rfl rfl ?_
        refine ac_iadd (q := 67) dX7_equation_66 rfl ?_
        refine ac_top (w' := (0, ((2 + 4 * e + 0 : Nat) : Int))) (congrArg (fun z : Int => ((0 : Nat), z)) (by omega)) ?_
        refine ac_ialoadN (q := 68) (j := 2 + 4 * e + 0) (v := (ac_eqn T (e : Int)).1) dX7_equation_67 k3 (by decide) (by omega) rfl u0 ?_
        refine ac_bipush (q := 70) dX7_equation_68 rfl (by decide) ?_
        refine ac_iadd (q := 71) dX7_equation_70 rfl ?_
        refine ac_ireturn dX7_equation_71 rfl (Nat.zero_le _) (Nat.zero_le _) ?_
        rw [if_pos (by decide)]; exact ⟨rfl, rfl, A0, F0⟩
      · refine ac_tabIn (off := 38) (tgt := 60) dX7_equation_22 ⟨by decide, by decide⟩ (by decide) (by decide) rfl rfl ?_
        refine ac_aload_n (q := 61) dX7_equation_60 rfl rfl ?_
        refine ac_get (q := 64) dX7_equation_61 fl_X7_20 (by assumption) rfl (ac_rdr rfl hM9.1.2.2.1) ?_
        refine ac_iload_n (q := 65) dX7_equation_64 rfl rfl ?_
        refine ac_iload_n (q := 66) dX7_equation_65 rfl rfl ?_
        refine ac_iadd (q := 67) dX7_equation_66 rfl ?_
        refine ac_top (w' := (0, ((2 + 4 * e + 1 : Nat) : Int))) (congrArg (fun z : Int => ((0 : Nat), z)) (by omega)) ?_
        refine ac_ialoadN (q := 68) (j := 2 + 4 * e + 1) (v := (ac_eqn T (e : Int)).2.1) dX7_equation_67 k3 (by decide) (by omega) rfl u1 ?_
        refine ac_bipush (q := 70) dX7_equation_68 rfl (by decide) ?_
        refine ac_iadd (q := 71) dX7_equation_70 rfl ?_
        refine ac_ireturn dX7_equation_71 rfl (Nat.zero_le _) (Nat.zero_le _) ?_
        rw [if_pos (by decide)]; exact ⟨rfl, rfl, A0, F0⟩
      · refine ac_tabIn (off := 38) (tgt := 60) dX7_equation_22 ⟨by decide, by decide⟩ (by decide) (by decide) rfl rfl ?_
        refine ac_aload_n (q := 61) dX7_equation_60 rfl rfl ?_
        refine ac_get (q := 64) dX7_equation_61 fl_X7_20 (by assumption) rfl (ac_rdr rfl hM9.1.2.2.1) ?_
        refine ac_iload_n (q := 65) dX7_equation_64 rfl rfl ?_
        refine ac_iload_n (q := 66) dX7_equation_65 rfl rfl ?_
        refine ac_iadd (q := 67) dX7_equation_66 rfl ?_
        refine ac_top (w' := (0, ((2 + 4 * e + 2 : Nat) : Int))) (congrArg (fun z : Int => ((0 : Nat), z)) (by omega)) ?_
        refine ac_ialoadN (q := 68) (j := 2 + 4 * e + 2) (v := (ac_eqn T (e : Int)).2.2.1) dX7_equation_67 k3 (by decide) (by omega) rfl u2 ?_
        refine ac_bipush (q := 70) dX7_equation_68 rfl (by decide) ?_
        refine ac_iadd (q := 71) dX7_equation_70 rfl ?_
        refine ac_ireturn dX7_equation_71 rfl (Nat.zero_le _) (Nat.zero_le _) ?_
        rw [if_pos (by decide)]; exact ⟨rfl, rfl, A0, F0⟩
      · refine ac_tabIn (off := 50) (tgt := 72) dX7_equation_22 ⟨by decide, by decide⟩ (by decide) (by decide) rfl rfl ?_
        refine ac_aload_n (q := 73) dX7_equation_72 rfl rfl ?_
        refine ac_get (q := 76) dX7_equation_73 fl_X7_20 (by assumption) rfl (ac_rdr rfl hM9.1.2.2.1) ?_
        refine ac_iload_n (q := 77) dX7_equation_76 rfl rfl ?_
        refine ac_iconst (q := 78) dX7_equation_77 rfl ?_
        refine ac_iadd (q := 79) dX7_equation_78 rfl ?_
        refine ac_top (w' := (0, ((2 + 4 * e + 3 : Nat) : Int))) (congrArg (fun z : Int => ((0 : Nat), z)) (by omega)) ?_
        refine ac_ialoadN (q := 80) (j := 2 + 4 * e + 3) (v := (ac_eqn T (e : Int)).2.2.2) dX7_equation_79 k3 (by decide) (by omega) rfl u3 ?_
        refine ac_ireturn dX7_equation_80 rfl (Nat.zero_le _) (Nat.zero_le _) ?_
        rw [if_neg (by decide), if_pos rfl]; exact ⟨rfl, rfl, A0, F0⟩
      · refine ac_tabIn (off := 59) (tgt := 81) dX7_equation_22 ⟨by decide, by decide⟩ (by decide) (by decide) rfl rfl ?_
        refine ac_aload_n (q := 82) dX7_equation_81 rfl rfl ?_
        refine ac_get (q := 85) dX7_equation_82 fl_X7_20 (by assumption) rfl (ac_rdr rfl hM9.1.2.2.1) ?_
        refine ac_iload_n (q := 86) dX7_equation_85 rfl rfl ?_
        refine ac_csp (q := 89) (k_X7_isRegular (r := x + 3) (q := ac_eqn T (e : Int)) (d := d - 1) (by omega) k3 pE hE hq) ml_X7_188 dX7_equation_86 rfl rfl rfl (by omega) (Nat.le_of_ble_eq_true rfl) (Nat.zero_le _) (Nat.zero_le _) ?_
        letI := ac_regd (ac_eqn T (e : Int))
        refine ac_bif_eq (q := 92) (tgt := 96) dX7_equation_89 rfl rfl (fun h89 => ?_) (fun h89 => ?_)
        · refine ac_iconst (q := 97) dX7_equation_96 rfl ?_
          refine ac_ireturn dX7_equation_97 rfl (Nat.zero_le _) (Nat.zero_le _) ?_
          rw [if_neg (by decide), if_neg (by decide), if_pos rfl]
          first
            | exact ⟨ac_l1 h89, rfl, A0, F0⟩
            | exact ⟨ac_l0 h89, rfl, A0, F0⟩
        · refine ac_iconst (q := 93) dX7_equation_92 rfl ?_
          refine ac_goto (q := 97) dX7_equation_93 rfl ?_
          refine ac_ireturn dX7_equation_97 rfl (Nat.zero_le _) (Nat.zero_le _) ?_
          rw [if_neg (by decide), if_neg (by decide), if_pos rfl]
          first
            | exact ⟨ac_l1 h89, rfl, A0, F0⟩
            | exact ⟨ac_l0 h89, rfl, A0, F0⟩
      · refine ac_tabIn (off := 76) (tgt := 98) dX7_equation_22 ⟨by decide, by decide⟩ (by decide) (by decide) rfl rfl ?_
        refine ac_aload_n (q := 99) dX7_equation_98 rfl rfl ?_
        refine ac_iload_n (q := 100) dX7_equation_99 rfl rfl ?_
        refine ac_iconst (q := 101) dX7_equation_100 rfl ?_
        refine ac_cvp (q := 104) (k_X7_solutionAt (T := T) (q := ac_eqn T (e : Int)) (i := -1) (d := d - 1) (by omega) hM9 qP hq ⟨by decide, by decide⟩) ml_X7_192 (by assumption) dX7_equation_101 rfl rfl rfl (by omega) (Nat.le_of_ble_eq_true rfl) (Nat.zero_le _) (Nat.zero_le _) ?_
        refine ac_ireturn dX7_equation_104 rfl (Nat.zero_le _) (Nat.zero_le _) ?_
        rw [if_neg (by decide), if_neg (by decide), if_neg (by decide), if_pos rfl]; exact ⟨rfl, rfl, A0, F0⟩
  · refine ac_iconst (q := 14) dX7_equation_13 rfl ?_
    refine ac_ireturn dX7_equation_14 rfl (Nat.zero_le _) (Nat.zero_le _) ?_
    unfold ac_an_equation; rw [if_pos h10]; exact ⟨rfl, rfl, A0, F0⟩

set_option maxHeartbeats 8000000 in
theorem k_X7_solution {G : ac_G} {Y : ac_Y} {mm : ac_M} {d x : Nat} {s : List Nat} {T : ac_Tk} {hs : List ac_Tk} {s0 s1 : Option ac_Tk} {obs : List ac_Ob} {ch : Int} {e i : Int} (hd : 30 ≤ d) (hM : ac_isM Y x) (hR : ac_RM mm x s T hs s0 s1 obs ch) (he : ac_in e) (hi : ac_in i) : ac_C G yX7_solution cX7_solution 3 (some .int) d 0 0 Y mm [(2, (x : Int)), (0, e), (0, i)] (ac_R Y [(0, ac_an_solution T e i)] (fun m => ac_RM m x s T hs s0 s1 obs ch ∧ ac_fM mm m x)) := by
  have hM9 := hM
  obtain ⟨kx, k1, k2, k3, k4, k5, k6, k7, k8, k9, k10, k11, k12, k13, k14, k15, k16⟩ := hM.2
  obtain ⟨-, ⟨hkk, hPg⟩, -⟩ := id hR
  obtain ⟨⟨⟨hn1, hn2⟩, ⟨hk2, hk3⟩, hE, hp0, hpr, hc0⟩, -⟩ := id hPg
  have hE4 := hE.1
  have hLn := ac_Lt_len T hn2
  obtain ⟨he1, he2⟩ := he
  obtain ⟨hi1, hi2⟩ := id hi
  unfold ac_an_solution
  refine ac_met (on := (RX7, "solution")) rfl rfl (Nat.le_of_ble_eq_true rfl) (ls := [(2, (x : Int)), (0, e), (0, i)]) rfl ?_
  refine ac_aload_n (q := 1) dX7_solution_0 rfl rfl ?_
  refine ac_iconst (q := 2) dX7_solution_1 rfl ?_
  refine ac_put (q := 5) dX7_solution_2 fl_X7_67 (by assumption) rfl rfl ?_
  have A0 := ac_up0_RM hR
  have F0 : ac_fM mm (ac_up mm x 0 0) x := ac_up0_fM
  generalize ac_up mm x 0 0 = m0 at *
  obtain ⟨q4, qP⟩ := A0.2.1
  obtain ⟨-, p0, p1, pE, pp, p28, pcb, pcl⟩ := id qP
  refine ac_aload_n (q := 6) dX7_solution_5 rfl rfl ?_
  refine ac_iload_n (q := 7) dX7_solution_6 rfl rfl ?_
  refine ac_cvp (q := 10) (k_X7_noEquation (T := T) (e := e) (d := d - 1) (by omega) hM9 qP ⟨by omega, by omega⟩) ml_X7_185 (by assumption) dX7_solution_7 rfl rfl rfl (by omega) (Nat.le_of_ble_eq_true rfl) (Nat.zero_le _) (Nat.zero_le _) ?_
  refine ac_bif_eq (q := 13) (tgt := 15) dX7_solution_10 rfl rfl (fun h10 => ?_) (fun h10 => ?_)
  · have hin : 0 ≤ e ∧ e < (T.2.2.1.length : Int) := Decidable.not_not.mp h10
    rw [if_neg (fun q => q hin)]
    obtain ⟨e, rfl⟩ := Int.eq_ofNat_of_zero_le (a := e) (by omega)
    have hq := ac_eqn_get (T := T) (e := (e : Int)) ⟨by omega, by omega⟩
    simp only [Int.toNat_natCast] at hq
    have hsl := ac_sols_len (ac_eqn T (e : Int)) T.1 hn2
    obtain ⟨u0, u1, u2, u3⟩ := pE e _ hq
    have heL := (List.getElem?_eq_some_iff.mp hq).1
    refine ac_iload_n (q := 16) dX7_solution_15 rfl rfl ?_
    refine ac_i2l (q := 17) dX7_solution_16 rfl ⟨by omega, by omega⟩ ?_
    refine ac_lconst (q := 18) (v := 0) dX7_solution_17 rfl (by decide) ?_
    refine ac_aload_n (q := 19) dX7_solution_18 rfl rfl ?_
    refine ac_iload_n (q := 20) dX7_solution_19 rfl rfl ?_
    refine ac_iconst (q := 21) dX7_solution_20 rfl ?_
    refine ac_cvp (q := 24) (k_X7_solutionAt (T := T) (q := ac_eqn T (e : Int)) (i := -1) (d := d - 1) (by omega) hM9 qP hq ⟨by decide, by decide⟩) ml_X7_192 (by assumption) dX7_solution_21 rfl rfl rfl (by omega) (Nat.le_of_ble_eq_true rfl) (Nat.zero_le _) (Nat.zero_le _) ?_
    refine ac_top (w' := (0, ((ac_sols (ac_eqn T (e : Int)) T.1).length : Int))) (congrArg (fun z : Int => ((0 : Nat), z)) (by unfold ac_slr; rw [if_neg (by omega)])) ?_
    refine ac_iconst (q := 25) dX7_solution_24 rfl ?_
    refine ac_isub (q := 26) dX7_solution_25 rfl ?_
    refine ac_i2l (q := 27) dX7_solution_26 rfl ⟨by omega, by omega⟩ ?_
    refine ac_csp (q := 30) (k_X7_in (d := d - 1) (by omega) ⟨by omega, by omega⟩ ⟨by omega, by omega⟩ ⟨by omega, by omega⟩) ml_X7_72 dX7_solution_27 rfl rfl rfl (by omega) (Nat.le_of_ble_eq_true rfl) (Nat.zero_le _) (Nat.zero_le _) ?_
    refine ac_bif_eq (q := 33) (tgt := 42) dX7_solution_30 rfl rfl (fun h30 => ?_) (fun h30 => ?_)
    · refine ac_bipush (q := 44) dX7_solution_42 rfl (by decide) ?_
      refine ac_ireturn dX7_solution_44 rfl (Nat.zero_le _) (Nat.zero_le _) ?_
      first
        | (have hsv : ac_slr (ac_sols (ac_eqn T (e : Int)) T.1) i = ac_nth (ac_sols (ac_eqn T (e : Int)) T.1) i := by
             unfold ac_slr ac_nth
             rw [if_pos (by omega), if_pos (by omega), List.getD_eq_getElem?_getD, List.getElem?_eq_getElem (by omega)]; rfl
           rw [hsv]; exact ⟨rfl, rfl, A0, F0⟩)
        | (have hsv : ac_nth (ac_sols (ac_eqn T (e : Int)) T.1) i = -9 := by
             unfold ac_nth
             by_cases h0 : 0 ≤ i
             · rw [if_pos h0, List.getElem?_eq_none (by omega)]; rfl
             · rw [if_neg h0]
           rw [hsv]; exact ⟨rfl, rfl, A0, F0⟩)
    · refine ac_aload_n (q := 34) dX7_solution_33 rfl rfl ?_
      refine ac_iload_n (q := 35) dX7_solution_34 rfl rfl ?_
      refine ac_iload_n (q := 36) dX7_solution_35 rfl rfl ?_
      refine ac_cvp (q := 39) (k_X7_solutionAt (T := T) (q := ac_eqn T (e : Int)) (i := i) (d := d - 1) (by omega) hM9 qP hq hi) ml_X7_192 (by assumption) dX7_solution_36 rfl rfl rfl (by omega) (Nat.le_of_ble_eq_true rfl) (Nat.zero_le _) (Nat.zero_le _) ?_
      refine ac_goto (q := 44) dX7_solution_39 rfl ?_
      refine ac_ireturn dX7_solution_44 rfl (Nat.zero_le _) (Nat.zero_le _) ?_
      first
        | (have hsv : ac_slr (ac_sols (ac_eqn T (e : Int)) T.1) i = ac_nth (ac_sols (ac_eqn T (e : Int)) T.1) i := by
             unfold ac_slr ac_nth
             rw [if_pos (by omega), if_pos (by omega), List.getD_eq_getElem?_getD, List.getElem?_eq_getElem (by omega)]; rfl
           rw [hsv]; exact ⟨rfl, rfl, A0, F0⟩)
        | (have hsv : ac_nth (ac_sols (ac_eqn T (e : Int)) T.1) i = -9 := by
             unfold ac_nth
             by_cases h0 : 0 ≤ i
             · rw [if_pos h0, List.getElem?_eq_none (by omega)]; rfl
             · rw [if_neg h0]
           rw [hsv]; exact ⟨rfl, rfl, A0, F0⟩)
  · refine ac_iconst (q := 14) dX7_solution_13 rfl ?_
    refine ac_ireturn dX7_solution_14 rfl (Nat.zero_le _) (Nat.zero_le _) ?_
    rw [if_pos h10]; exact ⟨rfl, rfl, A0, F0⟩

set_option maxHeartbeats 8000000 in
theorem k_X7_number {G : ac_G} {Y : ac_Y} {mm : ac_M} {d x : Nat} {s : List Nat} {T : ac_Tk} {hs : List ac_Tk} {s0 s1 : Option ac_Tk} {obs : List ac_Ob} {ch : Int} {a w : Int} (hd : 30 ≤ d) (hM : ac_isM Y x) (hR : ac_RM mm x s T hs s0 s1 obs ch) (ha : ac_in a) (hw : ac_in w) : ac_C G yX7_number cX7_number 3 (some .int) d 0 0 Y mm [(2, (x : Int)), (0, a), (0, w)] (ac_R Y [(0, ac_an_number T a w)] (fun m => ac_RM m x s T hs s0 s1 obs ch ∧ ac_fM mm m x)) := by
  have hM9 := hM
  obtain ⟨kx, k1, k2, k3, k4, k5, k6, k7, k8, k9, k10, k11, k12, k13, k14, k15, k16⟩ := hM.2
  obtain ⟨-, ⟨hkk, hPg⟩, -⟩ := id hR
  obtain ⟨⟨⟨hn1, hn2⟩, ⟨hk2, hk3⟩, hE, hp0, hpr, hc0⟩, -⟩ := id hPg
  have hE4 := hE.1
  have hLn := ac_Lt_len T hn2
  obtain ⟨ha1, ha2⟩ := ha
  obtain ⟨hw1, hw2⟩ := hw
  refine ac_met (on := (RX7, "number")) rfl rfl (Nat.le_of_ble_eq_true rfl) (ls := [(2, (x : Int)), (0, a), (0, w)]) rfl ?_
  refine ac_aload_n (q := 1) dX7_number_0 rfl rfl ?_
  refine ac_iconst (q := 2) dX7_number_1 rfl ?_
  refine ac_put (q := 5) dX7_number_2 fl_X7_67 (by assumption) rfl rfl ?_
  have A0 := ac_up0_RM hR
  have F0 : ac_fM mm (ac_up mm x 0 0) x := ac_up0_fM
  generalize ac_up mm x 0 0 = m0 at *
  obtain ⟨q4, qP⟩ := A0.2.1
  obtain ⟨-, p0, p1, pE, pp, p28, pcb, pcl⟩ := id qP
  refine ac_aload_n (q := 6) dX7_number_5 rfl rfl ?_
  refine ac_iload_n (q := 7) dX7_number_6 rfl rfl ?_
  refine ac_cvp (q := 10) (k_X7_noNumber (T := T) (a := a) (d := d - 1) (by omega) hM9 qP ⟨by omega, by omega⟩) ml_X7_195 (by assumption) dX7_number_7 rfl rfl rfl (by omega) (Nat.le_of_ble_eq_true rfl) (Nat.zero_le _) (Nat.zero_le _) ?_
  refine ac_bif_eq (q := 13) (tgt := 15) dX7_number_10 rfl rfl (fun h10 => ?_) (fun h10 => ?_)
  · have hin : 1 ≤ a ∧ a ≤ (T.1 : Int) := Decidable.not_not.mp h10
    obtain ⟨a, rfl⟩ := Int.eq_ofNat_of_zero_le (a := a) (by omega)
    have hpa := hpr a
    have hppa := pp a (by omega) (by omega)
    unfold ac_an_number
    rw [if_neg (fun q => q hin)]
    simp only [Int.toNat_natCast]
    refine ac_iload_n (q := 16) dX7_number_15 rfl rfl ?_
    by_cases hsw : w < 0 ∨ 3 < w
    · refine ac_tabOut (tgt := 141) dX7_number_16 ⟨by omega, by omega⟩ hsw rfl ?_
      refine ac_bipush (q := 143) dX7_number_141 rfl (by decide) ?_
      refine ac_ireturn dX7_number_143 rfl (Nat.zero_le _) (Nat.zero_le _) ?_
      rw [if_neg (by omega), if_neg (by omega), if_neg (by omega), if_neg (by omega)]; exact ⟨rfl, rfl, A0, F0⟩
    · rcases (show w = 0 ∨ w = 1 ∨ w = 2 ∨ w = 3 by omega) with rfl | rfl | rfl | rfl
      · refine ac_tabIn (off := 32) (tgt := 48) dX7_number_16 ⟨by decide, by decide⟩ (by decide) (by decide) rfl rfl ?_
        refine ac_aload_n (q := 49) dX7_number_48 rfl rfl ?_
        refine ac_get (q := 52) dX7_number_49 fl_X7_20 (by assumption) rfl (ac_rdr rfl hM9.1.2.2.1) ?_
        refine ac_bipush (q := 54) dX7_number_52 rfl (by decide) ?_
        refine ac_ialoadN (q := 55) (j := 28) (v := ac_b (T.2.2.2.2.isSome = true)) dX7_number_54 k3 (by decide) (by decide) rfl p28 ?_
        refine ac_iconst (q := 56) dX7_number_55 rfl ?_
        refine ac_icmp_ne (q := 59) (tgt := 73) dX7_number_56 rfl rfl ac_bin ⟨by omega, by omega⟩ (fun h56 => ?_) (fun h56 => ?_)
        · have hcn : T.2.2.2.2 = none := by cases hc : T.2.2.2.2 with
            | none => rfl
            | some l => rw [hc] at h56; exact absurd rfl h56
          refine ac_bipush (q := 75) dX7_number_73 rfl (by decide) ?_
          refine ac_ireturn dX7_number_75 rfl (Nat.zero_le _) (Nat.zero_le _) ?_
          rw [if_pos rfl]
          first
            | (rw [hl]; exact ⟨rfl, rfl, A0, F0⟩)
            | (rw [hcn]; exact ⟨rfl, rfl, A0, F0⟩)
        · obtain ⟨l, hl⟩ : ∃ l, T.2.2.2.2 = some l := by
            cases hc : T.2.2.2.2 with
            | none => rw [hc] at h56; exact absurd h56 (by decide)
            | some l => exact ⟨l, rfl⟩
          obtain ⟨hl1, hl2⟩ := hc0 l hl
          have hg : l[a - 1]? = some (l.getD (a - 1) 0) := by rw [List.getD_eq_getElem?_getD, List.getElem?_eq_getElem (by omega)]; rfl
          refine ac_aload_n (q := 60) dX7_number_59 rfl rfl ?_
          refine ac_get (q := 63) dX7_number_60 fl_X7_20 (by assumption) rfl (ac_rdr rfl hM9.1.2.2.1) ?_
          refine ac_bipush (q := 65) dX7_number_63 rfl (by decide) ?_
          refine ac_iload_n (q := 66) dX7_number_65 rfl rfl ?_
          refine ac_iadd (q := 67) dX7_number_66 rfl ?_
          refine ac_iconst (q := 68) dX7_number_67 rfl ?_
          refine ac_isub (q := 69) dX7_number_68 rfl ?_
          refine ac_top (w' := (0, ((29 + (a - 1) : Nat) : Int))) (congrArg (fun z : Int => ((0 : Nat), z)) (by omega)) ?_
          refine ac_ialoadN (q := 70) (j := 29 + (a - 1)) (v := ((l.getD (a - 1) 0 : Nat) : Int)) dX7_number_69 k3 (by decide) (by omega) rfl (pcl l hl (a - 1) _ hg) ?_
          refine ac_goto (q := 75) dX7_number_70 rfl ?_
          refine ac_ireturn dX7_number_75 rfl (Nat.zero_le _) (Nat.zero_le _) ?_
          rw [if_pos rfl]
          first
            | (rw [hl]; exact ⟨rfl, rfl, A0, F0⟩)
            | (rw [hcn]; exact ⟨rfl, rfl, A0, F0⟩)
      · refine ac_tabIn (off := 60) (tgt := 76) dX7_number_16 ⟨by decide, by decide⟩ (by decide) (by decide) rfl rfl ?_
        refine ac_aload_n (q := 77) dX7_number_76 rfl rfl ?_
        refine ac_get (q := 80) dX7_number_77 fl_X7_20 (by assumption) rfl (ac_rdr rfl hM9.1.2.2.1) ?_
        refine ac_bipush (q := 82) dX7_number_80 rfl (by decide) ?_
        refine ac_iload_n (q := 83) dX7_number_82 rfl rfl ?_
        refine ac_iadd (q := 84) dX7_number_83 rfl ?_
        refine ac_iconst (q := 85) dX7_number_84 rfl ?_
        refine ac_isub (q := 86) dX7_number_85 rfl ?_
        refine ac_top (w' := (0, ((17 + a : Nat) : Int))) (congrArg (fun z : Int => ((0 : Nat), z)) (by omega)) ?_
        refine ac_ialoadN (q := 87) (j := 17 + a) (v := T.2.2.2.1 a + 1) dX7_number_86 k3 (by decide) (by omega) rfl hppa ?_
        refine ac_if_ne (q := 90) (tgt := 95) dX7_number_87 rfl rfl ⟨by omega, by omega⟩ (fun h87 => ?_) (fun h87 => ?_)
        · refine ac_aload_n (q := 96) dX7_number_95 rfl rfl ?_
          refine ac_get (q := 99) dX7_number_96 fl_X7_20 (by assumption) rfl (ac_rdr rfl hM9.1.2.2.1) ?_
          refine ac_bipush (q := 101) dX7_number_99 rfl (by decide) ?_
          refine ac_iload_n (q := 102) dX7_number_101 rfl rfl ?_
          refine ac_iadd (q := 103) dX7_number_102 rfl ?_
          refine ac_iconst (q := 104) dX7_number_103 rfl ?_
          refine ac_isub (q := 105) dX7_number_104 rfl ?_
          refine ac_top (w' := (0, ((17 + a : Nat) : Int))) (congrArg (fun z : Int => ((0 : Nat), z)) (by omega)) ?_
          refine ac_ialoadN (q := 106) (j := 17 + a) (v := T.2.2.2.1 a + 1) dX7_number_105 k3 (by decide) (by omega) rfl hppa ?_
          refine ac_iconst (q := 107) dX7_number_106 rfl ?_
          refine ac_isub (q := 108) dX7_number_107 rfl ?_
          refine ac_ireturn dX7_number_108 rfl (Nat.zero_le _) (Nat.zero_le _) ?_
          rw [if_neg (by decide), if_pos rfl]
          first
            | (rw [if_pos (by omega)]; exact ⟨rfl, rfl, A0, F0⟩)
            | (rw [if_neg (by omega)]; exact ⟨congrArg (fun z : Int => [((0 : Nat), z)]) (by omega), rfl, A0, F0⟩)
        · refine ac_bipush (q := 92) dX7_number_90 rfl (by decide) ?_
          refine ac_goto (q := 108) dX7_number_92 rfl ?_
          refine ac_ireturn dX7_number_108 rfl (Nat.zero_le _) (Nat.zero_le _) ?_
          rw [if_neg (by decide), if_pos rfl]
          first
            | (rw [if_pos (by omega)]; exact ⟨rfl, rfl, A0, F0⟩)
            | (rw [if_neg (by omega)]; exact ⟨congrArg (fun z : Int => [((0 : Nat), z)]) (by omega), rfl, A0, F0⟩)
      · refine ac_tabIn (off := 93) (tgt := 109) dX7_number_16 ⟨by decide, by decide⟩ (by decide) (by decide) rfl rfl ?_
        refine ac_aload_n (q := 110) dX7_number_109 rfl rfl ?_
        refine ac_aload_n (q := 111) dX7_number_110 rfl rfl ?_
        refine ac_get (q := 114) dX7_number_111 fl_X7_20 (by assumption) rfl (ac_rdr rfl hM9.1.2.2.1) ?_
        refine ac_iload_n (q := 115) dX7_number_114 rfl rfl ?_
        refine ac_cv (q := 118) (k_X7_mayBe (r := x + 3) (T := T) (a := a) (d := d - 1) (by omega) hM9 (Or.inl rfl) qP q4 ⟨by omega, by omega⟩) ml_X7_198 (by assumption) dX7_number_115 rfl rfl rfl (by omega) (Nat.le_of_ble_eq_true rfl) (Nat.zero_le _) (Nat.zero_le _) (fun m1 h1 => ?_)
        have A1 := ac_RM_fE A0 h1
        have F1 := ac_fM_t F0 (ac_fE_fM h1)
        refine ac_ireturn dX7_number_118 rfl (Nat.zero_le _) (Nat.zero_le _) ?_
        rw [if_neg (by decide), if_neg (by decide), if_pos rfl]; exact ⟨rfl, rfl, A1, F1⟩
      · refine ac_tabIn (off := 103) (tgt := 119) dX7_number_16 ⟨by decide, by decide⟩ (by decide) (by decide) rfl rfl ?_
        refine ac_aload_n (q := 120) dX7_number_119 rfl rfl ?_
        refine ac_aload_n (q := 121) dX7_number_120 rfl rfl ?_
        refine ac_get (q := 124) dX7_number_121 fl_X7_20 (by assumption) rfl (ac_rdr rfl hM9.1.2.2.1) ?_
        refine ac_iload_n (q := 125) dX7_number_124 rfl rfl ?_
        refine ac_cv (q := 128) (k_X7_mayBe (r := x + 3) (T := T) (a := a) (d := d - 1) (by omega) hM9 (Or.inl rfl) qP q4 ⟨by omega, by omega⟩) ml_X7_198 (by assumption) dX7_number_125 rfl rfl rfl (by omega) (Nat.le_of_ble_eq_true rfl) (Nat.zero_le _) (Nat.zero_le _) (fun m1 h1 => ?_)
        have A1 := ac_RM_fE A0 h1
        have F1 := ac_fM_t F0 (ac_fE_fM h1)
        have hcb : ac_cb (ac_Lt T) a < 2048 := Nat.lt_trans (ac_cb_lt (fun l hl c hc => by have := ((ac_Lt_mem hk3).mp hl).2.1 c hc; omega)) (by decide)
        have hb12 := ac_bits_le (ac_cb (ac_Lt T) a)
        refine ac_csp (q := 131) (k_X7_ones (d := d - 1) (by omega) (by omega)) ml_X7_201 dX7_number_128 rfl rfl rfl (by omega) (Nat.le_of_ble_eq_true rfl) (Nat.zero_le _) (Nat.zero_le _) ?_
        refine ac_iconst (q := 132) dX7_number_131 rfl ?_
        refine ac_icmp_ne (q := 135) (tgt := 139) dX7_number_132 rfl rfl ⟨by omega, by omega⟩ ⟨by omega, by omega⟩ (fun h132 => ?_) (fun h132 => ?_)
        · refine ac_iconst (q := 140) dX7_number_139 rfl ?_
          refine ac_ireturn dX7_number_140 rfl (Nat.zero_le _) (Nat.zero_le _) ?_
          rw [if_neg (by decide), if_neg (by decide), if_neg (by decide), if_pos rfl]
          first
            | exact ⟨ac_l1 (by omega), rfl, A1, F1⟩
            | exact ⟨ac_l0 (by omega), rfl, A1, F1⟩
        · refine ac_iconst (q := 136) dX7_number_135 rfl ?_
          refine ac_goto (q := 140) dX7_number_136 rfl ?_
          refine ac_ireturn dX7_number_140 rfl (Nat.zero_le _) (Nat.zero_le _) ?_
          rw [if_neg (by decide), if_neg (by decide), if_neg (by decide), if_pos rfl]
          first
            | exact ⟨ac_l1 (by omega), rfl, A1, F1⟩
            | exact ⟨ac_l0 (by omega), rfl, A1, F1⟩
  · refine ac_iconst (q := 14) dX7_number_13 rfl ?_
    refine ac_ireturn dX7_number_14 rfl (Nat.zero_le _) (Nat.zero_le _) ?_
    unfold ac_an_number; rw [if_pos h10]; exact ⟨rfl, rfl, A0, F0⟩
