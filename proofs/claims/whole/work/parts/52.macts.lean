set_option maxHeartbeats 8000000 in
theorem k_X7_reach {G : ac_G} {Y : ac_Y} {mm : ac_M} {d x : Nat} {s : List Nat} {T : ac_Tk} {hs : List ac_Tk} {s0 s1 : Option ac_Tk} {obs : List ac_Ob} {ch : Int} {v : Int} (hd : 30 ≤ d) (hM : ac_isM Y x) (hR : ac_RM mm x s T hs s0 s1 obs ch) (hv : ac_in v) : ac_C G yX7_reach cX7_reach 2 (some .int) d 0 0 Y mm [(2, (x : Int)), (0, v)] (ac_R Y [(0, (if 1 ≤ v ∧ v ≤ 10 then ((ac_Lt (ac_t_reach T v.toNat)).length : Int) else -2))] (fun m => ac_RM m x s (if 1 ≤ v ∧ v ≤ 10 then ac_t_reach T v.toNat else T) (if 1 ≤ v ∧ v ≤ 10 then ac_push T hs else hs) s0 s1 obs ch ∧ ac_fM mm m x)) := by
  have hM9 := hM
  obtain ⟨kx, k1, k2, k3, k4, k5, k6, k7, k8, k9, k10, k11, k12, k13, k14, k15, k16⟩ := hM.2
  obtain ⟨-, ⟨hkk, hPg⟩, -⟩ := id hR
  obtain ⟨⟨⟨hn1, hn2⟩, ⟨hk2, hk3⟩, hE, hp0, hpr, hc0⟩, -⟩ := id hPg
  have hE4 := hE.1
  have hLn := ac_Lt_len T hn2
  obtain ⟨hv1, hv2⟩ := hv
  refine ac_met (on := (RX7, "reach")) rfl rfl (Nat.le_of_ble_eq_true rfl) (ls := [(2, (x : Int)), (0, v)]) rfl ?_
  refine ac_aload_n (q := 1) dX7_reach_0 rfl rfl ?_
  refine ac_iconst (q := 2) dX7_reach_1 rfl ?_
  refine ac_put (q := 5) dX7_reach_2 fl_X7_67 (by assumption) rfl rfl ?_
  have A0 := ac_up0_RM hR
  have F0 : ac_fM mm (ac_up mm x 0 0) x := ac_up0_fM
  generalize ac_up mm x 0 0 = m0 at *
  obtain ⟨q4, qP⟩ := A0.2.1
  obtain ⟨-, p0, p1, pE, pp, p28, pcb, pcl⟩ := id qP
  refine ac_iload_n (q := 6) dX7_reach_5 rfl rfl ?_
  refine ac_i2l (q := 7) dX7_reach_6 rfl ⟨by omega, by omega⟩ ?_
  refine ac_lconst (q := 8) (v := 1) dX7_reach_7 rfl (by decide) ?_
  refine ac_ldc2_w (q := 11) (v := 10) dX7_reach_8 rfl ct_X7_215 ?_
  refine ac_csp (q := 14) (k_X7_in (d := d - 1) (by omega) ⟨by omega, by omega⟩ ⟨by omega, by omega⟩ ⟨by omega, by omega⟩) ml_X7_72 dX7_reach_11 rfl rfl rfl (by omega) (Nat.le_of_ble_eq_true rfl) (Nat.zero_le _) (Nat.zero_le _) ?_
  refine ac_bif_ne (q := 17) (tgt := 20) dX7_reach_14 rfl rfl (fun h14 => ?_) (fun h14 => ?_)
  · obtain ⟨v, rfl⟩ := Int.eq_ofNat_of_zero_le (a := v) (by omega)
    simp only [Int.toNat_natCast]
    refine ac_aload_n (q := 21) dX7_reach_20 rfl rfl ?_
    refine ac_cv (q := 24) (k_X7_note (d := d - 1) (by omega) hM9 A0) ml_X7_205 (by assumption) dX7_reach_21 rfl rfl rfl (by omega) (Nat.le_of_ble_eq_true rfl) (Nat.zero_le _) (Nat.zero_le _) (fun m2 h2 => ?_)
    obtain ⟨A2, x2, f2⟩ := h2
    have F2 : ac_fM mm m2 x := ac_fM_t F0 (fun k' hk' => f2 k' (by omega) (by omega))
    obtain ⟨n4, nP⟩ := A2.2.1
    refine ac_aload_n (q := 25) dX7_reach_24 rfl rfl ?_
    refine ac_aload_n (q := 26) dX7_reach_25 rfl rfl ?_
    refine ac_get (q := 29) dX7_reach_26 fl_X7_20 (by assumption) rfl (ac_rdr rfl hM9.1.2.2.1) ?_
    refine ac_iload_n (q := 30) dX7_reach_29 rfl rfl ?_
    refine ac_cv (q := 33) (k_X7_reachOn (r := x + 3) (T := T) (n := v) (d := d - 1) (by omega) hM9 (Or.inl rfl) nP n4 ⟨by omega, by omega⟩) ml_X7_217 (by assumption) dX7_reach_30 rfl rfl rfl (by omega) (Nat.le_of_ble_eq_true rfl) (Nat.zero_le _) (Nat.zero_le _) (fun m3 h3 => ?_)
    obtain ⟨g3, e3⟩ := h3
    have A3 := ac_RM_p A2 g3 (by unfold ac_t_reach; exact ac_stl_same.2.1) (fun k' hk' => e3.1 k' (by omega) (by omega) (by omega)) (fun j hj => e3.2 j (by omega))
    have F3 : ac_fM mm m3 x := ac_fM_t F2 (ac_fEr_fM (Or.inl rfl) e3)
    refine ac_aload_n (q := 34) dX7_reach_33 rfl rfl ?_
    refine ac_aload_n (q := 35) dX7_reach_34 rfl rfl ?_
    refine ac_get (q := 38) dX7_reach_35 fl_X7_20 (by assumption) rfl (ac_rdr rfl hM9.1.2.2.1) ?_
    refine ac_cv (q := 41) (k_X7_manyOf (r := x + 3) (d := d - 1) (by omega) hM9 (Or.inl rfl) A3.2.1.2 A3.2.1.1) ml_X7_118 (by assumption) dX7_reach_38 rfl rfl rfl (by omega) (Nat.le_of_ble_eq_true rfl) (Nat.zero_le _) (Nat.zero_le _) (fun m4 h4 => ?_)
    have A4 := ac_RM_fE A3 h4
    have F4 := ac_fM_t F3 (ac_fE_fM h4)
    refine ac_ireturn dX7_reach_41 rfl (Nat.zero_le _) (Nat.zero_le _) ?_
    rw [if_pos h14, if_pos h14, if_pos h14]; exact ⟨rfl, rfl, A4, F4⟩
  · refine ac_bipush (q := 19) dX7_reach_17 rfl (by decide) ?_
    refine ac_ireturn dX7_reach_19 rfl (Nat.zero_le _) (Nat.zero_le _) ?_
    rw [if_neg h14, if_neg h14, if_neg h14]; exact ⟨rfl, rfl, A0, F0⟩

set_option maxHeartbeats 8000000 in
theorem k_X7_add {G : ac_G} {Y : ac_Y} {mm : ac_M} {d x : Nat} {s : List Nat} {T : ac_Tk} {hs : List ac_Tk} {s0 s1 : Option ac_Tk} {obs : List ac_Ob} {ch : Int} {a b c e : Int} (hd : 30 ≤ d) (hM : ac_isM Y x) (hR : ac_RM mm x s T hs s0 s1 obs ch) (ha : ac_in a) (hb : ac_in b) (hc : ac_in c) (he : ac_in e) : ac_C G yX7_add cX7_add 6 (some .int) d 0 0 Y mm [(2, (x : Int)), (0, a), (0, b), (0, c), (0, e)] (ac_R Y [(0, (if ¬ (((-4 ≤ a ∧ a ≤ 4) ∧ a ≠ 0) ∧ ((-4 ≤ b ∧ b ≤ 4) ∧ b ≠ 0) ∧ ((-4 ≤ c ∧ c ≤ 4) ∧ c ≠ 0) ∧ (0 ≤ e ∧ e ≤ 1)) then -2 else if 4 ≤ T.2.2.1.length then -4 else ((ac_Lt (ac_t_add T (a, b, c, e))).length : Int)))] (fun m => ac_RM m x s (if ¬ (((-4 ≤ a ∧ a ≤ 4) ∧ a ≠ 0) ∧ ((-4 ≤ b ∧ b ≤ 4) ∧ b ≠ 0) ∧ ((-4 ≤ c ∧ c ≤ 4) ∧ c ≠ 0) ∧ (0 ≤ e ∧ e ≤ 1)) then T else if 4 ≤ T.2.2.1.length then T else ac_t_add T (a, b, c, e)) (if ¬ (((-4 ≤ a ∧ a ≤ 4) ∧ a ≠ 0) ∧ ((-4 ≤ b ∧ b ≤ 4) ∧ b ≠ 0) ∧ ((-4 ≤ c ∧ c ≤ 4) ∧ c ≠ 0) ∧ (0 ≤ e ∧ e ≤ 1)) then hs else if 4 ≤ T.2.2.1.length then hs else ac_push T hs) s0 s1 obs ch ∧ ac_fM mm m x)) := by
  have hM9 := hM
  obtain ⟨kx, k1, k2, k3, k4, k5, k6, k7, k8, k9, k10, k11, k12, k13, k14, k15, k16⟩ := hM.2
  obtain ⟨-, ⟨hkk, hPg⟩, -⟩ := id hR
  obtain ⟨⟨⟨hn1, hn2⟩, ⟨hk2, hk3⟩, hE, hp0, hpr, hc0⟩, -⟩ := id hPg
  have hE4 := hE.1
  have hLn := ac_Lt_len T hn2
  obtain ⟨ha1, ha2⟩ := ha
  obtain ⟨hb1, hb2⟩ := hb
  obtain ⟨hc1, hc2⟩ := hc
  obtain ⟨he1, he2⟩ := he
  refine ac_met (on := (RX7, "add")) rfl rfl (Nat.le_of_ble_eq_true rfl) (ls := [(2, (x : Int)), (0, a), (0, b), (0, c), (0, e), (3, 0)]) rfl ?_
  refine ac_aload_n (q := 1) dX7_add_0 rfl rfl ?_
  refine ac_iconst (q := 2) dX7_add_1 rfl ?_
  refine ac_put (q := 5) dX7_add_2 fl_X7_67 (by assumption) rfl rfl ?_
  have A0 := ac_up0_RM hR
  have F0 : ac_fM mm (ac_up mm x 0 0) x := ac_up0_fM
  generalize ac_up mm x 0 0 = m0 at *
  obtain ⟨q4, qP⟩ := A0.2.1
  obtain ⟨-, p0, p1, pE, pp, p28, pcb, pcl⟩ := id qP
  refine ac_iload_n (q := 6) dX7_add_5 rfl rfl ?_
  refine ac_csp (q := 9) (k_X7_isFactor (d := d - 1) (by omega) ⟨by omega, by omega⟩) ml_X7_222 dX7_add_6 rfl rfl rfl (by omega) (Nat.le_of_ble_eq_true rfl) (Nat.zero_le _) (Nat.zero_le _) ?_
  refine ac_bif_eq (q := 12) (tgt := 37) dX7_add_9 rfl rfl (fun h9 => ?_) (fun h9 => ?_)
  · refine ac_bipush (q := 39) dX7_add_37 rfl (by decide) ?_
    refine ac_ireturn dX7_add_39 rfl (Nat.zero_le _) (Nat.zero_le _) ?_
    have hno : ¬ (((-4 ≤ a ∧ a ≤ 4) ∧ a ≠ 0) ∧ ((-4 ≤ b ∧ b ≤ 4) ∧ b ≠ 0) ∧ ((-4 ≤ c ∧ c ≤ 4) ∧ c ≠ 0) ∧ (0 ≤ e ∧ e ≤ 1)) := fun q => by omega
    rw [if_pos hno, if_pos hno, if_pos hno]; exact ⟨rfl, rfl, A0, F0⟩
  · refine ac_iload_n (q := 13) dX7_add_12 rfl rfl ?_
    refine ac_csp (q := 16) (k_X7_isFactor (d := d - 1) (by omega) ⟨by omega, by omega⟩) ml_X7_222 dX7_add_13 rfl rfl rfl (by omega) (Nat.le_of_ble_eq_true rfl) (Nat.zero_le _) (Nat.zero_le _) ?_
    refine ac_bif_eq (q := 19) (tgt := 37) dX7_add_16 rfl rfl (fun h16 => ?_) (fun h16 => ?_)
    · refine ac_bipush (q := 39) dX7_add_37 rfl (by decide) ?_
      refine ac_ireturn dX7_add_39 rfl (Nat.zero_le _) (Nat.zero_le _) ?_
      have hno : ¬ (((-4 ≤ a ∧ a ≤ 4) ∧ a ≠ 0) ∧ ((-4 ≤ b ∧ b ≤ 4) ∧ b ≠ 0) ∧ ((-4 ≤ c ∧ c ≤ 4) ∧ c ≠ 0) ∧ (0 ≤ e ∧ e ≤ 1)) := fun q => by omega
      rw [if_pos hno, if_pos hno, if_pos hno]; exact ⟨rfl, rfl, A0, F0⟩
    · refine ac_iload_n (q := 20) dX7_add_19 rfl rfl ?_
      refine ac_csp (q := 23) (k_X7_isFactor (d := d - 1) (by omega) ⟨by omega, by omega⟩) ml_X7_222 dX7_add_20 rfl rfl rfl (by omega) (Nat.le_of_ble_eq_true rfl) (Nat.zero_le _) (Nat.zero_le _) ?_
      refine ac_bif_eq (q := 26) (tgt := 37) dX7_add_23 rfl rfl (fun h23 => ?_) (fun h23 => ?_)
      · refine ac_bipush (q := 39) dX7_add_37 rfl (by decide) ?_
        refine ac_ireturn dX7_add_39 rfl (Nat.zero_le _) (Nat.zero_le _) ?_
        have hno : ¬ (((-4 ≤ a ∧ a ≤ 4) ∧ a ≠ 0) ∧ ((-4 ≤ b ∧ b ≤ 4) ∧ b ≠ 0) ∧ ((-4 ≤ c ∧ c ≤ 4) ∧ c ≠ 0) ∧ (0 ≤ e ∧ e ≤ 1)) := fun q => by omega
        rw [if_pos hno, if_pos hno, if_pos hno]; exact ⟨rfl, rfl, A0, F0⟩
      · refine ac_iload (q := 28) dX7_add_26 rfl rfl ?_
        refine ac_i2l (q := 29) dX7_add_28 rfl ⟨by omega, by omega⟩ ?_
        refine ac_lconst (q := 30) (v := 0) dX7_add_29 rfl (by decide) ?_
        refine ac_lconst (q := 31) (v := 1) dX7_add_30 rfl (by decide) ?_
        refine ac_csp (q := 34) (k_X7_in (d := d - 1) (by omega) ⟨by omega, by omega⟩ ⟨by omega, by omega⟩ ⟨by omega, by omega⟩) ml_X7_72 dX7_add_31 rfl rfl rfl (by omega) (Nat.le_of_ble_eq_true rfl) (Nat.zero_le _) (Nat.zero_le _) ?_
        refine ac_bif_ne (q := 37) (tgt := 40) dX7_add_34 rfl rfl (fun h34 => ?_) (fun h34 => ?_)
        · refine ac_aload_n (q := 41) dX7_add_40 rfl rfl ?_
          refine ac_get (q := 44) dX7_add_41 fl_X7_20 (by assumption) rfl (ac_rdr rfl hM9.1.2.2.1) ?_
          refine ac_iconst (q := 45) dX7_add_44 rfl ?_
          refine ac_ialoadN (q := 46) (j := 1) (v := (T.2.2.1.length : Int)) dX7_add_45 k3 (by decide) (by decide) rfl p1 ?_
          refine ac_iconst (q := 47) dX7_add_46 rfl ?_
          refine ac_icmp_ne (q := 50) (tgt := 53) dX7_add_47 rfl rfl ⟨by omega, by omega⟩ ⟨by omega, by omega⟩ (fun h47 => ?_) (fun h47 => ?_)
          · refine ac_aload_n (q := 54) dX7_add_53 rfl rfl ?_
            refine ac_cv (q := 57) (k_X7_note (d := d - 1) (by omega) hM9 A0) ml_X7_205 (by assumption) dX7_add_54 rfl rfl rfl (by omega) (Nat.le_of_ble_eq_true rfl) (Nat.zero_le _) (Nat.zero_le _) (fun m2 h2 => ?_)
            obtain ⟨A2, x2, f2⟩ := h2
            have F2 : ac_fM mm m2 x := ac_fM_t F0 (fun k' hk' => f2 k' (by omega) (by omega))
            obtain ⟨n4, nP⟩ := A2.2.1
            refine ac_iconst (q := 58) dX7_add_57 rfl ?_
            refine ac_iconst (q := 59) dX7_add_58 rfl ?_
            refine ac_aload_n (q := 60) dX7_add_59 rfl rfl ?_
            refine ac_get (q := 63) dX7_add_60 fl_X7_20 (by assumption) rfl (ac_rdr rfl hM9.1.2.2.1) ?_
            refine ac_iconst (q := 64) dX7_add_63 rfl ?_
            refine ac_ialoadN (q := 65) (j := 1) (v := (T.2.2.1.length : Int)) dX7_add_64 k3 (by decide) (by decide) rfl nP.2.2.1 ?_
            refine ac_imul (q := 66) dX7_add_65 rfl ?_
            refine ac_iadd (q := 67) dX7_add_66 rfl ?_
            refine ac_top (w' := (0, ((2 + 4 * T.2.2.1.length : Nat) : Int))) (congrArg (fun z : Int => ((0 : Nat), z)) (by omega)) ?_
            refine ac_istore (q := 69) dX7_add_67 rfl (Nat.le_of_ble_eq_true rfl) rfl rfl ?_
            simp only [List.set_cons_succ, List.set_cons_zero]
            refine ac_aload_n (q := 70) dX7_add_69 rfl rfl ?_
            refine ac_get (q := 73) dX7_add_70 fl_X7_20 (by assumption) rfl (ac_rdr rfl hM9.1.2.2.1) ?_
            refine ac_iload (q := 75) dX7_add_73 rfl rfl ?_
            refine ac_iload_n (q := 76) dX7_add_75 rfl rfl ?_
            refine ac_iastoreN (q := 77) (j := 2 + 4 * T.2.2.1.length) dX7_add_76 k3 (by decide) (by omega) rfl ?_
            refine ac_aload_n (q := 78) dX7_add_77 rfl rfl ?_
            refine ac_get (q := 81) dX7_add_78 fl_X7_20 (by assumption) rfl (ac_rdr rfl hM9.1.2.2.1) ?_
            refine ac_iload (q := 83) dX7_add_81 rfl rfl ?_
            refine ac_iconst (q := 84) dX7_add_83 rfl ?_
            refine ac_iadd (q := 85) dX7_add_84 rfl ?_
            refine ac_top (w' := (0, ((2 + 4 * T.2.2.1.length + 1 : Nat) : Int))) (congrArg (fun z : Int => ((0 : Nat), z)) (by omega)) ?_
            refine ac_iload_n (q := 86) dX7_add_85 rfl rfl ?_
            refine ac_iastoreN (q := 87) (j := 2 + 4 * T.2.2.1.length + 1) dX7_add_86 k3 (by decide) (by omega) rfl ?_
            refine ac_aload_n (q := 88) dX7_add_87 rfl rfl ?_
            refine ac_get (q := 91) dX7_add_88 fl_X7_20 (by assumption) rfl (ac_rdr rfl hM9.1.2.2.1) ?_
            refine ac_iload (q := 93) dX7_add_91 rfl rfl ?_
            refine ac_iconst (q := 94) dX7_add_93 rfl ?_
            refine ac_iadd (q := 95) dX7_add_94 rfl ?_
            refine ac_top (w' := (0, ((2 + 4 * T.2.2.1.length + 2 : Nat) : Int))) (congrArg (fun z : Int => ((0 : Nat), z)) (by omega)) ?_
            refine ac_iload_n (q := 96) dX7_add_95 rfl rfl ?_
            refine ac_iastoreN (q := 97) (j := 2 + 4 * T.2.2.1.length + 2) dX7_add_96 k3 (by decide) (by omega) rfl ?_
            refine ac_aload_n (q := 98) dX7_add_97 rfl rfl ?_
            refine ac_get (q := 101) dX7_add_98 fl_X7_20 (by assumption) rfl (ac_rdr rfl hM9.1.2.2.1) ?_
            refine ac_iload (q := 103) dX7_add_101 rfl rfl ?_
            refine ac_iconst (q := 104) dX7_add_103 rfl ?_
            refine ac_iadd (q := 105) dX7_add_104 rfl ?_
            refine ac_top (w' := (0, ((2 + 4 * T.2.2.1.length + 3 : Nat) : Int))) (congrArg (fun z : Int => ((0 : Nat), z)) (by omega)) ?_
            refine ac_iload (q := 107) dX7_add_105 rfl rfl ?_
            refine ac_iastoreN (q := 108) (j := 2 + 4 * T.2.2.1.length + 3) dX7_add_107 k3 (by decide) (by omega) rfl ?_
            refine ac_aload_n (q := 109) dX7_add_108 rfl rfl ?_
            refine ac_get (q := 112) dX7_add_109 fl_X7_20 (by assumption) rfl (ac_rdr rfl hM9.1.2.2.1) ?_
            refine ac_iconst (q := 113) dX7_add_112 rfl ?_
            refine ac_dup2_11 (q := 114) dX7_add_113 rfl (show (0 : Nat) ≠ 1 by decide) (show (2 : Nat) ≠ 1 by decide) ?_
            refine ac_ialoadN (q := 115) (j := 1) (v := (T.2.2.1.length : Int)) dX7_add_114 k3 (by decide) (by decide) rfl (by rw [ac_up_j (by omega), ac_up_j (by omega), ac_up_j (by omega), ac_up_j (by omega)]; exact nP.2.2.1) ?_
            refine ac_iconst (q := 116) dX7_add_115 rfl ?_
            refine ac_iadd (q := 117) dX7_add_116 rfl ?_
            refine ac_iastoreN (q := 118) (j := 1) dX7_add_117 (by assumption) (by decide) (by decide) rfl ?_
            have hP3 : ac_RP (ac_up (ac_up (ac_up (ac_up (ac_up m2 (x + 3) (2 + 4 * T.2.2.1.length) a) (x + 3) (2 + 4 * T.2.2.1.length + 1) b) (x + 3) (2 + 4 * T.2.2.1.length + 2) c) (x + 3) (2 + 4 * T.2.2.1.length + 3) e) (x + 3) 1 ((T.2.2.1.length : Int) + 1)) (x + 3) (T.1, T.2.1, T.2.2.1 ++ [(a, b, c, e)], T.2.2.2.1, T.2.2.2.2) := ac_RP_add nP (by omega) ⟨h9, h16, h23, (show e = 0 ∨ e = 1 by omega)⟩ (fun j => by unfold ac_up; simp)
            have hf3 : ∀ k', k' ≠ x + 3 → ac_up (ac_up (ac_up (ac_up (ac_up m2 (x + 3) (2 + 4 * T.2.2.1.length) a) (x + 3) (2 + 4 * T.2.2.1.length + 1) b) (x + 3) (2 + 4 * T.2.2.1.length + 2) c) (x + 3) (2 + 4 * T.2.2.1.length + 3) e) (x + 3) 1 ((T.2.2.1.length : Int) + 1) k' = m2 k' := fun k' h => by funext j; rw [ac_up_k h, ac_up_k h, ac_up_k h, ac_up_k h, ac_up_k h]
            generalize ac_up (ac_up (ac_up (ac_up (ac_up m2 (x + 3) (2 + 4 * T.2.2.1.length) a) (x + 3) (2 + 4 * T.2.2.1.length + 1) b) (x + 3) (2 + 4 * T.2.2.1.length + 2) c) (x + 3) (2 + 4 * T.2.2.1.length + 3) e) (x + 3) 1 ((T.2.2.1.length : Int) + 1) = m3 at *
            refine ac_aload_n (q := 119) dX7_add_118 rfl rfl ?_
            refine ac_aload_n (q := 120) dX7_add_119 rfl rfl ?_
            refine ac_get (q := 123) dX7_add_120 fl_X7_20 (by assumption) rfl (ac_rdr rfl hM9.1.2.2.1) ?_
            refine ac_cv (q := 126) (k_X7_settleOn (r := x + 3) (T := (T.1, T.2.1, T.2.2.1 ++ [(a, b, c, e)], T.2.2.2.1, T.2.2.2.2)) (d := d - 1) (by omega) hM9 (Or.inl rfl) hP3 (by rw [hf3 x (by omega)]; exact n4)) ml_X7_111 (by assumption) dX7_add_123 rfl rfl rfl (by omega) (Nat.le_of_ble_eq_true rfl) (Nat.zero_le _) (Nat.zero_le _) (fun m4 h4 => ?_)
            obtain ⟨g4, e4'⟩ := h4
            have A4 := ac_RM_p (T' := ac_stl (T.1, T.2.1, T.2.2.1 ++ [(a, b, c, e)], T.2.2.2.1, T.2.2.2.2)) A2 g4 (by exact ac_stl_same.2.1) (fun k' hk' => by rw [e4'.1 k' (by omega) (by omega) (by omega), hf3 k' (by omega)]) (fun j hj => by rw [e4'.2 j (by omega), hf3 x (by omega)])
            have F4 : ac_fM mm m4 x := ac_fM_t F2 (fun k' hk' => by rw [e4'.1 k' (by omega) (by omega) (by omega), hf3 k' (by omega)])
            refine ac_aload_n (q := 127) dX7_add_126 rfl rfl ?_
            refine ac_aload_n (q := 128) dX7_add_127 rfl rfl ?_
            refine ac_get (q := 131) dX7_add_128 fl_X7_20 (by assumption) rfl (ac_rdr rfl hM9.1.2.2.1) ?_
            refine ac_cv (q := 134) (k_X7_manyOf (r := x + 3) (d := d - 1) (by omega) hM9 (Or.inl rfl) A4.2.1.2 A4.2.1.1) ml_X7_118 (by assumption) dX7_add_131 rfl rfl rfl (by omega) (Nat.le_of_ble_eq_true rfl) (Nat.zero_le _) (Nat.zero_le _) (fun m5 h5 => ?_)
            have A5 := ac_RM_fE A4 h5
            have F5 := ac_fM_t F4 (ac_fE_fM h5)
            refine ac_ireturn dX7_add_134 rfl (Nat.zero_le _) (Nat.zero_le _) ?_
            have hyes : ¬ ¬ (((-4 ≤ a ∧ a ≤ 4) ∧ a ≠ 0) ∧ ((-4 ≤ b ∧ b ≤ 4) ∧ b ≠ 0) ∧ ((-4 ≤ c ∧ c ≤ 4) ∧ c ≠ 0) ∧ (0 ≤ e ∧ e ≤ 1)) := fun q => q (by omega)
            have h4le : ¬ 4 ≤ T.2.2.1.length := by omega
            rw [if_neg hyes, if_neg hyes, if_neg hyes, if_neg h4le, if_neg h4le, if_neg h4le]
            exact ⟨rfl, rfl, A5, F5⟩
          · refine ac_bipush (q := 52) dX7_add_50 rfl (by decide) ?_
            refine ac_ireturn dX7_add_52 rfl (Nat.zero_le _) (Nat.zero_le _) ?_
            have hyes : ¬ ¬ (((-4 ≤ a ∧ a ≤ 4) ∧ a ≠ 0) ∧ ((-4 ≤ b ∧ b ≤ 4) ∧ b ≠ 0) ∧ ((-4 ≤ c ∧ c ≤ 4) ∧ c ≠ 0) ∧ (0 ≤ e ∧ e ≤ 1)) := fun q => q (by omega)
            have h4le : 4 ≤ T.2.2.1.length := by omega
            rw [if_neg hyes, if_neg hyes, if_neg hyes, if_pos h4le, if_pos h4le, if_pos h4le]; exact ⟨rfl, rfl, A0, F0⟩
        · refine ac_bipush (q := 39) dX7_add_37 rfl (by decide) ?_
          refine ac_ireturn dX7_add_39 rfl (Nat.zero_le _) (Nat.zero_le _) ?_
          have hno : ¬ (((-4 ≤ a ∧ a ≤ 4) ∧ a ≠ 0) ∧ ((-4 ≤ b ∧ b ≤ 4) ∧ b ≠ 0) ∧ ((-4 ≤ c ∧ c ≤ 4) ∧ c ≠ 0) ∧ (0 ≤ e ∧ e ≤ 1)) := fun q => by omega
          rw [if_pos hno, if_pos hno, if_pos hno]; exact ⟨rfl, rfl, A0, F0⟩

set_option maxHeartbeats 8000000 in
theorem k_X7_drop {G : ac_G} {Y : ac_Y} {mm : ac_M} {d x : Nat} {s : List Nat} {T : ac_Tk} {hs : List ac_Tk} {s0 s1 : Option ac_Tk} {obs : List ac_Ob} {ch : Int} (hd : 30 ≤ d) (hM : ac_isM Y x) (hR : ac_RM mm x s T hs s0 s1 obs ch)  : ac_C G yX7_drop cX7_drop 1 (some .int) d 0 0 Y mm [(2, (x : Int))] (ac_R Y [(0, (if T.2.2.1.length = 0 then -3 else ((ac_Lt (ac_t_drop T)).length : Int)))] (fun m => ac_RM m x s (if T.2.2.1.length = 0 then T else ac_t_drop T) (if T.2.2.1.length = 0 then hs else ac_push T hs) s0 s1 obs ch ∧ ac_fM mm m x)) := by
  have hM9 := hM
  obtain ⟨kx, k1, k2, k3, k4, k5, k6, k7, k8, k9, k10, k11, k12, k13, k14, k15, k16⟩ := hM.2
  obtain ⟨-, ⟨hkk, hPg⟩, -⟩ := id hR
  obtain ⟨⟨⟨hn1, hn2⟩, ⟨hk2, hk3⟩, hE, hp0, hpr, hc0⟩, -⟩ := id hPg
  have hE4 := hE.1
  have hLn := ac_Lt_len T hn2
  refine ac_met (on := (RX7, "drop")) rfl rfl (Nat.le_of_ble_eq_true rfl) (ls := [(2, (x : Int))]) rfl ?_
  refine ac_aload_n (q := 1) dX7_drop_0 rfl rfl ?_
  refine ac_iconst (q := 2) dX7_drop_1 rfl ?_
  refine ac_put (q := 5) dX7_drop_2 fl_X7_67 (by assumption) rfl rfl ?_
  have A0 := ac_up0_RM hR
  have F0 : ac_fM mm (ac_up mm x 0 0) x := ac_up0_fM
  generalize ac_up mm x 0 0 = m0 at *
  obtain ⟨q4, qP⟩ := A0.2.1
  obtain ⟨-, p0, p1, pE, pp, p28, pcb, pcl⟩ := id qP
  refine ac_aload_n (q := 6) dX7_drop_5 rfl rfl ?_
  refine ac_get (q := 9) dX7_drop_6 fl_X7_20 (by assumption) rfl (ac_rdr rfl hM9.1.2.2.1) ?_
  refine ac_iconst (q := 10) dX7_drop_9 rfl ?_
  refine ac_ialoadN (q := 11) (j := 1) (v := (T.2.2.1.length : Int)) dX7_drop_10 k3 (by decide) (by decide) rfl p1 ?_
  refine ac_if_ne (q := 14) (tgt := 17) dX7_drop_11 rfl rfl ⟨by omega, by omega⟩ (fun h11 => ?_) (fun h11 => ?_)
  · refine ac_aload_n (q := 18) dX7_drop_17 rfl rfl ?_
    refine ac_cv (q := 21) (k_X7_note (d := d - 1) (by omega) hM9 A0) ml_X7_205 (by assumption) dX7_drop_18 rfl rfl rfl (by omega) (Nat.le_of_ble_eq_true rfl) (Nat.zero_le _) (Nat.zero_le _) (fun m2 h2 => ?_)
    obtain ⟨A2, x2, f2⟩ := h2
    have F2 : ac_fM mm m2 x := ac_fM_t F0 (fun k' hk' => f2 k' (by omega) (by omega))
    obtain ⟨n4, nP⟩ := A2.2.1
    refine ac_aload_n (q := 22) dX7_drop_21 rfl rfl ?_
    refine ac_get (q := 25) dX7_drop_22 fl_X7_20 (by assumption) rfl (ac_rdr rfl hM9.1.2.2.1) ?_
    refine ac_iconst (q := 26) dX7_drop_25 rfl ?_
    refine ac_dup2_11 (q := 27) dX7_drop_26 rfl (show (0 : Nat) ≠ 1 by decide) (show (2 : Nat) ≠ 1 by decide) ?_
    refine ac_ialoadN (q := 28) (j := 1) (v := (T.2.2.1.length : Int)) dX7_drop_27 k3 (by decide) (by decide) rfl nP.2.2.1 ?_
    refine ac_iconst (q := 29) dX7_drop_28 rfl ?_
    refine ac_isub (q := 30) dX7_drop_29 rfl ?_
    refine ac_iastoreN (q := 31) (j := 1) dX7_drop_30 (by assumption) (by decide) (by decide) rfl ?_
    have hP3 : ac_RP (ac_up m2 (x + 3) 1 ((T.2.2.1.length : Int) - 1)) (x + 3) (T.1, T.2.1, T.2.2.1.dropLast, T.2.2.2.1, T.2.2.2.2) := ac_RP_drop nP (by omega) (fun j => by unfold ac_up; simp)
    have hf3 : ∀ k', k' ≠ x + 3 → ac_up m2 (x + 3) 1 ((T.2.2.1.length : Int) - 1) k' = m2 k' := fun k' h => by funext j; rw [ac_up_k h]
    generalize ac_up m2 (x + 3) 1 ((T.2.2.1.length : Int) - 1) = m3 at *
    refine ac_aload_n (q := 32) dX7_drop_31 rfl rfl ?_
    refine ac_aload_n (q := 33) dX7_drop_32 rfl rfl ?_
    refine ac_get (q := 36) dX7_drop_33 fl_X7_20 (by assumption) rfl (ac_rdr rfl hM9.1.2.2.1) ?_
    refine ac_cv (q := 39) (k_X7_settleOn (r := x + 3) (T := (T.1, T.2.1, T.2.2.1.dropLast, T.2.2.2.1, T.2.2.2.2)) (d := d - 1) (by omega) hM9 (Or.inl rfl) hP3 (by rw [hf3 x (by omega)]; exact n4)) ml_X7_111 (by assumption) dX7_drop_36 rfl rfl rfl (by omega) (Nat.le_of_ble_eq_true rfl) (Nat.zero_le _) (Nat.zero_le _) (fun m4 h4 => ?_)
    obtain ⟨g4, e4'⟩ := h4
    have A4 := ac_RM_p (T' := ac_stl (T.1, T.2.1, T.2.2.1.dropLast, T.2.2.2.1, T.2.2.2.2)) A2 g4 (by exact ac_stl_same.2.1) (fun k' hk' => by rw [e4'.1 k' (by omega) (by omega) (by omega), hf3 k' (by omega)]) (fun j hj => by rw [e4'.2 j (by omega), hf3 x (by omega)])
    have F4 : ac_fM mm m4 x := ac_fM_t F2 (fun k' hk' => by rw [e4'.1 k' (by omega) (by omega) (by omega), hf3 k' (by omega)])
    refine ac_aload_n (q := 40) dX7_drop_39 rfl rfl ?_
    refine ac_aload_n (q := 41) dX7_drop_40 rfl rfl ?_
    refine ac_get (q := 44) dX7_drop_41 fl_X7_20 (by assumption) rfl (ac_rdr rfl hM9.1.2.2.1) ?_
    refine ac_cv (q := 47) (k_X7_manyOf (r := x + 3) (d := d - 1) (by omega) hM9 (Or.inl rfl) A4.2.1.2 A4.2.1.1) ml_X7_118 (by assumption) dX7_drop_44 rfl rfl rfl (by omega) (Nat.le_of_ble_eq_true rfl) (Nat.zero_le _) (Nat.zero_le _) (fun m5 h5 => ?_)
    have A5 := ac_RM_fE A4 h5
    have F5 := ac_fM_t F4 (ac_fE_fM h5)
    refine ac_ireturn dX7_drop_47 rfl (Nat.zero_le _) (Nat.zero_le _) ?_
    have h0 : ¬ T.2.2.1.length = 0 := by omega
    rw [if_neg h0, if_neg h0, if_neg h0]; exact ⟨rfl, rfl, A5, F5⟩
  · refine ac_bipush (q := 16) dX7_drop_14 rfl (by decide) ?_
    refine ac_ireturn dX7_drop_16 rfl (Nat.zero_le _) (Nat.zero_le _) ?_
    have h0 : T.2.2.1.length = 0 := by omega
    rw [if_pos h0, if_pos h0, if_pos h0]; exact ⟨rfl, rfl, A0, F0⟩

set_option maxHeartbeats 8000000 in
theorem k_X7_pin {G : ac_G} {Y : ac_Y} {mm : ac_M} {d x : Nat} {s : List Nat} {T : ac_Tk} {hs : List ac_Tk} {s0 s1 : Option ac_Tk} {obs : List ac_Ob} {ch : Int} {a c : Int} (hd : 30 ≤ d) (hM : ac_isM Y x) (hR : ac_RM mm x s T hs s0 s1 obs ch) (ha : ac_in a) (hc : ac_in c) : ac_C G yX7_pin cX7_pin 3 (some .int) d 0 0 Y mm [(2, (x : Int)), (0, a), (0, c)] (ac_R Y [(0, (if ac_rfn T a c = 0 then ((ac_Lt (ac_t_pin T a.toNat c)).length : Int) else ac_rfn T a c))] (fun m => ac_RM m x s (if ac_rfn T a c = 0 then ac_t_pin T a.toNat c else T) (if ac_rfn T a c = 0 then ac_push T hs else hs) s0 s1 obs ch ∧ ac_fM mm m x)) := by
  have hM9 := hM
  obtain ⟨kx, k1, k2, k3, k4, k5, k6, k7, k8, k9, k10, k11, k12, k13, k14, k15, k16⟩ := hM.2
  obtain ⟨-, ⟨hkk, hPg⟩, -⟩ := id hR
  obtain ⟨⟨⟨hn1, hn2⟩, ⟨hk2, hk3⟩, hE, hp0, hpr, hc0⟩, -⟩ := id hPg
  have hE4 := hE.1
  have hLn := ac_Lt_len T hn2
  obtain ⟨ha1, ha2⟩ := ha
  obtain ⟨hc1, hc2⟩ := hc
  have hrf : ac_rfn T a c = if ¬ (1 ≤ a ∧ a ≤ (T.1 : Int)) then -1 else if (0 ≤ c ∧ c < (T.2.1 : Int)) ∨ c = 9 then 0 else -2 := rfl
  refine ac_met (on := (RX7, "pin")) rfl rfl (Nat.le_of_ble_eq_true rfl) (ls := [(2, (x : Int)), (0, a), (0, c)]) rfl ?_
  refine ac_aload_n (q := 1) dX7_pin_0 rfl rfl ?_
  refine ac_iconst (q := 2) dX7_pin_1 rfl ?_
  refine ac_put (q := 5) dX7_pin_2 fl_X7_67 (by assumption) rfl rfl ?_
  have A0 := ac_up0_RM hR
  have F0 : ac_fM mm (ac_up mm x 0 0) x := ac_up0_fM
  generalize ac_up mm x 0 0 = m0 at *
  obtain ⟨q4, qP⟩ := A0.2.1
  obtain ⟨-, p0, p1, pE, pp, p28, pcb, pcl⟩ := id qP
  refine ac_aload_n (q := 6) dX7_pin_5 rfl rfl ?_
  refine ac_iload_n (q := 7) dX7_pin_6 rfl rfl ?_
  refine ac_cvp (q := 10) (k_X7_noNumber (T := T) (a := a) (d := d - 1) (by omega) hM9 qP ⟨by omega, by omega⟩) ml_X7_195 (by assumption) dX7_pin_7 rfl rfl rfl (by omega) (Nat.le_of_ble_eq_true rfl) (Nat.zero_le _) (Nat.zero_le _) ?_
  refine ac_bif_eq (q := 13) (tgt := 15) dX7_pin_10 rfl rfl (fun h10 => ?_) (fun h10 => ?_)
  · have hin : 1 ≤ a ∧ a ≤ (T.1 : Int) := Decidable.not_not.mp h10
    rw [if_neg (fun q => q hin)] at hrf
    obtain ⟨a, rfl⟩ := Int.eq_ofNat_of_zero_le (a := a) (by omega)
    simp only [Int.toNat_natCast]
    refine ac_iload_n (q := 16) dX7_pin_15 rfl rfl ?_
    refine ac_i2l (q := 17) dX7_pin_16 rfl ⟨by omega, by omega⟩ ?_
    refine ac_lconst (q := 18) (v := 0) dX7_pin_17 rfl (by decide) ?_
    refine ac_aload_n (q := 19) dX7_pin_18 rfl rfl ?_
    refine ac_get (q := 22) dX7_pin_19 fl_X7_13 kx rfl (ac_rdi rfl q4) ?_
    refine ac_iconst (q := 23) dX7_pin_22 rfl ?_
    refine ac_isub (q := 24) dX7_pin_23 rfl ?_
    refine ac_i2l (q := 25) dX7_pin_24 rfl ⟨by omega, by omega⟩ ?_
    refine ac_csp (q := 28) (k_X7_in (d := d - 1) (by omega) ⟨by omega, by omega⟩ ⟨by omega, by omega⟩ ⟨by omega, by omega⟩) ml_X7_72 dX7_pin_25 rfl rfl rfl (by omega) (Nat.le_of_ble_eq_true rfl) (Nat.zero_le _) (Nat.zero_le _) ?_
    refine ac_bif_ne (q := 31) (tgt := 40) dX7_pin_28 rfl rfl (fun h28 => ?_) (fun h28 => ?_)
    · rw [if_pos (by omega)] at hrf
      refine ac_aload_n (q := 41) dX7_pin_40 rfl rfl ?_
      refine ac_cv (q := 44) (k_X7_note (d := d - 1) (by omega) hM9 A0) ml_X7_205 (by assumption) dX7_pin_41 rfl rfl rfl (by omega) (Nat.le_of_ble_eq_true rfl) (Nat.zero_le _) (Nat.zero_le _) (fun m2 h2 => ?_)
      obtain ⟨A2, x2, f2⟩ := h2
      have F2 : ac_fM mm m2 x := ac_fM_t F0 (fun k' hk' => f2 k' (by omega) (by omega))
      obtain ⟨n4, nP⟩ := A2.2.1
      refine ac_aload_n (q := 45) dX7_pin_44 rfl rfl ?_
      refine ac_get (q := 48) dX7_pin_45 fl_X7_20 (by assumption) rfl (ac_rdr rfl hM9.1.2.2.1) ?_
      refine ac_bipush (q := 50) dX7_pin_48 rfl (by decide) ?_
      refine ac_iload_n (q := 51) dX7_pin_50 rfl rfl ?_
      refine ac_iadd (q := 52) dX7_pin_51 rfl ?_
      refine ac_iconst (q := 53) dX7_pin_52 rfl ?_
      refine ac_isub (q := 54) dX7_pin_53 rfl ?_
      refine ac_top (w' := (0, ((17 + a : Nat) : Int))) (congrArg (fun z : Int => ((0 : Nat), z)) (by omega)) ?_
      refine ac_iload_n (q := 55) dX7_pin_54 rfl rfl ?_
      refine ac_bipush (q := 57) dX7_pin_55 rfl (by decide) ?_
      refine ac_icmp_ne (q := 60) (tgt := 64) dX7_pin_57 rfl rfl ⟨by omega, by omega⟩ ⟨by omega, by omega⟩ (fun h57 => ?_) (fun h57 => ?_)
      · refine ac_iload_n (q := 65) dX7_pin_64 rfl rfl ?_
        refine ac_iconst (q := 66) dX7_pin_65 rfl ?_
        refine ac_iadd (q := 67) dX7_pin_66 rfl ?_
        refine ac_iastoreN (q := 68) (j := 17 + a) dX7_pin_67 k3 (by decide) (by omega) rfl ?_
        have hP3 : ac_RP (ac_up m2 (x + 3) (17 + a) (c + 1)) (x + 3) (T.1, T.2.1, T.2.2.1, ac_sp T.2.2.2.1 a (if 0 ≤ c ∧ c < (T.2.1 : Int) then c else -1), T.2.2.2.2) := ac_RP_pin nP ⟨by omega, by omega⟩ (fun j => by
          have hv : (if 0 ≤ c ∧ c < (T.2.1 : Int) then c else -1) + 1 = c + 1 := by
            split <;> omega
          rw [hv]; unfold ac_up; simp)
        have hf3 : ∀ k', k' ≠ x + 3 → ac_up m2 (x + 3) (17 + a) (c + 1) k' = m2 k' := fun k' h => by funext j; rw [ac_up_k h]
        generalize ac_up m2 (x + 3) (17 + a) (c + 1) = m3 at *
        refine ac_aload_n (q := 69) dX7_pin_68 rfl rfl ?_
        refine ac_aload_n (q := 70) dX7_pin_69 rfl rfl ?_
        refine ac_get (q := 73) dX7_pin_70 fl_X7_20 (by assumption) rfl (ac_rdr rfl hM9.1.2.2.1) ?_
        refine ac_cv (q := 76) (k_X7_settleOn (r := x + 3) (T := (T.1, T.2.1, T.2.2.1, ac_sp T.2.2.2.1 a (if 0 ≤ c ∧ c < (T.2.1 : Int) then c else -1), T.2.2.2.2)) (d := d - 1) (by omega) hM9 (Or.inl rfl) hP3 (by rw [hf3 x (by omega)]; exact n4)) ml_X7_111 (by assumption) dX7_pin_73 rfl rfl rfl (by omega) (Nat.le_of_ble_eq_true rfl) (Nat.zero_le _) (Nat.zero_le _) (fun m4 h4 => ?_)
        obtain ⟨g4, e4'⟩ := h4
        have A4 := ac_RM_p (T' := ac_stl (T.1, T.2.1, T.2.2.1, ac_sp T.2.2.2.1 a (if 0 ≤ c ∧ c < (T.2.1 : Int) then c else -1), T.2.2.2.2)) A2 g4 (by exact ac_stl_same.2.1) (fun k' hk' => by rw [e4'.1 k' (by omega) (by omega) (by omega), hf3 k' (by omega)]) (fun j hj => by rw [e4'.2 j (by omega), hf3 x (by omega)])
        have F4 : ac_fM mm m4 x := ac_fM_t F2 (fun k' hk' => by rw [e4'.1 k' (by omega) (by omega) (by omega), hf3 k' (by omega)])
        refine ac_aload_n (q := 77) dX7_pin_76 rfl rfl ?_
        refine ac_aload_n (q := 78) dX7_pin_77 rfl rfl ?_
        refine ac_get (q := 81) dX7_pin_78 fl_X7_20 (by assumption) rfl (ac_rdr rfl hM9.1.2.2.1) ?_
        refine ac_cv (q := 84) (k_X7_manyOf (r := x + 3) (d := d - 1) (by omega) hM9 (Or.inl rfl) A4.2.1.2 A4.2.1.1) ml_X7_118 (by assumption) dX7_pin_81 rfl rfl rfl (by omega) (Nat.le_of_ble_eq_true rfl) (Nat.zero_le _) (Nat.zero_le _) (fun m5 h5 => ?_)
        have A5 := ac_RM_fE A4 h5
        have F5 := ac_fM_t F4 (ac_fE_fM h5)
        refine ac_ireturn dX7_pin_84 rfl (Nat.zero_le _) (Nat.zero_le _) ?_
        rw [if_pos hrf, if_pos hrf, if_pos hrf]; exact ⟨rfl, rfl, A5, F5⟩
      · refine ac_iconst (q := 61) dX7_pin_60 rfl ?_
        refine ac_goto (q := 67) dX7_pin_61 rfl ?_
        refine ac_iastoreN (q := 68) (j := 17 + a) dX7_pin_67 k3 (by decide) (by omega) rfl ?_
        have hP3 : ac_RP (ac_up m2 (x + 3) (17 + a) (0)) (x + 3) (T.1, T.2.1, T.2.2.1, ac_sp T.2.2.2.1 a (if 0 ≤ c ∧ c < (T.2.1 : Int) then c else -1), T.2.2.2.2) := ac_RP_pin nP ⟨by omega, by omega⟩ (fun j => by
          have hv : (if 0 ≤ c ∧ c < (T.2.1 : Int) then c else -1) + 1 = 0 := by
            split <;> omega
          rw [hv]; unfold ac_up; simp)
        have hf3 : ∀ k', k' ≠ x + 3 → ac_up m2 (x + 3) (17 + a) (0) k' = m2 k' := fun k' h => by funext j; rw [ac_up_k h]
        generalize ac_up m2 (x + 3) (17 + a) (0) = m3 at *
        refine ac_aload_n (q := 69) dX7_pin_68 rfl rfl ?_
        refine ac_aload_n (q := 70) dX7_pin_69 rfl rfl ?_
        refine ac_get (q := 73) dX7_pin_70 fl_X7_20 (by assumption) rfl (ac_rdr rfl hM9.1.2.2.1) ?_
        refine ac_cv (q := 76) (k_X7_settleOn (r := x + 3) (T := (T.1, T.2.1, T.2.2.1, ac_sp T.2.2.2.1 a (if 0 ≤ c ∧ c < (T.2.1 : Int) then c else -1), T.2.2.2.2)) (d := d - 1) (by omega) hM9 (Or.inl rfl) hP3 (by rw [hf3 x (by omega)]; exact n4)) ml_X7_111 (by assumption) dX7_pin_73 rfl rfl rfl (by omega) (Nat.le_of_ble_eq_true rfl) (Nat.zero_le _) (Nat.zero_le _) (fun m4 h4 => ?_)
        obtain ⟨g4, e4'⟩ := h4
        have A4 := ac_RM_p (T' := ac_stl (T.1, T.2.1, T.2.2.1, ac_sp T.2.2.2.1 a (if 0 ≤ c ∧ c < (T.2.1 : Int) then c else -1), T.2.2.2.2)) A2 g4 (by exact ac_stl_same.2.1) (fun k' hk' => by rw [e4'.1 k' (by omega) (by omega) (by omega), hf3 k' (by omega)]) (fun j hj => by rw [e4'.2 j (by omega), hf3 x (by omega)])
        have F4 : ac_fM mm m4 x := ac_fM_t F2 (fun k' hk' => by rw [e4'.1 k' (by omega) (by omega) (by omega), hf3 k' (by omega)])
        refine ac_aload_n (q := 77) dX7_pin_76 rfl rfl ?_
        refine ac_aload_n (q := 78) dX7_pin_77 rfl rfl ?_
        refine ac_get (q := 81) dX7_pin_78 fl_X7_20 (by assumption) rfl (ac_rdr rfl hM9.1.2.2.1) ?_
        refine ac_cv (q := 84) (k_X7_manyOf (r := x + 3) (d := d - 1) (by omega) hM9 (Or.inl rfl) A4.2.1.2 A4.2.1.1) ml_X7_118 (by assumption) dX7_pin_81 rfl rfl rfl (by omega) (Nat.le_of_ble_eq_true rfl) (Nat.zero_le _) (Nat.zero_le _) (fun m5 h5 => ?_)
        have A5 := ac_RM_fE A4 h5
        have F5 := ac_fM_t F4 (ac_fE_fM h5)
        refine ac_ireturn dX7_pin_84 rfl (Nat.zero_le _) (Nat.zero_le _) ?_
        rw [if_pos hrf, if_pos hrf, if_pos hrf]; exact ⟨rfl, rfl, A5, F5⟩
    · refine ac_iload_n (q := 32) dX7_pin_31 rfl rfl ?_
      refine ac_bipush (q := 34) dX7_pin_32 rfl (by decide) ?_
      refine ac_icmp_eq (q := 37) (tgt := 40) dX7_pin_34 rfl rfl ⟨by omega, by omega⟩ ⟨by omega, by omega⟩ (fun h34 => ?_) (fun h34 => ?_)
      · rw [if_pos (by omega)] at hrf
        refine ac_aload_n (q := 41) dX7_pin_40 rfl rfl ?_
        refine ac_cv (q := 44) (k_X7_note (d := d - 1) (by omega) hM9 A0) ml_X7_205 (by assumption) dX7_pin_41 rfl rfl rfl (by omega) (Nat.le_of_ble_eq_true rfl) (Nat.zero_le _) (Nat.zero_le _) (fun m2 h2 => ?_)
        obtain ⟨A2, x2, f2⟩ := h2
        have F2 : ac_fM mm m2 x := ac_fM_t F0 (fun k' hk' => f2 k' (by omega) (by omega))
        obtain ⟨n4, nP⟩ := A2.2.1
        refine ac_aload_n (q := 45) dX7_pin_44 rfl rfl ?_
        refine ac_get (q := 48) dX7_pin_45 fl_X7_20 (by assumption) rfl (ac_rdr rfl hM9.1.2.2.1) ?_
        refine ac_bipush (q := 50) dX7_pin_48 rfl (by decide) ?_
        refine ac_iload_n (q := 51) dX7_pin_50 rfl rfl ?_
        refine ac_iadd (q := 52) dX7_pin_51 rfl ?_
        refine ac_iconst (q := 53) dX7_pin_52 rfl ?_
        refine ac_isub (q := 54) dX7_pin_53 rfl ?_
        refine ac_top (w' := (0, ((17 + a : Nat) : Int))) (congrArg (fun z : Int => ((0 : Nat), z)) (by omega)) ?_
        refine ac_iload_n (q := 55) dX7_pin_54 rfl rfl ?_
        refine ac_bipush (q := 57) dX7_pin_55 rfl (by decide) ?_
        refine ac_icmp_ne (q := 60) (tgt := 64) dX7_pin_57 rfl rfl ⟨by omega, by omega⟩ ⟨by omega, by omega⟩ (fun h57 => ?_) (fun h57 => ?_)
        · refine ac_iload_n (q := 65) dX7_pin_64 rfl rfl ?_
          refine ac_iconst (q := 66) dX7_pin_65 rfl ?_
          refine ac_iadd (q := 67) dX7_pin_66 rfl ?_
          refine ac_iastoreN (q := 68) (j := 17 + a) dX7_pin_67 k3 (by decide) (by omega) rfl ?_
          have hP3 : ac_RP (ac_up m2 (x + 3) (17 + a) (c + 1)) (x + 3) (T.1, T.2.1, T.2.2.1, ac_sp T.2.2.2.1 a (if 0 ≤ c ∧ c < (T.2.1 : Int) then c else -1), T.2.2.2.2) := ac_RP_pin nP ⟨by omega, by omega⟩ (fun j => by
            have hv : (if 0 ≤ c ∧ c < (T.2.1 : Int) then c else -1) + 1 = c + 1 := by
              split <;> omega
            rw [hv]; unfold ac_up; simp)
          have hf3 : ∀ k', k' ≠ x + 3 → ac_up m2 (x + 3) (17 + a) (c + 1) k' = m2 k' := fun k' h => by funext j; rw [ac_up_k h]
          generalize ac_up m2 (x + 3) (17 + a) (c + 1) = m3 at *
          refine ac_aload_n (q := 69) dX7_pin_68 rfl rfl ?_
          refine ac_aload_n (q := 70) dX7_pin_69 rfl rfl ?_
          refine ac_get (q := 73) dX7_pin_70 fl_X7_20 (by assumption) rfl (ac_rdr rfl hM9.1.2.2.1) ?_
          refine ac_cv (q := 76) (k_X7_settleOn (r := x + 3) (T := (T.1, T.2.1, T.2.2.1, ac_sp T.2.2.2.1 a (if 0 ≤ c ∧ c < (T.2.1 : Int) then c else -1), T.2.2.2.2)) (d := d - 1) (by omega) hM9 (Or.inl rfl) hP3 (by rw [hf3 x (by omega)]; exact n4)) ml_X7_111 (by assumption) dX7_pin_73 rfl rfl rfl (by omega) (Nat.le_of_ble_eq_true rfl) (Nat.zero_le _) (Nat.zero_le _) (fun m4 h4 => ?_)
          obtain ⟨g4, e4'⟩ := h4
          have A4 := ac_RM_p (T' := ac_stl (T.1, T.2.1, T.2.2.1, ac_sp T.2.2.2.1 a (if 0 ≤ c ∧ c < (T.2.1 : Int) then c else -1), T.2.2.2.2)) A2 g4 (by exact ac_stl_same.2.1) (fun k' hk' => by rw [e4'.1 k' (by omega) (by omega) (by omega), hf3 k' (by omega)]) (fun j hj => by rw [e4'.2 j (by omega), hf3 x (by omega)])
          have F4 : ac_fM mm m4 x := ac_fM_t F2 (fun k' hk' => by rw [e4'.1 k' (by omega) (by omega) (by omega), hf3 k' (by omega)])
          refine ac_aload_n (q := 77) dX7_pin_76 rfl rfl ?_
          refine ac_aload_n (q := 78) dX7_pin_77 rfl rfl ?_
          refine ac_get (q := 81) dX7_pin_78 fl_X7_20 (by assumption) rfl (ac_rdr rfl hM9.1.2.2.1) ?_
          refine ac_cv (q := 84) (k_X7_manyOf (r := x + 3) (d := d - 1) (by omega) hM9 (Or.inl rfl) A4.2.1.2 A4.2.1.1) ml_X7_118 (by assumption) dX7_pin_81 rfl rfl rfl (by omega) (Nat.le_of_ble_eq_true rfl) (Nat.zero_le _) (Nat.zero_le _) (fun m5 h5 => ?_)
          have A5 := ac_RM_fE A4 h5
          have F5 := ac_fM_t F4 (ac_fE_fM h5)
          refine ac_ireturn dX7_pin_84 rfl (Nat.zero_le _) (Nat.zero_le _) ?_
          rw [if_pos hrf, if_pos hrf, if_pos hrf]; exact ⟨rfl, rfl, A5, F5⟩
        · refine ac_iconst (q := 61) dX7_pin_60 rfl ?_
          refine ac_goto (q := 67) dX7_pin_61 rfl ?_
          refine ac_iastoreN (q := 68) (j := 17 + a) dX7_pin_67 k3 (by decide) (by omega) rfl ?_
          have hP3 : ac_RP (ac_up m2 (x + 3) (17 + a) (0)) (x + 3) (T.1, T.2.1, T.2.2.1, ac_sp T.2.2.2.1 a (if 0 ≤ c ∧ c < (T.2.1 : Int) then c else -1), T.2.2.2.2) := ac_RP_pin nP ⟨by omega, by omega⟩ (fun j => by
            have hv : (if 0 ≤ c ∧ c < (T.2.1 : Int) then c else -1) + 1 = 0 := by
              split <;> omega
            rw [hv]; unfold ac_up; simp)
          have hf3 : ∀ k', k' ≠ x + 3 → ac_up m2 (x + 3) (17 + a) (0) k' = m2 k' := fun k' h => by funext j; rw [ac_up_k h]
          generalize ac_up m2 (x + 3) (17 + a) (0) = m3 at *
          refine ac_aload_n (q := 69) dX7_pin_68 rfl rfl ?_
          refine ac_aload_n (q := 70) dX7_pin_69 rfl rfl ?_
          refine ac_get (q := 73) dX7_pin_70 fl_X7_20 (by assumption) rfl (ac_rdr rfl hM9.1.2.2.1) ?_
          refine ac_cv (q := 76) (k_X7_settleOn (r := x + 3) (T := (T.1, T.2.1, T.2.2.1, ac_sp T.2.2.2.1 a (if 0 ≤ c ∧ c < (T.2.1 : Int) then c else -1), T.2.2.2.2)) (d := d - 1) (by omega) hM9 (Or.inl rfl) hP3 (by rw [hf3 x (by omega)]; exact n4)) ml_X7_111 (by assumption) dX7_pin_73 rfl rfl rfl (by omega) (Nat.le_of_ble_eq_true rfl) (Nat.zero_le _) (Nat.zero_le _) (fun m4 h4 => ?_)
          obtain ⟨g4, e4'⟩ := h4
          have A4 := ac_RM_p (T' := ac_stl (T.1, T.2.1, T.2.2.1, ac_sp T.2.2.2.1 a (if 0 ≤ c ∧ c < (T.2.1 : Int) then c else -1), T.2.2.2.2)) A2 g4 (by exact ac_stl_same.2.1) (fun k' hk' => by rw [e4'.1 k' (by omega) (by omega) (by omega), hf3 k' (by omega)]) (fun j hj => by rw [e4'.2 j (by omega), hf3 x (by omega)])
          have F4 : ac_fM mm m4 x := ac_fM_t F2 (fun k' hk' => by rw [e4'.1 k' (by omega) (by omega) (by omega), hf3 k' (by omega)])
          refine ac_aload_n (q := 77) dX7_pin_76 rfl rfl ?_
          refine ac_aload_n (q := 78) dX7_pin_77 rfl rfl ?_
          refine ac_get (q := 81) dX7_pin_78 fl_X7_20 (by assumption) rfl (ac_rdr rfl hM9.1.2.2.1) ?_
          refine ac_cv (q := 84) (k_X7_manyOf (r := x + 3) (d := d - 1) (by omega) hM9 (Or.inl rfl) A4.2.1.2 A4.2.1.1) ml_X7_118 (by assumption) dX7_pin_81 rfl rfl rfl (by omega) (Nat.le_of_ble_eq_true rfl) (Nat.zero_le _) (Nat.zero_le _) (fun m5 h5 => ?_)
          have A5 := ac_RM_fE A4 h5
          have F5 := ac_fM_t F4 (ac_fE_fM h5)
          refine ac_ireturn dX7_pin_84 rfl (Nat.zero_le _) (Nat.zero_le _) ?_
          rw [if_pos hrf, if_pos hrf, if_pos hrf]; exact ⟨rfl, rfl, A5, F5⟩
      · rw [if_neg (by omega)] at hrf
        refine ac_bipush (q := 39) dX7_pin_37 rfl (by decide) ?_
        refine ac_ireturn dX7_pin_39 rfl (Nat.zero_le _) (Nat.zero_le _) ?_
        have hne : ¬ ac_rfn T (a : Int) c = 0 := by omega
        rw [if_neg hne, if_neg hne, if_neg hne, hrf]; exact ⟨rfl, rfl, A0, F0⟩
  · rw [if_pos h10] at hrf
    refine ac_iconst (q := 14) dX7_pin_13 rfl ?_
    refine ac_ireturn dX7_pin_14 rfl (Nat.zero_le _) (Nat.zero_le _) ?_
    have hne : ¬ ac_rfn T a c = 0 := by omega
    rw [if_neg hne, if_neg hne, if_neg hne, hrf]; exact ⟨rfl, rfl, A0, F0⟩
