set_option maxHeartbeats 8000000 in
theorem k_X5_init {G : ac_G} {d z : Nat} (hd : 3 ≤ d) (h1z : 1 ≤ z) : ∀ (Y : ac_Y) (mm : ac_M), Y.1 = z → Y.2.1 z = (0, 5) → ac_C G yX5_init cX5_init 1 none d 17 2172 Y mm [(2, (z : Int))] (ac_ci Y mm z 17 ac_isW) := by
  intro Y mm hz hk
  have G0 : ac_kp z Y mm Y mm := ac_kp_r
  refine ac_met (on := (RX5, "<init>")) rfl rfl (Nat.le_of_ble_eq_true rfl) (ls := [(2, (z : Int))]) rfl ?_
  refine ac_aload_n (q := 1) dX5_init_0 rfl rfl ?_
  refine ac_objInit (q := 4) dX5_init_1 ml_X5_3 ob_m ob_c (by omega) rfl (by omega) (by decide) ?_
  refine ac_aload_n (q := 5) dX5_init_4 rfl rfl ?_
  refine ac_mkF (z := z) (x := z) (ci := 2) (cx := 5) (j := 0) (mc' := 2) (ms' := 12) (ck' := 3) (cn' := 15) (d' := d - 1) (q := 15) (lay := ac_isS) (k_X2_init (z := z + 1) (by omega) (by omega)) (fun Y1 Y2 e l => ac_isS_e l e) nl_X5_9 ml_X5_11 fl_X5_12 rfl hk (by omega) rfl dX5_init_5 dX5_init_8 dX5_init_9 dX5_init_12 rfl hz (by omega) (by decide) rfl rfl (Nat.le_of_ble_eq_true rfl) (Nat.le_of_ble_eq_true rfl) (fun Y1 m1 g1 e1 l1 r1 o1 => ?_)
  replace hk := (g1.2.1 z (by omega)).trans hk
  replace G0 := ac_kp_t G0 g1
  replace r1 : ac_ri Y1 z 0 (z + 1) := r1
  clear o1 g1
  refine ac_aload_n (q := 16) dX5_init_15 rfl rfl ?_
  refine ac_mkF (z := z + 3) (x := z) (ci := 0) (cx := 5) (j := 1) (mc' := 5) (ms' := 2085) (ck' := 9) (cn' := 2102) (d' := d - 1) (q := 26) (lay := ac_isC) (k_X0_init (z := z + 3 + 1) (by omega) (by omega)) (fun Y1 Y2 e l => ac_isC_e l e) nl_X5_18 ml_X5_20 fl_X5_21 rfl hk (by omega) rfl dX5_init_16 dX5_init_19 dX5_init_20 dX5_init_23 rfl e1 (by omega) (by decide) rfl rfl (Nat.le_of_ble_eq_true rfl) (Nat.le_of_ble_eq_true rfl) (fun Y2 m2 g2 e2 l2 r2 o2 => ?_)
  replace hk := (g2.2.1 z (by omega)).trans hk
  replace r1 : ac_ri Y2 z 0 (z + 1) := (o2 0 (by decide)).trans r1
  replace l1 := ac_isS_e l1 (ac_kp_e g2 (by omega) (Or.inl (by omega)))
  replace G0 := ac_kp_t G0 g2
  replace r2 : ac_ri Y2 z 1 (z + 4) := r2
  clear o2 g2 e1
  refine ac_aload_n (q := 27) dX5_init_26 rfl rfl ?_
  refine ac_mkF (z := z + 9) (x := z) (ci := 3) (cx := 5) (j := 2) (mc' := 3) (ms' := 30) (ck' := 13) (cn' := 2139) (d' := d - 1) (q := 37) (lay := ac_isT) (k_X3_init (z := z + 9 + 1) (by omega) (by omega)) (fun Y1 Y2 e l => ac_isT_e l e) nl_X5_25 ml_X5_27 fl_X5_28 rfl hk (by omega) rfl dX5_init_27 dX5_init_30 dX5_init_31 dX5_init_34 rfl e2 (by omega) (by decide) rfl rfl (Nat.le_of_ble_eq_true rfl) (Nat.le_of_ble_eq_true rfl) (fun Y3 m3 g3 e3 l3 r3 o3 => ?_)
  replace hk := (g3.2.1 z (by omega)).trans hk
  replace r1 : ac_ri Y3 z 0 (z + 1) := (o3 0 (by decide)).trans r1
  replace r2 : ac_ri Y3 z 1 (z + 4) := (o3 1 (by decide)).trans r2
  replace l1 := ac_isS_e l1 (ac_kp_e g3 (by omega) (Or.inl (by omega)))
  replace l2 := ac_isC_e l2 (ac_kp_e g3 (by omega) (Or.inl (by omega)))
  replace G0 := ac_kp_t G0 g3
  replace r3 : ac_ri Y3 z 2 (z + 10) := r3
  clear o3 g3 e2
  refine ac_aload_n (q := 38) dX5_init_37 rfl rfl ?_
  refine ac_iconst (q := 39) dX5_init_38 rfl ?_
  refine ac_mkI (n := 3) (z := z + 13) (x := z) (cx := 5) (j := 3) (ck' := 14) (cn' := 2142) (q := 44) ar_int fl_X5_32 rfl hk (by omega) rfl dX5_init_39 dX5_init_41 rfl e3 (by decide) rfl rfl (Nat.le_of_ble_eq_true rfl) (Nat.le_of_ble_eq_true rfl) (fun Y4 m4 g4 e4 k4 r4 o4 => ?_)
  replace hk := (g4.2.1 z (by omega)).trans hk
  replace r1 : ac_ri Y4 z 0 (z + 1) := (o4 0 (by decide)).trans r1
  replace r2 : ac_ri Y4 z 1 (z + 4) := (o4 1 (by decide)).trans r2
  replace r3 : ac_ri Y4 z 2 (z + 10) := (o4 2 (by decide)).trans r3
  replace l1 := ac_isS_e l1 (ac_kp_e g4 (by omega) (Or.inl (by omega)))
  replace l2 := ac_isC_e l2 (ac_kp_e g4 (by omega) (Or.inl (by omega)))
  replace l3 := ac_isT_e l3 (ac_kp_e g4 (by omega) (Or.inl (by omega)))
  replace G0 := ac_kp_t G0 g4
  replace r4 : ac_ri Y4 z 3 (z + 14) := r4
  clear o4 g4 e3
  refine ac_aload_n (q := 45) dX5_init_44 rfl rfl ?_
  refine ac_iconst (q := 46) dX5_init_45 rfl ?_
  refine ac_mkI (n := 3) (z := z + 14) (x := z) (cx := 5) (j := 4) (ck' := 15) (cn' := 2145) (q := 51) ar_int fl_X5_36 rfl hk (by omega) rfl dX5_init_46 dX5_init_48 rfl e4 (by decide) rfl rfl (Nat.le_of_ble_eq_true rfl) (Nat.le_of_ble_eq_true rfl) (fun Y5 m5 g5 e5 k5 r5 o5 => ?_)
  replace hk := (g5.2.1 z (by omega)).trans hk
  replace k4 := (g5.2.1 (z + 14) (by omega)).trans k4
  replace r1 : ac_ri Y5 z 0 (z + 1) := (o5 0 (by decide)).trans r1
  replace r2 : ac_ri Y5 z 1 (z + 4) := (o5 1 (by decide)).trans r2
  replace r3 : ac_ri Y5 z 2 (z + 10) := (o5 2 (by decide)).trans r3
  replace r4 : ac_ri Y5 z 3 (z + 14) := (o5 3 (by decide)).trans r4
  replace l1 := ac_isS_e l1 (ac_kp_e g5 (by omega) (Or.inl (by omega)))
  replace l2 := ac_isC_e l2 (ac_kp_e g5 (by omega) (Or.inl (by omega)))
  replace l3 := ac_isT_e l3 (ac_kp_e g5 (by omega) (Or.inl (by omega)))
  replace G0 := ac_kp_t G0 g5
  replace r5 : ac_ri Y5 z 4 (z + 15) := r5
  clear o5 g5 e4
  refine ac_aload_n (q := 52) dX5_init_51 rfl rfl ?_
  refine ac_bipush (q := 54) dX5_init_52 rfl (by decide) ?_
  refine ac_mkI (n := 11) (z := z + 15) (x := z) (cx := 5) (j := 5) (ck' := 16) (cn' := 2156) (q := 59) ar_int fl_X5_39 rfl hk (by omega) rfl dX5_init_54 dX5_init_56 rfl e5 (by decide) rfl rfl (Nat.le_of_ble_eq_true rfl) (Nat.le_of_ble_eq_true rfl) (fun Y6 m6 g6 e6 k6 r6 o6 => ?_)
  replace hk := (g6.2.1 z (by omega)).trans hk
  replace k4 := (g6.2.1 (z + 14) (by omega)).trans k4
  replace k5 := (g6.2.1 (z + 15) (by omega)).trans k5
  replace r1 : ac_ri Y6 z 0 (z + 1) := (o6 0 (by decide)).trans r1
  replace r2 : ac_ri Y6 z 1 (z + 4) := (o6 1 (by decide)).trans r2
  replace r3 : ac_ri Y6 z 2 (z + 10) := (o6 2 (by decide)).trans r3
  replace r4 : ac_ri Y6 z 3 (z + 14) := (o6 3 (by decide)).trans r4
  replace r5 : ac_ri Y6 z 4 (z + 15) := (o6 4 (by decide)).trans r5
  replace l1 := ac_isS_e l1 (ac_kp_e g6 (by omega) (Or.inl (by omega)))
  replace l2 := ac_isC_e l2 (ac_kp_e g6 (by omega) (Or.inl (by omega)))
  replace l3 := ac_isT_e l3 (ac_kp_e g6 (by omega) (Or.inl (by omega)))
  replace G0 := ac_kp_t G0 g6
  replace r6 : ac_ri Y6 z 5 (z + 16) := r6
  clear o6 g6 e5
  refine ac_aload_n (q := 60) dX5_init_59 rfl rfl ?_
  refine ac_bipush (q := 62) dX5_init_60 rfl (by decide) ?_
  refine ac_mkI (n := 16) (z := z + 16) (x := z) (cx := 5) (j := 6) (ck' := 17) (cn' := 2172) (q := 67) ar_int fl_X5_42 rfl hk (by omega) rfl dX5_init_62 dX5_init_64 rfl e6 (by decide) rfl rfl (Nat.le_of_ble_eq_true rfl) (Nat.le_of_ble_eq_true rfl) (fun Y7 m7 g7 e7 k7 r7 o7 => ?_)
  replace hk := (g7.2.1 z (by omega)).trans hk
  replace k4 := (g7.2.1 (z + 14) (by omega)).trans k4
  replace k5 := (g7.2.1 (z + 15) (by omega)).trans k5
  replace k6 := (g7.2.1 (z + 16) (by omega)).trans k6
  replace r1 : ac_ri Y7 z 0 (z + 1) := (o7 0 (by decide)).trans r1
  replace r2 : ac_ri Y7 z 1 (z + 4) := (o7 1 (by decide)).trans r2
  replace r3 : ac_ri Y7 z 2 (z + 10) := (o7 2 (by decide)).trans r3
  replace r4 : ac_ri Y7 z 3 (z + 14) := (o7 3 (by decide)).trans r4
  replace r5 : ac_ri Y7 z 4 (z + 15) := (o7 4 (by decide)).trans r5
  replace r6 : ac_ri Y7 z 5 (z + 16) := (o7 5 (by decide)).trans r6
  replace l1 := ac_isS_e l1 (ac_kp_e g7 (by omega) (Or.inl (by omega)))
  replace l2 := ac_isC_e l2 (ac_kp_e g7 (by omega) (Or.inl (by omega)))
  replace l3 := ac_isT_e l3 (ac_kp_e g7 (by omega) (Or.inl (by omega)))
  replace G0 := ac_kp_t G0 g7
  replace r7 : ac_ri Y7 z 6 (z + 17) := r7
  clear o7 g7 e6
  refine ac_return dX5_init_67 rfl (Nat.le_refl _) (Nat.le_refl _) ?_
  exact ⟨rfl, G0, e7, ⟨hk, r1, r2, r3, r4, r5, r6, r7⟩, ⟨k4, k5, k6, k7⟩, l1, l2, l3⟩
