set_option maxHeartbeats 8000000 in
theorem k_X6_reachable {G : ac_G} {Y : ac_Y} {mm : ac_M} {d : Nat} {v : Int} (hd : 1 ≤ d) (hv : ac_in v) : ac_C G yX6_reachable cX6_reachable 1 (some .boolean) d 0 0 Y mm [(0, v)] (ac_R Y [(0, ac_b (1 ≤ v ∧ v ≤ 10))] (fun m => m = mm)) := by
  obtain ⟨hv1, hv2⟩ := hv
  refine ac_met (on := (RX6, "reachable")) rfl rfl (Nat.le_of_ble_eq_true rfl) (ls := [(0, v)]) rfl ?_
  refine ac_iload_n (q := 1) dX6_reachable_0 rfl rfl ?_
  refine ac_iconst (q := 2) dX6_reachable_1 rfl ?_
  refine ac_icmp_lt (q := 5) (tgt := 15) dX6_reachable_2 rfl rfl ⟨by omega, by omega⟩ ⟨by omega, by omega⟩ (fun h2 => ?_) (fun h2 => ?_)
  · refine ac_iconst (q := 16) dX6_reachable_15 rfl ?_
    refine ac_zreturn dX6_reachable_16 rfl (by first | exact ac_b01 | omega) (Nat.zero_le _) (Nat.zero_le _) ?_
    first | exact ⟨ac_l1 (by omega), rfl, rfl⟩ | exact ⟨ac_l0 (by omega), rfl, rfl⟩
  · refine ac_iload_n (q := 6) dX6_reachable_5 rfl rfl ?_
    refine ac_bipush (q := 8) dX6_reachable_6 rfl (by decide) ?_
    refine ac_icmp_gt (q := 11) (tgt := 15) dX6_reachable_8 rfl rfl ⟨by omega, by omega⟩ ⟨by omega, by omega⟩ (fun h8 => ?_) (fun h8 => ?_)
    · refine ac_iconst (q := 16) dX6_reachable_15 rfl ?_
      refine ac_zreturn dX6_reachable_16 rfl (by first | exact ac_b01 | omega) (Nat.zero_le _) (Nat.zero_le _) ?_
      first | exact ⟨ac_l1 (by omega), rfl, rfl⟩ | exact ⟨ac_l0 (by omega), rfl, rfl⟩
    · refine ac_iconst (q := 12) dX6_reachable_11 rfl ?_
      refine ac_goto (q := 16) dX6_reachable_12 rfl ?_
      refine ac_zreturn dX6_reachable_16 rfl (by first | exact ac_b01 | omega) (Nat.zero_le _) (Nat.zero_le _) ?_
      first | exact ⟨ac_l1 (by omega), rfl, rfl⟩ | exact ⟨ac_l0 (by omega), rfl, rfl⟩

set_option maxHeartbeats 8000000 in
theorem k_X6_factor {G : ac_G} {Y : ac_Y} {mm : ac_M} {d : Nat} {v : Int} (hd : 1 ≤ d) (hv : ac_in v) : ac_C G yX6_factor cX6_factor 1 (some .boolean) d 0 0 Y mm [(0, v)] (ac_R Y [(0, ac_b ((-4 ≤ v ∧ v ≤ 4) ∧ v ≠ 0))] (fun m => m = mm)) := by
  obtain ⟨hv1, hv2⟩ := hv
  refine ac_met (on := (RX6, "factor")) rfl rfl (Nat.le_of_ble_eq_true rfl) (ls := [(0, v)]) rfl ?_
  refine ac_iload_n (q := 1) dX6_factor_0 rfl rfl ?_
  refine ac_bipush (q := 3) dX6_factor_1 rfl (by decide) ?_
  refine ac_icmp_lt (q := 6) (tgt := 19) dX6_factor_3 rfl rfl ⟨by omega, by omega⟩ ⟨by omega, by omega⟩ (fun h3 => ?_) (fun h3 => ?_)
  · refine ac_iconst (q := 20) dX6_factor_19 rfl ?_
    refine ac_zreturn dX6_factor_20 rfl (by first | exact ac_b01 | omega) (Nat.zero_le _) (Nat.zero_le _) ?_
    first | exact ⟨ac_l1 (by omega), rfl, rfl⟩ | exact ⟨ac_l0 (by omega), rfl, rfl⟩
  · refine ac_iload_n (q := 7) dX6_factor_6 rfl rfl ?_
    refine ac_iconst (q := 8) dX6_factor_7 rfl ?_
    refine ac_icmp_gt (q := 11) (tgt := 19) dX6_factor_8 rfl rfl ⟨by omega, by omega⟩ ⟨by omega, by omega⟩ (fun h8 => ?_) (fun h8 => ?_)
    · refine ac_iconst (q := 20) dX6_factor_19 rfl ?_
      refine ac_zreturn dX6_factor_20 rfl (by first | exact ac_b01 | omega) (Nat.zero_le _) (Nat.zero_le _) ?_
      first | exact ⟨ac_l1 (by omega), rfl, rfl⟩ | exact ⟨ac_l0 (by omega), rfl, rfl⟩
    · refine ac_iload_n (q := 12) dX6_factor_11 rfl rfl ?_
      refine ac_if_eq (q := 15) (tgt := 19) dX6_factor_12 rfl rfl ⟨by omega, by omega⟩ (fun h12 => ?_) (fun h12 => ?_)
      · refine ac_iconst (q := 20) dX6_factor_19 rfl ?_
        refine ac_zreturn dX6_factor_20 rfl (by first | exact ac_b01 | omega) (Nat.zero_le _) (Nat.zero_le _) ?_
        first | exact ⟨ac_l1 (by omega), rfl, rfl⟩ | exact ⟨ac_l0 (by omega), rfl, rfl⟩
      · refine ac_iconst (q := 16) dX6_factor_15 rfl ?_
        refine ac_goto (q := 20) dX6_factor_16 rfl ?_
        refine ac_zreturn dX6_factor_20 rfl (by first | exact ac_b01 | omega) (Nat.zero_le _) (Nat.zero_le _) ?_
        first | exact ⟨ac_l1 (by omega), rfl, rfl⟩ | exact ⟨ac_l0 (by omega), rfl, rfl⟩

set_option maxHeartbeats 8000000 in
theorem k_X6_refusalOfPin {G : ac_G} {Y : ac_Y} {mm : ac_M} {d u : Nat} {T : ac_Tk} {a c : Int} (hd : 2 ≤ d) (hT : ac_isT Y u) (rT : ac_RTk mm u T) (ha : ac_in a) (hc : ac_in c) : ac_C G yX6_refusalOfPin cX6_refusalOfPin 3 (some .int) d 0 0 Y mm [(2, (u : Int)), (0, a), (0, c)] (ac_R Y [(0, ac_rfn T a c)] (fun m => m = mm)) := by
  have ku := hT.1
  obtain ⟨⟨⟨hn1, hn2⟩, ⟨hkk1, hkk2⟩, -⟩, -⟩ := id rT
  obtain ⟨ha1, ha2⟩ := ha
  obtain ⟨hc1, hc2⟩ := hc
  refine ac_met (on := (RX6, "refusalOfPin")) rfl rfl (Nat.le_of_ble_eq_true rfl) (ls := [(2, (u : Int)), (0, a), (0, c)]) rfl ?_
  refine ac_aload_n (q := 1) dX6_refusalOfPin_0 rfl rfl ?_
  refine ac_iload_n (q := 2) dX6_refusalOfPin_1 rfl rfl ?_
  refine ac_cvp (q := 5) (k_X3_has (d := d - 1) (by omega) hT rT ⟨by omega, by omega⟩) ml_X6_100 (by assumption) dX6_refusalOfPin_2 rfl rfl rfl (by omega) (Nat.le_of_ble_eq_true rfl) (Nat.zero_le _) (Nat.zero_le _) ?_
  refine ac_bif_ne (q := 8) (tgt := 10) dX6_refusalOfPin_5 rfl rfl (fun h5 => ?_) (fun h5 => ?_)
  · refine ac_aload_n (q := 11) dX6_refusalOfPin_10 rfl rfl ?_
    refine ac_iload_n (q := 12) dX6_refusalOfPin_11 rfl rfl ?_
    refine ac_cvp (q := 15) (k_X3_hasColour (d := d - 1) (by omega) hT rT ⟨by omega, by omega⟩) ml_X6_276 (by assumption) dX6_refusalOfPin_12 rfl rfl rfl (by omega) (Nat.le_of_ble_eq_true rfl) (Nat.zero_le _) (Nat.zero_le _) ?_
    refine ac_bif_ne (q := 18) (tgt := 24) dX6_refusalOfPin_15 rfl rfl (fun h15 => ?_) (fun h15 => ?_)
    · refine ac_iconst (q := 25) dX6_refusalOfPin_24 rfl ?_
      refine ac_goto (q := 30) dX6_refusalOfPin_25 rfl ?_
      refine ac_ireturn dX6_refusalOfPin_30 rfl (Nat.zero_le _) (Nat.zero_le _) ?_
      unfold ac_rfn
      first
        | exact ⟨by rw [if_pos (by omega)], rfl, rfl⟩
        | exact ⟨by rw [if_neg (by omega), if_pos (by omega)], rfl, rfl⟩
        | exact ⟨by rw [if_neg (by omega), if_neg (by omega)], rfl, rfl⟩
    · refine ac_iload_n (q := 19) dX6_refusalOfPin_18 rfl rfl ?_
      refine ac_bipush (q := 21) dX6_refusalOfPin_19 rfl (by decide) ?_
      refine ac_icmp_ne (q := 24) (tgt := 28) dX6_refusalOfPin_21 rfl rfl ⟨by omega, by omega⟩ ⟨by omega, by omega⟩ (fun h21 => ?_) (fun h21 => ?_)
      · refine ac_bipush (q := 30) dX6_refusalOfPin_28 rfl (by decide) ?_
        refine ac_ireturn dX6_refusalOfPin_30 rfl (Nat.zero_le _) (Nat.zero_le _) ?_
        unfold ac_rfn
        first
          | exact ⟨by rw [if_pos (by omega)], rfl, rfl⟩
          | exact ⟨by rw [if_neg (by omega), if_pos (by omega)], rfl, rfl⟩
          | exact ⟨by rw [if_neg (by omega), if_neg (by omega)], rfl, rfl⟩
      · refine ac_iconst (q := 25) dX6_refusalOfPin_24 rfl ?_
        refine ac_goto (q := 30) dX6_refusalOfPin_25 rfl ?_
        refine ac_ireturn dX6_refusalOfPin_30 rfl (Nat.zero_le _) (Nat.zero_le _) ?_
        unfold ac_rfn
        first
          | exact ⟨by rw [if_pos (by omega)], rfl, rfl⟩
          | exact ⟨by rw [if_neg (by omega), if_pos (by omega)], rfl, rfl⟩
          | exact ⟨by rw [if_neg (by omega), if_neg (by omega)], rfl, rfl⟩
  · refine ac_iconst (q := 9) dX6_refusalOfPin_8 rfl ?_
    refine ac_ireturn dX6_refusalOfPin_9 rfl (Nat.zero_le _) (Nat.zero_le _) ?_
    unfold ac_rfn
    first
      | exact ⟨by rw [if_pos (by omega)], rfl, rfl⟩
      | exact ⟨by rw [if_neg (by omega), if_pos (by omega)], rfl, rfl⟩
      | exact ⟨by rw [if_neg (by omega), if_neg (by omega)], rfl, rfl⟩

set_option maxHeartbeats 8000000 in
theorem k_X6_slotAt {G : ac_G} {Y : ac_Y} {mm : ac_M} {d x : Nat} {i : Int} (hd : 1 ≤ d) (hA : ac_isA Y x) (hi : ac_in i) : ac_C G yX6_slotAt cX6_slotAt 2 (some (.object "AvoidColours$Task")) d 0 0 Y mm [(2, (x : Int)), (0, i)] (ac_R Y [(2, ((if i = 0 then x + 20 else if i = 1 then x + 24 else 0 : Nat) : Int))] (fun m => m = mm)) := by
  have hA9 := hA
  obtain ⟨⟨kx, -⟩, hX, ⟨hT0, hT1, hT2, hT3⟩, ⟨ka, -, -, hS0, hS1⟩, hH, hW⟩ := hA
  have ktx := hX.1
  have kn0 := hT0.1
  have kn1 := hT1.1
  have kn2 := hT2.1
  have kn3 := hT3.1
  have kh := hH.1
  obtain ⟨⟨kw, -⟩, ⟨k14, k15, k16, k17⟩, hWS, hWC, hWT⟩ := id hW
  have kws := hWS.1
  have kwc := hWC.1
  obtain ⟨hi1, hi2⟩ := hi
  refine ac_met (on := (RX6, "slotAt")) rfl rfl (Nat.le_of_ble_eq_true rfl) (ls := [(2, (x : Int)), (0, i)]) rfl ?_
  refine ac_iload_n (q := 1) dX6_slotAt_0 rfl rfl ?_
  refine ac_if_lt (q := 4) (tgt := 22) dX6_slotAt_1 rfl rfl ⟨by omega, by omega⟩ (fun h1 => ?_) (fun h1 => ?_)
  · refine ac_aconst_null (q := 23) dX6_slotAt_22 rfl ?_
    refine ac_areturn dX6_slotAt_23 rfl (Nat.zero_le _) (Nat.zero_le _) ?_
    first
      | exact ⟨rfl, rfl, rfl⟩
      | exact ⟨by rw [if_neg (by omega), if_neg (by omega)]; rfl, rfl, rfl⟩
  · refine ac_iload_n (q := 5) dX6_slotAt_4 rfl rfl ?_
    refine ac_aload_n (q := 6) dX6_slotAt_5 rfl rfl ?_
    refine ac_get (q := 9) dX6_slotAt_6 fl_X6_32 (by assumption) rfl (ac_rdr rfl hA9.1.2.2.2.2.2.2.1) ?_
    refine ac_alen (q := 10) dX6_slotAt_9 ka (by decide) rfl ?_
    refine ac_icmp_ge (q := 13) (tgt := 22) dX6_slotAt_10 rfl rfl ⟨by omega, by omega⟩ ⟨by omega, by omega⟩ (fun h10 => ?_) (fun h10 => ?_)
    · refine ac_aconst_null (q := 23) dX6_slotAt_22 rfl ?_
      refine ac_areturn dX6_slotAt_23 rfl (Nat.zero_le _) (Nat.zero_le _) ?_
      first
        | exact ⟨rfl, rfl, rfl⟩
        | exact ⟨by rw [if_neg (by omega), if_neg (by omega)]; rfl, rfl, rfl⟩
    · refine ac_aload_n (q := 14) dX6_slotAt_13 rfl rfl ?_
      refine ac_get (q := 17) dX6_slotAt_14 fl_X6_32 (by assumption) rfl (ac_rdr rfl hA9.1.2.2.2.2.2.2.1) ?_
      refine ac_iload_n (q := 18) dX6_slotAt_17 rfl rfl ?_
      rcases (show i = 0 ∨ i = 1 by omega) with rfl | rfl
      · refine ac_aaloadN (q := 19) (j := 0) (v := x + 20) dX6_slotAt_18 ka (by decide) (by decide) rfl hA9.2.2.2.1.2.1 ?_
        refine ac_goto (q := 23) dX6_slotAt_19 rfl ?_
        refine ac_areturn dX6_slotAt_23 rfl (Nat.zero_le _) (Nat.zero_le _) ?_
        exact ⟨rfl, rfl, rfl⟩
      refine ac_aaloadN (q := 19) (j := 1) (v := x + 24) dX6_slotAt_18 ka (by decide) (by decide) rfl hA9.2.2.2.1.2.2.1 ?_
      refine ac_goto (q := 23) dX6_slotAt_19 rfl ?_
      refine ac_areturn dX6_slotAt_23 rfl (Nat.zero_le _) (Nat.zero_le _) ?_
      first
        | exact ⟨rfl, rfl, rfl⟩
        | exact ⟨by rw [if_neg (by omega), if_neg (by omega)]; rfl, rfl, rfl⟩

set_option maxHeartbeats 8000000 in
theorem k_X6_empty {G : ac_G} {Y : ac_Y} {mm : ac_M} {d u : Nat} (hd : 1 ≤ d) (hT : ac_isT Y u) (hu : 1 ≤ u) : ac_C G yX6_empty cX6_empty 1 none d 0 0 Y mm [(2, (u : Int))] (ac_R Y [] (fun m => m = ac_up mm u 3 0)) := by
  have ku := hT.1
  refine ac_met (on := (RX6, "empty")) rfl rfl (Nat.le_of_ble_eq_true rfl) (ls := [(2, (u : Int))]) rfl ?_
  refine ac_aload_n (q := 1) dX6_empty_0 rfl rfl ?_
  refine ac_ifnull_f (q := 4) dX6_empty_1 rfl (by omega) ?_
  refine ac_aload_n (q := 5) dX6_empty_4 rfl rfl ?_
  refine ac_iconst (q := 6) dX6_empty_5 rfl ?_
  refine ac_put (q := 9) dX6_empty_6 fl_X6_141 (by assumption) rfl rfl ?_
  refine ac_return dX6_empty_9 rfl (Nat.zero_le _) (Nat.zero_le _) ?_
  exact ⟨rfl, rfl, rfl⟩
