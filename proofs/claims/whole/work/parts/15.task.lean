set_option maxHeartbeats 4000000 in
theorem k_X3_has {G : ac_G} {Y : ac_Y} {mm : ac_M} {d t n k : Nat} {E : List ac_Eq} {pin : Nat → Int} {col : Option (List Nat)} (hd : 1 ≤ d) (hT : ac_isT Y t) (hR : ac_RT mm t n k E pin col) {x : Int} (hx : ac_in x) : ac_C G yX3_has cX3_has 2 (some .boolean) d 0 0 Y mm [(2, (t : Int)), (0, x)] (ac_R Y [(0, ac_b (1 ≤ x ∧ x ≤ (n : Int)))] (fun m => m = mm)) := by
  obtain ⟨hk0, hk1, hk2, hk3, hr0, hr1, hr2⟩ := hT
  obtain ⟨⟨⟨hn1, hn2⟩, ⟨hkk1, hkk2⟩, ⟨hE1, hE2⟩, hp0, hpr, hc0⟩, r3, r4, r5, r6, rE, rp, rcb, rc⟩ := hR
  obtain ⟨hx1, hx2⟩ := hx
  refine ac_met (on := (RX3, "has")) rfl rfl (Nat.le_of_ble_eq_true rfl) (ls := [(2, (t : Int)), (0, x)]) rfl ?_
  refine ac_iload_n (q := 1) dX3_has_0 rfl rfl ?_
  refine ac_iconst (q := 2) dX3_has_1 rfl ?_
  refine ac_icmp_lt (q := 5) (tgt := 23) dX3_has_2 rfl rfl ⟨by omega, by omega⟩ ⟨by omega, by omega⟩ (fun h2 => ?_) (fun h2 => ?_)
  · refine ac_iconst (q := 24) dX3_has_23 rfl ?_
    refine ac_zreturn dX3_has_24 rfl (by first | exact ac_b01 | omega) (Nat.zero_le _) (Nat.zero_le _) ?_
    first | exact ⟨ac_l1 (by omega), rfl, rfl⟩ | exact ⟨ac_l0 (by omega), rfl, rfl⟩
  · refine ac_iload_n (q := 6) dX3_has_5 rfl rfl ?_
    refine ac_aload_n (q := 7) dX3_has_6 rfl rfl ?_
    refine ac_get (q := 10) dX3_has_7 fl_X3_21 (by assumption) rfl rfl ?_
    refine ac_icmp_gt (q := 13) (tgt := 23) dX3_has_10 rfl rfl ⟨by omega, by omega⟩ ⟨by omega, by omega⟩ (fun h10 => ?_) (fun h10 => ?_)
    · refine ac_iconst (q := 24) dX3_has_23 rfl ?_
      refine ac_zreturn dX3_has_24 rfl (by first | exact ac_b01 | omega) (Nat.zero_le _) (Nat.zero_le _) ?_
      first | exact ⟨ac_l1 (by omega), rfl, rfl⟩ | exact ⟨ac_l0 (by omega), rfl, rfl⟩
    · refine ac_iload_n (q := 14) dX3_has_13 rfl rfl ?_
      refine ac_bipush (q := 16) dX3_has_14 rfl (by decide) ?_
      refine ac_icmp_gt (q := 19) (tgt := 23) dX3_has_16 rfl rfl ⟨by omega, by omega⟩ ⟨by omega, by omega⟩ (fun h16 => ?_) (fun h16 => ?_)
      · refine ac_iconst (q := 24) dX3_has_23 rfl ?_
        refine ac_zreturn dX3_has_24 rfl (by first | exact ac_b01 | omega) (Nat.zero_le _) (Nat.zero_le _) ?_
        first | exact ⟨ac_l1 (by omega), rfl, rfl⟩ | exact ⟨ac_l0 (by omega), rfl, rfl⟩
      · refine ac_iconst (q := 20) dX3_has_19 rfl ?_
        refine ac_goto (q := 24) dX3_has_20 rfl ?_
        refine ac_zreturn dX3_has_24 rfl (by first | exact ac_b01 | omega) (Nat.zero_le _) (Nat.zero_le _) ?_
        first | exact ⟨ac_l1 (by omega), rfl, rfl⟩ | exact ⟨ac_l0 (by omega), rfl, rfl⟩

set_option maxHeartbeats 4000000 in
theorem k_X3_hasColour {G : ac_G} {Y : ac_Y} {mm : ac_M} {d t n k : Nat} {E : List ac_Eq} {pin : Nat → Int} {col : Option (List Nat)} (hd : 1 ≤ d) (hT : ac_isT Y t) (hR : ac_RT mm t n k E pin col) {x : Int} (hx : ac_in x) : ac_C G yX3_hasColour cX3_hasColour 2 (some .boolean) d 0 0 Y mm [(2, (t : Int)), (0, x)] (ac_R Y [(0, ac_b (0 ≤ x ∧ x < (k : Int)))] (fun m => m = mm)) := by
  obtain ⟨hk0, hk1, hk2, hk3, hr0, hr1, hr2⟩ := hT
  obtain ⟨⟨⟨hn1, hn2⟩, ⟨hkk1, hkk2⟩, ⟨hE1, hE2⟩, hp0, hpr, hc0⟩, r3, r4, r5, r6, rE, rp, rcb, rc⟩ := hR
  obtain ⟨hx1, hx2⟩ := hx
  refine ac_met (on := (RX3, "hasColour")) rfl rfl (Nat.le_of_ble_eq_true rfl) (ls := [(2, (t : Int)), (0, x)]) rfl ?_
  refine ac_iload_n (q := 1) dX3_hasColour_0 rfl rfl ?_
  refine ac_if_lt (q := 4) (tgt := 21) dX3_hasColour_1 rfl rfl ⟨by omega, by omega⟩ (fun h1 => ?_) (fun h1 => ?_)
  · refine ac_iconst (q := 22) dX3_hasColour_21 rfl ?_
    refine ac_zreturn dX3_hasColour_22 rfl (by first | exact ac_b01 | omega) (Nat.zero_le _) (Nat.zero_le _) ?_
    first | exact ⟨ac_l1 (by omega), rfl, rfl⟩ | exact ⟨ac_l0 (by omega), rfl, rfl⟩
  · refine ac_iload_n (q := 5) dX3_hasColour_4 rfl rfl ?_
    refine ac_aload_n (q := 6) dX3_hasColour_5 rfl rfl ?_
    refine ac_get (q := 9) dX3_hasColour_6 fl_X3_25 (by assumption) rfl rfl ?_
    refine ac_icmp_ge (q := 12) (tgt := 21) dX3_hasColour_9 rfl rfl ⟨by omega, by omega⟩ ⟨by omega, by omega⟩ (fun h9 => ?_) (fun h9 => ?_)
    · refine ac_iconst (q := 22) dX3_hasColour_21 rfl ?_
      refine ac_zreturn dX3_hasColour_22 rfl (by first | exact ac_b01 | omega) (Nat.zero_le _) (Nat.zero_le _) ?_
      first | exact ⟨ac_l1 (by omega), rfl, rfl⟩ | exact ⟨ac_l0 (by omega), rfl, rfl⟩
    · refine ac_iload_n (q := 13) dX3_hasColour_12 rfl rfl ?_
      refine ac_iconst (q := 14) dX3_hasColour_13 rfl ?_
      refine ac_icmp_ge (q := 17) (tgt := 21) dX3_hasColour_14 rfl rfl ⟨by omega, by omega⟩ ⟨by omega, by omega⟩ (fun h14 => ?_) (fun h14 => ?_)
      · refine ac_iconst (q := 22) dX3_hasColour_21 rfl ?_
        refine ac_zreturn dX3_hasColour_22 rfl (by first | exact ac_b01 | omega) (Nat.zero_le _) (Nat.zero_le _) ?_
        first | exact ⟨ac_l1 (by omega), rfl, rfl⟩ | exact ⟨ac_l0 (by omega), rfl, rfl⟩
      · refine ac_iconst (q := 18) dX3_hasColour_17 rfl ?_
        refine ac_goto (q := 22) dX3_hasColour_18 rfl ?_
        refine ac_zreturn dX3_hasColour_22 rfl (by first | exact ac_b01 | omega) (Nat.zero_le _) (Nat.zero_le _) ?_
        first | exact ⟨ac_l1 (by omega), rfl, rfl⟩ | exact ⟨ac_l0 (by omega), rfl, rfl⟩

set_option maxHeartbeats 4000000 in
theorem k_X3_hasEquation {G : ac_G} {Y : ac_Y} {mm : ac_M} {d t n k : Nat} {E : List ac_Eq} {pin : Nat → Int} {col : Option (List Nat)} (hd : 1 ≤ d) (hT : ac_isT Y t) (hR : ac_RT mm t n k E pin col) {x : Int} (hx : ac_in x) : ac_C G yX3_hasEquation cX3_hasEquation 2 (some .boolean) d 0 0 Y mm [(2, (t : Int)), (0, x)] (ac_R Y [(0, ac_b (0 ≤ x ∧ x < (E.length : Int)))] (fun m => m = mm)) := by
  obtain ⟨hk0, hk1, hk2, hk3, hr0, hr1, hr2⟩ := hT
  obtain ⟨⟨⟨hn1, hn2⟩, ⟨hkk1, hkk2⟩, ⟨hE1, hE2⟩, hp0, hpr, hc0⟩, r3, r4, r5, r6, rE, rp, rcb, rc⟩ := hR
  obtain ⟨hx1, hx2⟩ := hx
  refine ac_met (on := (RX3, "hasEquation")) rfl rfl (Nat.le_of_ble_eq_true rfl) (ls := [(2, (t : Int)), (0, x)]) rfl ?_
  refine ac_iload_n (q := 1) dX3_hasEquation_0 rfl rfl ?_
  refine ac_if_lt (q := 4) (tgt := 21) dX3_hasEquation_1 rfl rfl ⟨by omega, by omega⟩ (fun h1 => ?_) (fun h1 => ?_)
  · refine ac_iconst (q := 22) dX3_hasEquation_21 rfl ?_
    refine ac_zreturn dX3_hasEquation_22 rfl (by first | exact ac_b01 | omega) (Nat.zero_le _) (Nat.zero_le _) ?_
    first | exact ⟨ac_l1 (by omega), rfl, rfl⟩ | exact ⟨ac_l0 (by omega), rfl, rfl⟩
  · refine ac_iload_n (q := 5) dX3_hasEquation_4 rfl rfl ?_
    refine ac_aload_n (q := 6) dX3_hasEquation_5 rfl rfl ?_
    refine ac_get (q := 9) dX3_hasEquation_6 fl_X3_28 (by assumption) rfl rfl ?_
    refine ac_icmp_ge (q := 12) (tgt := 21) dX3_hasEquation_9 rfl rfl ⟨by omega, by omega⟩ ⟨by omega, by omega⟩ (fun h9 => ?_) (fun h9 => ?_)
    · refine ac_iconst (q := 22) dX3_hasEquation_21 rfl ?_
      refine ac_zreturn dX3_hasEquation_22 rfl (by first | exact ac_b01 | omega) (Nat.zero_le _) (Nat.zero_le _) ?_
      first | exact ⟨ac_l1 (by omega), rfl, rfl⟩ | exact ⟨ac_l0 (by omega), rfl, rfl⟩
    · refine ac_iload_n (q := 13) dX3_hasEquation_12 rfl rfl ?_
      refine ac_iconst (q := 14) dX3_hasEquation_13 rfl ?_
      refine ac_icmp_ge (q := 17) (tgt := 21) dX3_hasEquation_14 rfl rfl ⟨by omega, by omega⟩ ⟨by omega, by omega⟩ (fun h14 => ?_) (fun h14 => ?_)
      · refine ac_iconst (q := 22) dX3_hasEquation_21 rfl ?_
        refine ac_zreturn dX3_hasEquation_22 rfl (by first | exact ac_b01 | omega) (Nat.zero_le _) (Nat.zero_le _) ?_
        first | exact ⟨ac_l1 (by omega), rfl, rfl⟩ | exact ⟨ac_l0 (by omega), rfl, rfl⟩
      · refine ac_iconst (q := 18) dX3_hasEquation_17 rfl ?_
        refine ac_goto (q := 22) dX3_hasEquation_18 rfl ?_
        refine ac_zreturn dX3_hasEquation_22 rfl (by first | exact ac_b01 | omega) (Nat.zero_le _) (Nat.zero_le _) ?_
        first | exact ⟨ac_l1 (by omega), rfl, rfl⟩ | exact ⟨ac_l0 (by omega), rfl, rfl⟩
