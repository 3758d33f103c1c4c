set_option maxHeartbeats 4000000 in
theorem k_X3_has {G : ac_G} {Y : ac_Y} {mm : ac_M} {d t n k : Nat} {E : List ac_Eq} {pin : Nat → Int} {col : Option (List Nat)} (hd : 1 ≤ d) (hT : ac_isT Y t) (hR : ac_RT mm t n k E pin col) {x : Int} (hx : ac_in x) : ac_C G yX3_has cX3_has 2 (some .boolean) d 0 0 Y mm [(2, (t : Int)), (0, x)] (ac_R Y [(0, ac_b (1 ≤ x ∧ x ≤ (n : Int)))] (fun m => m = mm)) := by
  have hT9 := hT
  have hR9 := hR
  obtain ⟨hk0, hk1, hk2, hk3, hr0, hr1, hr2⟩ := hT
  obtain ⟨⟨⟨hn1, hn2⟩, ⟨hkk1, hkk2⟩, ⟨hE1, hE2⟩, hp0, hpr, hc0⟩, r3, r4, r5, r6, rE, rp, rcb, rc⟩ := hR
  obtain ⟨hx1, hx2⟩ := hx
  refine ac_met (on := (RX3, "has")) rfl rfl (Nat.le_of_ble_eq_true rfl) (ls := [(2, (t : Int)), (0, x)]) rfl ?_
  refine ac_iload_n (q := 1) dX3_has_0 rfl rfl ?_
  refine ac_iconst (q := 2) dX3_has_1 rfl ?_
  refine ac_icmp_lt (q := 5) (tgt := 23) dX3_has_2 rfl rfl ⟨by omega, by omega⟩ ⟨by omega, by omega⟩ (fun h2 => ?_) (fun h2 => ?_)
  · refine ac_iconst (q := 24) dX3_has_23 rfl ?_
    refine ac_zreturn dX3_has_24 rfl (by first | exact ac_b01 | omega) (Nat.zero_le _) (Nat.zero_le _) ?_
    first | exact ⟨ac_l1 (by omega), rfl, rfl⟩ | exact ⟨ac_l0 (by omega), rfl, rfl⟩
  · refine ac_iload_n (q := 6) dX3_has_5 rfl rfl ?_
    refine ac_aload_n (q := 7) dX3_has_6 rfl rfl ?_
    refine ac_get (q := 10) dX3_has_7 fl_X3_21 (by assumption) rfl rfl ?_
    refine ac_icmp_gt (q := 13) (tgt := 23) dX3_has_10 rfl rfl ⟨by omega, by omega⟩ ⟨by omega, by omega⟩ (fun h10 => ?_) (fun h10 => ?_)
    · refine ac_iconst (q := 24) dX3_has_23 rfl ?_
      refine ac_zreturn dX3_has_24 rfl (by first | exact ac_b01 | omega) (Nat.zero_le _) (Nat.zero_le _) ?_
      first | exact ⟨ac_l1 (by omega), rfl, rfl⟩ | exact ⟨ac_l0 (by omega), rfl, rfl⟩
    · refine ac_iload_n (q := 14) dX3_has_13 rfl rfl ?_
      refine ac_bipush (q := 16) dX3_has_14 rfl (by decide) ?_
      refine ac_icmp_gt (q := 19) (tgt := 23) dX3_has_16 rfl rfl ⟨by omega, by omega⟩ ⟨by omega, by omega⟩ (fun h16 => ?_) (fun h16 => ?_)
      · refine ac_iconst (q := 24) dX3_has_23 rfl ?_
        refine ac_zreturn dX3_has_24 rfl (by first | exact ac_b01 | omega) (Nat.zero_le _) (Nat.zero_le _) ?_
        first | exact ⟨ac_l1 (by omega), rfl, rfl⟩ | exact ⟨ac_l0 (by omega), rfl, rfl⟩
      · refine ac_iconst (q := 20) dX3_has_19 rfl ?_
        refine ac_goto (q := 24) dX3_has_20 rfl ?_
        refine ac_zreturn dX3_has_24 rfl (by first | exact ac_b01 | omega) (Nat.zero_le _) (Nat.zero_le _) ?_
        first | exact ⟨ac_l1 (by omega), rfl, rfl⟩ | exact ⟨ac_l0 (by omega), rfl, rfl⟩

set_option maxHeartbeats 4000000 in
theorem k_X3_hasColour {G : ac_G} {Y : ac_Y} {mm : ac_M} {d t n k : Nat} {E : List ac_Eq} {pin : Nat → Int} {col : Option (List Nat)} (hd : 1 ≤ d) (hT : ac_isT Y t) (hR : ac_RT mm t n k E pin col) {x : Int} (hx : ac_in x) : ac_C G yX3_hasColour cX3_hasColour 2 (some .boolean) d 0 0 Y mm [(2, (t : Int)), (0, x)] (ac_R Y [(0, ac_b (0 ≤ x ∧ x < (k : Int)))] (fun m => m = mm)) := by
  have hT9 := hT
  have hR9 := hR
  obtain ⟨hk0, hk1, hk2, hk3, hr0, hr1, hr2⟩ := hT
  obtain ⟨⟨⟨hn1, hn2⟩, ⟨hkk1, hkk2⟩, ⟨hE1, hE2⟩, hp0, hpr, hc0⟩, r3, r4, r5, r6, rE, rp, rcb, rc⟩ := hR
  obtain ⟨hx1, hx2⟩ := hx
  refine ac_met (on := (RX3, "hasColour")) rfl rfl (Nat.le_of_ble_eq_true rfl) (ls := [(2, (t : Int)), (0, x)]) rfl ?_
  refine ac_iload_n (q := 1) dX3_hasColour_0 rfl rfl ?_
  refine ac_if_lt (q := 4) (tgt := 21) dX3_hasColour_1 rfl rfl ⟨by omega, by omega⟩ (fun h1 => ?_) (fun h1 => ?_)
  · refine ac_iconst (q := 22) dX3_hasColour_21 rfl ?_
    refine ac_zreturn dX3_hasColour_22 rfl (by first | exact ac_b01 | omega) (Nat.zero_le _) (Nat.zero_le _) ?_
    first | exact ⟨ac_l1 (by omega), rfl, rfl⟩ | exact ⟨ac_l0 (by omega), rfl, rfl⟩
  · refine ac_iload_n (q := 5) dX3_hasColour_4 rfl rfl ?_
    refine ac_aload_n (q := 6) dX3_hasColour_5 rfl rfl ?_
    refine ac_get (q := 9) dX3_hasColour_6 fl_X3_25 (by assumption) rfl rfl ?_
    refine ac_icmp_ge (q := 12) (tgt := 21) dX3_hasColour_9 rfl rfl ⟨by omega, by omega⟩ ⟨by omega, by omega⟩ (fun h9 => ?_) (fun h9 => ?_)
    · refine ac_iconst (q := 22) dX3_hasColour_21 rfl ?_
      refine ac_zreturn dX3_hasColour_22 rfl (by first | exact ac_b01 | omega) (Nat.zero_le _) (Nat.zero_le _) ?_
      first | exact ⟨ac_l1 (by omega), rfl, rfl⟩ | exact ⟨ac_l0 (by omega), rfl, rfl⟩
    · refine ac_iload_n (q := 13) dX3_hasColour_12 rfl rfl ?_
      refine ac_iconst (q := 14) dX3_hasColour_13 rfl ?_
      refine ac_icmp_ge (q := 17) (tgt := 21) dX3_hasColour_14 rfl rfl ⟨by omega, by omega⟩ ⟨by omega, by omega⟩ (fun h14 => ?_) (fun h14 => ?_)
      · refine ac_iconst (q := 22) dX3_hasColour_21 rfl ?_
        refine ac_zreturn dX3_hasColour_22 rfl (by first | exact ac_b01 | omega) (Nat.zero_le _) (Nat.zero_le _) ?_
        first | exact ⟨ac_l1 (by omega), rfl, rfl⟩ | exact ⟨ac_l0 (by omega), rfl, rfl⟩
      · refine ac_iconst (q := 18) dX3_hasColour_17 rfl ?_
        refine ac_goto (q := 22) dX3_hasColour_18 rfl ?_
        refine ac_zreturn dX3_hasColour_22 rfl (by first | exact ac_b01 | omega) (Nat.zero_le _) (Nat.zero_le _) ?_
        first | exact ⟨ac_l1 (by omega), rfl, rfl⟩ | exact ⟨ac_l0 (by omega), rfl, rfl⟩

set_option maxHeartbeats 4000000 in
theorem k_X3_hasEquation {G : ac_G} {Y : ac_Y} {mm : ac_M} {d t n k : Nat} {E : List ac_Eq} {pin : Nat → Int} {col : Option (List Nat)} (hd : 1 ≤ d) (hT : ac_isT Y t) (hR : ac_RT mm t n k E pin col) {x : Int} (hx : ac_in x) : ac_C G yX3_hasEquation cX3_hasEquation 2 (some .boolean) d 0 0 Y mm [(2, (t : Int)), (0, x)] (ac_R Y [(0, ac_b (0 ≤ x ∧ x < (E.length : Int)))] (fun m => m = mm)) := by
  have hT9 := hT
  have hR9 := hR
  obtain ⟨hk0, hk1, hk2, hk3, hr0, hr1, hr2⟩ := hT
  obtain ⟨⟨⟨hn1, hn2⟩, ⟨hkk1, hkk2⟩, ⟨hE1, hE2⟩, hp0, hpr, hc0⟩, r3, r4, r5, r6, rE, rp, rcb, rc⟩ := hR
  obtain ⟨hx1, hx2⟩ := hx
  refine ac_met (on := (RX3, "hasEquation")) rfl rfl (Nat.le_of_ble_eq_true rfl) (ls := [(2, (t : Int)), (0, x)]) rfl ?_
  refine ac_iload_n (q := 1) dX3_hasEquation_0 rfl rfl ?_
  refine ac_if_lt (q := 4) (tgt := 21) dX3_hasEquation_1 rfl rfl ⟨by omega, by omega⟩ (fun h1 => ?_) (fun h1 => ?_)
  · refine ac_iconst (q := 22) dX3_hasEquation_21 rfl ?_
    refine ac_zreturn dX3_hasEquation_22 rfl (by first | exact ac_b01 | omega) (Nat.zero_le _) (Nat.zero_le _) ?_
    first | exact ⟨ac_l1 (by omega), rfl, rfl⟩ | exact ⟨ac_l0 (by omega), rfl, rfl⟩
  · refine ac_iload_n (q := 5) dX3_hasEquation_4 rfl rfl ?_
    refine ac_aload_n (q := 6) dX3_hasEquation_5 rfl rfl ?_
    refine ac_get (q := 9) dX3_hasEquation_6 fl_X3_28 (by assumption) rfl rfl ?_
    refine ac_icmp_ge (q := 12) (tgt := 21) dX3_hasEquation_9 rfl rfl ⟨by omega, by omega⟩ ⟨by omega, by omega⟩ (fun h9 => ?_) (fun h9 => ?_)
    · refine ac_iconst (q := 22) dX3_hasEquation_21 rfl ?_
      refine ac_zreturn dX3_hasEquation_22 rfl (by first | exact ac_b01 | omega) (Nat.zero_le _) (Nat.zero_le _) ?_
      first | exact ⟨ac_l1 (by omega), rfl, rfl⟩ | exact ⟨ac_l0 (by omega), rfl, rfl⟩
    · refine ac_iload_n (q := 13) dX3_hasEquation_12 rfl rfl ?_
      refine ac_iconst (q := 14) dX3_hasEquation_13 rfl ?_
      refine ac_icmp_ge (q := 17) (tgt := 21) dX3_hasEquation_14 rfl rfl ⟨by omega, by omega⟩ ⟨by omega, by omega⟩ (fun h14 => ?_) (fun h14 => ?_)
      · refine ac_iconst (q := 22) dX3_hasEquation_21 rfl ?_
        refine ac_zreturn dX3_hasEquation_22 rfl (by first | exact ac_b01 | omega) (Nat.zero_le _) (Nat.zero_le _) ?_
        first | exact ⟨ac_l1 (by omega), rfl, rfl⟩ | exact ⟨ac_l0 (by omega), rfl, rfl⟩
      · refine ac_iconst (q := 18) dX3_hasEquation_17 rfl ?_
        refine ac_goto (q := 22) dX3_hasEquation_18 rfl ?_
        refine ac_zreturn dX3_hasEquation_22 rfl (by first | exact ac_b01 | omega) (Nat.zero_le _) (Nat.zero_le _) ?_
        first | exact ⟨ac_l1 (by omega), rfl, rfl⟩ | exact ⟨ac_l0 (by omega), rfl, rfl⟩

set_option maxHeartbeats 4000000 in
theorem k_X3_part {G : ac_G} {Y : ac_Y} {mm : ac_M} {d t n k : Nat} {E : List ac_Eq} {pin : Nat → Int} {col : Option (List Nat)} (hd : 2 ≤ d) (hT : ac_isT Y t) (hR : ac_RT mm t n k E pin col) {e w : Nat} {q : ac_Eq} (hq : E[e]? = some q) (hw : w < 4) : ac_C G yX3_part cX3_part 4 (some .int) d 0 0 Y mm [(2, (t : Int)), (0, (e : Int)), (0, (w : Int))] (ac_R Y [(0, ac_qc q w)] (fun m => m = mm)) := by
  have hT9 := hT
  have hR9 := hR
  obtain ⟨hk0, hk1, hk2, hk3, hr0, hr1, hr2⟩ := hT
  obtain ⟨⟨⟨hn1, hn2⟩, ⟨hkk1, hkk2⟩, ⟨hE1, hE2⟩, hp0, hpr, hc0⟩, r3, r4, r5, r6, rE, rp, rcb, rc⟩ := hR
  have he := (List.getElem?_eq_some_iff.mp hq).1
  refine ac_met (on := (RX3, "part")) rfl rfl (Nat.le_of_ble_eq_true rfl) (ls := [(2, (t : Int)), (0, (e : Int)), (0, (w : Int)), (3, 0)]) rfl ?_
  refine ac_aload_n (q := 1) dX3_part_0 rfl rfl ?_
  refine ac_iload_n (q := 2) dX3_part_1 rfl rfl ?_
  refine ac_cvp (q := 5) (k_X3_hasEquation (d := d - 1) (by omega) hT9 hR9 ⟨by omega, by omega⟩) ml_X3_50 (by assumption) dX3_part_2 rfl rfl rfl (by omega) (Nat.le_of_ble_eq_true rfl) (Nat.zero_le _) (Nat.zero_le _) ?_
  refine ac_bif_eq (q := 8) (tgt := 21) dX3_part_5 rfl rfl (fun h5 => ?_) (fun h5 => ?_)
  · exfalso; omega
  · refine ac_iload_n (q := 9) dX3_part_8 rfl rfl ?_
    refine ac_if_lt (q := 12) (tgt := 21) dX3_part_9 rfl rfl ⟨by omega, by omega⟩ (fun h9 => ?_) (fun h9 => ?_)
    · exfalso; omega
    · refine ac_iload_n (q := 13) dX3_part_12 rfl rfl ?_
      refine ac_iconst (q := 14) dX3_part_13 rfl ?_
      refine ac_icmp_ge (q := 17) (tgt := 21) dX3_part_14 rfl rfl ⟨by omega, by omega⟩ ⟨by omega, by omega⟩ (fun h14 => ?_) (fun h14 => ?_)
      · exfalso; omega
      · refine ac_iconst (q := 18) dX3_part_17 rfl ?_
        refine ac_goto (q := 22) dX3_part_18 rfl ?_
        refine ac_istore_n (q := 23) (j := 3) rfl dX3_part_22 rfl (Nat.le_of_ble_eq_true rfl) rfl rfl ?_
        simp only [List.set_cons_succ, List.set_cons_zero]
        refine ac_iload_n (q := 24) dX3_part_23 rfl rfl ?_
        refine ac_if_eq (q := 27) (tgt := 40) dX3_part_24 rfl rfl ⟨by omega, by omega⟩ (fun h24 => ?_) (fun h24 => ?_)
        · exact absurd h24 (by decide)
        · refine ac_aload_n (q := 28) dX3_part_27 rfl rfl ?_
          refine ac_get (q := 31) dX3_part_28 fl_X3_11 (by assumption) rfl (ac_rdr rfl (by assumption)) ?_
          refine ac_iconst (q := 32) dX3_part_31 rfl ?_
          refine ac_iload_n (q := 33) dX3_part_32 rfl rfl ?_
          refine ac_imul (q := 34) dX3_part_33 rfl ?_
          refine ac_iload_n (q := 35) dX3_part_34 rfl rfl ?_
          refine ac_iadd (q := 36) dX3_part_35 rfl ?_
          refine ac_iaload (q := 37) (v := ac_qc q w) dX3_part_36 (by assumption) (by decide) ⟨by omega, by omega⟩ rfl (ac_Eget rE hq hw (by omega)) ?_
          refine ac_goto (q := 41) dX3_part_37 rfl ?_
          refine ac_ireturn dX3_part_41 rfl (Nat.zero_le _) (Nat.zero_le _) ?_
          exact ⟨rfl, rfl, rfl⟩

set_option maxHeartbeats 4000000 in
theorem k_X3_append {G : ac_G} {Y : ac_Y} {mm : ac_M} {d t n k : Nat} {E : List ac_Eq} {pin : Nat → Int} {col : Option (List Nat)} (hd : 1 ≤ d) (hT : ac_isT Y t) (hR : ac_RT mm t n k E pin col) {a b c ap : Int} (hL : E.length < 4) (hq : ac_okq (a, b, c, ap)) : ac_C G yX3_append cX3_append 6 none d 0 0 Y mm [(2, (t : Int)), (0, a), (0, b), (0, c), (0, ap)] (ac_R Y [] (fun m => ac_RT m t n k (E ++ [(a, b, c, ap)]) pin col ∧ ac_fr mm m t)) := by
  have hT9 := hT
  have hR9 := hR
  obtain ⟨hk0, hk1, hk2, hk3, hr0, hr1, hr2⟩ := hT
  obtain ⟨⟨⟨hn1, hn2⟩, ⟨hkk1, hkk2⟩, ⟨hE1, hE2⟩, hp0, hpr, hc0⟩, r3, r4, r5, r6, rE, rp, rcb, rc⟩ := hR
  refine ac_met (on := (RX3, "append")) rfl rfl (Nat.le_of_ble_eq_true rfl) (ls := [(2, (t : Int)), (0, a), (0, b), (0, c), (0, ap), (3, 0)]) rfl ?_
  refine ac_aload_n (q := 1) dX3_append_0 rfl rfl ?_
  refine ac_get (q := 4) dX3_append_1 fl_X3_28 (by assumption) rfl rfl ?_
  refine ac_if_lt (q := 7) (tgt := 15) dX3_append_4 rfl rfl ⟨by omega, by omega⟩ (fun h4 => ?_) (fun h4 => ?_)
  · exfalso; omega
  · refine ac_aload_n (q := 8) dX3_append_7 rfl rfl ?_
    refine ac_get (q := 11) dX3_append_8 fl_X3_28 (by assumption) rfl rfl ?_
    refine ac_iconst (q := 12) dX3_append_11 rfl ?_
    refine ac_icmp_lt (q := 15) (tgt := 16) dX3_append_12 rfl rfl ⟨by omega, by omega⟩ ⟨by omega, by omega⟩ (fun h12 => ?_) (fun h12 => ?_)
    · refine ac_iconst (q := 17) dX3_append_16 rfl ?_
      refine ac_aload_n (q := 18) dX3_append_17 rfl rfl ?_
      refine ac_get (q := 21) dX3_append_18 fl_X3_28 (by assumption) rfl (ac_rdi rfl r5) ?_
      refine ac_imul (q := 22) dX3_append_21 rfl ?_
      refine ac_istore (q := 24) dX3_append_22 rfl (Nat.le_of_ble_eq_true rfl) rfl rfl ?_
      simp only [List.set_cons_succ, List.set_cons_zero]
      refine ac_aload_n (q := 25) dX3_append_24 rfl rfl ?_
      refine ac_get (q := 28) dX3_append_25 fl_X3_11 (by assumption) rfl (ac_rdr rfl (by assumption)) ?_
      refine ac_iload (q := 30) dX3_append_28 rfl rfl ?_
      refine ac_iload_n (q := 31) dX3_append_30 rfl rfl ?_
      refine ac_iastore (q := 32) dX3_append_31 (by assumption) (by decide) ⟨by omega, by omega⟩ rfl ?_
      refine ac_aload_n (q := 33) dX3_append_32 rfl rfl ?_
      refine ac_get (q := 36) dX3_append_33 fl_X3_11 (by assumption) rfl (ac_rdr rfl (by assumption)) ?_
      refine ac_iload (q := 38) dX3_append_36 rfl rfl ?_
      refine ac_iconst (q := 39) dX3_append_38 rfl ?_
      refine ac_iadd (q := 40) dX3_append_39 rfl ?_
      refine ac_iload_n (q := 41) dX3_append_40 rfl rfl ?_
      refine ac_iastore (q := 42) dX3_append_41 (by assumption) (by decide) ⟨by omega, by omega⟩ rfl ?_
      refine ac_aload_n (q := 43) dX3_append_42 rfl rfl ?_
      refine ac_get (q := 46) dX3_append_43 fl_X3_11 (by assumption) rfl (ac_rdr rfl (by assumption)) ?_
      refine ac_iload (q := 48) dX3_append_46 rfl rfl ?_
      refine ac_iconst (q := 49) dX3_append_48 rfl ?_
      refine ac_iadd (q := 50) dX3_append_49 rfl ?_
      refine ac_iload_n (q := 51) dX3_append_50 rfl rfl ?_
      refine ac_iastore (q := 52) dX3_append_51 (by assumption) (by decide) ⟨by omega, by omega⟩ rfl ?_
      refine ac_aload_n (q := 53) dX3_append_52 rfl rfl ?_
      refine ac_get (q := 56) dX3_append_53 fl_X3_11 (by assumption) rfl (ac_rdr rfl (by assumption)) ?_
      refine ac_iload (q := 58) dX3_append_56 rfl rfl ?_
      refine ac_iconst (q := 59) dX3_append_58 rfl ?_
      refine ac_iadd (q := 60) dX3_append_59 rfl ?_
      refine ac_iload (q := 62) dX3_append_60 rfl rfl ?_
      refine ac_iastore (q := 63) dX3_append_62 (by assumption) (by decide) ⟨by omega, by omega⟩ rfl ?_
      refine ac_aload_n (q := 64) dX3_append_63 rfl rfl ?_
      refine ac_dup (q := 65) dX3_append_64 rfl (show (2 : Nat) ≠ 1 by decide) ?_
      refine ac_get (q := 68) dX3_append_65 fl_X3_28 (by assumption) rfl (ac_rdi (v := (E.length : Int)) rfl (by rw [ac_up_k (by omega), ac_up_k (by omega), ac_up_k (by omega), ac_up_k (by omega)]; exact r5)) ?_
      refine ac_iconst (q := 69) dX3_append_68 rfl ?_
      refine ac_iadd (q := 70) dX3_append_69 rfl ?_
      refine ac_put (q := 73) dX3_append_70 fl_X3_28 (by assumption) rfl rfl ?_
      refine ac_return dX3_append_73 rfl (Nat.zero_le _) (Nat.zero_le _) ?_
      refine ⟨rfl, rfl, ?_⟩
      have e0 : (4 * (E.length : Int)).toNat = 4 * E.length := by omega
      have e1 : (4 * (E.length : Int) + 1).toNat = 4 * E.length + 1 := by omega
      have e2 : (4 * (E.length : Int) + 2).toNat = 4 * E.length + 2 := by omega
      have e3 : (4 * (E.length : Int) + 3).toNat = 4 * E.length + 3 := by omega
      rw [e0, e1, e2, e3]
      exact ⟨ac_RT_append hR9 hL hq (by intro j; simp [ac_up]) (by intro j; simp [ac_up]) (by funext j; simp [ac_up]) (by funext j; simp [ac_up]), by intro k' hk'; funext j; simp only [ac_up]; repeat rw [if_neg (by omega)]⟩
    · exfalso; omega

set_option maxHeartbeats 4000000 in
theorem k_X3_regular {G : ac_G} {Y : ac_Y} {mm : ac_M} {d t n k : Nat} {E : List ac_Eq} {pin : Nat → Int} {col : Option (List Nat)} (hd : 3 ≤ d) (hT : ac_isT Y t) (hR : ac_RT mm t n k E pin col) {e : Nat} {q : ac_Eq} (hq : E[e]? = some q) : ac_C G yX3_regular cX3_regular 5 (some .boolean) d 0 0 Y mm [(2, (t : Int)), (0, (e : Int))] (ac_R Y [(0, @ac_b (ac_reg q) (ac_regd q))] (fun m => m = mm)) := by
  have hT9 := hT
  have hR9 := hR
  obtain ⟨hk0, hk1, hk2, hk3, hr0, hr1, hr2⟩ := hT
  obtain ⟨⟨⟨hn1, hn2⟩, ⟨hkk1, hkk2⟩, ⟨hE1, hE2⟩, hp0, hpr, hc0⟩, r3, r4, r5, r6, rE, rp, rcb, rc⟩ := hR
  have he := (List.getElem?_eq_some_iff.mp hq).1
  obtain ⟨⟨⟨q1, q2⟩, -⟩, ⟨⟨q3, q4⟩, -⟩, ⟨⟨q5, q6⟩, -⟩, -⟩ := hE2 q (List.mem_of_getElem? hq)
  refine ac_met (on := (RX3, "regular")) rfl rfl (Nat.le_of_ble_eq_true rfl) (ls := [(2, (t : Int)), (0, (e : Int)), (3, 0), (3, 0), (3, 0)]) rfl ?_
  refine ac_aload_n (q := 1) dX3_regular_0 rfl rfl ?_
  refine ac_iload_n (q := 2) dX3_regular_1 rfl rfl ?_
  refine ac_iconst (q := 3) dX3_regular_2 rfl ?_
  refine ac_cvp (q := 6) (k_X3_part (d := d - 1) (w := 0) (by omega) hT9 hR9 hq (by decide)) ml_X3_54 (by assumption) dX3_regular_3 rfl rfl rfl (by omega) (Nat.le_of_ble_eq_true rfl) (Nat.zero_le _) (Nat.zero_le _) ?_
  refine ac_top (w' := (0, q.1)) rfl ?_
  refine ac_istore_n (q := 7) (j := 2) rfl dX3_regular_6 rfl (Nat.le_of_ble_eq_true rfl) rfl rfl ?_
  simp only [List.set_cons_succ, List.set_cons_zero]
  refine ac_aload_n (q := 8) dX3_regular_7 rfl rfl ?_
  refine ac_iload_n (q := 9) dX3_regular_8 rfl rfl ?_
  refine ac_iconst (q := 10) dX3_regular_9 rfl ?_
  refine ac_cvp (q := 13) (k_X3_part (d := d - 1) (w := 1) (by omega) hT9 hR9 hq (by decide)) ml_X3_54 (by assumption) dX3_regular_10 rfl rfl rfl (by omega) (Nat.le_of_ble_eq_true rfl) (Nat.zero_le _) (Nat.zero_le _) ?_
  refine ac_top (w' := (0, q.2.1)) rfl ?_
  refine ac_istore_n (q := 14) (j := 3) rfl dX3_regular_13 rfl (Nat.le_of_ble_eq_true rfl) rfl rfl ?_
  simp only [List.set_cons_succ, List.set_cons_zero]
  refine ac_aload_n (q := 15) dX3_regular_14 rfl rfl ?_
  refine ac_iload_n (q := 16) dX3_regular_15 rfl rfl ?_
  refine ac_iconst (q := 17) dX3_regular_16 rfl ?_
  refine ac_cvp (q := 20) (k_X3_part (d := d - 1) (w := 2) (by omega) hT9 hR9 hq (by decide)) ml_X3_54 (by assumption) dX3_regular_17 rfl rfl rfl (by omega) (Nat.le_of_ble_eq_true rfl) (Nat.zero_le _) (Nat.zero_le _) ?_
  refine ac_top (w' := (0, q.2.2.1)) rfl ?_
  refine ac_istore (q := 22) dX3_regular_20 rfl (Nat.le_of_ble_eq_true rfl) rfl rfl ?_
  simp only [List.set_cons_succ, List.set_cons_zero]
  refine ac_iload_n (q := 23) dX3_regular_22 rfl rfl ?_
  refine ac_iload_n (q := 24) dX3_regular_23 rfl rfl ?_
  refine ac_iadd (q := 25) dX3_regular_24 rfl ?_
  refine ac_if_eq (q := 28) (tgt := 51) dX3_regular_25 rfl rfl ⟨by omega, by omega⟩ (fun h25 => ?_) (fun h25 => ?_)
  · refine ac_iconst (q := 52) dX3_regular_51 rfl ?_
    refine ac_goto (q := 56) dX3_regular_52 rfl ?_
    refine ac_zreturn dX3_regular_56 rfl (by first | exact ac_b01 | omega) (Nat.zero_le _) (Nat.zero_le _) ?_
    first | exact ⟨ac_l1 (c := ac_reg q) (by unfold ac_reg; omega), rfl, rfl⟩ | exact ⟨ac_l0 (c := ac_reg q) (by unfold ac_reg; omega), rfl, rfl⟩
  · refine ac_iload_n (q := 29) dX3_regular_28 rfl rfl ?_
    refine ac_iload (q := 31) dX3_regular_29 rfl rfl ?_
    refine ac_isub (q := 32) dX3_regular_31 rfl ?_
    refine ac_if_eq (q := 35) (tgt := 51) dX3_regular_32 rfl rfl ⟨by omega, by omega⟩ (fun h32 => ?_) (fun h32 => ?_)
    · refine ac_iconst (q := 52) dX3_regular_51 rfl ?_
      refine ac_goto (q := 56) dX3_regular_52 rfl ?_
      refine ac_zreturn dX3_regular_56 rfl (by first | exact ac_b01 | omega) (Nat.zero_le _) (Nat.zero_le _) ?_
      first | exact ⟨ac_l1 (c := ac_reg q) (by unfold ac_reg; omega), rfl, rfl⟩ | exact ⟨ac_l0 (c := ac_reg q) (by unfold ac_reg; omega), rfl, rfl⟩
    · refine ac_iload_n (q := 36) dX3_regular_35 rfl rfl ?_
      refine ac_iload (q := 38) dX3_regular_36 rfl rfl ?_
      refine ac_isub (q := 39) dX3_regular_38 rfl ?_
      refine ac_if_eq (q := 42) (tgt := 51) dX3_regular_39 rfl rfl ⟨by omega, by omega⟩ (fun h39 => ?_) (fun h39 => ?_)
      · refine ac_iconst (q := 52) dX3_regular_51 rfl ?_
        refine ac_goto (q := 56) dX3_regular_52 rfl ?_
        refine ac_zreturn dX3_regular_56 rfl (by first | exact ac_b01 | omega) (Nat.zero_le _) (Nat.zero_le _) ?_
        first | exact ⟨ac_l1 (c := ac_reg q) (by unfold ac_reg; omega), rfl, rfl⟩ | exact ⟨ac_l0 (c := ac_reg q) (by unfold ac_reg; omega), rfl, rfl⟩
      · refine ac_iload_n (q := 43) dX3_regular_42 rfl rfl ?_
        refine ac_iload_n (q := 44) dX3_regular_43 rfl rfl ?_
        refine ac_iadd (q := 45) dX3_regular_44 rfl ?_
        refine ac_iload (q := 47) dX3_regular_45 rfl rfl ?_
        refine ac_isub (q := 48) dX3_regular_47 rfl ?_
        refine ac_if_ne (q := 51) (tgt := 55) dX3_regular_48 rfl rfl ⟨by omega, by omega⟩ (fun h48 => ?_) (fun h48 => ?_)
        · refine ac_iconst (q := 56) dX3_regular_55 rfl ?_
          refine ac_zreturn dX3_regular_56 rfl (by first | exact ac_b01 | omega) (Nat.zero_le _) (Nat.zero_le _) ?_
          first | exact ⟨ac_l1 (c := ac_reg q) (by unfold ac_reg; omega), rfl, rfl⟩ | exact ⟨ac_l0 (c := ac_reg q) (by unfold ac_reg; omega), rfl, rfl⟩
        · refine ac_iconst (q := 52) dX3_regular_51 rfl ?_
          refine ac_goto (q := 56) dX3_regular_52 rfl ?_
          refine ac_zreturn dX3_regular_56 rfl (by first | exact ac_b01 | omega) (Nat.zero_le _) (Nat.zero_le _) ?_
          first | exact ⟨ac_l1 (c := ac_reg q) (by unfold ac_reg; omega), rfl, rfl⟩ | exact ⟨ac_l0 (c := ac_reg q) (by unfold ac_reg; omega), rfl, rfl⟩

set_option maxHeartbeats 4000000 in
theorem k_X3_third {G : ac_G} {Y : ac_Y} {mm : ac_M} {d t e : Nat} {E : List ac_Eq} {q : ac_Eq} {x y u : Int} (hd : 1 ≤ d) (hT : ac_isT Y t) (rE : ac_E mm (t + 1) 0 E) (hE : ac_okE E) (hq : E[e]? = some q) (hx : 1 ≤ x ∧ x ≤ 10) (hy : 1 ≤ y ∧ y ≤ 10) (hu : 0 ≤ u ∧ u ≤ 10)   : ac_C G yX3_third cX3_third 10 (some .int) d 0 0 Y mm [(2, (t : Int)), (0, (e : Int)), (0, x), (0, y), (0, u)] (ac_R Y [(0, ac_th q x y u)] (fun m => m = mm)) := by
  obtain ⟨hk0, hk1, hk2, hk3, hr0, hr1, hr2⟩ := hT
  obtain ⟨hE1, hE2⟩ := hE
  obtain ⟨hx1, hx2⟩ := hx
  obtain ⟨hy1, hy2⟩ := hy
  obtain ⟨hu1, hu2⟩ := hu
  have he := (List.getElem?_eq_some_iff.mp hq).1
  obtain ⟨⟨⟨q1, q2⟩, -⟩, ⟨⟨q3, q4⟩, -⟩, ⟨⟨q5, q6⟩, q7⟩, q8⟩ := hE2 q (List.mem_of_getElem? hq)
  obtain ⟨b1, b2⟩ := ac_mul4 (x := x) q1 q2 (by omega) (by omega)
  obtain ⟨b3, b4⟩ := ac_mul4 (x := y) q3 q4 (by omega) (by omega)
  have hz := Int.natAbs_tdiv_le_natAbs (q.1 * x + q.2.1 * y) q.2.2.1
  refine ac_met (on := (RX3, "third")) rfl rfl (Nat.le_of_ble_eq_true rfl) (ls := [(2, (t : Int)), (0, (e : Int)), (0, x), (0, y), (0, u), (3, 0), (3, 0), (3, 0), (3, 0), (3, 0)]) rfl ?_
  refine ac_iload_n (q := 1) dX3_third_0 rfl rfl ?_
  refine ac_if_lt (q := 4) (tgt := 9) dX3_third_1 rfl rfl ⟨by omega, by omega⟩ (fun h1 => ?_) (fun h1 => ?_)
  · exfalso; omega
  · refine ac_iload_n (q := 5) dX3_third_4 rfl rfl ?_
    refine ac_iconst (q := 6) dX3_third_5 rfl ?_
    refine ac_icmp_lt (q := 9) (tgt := 11) dX3_third_6 rfl rfl ⟨by omega, by omega⟩ ⟨by omega, by omega⟩ (fun h6 => ?_) (fun h6 => ?_)
    · refine ac_iconst (q := 12) dX3_third_11 rfl ?_
      refine ac_iload_n (q := 13) dX3_third_12 rfl rfl ?_
      refine ac_imul (q := 14) dX3_third_13 rfl ?_
      refine ac_istore (q := 16) dX3_third_14 rfl (Nat.le_of_ble_eq_true rfl) rfl rfl ?_
      simp only [List.set_cons_succ, List.set_cons_zero]
      refine ac_aload_n (q := 17) dX3_third_16 rfl rfl ?_
      refine ac_get (q := 20) dX3_third_17 fl_X3_11 (by assumption) rfl (ac_rdr rfl (by assumption)) ?_
      refine ac_iload (q := 22) dX3_third_20 rfl rfl ?_
      refine ac_iconst (q := 23) dX3_third_22 rfl ?_
      refine ac_iadd (q := 24) dX3_third_23 rfl ?_
      refine ac_iaload (q := 25) (v := ac_qc q 2) dX3_third_24 (by assumption) (by decide) ⟨by omega, by omega⟩ rfl (ac_Eget rE hq (by decide) (by omega)) ?_
      refine ac_top (w' := (0, q.2.2.1)) rfl ?_
      refine ac_istore (q := 27) dX3_third_25 rfl (Nat.le_of_ble_eq_true rfl) rfl rfl ?_
      simp only [List.set_cons_succ, List.set_cons_zero]
      refine ac_aload_n (q := 28) dX3_third_27 rfl rfl ?_
      refine ac_get (q := 31) dX3_third_28 fl_X3_11 (by assumption) rfl (ac_rdr rfl (by assumption)) ?_
      refine ac_iload (q := 33) dX3_third_31 rfl rfl ?_
      refine ac_iaload (q := 34) (v := ac_qc q 0) dX3_third_33 (by assumption) (by decide) ⟨by omega, by omega⟩ rfl (ac_Eget rE hq (by decide) (by omega)) ?_
      refine ac_top (w' := (0, q.1)) rfl ?_
      refine ac_iload_n (q := 35) dX3_third_34 rfl rfl ?_
      refine ac_imul (q := 36) dX3_third_35 rfl ?_
      refine ac_aload_n (q := 37) dX3_third_36 rfl rfl ?_
      refine ac_get (q := 40) dX3_third_37 fl_X3_11 (by assumption) rfl (ac_rdr rfl (by assumption)) ?_
      refine ac_iload (q := 42) dX3_third_40 rfl rfl ?_
      refine ac_iconst (q := 43) dX3_third_42 rfl ?_
      refine ac_iadd (q := 44) dX3_third_43 rfl ?_
      refine ac_iaload (q := 45) (v := ac_qc q 1) dX3_third_44 (by assumption) (by decide) ⟨by omega, by omega⟩ rfl (ac_Eget rE hq (by decide) (by omega)) ?_
      refine ac_top (w' := (0, q.2.1)) rfl ?_
      refine ac_iload_n (q := 46) dX3_third_45 rfl rfl ?_
      refine ac_imul (q := 47) dX3_third_46 rfl ?_
      refine ac_iadd (q := 48) dX3_third_47 rfl ?_
      refine ac_istore (q := 50) dX3_third_48 rfl (Nat.le_of_ble_eq_true rfl) rfl rfl ?_
      simp only [List.set_cons_succ, List.set_cons_zero]
      refine ac_iload (q := 52) dX3_third_50 rfl rfl ?_
      refine ac_if_eq (q := 55) (tgt := 63) dX3_third_52 rfl rfl ⟨by omega, by omega⟩ (fun h52 => ?_) (fun h52 => ?_)
      · exfalso; omega
      · refine ac_iload (q := 57) dX3_third_55 rfl rfl ?_
        refine ac_iload (q := 59) dX3_third_57 rfl rfl ?_
        refine ac_irem (q := 60) dX3_third_59 rfl ⟨by omega, by omega⟩ ⟨by omega, by omega⟩ (by omega) (by omega) ?_
        refine ac_if_eq (q := 63) (tgt := 65) dX3_third_60 rfl rfl (ac_tmodin b1 b2 b3 b4) (fun h60 => ?_) (fun h60 => ?_)
        · refine ac_iload (q := 67) dX3_third_65 rfl rfl ?_
          refine ac_iload (q := 69) dX3_third_67 rfl rfl ?_
          refine ac_idiv (q := 70) dX3_third_69 rfl ⟨by omega, by omega⟩ ⟨by omega, by omega⟩ (by omega) (by omega) ?_
          refine ac_istore (q := 72) dX3_third_70 rfl (Nat.le_of_ble_eq_true rfl) rfl rfl ?_
          simp only [List.set_cons_succ, List.set_cons_zero]
          refine ac_iload_n (q := 73) dX3_third_72 rfl rfl ?_
          refine ac_iload_n (q := 74) dX3_third_73 rfl rfl ?_
          refine ac_icmp_eq (q := 77) (tgt := 89) dX3_third_74 rfl rfl ⟨by omega, by omega⟩ ⟨by omega, by omega⟩ (fun h74 => ?_) (fun h74 => ?_)
          · refine ac_iconst (q := 90) dX3_third_89 rfl ?_
            refine ac_goto (q := 94) dX3_third_90 rfl ?_
            refine ac_istore (q := 96) dX3_third_94 rfl (Nat.le_of_ble_eq_true rfl) rfl rfl ?_
            simp only [List.set_cons_succ, List.set_cons_zero]
            refine ac_iload (q := 98) dX3_third_96 rfl rfl ?_
            refine ac_iconst (q := 99) dX3_third_98 rfl ?_
            refine ac_icmp_lt (q := 102) (tgt := 127) dX3_third_99 rfl rfl ⟨by omega, by omega⟩ ⟨by omega, by omega⟩ (fun h99 => ?_) (fun h99 => ?_)
            · refine ac_iconst (q := 128) dX3_third_127 rfl ?_
              refine ac_ireturn dX3_third_128 rfl (Nat.zero_le _) (Nat.zero_le _) ?_
              first
                | (exfalso; omega)
                | exact ⟨congrArg (fun z => [((0 : Nat), z)]) (ac_th_a (by omega)), rfl, rfl⟩
                | exact ⟨congrArg (fun z => [((0 : Nat), z)]) (ac_th_b (by omega)), rfl, rfl⟩
                | exact ⟨congrArg (fun z => [((0 : Nat), z)]) (ac_th_c (by omega) (by omega) (by omega)), rfl, rfl⟩
            · refine ac_iload (q := 104) dX3_third_102 rfl rfl ?_
              refine ac_iload (q := 106) dX3_third_104 rfl rfl ?_
              refine ac_icmp_gt (q := 109) (tgt := 127) dX3_third_106 rfl rfl ⟨by omega, by omega⟩ ⟨by omega, by omega⟩ (fun h106 => ?_) (fun h106 => ?_)
              · refine ac_iconst (q := 128) dX3_third_127 rfl ?_
                refine ac_ireturn dX3_third_128 rfl (Nat.zero_le _) (Nat.zero_le _) ?_
                first
                  | (exfalso; omega)
                  | exact ⟨congrArg (fun z => [((0 : Nat), z)]) (ac_th_a (by omega)), rfl, rfl⟩
                  | exact ⟨congrArg (fun z => [((0 : Nat), z)]) (ac_th_b (by omega)), rfl, rfl⟩
                  | exact ⟨congrArg (fun z => [((0 : Nat), z)]) (ac_th_c (by omega) (by omega) (by omega)), rfl, rfl⟩
              · refine ac_iload (q := 111) dX3_third_109 rfl rfl ?_
                refine ac_if_eq (q := 114) (tgt := 129) dX3_third_111 rfl rfl ⟨by omega, by omega⟩ (fun h111 => ?_) (fun h111 => ?_)
                · exact absurd h111 (by decide)
                · refine ac_aload_n (q := 115) dX3_third_114 rfl rfl ?_
                  refine ac_get (q := 118) dX3_third_115 fl_X3_11 (by assumption) rfl (ac_rdr rfl (by assumption)) ?_
                  refine ac_iload (q := 120) dX3_third_118 rfl rfl ?_
                  refine ac_iconst (q := 121) dX3_third_120 rfl ?_
                  refine ac_iadd (q := 122) dX3_third_121 rfl ?_
                  refine ac_iaload (q := 123) (v := ac_qc q 3) dX3_third_122 (by assumption) (by decide) ⟨by omega, by omega⟩ rfl (ac_Eget rE hq (by decide) (by omega)) ?_
                  refine ac_top (w' := (0, q.2.2.2)) rfl ?_
                  refine ac_iconst (q := 124) dX3_third_123 rfl ?_
                  refine ac_icmp_ne (q := 127) (tgt := 129) dX3_third_124 rfl rfl ⟨by omega, by omega⟩ ⟨by omega, by omega⟩ (fun h124 => ?_) (fun h124 => ?_)
                  · refine ac_iload (q := 131) dX3_third_129 rfl rfl ?_
                    refine ac_ireturn dX3_third_131 rfl (Nat.zero_le _) (Nat.zero_le _) ?_
                    first
                      | (exfalso; omega)
                      | exact ⟨congrArg (fun z => [((0 : Nat), z)]) (ac_th_a (by omega)), rfl, rfl⟩
                      | exact ⟨congrArg (fun z => [((0 : Nat), z)]) (ac_th_b (by omega)), rfl, rfl⟩
                      | exact ⟨congrArg (fun z => [((0 : Nat), z)]) (ac_th_c (by omega) (by omega) (by omega)), rfl, rfl⟩
                  · refine ac_iconst (q := 128) dX3_third_127 rfl ?_
                    refine ac_ireturn dX3_third_128 rfl (Nat.zero_le _) (Nat.zero_le _) ?_
                    first
                      | (exfalso; omega)
                      | exact ⟨congrArg (fun z => [((0 : Nat), z)]) (ac_th_a (by omega)), rfl, rfl⟩
                      | exact ⟨congrArg (fun z => [((0 : Nat), z)]) (ac_th_b (by omega)), rfl, rfl⟩
                      | exact ⟨congrArg (fun z => [((0 : Nat), z)]) (ac_th_c (by omega) (by omega) (by omega)), rfl, rfl⟩
          · refine ac_iload_n (q := 78) dX3_third_77 rfl rfl ?_
            refine ac_iload (q := 80) dX3_third_78 rfl rfl ?_
            refine ac_icmp_eq (q := 83) (tgt := 89) dX3_third_80 rfl rfl ⟨by omega, by omega⟩ ⟨by omega, by omega⟩ (fun h80 => ?_) (fun h80 => ?_)
            · refine ac_iconst (q := 90) dX3_third_89 rfl ?_
              refine ac_goto (q := 94) dX3_third_90 rfl ?_
              refine ac_istore (q := 96) dX3_third_94 rfl (Nat.le_of_ble_eq_true rfl) rfl rfl ?_
              simp only [List.set_cons_succ, List.set_cons_zero]
              refine ac_iload (q := 98) dX3_third_96 rfl rfl ?_
              refine ac_iconst (q := 99) dX3_third_98 rfl ?_
              refine ac_icmp_lt (q := 102) (tgt := 127) dX3_third_99 rfl rfl ⟨by omega, by omega⟩ ⟨by omega, by omega⟩ (fun h99 => ?_) (fun h99 => ?_)
              · refine ac_iconst (q := 128) dX3_third_127 rfl ?_
                refine ac_ireturn dX3_third_128 rfl (Nat.zero_le _) (Nat.zero_le _) ?_
                first
                  | (exfalso; omega)
                  | exact ⟨congrArg (fun z => [((0 : Nat), z)]) (ac_th_a (by omega)), rfl, rfl⟩
                  | exact ⟨congrArg (fun z => [((0 : Nat), z)]) (ac_th_b (by omega)), rfl, rfl⟩
                  | exact ⟨congrArg (fun z => [((0 : Nat), z)]) (ac_th_c (by omega) (by omega) (by omega)), rfl, rfl⟩
              · refine ac_iload (q := 104) dX3_third_102 rfl rfl ?_
                refine ac_iload (q := 106) dX3_third_104 rfl rfl ?_
                refine ac_icmp_gt (q := 109) (tgt := 127) dX3_third_106 rfl rfl ⟨by omega, by omega⟩ ⟨by omega, by omega⟩ (fun h106 => ?_) (fun h106 => ?_)
                · refine ac_iconst (q := 128) dX3_third_127 rfl ?_
                  refine ac_ireturn dX3_third_128 rfl (Nat.zero_le _) (Nat.zero_le _) ?_
                  first
                    | (exfalso; omega)
                    | exact ⟨congrArg (fun z => [((0 : Nat), z)]) (ac_th_a (by omega)), rfl, rfl⟩
                    | exact ⟨congrArg (fun z => [((0 : Nat), z)]) (ac_th_b (by omega)), rfl, rfl⟩
                    | exact ⟨congrArg (fun z => [((0 : Nat), z)]) (ac_th_c (by omega) (by omega) (by omega)), rfl, rfl⟩
                · refine ac_iload (q := 111) dX3_third_109 rfl rfl ?_
                  refine ac_if_eq (q := 114) (tgt := 129) dX3_third_111 rfl rfl ⟨by omega, by omega⟩ (fun h111 => ?_) (fun h111 => ?_)
                  · exact absurd h111 (by decide)
                  · refine ac_aload_n (q := 115) dX3_third_114 rfl rfl ?_
                    refine ac_get (q := 118) dX3_third_115 fl_X3_11 (by assumption) rfl (ac_rdr rfl (by assumption)) ?_
                    refine ac_iload (q := 120) dX3_third_118 rfl rfl ?_
                    refine ac_iconst (q := 121) dX3_third_120 rfl ?_
                    refine ac_iadd (q := 122) dX3_third_121 rfl ?_
                    refine ac_iaload (q := 123) (v := ac_qc q 3) dX3_third_122 (by assumption) (by decide) ⟨by omega, by omega⟩ rfl (ac_Eget rE hq (by decide) (by omega)) ?_
                    refine ac_top (w' := (0, q.2.2.2)) rfl ?_
                    refine ac_iconst (q := 124) dX3_third_123 rfl ?_
                    refine ac_icmp_ne (q := 127) (tgt := 129) dX3_third_124 rfl rfl ⟨by omega, by omega⟩ ⟨by omega, by omega⟩ (fun h124 => ?_) (fun h124 => ?_)
                    · refine ac_iload (q := 131) dX3_third_129 rfl rfl ?_
                      refine ac_ireturn dX3_third_131 rfl (Nat.zero_le _) (Nat.zero_le _) ?_
                      first
                        | (exfalso; omega)
                        | exact ⟨congrArg (fun z => [((0 : Nat), z)]) (ac_th_a (by omega)), rfl, rfl⟩
                        | exact ⟨congrArg (fun z => [((0 : Nat), z)]) (ac_th_b (by omega)), rfl, rfl⟩
                        | exact ⟨congrArg (fun z => [((0 : Nat), z)]) (ac_th_c (by omega) (by omega) (by omega)), rfl, rfl⟩
                    · refine ac_iconst (q := 128) dX3_third_127 rfl ?_
                      refine ac_ireturn dX3_third_128 rfl (Nat.zero_le _) (Nat.zero_le _) ?_
                      first
                        | (exfalso; omega)
                        | exact ⟨congrArg (fun z => [((0 : Nat), z)]) (ac_th_a (by omega)), rfl, rfl⟩
                        | exact ⟨congrArg (fun z => [((0 : Nat), z)]) (ac_th_b (by omega)), rfl, rfl⟩
                        | exact ⟨congrArg (fun z => [((0 : Nat), z)]) (ac_th_c (by omega) (by omega) (by omega)), rfl, rfl⟩
            · refine ac_iload_n (q := 84) dX3_third_83 rfl rfl ?_
              refine ac_iload (q := 86) dX3_third_84 rfl rfl ?_
              refine ac_icmp_ne (q := 89) (tgt := 93) dX3_third_86 rfl rfl ⟨by omega, by omega⟩ ⟨by omega, by omega⟩ (fun h86 => ?_) (fun h86 => ?_)
              · refine ac_iconst (q := 94) dX3_third_93 rfl ?_
                refine ac_istore (q := 96) dX3_third_94 rfl (Nat.le_of_ble_eq_true rfl) rfl rfl ?_
                simp only [List.set_cons_succ, List.set_cons_zero]
                refine ac_iload (q := 98) dX3_third_96 rfl rfl ?_
                refine ac_iconst (q := 99) dX3_third_98 rfl ?_
                refine ac_icmp_lt (q := 102) (tgt := 127) dX3_third_99 rfl rfl ⟨by omega, by omega⟩ ⟨by omega, by omega⟩ (fun h99 => ?_) (fun h99 => ?_)
                · refine ac_iconst (q := 128) dX3_third_127 rfl ?_
                  refine ac_ireturn dX3_third_128 rfl (Nat.zero_le _) (Nat.zero_le _) ?_
                  first
                    | (exfalso; omega)
                    | exact ⟨congrArg (fun z => [((0 : Nat), z)]) (ac_th_a (by omega)), rfl, rfl⟩
                    | exact ⟨congrArg (fun z => [((0 : Nat), z)]) (ac_th_b (by omega)), rfl, rfl⟩
                    | exact ⟨congrArg (fun z => [((0 : Nat), z)]) (ac_th_c (by omega) (by omega) (by omega)), rfl, rfl⟩
                · refine ac_iload (q := 104) dX3_third_102 rfl rfl ?_
                  refine ac_iload (q := 106) dX3_third_104 rfl rfl ?_
                  refine ac_icmp_gt (q := 109) (tgt := 127) dX3_third_106 rfl rfl ⟨by omega, by omega⟩ ⟨by omega, by omega⟩ (fun h106 => ?_) (fun h106 => ?_)
                  · refine ac_iconst (q := 128) dX3_third_127 rfl ?_
                    refine ac_ireturn dX3_third_128 rfl (Nat.zero_le _) (Nat.zero_le _) ?_
                    first
                      | (exfalso; omega)
                      | exact ⟨congrArg (fun z => [((0 : Nat), z)]) (ac_th_a (by omega)), rfl, rfl⟩
                      | exact ⟨congrArg (fun z => [((0 : Nat), z)]) (ac_th_b (by omega)), rfl, rfl⟩
                      | exact ⟨congrArg (fun z => [((0 : Nat), z)]) (ac_th_c (by omega) (by omega) (by omega)), rfl, rfl⟩
                  · refine ac_iload (q := 111) dX3_third_109 rfl rfl ?_
                    refine ac_if_eq (q := 114) (tgt := 129) dX3_third_111 rfl rfl ⟨by omega, by omega⟩ (fun h111 => ?_) (fun h111 => ?_)
                    · refine ac_iload (q := 131) dX3_third_129 rfl rfl ?_
                      refine ac_ireturn dX3_third_131 rfl (Nat.zero_le _) (Nat.zero_le _) ?_
                      first
                        | (exfalso; omega)
                        | exact ⟨congrArg (fun z => [((0 : Nat), z)]) (ac_th_a (by omega)), rfl, rfl⟩
                        | exact ⟨congrArg (fun z => [((0 : Nat), z)]) (ac_th_b (by omega)), rfl, rfl⟩
                        | exact ⟨congrArg (fun z => [((0 : Nat), z)]) (ac_th_c (by omega) (by omega) (by omega)), rfl, rfl⟩
                    · exact absurd h111 (by decide)
              · refine ac_iconst (q := 90) dX3_third_89 rfl ?_
                refine ac_goto (q := 94) dX3_third_90 rfl ?_
                refine ac_istore (q := 96) dX3_third_94 rfl (Nat.le_of_ble_eq_true rfl) rfl rfl ?_
                simp only [List.set_cons_succ, List.set_cons_zero]
                refine ac_iload (q := 98) dX3_third_96 rfl rfl ?_
                refine ac_iconst (q := 99) dX3_third_98 rfl ?_
                refine ac_icmp_lt (q := 102) (tgt := 127) dX3_third_99 rfl rfl ⟨by omega, by omega⟩ ⟨by omega, by omega⟩ (fun h99 => ?_) (fun h99 => ?_)
                · refine ac_iconst (q := 128) dX3_third_127 rfl ?_
                  refine ac_ireturn dX3_third_128 rfl (Nat.zero_le _) (Nat.zero_le _) ?_
                  first
                    | (exfalso; omega)
                    | exact ⟨congrArg (fun z => [((0 : Nat), z)]) (ac_th_a (by omega)), rfl, rfl⟩
                    | exact ⟨congrArg (fun z => [((0 : Nat), z)]) (ac_th_b (by omega)), rfl, rfl⟩
                    | exact ⟨congrArg (fun z => [((0 : Nat), z)]) (ac_th_c (by omega) (by omega) (by omega)), rfl, rfl⟩
                · refine ac_iload (q := 104) dX3_third_102 rfl rfl ?_
                  refine ac_iload (q := 106) dX3_third_104 rfl rfl ?_
                  refine ac_icmp_gt (q := 109) (tgt := 127) dX3_third_106 rfl rfl ⟨by omega, by omega⟩ ⟨by omega, by omega⟩ (fun h106 => ?_) (fun h106 => ?_)
                  · refine ac_iconst (q := 128) dX3_third_127 rfl ?_
                    refine ac_ireturn dX3_third_128 rfl (Nat.zero_le _) (Nat.zero_le _) ?_
                    first
                      | (exfalso; omega)
                      | exact ⟨congrArg (fun z => [((0 : Nat), z)]) (ac_th_a (by omega)), rfl, rfl⟩
                      | exact ⟨congrArg (fun z => [((0 : Nat), z)]) (ac_th_b (by omega)), rfl, rfl⟩
                      | exact ⟨congrArg (fun z => [((0 : Nat), z)]) (ac_th_c (by omega) (by omega) (by omega)), rfl, rfl⟩
                  · refine ac_iload (q := 111) dX3_third_109 rfl rfl ?_
                    refine ac_if_eq (q := 114) (tgt := 129) dX3_third_111 rfl rfl ⟨by omega, by omega⟩ (fun h111 => ?_) (fun h111 => ?_)
                    · exact absurd h111 (by decide)
                    · refine ac_aload_n (q := 115) dX3_third_114 rfl rfl ?_
                      refine ac_get (q := 118) dX3_third_115 fl_X3_11 (by assumption) rfl (ac_rdr rfl (by assumption)) ?_
                      refine ac_iload (q := 120) dX3_third_118 rfl rfl ?_
                      refine ac_iconst (q := 121) dX3_third_120 rfl ?_
                      refine ac_iadd (q := 122) dX3_third_121 rfl ?_
                      refine ac_iaload (q := 123) (v := ac_qc q 3) dX3_third_122 (by assumption) (by decide) ⟨by omega, by omega⟩ rfl (ac_Eget rE hq (by decide) (by omega)) ?_
                      refine ac_top (w' := (0, q.2.2.2)) rfl ?_
                      refine ac_iconst (q := 124) dX3_third_123 rfl ?_
                      refine ac_icmp_ne (q := 127) (tgt := 129) dX3_third_124 rfl rfl ⟨by omega, by omega⟩ ⟨by omega, by omega⟩ (fun h124 => ?_) (fun h124 => ?_)
                      · refine ac_iload (q := 131) dX3_third_129 rfl rfl ?_
                        refine ac_ireturn dX3_third_131 rfl (Nat.zero_le _) (Nat.zero_le _) ?_
                        first
                          | (exfalso; omega)
                          | exact ⟨congrArg (fun z => [((0 : Nat), z)]) (ac_th_a (by omega)), rfl, rfl⟩
                          | exact ⟨congrArg (fun z => [((0 : Nat), z)]) (ac_th_b (by omega)), rfl, rfl⟩
                          | exact ⟨congrArg (fun z => [((0 : Nat), z)]) (ac_th_c (by omega) (by omega) (by omega)), rfl, rfl⟩
                      · refine ac_iconst (q := 128) dX3_third_127 rfl ?_
                        refine ac_ireturn dX3_third_128 rfl (Nat.zero_le _) (Nat.zero_le _) ?_
                        first
                          | (exfalso; omega)
                          | exact ⟨congrArg (fun z => [((0 : Nat), z)]) (ac_th_a (by omega)), rfl, rfl⟩
                          | exact ⟨congrArg (fun z => [((0 : Nat), z)]) (ac_th_b (by omega)), rfl, rfl⟩
                          | exact ⟨congrArg (fun z => [((0 : Nat), z)]) (ac_th_c (by omega) (by omega) (by omega)), rfl, rfl⟩
        · refine ac_iconst (q := 64) dX3_third_63 rfl ?_
          refine ac_ireturn dX3_third_64 rfl (Nat.zero_le _) (Nat.zero_le _) ?_
          first
            | (exfalso; omega)
            | exact ⟨congrArg (fun z => [((0 : Nat), z)]) (ac_th_a (by omega)), rfl, rfl⟩
            | exact ⟨congrArg (fun z => [((0 : Nat), z)]) (ac_th_b (by omega)), rfl, rfl⟩
            | exact ⟨congrArg (fun z => [((0 : Nat), z)]) (ac_th_c (by omega) (by omega) (by omega)), rfl, rfl⟩
    · exfalso; omega

set_option maxHeartbeats 4000000 in
theorem k_X3_solutions {G : ac_G} {Y : ac_Y} {mm : ac_M} {d t n k : Nat} {E : List ac_Eq} {pin : Nat → Int} {col : Option (List Nat)} (hd : 2 ≤ d) (hT : ac_isT Y t) (hR : ac_RT mm t n k E pin col) {e : Nat} {q : ac_Eq} (hq : E[e]? = some q) : ac_C G yX3_solutions cX3_solutions 5 (some .int) d 0 0 Y mm [(2, (t : Int)), (0, (e : Int))] (ac_R Y [(0, ((ac_sols q n).length : Int))] (fun m => m = mm)) := by
  have hT9 := hT
  have hR9 := hR
  obtain ⟨hk0, hk1, hk2, hk3, hr0, hr1, hr2⟩ := hT
  obtain ⟨⟨⟨hn1, hn2⟩, ⟨hkk1, hkk2⟩, ⟨hE1, hE2⟩, hp0, hpr, hc0⟩, r3, r4, r5, r6, rE, rp, rcb, rc⟩ := hR
  refine ac_met (on := (RX3, "solutions")) rfl rfl (Nat.le_of_ble_eq_true rfl) (ls := [(2, (t : Int)), (0, (e : Int)), (3, 0), (3, 0), (3, 0)]) rfl ?_
  have inner : ∀ (r f x : Nat), r ≤ n → 1 ≤ x → x ≤ n → ac_V G (RX3, "solutions") cX3_solutions 5 (some .int) d 0 0 (ac_R Y [(0, ((ac_sols q n).length : Int))] (fun m => m = mm)) 0 0 Y mm 48 [(2, (t : Int)), (0, (e : Int)), (0, ((f + (ac_ry q n x r).length : Nat) : Int)), (0, (x : Int)), (3, 0)] [] → ac_V G (RX3, "solutions") cX3_solutions 5 (some .int) d 0 0 (ac_R Y [(0, ((ac_sols q n).length : Int))] (fun m => m = mm)) 0 0 Y mm 15 [(2, (t : Int)), (0, (e : Int)), (0, (f : Int)), (0, (x : Int)), (0, ((n + 1 - r : Nat) : Int))] [] := by
    intro r
    induction r with
    | zero =>
      intro f x hr hx1 hx2 hK
      refine ac_iload (q := 17) dX3_solutions_15 rfl rfl ?_
      refine ac_aload_n (q := 18) dX3_solutions_17 rfl rfl ?_
      refine ac_get (q := 21) dX3_solutions_18 fl_X3_21 (by assumption) rfl (ac_rdi rfl r3) ?_
      refine ac_icmp_gt (q := 24) (tgt := 48) dX3_solutions_21 rfl rfl ⟨by omega, by omega⟩ ⟨by omega, by omega⟩ (fun h21 => ?_) (fun h21 => ?_)
      · refine ac_drop [(2, (t : Int)), (0, (e : Int)), (0, (f : Int)), (0, (x : Int)), (3, 0)] (by repeat (first | exact trivial | refine ⟨Or.inl rfl, ?_⟩ | refine ⟨Or.inr rfl, ?_⟩)) ?_
        exact hK
      · exfalso; omega
    | succ r ih =>
      intro f x hr hx1 hx2 hK
      have hth := ac_th_in q x ((n - r : Nat) : Int) n (by omega)
      rw [show n + 1 - (r + 1) = n - r by omega]
      have ey : ((n - r : Nat) : Int) + 1 = ((n + 1 - r : Nat) : Int) := by omega
      refine ac_iload (q := 17) dX3_solutions_15 rfl rfl ?_
      refine ac_aload_n (q := 18) dX3_solutions_17 rfl rfl ?_
      refine ac_get (q := 21) dX3_solutions_18 fl_X3_21 (by assumption) rfl (ac_rdi rfl r3) ?_
      refine ac_icmp_gt (q := 24) (tgt := 48) dX3_solutions_21 rfl rfl ⟨by omega, by omega⟩ ⟨by omega, by omega⟩ (fun h21 => ?_) (fun h21 => ?_)
      · exfalso; omega
      · refine ac_aload_n (q := 25) dX3_solutions_24 rfl rfl ?_
        refine ac_iload_n (q := 26) dX3_solutions_25 rfl rfl ?_
        refine ac_iload_n (q := 27) dX3_solutions_26 rfl rfl ?_
        refine ac_iload (q := 29) dX3_solutions_27 rfl rfl ?_
        refine ac_aload_n (q := 30) dX3_solutions_29 rfl rfl ?_
        refine ac_get (q := 33) dX3_solutions_30 fl_X3_21 (by assumption) rfl (ac_rdi rfl r3) ?_
        refine ac_cvp (q := 36) (k_X3_third (d := d - 1) (u := (n : Int)) (by omega) hT9 rE ⟨hE1, hE2⟩ hq ⟨by omega, by omega⟩ ⟨by omega, by omega⟩ ⟨by omega, by omega⟩) ml_X3_58 (by assumption) dX3_solutions_33 rfl rfl rfl (by omega) (Nat.le_of_ble_eq_true rfl) (Nat.zero_le _) (Nat.zero_le _) ?_
        refine ac_if_le (q := 39) (tgt := 42) dX3_solutions_36 rfl rfl ⟨by omega, by omega⟩ (fun h36 => ?_) (fun h36 => ?_)
        · rw [show (ac_ry q n x (r + 1)).length = (ac_ry q n x r).length by rw [ac_ry, if_neg (by omega)]; rfl] at hK
          refine ac_iinc (q := 45) dX3_solutions_42 rfl (Nat.le_of_ble_eq_true rfl) rfl rfl rfl rfl ?_
          simp only [List.set_cons_succ, List.set_cons_zero]
          refine ac_goto (q := 15) dX3_solutions_45 rfl ?_
          first
            | exact ac_ls (by rw [ey]) (ih f x (by omega) hx1 hx2 hK)
            | exact ac_ls (by rw [ey]; rfl) (ih (f + 1) x (by omega) hx1 hx2 hK)
        · rw [show (ac_ry q n x (r + 1)).length = (ac_ry q n x r).length + 1 by rw [ac_ry, if_pos (by omega)]; simp [Nat.add_comm], show f + ((ac_ry q n x r).length + 1) = f + 1 + (ac_ry q n x r).length by omega] at hK
          refine ac_iinc (q := 42) dX3_solutions_39 rfl (Nat.le_of_ble_eq_true rfl) rfl rfl rfl rfl ?_
          simp only [List.set_cons_succ, List.set_cons_zero]
          refine ac_iinc (q := 45) dX3_solutions_42 rfl (Nat.le_of_ble_eq_true rfl) rfl rfl rfl rfl ?_
          simp only [List.set_cons_succ, List.set_cons_zero]
          refine ac_goto (q := 15) dX3_solutions_45 rfl ?_
          first
            | exact ac_ls (by rw [ey]) (ih f x (by omega) hx1 hx2 hK)
            | exact ac_ls (by rw [ey]; rfl) (ih (f + 1) x (by omega) hx1 hx2 hK)
  have outer : ∀ (r f : Nat), r ≤ n → f + (ac_rx q n r).length = (ac_sols q n).length → ac_V G (RX3, "solutions") cX3_solutions 5 (some .int) d 0 0 (ac_R Y [(0, ((ac_sols q n).length : Int))] (fun m => m = mm)) 0 0 Y mm 4 [(2, (t : Int)), (0, (e : Int)), (0, (f : Int)), (0, ((n + 1 - r : Nat) : Int)), (3, 0)] [] := by
    intro r
    induction r with
    | zero =>
      intro f hr hf
      refine ac_iload_n (q := 5) dX3_solutions_4 rfl rfl ?_
      refine ac_aload_n (q := 6) dX3_solutions_5 rfl rfl ?_
      refine ac_get (q := 9) dX3_solutions_6 fl_X3_21 (by assumption) rfl (ac_rdi rfl r3) ?_
      refine ac_icmp_gt (q := 12) (tgt := 54) dX3_solutions_9 rfl rfl ⟨by omega, by omega⟩ ⟨by omega, by omega⟩ (fun h9 => ?_) (fun h9 => ?_)
      · refine ac_iload_n (q := 55) dX3_solutions_54 rfl rfl ?_
        refine ac_ireturn dX3_solutions_55 rfl (Nat.zero_le _) (Nat.zero_le _) ?_
        exact ⟨by rw [← hf]; rfl, rfl, rfl⟩
      · exfalso; omega
    | succ r ih =>
      intro f hr hf
      rw [show n + 1 - (r + 1) = n - r by omega]
      have ex : ((n - r : Nat) : Int) + 1 = ((n + 1 - r : Nat) : Int) := by omega
      rw [ac_rx, List.length_append] at hf
      refine ac_iload_n (q := 5) dX3_solutions_4 rfl rfl ?_
      refine ac_aload_n (q := 6) dX3_solutions_5 rfl rfl ?_
      refine ac_get (q := 9) dX3_solutions_6 fl_X3_21 (by assumption) rfl (ac_rdi rfl r3) ?_
      refine ac_icmp_gt (q := 12) (tgt := 54) dX3_solutions_9 rfl rfl ⟨by omega, by omega⟩ ⟨by omega, by omega⟩ (fun h9 => ?_) (fun h9 => ?_)
      · exfalso; omega
      · refine ac_iconst (q := 13) dX3_solutions_12 rfl ?_
        refine ac_istore (q := 15) dX3_solutions_13 rfl (Nat.le_of_ble_eq_true rfl) rfl rfl ?_
        simp only [List.set_cons_succ, List.set_cons_zero]
        refine ac_ls (by rw [show (1 : Int) = ((n + 1 - n : Nat) : Int) by omega]) (inner n f (n - r) (Nat.le_refl _) (by omega) (by omega) ?_)
        refine ac_iinc (q := 51) dX3_solutions_48 rfl (Nat.le_of_ble_eq_true rfl) rfl rfl rfl rfl ?_
        simp only [List.set_cons_succ, List.set_cons_zero]
        refine ac_goto (q := 4) dX3_solutions_51 rfl ?_
        exact ac_ls (by rw [ex]) (ih _ (by omega) (by omega))
  refine ac_iconst (q := 1) dX3_solutions_0 rfl ?_
  refine ac_istore_n (q := 2) (j := 2) rfl dX3_solutions_1 rfl (Nat.le_of_ble_eq_true rfl) rfl rfl ?_
  simp only [List.set_cons_succ, List.set_cons_zero]
  refine ac_iconst (q := 3) dX3_solutions_2 rfl ?_
  refine ac_istore_n (q := 4) (j := 3) rfl dX3_solutions_3 rfl (Nat.le_of_ble_eq_true rfl) rfl rfl ?_
  simp only [List.set_cons_succ, List.set_cons_zero]
  exact ac_ls (by rw [show (1 : Int) = ((n + 1 - n : Nat) : Int) by omega]; rfl) (outer n 0 (Nat.le_refl _) (by unfold ac_sols; omega))

set_option maxHeartbeats 4000000 in
theorem k_X3_solutionAt {G : ac_G} {Y : ac_Y} {mm : ac_M} {d t n k : Nat} {E : List ac_Eq} {pin : Nat → Int} {col : Option (List Nat)} (hd : 2 ≤ d) (hT : ac_isT Y t) (hR : ac_RT mm t n k E pin col) {e : Nat} {q : ac_Eq} {i : Int} (hq : E[e]? = some q) (hi : ac_in i) : ac_C G yX3_solutionAt cX3_solutionAt 7 (some .int) d 0 0 Y mm [(2, (t : Int)), (0, (e : Int)), (0, i)] (ac_R Y [(0, ac_nth (ac_sols q n) i)] (fun m => m = mm)) := by
  have hT9 := hT
  have hR9 := hR
  obtain ⟨hk0, hk1, hk2, hk3, hr0, hr1, hr2⟩ := hT
  obtain ⟨⟨⟨hn1, hn2⟩, ⟨hkk1, hkk2⟩, ⟨hE1, hE2⟩, hp0, hpr, hc0⟩, r3, r4, r5, r6, rE, rp, rcb, rc⟩ := hR
  obtain ⟨hi1, hi2⟩ := hi
  refine ac_met (on := (RX3, "solutionAt")) rfl rfl (Nat.le_of_ble_eq_true rfl) (ls := [(2, (t : Int)), (0, (e : Int)), (0, i), (3, 0), (3, 0), (3, 0), (3, 0)]) rfl ?_
  have inner : ∀ (r f x B : Nat) (rest : List Int), r ≤ n → 1 ≤ x → x ≤ n → (i < 0 ∨ (f : Int) ≤ i) → f + r ≤ B → B ≤ 200 → ac_nth (ac_sols q n) i = ac_nth (ac_ry q n x r ++ rest) (i - f) → (∀ f : Nat, (i < 0 ∨ (f : Int) ≤ i) → f ≤ B → ac_nth (ac_sols q n) i = ac_nth rest (i - f) → ac_V G (RX3, "solutionAt") cX3_solutionAt 7 (some .int) d 0 0 (ac_R Y [(0, ac_nth (ac_sols q n) i)] (fun m => m = mm)) 0 0 Y mm 76 [(2, (t : Int)), (0, (e : Int)), (0, i), (0, (f : Int)), (0, (x : Int)), (3, 0), (3, 0)] []) → ac_V G (RX3, "solutionAt") cX3_solutionAt 7 (some .int) d 0 0 (ac_R Y [(0, ac_nth (ac_sols q n) i)] (fun m => m = mm)) 0 0 Y mm 17 [(2, (t : Int)), (0, (e : Int)), (0, i), (0, (f : Int)), (0, (x : Int)), (0, ((n + 1 - r : Nat) : Int)), (3, 0)] [] := by
    intro r
    induction r with
    | zero =>
      intro f x B rest hr hx1 hx2 hfi hf2 hB hres hK
      refine ac_iload (q := 19) dX3_solutionAt_17 rfl rfl ?_
      refine ac_aload_n (q := 20) dX3_solutionAt_19 rfl rfl ?_
      refine ac_get (q := 23) dX3_solutionAt_20 fl_X3_21 (by assumption) rfl (ac_rdi rfl r3) ?_
      refine ac_icmp_gt (q := 26) (tgt := 76) dX3_solutionAt_23 rfl rfl ⟨by omega, by omega⟩ ⟨by omega, by omega⟩ (fun h23 => ?_) (fun h23 => ?_)
      · refine ac_drop [(2, (t : Int)), (0, (e : Int)), (0, i), (0, (f : Int)), (0, (x : Int)), (3, 0), (3, 0)] (by repeat (first | exact trivial | refine ⟨Or.inl rfl, ?_⟩ | refine ⟨Or.inr rfl, ?_⟩)) ?_
        exact hK f hfi (by omega) hres
      · exfalso; omega
    | succ r ih =>
      intro f x B rest hr hx1 hx2 hfi hf2 hB hres hK
      have hth := ac_th_in q x ((n - r : Nat) : Int) n (by omega)
      rw [show n + 1 - (r + 1) = n - r by omega]
      have ey : ((n - r : Nat) : Int) + 1 = ((n + 1 - r : Nat) : Int) := by omega
      rw [ac_ry] at hres
      refine ac_iload (q := 19) dX3_solutionAt_17 rfl rfl ?_
      refine ac_aload_n (q := 20) dX3_solutionAt_19 rfl rfl ?_
      refine ac_get (q := 23) dX3_solutionAt_20 fl_X3_21 (by assumption) rfl (ac_rdi rfl r3) ?_
      refine ac_icmp_gt (q := 26) (tgt := 76) dX3_solutionAt_23 rfl rfl ⟨by omega, by omega⟩ ⟨by omega, by omega⟩ (fun h23 => ?_) (fun h23 => ?_)
      · exfalso; omega
      · refine ac_aload_n (q := 27) dX3_solutionAt_26 rfl rfl ?_
        refine ac_iload_n (q := 28) dX3_solutionAt_27 rfl rfl ?_
        refine ac_iload (q := 30) dX3_solutionAt_28 rfl rfl ?_
        refine ac_iload (q := 32) dX3_solutionAt_30 rfl rfl ?_
        refine ac_aload_n (q := 33) dX3_solutionAt_32 rfl rfl ?_
        refine ac_get (q := 36) dX3_solutionAt_33 fl_X3_21 (by assumption) rfl (ac_rdi rfl r3) ?_
        refine ac_cvp (q := 39) (k_X3_third (d := d - 1) (u := (n : Int)) (by omega) hT9 rE ⟨hE1, hE2⟩ hq ⟨by omega, by omega⟩ ⟨by omega, by omega⟩ ⟨by omega, by omega⟩) ml_X3_58 (by assumption) dX3_solutionAt_36 rfl rfl rfl (by omega) (Nat.le_of_ble_eq_true rfl) (Nat.zero_le _) (Nat.zero_le _) ?_
        refine ac_istore (q := 41) dX3_solutionAt_39 rfl (Nat.le_of_ble_eq_true rfl) rfl rfl ?_
        simp only [List.set_cons_succ, List.set_cons_zero]
        refine ac_iload (q := 43) dX3_solutionAt_41 rfl rfl ?_
        refine ac_if_le (q := 46) (tgt := 70) dX3_solutionAt_43 rfl rfl ⟨by omega, by omega⟩ (fun h43 => ?_) (fun h43 => ?_)
        · rw [if_neg (by omega), List.nil_append] at hres
          refine ac_iinc (q := 73) dX3_solutionAt_70 rfl (Nat.le_of_ble_eq_true rfl) rfl rfl rfl rfl ?_
          simp only [List.set_cons_succ, List.set_cons_zero]
          refine ac_goto (q := 17) dX3_solutionAt_73 rfl ?_
          refine ac_drop [(2, (t : Int)), (0, (e : Int)), (0, i), (0, _), (0, _), (0, ((n - r : Nat) : Int) + 1), (3, 0)] (by repeat (first | exact trivial | refine ⟨Or.inl rfl, ?_⟩ | refine ⟨Or.inr rfl, ?_⟩)) ?_
          first
            | exact ac_ls (by rw [ey]) (ih f x B rest (by omega) hx1 hx2 hfi (by omega) hB hres hK)
            | exact ac_ls (by rw [ey]; rfl) (ih (f + 1) x B rest (by omega) hx1 hx2 (by omega) (by omega) hB (by rw [hres, ac_nth_s (by omega), show i - (f : Int) - 1 = i - ((f + 1 : Nat) : Int) by omega]) hK)
        · rw [if_pos (by omega), List.append_assoc, List.singleton_append] at hres
          refine ac_iload_n (q := 47) dX3_solutionAt_46 rfl rfl ?_
          refine ac_iload_n (q := 48) dX3_solutionAt_47 rfl rfl ?_
          refine ac_icmp_ne (q := 51) (tgt := 67) dX3_solutionAt_48 rfl rfl ⟨by omega, by omega⟩ ⟨by omega, by omega⟩ (fun h48 => ?_) (fun h48 => ?_)
          · refine ac_iinc (q := 70) dX3_solutionAt_67 rfl (Nat.le_of_ble_eq_true rfl) rfl rfl rfl rfl ?_
            simp only [List.set_cons_succ, List.set_cons_zero]
            refine ac_iinc (q := 73) dX3_solutionAt_70 rfl (Nat.le_of_ble_eq_true rfl) rfl rfl rfl rfl ?_
            simp only [List.set_cons_succ, List.set_cons_zero]
            refine ac_goto (q := 17) dX3_solutionAt_73 rfl ?_
            refine ac_drop [(2, (t : Int)), (0, (e : Int)), (0, i), (0, _), (0, _), (0, ((n - r : Nat) : Int) + 1), (3, 0)] (by repeat (first | exact trivial | refine ⟨Or.inl rfl, ?_⟩ | refine ⟨Or.inr rfl, ?_⟩)) ?_
            first
              | exact ac_ls (by rw [ey]) (ih f x B rest (by omega) hx1 hx2 hfi (by omega) hB hres hK)
              | exact ac_ls (by rw [ey]; rfl) (ih (f + 1) x B rest (by omega) hx1 hx2 (by omega) (by omega) hB (by rw [hres, ac_nth_s (by omega), show i - (f : Int) - 1 = i - ((f + 1 : Nat) : Int) by omega]) hK)
          · refine ac_sipush (q := 54) dX3_solutionAt_51 rfl (by decide) ?_
            refine ac_iload (q := 56) dX3_solutionAt_54 rfl rfl ?_
            refine ac_imul (q := 57) dX3_solutionAt_56 rfl ?_
            refine ac_bipush (q := 59) dX3_solutionAt_57 rfl (by decide) ?_
            refine ac_iload (q := 61) dX3_solutionAt_59 rfl rfl ?_
            refine ac_imul (q := 62) dX3_solutionAt_61 rfl ?_
            refine ac_iadd (q := 63) dX3_solutionAt_62 rfl ?_
            refine ac_iload (q := 65) dX3_solutionAt_63 rfl rfl ?_
            refine ac_iadd (q := 66) dX3_solutionAt_65 rfl ?_
            refine ac_ireturn dX3_solutionAt_66 rfl (Nat.zero_le _) (Nat.zero_le _) ?_
            refine ⟨?_, rfl, rfl⟩
            rw [hres, show i - (f : Int) = 0 by omega]
            show _ = [((0 : Nat), 10000 * (x : Int) + 100 * ((n - r : Nat) : Int) + ac_th q x ((n - r : Nat) : Int) n)]
            rfl
  have outer : ∀ (r f : Nat), r ≤ n → (i < 0 ∨ (f : Int) ≤ i) → f + 10 * r ≤ 100 → ac_nth (ac_sols q n) i = ac_nth (ac_rx q n r) (i - f) → ac_V G (RX3, "solutionAt") cX3_solutionAt 7 (some .int) d 0 0 (ac_R Y [(0, ac_nth (ac_sols q n) i)] (fun m => m = mm)) 0 0 Y mm 5 [(2, (t : Int)), (0, (e : Int)), (0, i), (0, (f : Int)), (0, ((n + 1 - r : Nat) : Int)), (3, 0), (3, 0)] [] := by
    intro r
    induction r with
    | zero =>
      intro f hr hfi hf2 hres
      refine ac_iload (q := 7) dX3_solutionAt_5 rfl rfl ?_
      refine ac_aload_n (q := 8) dX3_solutionAt_7 rfl rfl ?_
      refine ac_get (q := 11) dX3_solutionAt_8 fl_X3_21 (by assumption) rfl (ac_rdi rfl r3) ?_
      refine ac_icmp_gt (q := 14) (tgt := 82) dX3_solutionAt_11 rfl rfl ⟨by omega, by omega⟩ ⟨by omega, by omega⟩ (fun h11 => ?_) (fun h11 => ?_)
      · refine ac_bipush (q := 84) dX3_solutionAt_82 rfl (by decide) ?_
        refine ac_ireturn dX3_solutionAt_84 rfl (Nat.zero_le _) (Nat.zero_le _) ?_
        exact ⟨by rw [hres, ac_rx, ac_nth_nil], rfl, rfl⟩
      · exfalso; omega
    | succ r ih =>
      intro f hr hfi hf2 hres
      rw [show n + 1 - (r + 1) = n - r by omega]
      have ex : ((n - r : Nat) : Int) + 1 = ((n + 1 - r : Nat) : Int) := by omega
      rw [ac_rx] at hres
      refine ac_iload (q := 7) dX3_solutionAt_5 rfl rfl ?_
      refine ac_aload_n (q := 8) dX3_solutionAt_7 rfl rfl ?_
      refine ac_get (q := 11) dX3_solutionAt_8 fl_X3_21 (by assumption) rfl (ac_rdi rfl r3) ?_
      refine ac_icmp_gt (q := 14) (tgt := 82) dX3_solutionAt_11 rfl rfl ⟨by omega, by omega⟩ ⟨by omega, by omega⟩ (fun h11 => ?_) (fun h11 => ?_)
      · exfalso; omega
      · refine ac_iconst (q := 15) dX3_solutionAt_14 rfl ?_
        refine ac_istore (q := 17) dX3_solutionAt_15 rfl (Nat.le_of_ble_eq_true rfl) rfl rfl ?_
        simp only [List.set_cons_succ, List.set_cons_zero]
        refine ac_ls (by rw [show (1 : Int) = ((n + 1 - n : Nat) : Int) by omega]) (inner n f (n - r) (f + n) (ac_rx q n r) (Nat.le_refl _) (by omega) (by omega) hfi (by omega) (by omega) hres (fun f hfi hf2 hres => ?_))
        refine ac_iinc (q := 79) dX3_solutionAt_76 rfl (Nat.le_of_ble_eq_true rfl) rfl rfl rfl rfl ?_
        simp only [List.set_cons_succ, List.set_cons_zero]
        refine ac_goto (q := 5) dX3_solutionAt_79 rfl ?_
        exact ac_ls (by rw [ex]) (ih f (by omega) hfi (by omega) hres)
  refine ac_iconst (q := 1) dX3_solutionAt_0 rfl ?_
  refine ac_istore_n (q := 2) (j := 3) rfl dX3_solutionAt_1 rfl (Nat.le_of_ble_eq_true rfl) rfl rfl ?_
  simp only [List.set_cons_succ, List.set_cons_zero]
  refine ac_iconst (q := 3) dX3_solutionAt_2 rfl ?_
  refine ac_istore (q := 5) dX3_solutionAt_3 rfl (Nat.le_of_ble_eq_true rfl) rfl rfl ?_
  simp only [List.set_cons_succ, List.set_cons_zero]
  exact ac_ls (by rw [show (1 : Int) = ((n + 1 - n : Nat) : Int) by omega]; rfl) (outer n 0 (Nat.le_refl _) (by omega) (by omega) (by unfold ac_sols; simp))

set_option maxHeartbeats 4000000 in
theorem k_X3_pinOf {G : ac_G} {Y : ac_Y} {mm : ac_M} {d t n k : Nat} {E : List ac_Eq} {pin : Nat → Int} {col : Option (List Nat)} (hd : 1 ≤ d) (hT : ac_isT Y t) (hR : ac_RT mm t n k E pin col) {x : Int} (hx : ac_in x) : ac_C G yX3_pinOf cX3_pinOf 2 (some .int) d 0 0 Y mm [(2, (t : Int)), (0, x)] (ac_R Y [(0, pin x.toNat)] (fun m => m = mm)) := by
  have hT9 := hT
  have hR9 := hR
  obtain ⟨hk0, hk1, hk2, hk3, hr0, hr1, hr2⟩ := hT
  obtain ⟨⟨⟨hn1, hn2⟩, ⟨hkk1, hkk2⟩, ⟨hE1, hE2⟩, hp0, hpr, hc0⟩, r3, r4, r5, r6, rE, rp, rcb, rc⟩ := hR
  obtain ⟨hx1, hx2⟩ := hx
  refine ac_met (on := (RX3, "pinOf")) rfl rfl (Nat.le_of_ble_eq_true rfl) (ls := [(2, (t : Int)), (0, x)]) rfl ?_
  refine ac_iload_n (q := 1) dX3_pinOf_0 rfl rfl ?_
  refine ac_iconst (q := 2) dX3_pinOf_1 rfl ?_
  refine ac_icmp_lt (q := 5) (tgt := 28) dX3_pinOf_2 rfl rfl ⟨by omega, by omega⟩ ⟨by omega, by omega⟩ (fun h2 => ?_) (fun h2 => ?_)
  · refine ac_iconst (q := 29) dX3_pinOf_28 rfl ?_
    refine ac_ireturn dX3_pinOf_29 rfl (Nat.zero_le _) (Nat.zero_le _) ?_
    first
      | exact ⟨rfl, rfl, rfl⟩
      | exact ⟨by rw [hp0 x.toNat (by omega)], rfl, rfl⟩
  · refine ac_iload_n (q := 6) dX3_pinOf_5 rfl rfl ?_
    refine ac_aload_n (q := 7) dX3_pinOf_6 rfl rfl ?_
    refine ac_get (q := 10) dX3_pinOf_7 fl_X3_21 (by assumption) rfl rfl ?_
    refine ac_icmp_gt (q := 13) (tgt := 28) dX3_pinOf_10 rfl rfl ⟨by omega, by omega⟩ ⟨by omega, by omega⟩ (fun h10 => ?_) (fun h10 => ?_)
    · refine ac_iconst (q := 29) dX3_pinOf_28 rfl ?_
      refine ac_ireturn dX3_pinOf_29 rfl (Nat.zero_le _) (Nat.zero_le _) ?_
      first
        | exact ⟨rfl, rfl, rfl⟩
        | exact ⟨by rw [hp0 x.toNat (by omega)], rfl, rfl⟩
    · refine ac_iload_n (q := 14) dX3_pinOf_13 rfl rfl ?_
      refine ac_bipush (q := 16) dX3_pinOf_14 rfl (by decide) ?_
      refine ac_icmp_gt (q := 19) (tgt := 28) dX3_pinOf_16 rfl rfl ⟨by omega, by omega⟩ ⟨by omega, by omega⟩ (fun h16 => ?_) (fun h16 => ?_)
      · refine ac_iconst (q := 29) dX3_pinOf_28 rfl ?_
        refine ac_ireturn dX3_pinOf_29 rfl (Nat.zero_le _) (Nat.zero_le _) ?_
        first
          | exact ⟨rfl, rfl, rfl⟩
          | exact ⟨by rw [hp0 x.toNat (by omega)], rfl, rfl⟩
      · refine ac_aload_n (q := 20) dX3_pinOf_19 rfl rfl ?_
        refine ac_get (q := 23) dX3_pinOf_20 fl_X3_15 (by assumption) rfl (ac_rdr rfl (by assumption)) ?_
        refine ac_iload_n (q := 24) dX3_pinOf_23 rfl rfl ?_
        refine ac_iaload (q := 25) (v := pin x.toNat) dX3_pinOf_24 (by assumption) (by decide) ⟨by omega, by omega⟩ rfl (rp _ (by omega) (by omega)) ?_
        refine ac_goto (q := 29) dX3_pinOf_25 rfl ?_
        refine ac_ireturn dX3_pinOf_29 rfl (Nat.zero_le _) (Nat.zero_le _) ?_
        first
          | exact ⟨rfl, rfl, rfl⟩
          | exact ⟨by rw [hp0 x.toNat (by omega)], rfl, rfl⟩

set_option maxHeartbeats 4000000 in
theorem k_X3_free {G : ac_G} {Y : ac_Y} {mm : ac_M} {d t n k : Nat} {E : List ac_Eq} {pin : Nat → Int} {col : Option (List Nat)} (hd : 1 ≤ d) (hT : ac_isT Y t) (hR : ac_RT mm t n k E pin col) {x : Int} (hx : ac_in x) : ac_C G yX3_free cX3_free 2 (some .boolean) d 0 0 Y mm [(2, (t : Int)), (0, x)] (ac_R Y [(0, ac_b ((1 ≤ x ∧ x ≤ (n : Int)) ∧ pin x.toNat = -1))] (fun m => m = mm)) := by
  have hT9 := hT
  have hR9 := hR
  obtain ⟨hk0, hk1, hk2, hk3, hr0, hr1, hr2⟩ := hT
  obtain ⟨⟨⟨hn1, hn2⟩, ⟨hkk1, hkk2⟩, ⟨hE1, hE2⟩, hp0, hpr, hc0⟩, r3, r4, r5, r6, rE, rp, rcb, rc⟩ := hR
  obtain ⟨hx1, hx2⟩ := hx
  have hpx := hpr x.toNat
  refine ac_met (on := (RX3, "free")) rfl rfl (Nat.le_of_ble_eq_true rfl) (ls := [(2, (t : Int)), (0, x)]) rfl ?_
  refine ac_iload_n (q := 1) dX3_free_0 rfl rfl ?_
  refine ac_iconst (q := 2) dX3_free_1 rfl ?_
  refine ac_icmp_lt (q := 5) (tgt := 33) dX3_free_2 rfl rfl ⟨by omega, by omega⟩ ⟨by omega, by omega⟩ (fun h2 => ?_) (fun h2 => ?_)
  · refine ac_iconst (q := 34) dX3_free_33 rfl ?_
    refine ac_zreturn dX3_free_34 rfl (by first | exact ac_b01 | omega) (Nat.zero_le _) (Nat.zero_le _) ?_
    first | exact ⟨ac_l1 (by omega), rfl, rfl⟩ | exact ⟨ac_l0 (by omega), rfl, rfl⟩
  · refine ac_iload_n (q := 6) dX3_free_5 rfl rfl ?_
    refine ac_aload_n (q := 7) dX3_free_6 rfl rfl ?_
    refine ac_get (q := 10) dX3_free_7 fl_X3_21 (by assumption) rfl rfl ?_
    refine ac_icmp_gt (q := 13) (tgt := 33) dX3_free_10 rfl rfl ⟨by omega, by omega⟩ ⟨by omega, by omega⟩ (fun h10 => ?_) (fun h10 => ?_)
    · refine ac_iconst (q := 34) dX3_free_33 rfl ?_
      refine ac_zreturn dX3_free_34 rfl (by first | exact ac_b01 | omega) (Nat.zero_le _) (Nat.zero_le _) ?_
      first | exact ⟨ac_l1 (by omega), rfl, rfl⟩ | exact ⟨ac_l0 (by omega), rfl, rfl⟩
    · refine ac_iload_n (q := 14) dX3_free_13 rfl rfl ?_
      refine ac_bipush (q := 16) dX3_free_14 rfl (by decide) ?_
      refine ac_icmp_gt (q := 19) (tgt := 33) dX3_free_16 rfl rfl ⟨by omega, by omega⟩ ⟨by omega, by omega⟩ (fun h16 => ?_) (fun h16 => ?_)
      · refine ac_iconst (q := 34) dX3_free_33 rfl ?_
        refine ac_zreturn dX3_free_34 rfl (by first | exact ac_b01 | omega) (Nat.zero_le _) (Nat.zero_le _) ?_
        first | exact ⟨ac_l1 (by omega), rfl, rfl⟩ | exact ⟨ac_l0 (by omega), rfl, rfl⟩
      · refine ac_aload_n (q := 20) dX3_free_19 rfl rfl ?_
        refine ac_get (q := 23) dX3_free_20 fl_X3_15 (by assumption) rfl (ac_rdr rfl (by assumption)) ?_
        refine ac_iload_n (q := 24) dX3_free_23 rfl rfl ?_
        refine ac_iaload (q := 25) (v := pin x.toNat) dX3_free_24 (by assumption) (by decide) ⟨by omega, by omega⟩ rfl (rp _ (by omega) (by omega)) ?_
        refine ac_iconst (q := 26) dX3_free_25 rfl ?_
        refine ac_icmp_ne (q := 29) (tgt := 33) dX3_free_26 rfl rfl ⟨by omega, by omega⟩ ⟨by omega, by omega⟩ (fun h26 => ?_) (fun h26 => ?_)
        · refine ac_iconst (q := 34) dX3_free_33 rfl ?_
          refine ac_zreturn dX3_free_34 rfl (by first | exact ac_b01 | omega) (Nat.zero_le _) (Nat.zero_le _) ?_
          first | exact ⟨ac_l1 (by omega), rfl, rfl⟩ | exact ⟨ac_l0 (by omega), rfl, rfl⟩
        · refine ac_iconst (q := 30) dX3_free_29 rfl ?_
          refine ac_goto (q := 34) dX3_free_30 rfl ?_
          refine ac_zreturn dX3_free_34 rfl (by first | exact ac_b01 | omega) (Nat.zero_le _) (Nat.zero_le _) ?_
          first | exact ⟨ac_l1 (by omega), rfl, rfl⟩ | exact ⟨ac_l0 (by omega), rfl, rfl⟩

set_option maxHeartbeats 4000000 in
theorem k_X3_allows {G : ac_G} {Y : ac_Y} {mm : ac_M} {d t n k : Nat} {E : List ac_Eq} {pin : Nat → Int} {col : Option (List Nat)} (hd : 1 ≤ d) (hT : ac_isT Y t) (hR : ac_RT mm t n k E pin col) {x c : Int} (hx : ac_in x) (hc : ac_in c) : ac_C G yX3_allows cX3_allows 4 (some .boolean) d 0 0 Y mm [(2, (t : Int)), (0, x), (0, c)] (ac_R Y [(0, ac_b ((1 ≤ x ∧ x ≤ (n : Int)) ∧ (0 ≤ c ∧ c < (k : Int)) ∧ (pin x.toNat = -1 ∨ pin x.toNat = c)))] (fun m => m = mm)) := by
  have hT9 := hT
  have hR9 := hR
  obtain ⟨hk0, hk1, hk2, hk3, hr0, hr1, hr2⟩ := hT
  obtain ⟨⟨⟨hn1, hn2⟩, ⟨hkk1, hkk2⟩, ⟨hE1, hE2⟩, hp0, hpr, hc0⟩, r3, r4, r5, r6, rE, rp, rcb, rc⟩ := hR
  obtain ⟨hx1, hx2⟩ := hx
  obtain ⟨hcc1, hcc2⟩ := hc
  have hpx := hpr x.toNat
  refine ac_met (on := (RX3, "allows")) rfl rfl (Nat.le_of_ble_eq_true rfl) (ls := [(2, (t : Int)), (0, x), (0, c), (3, 0)]) rfl ?_
  refine ac_iload_n (q := 1) dX3_allows_0 rfl rfl ?_
  refine ac_iconst (q := 2) dX3_allows_1 rfl ?_
  refine ac_icmp_lt (q := 5) (tgt := 35) dX3_allows_2 rfl rfl ⟨by omega, by omega⟩ ⟨by omega, by omega⟩ (fun h2 => ?_) (fun h2 => ?_)
  · refine ac_iconst (q := 36) dX3_allows_35 rfl ?_
    refine ac_istore_n (q := 37) (j := 3) rfl dX3_allows_36 rfl (Nat.le_of_ble_eq_true rfl) rfl rfl ?_
    simp only [List.set_cons_succ, List.set_cons_zero]
    refine ac_iload_n (q := 38) dX3_allows_37 rfl rfl ?_
    refine ac_if_eq (q := 41) (tgt := 65) dX3_allows_38 rfl rfl ⟨by omega, by omega⟩ (fun h38 => ?_) (fun h38 => ?_)
    · refine ac_iconst (q := 66) dX3_allows_65 rfl ?_
      refine ac_zreturn dX3_allows_66 rfl (by first | exact ac_b01 | omega) (Nat.zero_le _) (Nat.zero_le _) ?_
      first | exact ⟨ac_l1 (by omega), rfl, rfl⟩ | exact ⟨ac_l0 (by omega), rfl, rfl⟩
    · exact absurd h38 (by decide)
  · refine ac_iload_n (q := 6) dX3_allows_5 rfl rfl ?_
    refine ac_aload_n (q := 7) dX3_allows_6 rfl rfl ?_
    refine ac_get (q := 10) dX3_allows_7 fl_X3_21 (by assumption) rfl rfl ?_
    refine ac_icmp_gt (q := 13) (tgt := 35) dX3_allows_10 rfl rfl ⟨by omega, by omega⟩ ⟨by omega, by omega⟩ (fun h10 => ?_) (fun h10 => ?_)
    · refine ac_iconst (q := 36) dX3_allows_35 rfl ?_
      refine ac_istore_n (q := 37) (j := 3) rfl dX3_allows_36 rfl (Nat.le_of_ble_eq_true rfl) rfl rfl ?_
      simp only [List.set_cons_succ, List.set_cons_zero]
      refine ac_iload_n (q := 38) dX3_allows_37 rfl rfl ?_
      refine ac_if_eq (q := 41) (tgt := 65) dX3_allows_38 rfl rfl ⟨by omega, by omega⟩ (fun h38 => ?_) (fun h38 => ?_)
      · refine ac_iconst (q := 66) dX3_allows_65 rfl ?_
        refine ac_zreturn dX3_allows_66 rfl (by first | exact ac_b01 | omega) (Nat.zero_le _) (Nat.zero_le _) ?_
        first | exact ⟨ac_l1 (by omega), rfl, rfl⟩ | exact ⟨ac_l0 (by omega), rfl, rfl⟩
      · exact absurd h38 (by decide)
    · refine ac_iload_n (q := 14) dX3_allows_13 rfl rfl ?_
      refine ac_bipush (q := 16) dX3_allows_14 rfl (by decide) ?_
      refine ac_icmp_gt (q := 19) (tgt := 35) dX3_allows_16 rfl rfl ⟨by omega, by omega⟩ ⟨by omega, by omega⟩ (fun h16 => ?_) (fun h16 => ?_)
      · refine ac_iconst (q := 36) dX3_allows_35 rfl ?_
        refine ac_istore_n (q := 37) (j := 3) rfl dX3_allows_36 rfl (Nat.le_of_ble_eq_true rfl) rfl rfl ?_
        simp only [List.set_cons_succ, List.set_cons_zero]
        refine ac_iload_n (q := 38) dX3_allows_37 rfl rfl ?_
        refine ac_if_eq (q := 41) (tgt := 65) dX3_allows_38 rfl rfl ⟨by omega, by omega⟩ (fun h38 => ?_) (fun h38 => ?_)
        · refine ac_iconst (q := 66) dX3_allows_65 rfl ?_
          refine ac_zreturn dX3_allows_66 rfl (by first | exact ac_b01 | omega) (Nat.zero_le _) (Nat.zero_le _) ?_
          first | exact ⟨ac_l1 (by omega), rfl, rfl⟩ | exact ⟨ac_l0 (by omega), rfl, rfl⟩
        · exact absurd h38 (by decide)
      · refine ac_iload_n (q := 20) dX3_allows_19 rfl rfl ?_
        refine ac_if_lt (q := 23) (tgt := 35) dX3_allows_20 rfl rfl ⟨by omega, by omega⟩ (fun h20 => ?_) (fun h20 => ?_)
        · refine ac_iconst (q := 36) dX3_allows_35 rfl ?_
          refine ac_istore_n (q := 37) (j := 3) rfl dX3_allows_36 rfl (Nat.le_of_ble_eq_true rfl) rfl rfl ?_
          simp only [List.set_cons_succ, List.set_cons_zero]
          refine ac_iload_n (q := 38) dX3_allows_37 rfl rfl ?_
          refine ac_if_eq (q := 41) (tgt := 65) dX3_allows_38 rfl rfl ⟨by omega, by omega⟩ (fun h38 => ?_) (fun h38 => ?_)
          · refine ac_iconst (q := 66) dX3_allows_65 rfl ?_
            refine ac_zreturn dX3_allows_66 rfl (by first | exact ac_b01 | omega) (Nat.zero_le _) (Nat.zero_le _) ?_
            first | exact ⟨ac_l1 (by omega), rfl, rfl⟩ | exact ⟨ac_l0 (by omega), rfl, rfl⟩
          · exact absurd h38 (by decide)
        · refine ac_iload_n (q := 24) dX3_allows_23 rfl rfl ?_
          refine ac_aload_n (q := 25) dX3_allows_24 rfl rfl ?_
          refine ac_get (q := 28) dX3_allows_25 fl_X3_25 (by assumption) rfl rfl ?_
          refine ac_icmp_ge (q := 31) (tgt := 35) dX3_allows_28 rfl rfl ⟨by omega, by omega⟩ ⟨by omega, by omega⟩ (fun h28 => ?_) (fun h28 => ?_)
          · refine ac_iconst (q := 36) dX3_allows_35 rfl ?_
            refine ac_istore_n (q := 37) (j := 3) rfl dX3_allows_36 rfl (Nat.le_of_ble_eq_true rfl) rfl rfl ?_
            simp only [List.set_cons_succ, List.set_cons_zero]
            refine ac_iload_n (q := 38) dX3_allows_37 rfl rfl ?_
            refine ac_if_eq (q := 41) (tgt := 65) dX3_allows_38 rfl rfl ⟨by omega, by omega⟩ (fun h38 => ?_) (fun h38 => ?_)
            · refine ac_iconst (q := 66) dX3_allows_65 rfl ?_
              refine ac_zreturn dX3_allows_66 rfl (by first | exact ac_b01 | omega) (Nat.zero_le _) (Nat.zero_le _) ?_
              first | exact ⟨ac_l1 (by omega), rfl, rfl⟩ | exact ⟨ac_l0 (by omega), rfl, rfl⟩
            · exact absurd h38 (by decide)
          · refine ac_iconst (q := 32) dX3_allows_31 rfl ?_
            refine ac_goto (q := 36) dX3_allows_32 rfl ?_
            refine ac_istore_n (q := 37) (j := 3) rfl dX3_allows_36 rfl (Nat.le_of_ble_eq_true rfl) rfl rfl ?_
            simp only [List.set_cons_succ, List.set_cons_zero]
            refine ac_iload_n (q := 38) dX3_allows_37 rfl rfl ?_
            refine ac_if_eq (q := 41) (tgt := 65) dX3_allows_38 rfl rfl ⟨by omega, by omega⟩ (fun h38 => ?_) (fun h38 => ?_)
            · exact absurd h38 (by decide)
            · refine ac_aload_n (q := 42) dX3_allows_41 rfl rfl ?_
              refine ac_get (q := 45) dX3_allows_42 fl_X3_15 (by assumption) rfl (ac_rdr rfl (by assumption)) ?_
              refine ac_iload_n (q := 46) dX3_allows_45 rfl rfl ?_
              refine ac_iaload (q := 47) (v := pin x.toNat) dX3_allows_46 (by assumption) (by decide) ⟨by omega, by omega⟩ rfl (rp _ (by omega) (by omega)) ?_
              refine ac_iconst (q := 48) dX3_allows_47 rfl ?_
              refine ac_icmp_eq (q := 51) (tgt := 61) dX3_allows_48 rfl rfl ⟨by omega, by omega⟩ ⟨by omega, by omega⟩ (fun h48 => ?_) (fun h48 => ?_)
              · refine ac_iconst (q := 62) dX3_allows_61 rfl ?_
                refine ac_goto (q := 66) dX3_allows_62 rfl ?_
                refine ac_zreturn dX3_allows_66 rfl (by first | exact ac_b01 | omega) (Nat.zero_le _) (Nat.zero_le _) ?_
                first | exact ⟨ac_l1 (by omega), rfl, rfl⟩ | exact ⟨ac_l0 (by omega), rfl, rfl⟩
              · refine ac_aload_n (q := 52) dX3_allows_51 rfl rfl ?_
                refine ac_get (q := 55) dX3_allows_52 fl_X3_15 (by assumption) rfl (ac_rdr rfl (by assumption)) ?_
                refine ac_iload_n (q := 56) dX3_allows_55 rfl rfl ?_
                refine ac_iaload (q := 57) (v := pin x.toNat) dX3_allows_56 (by assumption) (by decide) ⟨by omega, by omega⟩ rfl (rp _ (by omega) (by omega)) ?_
                refine ac_iload_n (q := 58) dX3_allows_57 rfl rfl ?_
                refine ac_icmp_ne (q := 61) (tgt := 65) dX3_allows_58 rfl rfl ⟨by omega, by omega⟩ ⟨by omega, by omega⟩ (fun h58 => ?_) (fun h58 => ?_)
                · refine ac_iconst (q := 66) dX3_allows_65 rfl ?_
                  refine ac_zreturn dX3_allows_66 rfl (by first | exact ac_b01 | omega) (Nat.zero_le _) (Nat.zero_le _) ?_
                  first | exact ⟨ac_l1 (by omega), rfl, rfl⟩ | exact ⟨ac_l0 (by omega), rfl, rfl⟩
                · refine ac_iconst (q := 62) dX3_allows_61 rfl ?_
                  refine ac_goto (q := 66) dX3_allows_62 rfl ?_
                  refine ac_zreturn dX3_allows_66 rfl (by first | exact ac_b01 | omega) (Nat.zero_le _) (Nat.zero_le _) ?_
                  first | exact ⟨ac_l1 (by omega), rfl, rfl⟩ | exact ⟨ac_l0 (by omega), rfl, rfl⟩

set_option maxHeartbeats 4000000 in
theorem k_X3_setPin {G : ac_G} {Y : ac_Y} {mm : ac_M} {d t n k : Nat} {E : List ac_Eq} {pin : Nat → Int} {col : Option (List Nat)} (hd : 2 ≤ d) (hT : ac_isT Y t) (hR : ac_RT mm t n k E pin col) {x : Nat} {c : Int} (hx : 1 ≤ x ∧ x ≤ n) (hc : ac_in c) : ac_C G yX3_setPin cX3_setPin 3 none d 0 0 Y mm [(2, (t : Int)), (0, (x : Int)), (0, c)] (ac_R Y [] (fun m => ac_RT m t n k E (ac_sp pin x (if 0 ≤ c ∧ c < (k : Int) then c else -1)) col ∧ ac_fr mm m t)) := by
  have hT9 := hT
  have hR9 := hR
  obtain ⟨hk0, hk1, hk2, hk3, hr0, hr1, hr2⟩ := hT
  obtain ⟨⟨⟨hn1, hn2⟩, ⟨hkk1, hkk2⟩, ⟨hE1, hE2⟩, hp0, hpr, hc0⟩, r3, r4, r5, r6, rE, rp, rcb, rc⟩ := hR
  obtain ⟨hx1, hx2⟩ := hx
  obtain ⟨hcc1, hcc2⟩ := hc
  refine ac_met (on := (RX3, "setPin")) rfl rfl (Nat.le_of_ble_eq_true rfl) (ls := [(2, (t : Int)), (0, (x : Int)), (0, c)]) rfl ?_
  refine ac_aload_n (q := 1) dX3_setPin_0 rfl rfl ?_
  refine ac_iload_n (q := 2) dX3_setPin_1 rfl rfl ?_
  refine ac_cvp (q := 5) (k_X3_has (d := d - 1) (by omega) hT9 hR9 ⟨by omega, by omega⟩) ml_X3_62 (by assumption) dX3_setPin_2 rfl rfl rfl (by omega) (Nat.le_of_ble_eq_true rfl) (Nat.zero_le _) (Nat.zero_le _) ?_
  refine ac_bif_eq (q := 8) (tgt := 27) dX3_setPin_5 rfl rfl (fun h5 => ?_) (fun h5 => ?_)
  · exfalso; omega
  · refine ac_aload_n (q := 9) dX3_setPin_8 rfl rfl ?_
    refine ac_get (q := 12) dX3_setPin_9 fl_X3_15 (by assumption) rfl (ac_rdr rfl (by assumption)) ?_
    refine ac_iload_n (q := 13) dX3_setPin_12 rfl rfl ?_
    refine ac_aload_n (q := 14) dX3_setPin_13 rfl rfl ?_
    refine ac_iload_n (q := 15) dX3_setPin_14 rfl rfl ?_
    refine ac_cvp (q := 18) (k_X3_hasColour (d := d - 1) (by omega) hT9 hR9 ⟨by omega, by omega⟩) ml_X3_65 (by assumption) dX3_setPin_15 rfl rfl rfl (by omega) (Nat.le_of_ble_eq_true rfl) (Nat.zero_le _) (Nat.zero_le _) ?_
    refine ac_bif_eq (q := 21) (tgt := 25) dX3_setPin_18 rfl rfl (fun h18 => ?_) (fun h18 => ?_)
    · refine ac_iconst (q := 26) dX3_setPin_25 rfl ?_
      refine ac_iastore (q := 27) dX3_setPin_26 (by assumption) (by decide) ⟨by omega, by omega⟩ rfl ?_
      refine ac_return dX3_setPin_27 rfl (Nat.zero_le _) (Nat.zero_le _) ?_
      first
        | rw [if_pos (by assumption)]
        | rw [if_neg (by assumption)]
      rw [show (x : Int).toNat = x from rfl]
      refine ⟨rfl, rfl, ac_RT_setPin hR9 ⟨hx1, hx2⟩ (by omega) (by funext j; simp [ac_up]) (by funext j; simp [ac_up]) (by intro j; simp [ac_up]) (by funext j; simp [ac_up]), ?_⟩
      intro k' hk'; funext j; simp only [ac_up]; repeat rw [if_neg (by omega)]
    · refine ac_iload_n (q := 22) dX3_setPin_21 rfl rfl ?_
      refine ac_goto (q := 26) dX3_setPin_22 rfl ?_
      refine ac_iastore (q := 27) dX3_setPin_26 (by assumption) (by decide) ⟨by omega, by omega⟩ rfl ?_
      refine ac_return dX3_setPin_27 rfl (Nat.zero_le _) (Nat.zero_le _) ?_
      first
        | rw [if_pos (by assumption)]
        | rw [if_neg (by assumption)]
      rw [show (x : Int).toNat = x from rfl]
      refine ⟨rfl, rfl, ac_RT_setPin hR9 ⟨hx1, hx2⟩ (by omega) (by funext j; simp [ac_up]) (by funext j; simp [ac_up]) (by intro j; simp [ac_up]) (by funext j; simp [ac_up]), ?_⟩
      intro k' hk'; funext j; simp only [ac_up]; repeat rw [if_neg (by omega)]

set_option maxHeartbeats 4000000 in
theorem k_fill {G : ac_G} {Y : ac_Y} {mm : ac_M} {d r len : Nat} {v : Int} (hd : 1 ≤ d) (hk0 : Y.2.1 r = (1, len)) (hl : len < 100000)   : ac_C G yJ7_fill_53178 cJ7_fill_53178 4 none d 0 0 Y mm [(2, (r : Int)), (0, v)] (ac_R Y [] (fun m => m = ac_fl mm r len v)) := by
  have hl2 : len < 2147483648 := by omega
  refine ac_met (on := (RJ7, "fill")) rfl rfl (Nat.le_of_ble_eq_true rfl) (ls := [(2, (r : Int)), (0, v), (3, 0), (3, 0)]) rfl ?_
  have loop : ∀ (f i : Nat), i + f = len → ac_V G (RJ7, "fill") cJ7_fill_53178 4 none d 0 0 (ac_R Y [] (fun m => m = ac_fl mm r len v)) 0 0 Y (ac_fl mm r i v) 5 [(2, (r : Int)), (0, v), (0, (i : Int)), (0, (len : Int))] [] := by
    intro f
    induction f with
    | zero =>
      intro i hi
      refine ac_iload_n (q := 6) dJ7_fill_53178_5 rfl rfl ?_
      refine ac_iload_n (q := 7) dJ7_fill_53178_6 rfl rfl ?_
      refine ac_icmp_ge (q := 10) (tgt := 20) dJ7_fill_53178_7 rfl rfl ⟨by omega, by omega⟩ ⟨by omega, by omega⟩ (fun h7 => ?_) (fun h7 => ?_)
      · refine ac_return dJ7_fill_53178_20 rfl (Nat.zero_le _) (Nat.zero_le _) ?_
        exact ⟨rfl, rfl, by rw [show i = len by omega]⟩
      · exfalso; omega
    | succ f ih =>
      intro i hi
      refine ac_iload_n (q := 6) dJ7_fill_53178_5 rfl rfl ?_
      refine ac_iload_n (q := 7) dJ7_fill_53178_6 rfl rfl ?_
      refine ac_icmp_ge (q := 10) (tgt := 20) dJ7_fill_53178_7 rfl rfl ⟨by omega, by omega⟩ ⟨by omega, by omega⟩ (fun h7 => ?_) (fun h7 => ?_)
      · exfalso; omega
      · refine ac_aload_n (q := 11) dJ7_fill_53178_10 rfl rfl ?_
        refine ac_iload_n (q := 12) dJ7_fill_53178_11 rfl rfl ?_
        refine ac_iload_n (q := 13) dJ7_fill_53178_12 rfl rfl ?_
        refine ac_iastoreN (q := 14) (j := i) dJ7_fill_53178_13 hk0 hl2 (by omega) rfl ?_
        rw [ac_fl_s]
        refine ac_iinc (q := 17) dJ7_fill_53178_14 rfl (Nat.le_of_ble_eq_true rfl) rfl rfl rfl rfl ?_
        simp only [List.set_cons_succ, List.set_cons_zero]
        refine ac_goto (q := 5) dJ7_fill_53178_17 rfl ?_
        exact ih (i + 1) (by omega)
  refine ac_iconst (q := 1) dJ7_fill_53178_0 rfl ?_
  refine ac_istore_n (q := 2) (j := 2) rfl dJ7_fill_53178_1 rfl (Nat.le_of_ble_eq_true rfl) rfl rfl ?_
  simp only [List.set_cons_succ, List.set_cons_zero]
  refine ac_aload_n (q := 3) dJ7_fill_53178_2 rfl rfl ?_
  refine ac_alen (q := 4) dJ7_fill_53178_3 hk0 (by decide) rfl ?_
  refine ac_istore_n (q := 5) (j := 3) rfl dJ7_fill_53178_4 rfl (Nat.le_of_ble_eq_true rfl) rfl rfl ?_
  simp only [List.set_cons_succ, List.set_cons_zero]
  exact ac_mem ac_fl_0.symm (loop len 0 (by omega))

set_option maxHeartbeats 4000000 in
theorem k_X3_unpin {G : ac_G} {Y : ac_Y} {mm : ac_M} {d t : Nat} (hd : 2 ≤ d) (hT : ac_isT Y t)   : ac_C G yX3_unpin cX3_unpin 1 none d 0 0 Y mm [(2, (t : Int))] (ac_R Y [] (fun m => m = ac_fl mm (t + 2) 11 (-1))) := by
  obtain ⟨hk0, hk1, hk2, hk3, hr0, hr1, hr2⟩ := hT
  refine ac_met (on := (RX3, "unpin")) rfl rfl (Nat.le_of_ble_eq_true rfl) (ls := [(2, (t : Int))]) rfl ?_
  refine ac_aload_n (q := 1) dX3_unpin_0 rfl rfl ?_
  refine ac_get (q := 4) dX3_unpin_1 fl_X3_15 (by assumption) rfl (ac_rdr rfl (by assumption)) ?_
  refine ac_iconst (q := 5) dX3_unpin_4 rfl ?_
  refine ac_cs (q := 8) (k_fill (d := d - 1) (by omega) hk2 (by decide)) ml_X3_38 dX3_unpin_5 rfl rfl rfl (by omega) (Nat.le_of_ble_eq_true rfl) (Nat.zero_le _) (Nat.zero_le _) (fun m1 h1 => ?_)
  refine ac_return dX3_unpin_8 rfl (Nat.zero_le _) (Nat.zero_le _) ?_
  exact ⟨rfl, rfl, h1⟩

set_option maxHeartbeats 4000000 in
theorem k_X3_pinned {G : ac_G} {Y : ac_Y} {mm : ac_M} {d t n k : Nat} {E : List ac_Eq} {pin : Nat → Int} {col : Option (List Nat)} (hd : 2 ≤ d) (hT : ac_isT Y t) (hR : ac_RT mm t n k E pin col)   : ac_C G yX3_pinned cX3_pinned 3 (some .int) d 0 0 Y mm [(2, (t : Int))] (ac_R Y [(0, (ac_pins pin n : Int))] (fun m => m = mm)) := by
  have hT9 := hT
  have hR9 := hR
  obtain ⟨hk0, hk1, hk2, hk3, hr0, hr1, hr2⟩ := hT
  obtain ⟨⟨⟨hn1, hn2⟩, ⟨hkk1, hkk2⟩, ⟨hE1, hE2⟩, hp0, hpr, hc0⟩, r3, r4, r5, r6, rE, rp, rcb, rc⟩ := hR
  refine ac_met (on := (RX3, "pinned")) rfl rfl (Nat.le_of_ble_eq_true rfl) (ls := [(2, (t : Int)), (3, 0), (3, 0)]) rfl ?_
  have loop : ∀ (f i : Nat), i + f = n → ac_V G (RX3, "pinned") cX3_pinned 3 (some .int) d 0 0 (ac_R Y [(0, (ac_pins pin n : Int))] (fun m => m = mm)) 0 0 Y mm 4 [(2, (t : Int)), (0, (ac_pins pin i : Int)), (0, ((i + 1 : Nat) : Int))] [] := by
    intro f
    induction f with
    | zero =>
      intro i hi
      refine ac_iload_n (q := 5) dX3_pinned_4 rfl rfl ?_
      refine ac_aload_n (q := 6) dX3_pinned_5 rfl rfl ?_
      refine ac_get (q := 9) dX3_pinned_6 fl_X3_21 (by assumption) rfl (ac_rdi rfl r3) ?_
      refine ac_icmp_gt (q := 12) (tgt := 30) dX3_pinned_9 rfl rfl ⟨by omega, by omega⟩ ⟨by omega, by omega⟩ (fun h9 => ?_) (fun h9 => ?_)
      · refine ac_iload_n (q := 31) dX3_pinned_30 rfl rfl ?_
        refine ac_ireturn dX3_pinned_31 rfl (Nat.zero_le _) (Nat.zero_le _) ?_
        exact ⟨by rw [show i = n by omega], rfl, rfl⟩
      · exfalso; omega
    | succ f ih =>
      intro i hi
      have hpi := hpr (i + 1)
      have hle := ac_pins_le pin i
      have e1 : ac_pins pin (i + 1) = ac_pins pin i + (if pin (i + 1) = -1 then 0 else 1) := rfl
      refine ac_iload_n (q := 5) dX3_pinned_4 rfl rfl ?_
      refine ac_aload_n (q := 6) dX3_pinned_5 rfl rfl ?_
      refine ac_get (q := 9) dX3_pinned_6 fl_X3_21 (by assumption) rfl (ac_rdi rfl r3) ?_
      refine ac_icmp_gt (q := 12) (tgt := 30) dX3_pinned_9 rfl rfl ⟨by omega, by omega⟩ ⟨by omega, by omega⟩ (fun h9 => ?_) (fun h9 => ?_)
      · exfalso; omega
      · refine ac_aload_n (q := 13) dX3_pinned_12 rfl rfl ?_
        refine ac_iload_n (q := 14) dX3_pinned_13 rfl rfl ?_
        refine ac_cvp (q := 17) (k_X3_pinOf (d := d - 1) (x := ((i + 1 : Nat) : Int)) (by omega) hT9 hR9 ⟨by omega, by omega⟩) ml_X3_68 (by assumption) dX3_pinned_14 rfl rfl rfl (by omega) (Nat.le_of_ble_eq_true rfl) (Nat.zero_le _) (Nat.zero_le _) ?_
        simp only [Int.toNat_natCast]
        refine ac_iconst (q := 18) dX3_pinned_17 rfl ?_
        refine ac_icmp_eq (q := 21) (tgt := 24) dX3_pinned_18 rfl rfl ⟨by omega, by omega⟩ ⟨by omega, by omega⟩ (fun h18 => ?_) (fun h18 => ?_)
        · rw [if_pos (by simpa using h18)] at e1
          refine ac_iinc (q := 27) dX3_pinned_24 rfl (Nat.le_of_ble_eq_true rfl) rfl rfl rfl rfl ?_
          simp only [List.set_cons_succ, List.set_cons_zero]
          refine ac_goto (q := 4) dX3_pinned_27 rfl ?_
          exact ac_ls (by rw [show (((i + 1 : Nat) : Int) + 1) = ((i + 1 + 1 : Nat) : Int) from rfl, e1]; rfl) (ih (i + 1) (by omega))
        · rw [if_neg (by simpa using h18)] at e1
          refine ac_iinc (q := 24) dX3_pinned_21 rfl (Nat.le_of_ble_eq_true rfl) rfl rfl rfl rfl ?_
          simp only [List.set_cons_succ, List.set_cons_zero]
          refine ac_iinc (q := 27) dX3_pinned_24 rfl (Nat.le_of_ble_eq_true rfl) rfl rfl rfl rfl ?_
          simp only [List.set_cons_succ, List.set_cons_zero]
          refine ac_goto (q := 4) dX3_pinned_27 rfl ?_
          exact ac_ls (by rw [show (((i + 1 : Nat) : Int) + 1) = ((i + 1 + 1 : Nat) : Int) from rfl, e1]; rfl) (ih (i + 1) (by omega))
  refine ac_iconst (q := 1) dX3_pinned_0 rfl ?_
  refine ac_istore_n (q := 2) (j := 1) rfl dX3_pinned_1 rfl (Nat.le_of_ble_eq_true rfl) rfl rfl ?_
  simp only [List.set_cons_succ, List.set_cons_zero]
  refine ac_iconst (q := 3) dX3_pinned_2 rfl ?_
  refine ac_istore_n (q := 4) (j := 2) rfl dX3_pinned_3 rfl (Nat.le_of_ble_eq_true rfl) rfl rfl ?_
  simp only [List.set_cons_succ, List.set_cons_zero]
  exact loop n 0 (by omega)
