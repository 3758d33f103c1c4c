set_option maxHeartbeats 4000000 in
theorem k_X3_has {G : ac_G} {Y : ac_Y} {mm : ac_M} {d t n k : Nat} {E : List ac_Eq} {pin : Nat → Int} {col : Option (List Nat)} (hd : 1 ≤ d) (hT : ac_isT Y t) (hR : ac_RT mm t n k E pin col) {x : Int} (hx : ac_in x) : ac_C G yX3_has cX3_has 2 (some .boolean) d 0 0 Y mm [(2, (t : Int)), (0, x)] (ac_R Y [(0, ac_b (1 ≤ x ∧ x ≤ (n : Int)))] (fun m => m = mm)) := by
  have hT9 := hT
  have hR9 := hR
  obtain ⟨hk0, hk1, hk2, hk3, hr0, hr1, hr2⟩ := hT
  obtain ⟨⟨⟨hn1, hn2⟩, ⟨hkk1, hkk2⟩, ⟨hE1, hE2⟩, hp0, hpr, hc0⟩, r3, r4, r5, r6, rE, rp, rcb, rc⟩ := hR
  obtain ⟨hx1, hx2⟩ := hx
  refine ac_met (on := (RX3, "has")) rfl rfl (Nat.le_of_ble_eq_true rfl) (ls := [(2, (t : Int)), (0, x)]) rfl ?_
  refine ac_iload_n (q := 1) dX3_has_0 rfl rfl ?_
  refine ac_iconst (q := 2) dX3_has_1 rfl ?_
  refine ac_icmp_lt (q := 5) (tgt := 23) dX3_has_2 rfl rfl ⟨by omega, by omega⟩ ⟨by omega, by omega⟩ (fun h2 => ?_) (fun h2 => ?_)
  · refine ac_iconst (q := 24) dX3_has_23 rfl ?_
    refine ac_zreturn dX3_has_24 rfl (by first | exact ac_b01 | omega) (Nat.zero_le _) (Nat.zero_le _) ?_
    first | exact ⟨ac_l1 (by omega), rfl, rfl⟩ | exact ⟨ac_l0 (by omega), rfl, rfl⟩
  · refine ac_iload_n (q := 6) dX3_has_5 rfl rfl ?_
    refine ac_aload_n (q := 7) dX3_has_6 rfl rfl ?_
    refine ac_get (q := 10) dX3_has_7 fl_X3_21 (by assumption) rfl rfl ?_
    refine ac_icmp_gt (q := 13) (tgt := 23) dX3_has_10 rfl rfl ⟨by omega, by omega⟩ ⟨by omega, by omega⟩ (fun h10 => ?_) (fun h10 => ?_)
    · refine ac_iconst (q := 24) dX3_has_23 rfl ?_
      refine ac_zreturn dX3_has_24 rfl (by first | exact ac_b01 | omega) (Nat.zero_le _) (Nat.zero_le _) ?_
      first | exact ⟨ac_l1 (by omega), rfl, rfl⟩ | exact ⟨ac_l0 (by omega), rfl, rfl⟩
    · refine ac_iload_n (q := 14) dX3_has_13 rfl rfl ?_
      refine ac_bipush (q := 16) dX3_has_14 rfl (by decide) ?_
      refine ac_icmp_gt (q := 19) (tgt := 23) dX3_has_16 rfl rfl ⟨by omega, by omega⟩ ⟨by omega, by omega⟩ (fun h16 => ?_) (fun h16 => ?_)
      · refine ac_iconst (q := 24) dX3_has_23 rfl ?_
        refine ac_zreturn dX3_has_24 rfl (by first | exact ac_b01 | omega) (Nat.zero_le _) (Nat.zero_le _) ?_
        first | exact ⟨ac_l1 (by omega), rfl, rfl⟩ | exact ⟨ac_l0 (by omega), rfl, rfl⟩
      · refine ac_iconst (q := 20) dX3_has_19 rfl ?_
        refine ac_goto (q := 24) dX3_has_20 rfl ?_
        refine ac_zreturn dX3_has_24 rfl (by first | exact ac_b01 | omega) (Nat.zero_le _) (Nat.zero_le _) ?_
        first | exact ⟨ac_l1 (by omega), rfl, rfl⟩ | exact ⟨ac_l0 (by omega), rfl, rfl⟩

set_option maxHeartbeats 4000000 in
theorem k_X3_hasColour {G : ac_G} {Y : ac_Y} {mm : ac_M} {d t n k : Nat} {E : List ac_Eq} {pin : Nat → Int} {col : Option (List Nat)} (hd : 1 ≤ d) (hT : ac_isT Y t) (hR : ac_RT mm t n k E pin col) {x : Int} (hx : ac_in x) : ac_C G yX3_hasColour cX3_hasColour 2 (some .boolean) d 0 0 Y mm [(2, (t : Int)), (0, x)] (ac_R Y [(0, ac_b (0 ≤ x ∧ x < (k : Int)))] (fun m => m = mm)) := by
  have hT9 := hT
  have hR9 := hR
  obtain ⟨hk0, hk1, hk2, hk3, hr0, hr1, hr2⟩ := hT
  obtain ⟨⟨⟨hn1, hn2⟩, ⟨hkk1, hkk2⟩, ⟨hE1, hE2⟩, hp0, hpr, hc0⟩, r3, r4, r5, r6, rE, rp, rcb, rc⟩ := hR
  obtain ⟨hx1, hx2⟩ := hx
  refine ac_met (on := (RX3, "hasColour")) rfl rfl (Nat.le_of_ble_eq_true rfl) (ls := [(2, (t : Int)), (0, x)]) rfl ?_
  refine ac_iload_n (q := 1) dX3_hasColour_0 rfl rfl ?_
  refine ac_if_lt (q := 4) (tgt := 21) dX3_hasColour_1 rfl rfl ⟨by omega, by omega⟩ (fun h1 => ?_) (fun h1 => ?_)
  · refine ac_iconst (q := 22) dX3_hasColour_21 rfl ?_
    refine ac_zreturn dX3_hasColour_22 rfl (by first | exact ac_b01 | omega) (Nat.zero_le _) (Nat.zero_le _) ?_
    first | exact ⟨ac_l1 (by omega), rfl, rfl⟩ | exact ⟨ac_l0 (by omega), rfl, rfl⟩
  · refine ac_iload_n (q := 5) dX3_hasColour_4 rfl rfl ?_
    refine ac_aload_n (q := 6) dX3_hasColour_5 rfl rfl ?_
    refine ac_get (q := 9) dX3_hasColour_6 fl_X3_25 (by assumption) rfl rfl ?_
    refine ac_icmp_ge (q := 12) (tgt := 21) dX3_hasColour_9 rfl rfl ⟨by omega, by omega⟩ ⟨by omega, by omega⟩ (fun h9 => ?_) (fun h9 => ?_)
    · refine ac_iconst (q := 22) dX3_hasColour_21 rfl ?_
      refine ac_zreturn dX3_hasColour_22 rfl (by first | exact ac_b01 | omega) (Nat.zero_le _) (Nat.zero_le _) ?_
      first | exact ⟨ac_l1 (by omega), rfl, rfl⟩ | exact ⟨ac_l0 (by omega), rfl, rfl⟩
    · refine ac_iload_n (q := 13) dX3_hasColour_12 rfl rfl ?_
      refine ac_iconst (q := 14) dX3_hasColour_13 rfl ?_
      refine ac_icmp_ge (q := 17) (tgt := 21) dX3_hasColour_14 rfl rfl ⟨by omega, by omega⟩ ⟨by omega, by omega⟩ (fun h14 => ?_) (fun h14 => ?_)
      · refine ac_iconst (q := 22) dX3_hasColour_21 rfl ?_
        refine ac_zreturn dX3_hasColour_22 rfl (by first | exact ac_b01 | omega) (Nat.zero_le _) (Nat.zero_le _) ?_
        first | exact ⟨ac_l1 (by omega), rfl, rfl⟩ | exact ⟨ac_l0 (by omega), rfl, rfl⟩
      · refine ac_iconst (q := 18) dX3_hasColour_17 rfl ?_
        refine ac_goto (q := 22) dX3_hasColour_18 rfl ?_
        refine ac_zreturn dX3_hasColour_22 rfl (by first | exact ac_b01 | omega) (Nat.zero_le _) (Nat.zero_le _) ?_
        first | exact ⟨ac_l1 (by omega), rfl, rfl⟩ | exact ⟨ac_l0 (by omega), rfl, rfl⟩

set_option maxHeartbeats 4000000 in
theorem k_X3_hasEquation {G : ac_G} {Y : ac_Y} {mm : ac_M} {d t n k : Nat} {E : List ac_Eq} {pin : Nat → Int} {col : Option (List Nat)} (hd : 1 ≤ d) (hT : ac_isT Y t) (hR : ac_RT mm t n k E pin col) {x : Int} (hx : ac_in x) : ac_C G yX3_hasEquation cX3_hasEquation 2 (some .boolean) d 0 0 Y mm [(2, (t : Int)), (0, x)] (ac_R Y [(0, ac_b (0 ≤ x ∧ x < (E.length : Int)))] (fun m => m = mm)) := by
  have hT9 := hT
  have hR9 := hR
  obtain ⟨hk0, hk1, hk2, hk3, hr0, hr1, hr2⟩ := hT
  obtain ⟨⟨⟨hn1, hn2⟩, ⟨hkk1, hkk2⟩, ⟨hE1, hE2⟩, hp0, hpr, hc0⟩, r3, r4, r5, r6, rE, rp, rcb, rc⟩ := hR
  obtain ⟨hx1, hx2⟩ := hx
  refine ac_met (on := (RX3, "hasEquation")) rfl rfl (Nat.le_of_ble_eq_true rfl) (ls := [(2, (t : Int)), (0, x)]) rfl ?_
  refine ac_iload_n (q := 1) dX3_hasEquation_0 rfl rfl ?_
  refine ac_if_lt (q := 4) (tgt := 21) dX3_hasEquation_1 rfl rfl ⟨by omega, by omega⟩ (fun h1 => ?_) (fun h1 => ?_)
  · refine ac_iconst (q := 22) dX3_hasEquation_21 rfl ?_
    refine ac_zreturn dX3_hasEquation_22 rfl (by first | exact ac_b01 | omega) (Nat.zero_le _) (Nat.zero_le _) ?_
    first | exact ⟨ac_l1 (by omega), rfl, rfl⟩ | exact ⟨ac_l0 (by omega), rfl, rfl⟩
  · refine ac_iload_n (q := 5) dX3_hasEquation_4 rfl rfl ?_
    refine ac_aload_n (q := 6) dX3_hasEquation_5 rfl rfl ?_
    refine ac_get (q := 9) dX3_hasEquation_6 fl_X3_28 (by assumption) rfl rfl ?_
    refine ac_icmp_ge (q := 12) (tgt := 21) dX3_hasEquation_9 rfl rfl ⟨by omega, by omega⟩ ⟨by omega, by omega⟩ (fun h9 => ?_) (fun h9 => ?_)
    · refine ac_iconst (q := 22) dX3_hasEquation_21 rfl ?_
      refine ac_zreturn dX3_hasEquation_22 rfl (by first | exact ac_b01 | omega) (Nat.zero_le _) (Nat.zero_le _) ?_
      first | exact ⟨ac_l1 (by omega), rfl, rfl⟩ | exact ⟨ac_l0 (by omega), rfl, rfl⟩
    · refine ac_iload_n (q := 13) dX3_hasEquation_12 rfl rfl ?_
      refine ac_iconst (q := 14) dX3_hasEquation_13 rfl ?_
      refine ac_icmp_ge (q := 17) (tgt := 21) dX3_hasEquation_14 rfl rfl ⟨by omega, by omega⟩ ⟨by omega, by omega⟩ (fun h14 => ?_) (fun h14 => ?_)
      · refine ac_iconst (q := 22) dX3_hasEquation_21 rfl ?_
        refine ac_zreturn dX3_hasEquation_22 rfl (by first | exact ac_b01 | omega) (Nat.zero_le _) (Nat.zero_le _) ?_
        first | exact ⟨ac_l1 (by omega), rfl, rfl⟩ | exact ⟨ac_l0 (by omega), rfl, rfl⟩
      · refine ac_iconst (q := 18) dX3_hasEquation_17 rfl ?_
        refine ac_goto (q := 22) dX3_hasEquation_18 rfl ?_
        refine ac_zreturn dX3_hasEquation_22 rfl (by first | exact ac_b01 | omega) (Nat.zero_le _) (Nat.zero_le _) ?_
        first | exact ⟨ac_l1 (by omega), rfl, rfl⟩ | exact ⟨ac_l0 (by omega), rfl, rfl⟩

set_option maxHeartbeats 4000000 in
theorem k_X3_part {G : ac_G} {Y : ac_Y} {mm : ac_M} {d t n k : Nat} {E : List ac_Eq} {pin : Nat → Int} {col : Option (List Nat)} (hd : 2 ≤ d) (hT : ac_isT Y t) (hR : ac_RT mm t n k E pin col) {e w : Nat} {q : ac_Eq} (hq : E[e]? = some q) (hw : w < 4) : ac_C G yX3_part cX3_part 4 (some .int) d 0 0 Y mm [(2, (t : Int)), (0, (e : Int)), (0, (w : Int))] (ac_R Y [(0, ac_qc q w)] (fun m => m = mm)) := by
  have hT9 := hT
  have hR9 := hR
  obtain ⟨hk0, hk1, hk2, hk3, hr0, hr1, hr2⟩ := hT
  obtain ⟨⟨⟨hn1, hn2⟩, ⟨hkk1, hkk2⟩, ⟨hE1, hE2⟩, hp0, hpr, hc0⟩, r3, r4, r5, r6, rE, rp, rcb, rc⟩ := hR
  have he := (List.getElem?_eq_some_iff.mp hq).1
  refine ac_met (on := (RX3, "part")) rfl rfl (Nat.le_of_ble_eq_true rfl) (ls := [(2, (t : Int)), (0, (e : Int)), (0, (w : Int)), (3, 0)]) rfl ?_
  refine ac_aload_n (q := 1) dX3_part_0 rfl rfl ?_
  refine ac_iload_n (q := 2) dX3_part_1 rfl rfl ?_
  refine ac_cvp (q := 5) (k_X3_hasEquation (d := d - 1) (by omega) hT9 hR9 ⟨by omega, by omega⟩) ml_X3_50 (by assumption) dX3_part_2 rfl rfl rfl (by omega) (Nat.le_of_ble_eq_true rfl) (Nat.zero_le _) (Nat.zero_le _) ?_
  refine ac_bif_eq (q := 8) (tgt := 21) dX3_part_5 rfl rfl (fun h5 => ?_) (fun h5 => ?_)
  · exfalso; omega
  · refine ac_iload_n (q := 9) dX3_part_8 rfl rfl ?_
    refine ac_if_lt (q := 12) (tgt := 21) dX3_part_9 rfl rfl ⟨by omega, by omega⟩ (fun h9 => ?_) (fun h9 => ?_)
    · exfalso; omega
    · refine ac_iload_n (q := 13) dX3_part_12 rfl rfl ?_
      refine ac_iconst (q := 14) dX3_part_13 rfl ?_
      refine ac_icmp_ge (q := 17) (tgt := 21) dX3_part_14 rfl rfl ⟨by omega, by omega⟩ ⟨by omega, by omega⟩ (fun h14 => ?_) (fun h14 => ?_)
      · exfalso; omega
      · refine ac_iconst (q := 18) dX3_part_17 rfl ?_
        refine ac_goto (q := 22) dX3_part_18 rfl ?_
        refine ac_istore_n (q := 23) (j := 3) rfl dX3_part_22 rfl (Nat.le_of_ble_eq_true rfl) rfl rfl ?_
        simp only [List.set_cons_succ, List.set_cons_zero]
        refine ac_iload_n (q := 24) dX3_part_23 rfl rfl ?_
        refine ac_if_eq (q := 27) (tgt := 40) dX3_part_24 rfl rfl ⟨by omega, by omega⟩ (fun h24 => ?_) (fun h24 => ?_)
        · exact absurd h24 (by decide)
        · refine ac_aload_n (q := 28) dX3_part_27 rfl rfl ?_
          refine ac_get (q := 31) dX3_part_28 fl_X3_11 (by assumption) rfl (ac_rdr rfl (by assumption)) ?_
          refine ac_iconst (q := 32) dX3_part_31 rfl ?_
          refine ac_iload_n (q := 33) dX3_part_32 rfl rfl ?_
          refine ac_imul (q := 34) dX3_part_33 rfl ?_
          refine ac_iload_n (q := 35) dX3_part_34 rfl rfl ?_
          refine ac_iadd (q := 36) dX3_part_35 rfl ?_
          refine ac_iaload (q := 37) (v := ac_qc q w) dX3_part_36 (by assumption) (by decide) ⟨by omega, by omega⟩ rfl (ac_Eget rE hq hw (by omega)) ?_
          refine ac_goto (q := 41) dX3_part_37 rfl ?_
          refine ac_ireturn dX3_part_41 rfl (Nat.zero_le _) (Nat.zero_le _) ?_
          exact ⟨rfl, rfl, rfl⟩

set_option maxHeartbeats 4000000 in
theorem k_X3_append {G : ac_G} {Y : ac_Y} {mm : ac_M} {d t n k : Nat} {E : List ac_Eq} {pin : Nat → Int} {col : Option (List Nat)} (hd : 1 ≤ d) (hT : ac_isT Y t) (hR : ac_RT mm t n k E pin col) {a b c ap : Int} (hL : E.length < 4) (hq : ac_okq (a, b, c, ap)) : ac_C G yX3_append cX3_append 6 none d 0 0 Y mm [(2, (t : Int)), (0, a), (0, b), (0, c), (0, ap)] (ac_R Y [] (fun m => ac_RT m t n k (E ++ [(a, b, c, ap)]) pin col ∧ ac_fr mm m t)) := by
  have hT9 := hT
  have hR9 := hR
  obtain ⟨hk0, hk1, hk2, hk3, hr0, hr1, hr2⟩ := hT
  obtain ⟨⟨⟨hn1, hn2⟩, ⟨hkk1, hkk2⟩, ⟨hE1, hE2⟩, hp0, hpr, hc0⟩, r3, r4, r5, r6, rE, rp, rcb, rc⟩ := hR
  refine ac_met (on := (RX3, "append")) rfl rfl (Nat.le_of_ble_eq_true rfl) (ls := [(2, (t : Int)), (0, a), (0, b), (0, c), (0, ap), (3, 0)]) rfl ?_
  refine ac_aload_n (q := 1) dX3_append_0 rfl rfl ?_
  refine ac_get (q := 4) dX3_append_1 fl_X3_28 (by assumption) rfl rfl ?_
  refine ac_if_lt (q := 7) (tgt := 15) dX3_append_4 rfl rfl ⟨by omega, by omega⟩ (fun h4 => ?_) (fun h4 => ?_)
  · exfalso; omega
  · refine ac_aload_n (q := 8) dX3_append_7 rfl rfl ?_
    refine ac_get (q := 11) dX3_append_8 fl_X3_28 (by assumption) rfl rfl ?_
    refine ac_iconst (q := 12) dX3_append_11 rfl ?_
    refine ac_icmp_lt (q := 15) (tgt := 16) dX3_append_12 rfl rfl ⟨by omega, by omega⟩ ⟨by omega, by omega⟩ (fun h12 => ?_) (fun h12 => ?_)
    · refine ac_iconst (q := 17) dX3_append_16 rfl ?_
      refine ac_aload_n (q := 18) dX3_append_17 rfl rfl ?_
      refine ac_get (q := 21) dX3_append_18 fl_X3_28 (by assumption) rfl (ac_rdi rfl r5) ?_
      refine ac_imul (q := 22) dX3_append_21 rfl ?_
      refine ac_istore (q := 24) dX3_append_22 rfl (Nat.le_of_ble_eq_true rfl) rfl rfl ?_
      simp only [List.set_cons_succ, List.set_cons_zero]
      refine ac_aload_n (q := 25) dX3_append_24 rfl rfl ?_
      refine ac_get (q := 28) dX3_append_25 fl_X3_11 (by assumption) rfl (ac_rdr rfl (by assumption)) ?_
      refine ac_iload (q := 30) dX3_append_28 rfl rfl ?_
      refine ac_iload_n (q := 31) dX3_append_30 rfl rfl ?_
      refine ac_iastore (q := 32) dX3_append_31 (by assumption) (by decide) ⟨by omega, by omega⟩ rfl ?_
      refine ac_aload_n (q := 33) dX3_append_32 rfl rfl ?_
      refine ac_get (q := 36) dX3_append_33 fl_X3_11 (by assumption) rfl (ac_rdr rfl (by assumption)) ?_
      refine ac_iload (q := 38) dX3_append_36 rfl rfl ?_
      refine ac_iconst (q := 39) dX3_append_38 rfl ?_
      refine ac_iadd (q := 40) dX3_append_39 rfl ?_
      refine ac_iload_n (q := 41) dX3_append_40 rfl rfl ?_
      refine ac_iastore (q := 42) dX3_append_41 (by assumption) (by decide) ⟨by omega, by omega⟩ rfl ?_
      refine ac_aload_n (q := 43) dX3_append_42 rfl rfl ?_
      refine ac_get (q := 46) dX3_append_43 fl_X3_11 (by assumption) rfl (ac_rdr rfl (by assumption)) ?_
      refine ac_iload (q := 48) dX3_append_46 rfl rfl ?_
      refine ac_iconst (q := 49) dX3_append_48 rfl ?_
      refine ac_iadd (q := 50) dX3_append_49 rfl ?_
      refine ac_iload_n (q := 51) dX3_append_50 rfl rfl ?_
      refine ac_iastore (q := 52) dX3_append_51 (by assumption) (by decide) ⟨by omega, by omega⟩ rfl ?_
      refine ac_aload_n (q := 53) dX3_append_52 rfl rfl ?_
      refine ac_get (q := 56) dX3_append_53 fl_X3_11 (by assumption) rfl (ac_rdr rfl (by assumption)) ?_
      refine ac_iload (q := 58) dX3_append_56 rfl rfl ?_
      refine ac_iconst (q := 59) dX3_append_58 rfl ?_
      refine ac_iadd (q := 60) dX3_append_59 rfl ?_
      refine ac_iload (q := 62) dX3_append_60 rfl rfl ?_
      refine ac_iastore (q := 63) dX3_append_62 (by assumption) (by decide) ⟨by omega, by omega⟩ rfl ?_
      refine ac_aload_n (q := 64) dX3_append_63 rfl rfl ?_
      refine ac_dup (q := 65) dX3_append_64 rfl (show (2 : Nat) ≠ 1 by decide) ?_
      refine ac_get (q := 68) dX3_append_65 fl_X3_28 (by assumption) rfl (ac_rdi (v := (E.length : Int)) rfl (by rw [ac_up_k (by omega), ac_up_k (by omega), ac_up_k (by omega), ac_up_k (by omega)]; exact r5)) ?_
      refine ac_iconst (q := 69) dX3_append_68 rfl ?_
      refine ac_iadd (q := 70) dX3_append_69 rfl ?_
      refine ac_put (q := 73) dX3_append_70 fl_X3_28 (by assumption) rfl rfl ?_
      refine ac_return dX3_append_73 rfl (Nat.zero_le _) (Nat.zero_le _) ?_
      refine ⟨rfl, rfl, ?_⟩
      have e0 : (4 * (E.length : Int)).toNat = 4 * E.length := by omega
      have e1 : (4 * (E.length : Int) + 1).toNat = 4 * E.length + 1 := by omega
      have e2 : (4 * (E.length : Int) + 2).toNat = 4 * E.length + 2 := by omega
      have e3 : (4 * (E.length : Int) + 3).toNat = 4 * E.length + 3 := by omega
      rw [e0, e1, e2, e3]
      exact ⟨ac_RT_append hR9 hL hq (by intro j; simp [ac_up]) (by intro j; simp [ac_up]) (by funext j; simp [ac_up]) (by funext j; simp [ac_up]), by intro k' hk'; funext j; simp only [ac_up]; repeat rw [if_neg (by omega)]⟩
    · exfalso; omega

set_option maxHeartbeats 4000000 in
theorem k_X3_regular {G : ac_G} {Y : ac_Y} {mm : ac_M} {d t n k : Nat} {E : List ac_Eq} {pin : Nat → Int} {col : Option (List Nat)} (hd : 3 ≤ d) (hT : ac_isT Y t) (hR : ac_RT mm t n k E pin col) {e : Nat} {q : ac_Eq} (hq : E[e]? = some q) : ac_C G yX3_regular cX3_regular 5 (some .boolean) d 0 0 Y mm [(2, (t : Int)), (0, (e : Int))] (ac_R Y [(0, @ac_b (ac_reg q) (ac_regd q))] (fun m => m = mm)) := by
  have hT9 := hT
  have hR9 := hR
  obtain ⟨hk0, hk1, hk2, hk3, hr0, hr1, hr2⟩ := hT
  obtain ⟨⟨⟨hn1, hn2⟩, ⟨hkk1, hkk2⟩, ⟨hE1, hE2⟩, hp0, hpr, hc0⟩, r3, r4, r5, r6, rE, rp, rcb, rc⟩ := hR
  have he := (List.getElem?_eq_some_iff.mp hq).1
  obtain ⟨⟨⟨q1, q2⟩, -⟩, ⟨⟨q3, q4⟩, -⟩, ⟨⟨q5, q6⟩, -⟩, -⟩ := hE2 q (List.mem_of_getElem? hq)
  refine ac_met (on := (RX3, "regular")) rfl rfl (Nat.le_of_ble_eq_true rfl) (ls := [(2, (t : Int)), (0, (e : Int)), (3, 0), (3, 0), (3, 0)]) rfl ?_
  refine ac_aload_n (q := 1) dX3_regular_0 rfl rfl ?_
  refine ac_iload_n (q := 2) dX3_regular_1 rfl rfl ?_
  refine ac_iconst (q := 3) dX3_regular_2 rfl ?_
  refine ac_cvp (q := 6) (k_X3_part (d := d - 1) (w := 0) (by omega) hT9 hR9 hq (by decide)) ml_X3_54 (by assumption) dX3_regular_3 rfl rfl rfl (by omega) (Nat.le_of_ble_eq_true rfl) (Nat.zero_le _) (Nat.zero_le _) ?_
  refine ac_top (w' := (0, q.1)) rfl ?_
  refine ac_istore_n (q := 7) (j := 2) rfl dX3_regular_6 rfl (Nat.le_of_ble_eq_true rfl) rfl rfl ?_
  simp only [List.set_cons_succ, List.set_cons_zero]
  refine ac_aload_n (q := 8) dX3_regular_7 rfl rfl ?_
  refine ac_iload_n (q := 9) dX3_regular_8 rfl rfl ?_
  refine ac_iconst (q := 10) dX3_regular_9 rfl ?_
  refine ac_cvp (q := 13) (k_X3_part (d := d - 1) (w := 1) (by omega) hT9 hR9 hq (by decide)) ml_X3_54 (by assumption) dX3_regular_10 rfl rfl rfl (by omega) (Nat.le_of_ble_eq_true rfl) (Nat.zero_le _) (Nat.zero_le _) ?_
  refine ac_top (w' := (0, q.2.1)) rfl ?_
  refine ac_istore_n (q := 14) (j := 3) rfl dX3_regular_13 rfl (Nat.le_of_ble_eq_true rfl) rfl rfl ?_
  simp only [List.set_cons_succ, List.set_cons_zero]
  refine ac_aload_n (q := 15) dX3_regular_14 rfl rfl ?_
  refine ac_iload_n (q := 16) dX3_regular_15 rfl rfl ?_
  refine ac_iconst (q := 17) dX3_regular_16 rfl ?_
  refine ac_cvp (q := 20) (k_X3_part (d := d - 1) (w := 2) (by omega) hT9 hR9 hq (by decide)) ml_X3_54 (by assumption) dX3_regular_17 rfl rfl rfl (by omega) (Nat.le_of_ble_eq_true rfl) (Nat.zero_le _) (Nat.zero_le _) ?_
  refine ac_top (w' := (0, q.2.2.1)) rfl ?_
  refine ac_istore (q := 22) dX3_regular_20 rfl (Nat.le_of_ble_eq_true rfl) rfl rfl ?_
  simp only [List.set_cons_succ, List.set_cons_zero]
  refine ac_iload_n (q := 23) dX3_regular_22 rfl rfl ?_
  refine ac_iload_n (q := 24) dX3_regular_23 rfl rfl ?_
  refine ac_iadd (q := 25) dX3_regular_24 rfl ?_
  refine ac_if_eq (q := 28) (tgt := 51) dX3_regular_25 rfl rfl ⟨by omega, by omega⟩ (fun h25 => ?_) (fun h25 => ?_)
  · refine ac_iconst (q := 52) dX3_regular_51 rfl ?_
    refine ac_goto (q := 56) dX3_regular_52 rfl ?_
    refine ac_zreturn dX3_regular_56 rfl (by first | exact ac_b01 | omega) (Nat.zero_le _) (Nat.zero_le _) ?_
    first | exact ⟨ac_l1 (c := ac_reg q) (by unfold ac_reg; omega), rfl, rfl⟩ | exact ⟨ac_l0 (c := ac_reg q) (by unfold ac_reg; omega), rfl, rfl⟩
  · refine ac_iload_n (q := 29) dX3_regular_28 rfl rfl ?_
    refine ac_iload (q := 31) dX3_regular_29 rfl rfl ?_
    refine ac_isub (q := 32) dX3_regular_31 rfl ?_
    refine ac_if_eq (q := 35) (tgt := 51) dX3_regular_32 rfl rfl ⟨by omega, by omega⟩ (fun h32 => ?_) (fun h32 => ?_)
    · refine ac_iconst (q := 52) dX3_regular_51 rfl ?_
      refine ac_goto (q := 56) dX3_regular_52 rfl ?_
      refine ac_zreturn dX3_regular_56 rfl (by first | exact ac_b01 | omega) (Nat.zero_le _) (Nat.zero_le _) ?_
      first | exact ⟨ac_l1 (c := ac_reg q) (by unfold ac_reg; omega), rfl, rfl⟩ | exact ⟨ac_l0 (c := ac_reg q) (by unfold ac_reg; omega), rfl, rfl⟩
    · refine ac_iload_n (q := 36) dX3_regular_35 rfl rfl ?_
      refine ac_iload (q := 38) dX3_regular_36 rfl rfl ?_
      refine ac_isub (q := 39) dX3_regular_38 rfl ?_
      refine ac_if_eq (q := 42) (tgt := 51) dX3_regular_39 rfl rfl ⟨by omega, by omega⟩ (fun h39 => ?_) (fun h39 => ?_)
      · refine ac_iconst (q := 52) dX3_regular_51 rfl ?_
        refine ac_goto (q := 56) dX3_regular_52 rfl ?_
        refine ac_zreturn dX3_regular_56 rfl (by first | exact ac_b01 | omega) (Nat.zero_le _) (Nat.zero_le _) ?_
        first | exact ⟨ac_l1 (c := ac_reg q) (by unfold ac_reg; omega), rfl, rfl⟩ | exact ⟨ac_l0 (c := ac_reg q) (by unfold ac_reg; omega), rfl, rfl⟩
      · refine ac_iload_n (q := 43) dX3_regular_42 rfl rfl ?_
        refine ac_iload_n (q := 44) dX3_regular_43 rfl rfl ?_
        refine ac_iadd (q := 45) dX3_regular_44 rfl ?_
        refine ac_iload (q := 47) dX3_regular_45 rfl rfl ?_
        refine ac_isub (q := 48) dX3_regular_47 rfl ?_
        refine ac_if_ne (q := 51) (tgt := 55) dX3_regular_48 rfl rfl ⟨by omega, by omega⟩ (fun h48 => ?_) (fun h48 => ?_)
        · refine ac_iconst (q := 56) dX3_regular_55 rfl ?_
          refine ac_zreturn dX3_regular_56 rfl (by first | exact ac_b01 | omega) (Nat.zero_le _) (Nat.zero_le _) ?_
          first | exact ⟨ac_l1 (c := ac_reg q) (by unfold ac_reg; omega), rfl, rfl⟩ | exact ⟨ac_l0 (c := ac_reg q) (by unfold ac_reg; omega), rfl, rfl⟩
        · refine ac_iconst (q := 52) dX3_regular_51 rfl ?_
          refine ac_goto (q := 56) dX3_regular_52 rfl ?_
          refine ac_zreturn dX3_regular_56 rfl (by first | exact ac_b01 | omega) (Nat.zero_le _) (Nat.zero_le _) ?_
          first | exact ⟨ac_l1 (c := ac_reg q) (by unfold ac_reg; omega), rfl, rfl⟩ | exact ⟨ac_l0 (c := ac_reg q) (by unfold ac_reg; omega), rfl, rfl⟩

set_option maxHeartbeats 4000000 in
theorem k_X3_third {G : ac_G} {Y : ac_Y} {mm : ac_M} {d t e : Nat} {E : List ac_Eq} {q : ac_Eq} {x y u : Int} (hd : 1 ≤ d) (hT : ac_isT Y t) (rE : ac_E mm (t + 1) 0 E) (hE : ac_okE E) (hq : E[e]? = some q) (hx : 1 ≤ x ∧ x ≤ 10) (hy : 1 ≤ y ∧ y ≤ 10) (hu : 0 ≤ u ∧ u ≤ 10)   : ac_C G yX3_third cX3_third 10 (some .int) d 0 0 Y mm [(2, (t : Int)), (0, (e : Int)), (0, x), (0, y), (0, u)] (ac_R Y [(0, ac_th q x y u)] (fun m => m = mm)) := by
  obtain ⟨hk0, hk1, hk2, hk3, hr0, hr1, hr2⟩ := hT
  obtain ⟨hE1, hE2⟩ := hE
  obtain ⟨hx1, hx2⟩ := hx
  obtain ⟨hy1, hy2⟩ := hy
  obtain ⟨hu1, hu2⟩ := hu
  have he := (List.getElem?_eq_some_iff.mp hq).1
  obtain ⟨⟨⟨q1, q2⟩, -⟩, ⟨⟨q3, q4⟩, -⟩, ⟨⟨q5, q6⟩, q7⟩, q8⟩ := hE2 q (List.mem_of_getElem? hq)
  obtain ⟨b1, b2⟩ := ac_mul4 (x := x) q1 q2 (by omega) (by omega)
  obtain ⟨b3, b4⟩ := ac_mul4 (x := y) q3 q4 (by omega) (by omega)
  have hz := Int.natAbs_tdiv_le_natAbs (q.1 * x + q.2.1 * y) q.2.2.1
  refine ac_met (on := (RX3, "third")) rfl rfl (Nat.le_of_ble_eq_true rfl) (ls := [(2, (t : Int)), (0, (e : Int)), (0, x), (0, y), (0, u), (3, 0), (3, 0), (3, 0), (3, 0), (3, 0)]) rfl ?_
  refine ac_iload_n (q := 1) dX3_third_0 rfl rfl ?_
  refine ac_if_lt (q := 4) (tgt := 9) dX3_third_1 rfl rfl ⟨by omega, by omega⟩ (fun h1 => ?_) (fun h1 => ?_)
  · exfalso; omega
  · refine ac_iload_n (q := 5) dX3_third_4 rfl rfl ?_
    refine ac_iconst (q := 6) dX3_third_5 rfl ?_
    refine ac_icmp_lt (q := 9) (tgt := 11) dX3_third_6 rfl rfl ⟨by omega, by omega⟩ ⟨by omega, by omega⟩ (fun h6 => ?_) (fun h6 => ?_)
    · refine ac_iconst (q := 12) dX3_third_11 rfl ?_
      refine ac_iload_n (q := 13) dX3_third_12 rfl rfl ?_
      refine ac_imul (q := 14) dX3_third_13 rfl ?_
      refine ac_istore (q := 16) dX3_third_14 rfl (Nat.le_of_ble_eq_true rfl) rfl rfl ?_
      simp only [List.set_cons_succ, List.set_cons_zero]
      refine ac_aload_n (q := 17) dX3_third_16 rfl rfl ?_
      refine ac_get (q := 20) dX3_third_17 fl_X3_11 (by assumption) rfl (ac_rdr rfl (by assumption)) ?_
      refine ac_iload (q := 22) dX3_third_20 rfl rfl ?_
      refine ac_iconst (q := 23) dX3_third_22 rfl ?_
      refine ac_iadd (q := 24) dX3_third_23 rfl ?_
      refine ac_iaload (q := 25) (v := ac_qc q 2) dX3_third_24 (by assumption) (by decide) ⟨by omega, by omega⟩ rfl (ac_Eget rE hq (by decide) (by omega)) ?_
      refine ac_top (w' := (0, q.2.2.1)) rfl ?_
      refine ac_istore (q := 27) dX3_third_25 rfl (Nat.le_of_ble_eq_true rfl) rfl rfl ?_
      simp only [List.set_cons_succ, List.set_cons_zero]
      refine ac_aload_n (q := 28) dX3_third_27 rfl rfl ?_
      refine ac_get (q := 31) dX3_third_28 fl_X3_11 (by assumption) rfl (ac_rdr rfl (by assumption)) ?_
      refine ac_iload (q := 33) dX3_third_31 rfl rfl ?_
      refine ac_iaload (q := 34) (v := ac_qc q 0) dX3_third_33 (by assumption) (by decide) ⟨by omega, by omega⟩ rfl (ac_Eget rE hq (by decide) (by omega)) ?_
      refine ac_top (w' := (0, q.1)) rfl ?_
      refine ac_iload_n (q := 35) dX3_third_34 rfl rfl ?_
      refine ac_imul (q := 36) dX3_third_35 rfl ?_
      refine ac_aload_n (q := 37) dX3_third_36 rfl rfl ?_
      refine ac_get (q := 40) dX3_third_37 fl_X3_11 (by assumption) rfl (ac_rdr rfl (by assumption)) ?_
      refine ac_iload (q := 42) dX3_third_40 rfl rfl ?_
      refine ac_iconst (q := 43) dX3_third_42 rfl ?_
      refine ac_iadd (q := 44) dX3_third_43 rfl ?_
      refine ac_iaload (q := 45) (v := ac_qc q 1) dX3_third_44 (by assumption) (by decide) ⟨by omega, by omega⟩ rfl (ac_Eget rE hq (by decide) (by omega)) ?_
      refine ac_top (w' := (0, q.2.1)) rfl ?_
      refine ac_iload_n (q := 46) dX3_third_45 rfl rfl ?_
      refine ac_imul (q := 47) dX3_third_46 rfl ?_
      refine ac_iadd (q := 48) dX3_third_47 rfl ?_
      refine ac_istore (q := 50) dX3_third_48 rfl (Nat.le_of_ble_eq_true rfl) rfl rfl ?_
      simp only [List.set_cons_succ, List.set_cons_zero]
      refine ac_iload (q := 52) dX3_third_50 rfl rfl ?_
      refine ac_if_eq (q := 55) (tgt := 63) dX3_third_52 rfl rfl ⟨by omega, by omega⟩ (fun h52 => ?_) (fun h52 => ?_)
      · exfalso; omega
      · refine ac_iload (q := 57) dX3_third_55 rfl rfl ?_
        refine ac_iload (q := 59) dX3_third_57 rfl rfl ?_
        refine ac_irem (q := 60) dX3_third_59 rfl ⟨by omega, by omega⟩ ⟨by omega, by omega⟩ (by omega) (by omega) ?_
        refine ac_if_eq (q := 63) (tgt := 65) dX3_third_60 rfl rfl (ac_tmodin b1 b2 b3 b4) (fun h60 => ?_) (fun h60 => ?_)
        · refine ac_iload (q := 67) dX3_third_65 rfl rfl ?_
          refine ac_iload (q := 69) dX3_third_67 rfl rfl ?_
          refine ac_idiv (q := 70) dX3_third_69 rfl ⟨by omega, by omega⟩ ⟨by omega, by omega⟩ (by omega) (by omega) ?_
          refine ac_istore (q := 72) dX3_third_70 rfl (Nat.le_of_ble_eq_true rfl) rfl rfl ?_
          simp only [List.set_cons_succ, List.set_cons_zero]
          refine ac_iload_n (q := 73) dX3_third_72 rfl rfl ?_
          refine ac_iload_n (q := 74) dX3_third_73 rfl rfl ?_
          refine ac_icmp_eq (q := 77) (tgt := 89) dX3_third_74 rfl rfl ⟨by omega, by omega⟩ ⟨by omega, by omega⟩ (fun h74 => ?_) (fun h74 => ?_)
          · refine ac_iconst (q := 90) dX3_third_89 rfl ?_
            refine ac_goto (q := 94) dX3_third_90 rfl ?_
            refine ac_istore (q := 96) dX3_third_94 rfl (Nat.le_of_ble_eq_true rfl) rfl rfl ?_
            simp only [List.set_cons_succ, List.set_cons_zero]
            refine ac_iload (q := 98) dX3_third_96 rfl rfl ?_
            refine ac_iconst (q := 99) dX3_third_98 rfl ?_
            refine ac_icmp_lt (q := 102) (tgt := 127) dX3_third_99 rfl rfl ⟨by omega, by omega⟩ ⟨by omega, by omega⟩ (fun h99 => ?_) (fun h99 => ?_)
            · refine ac_iconst (q := 128) dX3_third_127 rfl ?_
              refine ac_ireturn dX3_third_128 rfl (Nat.zero_le _) (Nat.zero_le _) ?_
              first
                | (exfalso; omega)
                | exact ⟨congrArg (fun z => [((0 : Nat), z)]) (ac_th_a (by omega)), rfl, rfl⟩
                | exact ⟨congrArg (fun z => [((0 : Nat), z)]) (ac_th_b (by omega)), rfl, rfl⟩
                | exact ⟨congrArg (fun z => [((0 : Nat), z)]) (ac_th_c (by omega) (by omega) (by omega)), rfl, rfl⟩
            · refine ac_iload (q := 104) dX3_third_102 rfl rfl ?_
              refine ac_iload (q := 106) dX3_third_104 rfl rfl ?_
              refine ac_icmp_gt (q := 109) (tgt := 127) dX3_third_106 rfl rfl ⟨by omega, by omega⟩ ⟨by omega, by omega⟩ (fun h106 => ?_) (fun h106 => ?_)
              · refine ac_iconst (q := 128) dX3_third_127 rfl ?_
                refine ac_ireturn dX3_third_128 rfl (Nat.zero_le _) (Nat.zero_le _) ?_
                first
                  | (exfalso; omega)
                  | exact ⟨congrArg (fun z => [((0 : Nat), z)]) (ac_th_a (by omega)), rfl, rfl⟩
                  | exact ⟨congrArg (fun z => [((0 : Nat), z)]) (ac_th_b (by omega)), rfl, rfl⟩
                  | exact ⟨congrArg (fun z => [((0 : Nat), z)]) (ac_th_c (by omega) (by omega) (by omega)), rfl, rfl⟩
              · refine ac_iload (q := 111) dX3_third_109 rfl rfl ?_
                refine ac_if_eq (q := 114) (tgt := 129) dX3_third_111 rfl rfl ⟨by omega, by omega⟩ (fun h111 => ?_) (fun h111 => ?_)
                · exact absurd h111 (by decide)
                · refine ac_aload_n (q := 115) dX3_third_114 rfl rfl ?_
                  refine ac_get (q := 118) dX3_third_115 fl_X3_11 (by assumption) rfl (ac_rdr rfl (by assumption)) ?_
                  refine ac_iload (q := 120) dX3_third_118 rfl rfl ?_
                  refine ac_iconst (q := 121) dX3_third_120 rfl ?_
                  refine ac_iadd (q := 122) dX3_third_121 rfl ?_
                  refine ac_iaload (q := 123) (v := ac_qc q 3) dX3_third_122 (by assumption) (by decide) ⟨by omega, by omega⟩ rfl (ac_Eget rE hq (by decide) (by omega)) ?_
                  refine ac_top (w' := (0, q.2.2.2)) rfl ?_
                  refine ac_iconst (q := 124) dX3_third_123 rfl ?_
                  refine ac_icmp_ne (q := 127) (tgt := 129) dX3_third_124 rfl rfl ⟨by omega, by omega⟩ ⟨by omega, by omega⟩ (fun h124 => ?_) (fun h124 => ?_)
                  · refine ac_iload (q := 131) dX3_third_129 rfl rfl ?_
                    refine ac_ireturn dX3_third_131 rfl (Nat.zero_le _) (Nat.zero_le _) ?_
                    first
                      | (exfalso; omega)
                      | exact ⟨congrArg (fun z => [((0 : Nat), z)]) (ac_th_a (by omega)), rfl, rfl⟩
                      | exact ⟨congrArg (fun z => [((0 : Nat), z)]) (ac_th_b (by omega)), rfl, rfl⟩
                      | exact ⟨congrArg (fun z => [((0 : Nat), z)]) (ac_th_c (by omega) (by omega) (by omega)), rfl, rfl⟩
                  · refine ac_iconst (q := 128) dX3_third_127 rfl ?_
                    refine ac_ireturn dX3_third_128 rfl (Nat.zero_le _) (Nat.zero_le _) ?_
                    first
                      | (exfalso; omega)
                      | exact ⟨congrArg (fun z => [((0 : Nat), z)]) (ac_th_a (by omega)), rfl, rfl⟩
                      | exact ⟨congrArg (fun z => [((0 : Nat), z)]) (ac_th_b (by omega)), rfl, rfl⟩
                      | exact ⟨congrArg (fun z => [((0 : Nat), z)]) (ac_th_c (by omega) (by omega) (by omega)), rfl, rfl⟩
          · refine ac_iload_n (q := 78) dX3_third_77 rfl rfl ?_
            refine ac_iload (q := 80) dX3_third_78 rfl rfl ?_
            refine ac_icmp_eq (q := 83) (tgt := 89) dX3_third_80 rfl rfl ⟨by omega, by omega⟩ ⟨by omega, by omega⟩ (fun h80 => ?_) (fun h80 => ?_)
            · refine ac_iconst (q := 90) dX3_third_89 rfl ?_
              refine ac_goto (q := 94) dX3_third_90 rfl ?_
              refine ac_istore (q := 96) dX3_third_94 rfl (Nat.le_of_ble_eq_true rfl) rfl rfl ?_
              simp only [List.set_cons_succ, List.set_cons_zero]
              refine ac_iload (q := 98) dX3_third_96 rfl rfl ?_
              refine ac_iconst (q := 99) dX3_third_98 rfl ?_
              refine ac_icmp_lt (q := 102) (tgt := 127) dX3_third_99 rfl rfl ⟨by omega, by omega⟩ ⟨by omega, by omega⟩ (fun h99 => ?_) (fun h99 => ?_)
              · refine ac_iconst (q := 128) dX3_third_127 rfl ?_
                refine ac_ireturn dX3_third_128 rfl (Nat.zero_le _) (Nat.zero_le _) ?_
                first
                  | (exfalso; omega)
                  | exact ⟨congrArg (fun z => [((0 : Nat), z)]) (ac_th_a (by omega)), rfl, rfl⟩
                  | exact ⟨congrArg (fun z => [((0 : Nat), z)]) (ac_th_b (by omega)), rfl, rfl⟩
                  | exact ⟨congrArg (fun z => [((0 : Nat), z)]) (ac_th_c (by omega) (by omega) (by omega)), rfl, rfl⟩
              · refine ac_iload (q := 104) dX3_third_102 rfl rfl ?_
                refine ac_iload (q := 106) dX3_third_104 rfl rfl ?_
                refine ac_icmp_gt (q := 109) (tgt := 127) dX3_third_106 rfl rfl ⟨by omega, by omega⟩ ⟨by omega, by omega⟩ (fun h106 => ?_) (fun h106 => ?_)
                · refine ac_iconst (q := 128) dX3_third_127 rfl ?_
                  refine ac_ireturn dX3_third_128 rfl (Nat.zero_le _) (Nat.zero_le _) ?_
                  first
                    | (exfalso; omega)
                    | exact ⟨congrArg (fun z => [((0 : Nat), z)]) (ac_th_a (by omega)), rfl, rfl⟩
                    | exact ⟨congrArg (fun z => [((0 : Nat), z)]) (ac_th_b (by omega)), rfl, rfl⟩
                    | exact ⟨congrArg (fun z => [((0 : Nat), z)]) (ac_th_c (by omega) (by omega) (by omega)), rfl, rfl⟩
                · refine ac_iload (q := 111) dX3_third_109 rfl rfl ?_
                  refine ac_if_eq (q := 114) (tgt := 129) dX3_third_111 rfl rfl ⟨by omega, by omega⟩ (fun h111 => ?_) (fun h111 => ?_)
                  · exact absurd h111 (by decide)
                  · refine ac_aload_n (q := 115) dX3_third_114 rfl rfl ?_
                    refine ac_get (q := 118) dX3_third_115 fl_X3_11 (by assumption) rfl (ac_rdr rfl (by assumption)) ?_
                    refine ac_iload (q := 120) dX3_third_118 rfl rfl ?_
                    refine ac_iconst (q := 121) dX3_third_120 rfl ?_
                    refine ac_iadd (q := 122) dX3_third_121 rfl ?_
                    refine ac_iaload (q := 123) (v := ac_qc q 3) dX3_third_122 (by assumption) (by decide) ⟨by omega, by omega⟩ rfl (ac_Eget rE hq (by decide) (by omega)) ?_
                    refine ac_top (w' := (0, q.2.2.2)) rfl ?_
                    refine ac_iconst (q := 124) dX3_third_123 rfl ?_
                    refine ac_icmp_ne (q := 127) (tgt := 129) dX3_third_124 rfl rfl ⟨by omega, by omega⟩ ⟨by omega, by omega⟩ (fun h124 => ?_) (fun h124 => ?_)
                    · refine ac_iload (q := 131) dX3_third_129 rfl rfl ?_
                      refine ac_ireturn dX3_third_131 rfl (Nat.zero_le _) (Nat.zero_le _) ?_
                      first
                        | (exfalso; omega)
                        | exact ⟨congrArg (fun z => [((0 : Nat), z)]) (ac_th_a (by omega)), rfl, rfl⟩
                        | exact ⟨congrArg (fun z => [((0 : Nat), z)]) (ac_th_b (by omega)), rfl, rfl⟩
                        | exact ⟨congrArg (fun z => [((0 : Nat), z)]) (ac_th_c (by omega) (by omega) (by omega)), rfl, rfl⟩
                    · refine ac_iconst (q := 128) dX3_third_127 rfl ?_
                      refine ac_ireturn dX3_third_128 rfl (Nat.zero_le _) (Nat.zero_le _) ?_
                      first
                        | (exfalso; omega)
                        | exact ⟨congrArg (fun z => [((0 : Nat), z)]) (ac_th_a (by omega)), rfl, rfl⟩
                        | exact ⟨congrArg (fun z => [((0 : Nat), z)]) (ac_th_b (by omega)), rfl, rfl⟩
                        | exact ⟨congrArg (fun z => [((0 : Nat), z)]) (ac_th_c (by omega) (by omega) (by omega)), rfl, rfl⟩
            · refine ac_iload_n (q := 84) dX3_third_83 rfl rfl ?_
              refine ac_iload (q := 86) dX3_third_84 rfl rfl ?_
              refine ac_icmp_ne (q := 89) (tgt := 93) dX3_third_86 rfl rfl ⟨by omega, by omega⟩ ⟨by omega, by omega⟩ (fun h86 => ?_) (fun h86 => ?_)
              · refine ac_iconst (q := 94) dX3_third_93 rfl ?_
                refine ac_istore (q := 96) dX3_third_94 rfl (Nat.le_of_ble_eq_true rfl) rfl rfl ?_
                simp only [List.set_cons_succ, List.set_cons_zero]
                refine ac_iload (q := 98) dX3_third_96 rfl rfl ?_
                refine ac_iconst (q := 99) dX3_third_98 rfl ?_
                refine ac_icmp_lt (q := 102) (tgt := 127) dX3_third_99 rfl rfl ⟨by omega, by omega⟩ ⟨by omega, by omega⟩ (fun h99 => ?_) (fun h99 => ?_)
                · refine ac_iconst (q := 128) dX3_third_127 rfl ?_
                  refine ac_ireturn dX3_third_128 rfl (Nat.zero_le _) (Nat.zero_le _) ?_
                  first
                    | (exfalso; omega)
                    | exact ⟨congrArg (fun z => [((0 : Nat), z)]) (ac_th_a (by omega)), rfl, rfl⟩
                    | exact ⟨congrArg (fun z => [((0 : Nat), z)]) (ac_th_b (by omega)), rfl, rfl⟩
                    | exact ⟨congrArg (fun z => [((0 : Nat), z)]) (ac_th_c (by omega) (by omega) (by omega)), rfl, rfl⟩
                · refine ac_iload (q := 104) dX3_third_102 rfl rfl ?_
                  refine ac_iload (q := 106) dX3_third_104 rfl rfl ?_
                  refine ac_icmp_gt (q := 109) (tgt := 127) dX3_third_106 rfl rfl ⟨by omega, by omega⟩ ⟨by omega, by omega⟩ (fun h106 => ?_) (fun h106 => ?_)
                  · refine ac_iconst (q := 128) dX3_third_127 rfl ?_
                    refine ac_ireturn dX3_third_128 rfl (Nat.zero_le _) (Nat.zero_le _) ?_
                    first
                      | (exfalso; omega)
                      | exact ⟨congrArg (fun z => [((0 : Nat), z)]) (ac_th_a (by omega)), rfl, rfl⟩
                      | exact ⟨congrArg (fun z => [((0 : Nat), z)]) (ac_th_b (by omega)), rfl, rfl⟩
                      | exact ⟨congrArg (fun z => [((0 : Nat), z)]) (ac_th_c (by omega) (by omega) (by omega)), rfl, rfl⟩
                  · refine ac_iload (q := 111) dX3_third_109 rfl rfl ?_
                    refine ac_if_eq (q := 114) (tgt := 129) dX3_third_111 rfl rfl ⟨by omega, by omega⟩ (fun h111 => ?_) (fun h111 => ?_)
                    · refine ac_iload (q := 131) dX3_third_129 rfl rfl ?_
                      refine ac_ireturn dX3_third_131 rfl (Nat.zero_le _) (Nat.zero_le _) ?_
                      first
                        | (exfalso; omega)
                        | exact ⟨congrArg (fun z => [((0 : Nat), z)]) (ac_th_a (by omega)), rfl, rfl⟩
                        | exact ⟨congrArg (fun z => [((0 : Nat), z)]) (ac_th_b (by omega)), rfl, rfl⟩
                        | exact ⟨congrArg (fun z => [((0 : Nat), z)]) (ac_th_c (by omega) (by omega) (by omega)), rfl, rfl⟩
                    · exact absurd h111 (by decide)
              · refine ac_iconst (q := 90) dX3_third_89 rfl ?_
                refine ac_goto (q := 94) dX3_third_90 rfl ?_
                refine ac_istore (q := 96) dX3_third_94 rfl (Nat.le_of_ble_eq_true rfl) rfl rfl ?_
                simp only [List.set_cons_succ, List.set_cons_zero]
                refine ac_iload (q := 98) dX3_third_96 rfl rfl ?_
                refine ac_iconst (q := 99) dX3_third_98 rfl ?_
                refine ac_icmp_lt (q := 102) (tgt := 127) dX3_third_99 rfl rfl ⟨by omega, by omega⟩ ⟨by omega, by omega⟩ (fun h99 => ?_) (fun h99 => ?_)
                · refine ac_iconst (q := 128) dX3_third_127 rfl ?_
                  refine ac_ireturn dX3_third_128 rfl (Nat.zero_le _) (Nat.zero_le _) ?_
                  first
                    | (exfalso; omega)
                    | exact ⟨congrArg (fun z => [((0 : Nat), z)]) (ac_th_a (by omega)), rfl, rfl⟩
                    | exact ⟨congrArg (fun z => [((0 : Nat), z)]) (ac_th_b (by omega)), rfl, rfl⟩
                    | exact ⟨congrArg (fun z => [((0 : Nat), z)]) (ac_th_c (by omega) (by omega) (by omega)), rfl, rfl⟩
                · refine ac_iload (q := 104) dX3_third_102 rfl rfl ?_
                  refine ac_iload (q := 106) dX3_third_104 rfl rfl ?_
                  refine ac_icmp_gt (q := 109) (tgt := 127) dX3_third_106 rfl rfl ⟨by omega, by omega⟩ ⟨by omega, by omega⟩ (fun h106 => ?_) (fun h106 => ?_)
                  · refine ac_iconst (q := 128) dX3_third_127 rfl ?_
                    refine ac_ireturn dX3_third_128 rfl (Nat.zero_le _) (Nat.zero_le _) ?_
                    first
                      | (exfalso; omega)
                      | exact ⟨congrArg (fun z => [((0 : Nat), z)]) (ac_th_a (by omega)), rfl, rfl⟩
                      | exact ⟨congrArg (fun z => [((0 : Nat), z)]) (ac_th_b (by omega)), rfl, rfl⟩
                      | exact ⟨congrArg (fun z => [((0 : Nat), z)]) (ac_th_c (by omega) (by omega) (by omega)), rfl, rfl⟩
                  · refine ac_iload (q := 111) dX3_third_109 rfl rfl ?_
                    refine ac_if_eq (q := 114) (tgt := 129) dX3_third_111 rfl rfl ⟨by omega, by omega⟩ (fun h111 => ?_) (fun h111 => ?_)
                    · exact absurd h111 (by decide)
                    · refine ac_aload_n (q := 115) dX3_third_114 rfl rfl ?_
                      refine ac_get (q := 118) dX3_third_115 fl_X3_11 (by assumption) rfl (ac_rdr rfl (by assumption)) ?_
                      refine ac_iload (q := 120) dX3_third_118 rfl rfl ?_
                      refine ac_iconst (q := 121) dX3_third_120 rfl ?_
                      refine ac_iadd (q := 122) dX3_third_121 rfl ?_
                      refine ac_iaload (q := 123) (v := ac_qc q 3) dX3_third_122 (by assumption) (by decide) ⟨by omega, by omega⟩ rfl (ac_Eget rE hq (by decide) (by omega)) ?_
                      refine ac_top (w' := (0, q.2.2.2)) rfl ?_
                      refine ac_iconst (q := 124) dX3_third_123 rfl ?_
                      refine ac_icmp_ne (q := 127) (tgt := 129) dX3_third_124 rfl rfl ⟨by omega, by omega⟩ ⟨by omega, by omega⟩ (fun h124 => ?_) (fun h124 => ?_)
                      · refine ac_iload (q := 131) dX3_third_129 rfl rfl ?_
                        refine ac_ireturn dX3_third_131 rfl (Nat.zero_le _) (Nat.zero_le _) ?_
                        first
                          | (exfalso; omega)
                          | exact ⟨congrArg (fun z => [((0 : Nat), z)]) (ac_th_a (by omega)), rfl, rfl⟩
                          | exact ⟨congrArg (fun z => [((0 : Nat), z)]) (ac_th_b (by omega)), rfl, rfl⟩
                          | exact ⟨congrArg (fun z => [((0 : Nat), z)]) (ac_th_c (by omega) (by omega) (by omega)), rfl, rfl⟩
                      · refine ac_iconst (q := 128) dX3_third_127 rfl ?_
                        refine ac_ireturn dX3_third_128 rfl (Nat.zero_le _) (Nat.zero_le _) ?_
                        first
                          | (exfalso; omega)
                          | exact ⟨congrArg (fun z => [((0 : Nat), z)]) (ac_th_a (by omega)), rfl, rfl⟩
                          | exact ⟨congrArg (fun z => [((0 : Nat), z)]) (ac_th_b (by omega)), rfl, rfl⟩
                          | exact ⟨congrArg (fun z => [((0 : Nat), z)]) (ac_th_c (by omega) (by omega) (by omega)), rfl, rfl⟩
        · refine ac_iconst (q := 64) dX3_third_63 rfl ?_
          refine ac_ireturn dX3_third_64 rfl (Nat.zero_le _) (Nat.zero_le _) ?_
          first
            | (exfalso; omega)
            | exact ⟨congrArg (fun z => [((0 : Nat), z)]) (ac_th_a (by omega)), rfl, rfl⟩
            | exact ⟨congrArg (fun z => [((0 : Nat), z)]) (ac_th_b (by omega)), rfl, rfl⟩
            | exact ⟨congrArg (fun z => [((0 : Nat), z)]) (ac_th_c (by omega) (by omega) (by omega)), rfl, rfl⟩
    · exfalso; omega

set_option maxHeartbeats 4000000 in
theorem k_X3_solutions {G : ac_G} {Y : ac_Y} {mm : ac_M} {d t n k : Nat} {E : List ac_Eq} {pin : Nat → Int} {col : Option (List Nat)} (hd : 2 ≤ d) (hT : ac_isT Y t) (hR : ac_RT mm t n k E pin col) {e : Nat} {q : ac_Eq} (hq : E[e]? = some q) : ac_C G yX3_solutions cX3_solutions 5 (some .int) d 0 0 Y mm [(2, (t : Int)), (0, (e : Int))] (ac_R Y [(0, ((ac_sols q n).length : Int))] (fun m => m = mm)) := by
  have hT9 := hT
  have hR9 := hR
  obtain ⟨hk0, hk1, hk2, hk3, hr0, hr1, hr2⟩ := hT
  obtain ⟨⟨⟨hn1, hn2⟩, ⟨hkk1, hkk2⟩, ⟨hE1, hE2⟩, hp0, hpr, hc0⟩, r3, r4, r5, r6, rE, rp, rcb, rc⟩ := hR
  refine ac_met (on := (RX3, "solutions")) rfl rfl (Nat.le_of_ble_eq_true rfl) (ls := [(2, (t : Int)), (0, (e : Int)), (3, 0), (3, 0), (3, 0)]) rfl ?_
  have inner : ∀ (r f x : Nat), r ≤ n → 1 ≤ x → x ≤ n → ac_V G (RX3, "solutions") cX3_solutions 5 (some .int) d 0 0 (ac_R Y [(0, ((ac_sols q n).length : Int))] (fun m => m = mm)) 0 0 Y mm 48 [(2, (t : Int)), (0, (e : Int)), (0, ((f + (ac_ry q n x r).length : Nat) : Int)), (0, (x : Int)), (3, 0)] [] → ac_V G (RX3, "solutions") cX3_solutions 5 (some .int) d 0 0 (ac_R Y [(0, ((ac_sols q n).length : Int))] (fun m => m = mm)) 0 0 Y mm 15 [(2, (t : Int)), (0, (e : Int)), (0, (f : Int)), (0, (x : Int)), (0, ((n + 1 - r : Nat) : Int))] [] := by
    intro r
    induction r with
    | zero =>
      intro f x hr hx1 hx2 hK
      refine ac_iload (q := 17) dX3_solutions_15 rfl rfl ?_
      refine ac_aload_n (q := 18) dX3_solutions_17 rfl rfl ?_
      refine ac_get (q := 21) dX3_solutions_18 fl_X3_21 (by assumption) rfl (ac_rdi rfl r3) ?_
      refine ac_icmp_gt (q := 24) (tgt := 48) dX3_solutions_21 rfl rfl ⟨by omega, by omega⟩ ⟨by omega, by omega⟩ (fun h21 => ?_) (fun h21 => ?_)
      · refine ac_drop [(2, (t : Int)), (0, (e : Int)), (0, (f : Int)), (0, (x : Int)), (3, 0)] (by repeat (first | exact trivial | refine ⟨Or.inl rfl, ?_⟩ | refine ⟨Or.inr rfl, ?_⟩)) ?_
        exact hK
      · exfalso; omega
    | succ r ih =>
      intro f x hr hx1 hx2 hK
      have hth := ac_th_in q x ((n - r : Nat) : Int) n (by omega)
      rw [show n + 1 - (r + 1) = n - r by omega]
      have ey : ((n - r : Nat) : Int) + 1 = ((n + 1 - r : Nat) : Int) := by omega
      refine ac_iload (q := 17) dX3_solutions_15 rfl rfl ?_
      refine ac_aload_n (q := 18) dX3_solutions_17 rfl rfl ?_
      refine ac_get (q := 21) dX3_solutions_18 fl_X3_21 (by assumption) rfl (ac_rdi rfl r3) ?_
      refine ac_icmp_gt (q := 24) (tgt := 48) dX3_solutions_21 rfl rfl ⟨by omega, by omega⟩ ⟨by omega, by omega⟩ (fun h21 => ?_) (fun h21 => ?_)
      · exfalso; omega
      · refine ac_aload_n (q := 25) dX3_solutions_24 rfl rfl ?_
        refine ac_iload_n (q := 26) dX3_solutions_25 rfl rfl ?_
        refine ac_iload_n (q := 27) dX3_solutions_26 rfl rfl ?_
        refine ac_iload (q := 29) dX3_solutions_27 rfl rfl ?_
        refine ac_aload_n (q := 30) dX3_solutions_29 rfl rfl ?_
        refine ac_get (q := 33) dX3_solutions_30 fl_X3_21 (by assumption) rfl (ac_rdi rfl r3) ?_
        refine ac_cvp (q := 36) (k_X3_third (d := d - 1) (u := (n : Int)) (by omega) hT9 rE ⟨hE1, hE2⟩ hq ⟨by omega, by omega⟩ ⟨by omega, by omega⟩ ⟨by omega, by omega⟩) ml_X3_58 (by assumption) dX3_solutions_33 rfl rfl rfl (by omega) (Nat.le_of_ble_eq_true rfl) (Nat.zero_le _) (Nat.zero_le _) ?_
        refine ac_if_le (q := 39) (tgt := 42) dX3_solutions_36 rfl rfl ⟨by omega, by omega⟩ (fun h36 => ?_) (fun h36 => ?_)
        · rw [show (ac_ry q n x (r + 1)).length = (ac_ry q n x r).length by rw [ac_ry, if_neg (by omega)]; rfl] at hK
          refine ac_iinc (q := 45) dX3_solutions_42 rfl (Nat.le_of_ble_eq_true rfl) rfl rfl rfl rfl ?_
          simp only [List.set_cons_succ, List.set_cons_zero]
          refine ac_goto (q := 15) dX3_solutions_45 rfl ?_
          first
            | exact ac_ls (by rw [ey]) (ih f x (by omega) hx1 hx2 hK)
            | exact ac_ls (by rw [ey]; rfl) (ih (f + 1) x (by omega) hx1 hx2 hK)
        · rw [show (ac_ry q n x (r + 1)).length = (ac_ry q n x r).length + 1 by rw [ac_ry, if_pos (by omega)]; simp [Nat.add_comm], show f + ((ac_ry q n x r).length + 1) = f + 1 + (ac_ry q n x r).length by omega] at hK
          refine ac_iinc (q := 42) dX3_solutions_39 rfl (Nat.le_of_ble_eq_true rfl) rfl rfl rfl rfl ?_
          simp only [List.set_cons_succ, List.set_cons_zero]
          refine ac_iinc (q := 45) dX3_solutions_42 rfl (Nat.le_of_ble_eq_true rfl) rfl rfl rfl rfl ?_
          simp only [List.set_cons_succ, List.set_cons_zero]
          refine ac_goto (q := 15) dX3_solutions_45 rfl ?_
          first
            | exact ac_ls (by rw [ey]) (ih f x (by omega) hx1 hx2 hK)
            | exact ac_ls (by rw [ey]; rfl) (ih (f + 1) x (by omega) hx1 hx2 hK)
  have outer : ∀ (r f : Nat), r ≤ n → f + (ac_rx q n r).length = (ac_sols q n).length → ac_V G (RX3, "solutions") cX3_solutions 5 (some .int) d 0 0 (ac_R Y [(0, ((ac_sols q n).length : Int))] (fun m => m = mm)) 0 0 Y mm 4 [(2, (t : Int)), (0, (e : Int)), (0, (f : Int)), (0, ((n + 1 - r : Nat) : Int)), (3, 0)] [] := by
    intro r
    induction r with
    | zero =>
      intro f hr hf
      refine ac_iload_n (q := 5) dX3_solutions_4 rfl rfl ?_
      refine ac_aload_n (q := 6) dX3_solutions_5 rfl rfl ?_
      refine ac_get (q := 9) dX3_solutions_6 fl_X3_21 (by assumption) rfl (ac_rdi rfl r3) ?_
      refine ac_icmp_gt (q := 12) (tgt := 54) dX3_solutions_9 rfl rfl ⟨by omega, by omega⟩ ⟨by omega, by omega⟩ (fun h9 => ?_) (fun h9 => ?_)
      · refine ac_iload_n (q := 55) dX3_solutions_54 rfl rfl ?_
        refine ac_ireturn dX3_solutions_55 rfl (Nat.zero_le _) (Nat.zero_le _) ?_
        exact ⟨by rw [← hf]; rfl, rfl, rfl⟩
      · exfalso; omega
    | succ r ih =>
      intro f hr hf
      rw [show n + 1 - (r + 1) = n - r by omega]
      have ex : ((n - r : Nat) : Int) + 1 = ((n + 1 - r : Nat) : Int) := by omega
      rw [ac_rx, List.length_append] at hf
      refine ac_iload_n (q := 5) dX3_solutions_4 rfl rfl ?_
      refine ac_aload_n (q := 6) dX3_solutions_5 rfl rfl ?_
      refine ac_get (q := 9) dX3_solutions_6 fl_X3_21 (by assumption) rfl (ac_rdi rfl r3) ?_
      refine ac_icmp_gt (q := 12) (tgt := 54) dX3_solutions_9 rfl rfl ⟨by omega, by omega⟩ ⟨by omega, by omega⟩ (fun h9 => ?_) (fun h9 => ?_)
      · exfalso; omega
      · refine ac_iconst (q := 13) dX3_solutions_12 rfl ?_
        refine ac_istore (q := 15) dX3_solutions_13 rfl (Nat.le_of_ble_eq_true rfl) rfl rfl ?_
        simp only [List.set_cons_succ, List.set_cons_zero]
        refine ac_ls (by rw [show (1 : Int) = ((n + 1 - n : Nat) : Int) by omega]) (inner n f (n - r) (Nat.le_refl _) (by omega) (by omega) ?_)
        refine ac_iinc (q := 51) dX3_solutions_48 rfl (Nat.le_of_ble_eq_true rfl) rfl rfl rfl rfl ?_
        simp only [List.set_cons_succ, List.set_cons_zero]
        refine ac_goto (q := 4) dX3_solutions_51 rfl ?_
        exact ac_ls (by rw [ex]) (ih _ (by omega) (by omega))
  refine ac_iconst (q := 1) dX3_solutions_0 rfl ?_
  refine ac_istore_n (q := 2) (j := 2) rfl dX3_solutions_1 rfl (Nat.le_of_ble_eq_true rfl) rfl rfl ?_
  simp only [List.set_cons_succ, List.set_cons_zero]
  refine ac_iconst (q := 3) dX3_solutions_2 rfl ?_
  refine ac_istore_n (q := 4) (j := 3) rfl dX3_solutions_3 rfl (Nat.le_of_ble_eq_true rfl) rfl rfl ?_
  simp only [List.set_cons_succ, List.set_cons_zero]
  exact ac_ls (by rw [show (1 : Int) = ((n + 1 - n : Nat) : Int) by omega]; rfl) (outer n 0 (Nat.le_refl _) (by unfold ac_sols; omega))

set_option maxHeartbeats 4000000 in
theorem k_X3_solutionAt {G : ac_G} {Y : ac_Y} {mm : ac_M} {d t n k : Nat} {E : List ac_Eq} {pin : Nat → Int} {col : Option (List Nat)} (hd : 2 ≤ d) (hT : ac_isT Y t) (hR : ac_RT mm t n k E pin col) {e : Nat} {q : ac_Eq} {i : Int} (hq : E[e]? = some q) (hi : ac_in i) : ac_C G yX3_solutionAt cX3_solutionAt 7 (some .int) d 0 0 Y mm [(2, (t : Int)), (0, (e : Int)), (0, i)] (ac_R Y [(0, ac_nth (ac_sols q n) i)] (fun m => m = mm)) := by
  have hT9 := hT
  have hR9 := hR
  obtain ⟨hk0, hk1, hk2, hk3, hr0, hr1, hr2⟩ := hT
  obtain ⟨⟨⟨hn1, hn2⟩, ⟨hkk1, hkk2⟩, ⟨hE1, hE2⟩, hp0, hpr, hc0⟩, r3, r4, r5, r6, rE, rp, rcb, rc⟩ := hR
  obtain ⟨hi1, hi2⟩ := hi
  refine ac_met (on := (RX3, "solutionAt")) rfl rfl (Nat.le_of_ble_eq_true rfl) (ls := [(2, (t : Int)), (0, (e : Int)), (0, i), (3, 0), (3, 0), (3, 0), (3, 0)]) rfl ?_
  have inner : ∀ (r f x B : Nat) (rest : List Int), r ≤ n → 1 ≤ x → x ≤ n → (i < 0 ∨ (f : Int) ≤ i) → f + r ≤ B → B ≤ 200 → ac_nth (ac_sols q n) i = ac_nth (ac_ry q n x r ++ rest) (i - f) → (∀ f : Nat, (i < 0 ∨ (f : Int) ≤ i) → f ≤ B → ac_nth (ac_sols q n) i = ac_nth rest (i - f) → ac_V G (RX3, "solutionAt") cX3_solutionAt 7 (some .int) d 0 0 (ac_R Y [(0, ac_nth (ac_sols q n) i)] (fun m => m = mm)) 0 0 Y mm 76 [(2, (t : Int)), (0, (e : Int)), (0, i), (0, (f : Int)), (0, (x : Int)), (3, 0), (3, 0)] []) → ac_V G (RX3, "solutionAt") cX3_solutionAt 7 (some .int) d 0 0 (ac_R Y [(0, ac_nth (ac_sols q n) i)] (fun m => m = mm)) 0 0 Y mm 17 [(2, (t : Int)), (0, (e : Int)), (0, i), (0, (f : Int)), (0, (x : Int)), (0, ((n + 1 - r : Nat) : Int)), (3, 0)] [] := by
    intro r
    induction r with
    | zero =>
      intro f x B rest hr hx1 hx2 hfi hf2 hB hres hK
      refine ac_iload (q := 19) dX3_solutionAt_17 rfl rfl ?_
      refine ac_aload_n (q := 20) dX3_solutionAt_19 rfl rfl ?_
      refine ac_get (q := 23) dX3_solutionAt_20 fl_X3_21 (by assumption) rfl (ac_rdi rfl r3) ?_
      refine ac_icmp_gt (q := 26) (tgt := 76) dX3_solutionAt_23 rfl rfl ⟨by omega, by omega⟩ ⟨by omega, by omega⟩ (fun h23 => ?_) (fun h23 => ?_)
      · refine ac_drop [(2, (t : Int)), (0, (e : Int)), (0, i), (0, (f : Int)), (0, (x : Int)), (3, 0), (3, 0)] (by repeat (first | exact trivial | refine ⟨Or.inl rfl, ?_⟩ | refine ⟨Or.inr rfl, ?_⟩)) ?_
        exact hK f hfi (by omega) hres
      · exfalso; omega
    | succ r ih =>
      intro f x B rest hr hx1 hx2 hfi hf2 hB hres hK
      have hth := ac_th_in q x ((n - r : Nat) : Int) n (by omega)
      rw [show n + 1 - (r + 1) = n - r by omega]
      have ey : ((n - r : Nat) : Int) + 1 = ((n + 1 - r : Nat) : Int) := by omega
      rw [ac_ry] at hres
      refine ac_iload (q := 19) dX3_solutionAt_17 rfl rfl ?_
      refine ac_aload_n (q := 20) dX3_solutionAt_19 rfl rfl ?_
      refine ac_get (q := 23) dX3_solutionAt_20 fl_X3_21 (by assumption) rfl (ac_rdi rfl r3) ?_
      refine ac_icmp_gt (q := 26) (tgt := 76) dX3_solutionAt_23 rfl rfl ⟨by omega, by omega⟩ ⟨by omega, by omega⟩ (fun h23 => ?_) (fun h23 => ?_)
      · exfalso; omega
      · refine ac_aload_n (q := 27) dX3_solutionAt_26 rfl rfl ?_
        refine ac_iload_n (q := 28) dX3_solutionAt_27 rfl rfl ?_
        refine ac_iload (q := 30) dX3_solutionAt_28 rfl rfl ?_
        refine ac_iload (q := 32) dX3_solutionAt_30 rfl rfl ?_
        refine ac_aload_n (q := 33) dX3_solutionAt_32 rfl rfl ?_
        refine ac_get (q := 36) dX3_solutionAt_33 fl_X3_21 (by assumption) rfl (ac_rdi rfl r3) ?_
        refine ac_cvp (q := 39) (k_X3_third (d := d - 1) (u := (n : Int)) (by omega) hT9 rE ⟨hE1, hE2⟩ hq ⟨by omega, by omega⟩ ⟨by omega, by omega⟩ ⟨by omega, by omega⟩) ml_X3_58 (by assumption) dX3_solutionAt_36 rfl rfl rfl (by omega) (Nat.le_of_ble_eq_true rfl) (Nat.zero_le _) (Nat.zero_le _) ?_
        refine ac_istore (q := 41) dX3_solutionAt_39 rfl (Nat.le_of_ble_eq_true rfl) rfl rfl ?_
        simp only [List.set_cons_succ, List.set_cons_zero]
        refine ac_iload (q := 43) dX3_solutionAt_41 rfl rfl ?_
        refine ac_if_le (q := 46) (tgt := 70) dX3_solutionAt_43 rfl rfl ⟨by omega, by omega⟩ (fun h43 => ?_) (fun h43 => ?_)
        · rw [if_neg (by omega), List.nil_append] at hres
          refine ac_iinc (q := 73) dX3_solutionAt_70 rfl (Nat.le_of_ble_eq_true rfl) rfl rfl rfl rfl ?_
          simp only [List.set_cons_succ, List.set_cons_zero]
          refine ac_goto (q := 17) dX3_solutionAt_73 rfl ?_
          refine ac_drop [(2, (t : Int)), (0, (e : Int)), (0, i), (0, _), (0, _), (0, ((n - r : Nat) : Int) + 1), (3, 0)] (by repeat (first | exact trivial | refine ⟨Or.inl rfl, ?_⟩ | refine ⟨Or.inr rfl, ?_⟩)) ?_
          first
            | exact ac_ls (by rw [ey]) (ih f x B rest (by omega) hx1 hx2 hfi (by omega) hB hres hK)
            | exact ac_ls (by rw [ey]; rfl) (ih (f + 1) x B rest (by omega) hx1 hx2 (by omega) (by omega) hB (by rw [hres, ac_nth_s (by omega), show i - (f : Int) - 1 = i - ((f + 1 : Nat) : Int) by omega]) hK)
        · rw [if_pos (by omega), List.append_assoc, List.singleton_append] at hres
          refine ac_iload_n (q := 47) dX3_solutionAt_46 rfl rfl ?_
          refine ac_iload_n (q := 48) dX3_solutionAt_47 rfl rfl ?_
          refine ac_icmp_ne (q := 51) (tgt := 67) dX3_solutionAt_48 rfl rfl ⟨by omega, by omega⟩ ⟨by omega, by omega⟩ (fun h48 => ?_) (fun h48 => ?_)
          · refine ac_iinc (q := 70) dX3_solutionAt_67 rfl (Nat.le_of_ble_eq_true rfl) rfl rfl rfl rfl ?_
            simp only [List.set_cons_succ, List.set_cons_zero]
            refine ac_iinc (q := 73) dX3_solutionAt_70 rfl (Nat.le_of_ble_eq_true rfl) rfl rfl rfl rfl ?_
            simp only [List.set_cons_succ, List.set_cons_zero]
            refine ac_goto (q := 17) dX3_solutionAt_73 rfl ?_
            refine ac_drop [(2, (t : Int)), (0, (e : Int)), (0, i), (0, _), (0, _), (0, ((n - r : Nat) : Int) + 1), (3, 0)] (by repeat (first | exact trivial | refine ⟨Or.inl rfl, ?_⟩ | refine ⟨Or.inr rfl, ?_⟩)) ?_
            first
              | exact ac_ls (by rw [ey]) (ih f x B rest (by omega) hx1 hx2 hfi (by omega) hB hres hK)
              | exact ac_ls (by rw [ey]; rfl) (ih (f + 1) x B rest (by omega) hx1 hx2 (by omega) (by omega) hB (by rw [hres, ac_nth_s (by omega), show i - (f : Int) - 1 = i - ((f + 1 : Nat) : Int) by omega]) hK)
          · refine ac_sipush (q := 54) dX3_solutionAt_51 rfl (by decide) ?_
            refine ac_iload (q := 56) dX3_solutionAt_54 rfl rfl ?_
            refine ac_imul (q := 57) dX3_solutionAt_56 rfl ?_
            refine ac_bipush (q := 59) dX3_solutionAt_57 rfl (by decide) ?_
            refine ac_iload (q := 61) dX3_solutionAt_59 rfl rfl ?_
            refine ac_imul (q := 62) dX3_solutionAt_61 rfl ?_
            refine ac_iadd (q := 63) dX3_solutionAt_62 rfl ?_
            refine ac_iload (q := 65) dX3_solutionAt_63 rfl rfl ?_
            refine ac_iadd (q := 66) dX3_solutionAt_65 rfl ?_
            refine ac_ireturn dX3_solutionAt_66 rfl (Nat.zero_le _) (Nat.zero_le _) ?_
            refine ⟨?_, rfl, rfl⟩
            rw [hres, show i - (f : Int) = 0 by omega]
            show _ = [((0 : Nat), 10000 * (x : Int) + 100 * ((n - r : Nat) : Int) + ac_th q x ((n - r : Nat) : Int) n)]
            rfl
  have outer : ∀ (r f : Nat), r ≤ n → (i < 0 ∨ (f : Int) ≤ i) → f + 10 * r ≤ 100 → ac_nth (ac_sols q n) i = ac_nth (ac_rx q n r) (i - f) → ac_V G (RX3, "solutionAt") cX3_solutionAt 7 (some .int) d 0 0 (ac_R Y [(0, ac_nth (ac_sols q n) i)] (fun m => m = mm)) 0 0 Y mm 5 [(2, (t : Int)), (0, (e : Int)), (0, i), (0, (f : Int)), (0, ((n + 1 - r : Nat) : Int)), (3, 0), (3, 0)] [] := by
    intro r
    induction r with
    | zero =>
      intro f hr hfi hf2 hres
      refine ac_iload (q := 7) dX3_solutionAt_5 rfl rfl ?_
      refine ac_aload_n (q := 8) dX3_solutionAt_7 rfl rfl ?_
      refine ac_get (q := 11) dX3_solutionAt_8 fl_X3_21 (by assumption) rfl (ac_rdi rfl r3) ?_
      refine ac_icmp_gt (q := 14) (tgt := 82) dX3_solutionAt_11 rfl rfl ⟨by omega, by omega⟩ ⟨by omega, by omega⟩ (fun h11 => ?_) (fun h11 => ?_)
      · refine ac_bipush (q := 84) dX3_solutionAt_82 rfl (by decide) ?_
        refine ac_ireturn dX3_solutionAt_84 rfl (Nat.zero_le _) (Nat.zero_le _) ?_
        exact ⟨by rw [hres, ac_rx, ac_nth_nil], rfl, rfl⟩
      · exfalso; omega
    | succ r ih =>
      intro f hr hfi hf2 hres
      rw [show n + 1 - (r + 1) = n - r by omega]
      have ex : ((n - r : Nat) : Int) + 1 = ((n + 1 - r : Nat) : Int) := by omega
      rw [ac_rx] at hres
      refine ac_iload (q := 7) dX3_solutionAt_5 rfl rfl ?_
      refine ac_aload_n (q := 8) dX3_solutionAt_7 rfl rfl ?_
      refine ac_get (q := 11) dX3_solutionAt_8 fl_X3_21 (by assumption) rfl (ac_rdi rfl r3) ?_
      refine ac_icmp_gt (q := 14) (tgt := 82) dX3_solutionAt_11 rfl rfl ⟨by omega, by omega⟩ ⟨by omega, by omega⟩ (fun h11 => ?_) (fun h11 => ?_)
      · exfalso; omega
      · refine ac_iconst (q := 15) dX3_solutionAt_14 rfl ?_
        refine ac_istore (q := 17) dX3_solutionAt_15 rfl (Nat.le_of_ble_eq_true rfl) rfl rfl ?_
        simp only [List.set_cons_succ, List.set_cons_zero]
        refine ac_ls (by rw [show (1 : Int) = ((n + 1 - n : Nat) : Int) by omega]) (inner n f (n - r) (f + n) (ac_rx q n r) (Nat.le_refl _) (by omega) (by omega) hfi (by omega) (by omega) hres (fun f hfi hf2 hres => ?_))
        refine ac_iinc (q := 79) dX3_solutionAt_76 rfl (Nat.le_of_ble_eq_true rfl) rfl rfl rfl rfl ?_
        simp only [List.set_cons_succ, List.set_cons_zero]
        refine ac_goto (q := 5) dX3_solutionAt_79 rfl ?_
        exact ac_ls (by rw [ex]) (ih f (by omega) hfi (by omega) hres)
  refine ac_iconst (q := 1) dX3_solutionAt_0 rfl ?_
  refine ac_istore_n (q := 2) (j := 3) rfl dX3_solutionAt_1 rfl (Nat.le_of_ble_eq_true rfl) rfl rfl ?_
  simp only [List.set_cons_succ, List.set_cons_zero]
  refine ac_iconst (q := 3) dX3_solutionAt_2 rfl ?_
  refine ac_istore (q := 5) dX3_solutionAt_3 rfl (Nat.le_of_ble_eq_true rfl) rfl rfl ?_
  simp only [List.set_cons_succ, List.set_cons_zero]
  exact ac_ls (by rw [show (1 : Int) = ((n + 1 - n : Nat) : Int) by omega]; rfl) (outer n 0 (Nat.le_refl _) (by omega) (by omega) (by unfold ac_sols; simp))

set_option maxHeartbeats 4000000 in
theorem k_X3_pinOf {G : ac_G} {Y : ac_Y} {mm : ac_M} {d t n k : Nat} {E : List ac_Eq} {pin : Nat → Int} {col : Option (List Nat)} (hd : 1 ≤ d) (hT : ac_isT Y t) (hR : ac_RT mm t n k E pin col) {x : Int} (hx : ac_in x) : ac_C G yX3_pinOf cX3_pinOf 2 (some .int) d 0 0 Y mm [(2, (t : Int)), (0, x)] (ac_R Y [(0, pin x.toNat)] (fun m => m = mm)) := by
  have hT9 := hT
  have hR9 := hR
  obtain ⟨hk0, hk1, hk2, hk3, hr0, hr1, hr2⟩ := hT
  obtain ⟨⟨⟨hn1, hn2⟩, ⟨hkk1, hkk2⟩, ⟨hE1, hE2⟩, hp0, hpr, hc0⟩, r3, r4, r5, r6, rE, rp, rcb, rc⟩ := hR
  obtain ⟨hx1, hx2⟩ := hx
  refine ac_met (on := (RX3, "pinOf")) rfl rfl (Nat.le_of_ble_eq_true rfl) (ls := [(2, (t : Int)), (0, x)]) rfl ?_
  refine ac_iload_n (q := 1) dX3_pinOf_0 rfl rfl ?_
  refine ac_iconst (q := 2) dX3_pinOf_1 rfl ?_
  refine ac_icmp_lt (q := 5) (tgt := 28) dX3_pinOf_2 rfl rfl ⟨by omega, by omega⟩ ⟨by omega, by omega⟩ (fun h2 => ?_) (fun h2 => ?_)
  · refine ac_iconst (q := 29) dX3_pinOf_28 rfl ?_
    refine ac_ireturn dX3_pinOf_29 rfl (Nat.zero_le _) (Nat.zero_le _) ?_
    first
      | exact ⟨rfl, rfl, rfl⟩
      | exact ⟨by rw [hp0 x.toNat (by omega)], rfl, rfl⟩
  · refine ac_iload_n (q := 6) dX3_pinOf_5 rfl rfl ?_
    refine ac_aload_n (q := 7) dX3_pinOf_6 rfl rfl ?_
    refine ac_get (q := 10) dX3_pinOf_7 fl_X3_21 (by assumption) rfl rfl ?_
    refine ac_icmp_gt (q := 13) (tgt := 28) dX3_pinOf_10 rfl rfl ⟨by omega, by omega⟩ ⟨by omega, by omega⟩ (fun h10 => ?_) (fun h10 => ?_)
    · refine ac_iconst (q := 29) dX3_pinOf_28 rfl ?_
      refine ac_ireturn dX3_pinOf_29 rfl (Nat.zero_le _) (Nat.zero_le _) ?_
      first
        | exact ⟨rfl, rfl, rfl⟩
        | exact ⟨by rw [hp0 x.toNat (by omega)], rfl, rfl⟩
    · refine ac_iload_n (q := 14) dX3_pinOf_13 rfl rfl ?_
      refine ac_bipush (q := 16) dX3_pinOf_14 rfl (by decide) ?_
      refine ac_icmp_gt (q := 19) (tgt := 28) dX3_pinOf_16 rfl rfl ⟨by omega, by omega⟩ ⟨by omega, by omega⟩ (fun h16 => ?_) (fun h16 => ?_)
      · refine ac_iconst (q := 29) dX3_pinOf_28 rfl ?_
        refine ac_ireturn dX3_pinOf_29 rfl (Nat.zero_le _) (Nat.zero_le _) ?_
        first
          | exact ⟨rfl, rfl, rfl⟩
          | exact ⟨by rw [hp0 x.toNat (by omega)], rfl, rfl⟩
      · refine ac_aload_n (q := 20) dX3_pinOf_19 rfl rfl ?_
        refine ac_get (q := 23) dX3_pinOf_20 fl_X3_15 (by assumption) rfl (ac_rdr rfl (by assumption)) ?_
        refine ac_iload_n (q := 24) dX3_pinOf_23 rfl rfl ?_
        refine ac_iaload (q := 25) (v := pin x.toNat) dX3_pinOf_24 (by assumption) (by decide) ⟨by omega, by omega⟩ rfl (rp _ (by omega) (by omega)) ?_
        refine ac_goto (q := 29) dX3_pinOf_25 rfl ?_
        refine ac_ireturn dX3_pinOf_29 rfl (Nat.zero_le _) (Nat.zero_le _) ?_
        first
          | exact ⟨rfl, rfl, rfl⟩
          | exact ⟨by rw [hp0 x.toNat (by omega)], rfl, rfl⟩

set_option maxHeartbeats 4000000 in
theorem k_X3_free {G : ac_G} {Y : ac_Y} {mm : ac_M} {d t n k : Nat} {E : List ac_Eq} {pin : Nat → Int} {col : Option (List Nat)} (hd : 1 ≤ d) (hT : ac_isT Y t) (hR : ac_RT mm t n k E pin col) {x : Int} (hx : ac_in x) : ac_C G yX3_free cX3_free 2 (some .boolean) d 0 0 Y mm [(2, (t : Int)), (0, x)] (ac_R Y [(0, ac_b ((1 ≤ x ∧ x ≤ (n : Int)) ∧ pin x.toNat = -1))] (fun m => m = mm)) := by
  have hT9 := hT
  have hR9 := hR
  obtain ⟨hk0, hk1, hk2, hk3, hr0, hr1, hr2⟩ := hT
  obtain ⟨⟨⟨hn1, hn2⟩, ⟨hkk1, hkk2⟩, ⟨hE1, hE2⟩, hp0, hpr, hc0⟩, r3, r4, r5, r6, rE, rp, rcb, rc⟩ := hR
  obtain ⟨hx1, hx2⟩ := hx
  have hpx := hpr x.toNat
  refine ac_met (on := (RX3, "free")) rfl rfl (Nat.le_of_ble_eq_true rfl) (ls := [(2, (t : Int)), (0, x)]) rfl ?_
  refine ac_iload_n (q := 1) dX3_free_0 rfl rfl ?_
  refine ac_iconst (q := 2) dX3_free_1 rfl ?_
  refine ac_icmp_lt (q := 5) (tgt := 33) dX3_free_2 rfl rfl ⟨by omega, by omega⟩ ⟨by omega, by omega⟩ (fun h2 => ?_) (fun h2 => ?_)
  · refine ac_iconst (q := 34) dX3_free_33 rfl ?_
    refine ac_zreturn dX3_free_34 rfl (by first | exact ac_b01 | omega) (Nat.zero_le _) (Nat.zero_le _) ?_
    first | exact ⟨ac_l1 (by omega), rfl, rfl⟩ | exact ⟨ac_l0 (by omega), rfl, rfl⟩
  · refine ac_iload_n (q := 6) dX3_free_5 rfl rfl ?_
    refine ac_aload_n (q := 7) dX3_free_6 rfl rfl ?_
    refine ac_get (q := 10) dX3_free_7 fl_X3_21 (by assumption) rfl rfl ?_
    refine ac_icmp_gt (q := 13) (tgt := 33) dX3_free_10 rfl rfl ⟨by omega, by omega⟩ ⟨by omega, by omega⟩ (fun h10 => ?_) (fun h10 => ?_)
    · refine ac_iconst (q := 34) dX3_free_33 rfl ?_
      refine ac_zreturn dX3_free_34 rfl (by first | exact ac_b01 | omega) (Nat.zero_le _) (Nat.zero_le _) ?_
      first | exact ⟨ac_l1 (by omega), rfl, rfl⟩ | exact ⟨ac_l0 (by omega), rfl, rfl⟩
    · refine ac_iload_n (q := 14) dX3_free_13 rfl rfl ?_
      refine ac_bipush (q := 16) dX3_free_14 rfl (by decide) ?_
      refine ac_icmp_gt (q := 19) (tgt := 33) dX3_free_16 rfl rfl ⟨by omega, by omega⟩ ⟨by omega, by omega⟩ (fun h16 => ?_) (fun h16 => ?_)
      · refine ac_iconst (q := 34) dX3_free_33 rfl ?_
        refine ac_zreturn dX3_free_34 rfl (by first | exact ac_b01 | omega) (Nat.zero_le _) (Nat.zero_le _) ?_
        first | exact ⟨ac_l1 (by omega), rfl, rfl⟩ | exact ⟨ac_l0 (by omega), rfl, rfl⟩
      · refine ac_aload_n (q := 20) dX3_free_19 rfl rfl ?_
        refine ac_get (q := 23) dX3_free_20 fl_X3_15 (by assumption) rfl (ac_rdr rfl (by assumption)) ?_
        refine ac_iload_n (q := 24) dX3_free_23 rfl rfl ?_
        refine ac_iaload (q := 25) (v := pin x.toNat) dX3_free_24 (by assumption) (by decide) ⟨by omega, by omega⟩ rfl (rp _ (by omega) (by omega)) ?_
        refine ac_iconst (q := 26) dX3_free_25 rfl ?_
        refine ac_icmp_ne (q := 29) (tgt := 33) dX3_free_26 rfl rfl ⟨by omega, by omega⟩ ⟨by omega, by omega⟩ (fun h26 => ?_) (fun h26 => ?_)
        · refine ac_iconst (q := 34) dX3_free_33 rfl ?_
          refine ac_zreturn dX3_free_34 rfl (by first | exact ac_b01 | omega) (Nat.zero_le _) (Nat.zero_le _) ?_
          first | exact ⟨ac_l1 (by omega), rfl, rfl⟩ | exact ⟨ac_l0 (by omega), rfl, rfl⟩
        · refine ac_iconst (q := 30) dX3_free_29 rfl ?_
          refine ac_goto (q := 34) dX3_free_30 rfl ?_
          refine ac_zreturn dX3_free_34 rfl (by first | exact ac_b01 | omega) (Nat.zero_le _) (Nat.zero_le _) ?_
          first | exact ⟨ac_l1 (by omega), rfl, rfl⟩ | exact ⟨ac_l0 (by omega), rfl, rfl⟩

set_option maxHeartbeats 4000000 in
theorem k_X3_allows {G : ac_G} {Y : ac_Y} {mm : ac_M} {d t n k : Nat} {E : List ac_Eq} {pin : Nat → Int} {col : Option (List Nat)} (hd : 1 ≤ d) (hT : ac_isT Y t) (hR : ac_RT mm t n k E pin col) {x c : Int} (hx : ac_in x) (hc : ac_in c) : ac_C G yX3_allows cX3_allows 4 (some .boolean) d 0 0 Y mm [(2, (t : Int)), (0, x), (0, c)] (ac_R Y [(0, ac_b ((1 ≤ x ∧ x ≤ (n : Int)) ∧ (0 ≤ c ∧ c < (k : Int)) ∧ (pin x.toNat = -1 ∨ pin x.toNat = c)))] (fun m => m = mm)) := by
  have hT9 := hT
  have hR9 := hR
  obtain ⟨hk0, hk1, hk2, hk3, hr0, hr1, hr2⟩ := hT
  obtain ⟨⟨⟨hn1, hn2⟩, ⟨hkk1, hkk2⟩, ⟨hE1, hE2⟩, hp0, hpr, hc0⟩, r3, r4, r5, r6, rE, rp, rcb, rc⟩ := hR
  obtain ⟨hx1, hx2⟩ := hx
  obtain ⟨hcc1, hcc2⟩ := hc
  have hpx := hpr x.toNat
  refine ac_met (on := (RX3, "allows")) rfl rfl (Nat.le_of_ble_eq_true rfl) (ls := [(2, (t : Int)), (0, x), (0, c), (3, 0)]) rfl ?_
  refine ac_iload_n (q := 1) dX3_allows_0 rfl rfl ?_
  refine ac_iconst (q := 2) dX3_allows_1 rfl ?_
  refine ac_icmp_lt (q := 5) (tgt := 35) dX3_allows_2 rfl rfl ⟨by omega, by omega⟩ ⟨by omega, by omega⟩ (fun h2 => ?_) (fun h2 => ?_)
  · refine ac_iconst (q := 36) dX3_allows_35 rfl ?_
    refine ac_istore_n (q := 37) (j := 3) rfl dX3_allows_36 rfl (Nat.le_of_ble_eq_true rfl) rfl rfl ?_
    simp only [List.set_cons_succ, List.set_cons_zero]
    refine ac_iload_n (q := 38) dX3_allows_37 rfl rfl ?_
    refine ac_if_eq (q := 41) (tgt := 65) dX3_allows_38 rfl rfl ⟨by omega, by omega⟩ (fun h38 => ?_) (fun h38 => ?_)
    · refine ac_iconst (q := 66) dX3_allows_65 rfl ?_
      refine ac_zreturn dX3_allows_66 rfl (by first | exact ac_b01 | omega) (Nat.zero_le _) (Nat.zero_le _) ?_
      first | exact ⟨ac_l1 (by omega), rfl, rfl⟩ | exact ⟨ac_l0 (by omega), rfl, rfl⟩
    · exact absurd h38 (by decide)
  · refine ac_iload_n (q := 6) dX3_allows_5 rfl rfl ?_
    refine ac_aload_n (q := 7) dX3_allows_6 rfl rfl ?_
    refine ac_get (q := 10) dX3_allows_7 fl_X3_21 (by assumption) rfl rfl ?_
    refine ac_icmp_gt (q := 13) (tgt := 35) dX3_allows_10 rfl rfl ⟨by omega, by omega⟩ ⟨by omega, by omega⟩ (fun h10 => ?_) (fun h10 => ?_)
    · refine ac_iconst (q := 36) dX3_allows_35 rfl ?_
      refine ac_istore_n (q := 37) (j := 3) rfl dX3_allows_36 rfl (Nat.le_of_ble_eq_true rfl) rfl rfl ?_
      simp only [List.set_cons_succ, List.set_cons_zero]
      refine ac_iload_n (q := 38) dX3_allows_37 rfl rfl ?_
      refine ac_if_eq (q := 41) (tgt := 65) dX3_allows_38 rfl rfl ⟨by omega, by omega⟩ (fun h38 => ?_) (fun h38 => ?_)
      · refine ac_iconst (q := 66) dX3_allows_65 rfl ?_
        refine ac_zreturn dX3_allows_66 rfl (by first | exact ac_b01 | omega) (Nat.zero_le _) (Nat.zero_le _) ?_
        first | exact ⟨ac_l1 (by omega), rfl, rfl⟩ | exact ⟨ac_l0 (by omega), rfl, rfl⟩
      · exact absurd h38 (by decide)
    · refine ac_iload_n (q := 14) dX3_allows_13 rfl rfl ?_
      refine ac_bipush (q := 16) dX3_allows_14 rfl (by decide) ?_
      refine ac_icmp_gt (q := 19) (tgt := 35) dX3_allows_16 rfl rfl ⟨by omega, by omega⟩ ⟨by omega, by omega⟩ (fun h16 => ?_) (fun h16 => ?_)
      · refine ac_iconst (q := 36) dX3_allows_35 rfl ?_
        refine ac_istore_n (q := 37) (j := 3) rfl dX3_allows_36 rfl (Nat.le_of_ble_eq_true rfl) rfl rfl ?_
        simp only [List.set_cons_succ, List.set_cons_zero]
        refine ac_iload_n (q := 38) dX3_allows_37 rfl rfl ?_
        refine ac_if_eq (q := 41) (tgt := 65) dX3_allows_38 rfl rfl ⟨by omega, by omega⟩ (fun h38 => ?_) (fun h38 => ?_)
        · refine ac_iconst (q := 66) dX3_allows_65 rfl ?_
          refine ac_zreturn dX3_allows_66 rfl (by first | exact ac_b01 | omega) (Nat.zero_le _) (Nat.zero_le _) ?_
          first | exact ⟨ac_l1 (by omega), rfl, rfl⟩ | exact ⟨ac_l0 (by omega), rfl, rfl⟩
        · exact absurd h38 (by decide)
      · refine ac_iload_n (q := 20) dX3_allows_19 rfl rfl ?_
        refine ac_if_lt (q := 23) (tgt := 35) dX3_allows_20 rfl rfl ⟨by omega, by omega⟩ (fun h20 => ?_) (fun h20 => ?_)
        · refine ac_iconst (q := 36) dX3_allows_35 rfl ?_
          refine ac_istore_n (q := 37) (j := 3) rfl dX3_allows_36 rfl (Nat.le_of_ble_eq_true rfl) rfl rfl ?_
          simp only [List.set_cons_succ, List.set_cons_zero]
          refine ac_iload_n (q := 38) dX3_allows_37 rfl rfl ?_
          refine ac_if_eq (q := 41) (tgt := 65) dX3_allows_38 rfl rfl ⟨by omega, by omega⟩ (fun h38 => ?_) (fun h38 => ?_)
          · refine ac_iconst (q := 66) dX3_allows_65 rfl ?_
            refine ac_zreturn dX3_allows_66 rfl (by first | exact ac_b01 | omega) (Nat.zero_le _) (Nat.zero_le _) ?_
            first | exact ⟨ac_l1 (by omega), rfl, rfl⟩ | exact ⟨ac_l0 (by omega), rfl, rfl⟩
          · exact absurd h38 (by decide)
        · refine ac_iload_n (q := 24) dX3_allows_23 rfl rfl ?_
          refine ac_aload_n (q := 25) dX3_allows_24 rfl rfl ?_
          refine ac_get (q := 28) dX3_allows_25 fl_X3_25 (by assumption) rfl rfl ?_
          refine ac_icmp_ge (q := 31) (tgt := 35) dX3_allows_28 rfl rfl ⟨by omega, by omega⟩ ⟨by omega, by omega⟩ (fun h28 => ?_) (fun h28 => ?_)
          · refine ac_iconst (q := 36) dX3_allows_35 rfl ?_
            refine ac_istore_n (q := 37) (j := 3) rfl dX3_allows_36 rfl (Nat.le_of_ble_eq_true rfl) rfl rfl ?_
            simp only [List.set_cons_succ, List.set_cons_zero]
            refine ac_iload_n (q := 38) dX3_allows_37 rfl rfl ?_
            refine ac_if_eq (q := 41) (tgt := 65) dX3_allows_38 rfl rfl ⟨by omega, by omega⟩ (fun h38 => ?_) (fun h38 => ?_)
            · refine ac_iconst (q := 66) dX3_allows_65 rfl ?_
              refine ac_zreturn dX3_allows_66 rfl (by first | exact ac_b01 | omega) (Nat.zero_le _) (Nat.zero_le _) ?_
              first | exact ⟨ac_l1 (by omega), rfl, rfl⟩ | exact ⟨ac_l0 (by omega), rfl, rfl⟩
            · exact absurd h38 (by decide)
          · refine ac_iconst (q := 32) dX3_allows_31 rfl ?_
            refine ac_goto (q := 36) dX3_allows_32 rfl ?_
            refine ac_istore_n (q := 37) (j := 3) rfl dX3_allows_36 rfl (Nat.le_of_ble_eq_true rfl) rfl rfl ?_
            simp only [List.set_cons_succ, List.set_cons_zero]
            refine ac_iload_n (q := 38) dX3_allows_37 rfl rfl ?_
            refine ac_if_eq (q := 41) (tgt := 65) dX3_allows_38 rfl rfl ⟨by omega, by omega⟩ (fun h38 => ?_) (fun h38 => ?_)
            · exact absurd h38 (by decide)
            · refine ac_aload_n (q := 42) dX3_allows_41 rfl rfl ?_
              refine ac_get (q := 45) dX3_allows_42 fl_X3_15 (by assumption) rfl (ac_rdr rfl (by assumption)) ?_
              refine ac_iload_n (q := 46) dX3_allows_45 rfl rfl ?_
              refine ac_iaload (q := 47) (v := pin x.toNat) dX3_allows_46 (by assumption) (by decide) ⟨by omega, by omega⟩ rfl (rp _ (by omega) (by omega)) ?_
              refine ac_iconst (q := 48) dX3_allows_47 rfl ?_
              refine ac_icmp_eq (q := 51) (tgt := 61) dX3_allows_48 rfl rfl ⟨by omega, by omega⟩ ⟨by omega, by omega⟩ (fun h48 => ?_) (fun h48 => ?_)
              · refine ac_iconst (q := 62) dX3_allows_61 rfl ?_
                refine ac_goto (q := 66) dX3_allows_62 rfl ?_
                refine ac_zreturn dX3_allows_66 rfl (by first | exact ac_b01 | omega) (Nat.zero_le _) (Nat.zero_le _) ?_
                first | exact ⟨ac_l1 (by omega), rfl, rfl⟩ | exact ⟨ac_l0 (by omega), rfl, rfl⟩
              · refine ac_aload_n (q := 52) dX3_allows_51 rfl rfl ?_
                refine ac_get (q := 55) dX3_allows_52 fl_X3_15 (by assumption) rfl (ac_rdr rfl (by assumption)) ?_
                refine ac_iload_n (q := 56) dX3_allows_55 rfl rfl ?_
                refine ac_iaload (q := 57) (v := pin x.toNat) dX3_allows_56 (by assumption) (by decide) ⟨by omega, by omega⟩ rfl (rp _ (by omega) (by omega)) ?_
                refine ac_iload_n (q := 58) dX3_allows_57 rfl rfl ?_
                refine ac_icmp_ne (q := 61) (tgt := 65) dX3_allows_58 rfl rfl ⟨by omega, by omega⟩ ⟨by omega, by omega⟩ (fun h58 => ?_) (fun h58 => ?_)
                · refine ac_iconst (q := 66) dX3_allows_65 rfl ?_
                  refine ac_zreturn dX3_allows_66 rfl (by first | exact ac_b01 | omega) (Nat.zero_le _) (Nat.zero_le _) ?_
                  first | exact ⟨ac_l1 (by omega), rfl, rfl⟩ | exact ⟨ac_l0 (by omega), rfl, rfl⟩
                · refine ac_iconst (q := 62) dX3_allows_61 rfl ?_
                  refine ac_goto (q := 66) dX3_allows_62 rfl ?_
                  refine ac_zreturn dX3_allows_66 rfl (by first | exact ac_b01 | omega) (Nat.zero_le _) (Nat.zero_le _) ?_
                  first | exact ⟨ac_l1 (by omega), rfl, rfl⟩ | exact ⟨ac_l0 (by omega), rfl, rfl⟩

set_option maxHeartbeats 4000000 in
theorem k_X3_setPin {G : ac_G} {Y : ac_Y} {mm : ac_M} {d t n k : Nat} {E : List ac_Eq} {pin : Nat → Int} {col : Option (List Nat)} (hd : 2 ≤ d) (hT : ac_isT Y t) (hR : ac_RT mm t n k E pin col) {x : Nat} {c : Int} (hx : 1 ≤ x ∧ x ≤ n) (hc : ac_in c) : ac_C G yX3_setPin cX3_setPin 3 none d 0 0 Y mm [(2, (t : Int)), (0, (x : Int)), (0, c)] (ac_R Y [] (fun m => ac_RT m t n k E (ac_sp pin x (if 0 ≤ c ∧ c < (k : Int) then c else -1)) col ∧ ac_fr mm m t)) := by
  have hT9 := hT
  have hR9 := hR
  obtain ⟨hk0, hk1, hk2, hk3, hr0, hr1, hr2⟩ := hT
  obtain ⟨⟨⟨hn1, hn2⟩, ⟨hkk1, hkk2⟩, ⟨hE1, hE2⟩, hp0, hpr, hc0⟩, r3, r4, r5, r6, rE, rp, rcb, rc⟩ := hR
  obtain ⟨hx1, hx2⟩ := hx
  obtain ⟨hcc1, hcc2⟩ := hc
  refine ac_met (on := (RX3, "setPin")) rfl rfl (Nat.le_of_ble_eq_true rfl) (ls := [(2, (t : Int)), (0, (x : Int)), (0, c)]) rfl ?_
  refine ac_aload_n (q := 1) dX3_setPin_0 rfl rfl ?_
  refine ac_iload_n (q := 2) dX3_setPin_1 rfl rfl ?_
  refine ac_cvp (q := 5) (k_X3_has (d := d - 1) (by omega) hT9 hR9 ⟨by omega, by omega⟩) ml_X3_62 (by assumption) dX3_setPin_2 rfl rfl rfl (by omega) (Nat.le_of_ble_eq_true rfl) (Nat.zero_le _) (Nat.zero_le _) ?_
  refine ac_bif_eq (q := 8) (tgt := 27) dX3_setPin_5 rfl rfl (fun h5 => ?_) (fun h5 => ?_)
  · exfalso; omega
  · refine ac_aload_n (q := 9) dX3_setPin_8 rfl rfl ?_
    refine ac_get (q := 12) dX3_setPin_9 fl_X3_15 (by assumption) rfl (ac_rdr rfl (by assumption)) ?_
    refine ac_iload_n (q := 13) dX3_setPin_12 rfl rfl ?_
    refine ac_aload_n (q := 14) dX3_setPin_13 rfl rfl ?_
    refine ac_iload_n (q := 15) dX3_setPin_14 rfl rfl ?_
    refine ac_cvp (q := 18) (k_X3_hasColour (d := d - 1) (by omega) hT9 hR9 ⟨by omega, by omega⟩) ml_X3_65 (by assumption) dX3_setPin_15 rfl rfl rfl (by omega) (Nat.le_of_ble_eq_true rfl) (Nat.zero_le _) (Nat.zero_le _) ?_
    refine ac_bif_eq (q := 21) (tgt := 25) dX3_setPin_18 rfl rfl (fun h18 => ?_) (fun h18 => ?_)
    · refine ac_iconst (q := 26) dX3_setPin_25 rfl ?_
      refine ac_iastore (q := 27) dX3_setPin_26 (by assumption) (by decide) ⟨by omega, by omega⟩ rfl ?_
      refine ac_return dX3_setPin_27 rfl (Nat.zero_le _) (Nat.zero_le _) ?_
      first
        | rw [if_pos (by assumption)]
        | rw [if_neg (by assumption)]
      rw [show (x : Int).toNat = x from rfl]
      refine ⟨rfl, rfl, ac_RT_setPin hR9 ⟨hx1, hx2⟩ (by omega) (by funext j; simp [ac_up]) (by funext j; simp [ac_up]) (by intro j; simp [ac_up]) (by funext j; simp [ac_up]), ?_⟩
      intro k' hk'; funext j; simp only [ac_up]; repeat rw [if_neg (by omega)]
    · refine ac_iload_n (q := 22) dX3_setPin_21 rfl rfl ?_
      refine ac_goto (q := 26) dX3_setPin_22 rfl ?_
      refine ac_iastore (q := 27) dX3_setPin_26 (by assumption) (by decide) ⟨by omega, by omega⟩ rfl ?_
      refine ac_return dX3_setPin_27 rfl (Nat.zero_le _) (Nat.zero_le _) ?_
      first
        | rw [if_pos (by assumption)]
        | rw [if_neg (by assumption)]
      rw [show (x : Int).toNat = x from rfl]
      refine ⟨rfl, rfl, ac_RT_setPin hR9 ⟨hx1, hx2⟩ (by omega) (by funext j; simp [ac_up]) (by funext j; simp [ac_up]) (by intro j; simp [ac_up]) (by funext j; simp [ac_up]), ?_⟩
      intro k' hk'; funext j; simp only [ac_up]; repeat rw [if_neg (by omega)]

set_option maxHeartbeats 4000000 in
theorem k_fill {G : ac_G} {Y : ac_Y} {mm : ac_M} {d r len : Nat} {v : Int} (hd : 1 ≤ d) (hk0 : Y.2.1 r = (1, len)) (hl : len < 100000)   : ac_C G yJ7_fill_53178 cJ7_fill_53178 4 none d 0 0 Y mm [(2, (r : Int)), (0, v)] (ac_R Y [] (fun m => m = ac_fl mm r len v)) := by
  have hl2 : len < 2147483648 := by omega
  refine ac_met (on := (RJ7, "fill")) rfl rfl (Nat.le_of_ble_eq_true rfl) (ls := [(2, (r : Int)), (0, v), (3, 0), (3, 0)]) rfl ?_
  have loop : ∀ (f i : Nat), i + f = len → ac_V G (RJ7, "fill") cJ7_fill_53178 4 none d 0 0 (ac_R Y [] (fun m => m = ac_fl mm r len v)) 0 0 Y (ac_fl mm r i v) 5 [(2, (r : Int)), (0, v), (0, (i : Int)), (0, (len : Int))] [] := by
    intro f
    induction f with
    | zero =>
      intro i hi
      refine ac_iload_n (q := 6) dJ7_fill_53178_5 rfl rfl ?_
      refine ac_iload_n (q := 7) dJ7_fill_53178_6 rfl rfl ?_
      refine ac_icmp_ge (q := 10) (tgt := 20) dJ7_fill_53178_7 rfl rfl ⟨by omega, by omega⟩ ⟨by omega, by omega⟩ (fun h7 => ?_) (fun h7 => ?_)
      · refine ac_return dJ7_fill_53178_20 rfl (Nat.zero_le _) (Nat.zero_le _) ?_
        exact ⟨rfl, rfl, by rw [show i = len by omega]⟩
      · exfalso; omega
    | succ f ih =>
      intro i hi
      refine ac_iload_n (q := 6) dJ7_fill_53178_5 rfl rfl ?_
      refine ac_iload_n (q := 7) dJ7_fill_53178_6 rfl rfl ?_
      refine ac_icmp_ge (q := 10) (tgt := 20) dJ7_fill_53178_7 rfl rfl ⟨by omega, by omega⟩ ⟨by omega, by omega⟩ (fun h7 => ?_) (fun h7 => ?_)
      · exfalso; omega
      · refine ac_aload_n (q := 11) dJ7_fill_53178_10 rfl rfl ?_
        refine ac_iload_n (q := 12) dJ7_fill_53178_11 rfl rfl ?_
        refine ac_iload_n (q := 13) dJ7_fill_53178_12 rfl rfl ?_
        refine ac_iastoreN (q := 14) (j := i) dJ7_fill_53178_13 hk0 hl2 (by omega) rfl ?_
        rw [ac_fl_s]
        refine ac_iinc (q := 17) dJ7_fill_53178_14 rfl (Nat.le_of_ble_eq_true rfl) rfl rfl rfl rfl ?_
        simp only [List.set_cons_succ, List.set_cons_zero]
        refine ac_goto (q := 5) dJ7_fill_53178_17 rfl ?_
        exact ih (i + 1) (by omega)
  refine ac_iconst (q := 1) dJ7_fill_53178_0 rfl ?_
  refine ac_istore_n (q := 2) (j := 2) rfl dJ7_fill_53178_1 rfl (Nat.le_of_ble_eq_true rfl) rfl rfl ?_
  simp only [List.set_cons_succ, List.set_cons_zero]
  refine ac_aload_n (q := 3) dJ7_fill_53178_2 rfl rfl ?_
  refine ac_alen (q := 4) dJ7_fill_53178_3 hk0 (by decide) rfl ?_
  refine ac_istore_n (q := 5) (j := 3) rfl dJ7_fill_53178_4 rfl (Nat.le_of_ble_eq_true rfl) rfl rfl ?_
  simp only [List.set_cons_succ, List.set_cons_zero]
  exact ac_mem ac_fl_0.symm (loop len 0 (by omega))

set_option maxHeartbeats 4000000 in
theorem k_X3_unpin {G : ac_G} {Y : ac_Y} {mm : ac_M} {d t : Nat} (hd : 2 ≤ d) (hT : ac_isT Y t)   : ac_C G yX3_unpin cX3_unpin 1 none d 0 0 Y mm [(2, (t : Int))] (ac_R Y [] (fun m => m = ac_fl mm (t + 2) 11 (-1))) := by
  obtain ⟨hk0, hk1, hk2, hk3, hr0, hr1, hr2⟩ := hT
  refine ac_met (on := (RX3, "unpin")) rfl rfl (Nat.le_of_ble_eq_true rfl) (ls := [(2, (t : Int))]) rfl ?_
  refine ac_aload_n (q := 1) dX3_unpin_0 rfl rfl ?_
  refine ac_get (q := 4) dX3_unpin_1 fl_X3_15 (by assumption) rfl (ac_rdr rfl (by assumption)) ?_
  refine ac_iconst (q := 5) dX3_unpin_4 rfl ?_
  refine ac_cs (q := 8) (k_fill (d := d - 1) (by omega) hk2 (by decide)) ml_X3_38 dX3_unpin_5 rfl rfl rfl (by omega) (Nat.le_of_ble_eq_true rfl) (Nat.zero_le _) (Nat.zero_le _) (fun m1 h1 => ?_)
  refine ac_return dX3_unpin_8 rfl (Nat.zero_le _) (Nat.zero_le _) ?_
  exact ⟨rfl, rfl, h1⟩

set_option maxHeartbeats 4000000 in
theorem k_X3_pinned {G : ac_G} {Y : ac_Y} {mm : ac_M} {d t n k : Nat} {E : List ac_Eq} {pin : Nat → Int} {col : Option (List Nat)} (hd : 2 ≤ d) (hT : ac_isT Y t) (hR : ac_RT mm t n k E pin col)   : ac_C G yX3_pinned cX3_pinned 3 (some .int) d 0 0 Y mm [(2, (t : Int))] (ac_R Y [(0, (ac_pins pin n : Int))] (fun m => m = mm)) := by
  have hT9 := hT
  have hR9 := hR
  obtain ⟨hk0, hk1, hk2, hk3, hr0, hr1, hr2⟩ := hT
  obtain ⟨⟨⟨hn1, hn2⟩, ⟨hkk1, hkk2⟩, ⟨hE1, hE2⟩, hp0, hpr, hc0⟩, r3, r4, r5, r6, rE, rp, rcb, rc⟩ := hR
  refine ac_met (on := (RX3, "pinned")) rfl rfl (Nat.le_of_ble_eq_true rfl) (ls := [(2, (t : Int)), (3, 0), (3, 0)]) rfl ?_
  have loop : ∀ (f i : Nat), i + f = n → ac_V G (RX3, "pinned") cX3_pinned 3 (some .int) d 0 0 (ac_R Y [(0, (ac_pins pin n : Int))] (fun m => m = mm)) 0 0 Y mm 4 [(2, (t : Int)), (0, (ac_pins pin i : Int)), (0, ((i + 1 : Nat) : Int))] [] := by
    intro f
    induction f with
    | zero =>
      intro i hi
      refine ac_iload_n (q := 5) dX3_pinned_4 rfl rfl ?_
      refine ac_aload_n (q := 6) dX3_pinned_5 rfl rfl ?_
      refine ac_get (q := 9) dX3_pinned_6 fl_X3_21 (by assumption) rfl (ac_rdi rfl r3) ?_
      refine ac_icmp_gt (q := 12) (tgt := 30) dX3_pinned_9 rfl rfl ⟨by omega, by omega⟩ ⟨by omega, by omega⟩ (fun h9 => ?_) (fun h9 => ?_)
      · refine ac_iload_n (q := 31) dX3_pinned_30 rfl rfl ?_
        refine ac_ireturn dX3_pinned_31 rfl (Nat.zero_le _) (Nat.zero_le _) ?_
        exact ⟨by rw [show i = n by omega], rfl, rfl⟩
      · exfalso; omega
    | succ f ih =>
      intro i hi
      have hpi := hpr (i + 1)
      have hle := ac_pins_le pin i
      have e1 : ac_pins pin (i + 1) = ac_pins pin i + (if pin (i + 1) = -1 then 0 else 1) := rfl
      refine ac_iload_n (q := 5) dX3_pinned_4 rfl rfl ?_
      refine ac_aload_n (q := 6) dX3_pinned_5 rfl rfl ?_
      refine ac_get (q := 9) dX3_pinned_6 fl_X3_21 (by assumption) rfl (ac_rdi rfl r3) ?_
      refine ac_icmp_gt (q := 12) (tgt := 30) dX3_pinned_9 rfl rfl ⟨by omega, by omega⟩ ⟨by omega, by omega⟩ (fun h9 => ?_) (fun h9 => ?_)
      · exfalso; omega
      · refine ac_aload_n (q := 13) dX3_pinned_12 rfl rfl ?_
        refine ac_iload_n (q := 14) dX3_pinned_13 rfl rfl ?_
        refine ac_cvp (q := 17) (k_X3_pinOf (d := d - 1) (x := ((i + 1 : Nat) : Int)) (by omega) hT9 hR9 ⟨by omega, by omega⟩) ml_X3_68 (by assumption) dX3_pinned_14 rfl rfl rfl (by omega) (Nat.le_of_ble_eq_true rfl) (Nat.zero_le _) (Nat.zero_le _) ?_
        simp only [Int.toNat_natCast]
        refine ac_iconst (q := 18) dX3_pinned_17 rfl ?_
        refine ac_icmp_eq (q := 21) (tgt := 24) dX3_pinned_18 rfl rfl ⟨by omega, by omega⟩ ⟨by omega, by omega⟩ (fun h18 => ?_) (fun h18 => ?_)
        · rw [if_pos (by simpa using h18)] at e1
          refine ac_iinc (q := 27) dX3_pinned_24 rfl (Nat.le_of_ble_eq_true rfl) rfl rfl rfl rfl ?_
          simp only [List.set_cons_succ, List.set_cons_zero]
          refine ac_goto (q := 4) dX3_pinned_27 rfl ?_
          exact ac_ls (by rw [show (((i + 1 : Nat) : Int) + 1) = ((i + 1 + 1 : Nat) : Int) from rfl, e1]; rfl) (ih (i + 1) (by omega))
        · rw [if_neg (by simpa using h18)] at e1
          refine ac_iinc (q := 24) dX3_pinned_21 rfl (Nat.le_of_ble_eq_true rfl) rfl rfl rfl rfl ?_
          simp only [List.set_cons_succ, List.set_cons_zero]
          refine ac_iinc (q := 27) dX3_pinned_24 rfl (Nat.le_of_ble_eq_true rfl) rfl rfl rfl rfl ?_
          simp only [List.set_cons_succ, List.set_cons_zero]
          refine ac_goto (q := 4) dX3_pinned_27 rfl ?_
          exact ac_ls (by rw [show (((i + 1 : Nat) : Int) + 1) = ((i + 1 + 1 : Nat) : Int) from rfl, e1]; rfl) (ih (i + 1) (by omega))
  refine ac_iconst (q := 1) dX3_pinned_0 rfl ?_
  refine ac_istore_n (q := 2) (j := 1) rfl dX3_pinned_1 rfl (Nat.le_of_ble_eq_true rfl) rfl rfl ?_
  simp only [List.set_cons_succ, List.set_cons_zero]
  refine ac_iconst (q := 3) dX3_pinned_2 rfl ?_
  refine ac_istore_n (q := 4) (j := 2) rfl dX3_pinned_3 rfl (Nat.le_of_ble_eq_true rfl) rfl rfl ?_
  simp only [List.set_cons_succ, List.set_cons_zero]
  exact loop n 0 (by omega)

set_option maxHeartbeats 4000000 in
theorem k_X3_start {G : ac_G} {Y : ac_Y} {mm : ac_M} {d t n k : Nat} (hd : 3 ≤ d) (hT : ac_isT Y t) (hn : 1 ≤ n ∧ n ≤ 10) (hk : 2 ≤ k ∧ k ≤ 3)   : ac_C G yX3_start cX3_start 3 none d 0 0 Y mm [(2, (t : Int)), (0, (n : Int)), (0, (k : Int))] (ac_R Y [] (fun m => ac_RT m t n k [] (fun _ => -1) none ∧ ac_fr mm m t)) := by
  have hT9 := hT
  obtain ⟨hk0, hk1, hk2, hk3, hr0, hr1, hr2⟩ := hT
  refine ac_met (on := (RX3, "start")) rfl rfl (Nat.le_of_ble_eq_true rfl) (ls := [(2, (t : Int)), (0, (n : Int)), (0, (k : Int))]) rfl ?_
  refine ac_aload_n (q := 1) dX3_start_0 rfl rfl ?_
  refine ac_iload_n (q := 2) dX3_start_1 rfl rfl ?_
  refine ac_put (q := 5) dX3_start_2 fl_X3_21 (by assumption) rfl rfl ?_
  refine ac_aload_n (q := 6) dX3_start_5 rfl rfl ?_
  refine ac_iload_n (q := 7) dX3_start_6 rfl rfl ?_
  refine ac_put (q := 10) dX3_start_7 fl_X3_25 (by assumption) rfl rfl ?_
  refine ac_aload_n (q := 11) dX3_start_10 rfl rfl ?_
  refine ac_iconst (q := 12) dX3_start_11 rfl ?_
  refine ac_put (q := 15) dX3_start_12 fl_X3_28 (by assumption) rfl rfl ?_
  refine ac_aload_n (q := 16) dX3_start_15 rfl rfl ?_
  refine ac_iconst (q := 17) dX3_start_16 rfl ?_
  refine ac_putZ (q := 20) dX3_start_17 fl_X3_31 (by assumption) rfl (by first | exact ac_b01 | omega) rfl ?_
  refine ac_aload_n (q := 21) dX3_start_20 rfl rfl ?_
  refine ac_cv (q := 24) (k_X3_unpin (d := d - 1) (by omega) hT9) ml_X3_35 (by assumption) dX3_start_21 rfl rfl rfl (by omega) (Nat.le_of_ble_eq_true rfl) (Nat.zero_le _) (Nat.zero_le _) (fun m1 h1 => ?_)
  refine ac_aload_n (q := 25) dX3_start_24 rfl rfl ?_
  refine ac_get (q := 28) dX3_start_25 fl_X3_18 (by assumption) rfl (ac_rdr rfl (by assumption)) ?_
  refine ac_iconst (q := 29) dX3_start_28 rfl ?_
  refine ac_cs (q := 32) (k_fill (d := d - 1) (by omega) hk3 (by decide)) ml_X3_38 dX3_start_29 rfl rfl rfl (by omega) (Nat.le_of_ble_eq_true rfl) (Nat.zero_le _) (Nat.zero_le _) (fun m2 h2 => ?_)
  refine ac_return dX3_start_32 rfl (Nat.zero_le _) (Nat.zero_le _) ?_
  subst h1; subst h2
  refine ⟨rfl, rfl, ac_RT_start hn hk ?_ ?_ ?_ ?_ ?_ ?_, ?_⟩
  · simp [ac_fl, ac_up]
  · simp [ac_fl, ac_up]
  · simp [ac_fl, ac_up]
  · simp [ac_fl, ac_up]
  · intro j hj; simp [ac_fl, ac_up, hj]
  · intro j hj; simp [ac_fl, ac_up, hj]
  · intro k' hk'; funext j; simp only [ac_up, ac_fl]; repeat rw [if_neg (by omega)]

set_option maxHeartbeats 4000000 in
theorem k_X3_copy {G : ac_G} {Y : ac_Y} {mm : ac_M} {d t o n k : Nat} {E : List ac_Eq} {pin : Nat → Int} {col : Option (List Nat)} (hd : 1 ≤ d) (hT : ac_isT Y t) (hO : ac_isT Y o) (hd2 : o + 4 ≤ t ∨ t + 4 ≤ o) (hR : ac_RT mm o n k E pin col)   : ac_C G yX3_copy cX3_copy 2 none d 0 0 Y mm [(2, (t : Int)), (2, (o : Int))] (ac_R Y [] (fun m => ac_RT m t n k E pin col ∧ ac_fr mm m t)) := by
  obtain ⟨hk0, hk1, hk2, hk3, hr0, hr1, hr2⟩ := hT
  obtain ⟨ok0, ok1, ok2, ok3, or0, or1, or2⟩ := hO
  have hR9 := hR
  obtain ⟨⟨⟨hn1, hn2⟩, ⟨hkk1, hkk2⟩, ⟨hE1, hE2⟩, hp0, hpr, hc0⟩, r3, r4, r5, r6, rE, rp, rcb, rc⟩ := hR
  have r6b : mm o 6 = 0 ∨ mm o 6 = 1 := by rw [r6]; split <;> omega
  refine ac_met (on := (RX3, "copy")) rfl rfl (Nat.le_of_ble_eq_true rfl) (ls := [(2, (t : Int)), (2, (o : Int))]) rfl ?_
  refine ac_aload_n (q := 1) dX3_copy_0 rfl rfl ?_
  refine ac_aload_n (q := 2) dX3_copy_1 rfl rfl ?_
  refine ac_get (q := 5) dX3_copy_2 fl_X3_21 (by assumption) rfl rfl ?_
  refine ac_put (q := 8) dX3_copy_5 fl_X3_21 (by assumption) rfl rfl ?_
  refine ac_aload_n (q := 9) dX3_copy_8 rfl rfl ?_
  refine ac_aload_n (q := 10) dX3_copy_9 rfl rfl ?_
  refine ac_get (q := 13) dX3_copy_10 fl_X3_25 (by assumption) rfl (ac_rdi (v := mm o 4) rfl (by rw [ac_up_k (by omega)])) ?_
  refine ac_put (q := 16) dX3_copy_13 fl_X3_25 (by assumption) rfl rfl ?_
  refine ac_aload_n (q := 17) dX3_copy_16 rfl rfl ?_
  refine ac_aload_n (q := 18) dX3_copy_17 rfl rfl ?_
  refine ac_get (q := 21) dX3_copy_18 fl_X3_28 (by assumption) rfl (ac_rdi (v := mm o 5) rfl (by rw [ac_up_k (by omega), ac_up_k (by omega)])) ?_
  refine ac_put (q := 24) dX3_copy_21 fl_X3_28 (by assumption) rfl rfl ?_
  refine ac_aload_n (q := 25) dX3_copy_24 rfl rfl ?_
  refine ac_aload_n (q := 26) dX3_copy_25 rfl rfl ?_
  refine ac_get (q := 29) dX3_copy_26 fl_X3_31 (by assumption) rfl (ac_rdz (v := mm o 6) rfl (by rw [ac_up_k (by omega), ac_up_k (by omega), ac_up_k (by omega)])) ?_
  refine ac_putZ (q := 32) dX3_copy_29 fl_X3_31 (by assumption) rfl (by first | exact ac_b01 | omega) rfl ?_
  refine ac_aload_n (q := 33) dX3_copy_32 rfl rfl ?_
  refine ac_get (q := 36) dX3_copy_33 fl_X3_11 (by assumption) rfl (ac_rdr rfl (by assumption)) ?_
  refine ac_iconst (q := 37) dX3_copy_36 rfl ?_
  refine ac_aload_n (q := 38) dX3_copy_37 rfl rfl ?_
  refine ac_get (q := 41) dX3_copy_38 fl_X3_11 (by assumption) rfl (ac_rdr rfl (by assumption)) ?_
  refine ac_iconst (q := 42) dX3_copy_41 rfl ?_
  refine ac_bipush (q := 44) dX3_copy_42 rfl (by decide) ?_
  refine ac_copy (q := 47) (n := 16) dX3_copy_44 ml_X3_44 cp_n cp_s cp_i (by assumption) (by assumption) (by decide) (by decide) (by decide) rfl (by omega) (Nat.le_of_ble_eq_true rfl) ?_
  refine ac_aload_n (q := 48) dX3_copy_47 rfl rfl ?_
  refine ac_get (q := 51) dX3_copy_48 fl_X3_15 (by assumption) rfl (ac_rdr rfl (by assumption)) ?_
  refine ac_iconst (q := 52) dX3_copy_51 rfl ?_
  refine ac_aload_n (q := 53) dX3_copy_52 rfl rfl ?_
  refine ac_get (q := 56) dX3_copy_53 fl_X3_15 (by assumption) rfl (ac_rdr rfl (by assumption)) ?_
  refine ac_iconst (q := 57) dX3_copy_56 rfl ?_
  refine ac_bipush (q := 59) dX3_copy_57 rfl (by decide) ?_
  refine ac_copy (q := 62) (n := 11) dX3_copy_59 ml_X3_44 cp_n cp_s cp_i (by assumption) (by assumption) (by decide) (by decide) (by decide) rfl (by omega) (Nat.le_of_ble_eq_true rfl) ?_
  refine ac_aload_n (q := 63) dX3_copy_62 rfl rfl ?_
  refine ac_get (q := 66) dX3_copy_63 fl_X3_18 (by assumption) rfl (ac_rdr rfl (by assumption)) ?_
  refine ac_iconst (q := 67) dX3_copy_66 rfl ?_
  refine ac_aload_n (q := 68) dX3_copy_67 rfl rfl ?_
  refine ac_get (q := 71) dX3_copy_68 fl_X3_18 (by assumption) rfl (ac_rdr rfl (by assumption)) ?_
  refine ac_iconst (q := 72) dX3_copy_71 rfl ?_
  refine ac_iconst (q := 73) dX3_copy_72 rfl ?_
  refine ac_copy (q := 76) (n := 3) dX3_copy_73 ml_X3_44 cp_n cp_s cp_i (by assumption) (by assumption) (by decide) (by decide) (by decide) rfl (by omega) (Nat.le_of_ble_eq_true rfl) ?_
  refine ac_return dX3_copy_76 rfl (Nat.zero_le _) (Nat.zero_le _) ?_
  refine ⟨rfl, rfl, ac_RT_copy hR9 ?_ ?_ ?_ ?_, ?_⟩
  · intro j hj1 hj2
    rcases (show j = 3 ∨ j = 4 ∨ j = 5 ∨ j = 6 by omega) with rfl | rfl | rfl | rfl <;> simp [ac_cp, ac_up]
  · intro j hj
    have e1 : ¬ o + 1 = t := by omega
    simp [ac_cp, ac_up, hj, e1]
  · intro j hj
    have e1 : ¬ o + 2 = t := by omega
    have e2 : ¬ o + 2 = t + 1 := by omega
    simp [ac_cp, ac_up, hj, e1, e2]
  · intro j hj
    have e1 : ¬ o + 3 = t := by omega
    have e2 : ¬ o + 3 = t + 1 := by omega
    have e3 : ¬ o + 3 = t + 2 := by omega
    simp [ac_cp, ac_up, hj, e1, e2, e3]
  · intro k' hk'; funext j; simp only [ac_up, ac_cp]; repeat rw [if_neg (by omega)]

set_option maxHeartbeats 4000000 in
theorem k_X3_classOf {G : ac_G} {Y : ac_Y} {mm : ac_M} {d t n k : Nat} {E : List ac_Eq} {pin : Nat → Int} {col : Option (List Nat)} (hd : 2 ≤ d) (hT : ac_isT Y t) (hR : ac_RT mm t n k E pin col) {c : Int} (hc : ac_in c) : ac_C G yX3_classOf cX3_classOf 2 (some .int) d 0 0 Y mm [(2, (t : Int)), (0, c)] (ac_R Y [(0, (if 0 ≤ c ∧ c < (k : Int) then mm (t + 3) c.toNat else 0))] (fun m => m = mm)) := by
  have hT9 := hT
  have hR9 := hR
  obtain ⟨hk0, hk1, hk2, hk3, hr0, hr1, hr2⟩ := hT
  obtain ⟨⟨⟨hn1, hn2⟩, ⟨hkk1, hkk2⟩, ⟨hE1, hE2⟩, hp0, hpr, hc0⟩, r3, r4, r5, r6, rE, rp, rcb, rc⟩ := hR
  obtain ⟨hcc1, hcc2⟩ := hc
  refine ac_met (on := (RX3, "classOf")) rfl rfl (Nat.le_of_ble_eq_true rfl) (ls := [(2, (t : Int)), (0, c)]) rfl ?_
  refine ac_aload_n (q := 1) dX3_classOf_0 rfl rfl ?_
  refine ac_iload_n (q := 2) dX3_classOf_1 rfl rfl ?_
  refine ac_cvp (q := 5) (k_X3_hasColour (d := d - 1) (by omega) hT9 hR9 ⟨by omega, by omega⟩) ml_X3_65 (by assumption) dX3_classOf_2 rfl rfl rfl (by omega) (Nat.le_of_ble_eq_true rfl) (Nat.zero_le _) (Nat.zero_le _) ?_
  refine ac_bif_eq (q := 8) (tgt := 17) dX3_classOf_5 rfl rfl (fun h5 => ?_) (fun h5 => ?_)
  · refine ac_iconst (q := 18) dX3_classOf_17 rfl ?_
    refine ac_ireturn dX3_classOf_18 rfl (Nat.zero_le _) (Nat.zero_le _) ?_
    first
      | exact ⟨by rw [if_pos h5], rfl, rfl⟩
      | exact ⟨by rw [if_neg h5], rfl, rfl⟩
  · refine ac_aload_n (q := 9) dX3_classOf_8 rfl rfl ?_
    refine ac_get (q := 12) dX3_classOf_9 fl_X3_18 (by assumption) rfl (ac_rdr rfl (by assumption)) ?_
    refine ac_iload_n (q := 13) dX3_classOf_12 rfl rfl ?_
    refine ac_iaload (q := 14) dX3_classOf_13 (by assumption) (by decide) ⟨by omega, by omega⟩ rfl rfl ?_
    refine ac_goto (q := 18) dX3_classOf_14 rfl ?_
    refine ac_ireturn dX3_classOf_18 rfl (Nat.zero_le _) (Nat.zero_le _) ?_
    first
      | exact ⟨by rw [if_pos h5], rfl, rfl⟩
      | exact ⟨by rw [if_neg h5], rfl, rfl⟩

set_option maxHeartbeats 4000000 in
theorem k_X3_colourOf {G : ac_G} {Y : ac_Y} {mm : ac_M} {d t n k : Nat} {E : List ac_Eq} {pin : Nat → Int} {col : Option (List Nat)} (hd : 3 ≤ d) (hT : ac_isT Y t) (hR : ac_RT mm t n k E pin col) {x : Nat} {l : List Nat} (hx : 1 ≤ x ∧ x ≤ n) (hl : col = some l) : ac_C G yX3_colourOf cX3_colourOf 3 (some .int) d 0 0 Y mm [(2, (t : Int)), (0, (x : Int))] (ac_R Y [(0, (l.getD (x - 1) 0 : Int))] (fun m => m = mm)) := by
  have hT9 := hT
  have hR9 := hR
  obtain ⟨hk0, hk1, hk2, hk3, hr0, hr1, hr2⟩ := hT
  obtain ⟨⟨⟨hn1, hn2⟩, ⟨hkk1, hkk2⟩, ⟨hE1, hE2⟩, hp0, hpr, hc0⟩, r3, r4, r5, r6, rE, rp, rcb, rc⟩ := hR
  obtain ⟨hx1, hx2⟩ := hx
  obtain ⟨hl1, hl2⟩ := hc0 l hl
  have hcls : ∀ c : Nat, c < 3 → (if 0 ≤ (c : Int) ∧ (c : Int) < (k : Int) then mm (t + 3) (c : Int).toNat else 0) = ((if c < k then ac_set l c else 0 : Nat) : Int) := by
    intro c hc
    by_cases h : c < k
    · rw [if_pos (by omega), if_pos h, Int.toNat_natCast]; exact rc l hl c hc
    · rw [if_neg (by omega), if_neg h]; rfl
  have hlt : ∀ c : Nat, (if c < k then ac_set l c else 0 : Nat) < 2048 := by
    intro c; split
    · exact ac_set_lt c (by omega)
    · omega
  have hbit : ∀ c : Nat, (if c < k then ac_set l c else 0 : Nat) / 2 ^ x &&& 1 = if l.getD (x - 1) 0 = c then 1 else 0 := by
    intro c
    have hd : l[x - 1]? = some (l.getD (x - 1) 0) := by rw [List.getD_eq_getElem?_getD, List.getElem?_eq_getElem (by omega)]; rfl
    have hk9 : l.getD (x - 1) 0 < k := hl2 _ (List.mem_of_getElem? hd)
    rw [ac_bit1]
    by_cases h : c < k
    · rw [if_pos h, ac_set_bit, hd]
      by_cases h2 : l.getD (x - 1) 0 = c
      · rw [if_pos h2, decide_eq_true ⟨hx1, by rw [h2]⟩]; rfl
      · rw [if_neg h2, decide_eq_false (fun q => h2 (Option.some.inj q.2))]; rfl
    · rw [if_neg h, if_neg (by omega), Nat.zero_testBit]; rfl
  have hlast : l.getD (x - 1) 0 < 3 := by
    have hd : l[x - 1]? = some (l.getD (x - 1) 0) := by rw [List.getD_eq_getElem?_getD, List.getElem?_eq_getElem (by omega)]; rfl
    have hk9 : l.getD (x - 1) 0 < k := hl2 _ (List.mem_of_getElem? hd)
    omega
  refine ac_met (on := (RX3, "colourOf")) rfl rfl (Nat.le_of_ble_eq_true rfl) (ls := [(2, (t : Int)), (0, (x : Int)), (3, 0)]) rfl ?_
  refine ac_iconst (q := 1) dX3_colourOf_0 rfl ?_
  refine ac_istore_n (q := 2) (j := 2) rfl dX3_colourOf_1 rfl (Nat.le_of_ble_eq_true rfl) rfl rfl ?_
  simp only [List.set_cons_succ, List.set_cons_zero]
  refine ac_iload_n (q := 3) dX3_colourOf_2 rfl rfl ?_
  refine ac_iconst (q := 4) dX3_colourOf_3 rfl ?_
  refine ac_icmp_ge (q := 7) (tgt := 28) dX3_colourOf_4 rfl rfl ⟨by omega, by omega⟩ ⟨by omega, by omega⟩ (fun h4 => ?_) (fun h4 => ?_)
  · exact absurd h4 (by decide)
  · refine ac_aload_n (q := 8) dX3_colourOf_7 rfl rfl ?_
    refine ac_iload_n (q := 9) dX3_colourOf_8 rfl rfl ?_
    refine ac_cvp (q := 12) (k_X3_classOf (d := d - 1) (by omega) hT9 hR9 ⟨by omega, by omega⟩) ml_X3_76 (by assumption) dX3_colourOf_9 rfl rfl rfl (by omega) (Nat.le_of_ble_eq_true rfl) (Nat.zero_le _) (Nat.zero_le _) ?_
    first
      | refine ac_top (congrArg (fun z => ((0 : Nat), z)) (hcls 0 (by decide))) ?_
      | refine ac_top (congrArg (fun z => ((0 : Nat), z)) (hcls 1 (by decide))) ?_
      | refine ac_top (congrArg (fun z => ((0 : Nat), z)) (hcls 2 (by decide))) ?_
    refine ac_iload_n (q := 13) dX3_colourOf_12 rfl rfl ?_
    refine ac_ishrN (q := 14) (k := x) dX3_colourOf_13 rfl (by have := hlt 0; have := hlt 1; have := hlt 2; omega) (by omega) ?_
    refine ac_iconst (q := 15) dX3_colourOf_14 rfl ?_
    refine ac_iand (q := 16) (b := 1) dX3_colourOf_15 rfl ?_
    refine ac_top (congrArg (fun z : Nat => ((0 : Nat), (z : Int))) (hbit _)) ?_
    refine ac_iconst (q := 17) dX3_colourOf_16 rfl ?_
    refine ac_icmp_ne (q := 20) (tgt := 22) dX3_colourOf_17 rfl rfl (by split <;> exact ⟨by decide, by decide⟩) ⟨by omega, by omega⟩ (fun h17 => ?_) (fun h17 => ?_)
    · try (have n0 : ¬ l.getD (x - 1) 0 = 0 := fun q => h17 (by rw [if_pos q]; rfl))
      try (have n1 : ¬ l.getD (x - 1) 0 = 1 := fun q => h17 (by rw [if_pos q]; rfl))
      try (have n2 : ¬ l.getD (x - 1) 0 = 2 := fun q => h17 (by rw [if_pos q]; rfl))
      refine ac_iinc (q := 25) (v := 1) dX3_colourOf_22 rfl (Nat.le_of_ble_eq_true rfl) rfl rfl rfl rfl ?_
      simp only [List.set_cons_succ, List.set_cons_zero]
      refine ac_goto (q := 2) dX3_colourOf_25 rfl ?_
      refine ac_iload_n (q := 3) dX3_colourOf_2 rfl rfl ?_
      refine ac_iconst (q := 4) dX3_colourOf_3 rfl ?_
      refine ac_icmp_ge (q := 7) (tgt := 28) dX3_colourOf_4 rfl rfl ⟨by omega, by omega⟩ ⟨by omega, by omega⟩ (fun h4 => ?_) (fun h4 => ?_)
      · exact absurd h4 (by decide)
      · refine ac_aload_n (q := 8) dX3_colourOf_7 rfl rfl ?_
        refine ac_iload_n (q := 9) dX3_colourOf_8 rfl rfl ?_
        refine ac_cvp (q := 12) (k_X3_classOf (d := d - 1) (by omega) hT9 hR9 ⟨by omega, by omega⟩) ml_X3_76 (by assumption) dX3_colourOf_9 rfl rfl rfl (by omega) (Nat.le_of_ble_eq_true rfl) (Nat.zero_le _) (Nat.zero_le _) ?_
        first
          | refine ac_top (congrArg (fun z => ((0 : Nat), z)) (hcls 0 (by decide))) ?_
          | refine ac_top (congrArg (fun z => ((0 : Nat), z)) (hcls 1 (by decide))) ?_
          | refine ac_top (congrArg (fun z => ((0 : Nat), z)) (hcls 2 (by decide))) ?_
        refine ac_iload_n (q := 13) dX3_colourOf_12 rfl rfl ?_
        refine ac_ishrN (q := 14) (k := x) dX3_colourOf_13 rfl (by have := hlt 0; have := hlt 1; have := hlt 2; omega) (by omega) ?_
        refine ac_iconst (q := 15) dX3_colourOf_14 rfl ?_
        refine ac_iand (q := 16) (b := 1) dX3_colourOf_15 rfl ?_
        refine ac_top (congrArg (fun z : Nat => ((0 : Nat), (z : Int))) (hbit _)) ?_
        refine ac_iconst (q := 17) dX3_colourOf_16 rfl ?_
        refine ac_icmp_ne (q := 20) (tgt := 22) dX3_colourOf_17 rfl rfl (by split <;> exact ⟨by decide, by decide⟩) ⟨by omega, by omega⟩ (fun h17 => ?_) (fun h17 => ?_)
        · try (have n0 : ¬ l.getD (x - 1) 0 = 0 := fun q => h17 (by rw [if_pos q]; rfl))
          try (have n1 : ¬ l.getD (x - 1) 0 = 1 := fun q => h17 (by rw [if_pos q]; rfl))
          try (have n2 : ¬ l.getD (x - 1) 0 = 2 := fun q => h17 (by rw [if_pos q]; rfl))
          refine ac_iinc (q := 25) (v := 2) dX3_colourOf_22 rfl (Nat.le_of_ble_eq_true rfl) rfl rfl rfl rfl ?_
          simp only [List.set_cons_succ, List.set_cons_zero]
          refine ac_goto (q := 2) dX3_colourOf_25 rfl ?_
          refine ac_iload_n (q := 3) dX3_colourOf_2 rfl rfl ?_
          refine ac_iconst (q := 4) dX3_colourOf_3 rfl ?_
          refine ac_icmp_ge (q := 7) (tgt := 28) dX3_colourOf_4 rfl rfl ⟨by omega, by omega⟩ ⟨by omega, by omega⟩ (fun h4 => ?_) (fun h4 => ?_)
          · exact absurd h4 (by decide)
          · refine ac_aload_n (q := 8) dX3_colourOf_7 rfl rfl ?_
            refine ac_iload_n (q := 9) dX3_colourOf_8 rfl rfl ?_
            refine ac_cvp (q := 12) (k_X3_classOf (d := d - 1) (by omega) hT9 hR9 ⟨by omega, by omega⟩) ml_X3_76 (by assumption) dX3_colourOf_9 rfl rfl rfl (by omega) (Nat.le_of_ble_eq_true rfl) (Nat.zero_le _) (Nat.zero_le _) ?_
            first
              | refine ac_top (congrArg (fun z => ((0 : Nat), z)) (hcls 0 (by decide))) ?_
              | refine ac_top (congrArg (fun z => ((0 : Nat), z)) (hcls 1 (by decide))) ?_
              | refine ac_top (congrArg (fun z => ((0 : Nat), z)) (hcls 2 (by decide))) ?_
            refine ac_iload_n (q := 13) dX3_colourOf_12 rfl rfl ?_
            refine ac_ishrN (q := 14) (k := x) dX3_colourOf_13 rfl (by have := hlt 0; have := hlt 1; have := hlt 2; omega) (by omega) ?_
            refine ac_iconst (q := 15) dX3_colourOf_14 rfl ?_
            refine ac_iand (q := 16) (b := 1) dX3_colourOf_15 rfl ?_
            refine ac_top (congrArg (fun z : Nat => ((0 : Nat), (z : Int))) (hbit _)) ?_
            refine ac_iconst (q := 17) dX3_colourOf_16 rfl ?_
            refine ac_icmp_ne (q := 20) (tgt := 22) dX3_colourOf_17 rfl rfl (by split <;> exact ⟨by decide, by decide⟩) ⟨by omega, by omega⟩ (fun h17 => ?_) (fun h17 => ?_)
            · try (have n0 : ¬ l.getD (x - 1) 0 = 0 := fun q => h17 (by rw [if_pos q]; rfl))
              try (have n1 : ¬ l.getD (x - 1) 0 = 1 := fun q => h17 (by rw [if_pos q]; rfl))
              try (have n2 : ¬ l.getD (x - 1) 0 = 2 := fun q => h17 (by rw [if_pos q]; rfl))
              refine ac_iinc (q := 25) (v := 3) dX3_colourOf_22 rfl (Nat.le_of_ble_eq_true rfl) rfl rfl rfl rfl ?_
              simp only [List.set_cons_succ, List.set_cons_zero]
              refine ac_goto (q := 2) dX3_colourOf_25 rfl ?_
              refine ac_iload_n (q := 3) dX3_colourOf_2 rfl rfl ?_
              refine ac_iconst (q := 4) dX3_colourOf_3 rfl ?_
              refine ac_icmp_ge (q := 7) (tgt := 28) dX3_colourOf_4 rfl rfl ⟨by omega, by omega⟩ ⟨by omega, by omega⟩ (fun h4 => ?_) (fun h4 => ?_)
              · refine ac_bipush (q := 30) dX3_colourOf_28 rfl (by decide) ?_
                refine ac_ireturn dX3_colourOf_30 rfl (Nat.zero_le _) (Nat.zero_le _) ?_
                first
                  | (exfalso; omega)
                  | exact ⟨by rw [show l.getD (x - 1) 0 = 0 from Decidable.byContradiction fun q => by rw [if_neg q] at h17; exact absurd h17 (by decide)]; rfl, rfl, rfl⟩
                  | exact ⟨by rw [show l.getD (x - 1) 0 = 1 from Decidable.byContradiction fun q => by rw [if_neg q] at h17; exact absurd h17 (by decide)]; rfl, rfl, rfl⟩
                  | exact ⟨by rw [show l.getD (x - 1) 0 = 2 from Decidable.byContradiction fun q => by rw [if_neg q] at h17; exact absurd h17 (by decide)]; rfl, rfl, rfl⟩
              · exact absurd h4 (by decide)
            · refine ac_iload_n (q := 21) dX3_colourOf_20 rfl rfl ?_
              refine ac_ireturn dX3_colourOf_21 rfl (Nat.zero_le _) (Nat.zero_le _) ?_
              first
                | (exfalso; omega)
                | exact ⟨by rw [show l.getD (x - 1) 0 = 0 from Decidable.byContradiction fun q => by rw [if_neg q] at h17; exact absurd h17 (by decide)]; rfl, rfl, rfl⟩
                | exact ⟨by rw [show l.getD (x - 1) 0 = 1 from Decidable.byContradiction fun q => by rw [if_neg q] at h17; exact absurd h17 (by decide)]; rfl, rfl, rfl⟩
                | exact ⟨by rw [show l.getD (x - 1) 0 = 2 from Decidable.byContradiction fun q => by rw [if_neg q] at h17; exact absurd h17 (by decide)]; rfl, rfl, rfl⟩
        · refine ac_iload_n (q := 21) dX3_colourOf_20 rfl rfl ?_
          refine ac_ireturn dX3_colourOf_21 rfl (Nat.zero_le _) (Nat.zero_le _) ?_
          first
            | (exfalso; omega)
            | exact ⟨by rw [show l.getD (x - 1) 0 = 0 from Decidable.byContradiction fun q => by rw [if_neg q] at h17; exact absurd h17 (by decide)]; rfl, rfl, rfl⟩
            | exact ⟨by rw [show l.getD (x - 1) 0 = 1 from Decidable.byContradiction fun q => by rw [if_neg q] at h17; exact absurd h17 (by decide)]; rfl, rfl, rfl⟩
            | exact ⟨by rw [show l.getD (x - 1) 0 = 2 from Decidable.byContradiction fun q => by rw [if_neg q] at h17; exact absurd h17 (by decide)]; rfl, rfl, rfl⟩
    · refine ac_iload_n (q := 21) dX3_colourOf_20 rfl rfl ?_
      refine ac_ireturn dX3_colourOf_21 rfl (Nat.zero_le _) (Nat.zero_le _) ?_
      first
        | (exfalso; omega)
        | exact ⟨by rw [show l.getD (x - 1) 0 = 0 from Decidable.byContradiction fun q => by rw [if_neg q] at h17; exact absurd h17 (by decide)]; rfl, rfl, rfl⟩
        | exact ⟨by rw [show l.getD (x - 1) 0 = 1 from Decidable.byContradiction fun q => by rw [if_neg q] at h17; exact absurd h17 (by decide)]; rfl, rfl, rfl⟩
        | exact ⟨by rw [show l.getD (x - 1) 0 = 2 from Decidable.byContradiction fun q => by rw [if_neg q] at h17; exact absurd h17 (by decide)]; rfl, rfl, rfl⟩

set_option maxHeartbeats 4000000 in
theorem k_bits {G : ac_G} {Y : ac_Y} {mm : ac_M} {d x : Nat} (hd : 1 ≤ d) (hx : x < 2048)   : ac_C G yJ6_bitCount_0f7a4 cJ6_bitCount_0f7a4 1 (some .int) d 0 0 Y mm [(0, (x : Int))] (ac_R Y [(0, (ac_bits x : Int))] (fun m => m = mm)) := by
  have g1 : x / 2 ^ 1 &&& 1431655765 ≤ x / 2 ^ 1 := Nat.and_le_left
  generalize ey : x - (x / 2 ^ 1 &&& 1431655765) = y
  have g2 : y &&& 858993459 ≤ y := Nat.and_le_left
  have g3 : y / 2 ^ 2 &&& 858993459 ≤ y / 2 ^ 2 := Nat.and_le_left
  generalize ez : (y &&& 858993459) + (y / 2 ^ 2 &&& 858993459) = z
  have g4 : z + z / 2 ^ 4 &&& 252645135 ≤ z + z / 2 ^ 4 := Nat.and_le_left
  generalize ew : z + z / 2 ^ 4 &&& 252645135 = w at g4
  generalize ev : w + w / 2 ^ 8 = v
  have hres : v + v / 2 ^ 16 &&& 63 = ac_bits x := by
    subst ev; subst ew; subst ez; subst ey
    exact ac_bits_ok x hx
  refine ac_met (on := (RJ6, "bitCount")) rfl rfl (Nat.le_of_ble_eq_true rfl) (ls := [(0, (x : Int))]) rfl ?_
  refine ac_iload_n (q := 1) dJ6_bitCount_0f7a4_0 rfl rfl ?_
  refine ac_iload_n (q := 2) dJ6_bitCount_0f7a4_1 rfl rfl ?_
  refine ac_iconst (q := 3) dJ6_bitCount_0f7a4_2 rfl ?_
  refine ac_iushrN (q := 4) (k := 1) dJ6_bitCount_0f7a4_3 rfl (by omega) (by omega) ?_
  refine ac_ldc_w (q := 7) (v := 1431655765) dJ6_bitCount_0f7a4_4 rfl ct_J6_265 ?_
  refine ac_iand (q := 8) (b := 1431655765) dJ6_bitCount_0f7a4_7 rfl ?_
  refine ac_isub (q := 9) dJ6_bitCount_0f7a4_8 rfl ?_
  refine ac_top (w' := (0, (y : Int))) (congrArg (fun z : Int => ((0 : Nat), z)) (by omega)) ?_
  refine ac_istore_n (q := 10) (j := 0) rfl dJ6_bitCount_0f7a4_9 rfl (Nat.le_of_ble_eq_true rfl) rfl rfl ?_
  simp only [List.set_cons_succ, List.set_cons_zero]
  refine ac_iload_n (q := 11) dJ6_bitCount_0f7a4_10 rfl rfl ?_
  refine ac_ldc_w (q := 14) (v := 858993459) dJ6_bitCount_0f7a4_11 rfl ct_J6_266 ?_
  refine ac_iand (q := 15) (b := 858993459) dJ6_bitCount_0f7a4_14 rfl ?_
  refine ac_iload_n (q := 16) dJ6_bitCount_0f7a4_15 rfl rfl ?_
  refine ac_iconst (q := 17) dJ6_bitCount_0f7a4_16 rfl ?_
  refine ac_iushrN (q := 18) (k := 2) dJ6_bitCount_0f7a4_17 rfl (by omega) (by omega) ?_
  refine ac_ldc_w (q := 21) (v := 858993459) dJ6_bitCount_0f7a4_18 rfl ct_J6_266 ?_
  refine ac_iand (q := 22) (b := 858993459) dJ6_bitCount_0f7a4_21 rfl ?_
  refine ac_iadd (q := 23) dJ6_bitCount_0f7a4_22 rfl ?_
  refine ac_top (w' := (0, (z : Int))) (congrArg (fun z : Int => ((0 : Nat), z)) (by omega)) ?_
  refine ac_istore_n (q := 24) (j := 0) rfl dJ6_bitCount_0f7a4_23 rfl (Nat.le_of_ble_eq_true rfl) rfl rfl ?_
  simp only [List.set_cons_succ, List.set_cons_zero]
  refine ac_iload_n (q := 25) dJ6_bitCount_0f7a4_24 rfl rfl ?_
  refine ac_iload_n (q := 26) dJ6_bitCount_0f7a4_25 rfl rfl ?_
  refine ac_iconst (q := 27) dJ6_bitCount_0f7a4_26 rfl ?_
  refine ac_iushrN (q := 28) (k := 4) dJ6_bitCount_0f7a4_27 rfl (by omega) (by omega) ?_
  refine ac_iadd (q := 29) dJ6_bitCount_0f7a4_28 rfl ?_
  refine ac_top (w' := (0, ((z + z / 2 ^ 4 : Nat) : Int))) rfl ?_
  refine ac_ldc_w (q := 32) (v := 252645135) dJ6_bitCount_0f7a4_29 rfl ct_J6_267 ?_
  refine ac_iand (q := 33) (b := 252645135) dJ6_bitCount_0f7a4_32 rfl ?_
  refine ac_top (w' := (0, (w : Int))) (by rw [ew]) ?_
  refine ac_istore_n (q := 34) (j := 0) rfl dJ6_bitCount_0f7a4_33 rfl (Nat.le_of_ble_eq_true rfl) rfl rfl ?_
  simp only [List.set_cons_succ, List.set_cons_zero]
  refine ac_iload_n (q := 35) dJ6_bitCount_0f7a4_34 rfl rfl ?_
  refine ac_iload_n (q := 36) dJ6_bitCount_0f7a4_35 rfl rfl ?_
  refine ac_bipush (q := 38) dJ6_bitCount_0f7a4_36 rfl (by decide) ?_
  refine ac_iushrN (q := 39) (k := 8) dJ6_bitCount_0f7a4_38 rfl (by omega) (by omega) ?_
  refine ac_iadd (q := 40) dJ6_bitCount_0f7a4_39 rfl ?_
  refine ac_top (w' := (0, (v : Int))) (congrArg (fun z : Int => ((0 : Nat), z)) (by omega)) ?_
  refine ac_istore_n (q := 41) (j := 0) rfl dJ6_bitCount_0f7a4_40 rfl (Nat.le_of_ble_eq_true rfl) rfl rfl ?_
  simp only [List.set_cons_succ, List.set_cons_zero]
  refine ac_iload_n (q := 42) dJ6_bitCount_0f7a4_41 rfl rfl ?_
  refine ac_iload_n (q := 43) dJ6_bitCount_0f7a4_42 rfl rfl ?_
  refine ac_bipush (q := 45) dJ6_bitCount_0f7a4_43 rfl (by decide) ?_
  refine ac_iushrN (q := 46) (k := 16) dJ6_bitCount_0f7a4_45 rfl (by omega) (by omega) ?_
  refine ac_iadd (q := 47) dJ6_bitCount_0f7a4_46 rfl ?_
  refine ac_top (w' := (0, ((v + v / 2 ^ 16 : Nat) : Int))) rfl ?_
  refine ac_istore_n (q := 48) (j := 0) rfl dJ6_bitCount_0f7a4_47 rfl (Nat.le_of_ble_eq_true rfl) rfl rfl ?_
  simp only [List.set_cons_succ, List.set_cons_zero]
  refine ac_iload_n (q := 49) dJ6_bitCount_0f7a4_48 rfl rfl ?_
  refine ac_bipush (q := 51) dJ6_bitCount_0f7a4_49 rfl (by decide) ?_
  refine ac_iand (q := 52) (b := 63) dJ6_bitCount_0f7a4_51 rfl ?_
  rw [hres]
  refine ac_ireturn dJ6_bitCount_0f7a4_52 rfl (Nat.zero_le _) (Nat.zero_le _) ?_
  exact ⟨rfl, rfl, rfl⟩

set_option maxHeartbeats 4000000 in
theorem k_X3_resize {G : ac_G} {Y : ac_Y} {mm : ac_M} {d t n k : Nat} {E : List ac_Eq} {pin : Nat → Int} {col : Option (List Nat)} (hd : 3 ≤ d) (hT : ac_isT Y t) (hR : ac_RT mm t n k E pin col) {n' : Nat} (hn' : 1 ≤ n' ∧ n' ≤ 10) : ac_C G yX3_resize cX3_resize 3 none d 0 0 Y mm [(2, (t : Int)), (0, (n' : Int))] (ac_R Y [] (fun m => ac_RT m t n' k E (ac_cut pin n') (if n' = n then col else none) ∧ ac_fr mm m t)) := by
  have hT9 := hT
  have hR9 := hR
  obtain ⟨hk0, hk1, hk2, hk3, hr0, hr1, hr2⟩ := hT
  obtain ⟨⟨⟨hn1, hn2⟩, ⟨hkk1, hkk2⟩, ⟨hE1, hE2⟩, hp0, hpr, hc0⟩, r3, r4, r5, r6, rE, rp, rcb, rc⟩ := hR
  obtain ⟨hm1, hm2⟩ := hn'
  refine ac_met (on := (RX3, "resize")) rfl rfl (Nat.le_of_ble_eq_true rfl) (ls := [(2, (t : Int)), (0, (n' : Int)), (3, 0)]) rfl ?_
  have loop : ∀ (f i : Nat) (m' : ac_M), (i + f = n + 1 ∨ f = 0 ∧ n < i) → n' < i → i ≤ 11 → ac_RT m' t n k E (fun j => if n' < j ∧ j < i then -1 else pin j) col → ac_fr mm m' t → ac_V G (RX3, "resize") cX3_resize 3 none d 0 0 (ac_R Y [] (fun m => ac_RT m t n' k E (ac_cut pin n') (if n' = n then col else none) ∧ ac_fr mm m t)) 0 0 Y m' 4 [(2, (t : Int)), (0, (n' : Int)), (0, (i : Int))] [] := by
    intro f
    induction f with
    | zero =>
      intro i m' hi hn' hi11 hRi hfr
      have epin : (fun j => if n' < j ∧ j < i then -1 else pin j) = ac_cut pin n' := by
        funext j
        unfold ac_cut
        by_cases hj : j ≤ n'
        · rw [if_neg (by omega), if_pos hj]
        · rw [if_neg hj]
          by_cases hj2 : j < i
          · rw [if_pos ⟨by omega, hj2⟩]
          · rw [if_neg (by omega)]; exact hp0 j (by omega)
      rw [epin] at hRi
      have hRj := hRi
      obtain ⟨-, s3, -, -, s6, -, -, -, -⟩ := hRi
      have s6b : m' t 6 = 0 ∨ m' t 6 = 1 := by rw [s6]; split <;> omega
      refine ac_iload_n (q := 5) dX3_resize_4 rfl rfl ?_
      refine ac_aload_n (q := 6) dX3_resize_5 rfl rfl ?_
      refine ac_get (q := 9) dX3_resize_6 fl_X3_21 (by assumption) rfl (ac_rdi rfl s3) ?_
      refine ac_icmp_gt (q := 12) (tgt := 24) dX3_resize_9 rfl rfl ⟨by omega, by omega⟩ ⟨by omega, by omega⟩ (fun h9 => ?_) (fun h9 => ?_)
      · refine ac_aload_n (q := 25) dX3_resize_24 rfl rfl ?_
        refine ac_aload_n (q := 26) dX3_resize_25 rfl rfl ?_
        refine ac_get (q := 29) dX3_resize_26 fl_X3_31 (by assumption) rfl rfl ?_
        refine ac_if_eq (q := 32) (tgt := 44) dX3_resize_29 rfl rfl ⟨by omega, by omega⟩ (fun h29 => ?_) (fun h29 => ?_)
        · refine ac_iconst (q := 45) dX3_resize_44 rfl ?_
          refine ac_putZ (q := 48) dX3_resize_45 fl_X3_31 (by assumption) rfl (by first | exact ac_b01 | omega) rfl ?_
          refine ac_aload_n (q := 49) dX3_resize_48 rfl rfl ?_
          refine ac_iload_n (q := 50) dX3_resize_49 rfl rfl ?_
          refine ac_put (q := 53) dX3_resize_50 fl_X3_21 (by assumption) rfl rfl ?_
          refine ac_return dX3_resize_53 rfl (Nat.zero_le _) (Nat.zero_le _) ?_
          refine ⟨rfl, rfl, ac_RT_resize hRj ⟨by omega, by omega⟩ (fun j hj => by unfold ac_cut; rw [if_neg (by omega)]) ?_ (by funext j; simp [ac_up]) (by funext j; simp [ac_up]) (by funext j; simp [ac_up]), ?_⟩
          · intro j
            by_cases h3 : j = 3
            · subst h3; simp [ac_up]
            · rw [if_neg h3]
              by_cases h6 : j = 6
              · subst h6
                rw [if_pos rfl]
                rw [ac_up_j (by decide), ac_up_s]
                by_cases hc : col.isSome = true
                · rw [if_pos hc] at s6
                  first
                    | (exfalso; omega)
                    | rw [if_pos ⟨hc, by omega⟩]
                    | rw [if_neg (fun q => absurd q.2 (by omega))]
                · rw [if_neg hc] at s6
                  first
                    | (exfalso; omega)
                    | rw [if_neg (fun q => hc q.1)]
              · rw [if_neg h6]; simp [ac_up, h3, h6]
          · intro k' hk'; rw [← hfr k' hk']; funext j; simp only [ac_up]; repeat rw [if_neg (by omega)]
        · refine ac_iload_n (q := 33) dX3_resize_32 rfl rfl ?_
          refine ac_aload_n (q := 34) dX3_resize_33 rfl rfl ?_
          refine ac_get (q := 37) dX3_resize_34 fl_X3_21 (by assumption) rfl (ac_rdi rfl s3) ?_
          refine ac_icmp_ne (q := 40) (tgt := 44) dX3_resize_37 rfl rfl ⟨by omega, by omega⟩ ⟨by omega, by omega⟩ (fun h37 => ?_) (fun h37 => ?_)
          · refine ac_iconst (q := 45) dX3_resize_44 rfl ?_
            refine ac_putZ (q := 48) dX3_resize_45 fl_X3_31 (by assumption) rfl (by first | exact ac_b01 | omega) rfl ?_
            refine ac_aload_n (q := 49) dX3_resize_48 rfl rfl ?_
            refine ac_iload_n (q := 50) dX3_resize_49 rfl rfl ?_
            refine ac_put (q := 53) dX3_resize_50 fl_X3_21 (by assumption) rfl rfl ?_
            refine ac_return dX3_resize_53 rfl (Nat.zero_le _) (Nat.zero_le _) ?_
            refine ⟨rfl, rfl, ac_RT_resize hRj ⟨by omega, by omega⟩ (fun j hj => by unfold ac_cut; rw [if_neg (by omega)]) ?_ (by funext j; simp [ac_up]) (by funext j; simp [ac_up]) (by funext j; simp [ac_up]), ?_⟩
            · intro j
              by_cases h3 : j = 3
              · subst h3; simp [ac_up]
              · rw [if_neg h3]
                by_cases h6 : j = 6
                · subst h6
                  rw [if_pos rfl]
                  rw [ac_up_j (by decide), ac_up_s]
                  by_cases hc : col.isSome = true
                  · rw [if_pos hc] at s6
                    first
                      | (exfalso; omega)
                      | rw [if_pos ⟨hc, by omega⟩]
                      | rw [if_neg (fun q => absurd q.2 (by omega))]
                  · rw [if_neg hc] at s6
                    first
                      | (exfalso; omega)
                      | rw [if_neg (fun q => hc q.1)]
                · rw [if_neg h6]; simp [ac_up, h3, h6]
            · intro k' hk'; rw [← hfr k' hk']; funext j; simp only [ac_up]; repeat rw [if_neg (by omega)]
          · refine ac_iconst (q := 41) dX3_resize_40 rfl ?_
            refine ac_goto (q := 45) dX3_resize_41 rfl ?_
            refine ac_putZ (q := 48) dX3_resize_45 fl_X3_31 (by assumption) rfl (by first | exact ac_b01 | omega) rfl ?_
            refine ac_aload_n (q := 49) dX3_resize_48 rfl rfl ?_
            refine ac_iload_n (q := 50) dX3_resize_49 rfl rfl ?_
            refine ac_put (q := 53) dX3_resize_50 fl_X3_21 (by assumption) rfl rfl ?_
            refine ac_return dX3_resize_53 rfl (Nat.zero_le _) (Nat.zero_le _) ?_
            refine ⟨rfl, rfl, ac_RT_resize hRj ⟨by omega, by omega⟩ (fun j hj => by unfold ac_cut; rw [if_neg (by omega)]) ?_ (by funext j; simp [ac_up]) (by funext j; simp [ac_up]) (by funext j; simp [ac_up]), ?_⟩
            · intro j
              by_cases h3 : j = 3
              · subst h3; simp [ac_up]
              · rw [if_neg h3]
                by_cases h6 : j = 6
                · subst h6
                  rw [if_pos rfl]
                  rw [ac_up_j (by decide), ac_up_s]
                  by_cases hc : col.isSome = true
                  · rw [if_pos hc] at s6
                    first
                      | (exfalso; omega)
                      | rw [if_pos ⟨hc, by omega⟩]
                      | rw [if_neg (fun q => absurd q.2 (by omega))]
                  · rw [if_neg hc] at s6
                    first
                      | (exfalso; omega)
                      | rw [if_neg (fun q => hc q.1)]
                · rw [if_neg h6]; simp [ac_up, h3, h6]
            · intro k' hk'; rw [← hfr k' hk']; funext j; simp only [ac_up]; repeat rw [if_neg (by omega)]
      · exfalso; omega
    | succ f ih =>
      intro i m' hi hn' hi11 hRi hfr
      have hRj := hRi
      obtain ⟨-, s3, -, -, s6, -, -, -, -⟩ := hRi
      refine ac_iload_n (q := 5) dX3_resize_4 rfl rfl ?_
      refine ac_aload_n (q := 6) dX3_resize_5 rfl rfl ?_
      refine ac_get (q := 9) dX3_resize_6 fl_X3_21 (by assumption) rfl (ac_rdi rfl s3) ?_
      refine ac_icmp_gt (q := 12) (tgt := 24) dX3_resize_9 rfl rfl ⟨by omega, by omega⟩ ⟨by omega, by omega⟩ (fun h9 => ?_) (fun h9 => ?_)
      · exfalso; omega
      · refine ac_aload_n (q := 13) dX3_resize_12 rfl rfl ?_
        refine ac_iload_n (q := 14) dX3_resize_13 rfl rfl ?_
        refine ac_iconst (q := 15) dX3_resize_14 rfl ?_
        refine ac_cv (q := 18) (k_X3_setPin (d := d - 1) (x := i) (c := -1) (by omega) hT9 hRj ⟨by omega, by omega⟩ ⟨by omega, by omega⟩) ml_X3_72 (by assumption) dX3_resize_15 rfl rfl rfl (by omega) (Nat.le_of_ble_eq_true rfl) (Nat.zero_le _) (Nat.zero_le _) (fun m2 h2 => ?_)
        have epin : ac_sp (fun j => if n' < j ∧ j < i then -1 else pin j) i (if 0 ≤ (-1 : Int) ∧ (-1 : Int) < (k : Int) then -1 else -1) = (fun j => if n' < j ∧ j < i + 1 then -1 else pin j) := by
          funext j
          unfold ac_sp
          by_cases hj : j = i
          · rw [if_pos hj, if_neg (by omega), if_pos (by omega)]
          · rw [if_neg hj]
            show (if n' < j ∧ j < i then -1 else pin j) = _
            by_cases hj2 : n' < j ∧ j < i
            · rw [if_pos hj2, if_pos (by omega)]
            · rw [if_neg hj2, if_neg (by omega)]
        rw [epin] at h2
        refine ac_iinc (q := 21) dX3_resize_18 rfl (Nat.le_of_ble_eq_true rfl) rfl rfl rfl rfl ?_
        simp only [List.set_cons_succ, List.set_cons_zero]
        refine ac_goto (q := 4) dX3_resize_21 rfl ?_
        exact ih (i + 1) m2 (by omega) (by omega) (by omega) h2.1 (fun k' hk' => (h2.2 k' hk').trans (hfr k' hk'))
  refine ac_iload_n (q := 1) dX3_resize_0 rfl rfl ?_
  refine ac_iconst (q := 2) dX3_resize_1 rfl ?_
  refine ac_iadd (q := 3) dX3_resize_2 rfl ?_
  refine ac_istore_n (q := 4) (j := 2) rfl dX3_resize_3 rfl (Nat.le_of_ble_eq_true rfl) rfl rfl ?_
  simp only [List.set_cons_succ, List.set_cons_zero]
  refine loop (n - n') (n' + 1) mm (by omega) (by omega) (by omega) ?_ (fun _ _ => rfl)
  have e0 : (fun j => if n' < j ∧ j < n' + 1 then -1 else pin j) = pin := by funext j; rw [if_neg (by omega)]
  rw [e0]; exact hR9

set_option maxHeartbeats 4000000 in
theorem k_X3_repaint {G : ac_G} {Y : ac_Y} {mm : ac_M} {d t n k : Nat} {E : List ac_Eq} {pin : Nat → Int} {col : Option (List Nat)} (hd : 2 ≤ d) (hT : ac_isT Y t) (hR : ac_RT mm t n k E pin col) {x c : Nat} {l : List Nat} (hx : 1 ≤ x ∧ x ≤ n) (hc : c < k) (hl : col = some l) : ac_C G yX3_repaint cX3_repaint 4 none d 0 0 Y mm [(2, (t : Int)), (0, (x : Int)), (0, (c : Int))] (ac_R Y [] (fun m => ac_RT m t n k E pin (some (l.set (x - 1) c)) ∧ ac_fr mm m t)) := by
  have hT9 := hT
  have hR9 := hR
  obtain ⟨hk0, hk1, hk2, hk3, hr0, hr1, hr2⟩ := hT
  obtain ⟨⟨⟨hn1, hn2⟩, ⟨hkk1, hkk2⟩, ⟨hE1, hE2⟩, hp0, hpr, hc0⟩, r3, r4, r5, r6, rE, rp, rcb, rc⟩ := hR
  obtain ⟨hx1, hx2⟩ := hx
  obtain ⟨hl1, hl2⟩ := hc0 l hl
  refine ac_met (on := (RX3, "repaint")) rfl rfl (Nat.le_of_ble_eq_true rfl) (ls := [(2, (t : Int)), (0, (x : Int)), (0, (c : Int)), (3, 0)]) rfl ?_
  have tail : ∀ (m' : ac_M), (∀ j, j < 3 → m' (t + 3) j = (ac_andn (ac_set l j) (2 ^ x) : Int)) → (∀ k', k' ≠ t + 3 → m' k' = mm k') → ac_V G (RX3, "repaint") cX3_repaint 4 none d 0 0 (ac_R Y [] (fun m => ac_RT m t n k E pin (some (l.set (x - 1) c)) ∧ ac_fr mm m t)) 0 0 Y m' 44 [(2, (t : Int)), (0, (x : Int)), (0, (c : Int)), (0, 3)] [] := by
    intro m' hm hk
    refine ac_aload_n (q := 45) dX3_repaint_44 rfl rfl ?_
    refine ac_get (q := 48) dX3_repaint_45 fl_X3_18 (by assumption) rfl (ac_rdr rfl (by assumption)) ?_
    refine ac_iload_n (q := 49) dX3_repaint_48 rfl rfl ?_
    refine ac_dup2_11 (q := 50) dX3_repaint_49 rfl (show (0 : Nat) ≠ 1 by decide) (show (2 : Nat) ≠ 1 by decide) ?_
    refine ac_ialoadN (q := 51) (j := c) (v := (ac_andn (ac_set l c) (2 ^ x) : Int)) dX3_repaint_50 (by assumption) (by decide) (by omega) rfl (hm c (by omega)) ?_
    refine ac_iconst (q := 52) dX3_repaint_51 rfl ?_
    refine ac_iload_n (q := 53) dX3_repaint_52 rfl rfl ?_
    refine ac_ishl1 (q := 54) dX3_repaint_53 rfl (by omega) ?_
    refine ac_ior (q := 55) dX3_repaint_54 rfl ?_
    refine ac_iastoreN (q := 56) (j := c) dX3_repaint_55 (by assumption) (by decide) (by omega) rfl ?_
    refine ac_return dX3_repaint_56 rfl (Nat.zero_le _) (Nat.zero_le _) ?_
    have hset : ∀ c', c' < 3 → ac_up m' (t + 3) c ((ac_andn (ac_set l c) (2 ^ x) ||| 2 ^ x : Nat) : Int) (t + 3) c' = (ac_set (l.set (x - 1) c) c' : Int) := by
      intro c' hc'
      rw [ac_set_set l (x - 1) c c' (by omega), show x - 1 + 1 = x by omega]
      by_cases h : c = c'
      · subst h; rw [if_pos rfl, ac_up_s]
      · rw [if_neg h, ac_up_j (fun q => h q.symm)]; exact hm c' hc'
    have hlen : (l.set (x - 1) c).length = n := by rw [List.length_set]; exact hl1
    refine ⟨rfl, rfl, ac_RT_colour hR9 ?_ ?_ ?_ ?_ ?_ ?_ ?_, ?_⟩
    · intro l' h'
      cases h'
      exact ⟨hlen, fun c' hc' => (List.mem_or_eq_of_mem_set hc').elim (hl2 c') (fun q => by omega)⟩
    · intro j hj; rw [ac_up_k (by omega), hk _ (by omega)]
    · rw [ac_up_k (by omega), hk _ (by omega), r6, hl]; rfl
    · funext j; rw [ac_up_k (by omega), hk _ (by omega)]
    · funext j; rw [ac_up_k (by omega), hk _ (by omega)]
    · intro c' hc'
      rw [hset c' hc']
      have := ac_set_lt (l := l.set (x - 1) c) c' (by omega)
      omega
    · intro l' h' c' hc'
      cases h'
      exact hset c' hc'
    · intro k' hk'; funext j; rw [ac_up_k (by omega), hk _ (by omega)]
  refine ac_aload_n (q := 1) dX3_repaint_0 rfl rfl ?_
  refine ac_iload_n (q := 2) dX3_repaint_1 rfl rfl ?_
  refine ac_cvp (q := 5) (k_X3_has (d := d - 1) (by omega) hT9 hR9 ⟨by omega, by omega⟩) ml_X3_62 (by assumption) dX3_repaint_2 rfl rfl rfl (by omega) (Nat.le_of_ble_eq_true rfl) (Nat.zero_le _) (Nat.zero_le _) ?_
  refine ac_bif_eq (q := 8) (tgt := 16) dX3_repaint_5 rfl rfl (fun h5 => ?_) (fun h5 => ?_)
  · exfalso; omega
  · refine ac_aload_n (q := 9) dX3_repaint_8 rfl rfl ?_
    refine ac_iload_n (q := 10) dX3_repaint_9 rfl rfl ?_
    refine ac_cvp (q := 13) (k_X3_hasColour (d := d - 1) (by omega) hT9 hR9 ⟨by omega, by omega⟩) ml_X3_65 (by assumption) dX3_repaint_10 rfl rfl rfl (by omega) (Nat.le_of_ble_eq_true rfl) (Nat.zero_le _) (Nat.zero_le _) ?_
    refine ac_bif_ne (q := 16) (tgt := 17) dX3_repaint_13 rfl rfl (fun h13 => ?_) (fun h13 => ?_)
    · refine ac_iconst (q := 18) dX3_repaint_17 rfl ?_
      refine ac_istore_n (q := 19) (j := 3) rfl dX3_repaint_18 rfl (Nat.le_of_ble_eq_true rfl) rfl rfl ?_
      simp only [List.set_cons_succ, List.set_cons_zero]
      refine ac_iload_n (q := 20) dX3_repaint_19 rfl rfl ?_
      refine ac_iconst (q := 21) dX3_repaint_20 rfl ?_
      refine ac_icmp_ge (q := 24) (tgt := 44) dX3_repaint_21 rfl rfl ⟨by omega, by omega⟩ ⟨by omega, by omega⟩ (fun h21 => ?_) (fun h21 => ?_)
      · exact absurd h21 (by decide)
      · refine ac_aload_n (q := 25) dX3_repaint_24 rfl rfl ?_
        refine ac_get (q := 28) dX3_repaint_25 fl_X3_18 (by assumption) rfl (ac_rdr rfl (by assumption)) ?_
        refine ac_iload_n (q := 29) dX3_repaint_28 rfl rfl ?_
        refine ac_dup2_11 (q := 30) dX3_repaint_29 rfl (show (0 : Nat) ≠ 1 by decide) (show (2 : Nat) ≠ 1 by decide) ?_
        refine ac_ialoadN (q := 31) (j := 0) (v := (ac_set l 0 : Int)) dX3_repaint_30 (by assumption) (by decide) (by decide) rfl (by first | exact rc l hl _ (by decide) | (rw [ac_up_j (by decide)]; exact rc l hl _ (by decide)) | (rw [ac_up_j (by decide), ac_up_j (by decide)]; exact rc l hl _ (by decide))) ?_
        refine ac_iconst (q := 32) dX3_repaint_31 rfl ?_
        refine ac_iload_n (q := 33) dX3_repaint_32 rfl rfl ?_
        refine ac_ishl1 (q := 34) (k := x) dX3_repaint_33 rfl (by omega) ?_
        refine ac_iconst (q := 35) dX3_repaint_34 rfl ?_
        refine ac_ixor (q := 36) dX3_repaint_35 rfl ?_
        refine ac_iandn (q := 37) dX3_repaint_36 rfl ?_
        refine ac_iastoreN (q := 38) (j := 0) dX3_repaint_37 (by assumption) (by decide) (by decide) rfl ?_
        refine ac_iinc (q := 41) (v := 1) dX3_repaint_38 rfl (Nat.le_of_ble_eq_true rfl) rfl rfl rfl rfl ?_
        simp only [List.set_cons_succ, List.set_cons_zero]
        refine ac_goto (q := 19) dX3_repaint_41 rfl ?_
        refine ac_iload_n (q := 20) dX3_repaint_19 rfl rfl ?_
        refine ac_iconst (q := 21) dX3_repaint_20 rfl ?_
        refine ac_icmp_ge (q := 24) (tgt := 44) dX3_repaint_21 rfl rfl ⟨by omega, by omega⟩ ⟨by omega, by omega⟩ (fun h21 => ?_) (fun h21 => ?_)
        · exact absurd h21 (by decide)
        · refine ac_aload_n (q := 25) dX3_repaint_24 rfl rfl ?_
          refine ac_get (q := 28) dX3_repaint_25 fl_X3_18 (by assumption) rfl (ac_rdr rfl (by assumption)) ?_
          refine ac_iload_n (q := 29) dX3_repaint_28 rfl rfl ?_
          refine ac_dup2_11 (q := 30) dX3_repaint_29 rfl (show (0 : Nat) ≠ 1 by decide) (show (2 : Nat) ≠ 1 by decide) ?_
          refine ac_ialoadN (q := 31) (j := 1) (v := (ac_set l 1 : Int)) dX3_repaint_30 (by assumption) (by decide) (by decide) rfl (by first | exact rc l hl _ (by decide) | (rw [ac_up_j (by decide)]; exact rc l hl _ (by decide)) | (rw [ac_up_j (by decide), ac_up_j (by decide)]; exact rc l hl _ (by decide))) ?_
          refine ac_iconst (q := 32) dX3_repaint_31 rfl ?_
          refine ac_iload_n (q := 33) dX3_repaint_32 rfl rfl ?_
          refine ac_ishl1 (q := 34) (k := x) dX3_repaint_33 rfl (by omega) ?_
          refine ac_iconst (q := 35) dX3_repaint_34 rfl ?_
          refine ac_ixor (q := 36) dX3_repaint_35 rfl ?_
          refine ac_iandn (q := 37) dX3_repaint_36 rfl ?_
          refine ac_iastoreN (q := 38) (j := 1) dX3_repaint_37 (by assumption) (by decide) (by decide) rfl ?_
          refine ac_iinc (q := 41) (v := 2) dX3_repaint_38 rfl (Nat.le_of_ble_eq_true rfl) rfl rfl rfl rfl ?_
          simp only [List.set_cons_succ, List.set_cons_zero]
          refine ac_goto (q := 19) dX3_repaint_41 rfl ?_
          refine ac_iload_n (q := 20) dX3_repaint_19 rfl rfl ?_
          refine ac_iconst (q := 21) dX3_repaint_20 rfl ?_
          refine ac_icmp_ge (q := 24) (tgt := 44) dX3_repaint_21 rfl rfl ⟨by omega, by omega⟩ ⟨by omega, by omega⟩ (fun h21 => ?_) (fun h21 => ?_)
          · exact absurd h21 (by decide)
          · refine ac_aload_n (q := 25) dX3_repaint_24 rfl rfl ?_
            refine ac_get (q := 28) dX3_repaint_25 fl_X3_18 (by assumption) rfl (ac_rdr rfl (by assumption)) ?_
            refine ac_iload_n (q := 29) dX3_repaint_28 rfl rfl ?_
            refine ac_dup2_11 (q := 30) dX3_repaint_29 rfl (show (0 : Nat) ≠ 1 by decide) (show (2 : Nat) ≠ 1 by decide) ?_
            refine ac_ialoadN (q := 31) (j := 2) (v := (ac_set l 2 : Int)) dX3_repaint_30 (by assumption) (by decide) (by decide) rfl (by first | exact rc l hl _ (by decide) | (rw [ac_up_j (by decide)]; exact rc l hl _ (by decide)) | (rw [ac_up_j (by decide), ac_up_j (by decide)]; exact rc l hl _ (by decide))) ?_
            refine ac_iconst (q := 32) dX3_repaint_31 rfl ?_
            refine ac_iload_n (q := 33) dX3_repaint_32 rfl rfl ?_
            refine ac_ishl1 (q := 34) (k := x) dX3_repaint_33 rfl (by omega) ?_
            refine ac_iconst (q := 35) dX3_repaint_34 rfl ?_
            refine ac_ixor (q := 36) dX3_repaint_35 rfl ?_
            refine ac_iandn (q := 37) dX3_repaint_36 rfl ?_
            refine ac_iastoreN (q := 38) (j := 2) dX3_repaint_37 (by assumption) (by decide) (by decide) rfl ?_
            refine ac_iinc (q := 41) (v := 3) dX3_repaint_38 rfl (Nat.le_of_ble_eq_true rfl) rfl rfl rfl rfl ?_
            simp only [List.set_cons_succ, List.set_cons_zero]
            refine ac_goto (q := 19) dX3_repaint_41 rfl ?_
            refine ac_iload_n (q := 20) dX3_repaint_19 rfl rfl ?_
            refine ac_iconst (q := 21) dX3_repaint_20 rfl ?_
            refine ac_icmp_ge (q := 24) (tgt := 44) dX3_repaint_21 rfl rfl ⟨by omega, by omega⟩ ⟨by omega, by omega⟩ (fun h21 => ?_) (fun h21 => ?_)
            · refine tail _ ?_ ?_
              · intro j hj
                rcases (show j = 0 ∨ j = 1 ∨ j = 2 by omega) with rfl | rfl | rfl <;> simp [ac_up]
              · intro k' hk'; funext j; rw [ac_up_k hk', ac_up_k hk', ac_up_k hk']
            · exact absurd h21 (by decide)
    · exfalso; omega
