set_option maxHeartbeats 8000000 in
theorem k_X7_in {G : ac_G} {Y : ac_Y} {mm : ac_M} {d : Nat} {v a b : Int} (hd : 1 ≤ d) (hv : ac_il v) (ha : ac_il a) (hb : ac_il b) : ac_C G yX7_in cX7_in 6 (some .boolean) d 0 0 Y mm [(1, v), (1, a), (1, b)] (ac_R Y [(0, ac_b (a ≤ v ∧ v ≤ b))] (fun m => m = mm)) := by
  obtain ⟨hv1, hv2⟩ := hv
  obtain ⟨ha1, ha2⟩ := ha
  obtain ⟨hb1, hb2⟩ := hb
  refine ac_met (on := (RX7, "in")) rfl rfl (Nat.le_of_ble_eq_true rfl) (ls := [(1, v), (3, 0), (1, a), (3, 0), (1, b), (3, 0)]) rfl ?_
  refine ac_lload_n (q := 1) dX7_in_0 rfl rfl ?_
  refine ac_lload_n (q := 2) dX7_in_1 rfl rfl ?_
  refine ac_lcmp (q := 3) dX7_in_2 rfl ⟨by omega, by omega⟩ ⟨by omega, by omega⟩ (fun v2 hv2 => ?_)
  refine ac_if_lt (q := 6) (tgt := 17) dX7_in_3 rfl rfl ⟨by omega, by omega⟩ (fun h3 => ?_) (fun h3 => ?_)
  · refine ac_iconst (q := 18) dX7_in_17 rfl ?_
    refine ac_zreturn dX7_in_18 rfl (by first | exact ac_b01 | omega) (Nat.zero_le _) (Nat.zero_le _) ?_
    first | exact ⟨ac_l1 (by omega), rfl, rfl⟩ | exact ⟨ac_l0 (by omega), rfl, rfl⟩
  · refine ac_lload_n (q := 7) dX7_in_6 rfl rfl ?_
    refine ac_lload (q := 9) dX7_in_7 rfl rfl ?_
    refine ac_lcmp (q := 10) dX7_in_9 rfl ⟨by omega, by omega⟩ ⟨by omega, by omega⟩ (fun v9 hv9 => ?_)
    refine ac_if_gt (q := 13) (tgt := 17) dX7_in_10 rfl rfl ⟨by omega, by omega⟩ (fun h10 => ?_) (fun h10 => ?_)
    · refine ac_iconst (q := 18) dX7_in_17 rfl ?_
      refine ac_zreturn dX7_in_18 rfl (by first | exact ac_b01 | omega) (Nat.zero_le _) (Nat.zero_le _) ?_
      first | exact ⟨ac_l1 (by omega), rfl, rfl⟩ | exact ⟨ac_l0 (by omega), rfl, rfl⟩
    · refine ac_iconst (q := 14) dX7_in_13 rfl ?_
      refine ac_goto (q := 18) dX7_in_14 rfl ?_
      refine ac_zreturn dX7_in_18 rfl (by first | exact ac_b01 | omega) (Nat.zero_le _) (Nat.zero_le _) ?_
      first | exact ⟨ac_l1 (by omega), rfl, rfl⟩ | exact ⟨ac_l0 (by omega), rfl, rfl⟩

set_option maxHeartbeats 8000000 in
theorem k_X7_has {G : ac_G} {Y : ac_Y} {mm : ac_M} {d : Nat} {S k : Nat} (hd : 1 ≤ d) (hS : S < 2048) (hk : k < 31) : ac_C G yX7_has cX7_has 2 (some .boolean) d 0 0 Y mm [(0, (S : Int)), (0, (k : Int))] (ac_R Y [(0, ac_b (S.testBit k = true))] (fun m => m = mm)) := by
  refine ac_met (on := (RX7, "has")) rfl rfl (Nat.le_of_ble_eq_true rfl) (ls := [(0, (S : Int)), (0, (k : Int))]) rfl ?_
  refine ac_iload_n (q := 1) dX7_has_0 rfl rfl ?_
  refine ac_iload_n (q := 2) dX7_has_1 rfl rfl ?_
  refine ac_ishrN (q := 3) (k := k) dX7_has_2 rfl (by omega) (by omega) ?_
  refine ac_iconst (q := 4) dX7_has_3 rfl ?_
  refine ac_iand (q := 5) (b := 1) dX7_has_4 rfl ?_
  refine ac_top (w' := (0, (((S.testBit k).toNat : Nat) : Int))) (by rw [ac_bit1]) ?_
  refine ac_iconst (q := 6) dX7_has_5 rfl ?_
  refine ac_icmp_ne (q := 9) (tgt := 13) dX7_has_6 rfl rfl (ac_tn_in _) ⟨by omega, by omega⟩ (fun h6 => ?_) (fun h6 => ?_)
  · have hf : ¬ S.testBit k = true := fun q => h6 (by rw [q]; rfl)
    refine ac_iconst (q := 14) dX7_has_13 rfl ?_
    refine ac_zreturn dX7_has_14 rfl (by first | exact ac_b01 | omega) (Nat.zero_le _) (Nat.zero_le _) ?_
    first | exact ⟨ac_l1 hf, rfl, rfl⟩ | exact ⟨ac_l0 hf, rfl, rfl⟩
  · have hf : S.testBit k = true := ac_tn1 (fun q => by rw [q] at h6; exact absurd h6 (by decide))
    refine ac_iconst (q := 10) dX7_has_9 rfl ?_
    refine ac_goto (q := 14) dX7_has_10 rfl ?_
    refine ac_zreturn dX7_has_14 rfl (by first | exact ac_b01 | omega) (Nat.zero_le _) (Nat.zero_le _) ?_
    first | exact ⟨ac_l1 hf, rfl, rfl⟩ | exact ⟨ac_l0 hf, rfl, rfl⟩

theorem ac_ones_ok (S : Nat) : ac_sm (fun i => (S.testBit i).toNat) 12 = ac_bits S := by
  unfold ac_bits
  have key : ∀ n, ac_sm (fun i => (S.testBit i).toNat) n = (List.range n).countP (fun i => S.testBit i) := by
    intro n
    induction n with
    | zero => rfl
    | succ n ih =>
      rw [ac_sm, ih, List.range_succ, List.countP_append, List.countP_cons, List.countP_nil, Nat.zero_add]
      cases S.testBit n <;> rfl
  exact key 12

set_option maxHeartbeats 8000000 in
theorem k_X7_ones {G : ac_G} {Y : ac_Y} {mm : ac_M} {d : Nat} {S : Nat} (hd : 1 ≤ d) (hS : S < 2147483648) : ac_C G yX7_ones cX7_ones 3 (some .int) d 0 0 Y mm [(0, (S : Int))] (ac_R Y [(0, ((ac_bits S : Nat) : Int))] (fun m => m = mm)) := by
  have loop : ∀ (r i : Nat), i + r = 12 → ac_V G (RX7, "ones") cX7_ones 3 (some .int) d 0 0 (ac_R Y [(0, ((ac_bits S : Nat) : Int))] (fun m => m = mm)) 0 0 Y mm 4 [(0, (S : Int)), (0, ((ac_sm (fun i => (S.testBit i).toNat) i : Nat) : Int)), (0, (i : Int))] [] := by
    intro r
    induction r with
    | zero =>
      intro i hi
      obtain rfl : i = 12 := by omega
      refine ac_iload_n (q := 5) dX7_ones_4 rfl rfl ?_
      refine ac_bipush (q := 7) dX7_ones_5 rfl (by decide) ?_
      refine ac_icmp_ge (q := 10) (tgt := 24) dX7_ones_7 rfl rfl ⟨by omega, by omega⟩ ⟨by omega, by omega⟩ (fun h7 => ?_) (fun h7 => ?_)
      · refine ac_iload_n (q := 25) dX7_ones_24 rfl rfl ?_
        refine ac_ireturn dX7_ones_25 rfl (Nat.zero_le _) (Nat.zero_le _) ?_
        exact ⟨by rw [ac_ones_ok], rfl, rfl⟩
      · exfalso; omega
    | succ r ih =>
      intro i hi
      have ei : ((i : Nat) : Int) + 1 = ((i + 1 : Nat) : Int) := rfl
      have hs := ih (i + 1) (by omega)
      refine ac_iload_n (q := 5) dX7_ones_4 rfl rfl ?_
      refine ac_bipush (q := 7) dX7_ones_5 rfl (by decide) ?_
      refine ac_icmp_ge (q := 10) (tgt := 24) dX7_ones_7 rfl rfl ⟨by omega, by omega⟩ ⟨by omega, by omega⟩ (fun h7 => ?_) (fun h7 => ?_)
      · exfalso; omega
      · refine ac_iload_n (q := 11) dX7_ones_10 rfl rfl ?_
        refine ac_iload_n (q := 12) dX7_ones_11 rfl rfl ?_
        refine ac_iload_n (q := 13) dX7_ones_12 rfl rfl ?_
        refine ac_ishrN (q := 14) (k := i) dX7_ones_13 rfl hS (by omega) ?_
        refine ac_iconst (q := 15) dX7_ones_14 rfl ?_
        refine ac_iand (q := 16) (b := 1) dX7_ones_15 rfl ?_
        refine ac_top (w' := (0, (((S.testBit i).toNat : Nat) : Int))) (by rw [ac_bit1]) ?_
        refine ac_iadd (q := 17) dX7_ones_16 rfl ?_
        refine ac_istore_n (q := 18) (j := 1) rfl dX7_ones_17 rfl (Nat.le_of_ble_eq_true rfl) rfl rfl ?_
        simp only [List.set_cons_succ, List.set_cons_zero]
        refine ac_iinc (q := 21) dX7_ones_18 rfl (Nat.le_of_ble_eq_true rfl) rfl rfl rfl rfl ?_
        simp only [List.set_cons_succ, List.set_cons_zero]
        refine ac_goto (q := 4) dX7_ones_21 rfl ?_
        exact ac_ls (by rw [ei]; rfl) hs
  refine ac_met (on := (RX7, "ones")) rfl rfl (Nat.le_of_ble_eq_true rfl) (ls := [(0, (S : Int)), (3, 0), (3, 0)]) rfl ?_
  refine ac_iconst (q := 1) dX7_ones_0 rfl ?_
  refine ac_istore_n (q := 2) (j := 1) rfl dX7_ones_1 rfl (Nat.le_of_ble_eq_true rfl) rfl rfl ?_
  simp only [List.set_cons_succ, List.set_cons_zero]
  refine ac_iconst (q := 3) dX7_ones_2 rfl ?_
  refine ac_istore_n (q := 4) (j := 2) rfl dX7_ones_3 rfl (Nat.le_of_ble_eq_true rfl) rfl rfl ?_
  simp only [List.set_cons_succ, List.set_cons_zero]
  exact loop 12 0 rfl

set_option maxHeartbeats 8000000 in
theorem k_X7_power {G : ac_G} {Y : ac_Y} {mm : ac_M} {d : Nat} {a e : Nat} (hd : 1 ≤ d) (he : e < 100) : ac_C G yX7_power cX7_power 4 (some .int) d 0 0 Y mm [(0, (a : Int)), (0, (e : Int))] (ac_R Y [(0, ((a ^ e : Nat) : Int))] (fun m => m = mm)) := by
  have loop : ∀ (r i : Nat), i + r = e → ac_V G (RX7, "power") cX7_power 4 (some .int) d 0 0 (ac_R Y [(0, ((a ^ e : Nat) : Int))] (fun m => m = mm)) 0 0 Y mm 4 [(0, (a : Int)), (0, (e : Int)), (0, ((a ^ i : Nat) : Int)), (0, (i : Int))] [] := by
    intro r
    induction r with
    | zero =>
      intro i hi
      obtain rfl : i = e := by omega
      refine ac_iload_n (q := 5) dX7_power_4 rfl rfl ?_
      refine ac_iload_n (q := 6) dX7_power_5 rfl rfl ?_
      refine ac_icmp_ge (q := 9) (tgt := 19) dX7_power_6 rfl rfl ⟨by omega, by omega⟩ ⟨by omega, by omega⟩ (fun h6 => ?_) (fun h6 => ?_)
      · refine ac_iload_n (q := 20) dX7_power_19 rfl rfl ?_
        refine ac_ireturn dX7_power_20 rfl (Nat.zero_le _) (Nat.zero_le _) ?_
        exact ⟨rfl, rfl, rfl⟩
      · exfalso; omega
    | succ r ih =>
      intro i hi
      have ei : ((i : Nat) : Int) + 1 = ((i + 1 : Nat) : Int) := rfl
      have hs := ih (i + 1) (by omega)
      rw [Nat.pow_succ, Int.natCast_mul] at hs
      refine ac_iload_n (q := 5) dX7_power_4 rfl rfl ?_
      refine ac_iload_n (q := 6) dX7_power_5 rfl rfl ?_
      refine ac_icmp_ge (q := 9) (tgt := 19) dX7_power_6 rfl rfl ⟨by omega, by omega⟩ ⟨by omega, by omega⟩ (fun h6 => ?_) (fun h6 => ?_)
      · exfalso; omega
      · refine ac_iload_n (q := 10) dX7_power_9 rfl rfl ?_
        refine ac_iload_n (q := 11) dX7_power_10 rfl rfl ?_
        refine ac_imul (q := 12) dX7_power_11 rfl ?_
        refine ac_istore_n (q := 13) (j := 2) rfl dX7_power_12 rfl (Nat.le_of_ble_eq_true rfl) rfl rfl ?_
        simp only [List.set_cons_succ, List.set_cons_zero]
        refine ac_iinc (q := 16) dX7_power_13 rfl (Nat.le_of_ble_eq_true rfl) rfl rfl rfl rfl ?_
        simp only [List.set_cons_succ, List.set_cons_zero]
        refine ac_goto (q := 4) dX7_power_16 rfl ?_
        exact ac_ls (by rw [ei]) hs
  refine ac_met (on := (RX7, "power")) rfl rfl (Nat.le_of_ble_eq_true rfl) (ls := [(0, (a : Int)), (0, (e : Int)), (3, 0), (3, 0)]) rfl ?_
  refine ac_iconst (q := 1) dX7_power_0 rfl ?_
  refine ac_istore_n (q := 2) (j := 2) rfl dX7_power_1 rfl (Nat.le_of_ble_eq_true rfl) rfl rfl ?_
  simp only [List.set_cons_succ, List.set_cons_zero]
  refine ac_iconst (q := 3) dX7_power_2 rfl ?_
  refine ac_istore_n (q := 4) (j := 3) rfl dX7_power_3 rfl (Nat.le_of_ble_eq_true rfl) rfl rfl ?_
  simp only [List.set_cons_succ, List.set_cons_zero]
  exact loop e 0 (by omega)

set_option maxHeartbeats 8000000 in
theorem k_X7_third {G : ac_G} {Y : ac_Y} {mm : ac_M} {d : Nat} {r e : Nat} {E : List ac_Eq} {q : ac_Eq} {a b u : Int} (hd : 2 ≤ d) (hk : Y.2.1 r = (1, 39)) (rE : ac_E mm r 2 E) (hE : ac_okE E) (hq : E[e]? = some q) (ha : 1 ≤ a ∧ a ≤ 10) (hb : 1 ≤ b ∧ b ≤ 10) (hu : 0 ≤ u ∧ u ≤ 10) : ac_C G yX7_third cX7_third 9 (some .int) d 0 0 Y mm [(2, (r : Int)), (0, (e : Int)), (0, a), (0, b), (0, u)] (ac_R Y [(0, ac_th q a b u)] (fun m => m = mm)) := by
  obtain ⟨hE1, hE2⟩ := hE
  have he := (List.getElem?_eq_some_iff.mp hq).1
  obtain ⟨⟨⟨q1, q2⟩, -⟩, ⟨⟨q3, q4⟩, -⟩, ⟨⟨q5, q6⟩, q7⟩, q8⟩ := hE2 q (List.mem_of_getElem? hq)
  obtain ⟨ha1, ha2⟩ := ha
  obtain ⟨hb1, hb2⟩ := hb
  obtain ⟨hu1, hu2⟩ := hu
  obtain ⟨b1, b2⟩ := ac_mul4 (x := a) q1 q2 (by omega) (by omega)
  obtain ⟨b3, b4⟩ := ac_mul4 (x := b) q3 q4 (by omega) (by omega)
  have hz := Int.natAbs_tdiv_le_natAbs (q.1 * a + q.2.1 * b) q.2.2.1
  have hthd : ac_th q a b u = if q.2.2.1 = 0 ∨ (q.1 * a + q.2.1 * b).tmod q.2.2.1 ≠ 0 then 0
    else if (q.1 * a + q.2.1 * b).tdiv q.2.2.1 < 1 ∨ u < (q.1 * a + q.2.1 * b).tdiv q.2.2.1 ∨ ((a = b ∨ a = (q.1 * a + q.2.1 * b).tdiv q.2.2.1 ∨ b = (q.1 * a + q.2.1 * b).tdiv q.2.2.1) ∧ q.2.2.2 = 1) then 0
    else (q.1 * a + q.2.1 * b).tdiv q.2.2.1 := rfl
  generalize ac_th q a b u = R at *
  refine ac_met (on := (RX7, "third")) rfl rfl (Nat.le_of_ble_eq_true rfl) (ls := [(2, (r : Int)), (0, (e : Int)), (0, a), (0, b), (0, u), (3, 0), (3, 0), (3, 0), (3, 0)]) rfl ?_
  refine ac_iconst (q := 1) dX7_third_0 rfl ?_
  refine ac_iconst (q := 2) dX7_third_1 rfl ?_
  refine ac_iload_n (q := 3) dX7_third_2 rfl rfl ?_
  refine ac_imul (q := 4) dX7_third_3 rfl ?_
  refine ac_iadd (q := 5) dX7_third_4 rfl ?_
  refine ac_istore (q := 7) dX7_third_5 rfl (Nat.le_of_ble_eq_true rfl) rfl rfl ?_
  simp only [List.set_cons_succ, List.set_cons_zero]
  refine ac_aload_n (q := 8) dX7_third_7 rfl rfl ?_
  refine ac_iload (q := 10) dX7_third_8 rfl rfl ?_
  refine ac_iaload (q := 11) (v := ac_qc q 0) dX7_third_10 hk (by decide) ⟨by omega, by omega⟩ rfl (ac_Eget rE hq (by decide) (by omega)) ?_
  refine ac_top (w' := (0, q.1)) rfl ?_
  refine ac_iload_n (q := 12) dX7_third_11 rfl rfl ?_
  refine ac_imul (q := 13) dX7_third_12 rfl ?_
  refine ac_aload_n (q := 14) dX7_third_13 rfl rfl ?_
  refine ac_iload (q := 16) dX7_third_14 rfl rfl ?_
  refine ac_iconst (q := 17) dX7_third_16 rfl ?_
  refine ac_iadd (q := 18) dX7_third_17 rfl ?_
  refine ac_iaload (q := 19) (v := ac_qc q 1) dX7_third_18 hk (by decide) ⟨by omega, by omega⟩ rfl (ac_Eget rE hq (by decide) (by omega)) ?_
  refine ac_top (w' := (0, q.2.1)) rfl ?_
  refine ac_iload_n (q := 20) dX7_third_19 rfl rfl ?_
  refine ac_imul (q := 21) dX7_third_20 rfl ?_
  refine ac_iadd (q := 22) dX7_third_21 rfl ?_
  refine ac_istore (q := 24) dX7_third_22 rfl (Nat.le_of_ble_eq_true rfl) rfl rfl ?_
  simp only [List.set_cons_succ, List.set_cons_zero]
  refine ac_iload (q := 26) dX7_third_24 rfl rfl ?_
  refine ac_aload_n (q := 27) dX7_third_26 rfl rfl ?_
  refine ac_iload (q := 29) dX7_third_27 rfl rfl ?_
  refine ac_iconst (q := 30) dX7_third_29 rfl ?_
  refine ac_iadd (q := 31) dX7_third_30 rfl ?_
  refine ac_iaload (q := 32) (v := ac_qc q 2) dX7_third_31 hk (by decide) ⟨by omega, by omega⟩ rfl (ac_Eget rE hq (by decide) (by omega)) ?_
  refine ac_top (w' := (0, q.2.2.1)) rfl ?_
  refine ac_irem (q := 33) dX7_third_32 rfl ⟨by omega, by omega⟩ ⟨by omega, by omega⟩ (by omega) (by omega) ?_
  refine ac_if_ne (q := 36) (tgt := 48) dX7_third_33 rfl rfl (ac_tmodin b1 b2 b3 b4) (fun h33 => ?_) (fun h33 => ?_)
  · rw [if_pos (Or.inr h33)] at hthd
    refine ac_iconst (q := 49) dX7_third_48 rfl ?_
    refine ac_istore (q := 51) dX7_third_49 rfl (Nat.le_of_ble_eq_true rfl) rfl rfl ?_
    simp only [List.set_cons_succ, List.set_cons_zero]
    refine ac_aload_n (q := 52) dX7_third_51 rfl rfl ?_
    refine ac_iload (q := 54) dX7_third_52 rfl rfl ?_
    refine ac_iconst (q := 55) dX7_third_54 rfl ?_
    refine ac_iadd (q := 56) dX7_third_55 rfl ?_
    refine ac_iaload (q := 57) (v := ac_qc q 3) dX7_third_56 hk (by decide) ⟨by omega, by omega⟩ rfl (ac_Eget rE hq (by decide) (by omega)) ?_
    refine ac_top (w' := (0, q.2.2.2)) rfl ?_
    refine ac_iconst (q := 58) dX7_third_57 rfl ?_
    refine ac_icmp_ne (q := 61) (tgt := 65) dX7_third_58 rfl rfl ⟨by omega, by omega⟩ ⟨by omega, by omega⟩ (fun h58 => ?_) (fun h58 => ?_)
    · refine ac_iconst (q := 66) dX7_third_65 rfl ?_
      refine ac_istore (q := 68) dX7_third_66 rfl (Nat.le_of_ble_eq_true rfl) rfl rfl ?_
      simp only [List.set_cons_succ, List.set_cons_zero]
      refine ac_iload (q := 70) dX7_third_68 rfl rfl ?_
      refine ac_i2l (q := 71) dX7_third_70 rfl ⟨by omega, by omega⟩ ?_
      refine ac_lconst (q := 72) (v := 1) dX7_third_71 rfl (by decide) ?_
      refine ac_iload (q := 74) dX7_third_72 rfl rfl ?_
      refine ac_i2l (q := 75) dX7_third_74 rfl ⟨by omega, by omega⟩ ?_
      refine ac_csp (q := 78) (k_X7_in (d := d - 1) (by omega) ⟨by omega, by omega⟩ ⟨by omega, by omega⟩ ⟨by omega, by omega⟩) ml_X7_72 dX7_third_75 rfl rfl rfl (by omega) (Nat.le_of_ble_eq_true rfl) (Nat.zero_le _) (Nat.zero_le _) ?_
      refine ac_bif_eq (q := 81) (tgt := 103) dX7_third_78 rfl rfl (fun h78 => ?_) (fun h78 => ?_)
      · refine ac_iconst (q := 104) dX7_third_103 rfl ?_
        refine ac_goto (q := 109) dX7_third_104 rfl ?_
        refine ac_ireturn dX7_third_109 rfl (Nat.zero_le _) (Nat.zero_le _) ?_
        first
          | (exfalso; omega)
          | (subst hthd; exact ⟨rfl, rfl, rfl⟩)
          | (rw [if_pos (by omega)] at hthd; subst hthd; exact ⟨rfl, rfl, rfl⟩)
          | (rw [if_neg (by omega)] at hthd; subst hthd; exact ⟨rfl, rfl, rfl⟩)
      · refine ac_iload (q := 83) dX7_third_81 rfl rfl ?_
        refine ac_if_eq (q := 86) (tgt := 107) dX7_third_83 rfl rfl ⟨by omega, by omega⟩ (fun h83 => ?_) (fun h83 => ?_)
        · refine ac_iload (q := 109) dX7_third_107 rfl rfl ?_
          refine ac_ireturn dX7_third_109 rfl (Nat.zero_le _) (Nat.zero_le _) ?_
          first
            | (exfalso; omega)
            | (subst hthd; exact ⟨rfl, rfl, rfl⟩)
            | (rw [if_pos (by omega)] at hthd; subst hthd; exact ⟨rfl, rfl, rfl⟩)
            | (rw [if_neg (by omega)] at hthd; subst hthd; exact ⟨rfl, rfl, rfl⟩)
        · exact absurd h83 (by decide)
    · refine ac_iconst (q := 62) dX7_third_61 rfl ?_
      refine ac_goto (q := 66) dX7_third_62 rfl ?_
      refine ac_istore (q := 68) dX7_third_66 rfl (Nat.le_of_ble_eq_true rfl) rfl rfl ?_
      simp only [List.set_cons_succ, List.set_cons_zero]
      refine ac_iload (q := 70) dX7_third_68 rfl rfl ?_
      refine ac_i2l (q := 71) dX7_third_70 rfl ⟨by omega, by omega⟩ ?_
      refine ac_lconst (q := 72) (v := 1) dX7_third_71 rfl (by decide) ?_
      refine ac_iload (q := 74) dX7_third_72 rfl rfl ?_
      refine ac_i2l (q := 75) dX7_third_74 rfl ⟨by omega, by omega⟩ ?_
      refine ac_csp (q := 78) (k_X7_in (d := d - 1) (by omega) ⟨by omega, by omega⟩ ⟨by omega, by omega⟩ ⟨by omega, by omega⟩) ml_X7_72 dX7_third_75 rfl rfl rfl (by omega) (Nat.le_of_ble_eq_true rfl) (Nat.zero_le _) (Nat.zero_le _) ?_
      refine ac_bif_eq (q := 81) (tgt := 103) dX7_third_78 rfl rfl (fun h78 => ?_) (fun h78 => ?_)
      · refine ac_iconst (q := 104) dX7_third_103 rfl ?_
        refine ac_goto (q := 109) dX7_third_104 rfl ?_
        refine ac_ireturn dX7_third_109 rfl (Nat.zero_le _) (Nat.zero_le _) ?_
        first
          | (exfalso; omega)
          | (subst hthd; exact ⟨rfl, rfl, rfl⟩)
          | (rw [if_pos (by omega)] at hthd; subst hthd; exact ⟨rfl, rfl, rfl⟩)
          | (rw [if_neg (by omega)] at hthd; subst hthd; exact ⟨rfl, rfl, rfl⟩)
      · refine ac_iload (q := 83) dX7_third_81 rfl rfl ?_
        refine ac_if_eq (q := 86) (tgt := 107) dX7_third_83 rfl rfl ⟨by omega, by omega⟩ (fun h83 => ?_) (fun h83 => ?_)
        · exact absurd h83 (by decide)
        · refine ac_iload_n (q := 87) dX7_third_86 rfl rfl ?_
          refine ac_iload_n (q := 88) dX7_third_87 rfl rfl ?_
          refine ac_icmp_eq (q := 91) (tgt := 103) dX7_third_88 rfl rfl ⟨by omega, by omega⟩ ⟨by omega, by omega⟩ (fun h88 => ?_) (fun h88 => ?_)
          · refine ac_iconst (q := 104) dX7_third_103 rfl ?_
            refine ac_goto (q := 109) dX7_third_104 rfl ?_
            refine ac_ireturn dX7_third_109 rfl (Nat.zero_le _) (Nat.zero_le _) ?_
            first
              | (exfalso; omega)
              | (subst hthd; exact ⟨rfl, rfl, rfl⟩)
              | (rw [if_pos (by omega)] at hthd; subst hthd; exact ⟨rfl, rfl, rfl⟩)
              | (rw [if_neg (by omega)] at hthd; subst hthd; exact ⟨rfl, rfl, rfl⟩)
          · refine ac_iload_n (q := 92) dX7_third_91 rfl rfl ?_
            refine ac_iload (q := 94) dX7_third_92 rfl rfl ?_
            refine ac_icmp_eq (q := 97) (tgt := 103) dX7_third_94 rfl rfl ⟨by omega, by omega⟩ ⟨by omega, by omega⟩ (fun h94 => ?_) (fun h94 => ?_)
            · refine ac_iconst (q := 104) dX7_third_103 rfl ?_
              refine ac_goto (q := 109) dX7_third_104 rfl ?_
              refine ac_ireturn dX7_third_109 rfl (Nat.zero_le _) (Nat.zero_le _) ?_
              first
                | (exfalso; omega)
                | (subst hthd; exact ⟨rfl, rfl, rfl⟩)
                | (rw [if_pos (by omega)] at hthd; subst hthd; exact ⟨rfl, rfl, rfl⟩)
                | (rw [if_neg (by omega)] at hthd; subst hthd; exact ⟨rfl, rfl, rfl⟩)
            · refine ac_iload_n (q := 98) dX7_third_97 rfl rfl ?_
              refine ac_iload (q := 100) dX7_third_98 rfl rfl ?_
              refine ac_icmp_ne (q := 103) (tgt := 107) dX7_third_100 rfl rfl ⟨by omega, by omega⟩ ⟨by omega, by omega⟩ (fun h100 => ?_) (fun h100 => ?_)
              · refine ac_iload (q := 109) dX7_third_107 rfl rfl ?_
                refine ac_ireturn dX7_third_109 rfl (Nat.zero_le _) (Nat.zero_le _) ?_
                first
                  | (exfalso; omega)
                  | (subst hthd; exact ⟨rfl, rfl, rfl⟩)
                  | (rw [if_pos (by omega)] at hthd; subst hthd; exact ⟨rfl, rfl, rfl⟩)
                  | (rw [if_neg (by omega)] at hthd; subst hthd; exact ⟨rfl, rfl, rfl⟩)
              · refine ac_iconst (q := 104) dX7_third_103 rfl ?_
                refine ac_goto (q := 109) dX7_third_104 rfl ?_
                refine ac_ireturn dX7_third_109 rfl (Nat.zero_le _) (Nat.zero_le _) ?_
                first
                  | (exfalso; omega)
                  | (subst hthd; exact ⟨rfl, rfl, rfl⟩)
                  | (rw [if_pos (by omega)] at hthd; subst hthd; exact ⟨rfl, rfl, rfl⟩)
                  | (rw [if_neg (by omega)] at hthd; subst hthd; exact ⟨rfl, rfl, rfl⟩)
  · rw [if_neg (by omega)] at hthd
    refine ac_iload (q := 38) dX7_third_36 rfl rfl ?_
    refine ac_aload_n (q := 39) dX7_third_38 rfl rfl ?_
    refine ac_iload (q := 41) dX7_third_39 rfl rfl ?_
    refine ac_iconst (q := 42) dX7_third_41 rfl ?_
    refine ac_iadd (q := 43) dX7_third_42 rfl ?_
    refine ac_iaload (q := 44) (v := ac_qc q 2) dX7_third_43 hk (by decide) ⟨by omega, by omega⟩ rfl (ac_Eget rE hq (by decide) (by omega)) ?_
    refine ac_top (w' := (0, q.2.2.1)) rfl ?_
    refine ac_idiv (q := 45) dX7_third_44 rfl ⟨by omega, by omega⟩ ⟨by omega, by omega⟩ (by omega) (by omega) ?_
    refine ac_goto (q := 49) dX7_third_45 rfl ?_
    refine ac_istore (q := 51) dX7_third_49 rfl (Nat.le_of_ble_eq_true rfl) rfl rfl ?_
    simp only [List.set_cons_succ, List.set_cons_zero]
    refine ac_aload_n (q := 52) dX7_third_51 rfl rfl ?_
    refine ac_iload (q := 54) dX7_third_52 rfl rfl ?_
    refine ac_iconst (q := 55) dX7_third_54 rfl ?_
    refine ac_iadd (q := 56) dX7_third_55 rfl ?_
    refine ac_iaload (q := 57) (v := ac_qc q 3) dX7_third_56 hk (by decide) ⟨by omega, by omega⟩ rfl (ac_Eget rE hq (by decide) (by omega)) ?_
    refine ac_top (w' := (0, q.2.2.2)) rfl ?_
    refine ac_iconst (q := 58) dX7_third_57 rfl ?_
    refine ac_icmp_ne (q := 61) (tgt := 65) dX7_third_58 rfl rfl ⟨by omega, by omega⟩ ⟨by omega, by omega⟩ (fun h58 => ?_) (fun h58 => ?_)
    · refine ac_iconst (q := 66) dX7_third_65 rfl ?_
      refine ac_istore (q := 68) dX7_third_66 rfl (Nat.le_of_ble_eq_true rfl) rfl rfl ?_
      simp only [List.set_cons_succ, List.set_cons_zero]
      refine ac_iload (q := 70) dX7_third_68 rfl rfl ?_
      refine ac_i2l (q := 71) dX7_third_70 rfl ⟨by omega, by omega⟩ ?_
      refine ac_lconst (q := 72) (v := 1) dX7_third_71 rfl (by decide) ?_
      refine ac_iload (q := 74) dX7_third_72 rfl rfl ?_
      refine ac_i2l (q := 75) dX7_third_74 rfl ⟨by omega, by omega⟩ ?_
      refine ac_csp (q := 78) (k_X7_in (d := d - 1) (by omega) ⟨by omega, by omega⟩ ⟨by omega, by omega⟩ ⟨by omega, by omega⟩) ml_X7_72 dX7_third_75 rfl rfl rfl (by omega) (Nat.le_of_ble_eq_true rfl) (Nat.zero_le _) (Nat.zero_le _) ?_
      refine ac_bif_eq (q := 81) (tgt := 103) dX7_third_78 rfl rfl (fun h78 => ?_) (fun h78 => ?_)
      · refine ac_iconst (q := 104) dX7_third_103 rfl ?_
        refine ac_goto (q := 109) dX7_third_104 rfl ?_
        refine ac_ireturn dX7_third_109 rfl (Nat.zero_le _) (Nat.zero_le _) ?_
        first
          | (exfalso; omega)
          | (subst hthd; exact ⟨rfl, rfl, rfl⟩)
          | (rw [if_pos (by omega)] at hthd; subst hthd; exact ⟨rfl, rfl, rfl⟩)
          | (rw [if_neg (by omega)] at hthd; subst hthd; exact ⟨rfl, rfl, rfl⟩)
      · refine ac_iload (q := 83) dX7_third_81 rfl rfl ?_
        refine ac_if_eq (q := 86) (tgt := 107) dX7_third_83 rfl rfl ⟨by omega, by omega⟩ (fun h83 => ?_) (fun h83 => ?_)
        · refine ac_iload (q := 109) dX7_third_107 rfl rfl ?_
          refine ac_ireturn dX7_third_109 rfl (Nat.zero_le _) (Nat.zero_le _) ?_
          first
            | (exfalso; omega)
            | (subst hthd; exact ⟨rfl, rfl, rfl⟩)
            | (rw [if_pos (by omega)] at hthd; subst hthd; exact ⟨rfl, rfl, rfl⟩)
            | (rw [if_neg (by omega)] at hthd; subst hthd; exact ⟨rfl, rfl, rfl⟩)
        · exact absurd h83 (by decide)
    · refine ac_iconst (q := 62) dX7_third_61 rfl ?_
      refine ac_goto (q := 66) dX7_third_62 rfl ?_
      refine ac_istore (q := 68) dX7_third_66 rfl (Nat.le_of_ble_eq_true rfl) rfl rfl ?_
      simp only [List.set_cons_succ, List.set_cons_zero]
      refine ac_iload (q := 70) dX7_third_68 rfl rfl ?_
      refine ac_i2l (q := 71) dX7_third_70 rfl ⟨by omega, by omega⟩ ?_
      refine ac_lconst (q := 72) (v := 1) dX7_third_71 rfl (by decide) ?_
      refine ac_iload (q := 74) dX7_third_72 rfl rfl ?_
      refine ac_i2l (q := 75) dX7_third_74 rfl ⟨by omega, by omega⟩ ?_
      refine ac_csp (q := 78) (k_X7_in (d := d - 1) (by omega) ⟨by omega, by omega⟩ ⟨by omega, by omega⟩ ⟨by omega, by omega⟩) ml_X7_72 dX7_third_75 rfl rfl rfl (by omega) (Nat.le_of_ble_eq_true rfl) (Nat.zero_le _) (Nat.zero_le _) ?_
      refine ac_bif_eq (q := 81) (tgt := 103) dX7_third_78 rfl rfl (fun h78 => ?_) (fun h78 => ?_)
      · refine ac_iconst (q := 104) dX7_third_103 rfl ?_
        refine ac_goto (q := 109) dX7_third_104 rfl ?_
        refine ac_ireturn dX7_third_109 rfl (Nat.zero_le _) (Nat.zero_le _) ?_
        first
          | (exfalso; omega)
          | (subst hthd; exact ⟨rfl, rfl, rfl⟩)
          | (rw [if_pos (by omega)] at hthd; subst hthd; exact ⟨rfl, rfl, rfl⟩)
          | (rw [if_neg (by omega)] at hthd; subst hthd; exact ⟨rfl, rfl, rfl⟩)
      · refine ac_iload (q := 83) dX7_third_81 rfl rfl ?_
        refine ac_if_eq (q := 86) (tgt := 107) dX7_third_83 rfl rfl ⟨by omega, by omega⟩ (fun h83 => ?_) (fun h83 => ?_)
        · exact absurd h83 (by decide)
        · refine ac_iload_n (q := 87) dX7_third_86 rfl rfl ?_
          refine ac_iload_n (q := 88) dX7_third_87 rfl rfl ?_
          refine ac_icmp_eq (q := 91) (tgt := 103) dX7_third_88 rfl rfl ⟨by omega, by omega⟩ ⟨by omega, by omega⟩ (fun h88 => ?_) (fun h88 => ?_)
          · refine ac_iconst (q := 104) dX7_third_103 rfl ?_
            refine ac_goto (q := 109) dX7_third_104 rfl ?_
            refine ac_ireturn dX7_third_109 rfl (Nat.zero_le _) (Nat.zero_le _) ?_
            first
              | (exfalso; omega)
              | (subst hthd; exact ⟨rfl, rfl, rfl⟩)
              | (rw [if_pos (by omega)] at hthd; subst hthd; exact ⟨rfl, rfl, rfl⟩)
              | (rw [if_neg (by omega)] at hthd; subst hthd; exact ⟨rfl, rfl, rfl⟩)
          · refine ac_iload_n (q := 92) dX7_third_91 rfl rfl ?_
            refine ac_iload (q := 94) dX7_third_92 rfl rfl ?_
            refine ac_icmp_eq (q := 97) (tgt := 103) dX7_third_94 rfl rfl ⟨by omega, by omega⟩ ⟨by omega, by omega⟩ (fun h94 => ?_) (fun h94 => ?_)
            · refine ac_iconst (q := 104) dX7_third_103 rfl ?_
              refine ac_goto (q := 109) dX7_third_104 rfl ?_
              refine ac_ireturn dX7_third_109 rfl (Nat.zero_le _) (Nat.zero_le _) ?_
              first
                | (exfalso; omega)
                | (subst hthd; exact ⟨rfl, rfl, rfl⟩)
                | (rw [if_pos (by omega)] at hthd; subst hthd; exact ⟨rfl, rfl, rfl⟩)
                | (rw [if_neg (by omega)] at hthd; subst hthd; exact ⟨rfl, rfl, rfl⟩)
            · refine ac_iload_n (q := 98) dX7_third_97 rfl rfl ?_
              refine ac_iload (q := 100) dX7_third_98 rfl rfl ?_
              refine ac_icmp_ne (q := 103) (tgt := 107) dX7_third_100 rfl rfl ⟨by omega, by omega⟩ ⟨by omega, by omega⟩ (fun h100 => ?_) (fun h100 => ?_)
              · refine ac_iload (q := 109) dX7_third_107 rfl rfl ?_
                refine ac_ireturn dX7_third_109 rfl (Nat.zero_le _) (Nat.zero_le _) ?_
                first
                  | (exfalso; omega)
                  | (subst hthd; exact ⟨rfl, rfl, rfl⟩)
                  | (rw [if_pos (by omega)] at hthd; subst hthd; exact ⟨rfl, rfl, rfl⟩)
                  | (rw [if_neg (by omega)] at hthd; subst hthd; exact ⟨rfl, rfl, rfl⟩)
              · refine ac_iconst (q := 104) dX7_third_103 rfl ?_
                refine ac_goto (q := 109) dX7_third_104 rfl ?_
                refine ac_ireturn dX7_third_109 rfl (Nat.zero_le _) (Nat.zero_le _) ?_
                first
                  | (exfalso; omega)
                  | (subst hthd; exact ⟨rfl, rfl, rfl⟩)
                  | (rw [if_pos (by omega)] at hthd; subst hthd; exact ⟨rfl, rfl, rfl⟩)
                  | (rw [if_neg (by omega)] at hthd; subst hthd; exact ⟨rfl, rfl, rfl⟩)

set_option maxHeartbeats 8000000 in
theorem k_X7_isRegular {G : ac_G} {Y : ac_Y} {mm : ac_M} {d : Nat} {r e : Nat} {E : List ac_Eq} {q : ac_Eq} (hd : 2 ≤ d) (hk : Y.2.1 r = (1, 39)) (rE : ac_E mm r 2 E) (hE : ac_okE E) (hq : E[e]? = some q) : ac_C G yX7_isRegular cX7_isRegular 6 (some .boolean) d 0 0 Y mm [(2, (r : Int)), (0, (e : Int))] (ac_R Y [(0, @ac_b (ac_reg q) (ac_regd q))] (fun m => m = mm)) := by
  obtain ⟨hE1, hE2⟩ := hE
  have he := (List.getElem?_eq_some_iff.mp hq).1
  obtain ⟨⟨⟨q1, q2⟩, -⟩, ⟨⟨q3, q4⟩, -⟩, ⟨⟨q5, q6⟩, q7⟩, q8⟩ := hE2 q (List.mem_of_getElem? hq)
  refine ac_met (on := (RX7, "isRegular")) rfl rfl (Nat.le_of_ble_eq_true rfl) (ls := [(2, (r : Int)), (0, (e : Int)), (3, 0), (3, 0), (3, 0), (3, 0)]) rfl ?_
  refine ac_iconst (q := 1) dX7_isRegular_0 rfl ?_
  refine ac_iconst (q := 2) dX7_isRegular_1 rfl ?_
  refine ac_iload_n (q := 3) dX7_isRegular_2 rfl rfl ?_
  refine ac_imul (q := 4) dX7_isRegular_3 rfl ?_
  refine ac_iadd (q := 5) dX7_isRegular_4 rfl ?_
  refine ac_istore_n (q := 6) (j := 2) rfl dX7_isRegular_5 rfl (Nat.le_of_ble_eq_true rfl) rfl rfl ?_
  simp only [List.set_cons_succ, List.set_cons_zero]
  refine ac_aload_n (q := 7) dX7_isRegular_6 rfl rfl ?_
  refine ac_iload_n (q := 8) dX7_isRegular_7 rfl rfl ?_
  refine ac_iaload (q := 9) (v := ac_qc q 0) dX7_isRegular_8 hk (by decide) ⟨by omega, by omega⟩ rfl (ac_Eget rE hq (by decide) (by omega)) ?_
  refine ac_top (w' := (0, q.1)) rfl ?_
  refine ac_istore_n (q := 10) (j := 3) rfl dX7_isRegular_9 rfl (Nat.le_of_ble_eq_true rfl) rfl rfl ?_
  simp only [List.set_cons_succ, List.set_cons_zero]
  refine ac_aload_n (q := 11) dX7_isRegular_10 rfl rfl ?_
  refine ac_iload_n (q := 12) dX7_isRegular_11 rfl rfl ?_
  refine ac_iconst (q := 13) dX7_isRegular_12 rfl ?_
  refine ac_iadd (q := 14) dX7_isRegular_13 rfl ?_
  refine ac_iaload (q := 15) (v := ac_qc q 1) dX7_isRegular_14 hk (by decide) ⟨by omega, by omega⟩ rfl (ac_Eget rE hq (by decide) (by omega)) ?_
  refine ac_top (w' := (0, q.2.1)) rfl ?_
  refine ac_istore (q := 17) dX7_isRegular_15 rfl (Nat.le_of_ble_eq_true rfl) rfl rfl ?_
  simp only [List.set_cons_succ, List.set_cons_zero]
  refine ac_aload_n (q := 18) dX7_isRegular_17 rfl rfl ?_
  refine ac_iload_n (q := 19) dX7_isRegular_18 rfl rfl ?_
  refine ac_iconst (q := 20) dX7_isRegular_19 rfl ?_
  refine ac_iadd (q := 21) dX7_isRegular_20 rfl ?_
  refine ac_iaload (q := 22) (v := ac_qc q 2) dX7_isRegular_21 hk (by decide) ⟨by omega, by omega⟩ rfl (ac_Eget rE hq (by decide) (by omega)) ?_
  refine ac_top (w' := (0, q.2.2.1)) rfl ?_
  refine ac_ineg (q := 23) dX7_isRegular_22 rfl ?_
  refine ac_istore (q := 25) dX7_isRegular_23 rfl (Nat.le_of_ble_eq_true rfl) rfl rfl ?_
  simp only [List.set_cons_succ, List.set_cons_zero]
  refine ac_iload_n (q := 26) dX7_isRegular_25 rfl rfl ?_
  refine ac_iload (q := 28) dX7_isRegular_26 rfl rfl ?_
  refine ac_iadd (q := 29) dX7_isRegular_28 rfl ?_
  refine ac_if_eq (q := 32) (tgt := 57) dX7_isRegular_29 rfl rfl ⟨by omega, by omega⟩ (fun h29 => ?_) (fun h29 => ?_)
  · refine ac_iconst (q := 58) dX7_isRegular_57 rfl ?_
    refine ac_goto (q := 62) dX7_isRegular_58 rfl ?_
    refine ac_zreturn dX7_isRegular_62 rfl (by first | exact ac_b01 | omega) (Nat.zero_le _) (Nat.zero_le _) ?_
    first | exact ⟨ac_l1 (c := ac_reg q) (by unfold ac_reg; omega), rfl, rfl⟩ | exact ⟨ac_l0 (c := ac_reg q) (by unfold ac_reg; omega), rfl, rfl⟩
  · refine ac_iload_n (q := 33) dX7_isRegular_32 rfl rfl ?_
    refine ac_iload (q := 35) dX7_isRegular_33 rfl rfl ?_
    refine ac_iadd (q := 36) dX7_isRegular_35 rfl ?_
    refine ac_if_eq (q := 39) (tgt := 57) dX7_isRegular_36 rfl rfl ⟨by omega, by omega⟩ (fun h36 => ?_) (fun h36 => ?_)
    · refine ac_iconst (q := 58) dX7_isRegular_57 rfl ?_
      refine ac_goto (q := 62) dX7_isRegular_58 rfl ?_
      refine ac_zreturn dX7_isRegular_62 rfl (by first | exact ac_b01 | omega) (Nat.zero_le _) (Nat.zero_le _) ?_
      first | exact ⟨ac_l1 (c := ac_reg q) (by unfold ac_reg; omega), rfl, rfl⟩ | exact ⟨ac_l0 (c := ac_reg q) (by unfold ac_reg; omega), rfl, rfl⟩
    · refine ac_iload (q := 41) dX7_isRegular_39 rfl rfl ?_
      refine ac_iload (q := 43) dX7_isRegular_41 rfl rfl ?_
      refine ac_iadd (q := 44) dX7_isRegular_43 rfl ?_
      refine ac_if_eq (q := 47) (tgt := 57) dX7_isRegular_44 rfl rfl ⟨by omega, by omega⟩ (fun h44 => ?_) (fun h44 => ?_)
      · refine ac_iconst (q := 58) dX7_isRegular_57 rfl ?_
        refine ac_goto (q := 62) dX7_isRegular_58 rfl ?_
        refine ac_zreturn dX7_isRegular_62 rfl (by first | exact ac_b01 | omega) (Nat.zero_le _) (Nat.zero_le _) ?_
        first | exact ⟨ac_l1 (c := ac_reg q) (by unfold ac_reg; omega), rfl, rfl⟩ | exact ⟨ac_l0 (c := ac_reg q) (by unfold ac_reg; omega), rfl, rfl⟩
      · refine ac_iload_n (q := 48) dX7_isRegular_47 rfl rfl ?_
        refine ac_iload (q := 50) dX7_isRegular_48 rfl rfl ?_
        refine ac_iadd (q := 51) dX7_isRegular_50 rfl ?_
        refine ac_iload (q := 53) dX7_isRegular_51 rfl rfl ?_
        refine ac_iadd (q := 54) dX7_isRegular_53 rfl ?_
        refine ac_if_ne (q := 57) (tgt := 61) dX7_isRegular_54 rfl rfl ⟨by omega, by omega⟩ (fun h54 => ?_) (fun h54 => ?_)
        · refine ac_iconst (q := 62) dX7_isRegular_61 rfl ?_
          refine ac_zreturn dX7_isRegular_62 rfl (by first | exact ac_b01 | omega) (Nat.zero_le _) (Nat.zero_le _) ?_
          first | exact ⟨ac_l1 (c := ac_reg q) (by unfold ac_reg; omega), rfl, rfl⟩ | exact ⟨ac_l0 (c := ac_reg q) (by unfold ac_reg; omega), rfl, rfl⟩
        · refine ac_iconst (q := 58) dX7_isRegular_57 rfl ?_
          refine ac_goto (q := 62) dX7_isRegular_58 rfl ?_
          refine ac_zreturn dX7_isRegular_62 rfl (by first | exact ac_b01 | omega) (Nat.zero_le _) (Nat.zero_le _) ?_
          first | exact ⟨ac_l1 (c := ac_reg q) (by unfold ac_reg; omega), rfl, rfl⟩ | exact ⟨ac_l0 (c := ac_reg q) (by unfold ac_reg; omega), rfl, rfl⟩

set_option maxHeartbeats 8000000 in
theorem k_X7_greatest {G : ac_G} {Y : ac_Y} {mm : ac_M} {d : Nat} {a b c : Nat} (hd : 1 ≤ d) (ha : a < 100) (hb : b < 100) (hc : c < 100) : ac_C G yX7_greatest cX7_greatest 4 (some .int) d 0 0 Y mm [(0, (a : Int)), (0, (b : Int)), (0, (c : Int))] (ac_R Y [(0, ((max (max a b) c : Nat) : Int))] (fun m => m = mm)) := by
  refine ac_met (on := (RX7, "greatest")) rfl rfl (Nat.le_of_ble_eq_true rfl) (ls := [(0, (a : Int)), (0, (b : Int)), (0, (c : Int)), (3, 0)]) rfl ?_
  refine ac_iload_n (q := 1) dX7_greatest_0 rfl rfl ?_
  refine ac_iload_n (q := 2) dX7_greatest_1 rfl rfl ?_
  refine ac_icmp_le (q := 5) (tgt := 9) dX7_greatest_2 rfl rfl ⟨by omega, by omega⟩ ⟨by omega, by omega⟩ (fun h2 => ?_) (fun h2 => ?_)
  · refine ac_iload_n (q := 10) dX7_greatest_9 rfl rfl ?_
    refine ac_istore_n (q := 11) (j := 3) rfl dX7_greatest_10 rfl (Nat.le_of_ble_eq_true rfl) rfl rfl ?_
    simp only [List.set_cons_succ, List.set_cons_zero]
    refine ac_iload_n (q := 12) dX7_greatest_11 rfl rfl ?_
    refine ac_iload_n (q := 13) dX7_greatest_12 rfl rfl ?_
    refine ac_icmp_le (q := 16) (tgt := 20) dX7_greatest_13 rfl rfl ⟨by omega, by omega⟩ ⟨by omega, by omega⟩ (fun h13 => ?_) (fun h13 => ?_)
    · refine ac_iload_n (q := 21) dX7_greatest_20 rfl rfl ?_
      refine ac_ireturn dX7_greatest_21 rfl (Nat.zero_le _) (Nat.zero_le _) ?_
      exact ⟨congrArg (fun z : Int => [((0 : Nat), z)]) (by omega), rfl, rfl⟩
    · refine ac_iload_n (q := 17) dX7_greatest_16 rfl rfl ?_
      refine ac_goto (q := 21) dX7_greatest_17 rfl ?_
      refine ac_ireturn dX7_greatest_21 rfl (Nat.zero_le _) (Nat.zero_le _) ?_
      exact ⟨congrArg (fun z : Int => [((0 : Nat), z)]) (by omega), rfl, rfl⟩
  · refine ac_iload_n (q := 6) dX7_greatest_5 rfl rfl ?_
    refine ac_goto (q := 10) dX7_greatest_6 rfl ?_
    refine ac_istore_n (q := 11) (j := 3) rfl dX7_greatest_10 rfl (Nat.le_of_ble_eq_true rfl) rfl rfl ?_
    simp only [List.set_cons_succ, List.set_cons_zero]
    refine ac_iload_n (q := 12) dX7_greatest_11 rfl rfl ?_
    refine ac_iload_n (q := 13) dX7_greatest_12 rfl rfl ?_
    refine ac_icmp_le (q := 16) (tgt := 20) dX7_greatest_13 rfl rfl ⟨by omega, by omega⟩ ⟨by omega, by omega⟩ (fun h13 => ?_) (fun h13 => ?_)
    · refine ac_iload_n (q := 21) dX7_greatest_20 rfl rfl ?_
      refine ac_ireturn dX7_greatest_21 rfl (Nat.zero_le _) (Nat.zero_le _) ?_
      exact ⟨congrArg (fun z : Int => [((0 : Nat), z)]) (by omega), rfl, rfl⟩
    · refine ac_iload_n (q := 17) dX7_greatest_16 rfl rfl ?_
      refine ac_goto (q := 21) dX7_greatest_17 rfl ?_
      refine ac_ireturn dX7_greatest_21 rfl (Nat.zero_le _) (Nat.zero_le _) ?_
      exact ⟨congrArg (fun z : Int => [((0 : Nat), z)]) (by omega), rfl, rfl⟩

set_option maxHeartbeats 8000000 in
theorem k_X7_all {G : ac_G} {Y : ac_Y} {mm : ac_M} {d : Nat} {r z : Nat} (hd : 1 ≤ d) (hk : Y.2.1 r = (1, 39)) (hz : mm r 1 = (z : Int)) (hz4 : z ≤ 4) : ac_C G yX7_all cX7_all 1 (some .int) d 0 0 Y mm [(2, (r : Int))] (ac_R Y [(0, ((2 ^ z - 1 : Nat) : Int))] (fun m => m = mm)) := by
  refine ac_met (on := (RX7, "all")) rfl rfl (Nat.le_of_ble_eq_true rfl) (ls := [(2, (r : Int))]) rfl ?_
  refine ac_iconst (q := 1) dX7_all_0 rfl ?_
  refine ac_aload_n (q := 2) dX7_all_1 rfl rfl ?_
  refine ac_iconst (q := 3) dX7_all_2 rfl ?_
  refine ac_ialoadN (q := 4) (j := 1) (v := (z : Int)) dX7_all_3 hk (by decide) (by decide) rfl hz ?_
  refine ac_ishl1 (q := 5) (k := z) dX7_all_4 rfl (by omega) ?_
  refine ac_iconst (q := 6) dX7_all_5 rfl ?_
  refine ac_isub (q := 7) dX7_all_6 rfl ?_
  refine ac_ireturn dX7_all_7 rfl (Nat.zero_le _) (Nat.zero_le _) ?_
  have hp := Nat.two_pow_pos z
  refine ⟨congrArg (fun z : Int => [((0 : Nat), z)]) ?_, rfl, rfl⟩
  rw [Int.ofNat_sub hp]; rfl

set_option maxHeartbeats 8000000 in
theorem k_X7_allows {G : ac_G} {Y : ac_Y} {mm : ac_M} {d x : Nat} {S k n : Nat} {E : List ac_Eq} {pin : Nat → Int} {a c : Nat} (hd : 1 ≤ d) (hM : ac_isM Y x) (hN : ac_EN mm x S k n E pin) (ha : 1 ≤ a ∧ a ≤ 10) (hc : c < 10) : ac_C G yX7_allows cX7_allows 4 (some .boolean) d 0 0 Y mm [(2, (x : Int)), (0, (a : Int)), (0, (c : Int))] (ac_R Y [(0, ac_b (pin a = -1 ∨ pin a = (c : Int)))] (fun m => m = mm)) := by
  have hM9 := hM
  obtain ⟨kx, k1, k2, k3, k4, k5, k6, k7, k8, k9, k10, k11, k12, k13, k14, k15, k16⟩ := hM.2
  obtain ⟨⟨-, hk, -, hpr⟩, -, -, -, r, hr, hr2, hpn, hpb⟩ := hN
  have hpa := hpr a
  have hba := hpb a (by omega) (by omega)
  have kr : Y.2.1 r = (1, 39) := by rcases hr2 with e | e <;> rw [e] <;> assumption
  have hj : (18 + (a : Int) - 1) = ((17 + a : Nat) : Int) := by omega
  have hpz : mm x 23 = 0 ∨ mm x 23 = 1 := hpn.elim (fun q => Or.inl q.1) (fun q => Or.inr q.1)
  have hcase : (mm x 23 = 0 ∧ pin a = -1) ∨ (mm x 23 = 1 ∧ mm r (17 + a) = pin a + 1) := hpn.elim (fun q => Or.inl ⟨q.1, by rw [q.2]⟩) (fun q => Or.inr ⟨q.1, q.2 a (by omega) (by omega)⟩)
  refine ac_met (on := (RX7, "allows")) rfl rfl (Nat.le_of_ble_eq_true rfl) (ls := [(2, (x : Int)), (0, (a : Int)), (0, (c : Int)), (3, 0)]) rfl ?_
  refine ac_aload_n (q := 1) dX7_allows_0 rfl rfl ?_
  refine ac_get (q := 4) dX7_allows_1 fl_X7_57 (by assumption) rfl (ac_rdm rfl (by assumption)) ?_
  refine ac_bipush (q := 6) dX7_allows_4 rfl (by decide) ?_
  refine ac_iload_n (q := 7) dX7_allows_6 rfl rfl ?_
  refine ac_iadd (q := 8) dX7_allows_7 rfl ?_
  refine ac_iconst (q := 9) dX7_allows_8 rfl ?_
  refine ac_isub (q := 10) dX7_allows_9 rfl ?_
  refine ac_top (w' := (0, ((17 + a : Nat) : Int))) (congrArg (fun z : Int => ((0 : Nat), z)) hj) ?_
  refine ac_ialoadN (q := 11) (j := 17 + a) (v := mm r (17 + a)) dX7_allows_10 kr (by decide) (by omega) rfl rfl ?_
  refine ac_istore_n (q := 12) (j := 3) rfl dX7_allows_11 rfl (Nat.le_of_ble_eq_true rfl) rfl rfl ?_
  simp only [List.set_cons_succ, List.set_cons_zero]
  refine ac_aload_n (q := 13) dX7_allows_12 rfl rfl ?_
  refine ac_get (q := 16) dX7_allows_13 fl_X7_134 (by assumption) rfl rfl ?_
  refine ac_if_eq (q := 19) (tgt := 30) dX7_allows_16 rfl rfl ⟨by omega, by omega⟩ (fun h16 => ?_) (fun h16 => ?_)
  · refine ac_iconst (q := 31) dX7_allows_30 rfl ?_
    refine ac_goto (q := 35) dX7_allows_31 rfl ?_
    refine ac_zreturn dX7_allows_35 rfl (by first | exact ac_b01 | omega) (Nat.zero_le _) (Nat.zero_le _) ?_
    first | exact ⟨ac_l1 (by omega), rfl, rfl⟩ | exact ⟨ac_l0 (by omega), rfl, rfl⟩
  · refine ac_iload_n (q := 20) dX7_allows_19 rfl rfl ?_
    refine ac_if_eq (q := 23) (tgt := 30) dX7_allows_20 rfl rfl ⟨by omega, by omega⟩ (fun h20 => ?_) (fun h20 => ?_)
    · refine ac_iconst (q := 31) dX7_allows_30 rfl ?_
      refine ac_goto (q := 35) dX7_allows_31 rfl ?_
      refine ac_zreturn dX7_allows_35 rfl (by first | exact ac_b01 | omega) (Nat.zero_le _) (Nat.zero_le _) ?_
      first | exact ⟨ac_l1 (by omega), rfl, rfl⟩ | exact ⟨ac_l0 (by omega), rfl, rfl⟩
    · refine ac_iload_n (q := 24) dX7_allows_23 rfl rfl ?_
      refine ac_iload_n (q := 25) dX7_allows_24 rfl rfl ?_
      refine ac_iconst (q := 26) dX7_allows_25 rfl ?_
      refine ac_iadd (q := 27) dX7_allows_26 rfl ?_
      refine ac_icmp_ne (q := 30) (tgt := 34) dX7_allows_27 rfl rfl ⟨by omega, by omega⟩ ⟨by omega, by omega⟩ (fun h27 => ?_) (fun h27 => ?_)
      · refine ac_iconst (q := 35) dX7_allows_34 rfl ?_
        refine ac_zreturn dX7_allows_35 rfl (by first | exact ac_b01 | omega) (Nat.zero_le _) (Nat.zero_le _) ?_
        first | exact ⟨ac_l1 (by omega), rfl, rfl⟩ | exact ⟨ac_l0 (by omega), rfl, rfl⟩
      · refine ac_iconst (q := 31) dX7_allows_30 rfl ?_
        refine ac_goto (q := 35) dX7_allows_31 rfl ?_
        refine ac_zreturn dX7_allows_35 rfl (by first | exact ac_b01 | omega) (Nat.zero_le _) (Nat.zero_le _) ?_
        first | exact ⟨ac_l1 (by omega), rfl, rfl⟩ | exact ⟨ac_l0 (by omega), rfl, rfl⟩

set_option maxHeartbeats 8000000 in
theorem k_X7_may {G : ac_G} {Y : ac_Y} {mm : ac_M} {d x : Nat} {S : Nat} {E : List ac_Eq} {l : List Nat} {c : Nat} (hd : 1 ≤ d) (hM : ac_isM Y x) (hT : ac_ST mm x S E) (hE : ac_okE E) (hl : l.length + 1 ≤ 10) (hc : c < 3) (hcl : ac_cl mm (x + 14) l) (hv : ac_br E (ac_set l c) &&& S = 0) : ac_C G yX7_may cX7_may 5 (some .boolean) d 0 0 Y mm [(2, (x : Int)), (0, ((l.length + 1 : Nat) : Int)), (0, (c : Int))] (ac_R Y [(0, ac_b (ac_br E (ac_set (l ++ [c]) c) &&& S = 0))] (fun m => m = mm)) := by
  have hM9 := hM
  obtain ⟨kx, k1, k2, k3, k4, k5, k6, k7, k8, k9, k10, k11, k12, k13, k14, k15, k16⟩ := hM.2
  obtain ⟨hfr, hst⟩ := hT
  have hall := ac_lall_len S E hE.1
  have hf1 := hfr (l.length + 1) (by omega) (by omega)
  have hf2 := hfr (l.length + 2) (by omega) (by omega)
  rw [show l.length + 1 - 1 = l.length by omega] at hf1
  rw [show l.length + 2 - 1 = l.length + 1 by omega] at hf2
  obtain ⟨rr, hrr⟩ : ∃ rr, ac_lall S E 10 = ac_lall S E (l.length + 1) ++ rr := by
    obtain ⟨rr, h⟩ := ac_cc_cut (g := fun u => ac_lt1 S E (u + 1)) (i := l.length) (n := 10) (by omega)
    exact ⟨rr, h⟩
  have hsp : ac_lall S E (l.length + 1) = ac_lall S E l.length ++ ac_lt1 S E (l.length + 1) := rfl
  have hlen : (ac_lall S E (l.length + 1)).length = (ac_lall S E l.length).length + (ac_lt1 S E (l.length + 1)).length := by rw [hsp, List.length_append]
  have hlen2 : (ac_lall S E (l.length + 1)).length ≤ 400 := by rw [hrr, List.length_append] at hall; omega
  have hiff := ac_may_top (S := S) (E := E) (l := l) (c := c) hl hv
  have hsl : ac_set (l ++ [c]) c < 2048 := ac_set_lt c (by rw [List.length_append, List.length_singleton]; omega)
  have loop : ∀ (f i : Nat), i + f = (ac_lt1 S E (l.length + 1)).length → (∀ j Q, j < i → (ac_lt1 S E (l.length + 1))[j]? = some Q → ac_andn Q (ac_set (l ++ [c]) c) ≠ 0) → ac_V G (RX7, "may") cX7_may 5 (some .boolean) d 0 0 (ac_R Y [(0, ac_b (ac_br E (ac_set (l ++ [c]) c) &&& S = 0))] (fun m => m = mm)) 0 0 Y mm 19 [(2, (x : Int)), (0, ((l.length + 1 : Nat) : Int)), (0, (c : Int)), (0, ((ac_set (l ++ [c]) c : Nat) : Int)), (0, (((ac_lall S E l.length).length + i : Nat) : Int))] [] := by
    intro f
    induction f with
    | zero =>
      intro i hi hno
      refine ac_iload (q := 21) dX7_may_19 rfl rfl ?_
      refine ac_aload_n (q := 22) dX7_may_21 rfl rfl ?_
      refine ac_get (q := 25) dX7_may_22 fl_X7_48 (by assumption) rfl (ac_rdr rfl hM9.1.2.2.2.2.2.2.2.2.2.2.2.1) ?_
      refine ac_iload_n (q := 26) dX7_may_25 rfl rfl ?_
      refine ac_iconst (q := 27) dX7_may_26 rfl ?_
      refine ac_iadd (q := 28) dX7_may_27 rfl ?_
      refine ac_top (w' := (0, ((l.length + 2 : Nat) : Int))) rfl ?_
      refine ac_ialoadN (q := 29) (j := l.length + 2) (v := (((ac_lall S E (l.length + 1)).length : Nat) : Int)) dX7_may_28 k12 (by decide) (by omega) rfl hf2 ?_
      refine ac_icmp_ge (q := 32) (tgt := 54) dX7_may_29 rfl rfl ⟨by omega, by omega⟩ ⟨by omega, by omega⟩ (fun h29 => ?_) (fun h29 => ?_)
      · refine ac_iconst (q := 55) dX7_may_54 rfl ?_
        refine ac_zreturn dX7_may_55 rfl (by first | exact ac_b01 | omega) (Nat.zero_le _) (Nat.zero_le _) ?_
        refine ⟨ac_l1 (hiff.mp fun Q hQ => ?_), rfl, rfl⟩
        obtain ⟨j, hj⟩ := List.getElem?_of_mem hQ
        exact hno j Q (by have := (List.getElem?_eq_some_iff.mp hj).1; omega) hj
      · exfalso; omega
    | succ f ih =>
      intro i hi hno
      obtain ⟨Q, hQ⟩ : ∃ Q, (ac_lt1 S E (l.length + 1))[i]? = some Q := ⟨_, List.getElem?_eq_getElem (by omega)⟩
      have hQA : (ac_lall S E 10)[(ac_lall S E l.length).length + i]? = some Q := by
        rw [hrr, List.getElem?_append_left (by omega), hsp, List.getElem?_append_right (by omega), Nat.add_sub_cancel_left]; exact hQ
      have hQm := hst _ _ hQA
      have hQl : Q < 2048 := ac_lall_lt (List.mem_of_getElem? hQA)
      have hal : ac_andn Q (ac_set (l ++ [c]) c) ≤ Q := ac_andn_le _ _
      have ei : (((ac_lall S E l.length).length + i : Nat) : Int) + 1 = (((ac_lall S E l.length).length + (i + 1) : Nat) : Int) := rfl
      refine ac_iload (q := 21) dX7_may_19 rfl rfl ?_
      refine ac_aload_n (q := 22) dX7_may_21 rfl rfl ?_
      refine ac_get (q := 25) dX7_may_22 fl_X7_48 (by assumption) rfl (ac_rdr rfl hM9.1.2.2.2.2.2.2.2.2.2.2.2.1) ?_
      refine ac_iload_n (q := 26) dX7_may_25 rfl rfl ?_
      refine ac_iconst (q := 27) dX7_may_26 rfl ?_
      refine ac_iadd (q := 28) dX7_may_27 rfl ?_
      refine ac_top (w' := (0, ((l.length + 2 : Nat) : Int))) rfl ?_
      refine ac_ialoadN (q := 29) (j := l.length + 2) (v := (((ac_lall S E (l.length + 1)).length : Nat) : Int)) dX7_may_28 k12 (by decide) (by omega) rfl hf2 ?_
      refine ac_icmp_ge (q := 32) (tgt := 54) dX7_may_29 rfl rfl ⟨by omega, by omega⟩ ⟨by omega, by omega⟩ (fun h29 => ?_) (fun h29 => ?_)
      · exfalso; omega
      · refine ac_aload_n (q := 33) dX7_may_32 rfl rfl ?_
        refine ac_get (q := 36) dX7_may_33 fl_X7_45 (by assumption) rfl (ac_rdr rfl hM9.1.2.2.2.2.2.2.2.2.2.2.1) ?_
        refine ac_iload (q := 38) dX7_may_36 rfl rfl ?_
        refine ac_ialoadN (q := 39) (j := (ac_lall S E l.length).length + i) (v := (Q : Int)) dX7_may_38 k11 (by decide) (by omega) rfl hQm ?_
        refine ac_iload_n (q := 40) dX7_may_39 rfl rfl ?_
        refine ac_iconst (q := 41) dX7_may_40 rfl ?_
        refine ac_ixor (q := 42) dX7_may_41 rfl ?_
        refine ac_iandn (q := 43) dX7_may_42 rfl ?_
        refine ac_if_ne (q := 46) (tgt := 48) dX7_may_43 rfl rfl ⟨by omega, by omega⟩ (fun h43 => ?_) (fun h43 => ?_)
        · refine ac_iinc (q := 51) dX7_may_48 rfl (Nat.le_of_ble_eq_true rfl) rfl rfl rfl rfl ?_
          simp only [List.set_cons_succ, List.set_cons_zero]
          refine ac_goto (q := 19) dX7_may_51 rfl ?_
          refine ac_ls (by rw [ei]) (ih (i + 1) (by omega) (fun j Q' hj hQ' => ?_))
          by_cases hji : j = i
          · subst hji; rw [hQ] at hQ'; cases hQ'; omega
          · exact hno j Q' (by omega) hQ'
        · refine ac_iconst (q := 47) dX7_may_46 rfl ?_
          refine ac_zreturn dX7_may_47 rfl (by first | exact ac_b01 | omega) (Nat.zero_le _) (Nat.zero_le _) ?_
          exact ⟨ac_l0 (fun q => hiff.mpr q Q (List.mem_of_getElem? hQ) (by omega)), rfl, rfl⟩
  refine ac_met (on := (RX7, "may")) rfl rfl (Nat.le_of_ble_eq_true rfl) (ls := [(2, (x : Int)), (0, ((l.length + 1 : Nat) : Int)), (0, (c : Int)), (3, 0), (3, 0)]) rfl ?_
  refine ac_aload_n (q := 1) dX7_may_0 rfl rfl ?_
  refine ac_get (q := 4) dX7_may_1 fl_X7_54 (by assumption) rfl (ac_rdr rfl hM9.1.2.2.2.2.2.2.2.2.2.2.2.2.2.1) ?_
  refine ac_iload_n (q := 5) dX7_may_4 rfl rfl ?_
  refine ac_ialoadN (q := 6) (j := c) (v := ((ac_set l c : Nat) : Int)) dX7_may_5 k14 (by decide) (by omega) rfl (hcl c hc) ?_
  refine ac_iconst (q := 7) dX7_may_6 rfl ?_
  refine ac_iload_n (q := 8) dX7_may_7 rfl rfl ?_
  refine ac_ishl1 (q := 9) (k := l.length + 1) dX7_may_8 rfl (by omega) ?_
  refine ac_ior (q := 10) dX7_may_9 rfl ?_
  refine ac_top (w' := (0, ((ac_set (l ++ [c]) c : Nat) : Int))) (by rw [ac_set_up]) ?_
  refine ac_istore_n (q := 11) (j := 3) rfl dX7_may_10 rfl (Nat.le_of_ble_eq_true rfl) rfl rfl ?_
  simp only [List.set_cons_succ, List.set_cons_zero]
  refine ac_aload_n (q := 12) dX7_may_11 rfl rfl ?_
  refine ac_get (q := 15) dX7_may_12 fl_X7_48 (by assumption) rfl (ac_rdr rfl hM9.1.2.2.2.2.2.2.2.2.2.2.2.1) ?_
  refine ac_iload_n (q := 16) dX7_may_15 rfl rfl ?_
  refine ac_ialoadN (q := 17) (j := l.length + 1) (v := (((ac_lall S E l.length).length : Nat) : Int)) dX7_may_16 k12 (by decide) (by omega) rfl hf1 ?_
  refine ac_istore (q := 19) dX7_may_17 rfl (Nat.le_of_ble_eq_true rfl) rfl rfl ?_
  simp only [List.set_cons_succ, List.set_cons_zero]
  exact loop (ac_lt1 S E (l.length + 1)).length 0 (by omega) (fun j Q hj => absurd hj (Nat.not_lt_zero _))
