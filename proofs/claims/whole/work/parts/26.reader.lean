set_option maxHeartbeats 8000000 in
theorem k_X4_lowNumberFree {G : ac_G} {Y : ac_Y} {mm : ac_M} {d : Nat} {u n k : Nat} {E : List ac_Eq} {pin : Nat → Int} {col : Option (List Nat)} (hd : 2 ≤ d) (hT : ac_isT Y u) (hRT : ac_RT mm u n k E pin col)  : ac_C G yX4_lowNumberFree cX4_lowNumberFree 2 (some .boolean) d 0 0 Y mm [(2, (u : Int))] (ac_R Y [(0, ac_b (ac_lowf n pin 9 = true))] (fun m => m = mm)) := by
  have hRT9 := hRT
  have ku := hT.1
  obtain ⟨⟨⟨hn1, hn2⟩, ⟨hkk1, hkk2⟩, hE, hp0, hpr, hc0⟩, t3, t4, t5, t6, tE, tp, tcb, tc⟩ := hRT
  have loop : ∀ (r c : Nat), c + r = 9 → ac_lowf n pin c = false → ac_V G (RX4, "lowNumberFree") cX4_lowNumberFree 2 (some .boolean) d 0 0 (ac_R Y [(0, ac_b (ac_lowf n pin 9 = true))] (fun m => m = mm)) 0 0 Y mm 2 [(2, (u : Int)), (0, ((c + 1 : Nat) : Int))] [] := by
    intro r
    induction r with
    | zero =>
      intro c hc hlo
      obtain rfl : c = 9 := by omega
      refine ac_iload_n (q := 3) dX4_lowNumberFree_2 rfl rfl ?_
      refine ac_bipush (q := 5) dX4_lowNumberFree_3 rfl (by decide) ?_
      refine ac_icmp_ge (q := 8) (tgt := 24) dX4_lowNumberFree_5 rfl rfl ⟨by omega, by omega⟩ ⟨by omega, by omega⟩ (fun h5 => ?_) (fun h5 => ?_)
      · refine ac_iconst (q := 25) dX4_lowNumberFree_24 rfl ?_
        refine ac_zreturn dX4_lowNumberFree_25 rfl (by first | exact ac_b01 | omega) (Nat.zero_le _) (Nat.zero_le _) ?_
        exact ⟨ac_l0 (by rw [hlo]; decide), rfl, rfl⟩
      · exfalso; omega
    | succ r ih =>
      intro c hc hlo
      have ec : ((c + 1 : Nat) : Int) + 1 = ((c + 1 + 1 : Nat) : Int) := rfl
      refine ac_iload_n (q := 3) dX4_lowNumberFree_2 rfl rfl ?_
      refine ac_bipush (q := 5) dX4_lowNumberFree_3 rfl (by decide) ?_
      refine ac_icmp_ge (q := 8) (tgt := 24) dX4_lowNumberFree_5 rfl rfl ⟨by omega, by omega⟩ ⟨by omega, by omega⟩ (fun h5 => ?_) (fun h5 => ?_)
      · exfalso; omega
      · refine ac_aload_n (q := 9) dX4_lowNumberFree_8 rfl rfl ?_
        refine ac_iload_n (q := 10) dX4_lowNumberFree_9 rfl rfl ?_
        refine ac_cvp (q := 13) (k_X3_free (t := u) (d := d - 1) (x := ((c + 1 : Nat) : Int)) (by omega) hT hRT9 ⟨by omega, by omega⟩) ml_X4_75 (by assumption) dX4_lowNumberFree_10 rfl rfl rfl (by omega) (Nat.le_of_ble_eq_true rfl) (Nat.zero_le _) (Nat.zero_le _) ?_
        simp only [Int.toNat_natCast]
        refine ac_bif_eq (q := 16) (tgt := 18) dX4_lowNumberFree_13 rfl rfl (fun h13 => ?_) (fun h13 => ?_)
        · refine ac_iinc (q := 21) dX4_lowNumberFree_18 rfl (Nat.le_of_ble_eq_true rfl) rfl rfl rfl rfl ?_
          simp only [List.set_cons_succ, List.set_cons_zero]
          refine ac_goto (q := 2) dX4_lowNumberFree_21 rfl ?_
          refine ac_ls (by rw [ec]) (ih (c + 1) (by omega) ?_)
          rw [ac_lowf, hlo, Bool.false_or]
          exact @decide_eq_false _ (ac_fred n pin (c + 1)) (fun q => h13 ⟨by have := q.1; omega, q.2⟩)
        · refine ac_iconst (q := 17) dX4_lowNumberFree_16 rfl ?_
          refine ac_zreturn dX4_lowNumberFree_17 rfl (by first | exact ac_b01 | omega) (Nat.zero_le _) (Nat.zero_le _) ?_
          exact ⟨ac_l1 (ac_lowf_iff.mpr ⟨c + 1, by omega, ⟨by omega, h13.2⟩⟩), rfl, rfl⟩
  refine ac_met (on := (RX4, "lowNumberFree")) rfl rfl (Nat.le_of_ble_eq_true rfl) (ls := [(2, (u : Int)), (3, 0)]) rfl ?_
  refine ac_iconst (q := 1) dX4_lowNumberFree_0 rfl ?_
  refine ac_istore_n (q := 2) (j := 1) rfl dX4_lowNumberFree_1 rfl (Nat.le_of_ble_eq_true rfl) rfl rfl ?_
  simp only [List.set_cons_succ, List.set_cons_zero]
  exact loop 9 0 rfl rfl

set_option maxHeartbeats 8000000 in
theorem k_X4_readNumber {G : ac_G} {Y : ac_Y} {mm : ac_M} {d t p : Nat} {s : List Nat} {u n k : Nat} {E : List ac_Eq} {pin : Nat → Int} {col : Option (List Nat)} (hd : 3 ≤ d) (hX : ac_isX Y t) (hR : ac_RX mm t s p) (hT : ac_isT Y u) (hRT : ac_RT mm u n k E pin col) (hp : p ≤ 950) (htu : t + 2 ≤ u ∨ u + 4 ≤ t) : ac_C G yX4_readNumber cX4_readNumber 7 (some .int) d 0 0 Y mm [(2, (t : Int)), (2, (u : Int))] (ac_R Y [(0, (((ac_nump n pin s p).2 : Nat) : Int))] (fun m => ac_RX m t s (ac_nump n pin s p).1 ∧ ∀ k', k' ≠ t → m k' = mm k')) := by
  have hX9 := hX
  have hR9 := hR
  obtain ⟨kx, kl, rl⟩ := hX
  obtain ⟨⟨hs60, hs256⟩, hlen, hpl, hlet⟩ := hR
  have hc := ac_ch_lt hs256
  have hRT9 := hRT
  have ku := hT.1
  obtain ⟨⟨⟨hn1, hn2⟩, ⟨hkk1, hkk2⟩, hE, hp0, hpr, hc0⟩, t3, t4, t5, t6, tE, tp, tcb, tc⟩ := hRT
  have hc0' := hc p
  have hc1' := hc (p + 1)
  generalize hcv : ac_ch s p = c at *
  generalize huv : ac_ch s (p + 1) = v at *
  have loop : ∀ (r i : Nat) (lo hi : Nat × Int) (m : ac_M) (xx : Nat × Int), i + r = 10 → ac_okt n pin c → ac_RX m t s (p + 1) → (∀ k', k' ≠ t → m k' = mm k') → (∀ j, j < i → ¬ (v = 48 + j ∧ ac_fre n pin (10 * (c - 48) + j))) → lo.1 = 0 → hi.1 = 0 → xx.1 ≠ 1 → ac_V G (RX4, "readNumber") cX4_readNumber 7 (some .int) d 0 0 (ac_R Y [(0, (((ac_nump n pin s p).2 : Nat) : Int))] (fun m => ac_RX m t s (ac_nump n pin s p).1 ∧ ∀ k', k' ≠ t → m k' = mm k')) 0 0 Y m 50 [(2, (t : Int)), (2, (u : Int)), lo, hi, (0, (c : Int)), (0, (i : Int)), xx] [] := by
    intro r
    induction r with
    | zero =>
      intro i lo hi m xx hi10 hok hRm hfr hno hlo hhi hxx
      obtain rfl : i = 10 := by omega
      refine ac_iload (q := 52) dX4_readNumber_50 rfl rfl ?_
      refine ac_bipush (q := 54) dX4_readNumber_52 rfl (by decide) ?_
      refine ac_icmp_gt (q := 57) (tgt := 105) dX4_readNumber_54 rfl rfl ⟨by omega, by omega⟩ ⟨by omega, by omega⟩ (fun h54 => ?_) (fun h54 => ?_)
      · refine ac_iconst (q := 106) dX4_readNumber_105 rfl ?_
        refine ac_ireturn dX4_readNumber_106 rfl (Nat.zero_le _) (Nat.zero_le _) ?_
        have hnu : ¬ ac_oku n pin c v := fun q => hno (v - 48) (by have := q.1; omega) ⟨by have := q.1; omega, q.2⟩
        have e : ac_nump n pin s p = (p + 1, 0) := by unfold ac_nump; rw [hcv, huv, if_pos hok, if_neg hnu]
        rw [e]; exact ⟨rfl, rfl, hRm, hfr⟩
      · exfalso; omega
    | succ r ih =>
      intro i lo hi m xx hi10 hok hRm hfr hno hlo hhi hxx
      obtain ⟨lo1, lo2⟩ := lo
      obtain ⟨hi1, hi2⟩ := hi
      obtain ⟨xx1, xx2⟩ := xx
      simp only at hlo hhi hxx
      subst hlo; subst hhi
      have hc48 : 48 ≤ c ∧ c ≤ 49 := by
        rcases hok with h | h
        · omega
        · omega
      have ei : ((i : Nat) : Int) + 1 = ((i + 1 : Nat) : Int) := rfl
      have eN : 10 * ((c : Int) - 48) + (i : Int) = ((10 * (c - 48) + i : Nat) : Int) := by omega
      have hRTm : ac_RT m u n k E pin col := ac_RT_keep hRT9 (hfr _ (by omega)) (hfr _ (by omega)) (hfr _ (by omega)) (hfr _ (by omega))
      refine ac_iload (q := 52) dX4_readNumber_50 rfl rfl ?_
      refine ac_bipush (q := 54) dX4_readNumber_52 rfl (by decide) ?_
      refine ac_icmp_gt (q := 57) (tgt := 105) dX4_readNumber_54 rfl rfl ⟨by omega, by omega⟩ ⟨by omega, by omega⟩ (fun h54 => ?_) (fun h54 => ?_)
      · exfalso; omega
      · refine ac_bipush (q := 59) dX4_readNumber_57 rfl (by decide) ?_
        refine ac_iload (q := 61) dX4_readNumber_59 rfl rfl ?_
        refine ac_bipush (q := 63) dX4_readNumber_61 rfl (by decide) ?_
        refine ac_isub (q := 64) dX4_readNumber_63 rfl ?_
        refine ac_imul (q := 65) dX4_readNumber_64 rfl ?_
        refine ac_iload (q := 67) dX4_readNumber_65 rfl rfl ?_
        refine ac_iadd (q := 68) dX4_readNumber_67 rfl ?_
        refine ac_top (congrArg (fun z => ((0 : Nat), z)) eN) ?_
        refine ac_istore (q := 70) dX4_readNumber_68 rfl (Nat.le_of_ble_eq_true rfl) rfl rfl ?_
        simp only [List.set_cons_succ, List.set_cons_zero]
        refine ac_aload_n (q := 71) dX4_readNumber_70 rfl rfl ?_
        refine ac_iload (q := 73) dX4_readNumber_71 rfl rfl ?_
        refine ac_cvp (q := 76) (k_X3_free (t := u) (d := d - 1) (by omega) hT hRTm ⟨by omega, by omega⟩) ml_X4_75 (by assumption) dX4_readNumber_73 rfl rfl rfl (by omega) (Nat.le_of_ble_eq_true rfl) (Nat.zero_le _) (Nat.zero_le _) ?_
        simp only [Int.toNat_natCast]
        refine ac_bif_eq (q := 79) (tgt := 99) dX4_readNumber_76 rfl rfl (fun h76 => ?_) (fun h76 => ?_)
        · refine ac_iinc (q := 102) dX4_readNumber_99 rfl (Nat.le_of_ble_eq_true rfl) rfl rfl rfl rfl ?_
          simp only [List.set_cons_succ, List.set_cons_zero]
          refine ac_goto (q := 50) dX4_readNumber_102 rfl ?_
          refine ac_ls (by rw [ei]) (ih (i + 1) (0, lo2) (0, hi2) m (0, ((10 * (c - 48) + i : Nat) : Int)) (by omega) hok hRm hfr (fun j hj => ?_) rfl rfl (show (0 : Nat) ≠ 1 by decide))
          by_cases hji : j = i
          · rw [hji]; exact fun q => h76 ⟨by have := q.2.1; omega, q.2.2⟩
          · exact hno j (by omega)
        · refine ac_aload_n (q := 80) dX4_readNumber_79 rfl rfl ?_
          refine ac_bipush (q := 82) dX4_readNumber_80 rfl (by decide) ?_
          refine ac_iload (q := 84) dX4_readNumber_82 rfl rfl ?_
          refine ac_iadd (q := 85) dX4_readNumber_84 rfl ?_
          refine ac_bipush (q := 87) dX4_readNumber_85 rfl (by decide) ?_
          refine ac_iload (q := 89) dX4_readNumber_87 rfl rfl ?_
          refine ac_iadd (q := 90) dX4_readNumber_89 rfl ?_
          refine ac_cv (q := 93) (k_X4_accept (d := d - 1) (p := p + 1) (by omega) hX9 hRm (by omega) (by omega) (by omega) (by omega) (by omega)) ml_X4_34 (by assumption) dX4_readNumber_90 rfl rfl rfl (by omega) (Nat.le_of_ble_eq_true rfl) (Nat.zero_le _) (Nat.zero_le _) (fun m1 a1 => ?_)
          obtain ⟨g1, f1⟩ := a1
          rw [huv] at g1
          rw [huv]
          refine ac_if_lt (q := 96) (tgt := 99) dX4_readNumber_93 rfl rfl (by split <;> exact ⟨by omega, by omega⟩) (fun h93 => ?_) (fun h93 => ?_)
          · have e1 : ¬ (48 + (i : Int) ≤ (v : Int) ∧ (v : Int) ≤ 48 + (i : Int)) := fun q => by rw [if_pos q] at h93; omega
            rw [if_neg e1] at g1
            refine ac_iinc (q := 102) dX4_readNumber_99 rfl (Nat.le_of_ble_eq_true rfl) rfl rfl rfl rfl ?_
            simp only [List.set_cons_succ, List.set_cons_zero]
            refine ac_goto (q := 50) dX4_readNumber_102 rfl ?_
            refine ac_ls (by rw [ei]) (ih (i + 1) (0, lo2) (0, hi2) m1 (0, ((10 * (c - 48) + i : Nat) : Int)) (by omega) hok g1 (fun k' hk' => (f1 k' hk').trans (hfr k' hk')) (fun j hj => ?_) rfl rfl (show (0 : Nat) ≠ 1 by decide))
            by_cases hji : j = i
            · rw [hji]; exact fun q => e1 (by omega)
            · exact hno j (by omega)
          · have e1 : (48 + (i : Int) ≤ (v : Int) ∧ (v : Int) ≤ 48 + (i : Int)) := Decidable.byContradiction fun q => by rw [if_neg q] at h93; omega
            rw [if_pos e1] at g1
            refine ac_iload (q := 98) dX4_readNumber_96 rfl rfl ?_
            refine ac_ireturn dX4_readNumber_98 rfl (Nat.zero_le _) (Nat.zero_le _) ?_
            have hfre : ac_fre n pin (10 * (c - 48) + i) := ⟨by omega, h76.2⟩
            have hu : ac_oku n pin c v := ⟨by omega, by rw [show v - 48 = i by omega]; exact hfre⟩
            have e : ac_nump n pin s p = (p + 2, 10 * (c - 48) + (v - 48)) := by unfold ac_nump; rw [hcv, huv, if_pos hok, if_pos hu]
            rw [e]
            exact ⟨by show _ = [((0 : Nat), ((10 * (c - 48) + (v - 48) : Nat) : Int))]; rw [show v - 48 = i by omega], rfl, g1, fun k' hk' => (f1 k' hk').trans (hfr k' hk')⟩
  have after : ∀ (lo hi : Int) (m : ac_M), 1 ≤ lo → lo < 10000 → 0 ≤ hi → hi < 10000 → (ac_okt n pin c ↔ lo ≤ (c : Int) ∧ (c : Int) ≤ hi) → ac_RX m t s (if lo ≤ (c : Int) ∧ (c : Int) ≤ hi then p + 1 else p) → (∀ k', k' ≠ t → m k' = mm k') → ac_V G (RX4, "readNumber") cX4_readNumber 7 (some .int) d 0 0 (ac_R Y [(0, (((ac_nump n pin s p).2 : Nat) : Int))] (fun m => ac_RX m t s (ac_nump n pin s p).1 ∧ ∀ k', k' ≠ t → m k' = mm k')) 0 0 Y m 38 [(2, (t : Int)), (2, (u : Int)), (0, lo), (0, hi), (3, 0), (3, 0), (3, 0)] [(0, if lo ≤ (c : Int) ∧ (c : Int) ≤ hi then (c : Int) else -1)] := by
    intro lo hi m hlo1 hlo2 hhi1 hhi2 hiff hRm hfr
    by_cases hok : ac_okt n pin c
    · rw [if_pos (hiff.mp hok)] at hRm ⊢
      refine ac_istore (q := 40) dX4_readNumber_38 rfl (Nat.le_of_ble_eq_true rfl) rfl rfl ?_
      simp only [List.set_cons_succ, List.set_cons_zero]
      refine ac_iload (q := 42) dX4_readNumber_40 rfl rfl ?_
      refine ac_if_ge (q := 45) (tgt := 47) dX4_readNumber_42 rfl rfl ⟨by omega, by omega⟩ (fun h42 => ?_) (fun h42 => ?_)
      · skip
        refine ac_iconst (q := 48) dX4_readNumber_47 rfl ?_
        refine ac_istore (q := 50) dX4_readNumber_48 rfl (Nat.le_of_ble_eq_true rfl) rfl rfl ?_
        simp only [List.set_cons_succ, List.set_cons_zero]
        exact loop 10 0 (0, lo) (0, hi) m (3, 0) rfl hok hRm hfr (fun j hj => absurd hj (Nat.not_lt_zero _)) rfl rfl (show (3 : Nat) ≠ 1 by decide)
      · refine ac_iconst (q := 46) dX4_readNumber_45 rfl ?_
        refine ac_ireturn dX4_readNumber_46 rfl (Nat.zero_le _) (Nat.zero_le _) ?_
        (exfalso; omega)
    · rw [if_neg (fun q => hok (hiff.mpr q))] at hRm ⊢
      refine ac_istore (q := 40) dX4_readNumber_38 rfl (Nat.le_of_ble_eq_true rfl) rfl rfl ?_
      simp only [List.set_cons_succ, List.set_cons_zero]
      refine ac_iload (q := 42) dX4_readNumber_40 rfl rfl ?_
      refine ac_if_ge (q := 45) (tgt := 47) dX4_readNumber_42 rfl rfl ⟨by omega, by omega⟩ (fun h42 => ?_) (fun h42 => ?_)
      · exfalso; omega
      · refine ac_iconst (q := 46) dX4_readNumber_45 rfl ?_
        refine ac_ireturn dX4_readNumber_46 rfl (Nat.zero_le _) (Nat.zero_le _) ?_
        have e : ac_nump n pin s p = (p, 0) := by unfold ac_nump; rw [hcv, if_neg hok]
        rw [e]; exact ⟨rfl, rfl, hRm, hfr⟩
  refine ac_met (on := (RX4, "readNumber")) rfl rfl (Nat.le_of_ble_eq_true rfl) (ls := [(2, (t : Int)), (2, (u : Int)), (3, 0), (3, 0), (3, 0), (3, 0), (3, 0)]) rfl ?_
  refine ac_aload_n (q := 1) dX4_readNumber_0 rfl rfl ?_
  refine ac_csp (q := 4) (k_X4_lowNumberFree (u := u) (d := d - 1) (by omega) hT hRT9) ml_X4_72 dX4_readNumber_1 rfl rfl rfl (by omega) (Nat.le_of_ble_eq_true rfl) (Nat.zero_le _) (Nat.zero_le _) ?_
  refine ac_bif_eq (q := 7) (tgt := 12) dX4_readNumber_4 rfl rfl (fun h4 => ?_) (fun h4 => ?_)
  · refine ac_bipush (q := 14) dX4_readNumber_12 rfl (by decide) ?_
    refine ac_istore_n (q := 15) (j := 2) rfl dX4_readNumber_14 rfl (Nat.le_of_ble_eq_true rfl) rfl rfl ?_
    simp only [List.set_cons_succ, List.set_cons_zero]
    refine ac_aload_n (q := 16) dX4_readNumber_15 rfl rfl ?_
    refine ac_bipush (q := 18) dX4_readNumber_16 rfl (by decide) ?_
    refine ac_cvp (q := 21) (k_X3_free (t := u) (d := d - 1) (x := 10) (by omega) hT hRT9 ⟨by omega, by omega⟩) ml_X4_75 (by assumption) dX4_readNumber_18 rfl rfl rfl (by omega) (Nat.le_of_ble_eq_true rfl) (Nat.zero_le _) (Nat.zero_le _) ?_
    refine ac_bif_eq (q := 24) (tgt := 29) dX4_readNumber_21 rfl rfl (fun h21 => ?_) (fun h21 => ?_)
    · refine ac_bipush (q := 31) dX4_readNumber_29 rfl (by decide) ?_
      refine ac_istore_n (q := 32) (j := 3) rfl dX4_readNumber_31 rfl (Nat.le_of_ble_eq_true rfl) rfl rfl ?_
      simp only [List.set_cons_succ, List.set_cons_zero]
      refine ac_aload_n (q := 33) dX4_readNumber_32 rfl rfl ?_
      refine ac_iload_n (q := 34) dX4_readNumber_33 rfl rfl ?_
      refine ac_iload_n (q := 35) dX4_readNumber_34 rfl rfl ?_
      refine ac_cv (q := 38) (k_X4_accept (d := d - 1) (p := p) (by omega) hX9 hR9 (by omega) (by omega) (by omega) (by omega) (by omega)) ml_X4_34 (by assumption) dX4_readNumber_35 rfl rfl rfl (by omega) (Nat.le_of_ble_eq_true rfl) (Nat.zero_le _) (Nat.zero_le _) (fun m1 a1 => ?_)
      obtain ⟨g1, f1⟩ := a1
      rw [hcv] at g1
      rw [hcv]
      have h10 : ac_fre n pin 10 ∨ ¬ ac_fre n pin 10 := Classical.em _
      refine after _ _ m1 (by omega) (by omega) (by omega) (by omega) ?_ g1 f1
      first
        | (have hf : ac_fre n pin 10 := ⟨by omega, h21.2⟩
           simp only [ac_okt, h4, hf, and_true, and_false, or_false, false_or]; omega)
        | (have hf : ¬ ac_fre n pin 10 := fun q => h21 ⟨by have := q.1; omega, q.2⟩
           simp only [ac_okt, h4, hf, and_true, and_false, or_false, false_or]; omega)
        | (have hf : ac_fre n pin 10 := ⟨by omega, h21.2⟩
           simp [ac_okt, h4, hf]; omega)
        | (have hf : ¬ ac_fre n pin 10 := fun q => h21 ⟨by have := q.1; omega, q.2⟩
           simp [ac_okt, h4, hf]; omega)
    · refine ac_bipush (q := 26) dX4_readNumber_24 rfl (by decide) ?_
      refine ac_goto (q := 31) dX4_readNumber_26 rfl ?_
      refine ac_istore_n (q := 32) (j := 3) rfl dX4_readNumber_31 rfl (Nat.le_of_ble_eq_true rfl) rfl rfl ?_
      simp only [List.set_cons_succ, List.set_cons_zero]
      refine ac_aload_n (q := 33) dX4_readNumber_32 rfl rfl ?_
      refine ac_iload_n (q := 34) dX4_readNumber_33 rfl rfl ?_
      refine ac_iload_n (q := 35) dX4_readNumber_34 rfl rfl ?_
      refine ac_cv (q := 38) (k_X4_accept (d := d - 1) (p := p) (by omega) hX9 hR9 (by omega) (by omega) (by omega) (by omega) (by omega)) ml_X4_34 (by assumption) dX4_readNumber_35 rfl rfl rfl (by omega) (Nat.le_of_ble_eq_true rfl) (Nat.zero_le _) (Nat.zero_le _) (fun m1 a1 => ?_)
      obtain ⟨g1, f1⟩ := a1
      rw [hcv] at g1
      rw [hcv]
      have h10 : ac_fre n pin 10 ∨ ¬ ac_fre n pin 10 := Classical.em _
      refine after _ _ m1 (by omega) (by omega) (by omega) (by omega) ?_ g1 f1
      first
        | (have hf : ac_fre n pin 10 := ⟨by omega, h21.2⟩
           simp only [ac_okt, h4, hf, and_true, and_false, or_false, false_or]; omega)
        | (have hf : ¬ ac_fre n pin 10 := fun q => h21 ⟨by have := q.1; omega, q.2⟩
           simp only [ac_okt, h4, hf, and_true, and_false, or_false, false_or]; omega)
        | (have hf : ac_fre n pin 10 := ⟨by omega, h21.2⟩
           simp [ac_okt, h4, hf]; omega)
        | (have hf : ¬ ac_fre n pin 10 := fun q => h21 ⟨by have := q.1; omega, q.2⟩
           simp [ac_okt, h4, hf]; omega)
  · refine ac_bipush (q := 9) dX4_readNumber_7 rfl (by decide) ?_
    refine ac_goto (q := 14) dX4_readNumber_9 rfl ?_
    refine ac_istore_n (q := 15) (j := 2) rfl dX4_readNumber_14 rfl (Nat.le_of_ble_eq_true rfl) rfl rfl ?_
    simp only [List.set_cons_succ, List.set_cons_zero]
    refine ac_aload_n (q := 16) dX4_readNumber_15 rfl rfl ?_
    refine ac_bipush (q := 18) dX4_readNumber_16 rfl (by decide) ?_
    refine ac_cvp (q := 21) (k_X3_free (t := u) (d := d - 1) (x := 10) (by omega) hT hRT9 ⟨by omega, by omega⟩) ml_X4_75 (by assumption) dX4_readNumber_18 rfl rfl rfl (by omega) (Nat.le_of_ble_eq_true rfl) (Nat.zero_le _) (Nat.zero_le _) ?_
    refine ac_bif_eq (q := 24) (tgt := 29) dX4_readNumber_21 rfl rfl (fun h21 => ?_) (fun h21 => ?_)
    · refine ac_bipush (q := 31) dX4_readNumber_29 rfl (by decide) ?_
      refine ac_istore_n (q := 32) (j := 3) rfl dX4_readNumber_31 rfl (Nat.le_of_ble_eq_true rfl) rfl rfl ?_
      simp only [List.set_cons_succ, List.set_cons_zero]
      refine ac_aload_n (q := 33) dX4_readNumber_32 rfl rfl ?_
      refine ac_iload_n (q := 34) dX4_readNumber_33 rfl rfl ?_
      refine ac_iload_n (q := 35) dX4_readNumber_34 rfl rfl ?_
      refine ac_cv (q := 38) (k_X4_accept (d := d - 1) (p := p) (by omega) hX9 hR9 (by omega) (by omega) (by omega) (by omega) (by omega)) ml_X4_34 (by assumption) dX4_readNumber_35 rfl rfl rfl (by omega) (Nat.le_of_ble_eq_true rfl) (Nat.zero_le _) (Nat.zero_le _) (fun m1 a1 => ?_)
      obtain ⟨g1, f1⟩ := a1
      rw [hcv] at g1
      rw [hcv]
      have h10 : ac_fre n pin 10 ∨ ¬ ac_fre n pin 10 := Classical.em _
      refine after _ _ m1 (by omega) (by omega) (by omega) (by omega) ?_ g1 f1
      first
        | (have hf : ac_fre n pin 10 := ⟨by omega, h21.2⟩
           simp only [ac_okt, h4, hf, and_true, and_false, or_false, false_or]; omega)
        | (have hf : ¬ ac_fre n pin 10 := fun q => h21 ⟨by have := q.1; omega, q.2⟩
           simp only [ac_okt, h4, hf, and_true, and_false, or_false, false_or]; omega)
        | (have hf : ac_fre n pin 10 := ⟨by omega, h21.2⟩
           simp [ac_okt, h4, hf]; omega)
        | (have hf : ¬ ac_fre n pin 10 := fun q => h21 ⟨by have := q.1; omega, q.2⟩
           simp [ac_okt, h4, hf]; omega)
    · refine ac_bipush (q := 26) dX4_readNumber_24 rfl (by decide) ?_
      refine ac_goto (q := 31) dX4_readNumber_26 rfl ?_
      refine ac_istore_n (q := 32) (j := 3) rfl dX4_readNumber_31 rfl (Nat.le_of_ble_eq_true rfl) rfl rfl ?_
      simp only [List.set_cons_succ, List.set_cons_zero]
      refine ac_aload_n (q := 33) dX4_readNumber_32 rfl rfl ?_
      refine ac_iload_n (q := 34) dX4_readNumber_33 rfl rfl ?_
      refine ac_iload_n (q := 35) dX4_readNumber_34 rfl rfl ?_
      refine ac_cv (q := 38) (k_X4_accept (d := d - 1) (p := p) (by omega) hX9 hR9 (by omega) (by omega) (by omega) (by omega) (by omega)) ml_X4_34 (by assumption) dX4_readNumber_35 rfl rfl rfl (by omega) (Nat.le_of_ble_eq_true rfl) (Nat.zero_le _) (Nat.zero_le _) (fun m1 a1 => ?_)
      obtain ⟨g1, f1⟩ := a1
      rw [hcv] at g1
      rw [hcv]
      have h10 : ac_fre n pin 10 ∨ ¬ ac_fre n pin 10 := Classical.em _
      refine after _ _ m1 (by omega) (by omega) (by omega) (by omega) ?_ g1 f1
      first
        | (have hf : ac_fre n pin 10 := ⟨by omega, h21.2⟩
           simp only [ac_okt, h4, hf, and_true, and_false, or_false, false_or]; omega)
        | (have hf : ¬ ac_fre n pin 10 := fun q => h21 ⟨by have := q.1; omega, q.2⟩
           simp only [ac_okt, h4, hf, and_true, and_false, or_false, false_or]; omega)
        | (have hf : ac_fre n pin 10 := ⟨by omega, h21.2⟩
           simp [ac_okt, h4, hf]; omega)
        | (have hf : ¬ ac_fre n pin 10 := fun q => h21 ⟨by have := q.1; omega, q.2⟩
           simp [ac_okt, h4, hf]; omega)

set_option maxHeartbeats 8000000 in
theorem k_X4_readPin {G : ac_G} {Y : ac_Y} {mm : ac_M} {d t p : Nat} {s : List Nat} {u n k : Nat} {E : List ac_Eq} {pin : Nat → Int} {col : Option (List Nat)} (hd : 4 ≤ d) (hX : ac_isX Y t) (hR : ac_RX mm t s p) (hT : ac_isT Y u) (hRT : ac_RT mm u n k E pin col) (hp : p ≤ 900) (htu : t + 2 ≤ u ∨ u + 4 ≤ t) : ac_C G yX4_readPin cX4_readPin 4 (some .boolean) d 0 0 Y mm [(2, (t : Int)), (2, (u : Int))] (ac_R Y [(0, ac_b ((ac_pinp n k pin s p).2.isSome = true))] (fun m => ac_RX m t s (ac_pinp n k pin s p).1 ∧ (∀ q, (ac_pinp n k pin s p).2 = some q → ac_RT m u n k E (ac_sp pin q.1 q.2) col) ∧ ∀ k', k' ≠ t → (k' < u ∨ u + 3 < k') → m k' = mm k')) := by
  have hX9 := hX
  have hR9 := hR
  obtain ⟨kx, kl, rl⟩ := hX
  obtain ⟨⟨hs60, hs256⟩, hlen, hpl, hlet⟩ := hR
  have hc := ac_ch_lt hs256
  have hRT9 := hRT
  have ku := hT.1
  obtain ⟨⟨⟨hn1, hn2⟩, ⟨hkk1, hkk2⟩, hE, hp0, hpr, hc0⟩, t3, t4, t5, t6, tE, tp, tcb, tc⟩ := hRT
  have hc2' := hc (p + 2)
  have hnp : (ac_nump n pin s p).2 = 0 ∨ ((ac_nump n pin s p).1 = p + 2 ∧ 1 ≤ (ac_nump n pin s p).2 ∧ (ac_nump n pin s p).2 ≤ n) := by
    unfold ac_nump
    split
    · split
      · rename_i q; obtain ⟨-, q, -⟩ := q; exact Or.inr ⟨rfl, q⟩
      · exact Or.inl rfl
    · exact Or.inl rfl
  have epp : ac_pinp n k pin s p = if (ac_nump n pin s p).2 = 0 then ((ac_nump n pin s p).1, none) else if 48 ≤ ac_ch s (p + 2) ∧ ac_ch s (p + 2) < 48 + k then (p + 3, some ((ac_nump n pin s p).2, ac_ch s (p + 2) - 48)) else (p + 2, none) := rfl
  generalize ac_pinp n k pin s p = R at *
  generalize hV : ac_ch s (p + 2) = v at *
  refine ac_met (on := (RX4, "readPin")) rfl rfl (Nat.le_of_ble_eq_true rfl) (ls := [(2, (t : Int)), (2, (u : Int)), (3, 0), (3, 0)]) rfl ?_
  refine ac_aload_n (q := 1) dX4_readPin_0 rfl rfl ?_
  refine ac_aload_n (q := 2) dX4_readPin_1 rfl rfl ?_
  refine ac_cv (q := 5) (k_X4_readNumber (d := d - 1) (u := u) (by omega) hX9 hR9 hT hRT9 (by omega) htu) ml_X4_62 (by assumption) dX4_readPin_2 rfl rfl rfl (by omega) (Nat.le_of_ble_eq_true rfl) (Nat.zero_le _) (Nat.zero_le _) (fun m1 a1 => ?_)
  obtain ⟨g1, f1⟩ := a1
  generalize ac_nump n pin s p = N at *
  obtain ⟨N1, N2⟩ := N
  simp only at hnp epp g1 ⊢
  refine ac_istore_n (q := 6) (j := 2) rfl dX4_readPin_5 rfl (Nat.le_of_ble_eq_true rfl) rfl rfl ?_
  simp only [List.set_cons_succ, List.set_cons_zero]
  refine ac_iload_n (q := 7) dX4_readPin_6 rfl rfl ?_
  refine ac_if_ne (q := 10) (tgt := 12) dX4_readPin_7 rfl rfl ⟨by omega, by omega⟩ (fun h7 => ?_) (fun h7 => ?_)
  · have hRT1 : ac_RT m1 u n k E pin col := ac_RT_keep hRT9 (f1 _ (by omega)) (f1 _ (by omega)) (f1 _ (by omega)) (f1 _ (by omega))
    have e4 : m1 u 4 = (k : Int) := by rw [f1 _ (by omega)]; exact t4
    rw [if_neg (by omega)] at epp
    obtain rfl : N1 = p + 2 := by omega
    refine ac_aload_n (q := 13) dX4_readPin_12 rfl rfl ?_
    refine ac_bipush (q := 15) dX4_readPin_13 rfl (by decide) ?_
    refine ac_bipush (q := 17) dX4_readPin_15 rfl (by decide) ?_
    refine ac_aload_n (q := 18) dX4_readPin_17 rfl rfl ?_
    refine ac_get (q := 21) dX4_readPin_18 fl_X4_66 ku rfl (ac_rdi rfl e4) ?_
    refine ac_iadd (q := 22) dX4_readPin_21 rfl ?_
    refine ac_iconst (q := 23) dX4_readPin_22 rfl ?_
    refine ac_isub (q := 24) dX4_readPin_23 rfl ?_
    refine ac_cv (q := 27) (k_X4_accept (d := d - 1) (p := p + 2) (by omega) hX9 g1 (by omega) (by omega) (by omega) (by omega) (by omega)) ml_X4_34 (by assumption) dX4_readPin_24 rfl rfl rfl (by omega) (Nat.le_of_ble_eq_true rfl) (Nat.zero_le _) (Nat.zero_le _) (fun m2 a2 => ?_)
    obtain ⟨g2, f2⟩ := a2
    rw [hV] at g2
    rw [hV]
    refine ac_istore_n (q := 28) (j := 3) rfl dX4_readPin_27 rfl (Nat.le_of_ble_eq_true rfl) rfl rfl ?_
    simp only [List.set_cons_succ, List.set_cons_zero]
    refine ac_iload_n (q := 29) dX4_readPin_28 rfl rfl ?_
    refine ac_if_ge (q := 32) (tgt := 34) dX4_readPin_29 rfl rfl (by split <;> exact ⟨by omega, by omega⟩) (fun h29 => ?_) (fun h29 => ?_)
    · have e1 : (48 ≤ (v : Int) ∧ (v : Int) ≤ 48 + (k : Int) - 1) := Decidable.byContradiction fun q => by rw [if_neg q] at h29; omega
      rw [if_pos e1] at g2 ⊢
      rw [if_pos (by omega)] at epp
      refine ac_aload_n (q := 35) dX4_readPin_34 rfl rfl ?_
      refine ac_iload_n (q := 36) dX4_readPin_35 rfl rfl ?_
      refine ac_iload_n (q := 37) dX4_readPin_36 rfl rfl ?_
      refine ac_bipush (q := 39) dX4_readPin_37 rfl (by decide) ?_
      refine ac_isub (q := 40) dX4_readPin_39 rfl ?_
      refine ac_cv (q := 43) (k_X3_setPin (t := u) (d := d - 1) (x := N2) (c := (v : Int) - 48) (by omega) hT (ac_RT_keep hRT1 (f2 _ (by omega)) (f2 _ (by omega)) (f2 _ (by omega)) (f2 _ (by omega))) ⟨by omega, by omega⟩ ⟨by omega, by omega⟩) ml_X4_69 (by assumption) dX4_readPin_40 rfl rfl rfl (by omega) (Nat.le_of_ble_eq_true rfl) (Nat.zero_le _) (Nat.zero_le _) (fun m3 h3 => ?_)
      obtain ⟨g3, f3⟩ := h3
      refine ac_iconst (q := 44) dX4_readPin_43 rfl ?_
      refine ac_zreturn dX4_readPin_44 rfl (by first | exact ac_b01 | omega) (Nat.zero_le _) (Nat.zero_le _) ?_
      subst epp
      refine ⟨ac_l1 rfl, rfl, ac_RX_keep g2 (f3 _ (by omega)) (f3 _ (by omega)), fun q hq => ?_, fun k' h1 h2 => (f3 k' (by omega)).trans ((f2 k' h1).trans (f1 k' h1))⟩
      cases hq
      rw [if_pos (by omega)] at g3
      rw [show (((v - 48 : Nat) : Int)) = (v : Int) - 48 by omega]; exact g3
    · have e1 : ¬ (48 ≤ (v : Int) ∧ (v : Int) ≤ 48 + (k : Int) - 1) := fun q => by rw [if_pos q] at h29; omega
      rw [if_neg e1] at g2
      rw [if_neg (fun q => e1 (by omega))] at epp
      refine ac_iconst (q := 33) dX4_readPin_32 rfl ?_
      refine ac_zreturn dX4_readPin_33 rfl (by first | exact ac_b01 | omega) (Nat.zero_le _) (Nat.zero_le _) ?_
      subst epp
      exact ⟨ac_l0 (by simp), rfl, g2, fun q hq => (by cases hq), fun k' h1 h2 => (f2 k' h1).trans (f1 k' h1)⟩
  · refine ac_iconst (q := 11) dX4_readPin_10 rfl ?_
    refine ac_zreturn dX4_readPin_11 rfl (by first | exact ac_b01 | omega) (Nat.zero_le _) (Nat.zero_le _) ?_
    rw [if_pos (by omega)] at epp
    subst epp
    exact ⟨ac_l0 (by simp), rfl, g1, fun q hq => (by cases hq), fun k' h1 h2 => f1 k' h1⟩

set_option maxHeartbeats 8000000 in
theorem k_X4_readEquation {G : ac_G} {Y : ac_Y} {mm : ac_M} {d t p : Nat} {s : List Nat} {u n k : Nat} {E : List ac_Eq} {pin : Nat → Int} {col : Option (List Nat)} (hd : 4 ≤ d) (hX : ac_isX Y t) (hR : ac_RX mm t s p) (hT : ac_isT Y u) (hRT : ac_RT mm u n k E pin col) (hE4 : E.length < 4) (hp : p ≤ 900) (htu : t + 2 ≤ u ∨ u + 4 ≤ t) : ac_C G yX4_readEquation cX4_readEquation 6 (some .boolean) d 0 0 Y mm [(2, (t : Int)), (2, (u : Int))] (ac_R Y [(0, ac_b ((ac_eqp s p).2.isSome = true))] (fun m => ac_RX m t s (ac_eqp s p).1 ∧ (∀ q, (ac_eqp s p).2 = some q → ac_RT m u n k (E ++ [q]) pin col) ∧ ∀ k', k' ≠ t → (k' < u ∨ u + 3 < k') → m k' = mm k')) := by
  have hX9 := hX
  have hR9 := hR
  obtain ⟨kx, kl, rl⟩ := hX
  obtain ⟨⟨hs60, hs256⟩, hlen, hpl, hlet⟩ := hR
  have hc := ac_ch_lt hs256
  have hRT9 := hRT
  have ku := hT.1
  obtain ⟨⟨⟨hn1, hn2⟩, ⟨hkk1, hkk2⟩, hE, hp0, hpr, hc0⟩, t3, t4, t5, t6, tE, tp, tcb, tc⟩ := hRT
  have hc3' := hc (p + 3)
  have q0 := ac_fc_in (ac_ch s p)
  have q1 := ac_fc_in (ac_ch s (p + 1))
  have q2 := ac_fc_in (ac_ch s (p + 2))
  have epp : ac_eqp s p = if ac_fc (ac_ch s p) = 0 then (p, none) else if ac_fc (ac_ch s (p + 1)) = 0 then (p + 1, none) else if ac_fc (ac_ch s (p + 2)) = 0 then (p + 2, none)
    else if ac_ch s (p + 3) = 33 then (p + 4, some (ac_fc (ac_ch s p), ac_fc (ac_ch s (p + 1)), ac_fc (ac_ch s (p + 2)), 1)) else if ac_ch s (p + 3) = 61 then (p + 4, some (ac_fc (ac_ch s p), ac_fc (ac_ch s (p + 1)), ac_fc (ac_ch s (p + 2)), 0)) else (p + 3, none) := rfl
  generalize ac_eqp s p = R at *
  generalize hV : ac_ch s (p + 3) = v at *
  refine ac_met (on := (RX4, "readEquation")) rfl rfl (Nat.le_of_ble_eq_true rfl) (ls := [(2, (t : Int)), (2, (u : Int)), (3, 0), (3, 0), (3, 0), (3, 0)]) rfl ?_
  refine ac_aload_n (q := 1) dX4_readEquation_0 rfl rfl ?_
  refine ac_cv (q := 4) (k_X4_readFactor (d := d - 1) (p := p) (by omega) hX9 hR9 (by omega)) ml_X4_55 (by assumption) dX4_readEquation_1 rfl rfl rfl (by omega) (Nat.le_of_ble_eq_true rfl) (Nat.zero_le _) (Nat.zero_le _) (fun m1 a1 => ?_)
  obtain ⟨g1, f1⟩ := a1
  generalize ac_fc (ac_ch s p) = x1 at *
  refine ac_istore_n (q := 5) (j := 2) rfl dX4_readEquation_4 rfl (Nat.le_of_ble_eq_true rfl) rfl rfl ?_
  simp only [List.set_cons_succ, List.set_cons_zero]
  refine ac_iload_n (q := 6) dX4_readEquation_5 rfl rfl ?_
  refine ac_if_ne (q := 9) (tgt := 13) dX4_readEquation_6 rfl rfl ⟨by omega, by omega⟩ (fun h6 => ?_) (fun h6 => ?_)
  · rw [if_neg (by omega)] at g1 epp
    refine ac_aload_n (q := 14) dX4_readEquation_13 rfl rfl ?_
    refine ac_cv (q := 17) (k_X4_readFactor (d := d - 1) (p := p + 1) (by omega) hX9 g1 (by omega)) ml_X4_55 (by assumption) dX4_readEquation_14 rfl rfl rfl (by omega) (Nat.le_of_ble_eq_true rfl) (Nat.zero_le _) (Nat.zero_le _) (fun m2 a2 => ?_)
    obtain ⟨g2, f2⟩ := a2
    generalize ac_fc (ac_ch s (p + 1)) = x2 at *
    refine ac_istore_n (q := 18) (j := 3) rfl dX4_readEquation_17 rfl (Nat.le_of_ble_eq_true rfl) rfl rfl ?_
    simp only [List.set_cons_succ, List.set_cons_zero]
    refine ac_iload_n (q := 19) dX4_readEquation_18 rfl rfl ?_
    refine ac_if_ne (q := 22) (tgt := 26) dX4_readEquation_19 rfl rfl ⟨by omega, by omega⟩ (fun h19 => ?_) (fun h19 => ?_)
    · rw [if_neg (by omega)] at g2 epp
      refine ac_aload_n (q := 27) dX4_readEquation_26 rfl rfl ?_
      refine ac_cv (q := 30) (k_X4_readFactor (d := d - 1) (p := p + 2) (by omega) hX9 g2 (by omega)) ml_X4_55 (by assumption) dX4_readEquation_27 rfl rfl rfl (by omega) (Nat.le_of_ble_eq_true rfl) (Nat.zero_le _) (Nat.zero_le _) (fun m3 a3 => ?_)
      obtain ⟨g3, f3⟩ := a3
      generalize ac_fc (ac_ch s (p + 2)) = x3 at *
      refine ac_istore (q := 32) dX4_readEquation_30 rfl (Nat.le_of_ble_eq_true rfl) rfl rfl ?_
      simp only [List.set_cons_succ, List.set_cons_zero]
      refine ac_iload (q := 34) dX4_readEquation_32 rfl rfl ?_
      refine ac_if_ne (q := 37) (tgt := 39) dX4_readEquation_34 rfl rfl ⟨by omega, by omega⟩ (fun h34 => ?_) (fun h34 => ?_)
      · rw [if_neg (by omega)] at g3 epp
        refine ac_aload_n (q := 40) dX4_readEquation_39 rfl rfl ?_
        refine ac_bipush (q := 42) dX4_readEquation_40 rfl (by decide) ?_
        refine ac_bipush (q := 44) dX4_readEquation_42 rfl (by decide) ?_
        refine ac_cv (q := 47) (k_X4_accept (d := d - 1) (p := p + 3) (by omega) hX9 g3 (by omega) (by omega) (by omega) (by omega) (by omega)) ml_X4_34 (by assumption) dX4_readEquation_44 rfl rfl rfl (by omega) (Nat.le_of_ble_eq_true rfl) (Nat.zero_le _) (Nat.zero_le _) (fun m4 a4 => ?_)
        obtain ⟨g4, f4⟩ := a4
        rw [hV] at g4
        rw [hV]
        refine ac_if_lt (q := 50) (tgt := 54) dX4_readEquation_47 rfl rfl (by split <;> exact ⟨by omega, by omega⟩) (fun h47 => ?_) (fun h47 => ?_)
        · have e1 : ¬ (33 ≤ (v : Int) ∧ (v : Int) ≤ 33) := fun q => by rw [if_pos q] at h47; omega
          rw [if_neg e1] at g4
          rw [if_neg (by omega)] at epp
          refine ac_iconst (q := 55) dX4_readEquation_54 rfl ?_
          refine ac_istore (q := 57) dX4_readEquation_55 rfl (Nat.le_of_ble_eq_true rfl) rfl rfl ?_
          simp only [List.set_cons_succ, List.set_cons_zero]
          refine ac_iload (q := 59) dX4_readEquation_57 rfl rfl ?_
          refine ac_if_ne (q := 62) (tgt := 75) dX4_readEquation_59 rfl rfl ⟨by omega, by omega⟩ (fun h59 => ?_) (fun h59 => ?_)
          · exact absurd h59 (by decide)
          · refine ac_aload_n (q := 63) dX4_readEquation_62 rfl rfl ?_
            refine ac_bipush (q := 65) dX4_readEquation_63 rfl (by decide) ?_
            refine ac_bipush (q := 67) dX4_readEquation_65 rfl (by decide) ?_
            refine ac_cv (q := 70) (k_X4_accept (d := d - 1) (p := p + 3) (by omega) hX9 g4 (by omega) (by omega) (by omega) (by omega) (by omega)) ml_X4_34 (by assumption) dX4_readEquation_67 rfl rfl rfl (by omega) (Nat.le_of_ble_eq_true rfl) (Nat.zero_le _) (Nat.zero_le _) (fun m5 a5 => ?_)
            obtain ⟨g5, f5⟩ := a5
            rw [hV] at g5
            rw [hV]
            refine ac_if_ge (q := 73) (tgt := 75) dX4_readEquation_70 rfl rfl (by split <;> exact ⟨by omega, by omega⟩) (fun h70 => ?_) (fun h70 => ?_)
            · have e2 : (61 ≤ (v : Int) ∧ (v : Int) ≤ 61) := Decidable.byContradiction fun q => by rw [if_neg q] at h70; omega
              rw [if_pos e2] at g5
              rw [if_pos (by omega)] at epp
              have hRT5 : ac_RT m5 u n k E pin col := ac_RT_keep hRT9 (by rw [f5 _ (by omega), f4 _ (by omega), f3 _ (by omega), f2 _ (by omega), f1 _ (by omega)]) (by rw [f5 _ (by omega), f4 _ (by omega), f3 _ (by omega), f2 _ (by omega), f1 _ (by omega)]) (by rw [f5 _ (by omega), f4 _ (by omega), f3 _ (by omega), f2 _ (by omega), f1 _ (by omega)]) (by rw [f5 _ (by omega), f4 _ (by omega), f3 _ (by omega), f2 _ (by omega), f1 _ (by omega)])
              refine ac_aload_n (q := 76) dX4_readEquation_75 rfl rfl ?_
              refine ac_iload_n (q := 77) dX4_readEquation_76 rfl rfl ?_
              refine ac_iload_n (q := 78) dX4_readEquation_77 rfl rfl ?_
              refine ac_iload (q := 80) dX4_readEquation_78 rfl rfl ?_
              refine ac_iload (q := 82) dX4_readEquation_80 rfl rfl ?_
              refine ac_if_eq (q := 85) (tgt := 89) dX4_readEquation_82 rfl rfl ⟨by omega, by omega⟩ (fun h82 => ?_) (fun h82 => ?_)
              · refine ac_iconst (q := 90) dX4_readEquation_89 rfl ?_
                have hokq : ac_okq (x1, x2, x3, 0) := ⟨show (-4 ≤ x1 ∧ x1 ≤ 4) ∧ x1 ≠ 0 by omega, show (-4 ≤ x2 ∧ x2 ≤ 4) ∧ x2 ≠ 0 by omega, show (-4 ≤ x3 ∧ x3 ≤ 4) ∧ x3 ≠ 0 by omega, by simp⟩
                refine ac_cv (q := 93) (k_X3_append (t := u) (d := d - 1) (a := x1) (b := x2) (c := x3) (ap := 0) (by omega) hT hRT5 hE4 hokq) ml_X4_58 (by assumption) dX4_readEquation_90 rfl rfl rfl (by omega) (Nat.le_of_ble_eq_true rfl) (Nat.zero_le _) (Nat.zero_le _) (fun m6 h6 => ?_)
                obtain ⟨g6, f6⟩ := h6
                refine ac_iconst (q := 94) dX4_readEquation_93 rfl ?_
                refine ac_zreturn dX4_readEquation_94 rfl (by first | exact ac_b01 | omega) (Nat.zero_le _) (Nat.zero_le _) ?_
                subst epp
                exact ⟨ac_l1 rfl, rfl, ac_RX_keep g5 (f6 _ (by omega)) (f6 _ (by omega)), fun q hq => by cases hq; exact g6, fun k' h1 h2 => by rw [f6 k' h2, f5 k' h1, f4 k' h1, f3 k' h1, f2 k' h1, f1 k' h1]⟩
              · exact absurd h82 (by decide)
            · have e2 : ¬ (61 ≤ (v : Int) ∧ (v : Int) ≤ 61) := fun q => by rw [if_pos q] at h70; omega
              rw [if_neg e2] at g5
              rw [if_neg (by omega)] at epp
              refine ac_iconst (q := 74) dX4_readEquation_73 rfl ?_
              refine ac_zreturn dX4_readEquation_74 rfl (by first | exact ac_b01 | omega) (Nat.zero_le _) (Nat.zero_le _) ?_
              subst epp
              exact ⟨ac_l0 (by simp), rfl, g5, fun q hq => (by cases hq), fun k' h1 h2 => by rw [f5 k' h1, f4 k' h1, f3 k' h1, f2 k' h1, f1 k' h1]⟩
        · have e1 : (33 ≤ (v : Int) ∧ (v : Int) ≤ 33) := Decidable.byContradiction fun q => by rw [if_neg q] at h47; omega
          rw [if_pos e1] at g4
          rw [if_pos (by omega)] at epp
          have hRT5 : ac_RT m4 u n k E pin col := ac_RT_keep hRT9 (by rw [f4 _ (by omega), f3 _ (by omega), f2 _ (by omega), f1 _ (by omega)]) (by rw [f4 _ (by omega), f3 _ (by omega), f2 _ (by omega), f1 _ (by omega)]) (by rw [f4 _ (by omega), f3 _ (by omega), f2 _ (by omega), f1 _ (by omega)]) (by rw [f4 _ (by omega), f3 _ (by omega), f2 _ (by omega), f1 _ (by omega)])
          have g5 := g4
          have f5 : ∀ k', k' ≠ t → m4 k' = m4 k' := fun _ _ => rfl
          refine ac_iconst (q := 51) dX4_readEquation_50 rfl ?_
          refine ac_goto (q := 55) dX4_readEquation_51 rfl ?_
          refine ac_istore (q := 57) dX4_readEquation_55 rfl (Nat.le_of_ble_eq_true rfl) rfl rfl ?_
          simp only [List.set_cons_succ, List.set_cons_zero]
          refine ac_iload (q := 59) dX4_readEquation_57 rfl rfl ?_
          refine ac_if_ne (q := 62) (tgt := 75) dX4_readEquation_59 rfl rfl ⟨by omega, by omega⟩ (fun h59 => ?_) (fun h59 => ?_)
          · refine ac_aload_n (q := 76) dX4_readEquation_75 rfl rfl ?_
            refine ac_iload_n (q := 77) dX4_readEquation_76 rfl rfl ?_
            refine ac_iload_n (q := 78) dX4_readEquation_77 rfl rfl ?_
            refine ac_iload (q := 80) dX4_readEquation_78 rfl rfl ?_
            refine ac_iload (q := 82) dX4_readEquation_80 rfl rfl ?_
            refine ac_if_eq (q := 85) (tgt := 89) dX4_readEquation_82 rfl rfl ⟨by omega, by omega⟩ (fun h82 => ?_) (fun h82 => ?_)
            · exact absurd h82 (by decide)
            · refine ac_iconst (q := 86) dX4_readEquation_85 rfl ?_
              refine ac_goto (q := 90) dX4_readEquation_86 rfl ?_
              have hokq : ac_okq (x1, x2, x3, 1) := ⟨show (-4 ≤ x1 ∧ x1 ≤ 4) ∧ x1 ≠ 0 by omega, show (-4 ≤ x2 ∧ x2 ≤ 4) ∧ x2 ≠ 0 by omega, show (-4 ≤ x3 ∧ x3 ≤ 4) ∧ x3 ≠ 0 by omega, by simp⟩
              refine ac_cv (q := 93) (k_X3_append (t := u) (d := d - 1) (a := x1) (b := x2) (c := x3) (ap := 1) (by omega) hT hRT5 hE4 hokq) ml_X4_58 (by assumption) dX4_readEquation_90 rfl rfl rfl (by omega) (Nat.le_of_ble_eq_true rfl) (Nat.zero_le _) (Nat.zero_le _) (fun m6 h6 => ?_)
              obtain ⟨g6, f6⟩ := h6
              refine ac_iconst (q := 94) dX4_readEquation_93 rfl ?_
              refine ac_zreturn dX4_readEquation_94 rfl (by first | exact ac_b01 | omega) (Nat.zero_le _) (Nat.zero_le _) ?_
              subst epp
              exact ⟨ac_l1 rfl, rfl, ac_RX_keep g5 (f6 _ (by omega)) (f6 _ (by omega)), fun q hq => by cases hq; exact g6, fun k' h1 h2 => by rw [f6 k' h2, f5 k' h1, f4 k' h1, f3 k' h1, f2 k' h1, f1 k' h1]⟩
          · exact absurd h59 (by decide)
      · try (rw [if_pos (by omega)] at g3 epp)
        refine ac_iconst (q := 38) dX4_readEquation_37 rfl ?_
        refine ac_zreturn dX4_readEquation_38 rfl (by first | exact ac_b01 | omega) (Nat.zero_le _) (Nat.zero_le _) ?_
        subst epp
        first
          | exact ⟨ac_l0 (by simp), rfl, g3, fun q hq => (by cases hq), fun k' h1 h2 => by rw [f3 k' h1, f2 k' h1, f1 k' h1]⟩
          | exact ⟨ac_l0 (by simp), rfl, g2, fun q hq => (by cases hq), fun k' h1 h2 => by rw [f2 k' h1, f1 k' h1]⟩
          | exact ⟨ac_l0 (by simp), rfl, g1, fun q hq => (by cases hq), fun k' h1 h2 => by rw [f1 k' h1]⟩
    · try (rw [if_pos (by omega)] at g2 epp)
      refine ac_iconst (q := 23) dX4_readEquation_22 rfl ?_
      refine ac_goto (q := 30) dX4_readEquation_23 rfl ?_
      refine ac_istore (q := 32) dX4_readEquation_30 rfl (Nat.le_of_ble_eq_true rfl) rfl rfl ?_
      simp only [List.set_cons_succ, List.set_cons_zero]
      refine ac_iload (q := 34) dX4_readEquation_32 rfl rfl ?_
      refine ac_if_ne (q := 37) (tgt := 39) dX4_readEquation_34 rfl rfl ⟨by omega, by omega⟩ (fun h34 => ?_) (fun h34 => ?_)
      · exact absurd h34 (by decide)
      · try (rw [if_pos (by omega)] at g3 epp)
        refine ac_iconst (q := 38) dX4_readEquation_37 rfl ?_
        refine ac_zreturn dX4_readEquation_38 rfl (by first | exact ac_b01 | omega) (Nat.zero_le _) (Nat.zero_le _) ?_
        subst epp
        first
          | exact ⟨ac_l0 (by simp), rfl, g3, fun q hq => (by cases hq), fun k' h1 h2 => by rw [f3 k' h1, f2 k' h1, f1 k' h1]⟩
          | exact ⟨ac_l0 (by simp), rfl, g2, fun q hq => (by cases hq), fun k' h1 h2 => by rw [f2 k' h1, f1 k' h1]⟩
          | exact ⟨ac_l0 (by simp), rfl, g1, fun q hq => (by cases hq), fun k' h1 h2 => by rw [f1 k' h1]⟩
  · rw [if_pos (by omega)] at g1 epp
    refine ac_iconst (q := 10) dX4_readEquation_9 rfl ?_
    refine ac_goto (q := 17) dX4_readEquation_10 rfl ?_
    refine ac_istore_n (q := 18) (j := 3) rfl dX4_readEquation_17 rfl (Nat.le_of_ble_eq_true rfl) rfl rfl ?_
    simp only [List.set_cons_succ, List.set_cons_zero]
    refine ac_iload_n (q := 19) dX4_readEquation_18 rfl rfl ?_
    refine ac_if_ne (q := 22) (tgt := 26) dX4_readEquation_19 rfl rfl ⟨by omega, by omega⟩ (fun h19 => ?_) (fun h19 => ?_)
    · exact absurd h19 (by decide)
    · try (rw [if_pos (by omega)] at g2 epp)
      refine ac_iconst (q := 23) dX4_readEquation_22 rfl ?_
      refine ac_goto (q := 30) dX4_readEquation_23 rfl ?_
      refine ac_istore (q := 32) dX4_readEquation_30 rfl (Nat.le_of_ble_eq_true rfl) rfl rfl ?_
      simp only [List.set_cons_succ, List.set_cons_zero]
      refine ac_iload (q := 34) dX4_readEquation_32 rfl rfl ?_
      refine ac_if_ne (q := 37) (tgt := 39) dX4_readEquation_34 rfl rfl ⟨by omega, by omega⟩ (fun h34 => ?_) (fun h34 => ?_)
      · exact absurd h34 (by decide)
      · try (rw [if_pos (by omega)] at g3 epp)
        refine ac_iconst (q := 38) dX4_readEquation_37 rfl ?_
        refine ac_zreturn dX4_readEquation_38 rfl (by first | exact ac_b01 | omega) (Nat.zero_le _) (Nat.zero_le _) ?_
        subst epp
        first
          | exact ⟨ac_l0 (by simp), rfl, g3, fun q hq => (by cases hq), fun k' h1 h2 => by rw [f3 k' h1, f2 k' h1, f1 k' h1]⟩
          | exact ⟨ac_l0 (by simp), rfl, g2, fun q hq => (by cases hq), fun k' h1 h2 => by rw [f2 k' h1, f1 k' h1]⟩
          | exact ⟨ac_l0 (by simp), rfl, g1, fun q hq => (by cases hq), fun k' h1 h2 => by rw [f1 k' h1]⟩

set_option maxHeartbeats 8000000 in
theorem k_X4_readHead {G : ac_G} {Y : ac_Y} {mm : ac_M} {d t u : Nat} {s : List Nat} (hd : 5 ≤ d) (hX : ac_isX Y t) (hR : ac_RX mm t s 0) (hT : ac_isT Y u) (htu : t + 2 ≤ u ∨ u + 4 ≤ t) : ac_C G yX4_readHead cX4_readHead 5 (some .boolean) d 0 0 Y mm [(2, (t : Int)), (2, (u : Int))] (ac_R Y [(0, ac_b ((ac_hdp s).2.isSome = true))] (fun m => ac_RX m t s (ac_hdp s).1 ∧ (∀ n k, (ac_hdp s).2 = some (n, k) → ac_RT m u n k [] (fun _ => -1) none) ∧ ∀ k', k' ≠ t → (k' < u ∨ u + 3 < k') → m k' = mm k')) := by
  have hX9 := hX
  have hR9 := hR
  obtain ⟨kx, kl, rl⟩ := hX
  obtain ⟨⟨hs60, hs256⟩, hlen, hpl, hlet⟩ := hR
  have hc := ac_ch_lt hs256
  have ku := hT.1
  have z0 := hc 0
  have z1 := hc 1
  have z2 := hc 2
  have z3 := hc 3
  have epp : ac_hdp s = if ac_ch s 0 ≠ 82 then (0, none) else if ¬ (48 ≤ ac_ch s 1 ∧ ac_ch s 1 ≤ 49) then (1, none)
    else if ¬ ((ac_ch s 1 = 49 ∧ ac_ch s 2 = 48) ∨ (ac_ch s 1 = 48 ∧ 49 ≤ ac_ch s 2 ∧ ac_ch s 2 ≤ 57)) then (2, none)
    else if ¬ (50 ≤ ac_ch s 3 ∧ ac_ch s 3 ≤ 51) then (3, none) else (4, some (10 * (ac_ch s 1 - 48) + (ac_ch s 2 - 48), ac_ch s 3 - 48)) := rfl
  generalize ac_hdp s = R at *
  generalize hv0 : ac_ch s 0 = v0 at *
  generalize hv1 : ac_ch s 1 = v1 at *
  generalize hv2 : ac_ch s 2 = v2 at *
  generalize hv3 : ac_ch s 3 = v3 at *
  refine ac_met (on := (RX4, "readHead")) rfl rfl (Nat.le_of_ble_eq_true rfl) (ls := [(2, (t : Int)), (2, (u : Int)), (3, 0), (3, 0), (3, 0)]) rfl ?_
  refine ac_aload_n (q := 1) dX4_readHead_0 rfl rfl ?_
  refine ac_bipush (q := 3) dX4_readHead_1 rfl (by decide) ?_
  refine ac_bipush (q := 5) dX4_readHead_3 rfl (by decide) ?_
  refine ac_cv (q := 8) (k_X4_accept (d := d - 1) (p := 0) (by omega) hX9 hR9 (by omega) (by omega) (by omega) (by omega) (by omega)) ml_X4_34 (by assumption) dX4_readHead_5 rfl rfl rfl (by omega) (Nat.le_of_ble_eq_true rfl) (Nat.zero_le _) (Nat.zero_le _) (fun m1 a1 => ?_)
  obtain ⟨g1, f1⟩ := a1
  rw [hv0] at g1
  rw [hv0]
  refine ac_if_ge (q := 11) (tgt := 13) dX4_readHead_8 rfl rfl (by split <;> exact ⟨by omega, by omega⟩) (fun h8 => ?_) (fun h8 => ?_)
  · have e8 : (82 ≤ (v0 : Int) ∧ (v0 : Int) ≤ 82) := Decidable.byContradiction fun q => by rw [if_neg q] at h8; omega
    rw [if_pos e8] at g1
    rw [if_neg (by omega)] at epp
    refine ac_aload_n (q := 14) dX4_readHead_13 rfl rfl ?_
    refine ac_bipush (q := 16) dX4_readHead_14 rfl (by decide) ?_
    refine ac_bipush (q := 18) dX4_readHead_16 rfl (by decide) ?_
    refine ac_cv (q := 21) (k_X4_accept (d := d - 1) (p := 1) (by omega) hX9 g1 (by omega) (by omega) (by omega) (by omega) (by omega)) ml_X4_34 (by assumption) dX4_readHead_18 rfl rfl rfl (by omega) (Nat.le_of_ble_eq_true rfl) (Nat.zero_le _) (Nat.zero_le _) (fun m2 a2 => ?_)
    obtain ⟨g2, f2⟩ := a2
    rw [hv1] at g2
    rw [hv1]
    refine ac_istore_n (q := 22) (j := 2) rfl dX4_readHead_21 rfl (Nat.le_of_ble_eq_true rfl) rfl rfl ?_
    simp only [List.set_cons_succ, List.set_cons_zero]
    refine ac_iload_n (q := 23) dX4_readHead_22 rfl rfl ?_
    refine ac_if_ge (q := 26) (tgt := 28) dX4_readHead_23 rfl rfl (by split <;> exact ⟨by omega, by omega⟩) (fun h23 => ?_) (fun h23 => ?_)
    · have e23 : (48 ≤ (v1 : Int) ∧ (v1 : Int) ≤ 49) := Decidable.byContradiction fun q => by rw [if_neg q] at h23; omega
      rw [if_pos e23] at g2 ⊢
      rw [if_neg (by omega)] at epp
      refine ac_iload_n (q := 29) dX4_readHead_28 rfl rfl ?_
      refine ac_bipush (q := 31) dX4_readHead_29 rfl (by decide) ?_
      refine ac_icmp_ne (q := 34) (tgt := 45) dX4_readHead_31 rfl rfl ⟨by omega, by omega⟩ ⟨by omega, by omega⟩ (fun h31 => ?_) (fun h31 => ?_)
      · refine ac_aload_n (q := 46) dX4_readHead_45 rfl rfl ?_
        refine ac_bipush (q := 48) dX4_readHead_46 rfl (by decide) ?_
        refine ac_bipush (q := 50) dX4_readHead_48 rfl (by decide) ?_
        refine ac_cv (q := 53) (k_X4_accept (d := d - 1) (p := 2) (by omega) hX9 g2 (by omega) (by omega) (by omega) (by omega) (by omega)) ml_X4_34 (by assumption) dX4_readHead_50 rfl rfl rfl (by omega) (Nat.le_of_ble_eq_true rfl) (Nat.zero_le _) (Nat.zero_le _) (fun m3 a3 => ?_)
        obtain ⟨g3, f3⟩ := a3
        rw [hv2] at g3
        rw [hv2]
        refine ac_istore_n (q := 54) (j := 3) rfl dX4_readHead_53 rfl (Nat.le_of_ble_eq_true rfl) rfl rfl ?_
        simp only [List.set_cons_succ, List.set_cons_zero]
        refine ac_iload_n (q := 55) dX4_readHead_54 rfl rfl ?_
        refine ac_if_ge (q := 58) (tgt := 60) dX4_readHead_55 rfl rfl (by split <;> exact ⟨by omega, by omega⟩) (fun h55 => ?_) (fun h55 => ?_)
        · have e55 : (v1 = 49 ∧ v2 = 48) ∨ (v1 = 48 ∧ 49 ≤ v2 ∧ v2 ≤ 57) := by
            first
              | (have e : (48 ≤ (v2 : Int) ∧ (v2 : Int) ≤ 48) := Decidable.byContradiction fun q => by rw [if_neg q] at h55; omega
                 omega)
              | (have e : (49 ≤ (v2 : Int) ∧ (v2 : Int) ≤ 57) := Decidable.byContradiction fun q => by rw [if_neg q] at h55; omega
                 omega)
          rw [if_pos (by omega)] at g3 ⊢
          rw [if_neg (by omega)] at epp
          refine ac_aload_n (q := 61) dX4_readHead_60 rfl rfl ?_
          refine ac_bipush (q := 63) dX4_readHead_61 rfl (by decide) ?_
          refine ac_bipush (q := 65) dX4_readHead_63 rfl (by decide) ?_
          refine ac_cv (q := 68) (k_X4_accept (d := d - 1) (p := 3) (by omega) hX9 g3 (by omega) (by omega) (by omega) (by omega) (by omega)) ml_X4_34 (by assumption) dX4_readHead_65 rfl rfl rfl (by omega) (Nat.le_of_ble_eq_true rfl) (Nat.zero_le _) (Nat.zero_le _) (fun m4 a4 => ?_)
          obtain ⟨g4, f4⟩ := a4
          rw [hv3] at g4
          rw [hv3]
          refine ac_istore (q := 70) dX4_readHead_68 rfl (Nat.le_of_ble_eq_true rfl) rfl rfl ?_
          simp only [List.set_cons_succ, List.set_cons_zero]
          refine ac_iload (q := 72) dX4_readHead_70 rfl rfl ?_
          refine ac_if_ge (q := 75) (tgt := 77) dX4_readHead_72 rfl rfl (by split <;> exact ⟨by omega, by omega⟩) (fun h72 => ?_) (fun h72 => ?_)
          · have e72 : (50 ≤ (v3 : Int) ∧ (v3 : Int) ≤ 51) := Decidable.byContradiction fun q => by rw [if_neg q] at h72; omega
            rw [if_pos e72] at g4 ⊢
            rw [if_neg (by omega)] at epp
            refine ac_aload_n (q := 78) dX4_readHead_77 rfl rfl ?_
            refine ac_bipush (q := 80) dX4_readHead_78 rfl (by decide) ?_
            refine ac_iload_n (q := 81) dX4_readHead_80 rfl rfl ?_
            refine ac_bipush (q := 83) dX4_readHead_81 rfl (by decide) ?_
            refine ac_isub (q := 84) dX4_readHead_83 rfl ?_
            refine ac_imul (q := 85) dX4_readHead_84 rfl ?_
            refine ac_iload_n (q := 86) dX4_readHead_85 rfl rfl ?_
            refine ac_iadd (q := 87) dX4_readHead_86 rfl ?_
            refine ac_bipush (q := 89) dX4_readHead_87 rfl (by decide) ?_
            refine ac_isub (q := 90) dX4_readHead_89 rfl ?_
            refine ac_iload (q := 92) dX4_readHead_90 rfl rfl ?_
            refine ac_bipush (q := 94) dX4_readHead_92 rfl (by decide) ?_
            refine ac_isub (q := 95) dX4_readHead_94 rfl ?_
            refine ac_top (w' := (0, ((v3 - 48 : Nat) : Int))) (congrArg (fun z : Int => ((0 : Nat), z)) (by omega)) ?_
            refine ac_top2 (w' := (0, ((10 * (v1 - 48) + (v2 - 48) : Nat) : Int))) (congrArg (fun z : Int => ((0 : Nat), z)) (by omega)) ?_
            refine ac_cv (q := 98) (k_X3_start (t := u) (d := d - 1) (by omega) hT (by omega) (by omega)) ml_X4_51 (by assumption) dX4_readHead_95 rfl rfl rfl (by omega) (Nat.le_of_ble_eq_true rfl) (Nat.zero_le _) (Nat.zero_le _) (fun m5 h5 => ?_)
            obtain ⟨g5, f5⟩ := h5
            refine ac_iconst (q := 99) dX4_readHead_98 rfl ?_
            refine ac_zreturn dX4_readHead_99 rfl (by first | exact ac_b01 | omega) (Nat.zero_le _) (Nat.zero_le _) ?_
            subst epp
            exact ⟨ac_l1 rfl, rfl, ac_RX_keep g4 (f5 _ (by omega)) (f5 _ (by omega)), fun n k hq => by cases hq; exact g5, fun k' h1 h2 => by rw [f5 k' h2, f4 k' h1, f3 k' h1, f2 k' h1, f1 k' h1]⟩
          · have e72 : ¬ (50 ≤ (v3 : Int) ∧ (v3 : Int) ≤ 51) := fun q => by rw [if_pos q] at h72; omega
            rw [if_neg e72] at g4
            rw [if_pos (by omega)] at epp
            refine ac_iconst (q := 76) dX4_readHead_75 rfl ?_
            refine ac_zreturn dX4_readHead_76 rfl (by first | exact ac_b01 | omega) (Nat.zero_le _) (Nat.zero_le _) ?_
            subst epp
            exact ⟨ac_l0 (by simp), rfl, g4, fun n k hq => (by cases hq), fun k' h1 h2 => by rw [f4 k' h1, f3 k' h1, f2 k' h1, f1 k' h1]⟩
        · first
            | (have e55 : ¬ (48 ≤ (v2 : Int) ∧ (v2 : Int) ≤ 48) := fun q => by rw [if_pos q] at h55; omega
               rw [if_neg e55] at g3)
            | (have e55 : ¬ (49 ≤ (v2 : Int) ∧ (v2 : Int) ≤ 57) := fun q => by rw [if_pos q] at h55; omega
               rw [if_neg e55] at g3)
          rw [if_pos (by omega)] at epp
          refine ac_iconst (q := 59) dX4_readHead_58 rfl ?_
          refine ac_zreturn dX4_readHead_59 rfl (by first | exact ac_b01 | omega) (Nat.zero_le _) (Nat.zero_le _) ?_
          subst epp
          exact ⟨ac_l0 (by simp), rfl, g3, fun n k hq => (by cases hq), fun k' h1 h2 => by rw [f3 k' h1, f2 k' h1, f1 k' h1]⟩
      · refine ac_aload_n (q := 35) dX4_readHead_34 rfl rfl ?_
        refine ac_bipush (q := 37) dX4_readHead_35 rfl (by decide) ?_
        refine ac_bipush (q := 39) dX4_readHead_37 rfl (by decide) ?_
        refine ac_cv (q := 42) (k_X4_accept (d := d - 1) (p := 2) (by omega) hX9 g2 (by omega) (by omega) (by omega) (by omega) (by omega)) ml_X4_34 (by assumption) dX4_readHead_39 rfl rfl rfl (by omega) (Nat.le_of_ble_eq_true rfl) (Nat.zero_le _) (Nat.zero_le _) (fun m3 a3 => ?_)
        obtain ⟨g3, f3⟩ := a3
        rw [hv2] at g3
        rw [hv2]
        refine ac_goto (q := 53) dX4_readHead_42 rfl ?_
        refine ac_istore_n (q := 54) (j := 3) rfl dX4_readHead_53 rfl (Nat.le_of_ble_eq_true rfl) rfl rfl ?_
        simp only [List.set_cons_succ, List.set_cons_zero]
        refine ac_iload_n (q := 55) dX4_readHead_54 rfl rfl ?_
        refine ac_if_ge (q := 58) (tgt := 60) dX4_readHead_55 rfl rfl (by split <;> exact ⟨by omega, by omega⟩) (fun h55 => ?_) (fun h55 => ?_)
        · have e55 : (v1 = 49 ∧ v2 = 48) ∨ (v1 = 48 ∧ 49 ≤ v2 ∧ v2 ≤ 57) := by
            first
              | (have e : (48 ≤ (v2 : Int) ∧ (v2 : Int) ≤ 48) := Decidable.byContradiction fun q => by rw [if_neg q] at h55; omega
                 omega)
              | (have e : (49 ≤ (v2 : Int) ∧ (v2 : Int) ≤ 57) := Decidable.byContradiction fun q => by rw [if_neg q] at h55; omega
                 omega)
          rw [if_pos (by omega)] at g3 ⊢
          rw [if_neg (by omega)] at epp
          refine ac_aload_n (q := 61) dX4_readHead_60 rfl rfl ?_
          refine ac_bipush (q := 63) dX4_readHead_61 rfl (by decide) ?_
          refine ac_bipush (q := 65) dX4_readHead_63 rfl (by decide) ?_
          refine ac_cv (q := 68) (k_X4_accept (d := d - 1) (p := 3) (by omega) hX9 g3 (by omega) (by omega) (by omega) (by omega) (by omega)) ml_X4_34 (by assumption) dX4_readHead_65 rfl rfl rfl (by omega) (Nat.le_of_ble_eq_true rfl) (Nat.zero_le _) (Nat.zero_le _) (fun m4 a4 => ?_)
          obtain ⟨g4, f4⟩ := a4
          rw [hv3] at g4
          rw [hv3]
          refine ac_istore (q := 70) dX4_readHead_68 rfl (Nat.le_of_ble_eq_true rfl) rfl rfl ?_
          simp only [List.set_cons_succ, List.set_cons_zero]
          refine ac_iload (q := 72) dX4_readHead_70 rfl rfl ?_
          refine ac_if_ge (q := 75) (tgt := 77) dX4_readHead_72 rfl rfl (by split <;> exact ⟨by omega, by omega⟩) (fun h72 => ?_) (fun h72 => ?_)
          · have e72 : (50 ≤ (v3 : Int) ∧ (v3 : Int) ≤ 51) := Decidable.byContradiction fun q => by rw [if_neg q] at h72; omega
            rw [if_pos e72] at g4 ⊢
            rw [if_neg (by omega)] at epp
            refine ac_aload_n (q := 78) dX4_readHead_77 rfl rfl ?_
            refine ac_bipush (q := 80) dX4_readHead_78 rfl (by decide) ?_
            refine ac_iload_n (q := 81) dX4_readHead_80 rfl rfl ?_
            refine ac_bipush (q := 83) dX4_readHead_81 rfl (by decide) ?_
            refine ac_isub (q := 84) dX4_readHead_83 rfl ?_
            refine ac_imul (q := 85) dX4_readHead_84 rfl ?_
            refine ac_iload_n (q := 86) dX4_readHead_85 rfl rfl ?_
            refine ac_iadd (q := 87) dX4_readHead_86 rfl ?_
            refine ac_bipush (q := 89) dX4_readHead_87 rfl (by decide) ?_
            refine ac_isub (q := 90) dX4_readHead_89 rfl ?_
            refine ac_iload (q := 92) dX4_readHead_90 rfl rfl ?_
            refine ac_bipush (q := 94) dX4_readHead_92 rfl (by decide) ?_
            refine ac_isub (q := 95) dX4_readHead_94 rfl ?_
            refine ac_top (w' := (0, ((v3 - 48 : Nat) : Int))) (congrArg (fun z : Int => ((0 : Nat), z)) (by omega)) ?_
            refine ac_top2 (w' := (0, ((10 * (v1 - 48) + (v2 - 48) : Nat) : Int))) (congrArg (fun z : Int => ((0 : Nat), z)) (by omega)) ?_
            refine ac_cv (q := 98) (k_X3_start (t := u) (d := d - 1) (by omega) hT (by omega) (by omega)) ml_X4_51 (by assumption) dX4_readHead_95 rfl rfl rfl (by omega) (Nat.le_of_ble_eq_true rfl) (Nat.zero_le _) (Nat.zero_le _) (fun m5 h5 => ?_)
            obtain ⟨g5, f5⟩ := h5
            refine ac_iconst (q := 99) dX4_readHead_98 rfl ?_
            refine ac_zreturn dX4_readHead_99 rfl (by first | exact ac_b01 | omega) (Nat.zero_le _) (Nat.zero_le _) ?_
            subst epp
            exact ⟨ac_l1 rfl, rfl, ac_RX_keep g4 (f5 _ (by omega)) (f5 _ (by omega)), fun n k hq => by cases hq; exact g5, fun k' h1 h2 => by rw [f5 k' h2, f4 k' h1, f3 k' h1, f2 k' h1, f1 k' h1]⟩
          · have e72 : ¬ (50 ≤ (v3 : Int) ∧ (v3 : Int) ≤ 51) := fun q => by rw [if_pos q] at h72; omega
            rw [if_neg e72] at g4
            rw [if_pos (by omega)] at epp
            refine ac_iconst (q := 76) dX4_readHead_75 rfl ?_
            refine ac_zreturn dX4_readHead_76 rfl (by first | exact ac_b01 | omega) (Nat.zero_le _) (Nat.zero_le _) ?_
            subst epp
            exact ⟨ac_l0 (by simp), rfl, g4, fun n k hq => (by cases hq), fun k' h1 h2 => by rw [f4 k' h1, f3 k' h1, f2 k' h1, f1 k' h1]⟩
        · first
            | (have e55 : ¬ (48 ≤ (v2 : Int) ∧ (v2 : Int) ≤ 48) := fun q => by rw [if_pos q] at h55; omega
               rw [if_neg e55] at g3)
            | (have e55 : ¬ (49 ≤ (v2 : Int) ∧ (v2 : Int) ≤ 57) := fun q => by rw [if_pos q] at h55; omega
               rw [if_neg e55] at g3)
          rw [if_pos (by omega)] at epp
          refine ac_iconst (q := 59) dX4_readHead_58 rfl ?_
          refine ac_zreturn dX4_readHead_59 rfl (by first | exact ac_b01 | omega) (Nat.zero_le _) (Nat.zero_le _) ?_
          subst epp
          exact ⟨ac_l0 (by simp), rfl, g3, fun n k hq => (by cases hq), fun k' h1 h2 => by rw [f3 k' h1, f2 k' h1, f1 k' h1]⟩
    · have e23 : ¬ (48 ≤ (v1 : Int) ∧ (v1 : Int) ≤ 49) := fun q => by rw [if_pos q] at h23; omega
      rw [if_neg e23] at g2
      rw [if_pos (by omega)] at epp
      refine ac_iconst (q := 27) dX4_readHead_26 rfl ?_
      refine ac_zreturn dX4_readHead_27 rfl (by first | exact ac_b01 | omega) (Nat.zero_le _) (Nat.zero_le _) ?_
      subst epp
      exact ⟨ac_l0 (by simp), rfl, g2, fun n k hq => (by cases hq), fun k' h1 h2 => by rw [f2 k' h1, f1 k' h1]⟩
  · have e8 : ¬ (82 ≤ (v0 : Int) ∧ (v0 : Int) ≤ 82) := fun q => by rw [if_pos q] at h8; omega
    rw [if_neg e8] at g1
    rw [if_pos (by omega)] at epp
    refine ac_iconst (q := 12) dX4_readHead_11 rfl ?_
    refine ac_zreturn dX4_readHead_12 rfl (by first | exact ac_b01 | omega) (Nat.zero_le _) (Nat.zero_le _) ?_
    subst epp
    exact ⟨ac_l0 (by simp), rfl, g1, fun n k hq => (by cases hq), fun k' h1 h2 => by rw [f1 k' h1]⟩

set_option maxHeartbeats 8000000 in
theorem k_X4_readPart {G : ac_G} {Y : ac_Y} {mm : ac_M} {d t p : Nat} {s : List Nat} {u : Nat} {T : ac_Tk} (hd : 5 ≤ d) (hX : ac_isX Y t) (hR : ac_RX mm t s p) (hT : ac_isT Y u) (hRT : ac_RTk mm u T) (hp : p ≤ 800) (htu : t + 2 ≤ u ∨ u + 4 ≤ t) : ac_C G yX4_readPart cX4_readPart 2 (some .boolean) d 0 0 Y mm [(2, (t : Int)), (2, (u : Int))] (ac_R Y [(0, ac_b ((ac_prt s p T).2.isSome = true))] (fun m => ac_RX m t s (ac_prt s p T).1 ∧ (∀ T', (ac_prt s p T).2 = some T' → ac_RTk m u T') ∧ ∀ k', k' ≠ t → (k' < u ∨ u + 3 < k') → m k' = mm k')) := by
  have hX9 := hX
  have hR9 := hR
  obtain ⟨kx, kl, rl⟩ := hX
  obtain ⟨⟨hs60, hs256⟩, hlen, hpl, hlet⟩ := hR
  have hc := ac_ch_lt hs256
  obtain ⟨n, k, E, pin, col⟩ := T
  unfold ac_RTk at hRT
  simp only at hRT
  have hRT9 := hRT
  have ku := hT.1
  obtain ⟨⟨⟨hn1, hn2⟩, ⟨hkk1, hkk2⟩, hE, hp0, hpr, hc0⟩, t3, t4, t5, t6, tE, tp, tcb, tc⟩ := hRT
  have hcp := hc p
  have hE4 := hE.1
  have epp : ac_prt s p (n, k, E, pin, col) = if E.length < 4 ∧ ac_ch s p = 101 then ((ac_eqp s (p + 1)).1, (ac_eqp s (p + 1)).2.map (fun q => (n, k, E ++ [q], pin, col)))
    else if ac_pins pin n < n ∧ ac_ch s p = 112 then ((ac_pinp n k pin s (p + 1)).1, (ac_pinp n k pin s (p + 1)).2.map (fun q => (n, k, E, ac_sp pin q.1 q.2, col)))
    else (p, none) := rfl
  generalize ac_prt s p (n, k, E, pin, col) = R at *
  have hple := ac_pins_le pin n
  have hplt : 0 < ac_ch s p → p < s.length := fun h => Nat.lt_of_not_le fun h2 => by rw [ac_ch_out h2] at h; omega
  generalize hv : ac_ch s p = v at *
  refine ac_met (on := (RX4, "readPart")) rfl rfl (Nat.le_of_ble_eq_true rfl) (ls := [(2, (t : Int)), (2, (u : Int))]) rfl ?_
  refine ac_aload_n (q := 1) dX4_readPart_0 rfl rfl ?_
  refine ac_get (q := 4) dX4_readPart_1 fl_X4_29 ku rfl (ac_rdi rfl t5) ?_
  refine ac_iconst (q := 5) dX4_readPart_4 rfl ?_
  refine ac_icmp_ge (q := 8) (tgt := 25) dX4_readPart_5 rfl rfl ⟨by omega, by omega⟩ ⟨by omega, by omega⟩ (fun h5 => ?_) (fun h5 => ?_)
  · have g1 := hR9
    have f1 : ∀ k', k' ≠ t → mm k' = mm k' := fun _ _ => rfl
    have hRT1 := hRT9
    have t3a := t3
    rw [if_neg (by omega)] at epp
    refine ac_name (fun m1 hm1 => ?_)
    rw [← hm1] at g1 hRT1 t3a
    have f1 : ∀ k', k' ≠ t → m1 k' = mm k' := fun _ _ => by rw [hm1]
    refine ac_aload_n (q := 26) dX4_readPart_25 rfl rfl ?_
    refine ac_cvp (q := 29) (k_X3_pinned (t := u) (d := d - 1) (by omega) hT hRT1) ml_X4_41 (by assumption) dX4_readPart_26 rfl rfl rfl (by omega) (Nat.le_of_ble_eq_true rfl) (Nat.zero_le _) (Nat.zero_le _) ?_
    refine ac_aload_n (q := 30) dX4_readPart_29 rfl rfl ?_
    refine ac_get (q := 33) dX4_readPart_30 fl_X4_45 ku rfl (ac_rdi rfl t3a) ?_
    refine ac_icmp_ge (q := 36) (tgt := 59) dX4_readPart_33 rfl rfl ⟨by omega, by omega⟩ ⟨by omega, by omega⟩ (fun h33 => ?_) (fun h33 => ?_)
    · rw [if_neg (by omega)] at epp
      refine ac_iconst (q := 60) dX4_readPart_59 rfl ?_
      refine ac_zreturn dX4_readPart_60 rfl (by first | exact ac_b01 | omega) (Nat.zero_le _) (Nat.zero_le _) ?_
      first
        | (subst epp; exact ⟨ac_l0 (by simp), rfl, g2, fun T' hT' => (by cases hT'), fun k' h1 h2 => (f2 k' h1).trans (f1 k' h1)⟩)
        | (subst epp; exact ⟨ac_l0 (by simp), rfl, g1, fun T' hT' => (by cases hT'), fun k' h1 h2 => f1 k' h1⟩)
        | (subst epp
           refine ⟨ac_l1 (by rw [Option.isSome_map]; exact h52), rfl, g3, fun T' hT' => ?_, fun k' h1 h2 => by rw [f3 k' h1 h2, f2 k' h1, f1 k' h1]⟩
           obtain ⟨q, hq, rfl⟩ := Option.map_eq_some_iff.mp hT'
           exact g4 q hq)
        | (subst epp
           refine ⟨ac_l0 (by rw [Option.isSome_map]; exact h52), rfl, g3, fun T' hT' => ?_, fun k' h1 h2 => by rw [f3 k' h1 h2, f2 k' h1, f1 k' h1]⟩
           obtain ⟨q, hq, rfl⟩ := Option.map_eq_some_iff.mp hT'
           exact g4 q hq)
    · refine ac_aload_n (q := 37) dX4_readPart_36 rfl rfl ?_
      refine ac_bipush (q := 39) dX4_readPart_37 rfl (by decide) ?_
      refine ac_bipush (q := 41) dX4_readPart_39 rfl (by decide) ?_
      refine ac_cv (q := 44) (k_X4_accept (d := d - 1) (p := p) (by omega) hX9 g1 (by omega) (by omega) (by omega) (by omega) (by omega)) ml_X4_34 (by assumption) dX4_readPart_41 rfl rfl rfl (by omega) (Nat.le_of_ble_eq_true rfl) (Nat.zero_le _) (Nat.zero_le _) (fun m2 a2 => ?_)
      obtain ⟨g2, f2⟩ := a2
      rw [hv] at g2
      rw [hv]
      refine ac_if_lt (q := 47) (tgt := 59) dX4_readPart_44 rfl rfl (by split <;> exact ⟨by omega, by omega⟩) (fun h44 => ?_) (fun h44 => ?_)
      · have e2 : ¬ (112 ≤ (v : Int) ∧ (v : Int) ≤ 112) := fun q => by rw [if_pos q] at h44; omega
        rw [if_neg e2] at g2
        rw [if_neg (by omega)] at epp
        refine ac_iconst (q := 60) dX4_readPart_59 rfl ?_
        refine ac_zreturn dX4_readPart_60 rfl (by first | exact ac_b01 | omega) (Nat.zero_le _) (Nat.zero_le _) ?_
        first
          | (subst epp; exact ⟨ac_l0 (by simp), rfl, g2, fun T' hT' => (by cases hT'), fun k' h1 h2 => (f2 k' h1).trans (f1 k' h1)⟩)
          | (subst epp; exact ⟨ac_l0 (by simp), rfl, g1, fun T' hT' => (by cases hT'), fun k' h1 h2 => f1 k' h1⟩)
          | (subst epp
             refine ⟨ac_l1 (by rw [Option.isSome_map]; exact h52), rfl, g3, fun T' hT' => ?_, fun k' h1 h2 => by rw [f3 k' h1 h2, f2 k' h1, f1 k' h1]⟩
             obtain ⟨q, hq, rfl⟩ := Option.map_eq_some_iff.mp hT'
             exact g4 q hq)
          | (subst epp
             refine ⟨ac_l0 (by rw [Option.isSome_map]; exact h52), rfl, g3, fun T' hT' => ?_, fun k' h1 h2 => by rw [f3 k' h1 h2, f2 k' h1, f1 k' h1]⟩
             obtain ⟨q, hq, rfl⟩ := Option.map_eq_some_iff.mp hT'
             exact g4 q hq)
      · have e2 : (112 ≤ (v : Int) ∧ (v : Int) ≤ 112) := Decidable.byContradiction fun q => by rw [if_neg q] at h44; omega
        rw [if_pos e2] at g2
        rw [if_pos (by omega)] at epp
        have hRT2 : ac_RT m2 u n k E pin col := ac_RT_keep hRT1 (f2 _ (by omega)) (f2 _ (by omega)) (f2 _ (by omega)) (f2 _ (by omega))
        refine ac_aload_n (q := 48) dX4_readPart_47 rfl rfl ?_
        refine ac_aload_n (q := 49) dX4_readPart_48 rfl rfl ?_
        refine ac_cv (q := 52) (k_X4_readPin (u := u) (d := d - 1) (by omega) hX9 g2 hT hRT2 (by omega) htu) ml_X4_48 (by assumption) dX4_readPart_49 rfl rfl rfl (by omega) (Nat.le_of_ble_eq_true rfl) (Nat.zero_le _) (Nat.zero_le _) (fun m3 h3 => ?_)
        obtain ⟨g3, g4, f3⟩ := h3
        refine ac_bif_eq (q := 55) (tgt := 59) dX4_readPart_52 rfl rfl (fun h52 => ?_) (fun h52 => ?_)
        · refine ac_iconst (q := 60) dX4_readPart_59 rfl ?_
          refine ac_zreturn dX4_readPart_60 rfl (by first | exact ac_b01 | omega) (Nat.zero_le _) (Nat.zero_le _) ?_
          first
            | (subst epp; exact ⟨ac_l0 (by simp), rfl, g2, fun T' hT' => (by cases hT'), fun k' h1 h2 => (f2 k' h1).trans (f1 k' h1)⟩)
            | (subst epp; exact ⟨ac_l0 (by simp), rfl, g1, fun T' hT' => (by cases hT'), fun k' h1 h2 => f1 k' h1⟩)
            | (subst epp
               refine ⟨ac_l1 (by rw [Option.isSome_map]; exact h52), rfl, g3, fun T' hT' => ?_, fun k' h1 h2 => by rw [f3 k' h1 h2, f2 k' h1, f1 k' h1]⟩
               obtain ⟨q, hq, rfl⟩ := Option.map_eq_some_iff.mp hT'
               exact g4 q hq)
            | (subst epp
               refine ⟨ac_l0 (by rw [Option.isSome_map]; exact h52), rfl, g3, fun T' hT' => ?_, fun k' h1 h2 => by rw [f3 k' h1 h2, f2 k' h1, f1 k' h1]⟩
               obtain ⟨q, hq, rfl⟩ := Option.map_eq_some_iff.mp hT'
               exact g4 q hq)
        · refine ac_iconst (q := 56) dX4_readPart_55 rfl ?_
          refine ac_goto (q := 60) dX4_readPart_56 rfl ?_
          refine ac_zreturn dX4_readPart_60 rfl (by first | exact ac_b01 | omega) (Nat.zero_le _) (Nat.zero_le _) ?_
          first
            | (subst epp; exact ⟨ac_l0 (by simp), rfl, g2, fun T' hT' => (by cases hT'), fun k' h1 h2 => (f2 k' h1).trans (f1 k' h1)⟩)
            | (subst epp; exact ⟨ac_l0 (by simp), rfl, g1, fun T' hT' => (by cases hT'), fun k' h1 h2 => f1 k' h1⟩)
            | (subst epp
               refine ⟨ac_l1 (by rw [Option.isSome_map]; exact h52), rfl, g3, fun T' hT' => ?_, fun k' h1 h2 => by rw [f3 k' h1 h2, f2 k' h1, f1 k' h1]⟩
               obtain ⟨q, hq, rfl⟩ := Option.map_eq_some_iff.mp hT'
               exact g4 q hq)
            | (subst epp
               refine ⟨ac_l0 (by rw [Option.isSome_map]; exact h52), rfl, g3, fun T' hT' => ?_, fun k' h1 h2 => by rw [f3 k' h1 h2, f2 k' h1, f1 k' h1]⟩
               obtain ⟨q, hq, rfl⟩ := Option.map_eq_some_iff.mp hT'
               exact g4 q hq)
  · refine ac_aload_n (q := 9) dX4_readPart_8 rfl rfl ?_
    refine ac_bipush (q := 11) dX4_readPart_9 rfl (by decide) ?_
    refine ac_bipush (q := 13) dX4_readPart_11 rfl (by decide) ?_
    refine ac_cv (q := 16) (k_X4_accept (d := d - 1) (p := p) (by omega) hX9 hR9 (by omega) (by omega) (by omega) (by omega) (by omega)) ml_X4_34 (by assumption) dX4_readPart_13 rfl rfl rfl (by omega) (Nat.le_of_ble_eq_true rfl) (Nat.zero_le _) (Nat.zero_le _) (fun m1 a1 => ?_)
    obtain ⟨g1, f1⟩ := a1
    rw [hv] at g1
    rw [hv]
    refine ac_if_lt (q := 19) (tgt := 25) dX4_readPart_16 rfl rfl (by split <;> exact ⟨by omega, by omega⟩) (fun h16 => ?_) (fun h16 => ?_)
    · have e1 : ¬ (101 ≤ (v : Int) ∧ (v : Int) ≤ 101) := fun q => by rw [if_pos q] at h16; omega
      rw [if_neg e1] at g1
      rw [if_neg (by omega)] at epp
      have hRT1 : ac_RT m1 u n k E pin col := ac_RT_keep hRT9 (f1 _ (by omega)) (f1 _ (by omega)) (f1 _ (by omega)) (f1 _ (by omega))
      have t3a : m1 u 3 = (n : Int) := by rw [f1 _ (by omega)]; exact t3
      refine ac_aload_n (q := 26) dX4_readPart_25 rfl rfl ?_
      refine ac_cvp (q := 29) (k_X3_pinned (t := u) (d := d - 1) (by omega) hT hRT1) ml_X4_41 (by assumption) dX4_readPart_26 rfl rfl rfl (by omega) (Nat.le_of_ble_eq_true rfl) (Nat.zero_le _) (Nat.zero_le _) ?_
      refine ac_aload_n (q := 30) dX4_readPart_29 rfl rfl ?_
      refine ac_get (q := 33) dX4_readPart_30 fl_X4_45 ku rfl (ac_rdi rfl t3a) ?_
      refine ac_icmp_ge (q := 36) (tgt := 59) dX4_readPart_33 rfl rfl ⟨by omega, by omega⟩ ⟨by omega, by omega⟩ (fun h33 => ?_) (fun h33 => ?_)
      · rw [if_neg (by omega)] at epp
        refine ac_iconst (q := 60) dX4_readPart_59 rfl ?_
        refine ac_zreturn dX4_readPart_60 rfl (by first | exact ac_b01 | omega) (Nat.zero_le _) (Nat.zero_le _) ?_
        first
          | (subst epp; exact ⟨ac_l0 (by simp), rfl, g2, fun T' hT' => (by cases hT'), fun k' h1 h2 => (f2 k' h1).trans (f1 k' h1)⟩)
          | (subst epp; exact ⟨ac_l0 (by simp), rfl, g1, fun T' hT' => (by cases hT'), fun k' h1 h2 => f1 k' h1⟩)
          | (subst epp
             refine ⟨ac_l1 (by rw [Option.isSome_map]; exact h52), rfl, g3, fun T' hT' => ?_, fun k' h1 h2 => by rw [f3 k' h1 h2, f2 k' h1, f1 k' h1]⟩
             obtain ⟨q, hq, rfl⟩ := Option.map_eq_some_iff.mp hT'
             exact g4 q hq)
          | (subst epp
             refine ⟨ac_l0 (by rw [Option.isSome_map]; exact h52), rfl, g3, fun T' hT' => ?_, fun k' h1 h2 => by rw [f3 k' h1 h2, f2 k' h1, f1 k' h1]⟩
             obtain ⟨q, hq, rfl⟩ := Option.map_eq_some_iff.mp hT'
             exact g4 q hq)
      · refine ac_aload_n (q := 37) dX4_readPart_36 rfl rfl ?_
        refine ac_bipush (q := 39) dX4_readPart_37 rfl (by decide) ?_
        refine ac_bipush (q := 41) dX4_readPart_39 rfl (by decide) ?_
        refine ac_cv (q := 44) (k_X4_accept (d := d - 1) (p := p) (by omega) hX9 g1 (by omega) (by omega) (by omega) (by omega) (by omega)) ml_X4_34 (by assumption) dX4_readPart_41 rfl rfl rfl (by omega) (Nat.le_of_ble_eq_true rfl) (Nat.zero_le _) (Nat.zero_le _) (fun m2 a2 => ?_)
        obtain ⟨g2, f2⟩ := a2
        rw [hv] at g2
        rw [hv]
        refine ac_if_lt (q := 47) (tgt := 59) dX4_readPart_44 rfl rfl (by split <;> exact ⟨by omega, by omega⟩) (fun h44 => ?_) (fun h44 => ?_)
        · have e2 : ¬ (112 ≤ (v : Int) ∧ (v : Int) ≤ 112) := fun q => by rw [if_pos q] at h44; omega
          rw [if_neg e2] at g2
          rw [if_neg (by omega)] at epp
          refine ac_iconst (q := 60) dX4_readPart_59 rfl ?_
          refine ac_zreturn dX4_readPart_60 rfl (by first | exact ac_b01 | omega) (Nat.zero_le _) (Nat.zero_le _) ?_
          first
            | (subst epp; exact ⟨ac_l0 (by simp), rfl, g2, fun T' hT' => (by cases hT'), fun k' h1 h2 => (f2 k' h1).trans (f1 k' h1)⟩)
            | (subst epp; exact ⟨ac_l0 (by simp), rfl, g1, fun T' hT' => (by cases hT'), fun k' h1 h2 => f1 k' h1⟩)
            | (subst epp
               refine ⟨ac_l1 (by rw [Option.isSome_map]; exact h52), rfl, g3, fun T' hT' => ?_, fun k' h1 h2 => by rw [f3 k' h1 h2, f2 k' h1, f1 k' h1]⟩
               obtain ⟨q, hq, rfl⟩ := Option.map_eq_some_iff.mp hT'
               exact g4 q hq)
            | (subst epp
               refine ⟨ac_l0 (by rw [Option.isSome_map]; exact h52), rfl, g3, fun T' hT' => ?_, fun k' h1 h2 => by rw [f3 k' h1 h2, f2 k' h1, f1 k' h1]⟩
               obtain ⟨q, hq, rfl⟩ := Option.map_eq_some_iff.mp hT'
               exact g4 q hq)
        · have e2 : (112 ≤ (v : Int) ∧ (v : Int) ≤ 112) := Decidable.byContradiction fun q => by rw [if_neg q] at h44; omega
          rw [if_pos e2] at g2
          rw [if_pos (by omega)] at epp
          have hRT2 : ac_RT m2 u n k E pin col := ac_RT_keep hRT1 (f2 _ (by omega)) (f2 _ (by omega)) (f2 _ (by omega)) (f2 _ (by omega))
          refine ac_aload_n (q := 48) dX4_readPart_47 rfl rfl ?_
          refine ac_aload_n (q := 49) dX4_readPart_48 rfl rfl ?_
          refine ac_cv (q := 52) (k_X4_readPin (u := u) (d := d - 1) (by omega) hX9 g2 hT hRT2 (by omega) htu) ml_X4_48 (by assumption) dX4_readPart_49 rfl rfl rfl (by omega) (Nat.le_of_ble_eq_true rfl) (Nat.zero_le _) (Nat.zero_le _) (fun m3 h3 => ?_)
          obtain ⟨g3, g4, f3⟩ := h3
          refine ac_bif_eq (q := 55) (tgt := 59) dX4_readPart_52 rfl rfl (fun h52 => ?_) (fun h52 => ?_)
          · refine ac_iconst (q := 60) dX4_readPart_59 rfl ?_
            refine ac_zreturn dX4_readPart_60 rfl (by first | exact ac_b01 | omega) (Nat.zero_le _) (Nat.zero_le _) ?_
            first
              | (subst epp; exact ⟨ac_l0 (by simp), rfl, g2, fun T' hT' => (by cases hT'), fun k' h1 h2 => (f2 k' h1).trans (f1 k' h1)⟩)
              | (subst epp; exact ⟨ac_l0 (by simp), rfl, g1, fun T' hT' => (by cases hT'), fun k' h1 h2 => f1 k' h1⟩)
              | (subst epp
                 refine ⟨ac_l1 (by rw [Option.isSome_map]; exact h52), rfl, g3, fun T' hT' => ?_, fun k' h1 h2 => by rw [f3 k' h1 h2, f2 k' h1, f1 k' h1]⟩
                 obtain ⟨q, hq, rfl⟩ := Option.map_eq_some_iff.mp hT'
                 exact g4 q hq)
              | (subst epp
                 refine ⟨ac_l0 (by rw [Option.isSome_map]; exact h52), rfl, g3, fun T' hT' => ?_, fun k' h1 h2 => by rw [f3 k' h1 h2, f2 k' h1, f1 k' h1]⟩
                 obtain ⟨q, hq, rfl⟩ := Option.map_eq_some_iff.mp hT'
                 exact g4 q hq)
          · refine ac_iconst (q := 56) dX4_readPart_55 rfl ?_
            refine ac_goto (q := 60) dX4_readPart_56 rfl ?_
            refine ac_zreturn dX4_readPart_60 rfl (by first | exact ac_b01 | omega) (Nat.zero_le _) (Nat.zero_le _) ?_
            first
              | (subst epp; exact ⟨ac_l0 (by simp), rfl, g2, fun T' hT' => (by cases hT'), fun k' h1 h2 => (f2 k' h1).trans (f1 k' h1)⟩)
              | (subst epp; exact ⟨ac_l0 (by simp), rfl, g1, fun T' hT' => (by cases hT'), fun k' h1 h2 => f1 k' h1⟩)
              | (subst epp
                 refine ⟨ac_l1 (by rw [Option.isSome_map]; exact h52), rfl, g3, fun T' hT' => ?_, fun k' h1 h2 => by rw [f3 k' h1 h2, f2 k' h1, f1 k' h1]⟩
                 obtain ⟨q, hq, rfl⟩ := Option.map_eq_some_iff.mp hT'
                 exact g4 q hq)
              | (subst epp
                 refine ⟨ac_l0 (by rw [Option.isSome_map]; exact h52), rfl, g3, fun T' hT' => ?_, fun k' h1 h2 => by rw [f3 k' h1 h2, f2 k' h1, f1 k' h1]⟩
                 obtain ⟨q, hq, rfl⟩ := Option.map_eq_some_iff.mp hT'
                 exact g4 q hq)
    · have e1 : (101 ≤ (v : Int) ∧ (v : Int) ≤ 101) := Decidable.byContradiction fun q => by rw [if_neg q] at h16; omega
      rw [if_pos e1] at g1
      rw [if_pos (by omega)] at epp
      have hRT1 : ac_RT m1 u n k E pin col := ac_RT_keep hRT9 (f1 _ (by omega)) (f1 _ (by omega)) (f1 _ (by omega)) (f1 _ (by omega))
      refine ac_aload_n (q := 20) dX4_readPart_19 rfl rfl ?_
      refine ac_aload_n (q := 21) dX4_readPart_20 rfl rfl ?_
      refine ac_cv (q := 24) (k_X4_readEquation (u := u) (d := d - 1) (by omega) hX9 g1 hT hRT1 (by omega) (by omega) htu) ml_X4_38 (by assumption) dX4_readPart_21 rfl rfl rfl (by omega) (Nat.le_of_ble_eq_true rfl) (Nat.zero_le _) (Nat.zero_le _) (fun m2 h2 => ?_)
      obtain ⟨g2, g3, f2⟩ := h2
      refine ac_zreturn dX4_readPart_24 rfl (by first | exact ac_b01 | omega) (Nat.zero_le _) (Nat.zero_le _) ?_
      subst epp
      refine ⟨by rw [Option.isSome_map], rfl, g2, fun T' hT' => ?_, fun k' h1 h2 => (f2 k' h1 h2).trans (f1 k' h1)⟩
      obtain ⟨q, hq, rfl⟩ := Option.map_eq_some_iff.mp hT'
      exact g3 q hq
