set_option maxHeartbeats 4000000 in
theorem k_X0_in {G : ac_G} {Y : ac_Y} {mm : ac_M} {d c : Nat} {E0 : List ac_Eq} (hd : 1 ≤ d) (hC : ac_isC Y c) (hR : ac_RC mm c E0) {S : Nat} (hS : S < 2048) (h0 : S.testBit 0 = false) : ac_C G yX0_in cX0_in 2 (some .int) d 0 0 Y mm [(2, (c : Int)), (0, (S : Int))] (ac_R Y [(0, (ac_br E0 S : Int))] (fun m => m = mm)) := by
  have hC9 := hC
  have hR9 := hR
  obtain ⟨kc0, kc1, rc0, rc1, hB⟩ := hC
  have hB9 := hB
  obtain ⟨kb0, kb1, kb2, kb3, rb0, rb1, rb2⟩ := hB
  obtain ⟨hE0, r5, rE, rB⟩ := hR
  refine ac_met (on := (RX0, "in")) rfl rfl (Nat.le_of_ble_eq_true rfl) (ls := [(2, (c : Int)), (0, (S : Int))]) rfl ?_
  refine ac_iload_n (q := 1) dX0_in_0 rfl rfl ?_
  refine ac_if_lt (q := 4) (tgt := 20) dX0_in_1 rfl rfl ⟨by omega, by omega⟩ (fun h1 => ?_) (fun h1 => ?_)
  · exfalso; omega
  · refine ac_iload_n (q := 5) dX0_in_4 rfl rfl ?_
    refine ac_sipush (q := 8) dX0_in_5 rfl (by decide) ?_
    refine ac_icmp_ge (q := 11) (tgt := 20) dX0_in_8 rfl rfl ⟨by omega, by omega⟩ ⟨by omega, by omega⟩ (fun h8 => ?_) (fun h8 => ?_)
    · exfalso; omega
    · refine ac_aload_n (q := 12) dX0_in_11 rfl rfl ?_
      refine ac_get (q := 15) dX0_in_12 fl_X0_11 (by assumption) rfl (ac_rdr rfl (by assumption)) ?_
      refine ac_iload_n (q := 16) dX0_in_15 rfl rfl ?_
      refine ac_ialoadN (q := 17) (j := S) (v := (ac_br E0 S : Int)) dX0_in_16 kc1 (by decide) hS rfl (rB S hS h0) ?_
      refine ac_goto (q := 21) dX0_in_17 rfl ?_
      refine ac_ireturn dX0_in_21 rfl (Nat.zero_le _) (Nat.zero_le _) ?_
      exact ⟨rfl, rfl, rfl⟩

set_option maxHeartbeats 4000000 in
theorem k_X0_sameEquations {G : ac_G} {Y : ac_Y} {mm : ac_M} {d c : Nat} {E0 : List ac_Eq} (hd : 1 ≤ d) (hC : ac_isC Y c) (hR : ac_RC mm c E0) {t : Nat} {E : List ac_Eq} (hT : ac_isT Y t) (hE : ac_okE E) (t5 : mm t 5 = (E.length : Int)) (tE : ac_E mm (t + 1) 0 E) : ac_C G yX0_sameEquations cX0_sameEquations 4 (some .boolean) d 0 0 Y mm [(2, (c : Int)), (2, (t : Int))] (ac_R Y [(0, ac_b (E = E0))] (fun m => m = mm)) := by
  have hC9 := hC
  have hR9 := hR
  obtain ⟨kc0, kc1, rc0, rc1, hB⟩ := hC
  have hB9 := hB
  obtain ⟨kb0, kb1, kb2, kb3, rb0, rb1, rb2⟩ := hB
  obtain ⟨hE0, r5, rE, rB⟩ := hR
  obtain ⟨hk0, hk1, hk2, hk3, hr0, hr1, hr2⟩ := hT
  have hl4 := hE.1
  have hl40 := hE0.1
  refine ac_met (on := (RX0, "sameEquations")) rfl rfl (Nat.le_of_ble_eq_true rfl) (ls := [(2, (c : Int)), (2, (t : Int)), (3, 0), (3, 0)]) rfl ?_
  have loop : ∀ (f i : Nat), i + f = 4 * E.length → E.length = E0.length → (∀ j, j < i → mm (t + 1) j = mm (c + 3) j) → ac_V G (RX0, "sameEquations") cX0_sameEquations 4 (some .boolean) d 0 0 (ac_R Y [(0, ac_b (E = E0))] (fun m => m = mm)) 0 0 Y mm 25 [(2, (c : Int)), (2, (t : Int)), (0, 4 * (E.length : Int)), (0, (i : Int))] [] := by
    intro f
    induction f with
    | zero =>
      intro i hi hl hg
      have hq : E = E0 := ac_E_eq tE rE hl (fun j hj => hg j (by omega))
      refine ac_iload_n (q := 26) dX0_sameEquations_25 rfl rfl ?_
      refine ac_iload_n (q := 27) dX0_sameEquations_26 rfl rfl ?_
      refine ac_icmp_ge (q := 30) (tgt := 77) dX0_sameEquations_27 rfl rfl ⟨by omega, by omega⟩ ⟨by omega, by omega⟩ (fun h27 => ?_) (fun h27 => ?_)
      · refine ac_iconst (q := 78) dX0_sameEquations_77 rfl ?_
        refine ac_zreturn dX0_sameEquations_78 rfl (by first | exact ac_b01 | omega) (Nat.zero_le _) (Nat.zero_le _) ?_
        exact ⟨ac_l1 hq, rfl, rfl⟩
      · exfalso; omega
    | succ f ih =>
      intro i hi hl hg
      have a1 := ac_Eat tE hE (i := i) (by omega)
      have a2 := ac_Eat rE hE0 (i := i) (by omega)
      have ei : ((i : Nat) : Int) + 1 = ((i + 1 : Nat) : Int) := rfl
      refine ac_iload_n (q := 26) dX0_sameEquations_25 rfl rfl ?_
      refine ac_iload_n (q := 27) dX0_sameEquations_26 rfl rfl ?_
      refine ac_icmp_ge (q := 30) (tgt := 77) dX0_sameEquations_27 rfl rfl ⟨by omega, by omega⟩ ⟨by omega, by omega⟩ (fun h27 => ?_) (fun h27 => ?_)
      · exfalso; omega
      · refine ac_iload_n (q := 31) dX0_sameEquations_30 rfl rfl ?_
        refine ac_aload_n (q := 32) dX0_sameEquations_31 rfl rfl ?_
        refine ac_get (q := 35) dX0_sameEquations_32 fl_X0_47 (by assumption) rfl (ac_rdr rfl (by assumption)) ?_
        refine ac_alen (q := 36) dX0_sameEquations_35 (by assumption) (by decide) rfl ?_
        refine ac_icmp_ge (q := 39) (tgt := 77) dX0_sameEquations_36 rfl rfl ⟨by omega, by omega⟩ ⟨by omega, by omega⟩ (fun h36 => ?_) (fun h36 => ?_)
        · exfalso; omega
        · refine ac_iload_n (q := 40) dX0_sameEquations_39 rfl rfl ?_
          refine ac_aload_n (q := 41) dX0_sameEquations_40 rfl rfl ?_
          refine ac_get (q := 44) dX0_sameEquations_41 fl_X0_18 (by assumption) rfl (ac_rdr rfl (by assumption)) ?_
          refine ac_get (q := 47) dX0_sameEquations_44 fl_X0_47 (by assumption) rfl (ac_rdr rfl (by assumption)) ?_
          refine ac_alen (q := 48) dX0_sameEquations_47 (by assumption) (by decide) rfl ?_
          refine ac_icmp_ge (q := 51) (tgt := 77) dX0_sameEquations_48 rfl rfl ⟨by omega, by omega⟩ ⟨by omega, by omega⟩ (fun h48 => ?_) (fun h48 => ?_)
          · exfalso; omega
          · refine ac_aload_n (q := 52) dX0_sameEquations_51 rfl rfl ?_
            refine ac_get (q := 55) dX0_sameEquations_52 fl_X0_47 (by assumption) rfl (ac_rdr rfl (by assumption)) ?_
            refine ac_iload_n (q := 56) dX0_sameEquations_55 rfl rfl ?_
            refine ac_ialoadN (q := 57) (j := i) (v := mm (t + 1) i) dX0_sameEquations_56 hk1 (by decide) (by omega) rfl rfl ?_
            refine ac_aload_n (q := 58) dX0_sameEquations_57 rfl rfl ?_
            refine ac_get (q := 61) dX0_sameEquations_58 fl_X0_18 (by assumption) rfl (ac_rdr rfl (by assumption)) ?_
            refine ac_get (q := 64) dX0_sameEquations_61 fl_X0_47 (by assumption) rfl (ac_rdr rfl (by assumption)) ?_
            refine ac_iload_n (q := 65) dX0_sameEquations_64 rfl rfl ?_
            refine ac_ialoadN (q := 66) (j := i) (v := mm (c + 3) i) dX0_sameEquations_65 kb1 (by decide) (by omega) rfl rfl ?_
            refine ac_icmp_eq (q := 69) (tgt := 71) dX0_sameEquations_66 rfl rfl ⟨by omega, by omega⟩ ⟨by omega, by omega⟩ (fun h66 => ?_) (fun h66 => ?_)
            · refine ac_iinc (q := 74) dX0_sameEquations_71 rfl (Nat.le_of_ble_eq_true rfl) rfl rfl rfl rfl ?_
              simp only [List.set_cons_succ, List.set_cons_zero]
              refine ac_goto (q := 25) dX0_sameEquations_74 rfl ?_
              exact ac_ls (by rw [ei]) (ih (i + 1) (by omega) hl (fun j hj => if hji : j = i then by rw [hji]; exact h66 else hg j (by omega)))
            · refine ac_iconst (q := 70) dX0_sameEquations_69 rfl ?_
              refine ac_zreturn dX0_sameEquations_70 rfl (by first | exact ac_b01 | omega) (Nat.zero_le _) (Nat.zero_le _) ?_
              exact ⟨ac_l0 (ac_E_ne tE rE (i := i) (by omega) h66), rfl, rfl⟩
  refine ac_aload_n (q := 1) dX0_sameEquations_0 rfl rfl ?_
  refine ac_get (q := 4) dX0_sameEquations_1 fl_X0_36 (by assumption) rfl (ac_rdi rfl t5) ?_
  refine ac_aload_n (q := 5) dX0_sameEquations_4 rfl rfl ?_
  refine ac_get (q := 8) dX0_sameEquations_5 fl_X0_18 (by assumption) rfl (ac_rdr rfl (by assumption)) ?_
  refine ac_get (q := 11) dX0_sameEquations_8 fl_X0_36 (by assumption) rfl (ac_rdi rfl r5) ?_
  refine ac_icmp_eq (q := 14) (tgt := 16) dX0_sameEquations_11 rfl rfl ⟨by omega, by omega⟩ ⟨by omega, by omega⟩ (fun h11 => ?_) (fun h11 => ?_)
  · refine ac_iconst (q := 17) dX0_sameEquations_16 rfl ?_
    refine ac_aload_n (q := 18) dX0_sameEquations_17 rfl rfl ?_
    refine ac_get (q := 21) dX0_sameEquations_18 fl_X0_36 (by assumption) rfl (ac_rdi rfl t5) ?_
    refine ac_imul (q := 22) dX0_sameEquations_21 rfl ?_
    refine ac_istore_n (q := 23) (j := 2) rfl dX0_sameEquations_22 rfl (Nat.le_of_ble_eq_true rfl) rfl rfl ?_
    simp only [List.set_cons_succ, List.set_cons_zero]
    refine ac_iconst (q := 24) dX0_sameEquations_23 rfl ?_
    refine ac_istore_n (q := 25) (j := 3) rfl dX0_sameEquations_24 rfl (Nat.le_of_ble_eq_true rfl) rfl rfl ?_
    simp only [List.set_cons_succ, List.set_cons_zero]
    exact loop (4 * E.length) 0 (by omega) (by omega) (fun j hj => absurd hj (Nat.not_lt_zero _))
  · refine ac_iconst (q := 15) dX0_sameEquations_14 rfl ?_
    refine ac_zreturn dX0_sameEquations_15 rfl (by first | exact ac_b01 | omega) (Nat.zero_le _) (Nat.zero_le _) ?_
    exact ⟨ac_l0 (fun h => h11 (by rw [h])), rfl, rfl⟩

set_option maxHeartbeats 4000000 in
theorem k_X0_spread {G : ac_G} {Y : ac_Y} {mm : ac_M} {d c : Nat} (hd : 1 ≤ d) (hC : ac_isC Y c) {f : Nat → Nat} (hm : mm = ac_mb mm (c + 1) f) : ac_C G yX0_spread cX0_spread 3 none d 0 0 Y mm [(2, (c : Int))] (ac_R Y [] (fun m => ∃ g, m = ac_mb mm (c + 1) g ∧ ac_F2 f g 2048)) := by
  obtain ⟨kc0, kc1, rc0, rc1, -⟩ := hC
  refine ac_met (on := (RX0, "spread")) rfl rfl (Nat.le_of_ble_eq_true rfl) (ls := [(2, (c : Int)), (3, 0), (3, 0)]) rfl ?_
  have inner : ∀ (r S : Nat) (g : Nat → Nat), S < 2048 → r ≤ 10 → ac_F2i f g S (11 - r) → (∀ g, ac_F2i f g S 11 → ac_V G (RX0, "spread") cX0_spread 3 none d 0 0 (ac_R Y [] (fun m => ∃ g, m = ac_mb mm (c + 1) g ∧ ac_F2 f g 2048)) 0 0 Y (ac_mb mm (c + 1) g) 44 [(2, (c : Int)), (0, (S : Int)), (3, 0)] []) → ac_V G (RX0, "spread") cX0_spread 3 none d 0 0 (ac_R Y [] (fun m => ∃ g, m = ac_mb mm (c + 1) g ∧ ac_F2 f g 2048)) 0 0 Y (ac_mb mm (c + 1) g) 11 [(2, (c : Int)), (0, (S : Int)), (0, ((11 - r : Nat) : Int))] [] := by
    intro r
    induction r with
    | zero =>
      intro S g hS hr hF hK
      refine ac_iload_n (q := 12) dX0_spread_11 rfl rfl ?_
      refine ac_bipush (q := 14) dX0_spread_12 rfl (by decide) ?_
      refine ac_icmp_gt (q := 17) (tgt := 44) dX0_spread_14 rfl rfl ⟨by omega, by omega⟩ ⟨by omega, by omega⟩ (fun h14 => ?_) (fun h14 => ?_)
      · refine ac_drop [(2, (c : Int)), (0, (S : Int)), (3, 0)] (by repeat (first | exact trivial | refine ⟨Or.inl rfl, ?_⟩ | refine ⟨Or.inr rfl, ?_⟩)) ?_
        exact hK g hF
      · exfalso; omega
    | succ r ih =>
      intro S g hS hr hF hK
      rw [show 11 - (r + 1) = 10 - r by omega] at hF ⊢
      have hF2 := ac_F2_step (by omega) hF
      rw [show 10 - r + 1 = 11 - r by omega] at hF2
      have ej : ((10 - r : Nat) : Int) + 1 = ((11 - r : Nat) : Int) := by omega
      have hlt := ac_andn_le S (2 ^ (10 - r))
      refine ac_iload_n (q := 12) dX0_spread_11 rfl rfl ?_
      refine ac_bipush (q := 14) dX0_spread_12 rfl (by decide) ?_
      refine ac_icmp_gt (q := 17) (tgt := 44) dX0_spread_14 rfl rfl ⟨by omega, by omega⟩ ⟨by omega, by omega⟩ (fun h14 => ?_) (fun h14 => ?_)
      · exfalso; omega
      · refine ac_aload_n (q := 18) dX0_spread_17 rfl rfl ?_
        refine ac_get (q := 21) dX0_spread_18 fl_X0_11 (by assumption) rfl (ac_rdr rfl (by assumption)) ?_
        refine ac_iload_n (q := 22) dX0_spread_21 rfl rfl ?_
        refine ac_dup2_11 (q := 23) dX0_spread_22 rfl (show (0 : Nat) ≠ 1 by decide) (show (2 : Nat) ≠ 1 by decide) ?_
        refine ac_ialoadN (q := 24) (j := S) (v := (g S : Int)) dX0_spread_23 kc1 (by decide) hS rfl (ac_mb_at hS) ?_
        refine ac_aload_n (q := 25) dX0_spread_24 rfl rfl ?_
        refine ac_get (q := 28) dX0_spread_25 fl_X0_11 (by assumption) rfl (ac_rdr rfl (by assumption)) ?_
        refine ac_iload_n (q := 29) dX0_spread_28 rfl rfl ?_
        refine ac_iconst (q := 30) dX0_spread_29 rfl ?_
        refine ac_iload_n (q := 31) dX0_spread_30 rfl rfl ?_
        refine ac_ishl1 (q := 32) (k := 10 - r) dX0_spread_31 rfl (by omega) ?_
        refine ac_iconst (q := 33) dX0_spread_32 rfl ?_
        refine ac_ixor (q := 34) dX0_spread_33 rfl ?_
        refine ac_iandn (q := 35) dX0_spread_34 rfl ?_
        refine ac_ialoadN (q := 36) (j := ac_andn S (2 ^ (10 - r))) (v := (g (ac_andn S (2 ^ (10 - r))) : Int)) dX0_spread_35 kc1 (by decide) (by omega) rfl (ac_mb_at (by omega)) ?_
        refine ac_ior (q := 37) dX0_spread_36 rfl ?_
        refine ac_iastoreN (q := 38) (j := S) dX0_spread_37 kc1 (by decide) hS rfl ?_
        refine ac_mem (ac_mb_up hS) ?_
        refine ac_iinc (q := 41) dX0_spread_38 rfl (Nat.le_of_ble_eq_true rfl) rfl rfl rfl rfl ?_
        simp only [List.set_cons_succ, List.set_cons_zero]
        refine ac_goto (q := 11) dX0_spread_41 rfl ?_
        exact ac_ls (by rw [ej]) (ih S _ hS (by omega) hF2 hK)
  have outer : ∀ (r : Nat) (g : Nat → Nat), r ≤ 2048 → ac_F2 f g (2048 - r) → ac_V G (RX0, "spread") cX0_spread 3 none d 0 0 (ac_R Y [] (fun m => ∃ g, m = ac_mb mm (c + 1) g ∧ ac_F2 f g 2048)) 0 0 Y (ac_mb mm (c + 1) g) 2 [(2, (c : Int)), (0, ((2048 - r : Nat) : Int)), (3, 0)] [] := by
    intro r
    induction r with
    | zero =>
      intro g hr hF
      refine ac_iload_n (q := 3) dX0_spread_2 rfl rfl ?_
      refine ac_sipush (q := 6) dX0_spread_3 rfl (by decide) ?_
      refine ac_icmp_ge (q := 9) (tgt := 50) dX0_spread_6 rfl rfl ⟨by omega, by omega⟩ ⟨by omega, by omega⟩ (fun h6 => ?_) (fun h6 => ?_)
      · refine ac_return dX0_spread_50 rfl (Nat.zero_le _) (Nat.zero_le _) ?_
        exact ⟨rfl, rfl, g, rfl, hF⟩
      · exfalso; omega
    | succ r ih =>
      intro g hr hF
      rw [show 2048 - (r + 1) = 2047 - r by omega] at hF ⊢
      have es : ((2047 - r : Nat) : Int) + 1 = ((2048 - r : Nat) : Int) := by omega
      refine ac_iload_n (q := 3) dX0_spread_2 rfl rfl ?_
      refine ac_sipush (q := 6) dX0_spread_3 rfl (by decide) ?_
      refine ac_icmp_ge (q := 9) (tgt := 50) dX0_spread_6 rfl rfl ⟨by omega, by omega⟩ ⟨by omega, by omega⟩ (fun h6 => ?_) (fun h6 => ?_)
      · exfalso; omega
      · refine ac_iconst (q := 10) dX0_spread_9 rfl ?_
        refine ac_istore_n (q := 11) (j := 2) rfl dX0_spread_10 rfl (Nat.le_of_ble_eq_true rfl) rfl rfl ?_
        simp only [List.set_cons_succ, List.set_cons_zero]
        refine inner 10 (2047 - r) g (by omega) (Nat.le_refl _) (ac_F2_in hF) (fun g hF => ?_)
        have hF := ac_F2_out (by omega) hF
        rw [show 2047 - r + 1 = 2048 - r by omega] at hF
        refine ac_iinc (q := 47) dX0_spread_44 rfl (Nat.le_of_ble_eq_true rfl) rfl rfl rfl rfl ?_
        simp only [List.set_cons_succ, List.set_cons_zero]
        refine ac_goto (q := 2) dX0_spread_47 rfl ?_
        exact ac_ls (by rw [es]) (ih g (by omega) hF)
  refine ac_iconst (q := 1) dX0_spread_0 rfl ?_
  refine ac_istore_n (q := 2) (j := 1) rfl dX0_spread_1 rfl (Nat.le_of_ble_eq_true rfl) rfl rfl ?_
  simp only [List.set_cons_succ, List.set_cons_zero]
  refine ac_mem hm ?_
  exact outer 2048 f (Nat.le_refl _) (fun S => ⟨fun h => absurd h (Nat.not_lt_zero _), fun _ => rfl⟩)

set_option maxHeartbeats 4000000 in
theorem k_X0_fit {G : ac_G} {Y : ac_Y} {mm : ac_M} {d c : Nat} {E0 : List ac_Eq} (hd : 3 ≤ d) (hC : ac_isC Y c) (hR : ac_RC mm c E0) {t n k : Nat} {E : List ac_Eq} {pin : Nat → Int} {col : Option (List Nat)} (hT : ac_isT Y t) (hRT : ac_RT mm t n k E pin col) (hct : t + 4 ≤ c ∨ c + 6 ≤ t) : ac_C G yX0_fit cX0_fit 6 none d 0 0 Y mm [(2, (c : Int)), (2, (t : Int))] (ac_R Y [] (fun m => ac_RC m c E ∧ ∀ k', (k' < c + 1 ∨ c + 5 < k') → m k' = mm k')) := by
  have hC9 := hC
  have hR9 := hR
  obtain ⟨kc0, kc1, rc0, rc1, hB⟩ := hC
  have hB9 := hB
  obtain ⟨kb0, kb1, kb2, kb3, rb0, rb1, rb2⟩ := hB
  obtain ⟨hE0, r5, rE, rB⟩ := hR
  have hT9 := hT
  obtain ⟨⟨-, -, hE, -⟩, -, -, t5, -, tE, -, -, -⟩ := id hRT
  have hl4 := hE.1
  refine ac_met (on := (RX0, "fit")) rfl rfl (Nat.le_of_ble_eq_true rfl) (ls := [(2, (c : Int)), (2, (t : Int)), (3, 0), (3, 0), (3, 0), (3, 0)]) rfl ?_
  refine ac_aload_n (q := 1) dX0_fit_0 rfl rfl ?_
  refine ac_aload_n (q := 2) dX0_fit_1 rfl rfl ?_
  refine ac_cvp (q := 5) (k_X0_sameEquations (d := d - 1) (by omega) hC9 hR9 hT9 hE t5 tE) ml_X0_22 (by assumption) dX0_fit_2 rfl rfl rfl (by omega) (Nat.le_of_ble_eq_true rfl) (Nat.zero_le _) (Nat.zero_le _) ?_
  refine ac_bif_eq (q := 8) (tgt := 9) dX0_fit_5 rfl rfl (fun h5 => ?_) (fun h5 => ?_)
  · refine ac_aload_n (q := 10) dX0_fit_9 rfl rfl ?_
    refine ac_get (q := 13) dX0_fit_10 fl_X0_18 (by assumption) rfl (ac_rdr rfl (by assumption)) ?_
    refine ac_aload_n (q := 14) dX0_fit_13 rfl rfl ?_
    refine ac_cv (q := 17) (k_X3_copy (d := d - 1) (t := c + 2) (o := t) (by omega) hB9 hT9 (by omega) hRT) ml_X0_26 (by assumption) dX0_fit_14 rfl rfl rfl (by omega) (Nat.le_of_ble_eq_true rfl) (Nat.zero_le _) (Nat.zero_le _) (fun m1 h1 => ?_)
    obtain ⟨h1, hfr⟩ := h1
    obtain ⟨-, -, -, q5, -, qE, -, -, -⟩ := h1
    refine ac_aload_n (q := 18) dX0_fit_17 rfl rfl ?_
    refine ac_get (q := 21) dX0_fit_18 fl_X0_11 (by assumption) rfl (ac_rdr rfl (by assumption)) ?_
    refine ac_iconst (q := 22) dX0_fit_21 rfl ?_
    refine ac_cs (q := 25) (k_fill (d := d - 1) (by omega) kc1 (by decide)) ml_X0_30 dX0_fit_22 rfl rfl rfl (by omega) (Nat.le_of_ble_eq_true rfl) (Nat.zero_le _) (Nat.zero_le _) (fun m2 h2 => ?_)
    have h2 : m2 = ac_mb m1 (c + 1) (fun _ => 0) := h2
    subst h2
    refine ac_iconst (q := 26) dX0_fit_25 rfl ?_
    refine ac_istore_n (q := 27) (j := 2) rfl dX0_fit_26 rfl (Nat.le_of_ble_eq_true rfl) rfl rfl ?_
    simp only [List.set_cons_succ, List.set_cons_zero]
    have y : ∀ (r e x : Nat) (q : ac_Eq) (f : Nat → Nat), E[e]? = some q → 1 ≤ x ∧ x ≤ 10 → r ≤ 10 → ac_F1 E f e x (11 - r) → (∀ f, ac_F1 E f e x 11 → ac_V G (RX0, "fit") cX0_fit 6 none d 0 0 (ac_R Y [] (fun m => ac_RC m c E ∧ ∀ k', (k' < c + 1 ∨ c + 5 < k') → m k' = mm k')) 0 0 Y (ac_mb m1 (c + 1) f) 114 [(2, (c : Int)), (2, (t : Int)), (0, (e : Int)), (0, (x : Int)), (3, 0), (3, 0)] []) → ac_V G (RX0, "fit") cX0_fit 6 none d 0 0 (ac_R Y [] (fun m => ac_RC m c E ∧ ∀ k', (k' < c + 1 ∨ c + 5 < k') → m k' = mm k')) 0 0 Y (ac_mb m1 (c + 1) f) 49 [(2, (c : Int)), (2, (t : Int)), (0, (e : Int)), (0, (x : Int)), (0, ((11 - r : Nat) : Int)), (3, 0)] [] := by
      intro r
      induction r with
      | zero =>
        intro e x q f hq hx hr hF hK
        refine ac_iload (q := 51) dX0_fit_49 rfl rfl ?_
        refine ac_bipush (q := 53) dX0_fit_51 rfl (by decide) ?_
        refine ac_icmp_gt (q := 56) (tgt := 114) dX0_fit_53 rfl rfl ⟨by omega, by omega⟩ ⟨by omega, by omega⟩ (fun h53 => ?_) (fun h53 => ?_)
        · refine ac_drop [(2, (c : Int)), (2, (t : Int)), (0, (e : Int)), (0, (x : Int)), (3, 0), (3, 0)] (by repeat (first | exact trivial | refine ⟨Or.inl rfl, ?_⟩ | refine ⟨Or.inr rfl, ?_⟩)) ?_
          exact hK f hF
        · exfalso; omega
      | succ r ih =>
        intro e x q f hq hx hr hF hK
        rw [show 11 - (r + 1) = 10 - r by omega] at hF ⊢
        have he := (List.getElem?_eq_some_iff.mp hq).1
        have ej : ((10 - r : Nat) : Int) + 1 = ((11 - r : Nat) : Int) := by omega
        have hth := ac_th_in q x ((10 - r : Nat) : Int) 10 (by decide)
        have hml := @ac_msk_lt q x (10 - r) hx.2 (by omega)
        obtain ⟨z, hz⟩ : ∃ z : Nat, ac_th q x ((10 - r : Nat) : Int) 10 = (z : Int) := ⟨(ac_th q x ((10 - r : Nat) : Int) 10).toNat, by omega⟩
        have hmk : 2 ^ x ||| 2 ^ (10 - r) ||| 2 ^ z = ac_msk q x (10 - r) := by unfold ac_msk; rw [hz]; rfl
        rw [← hmk] at hml
        refine ac_iload (q := 51) dX0_fit_49 rfl rfl ?_
        refine ac_bipush (q := 53) dX0_fit_51 rfl (by decide) ?_
        refine ac_icmp_gt (q := 56) (tgt := 114) dX0_fit_53 rfl rfl ⟨by omega, by omega⟩ ⟨by omega, by omega⟩ (fun h53 => ?_) (fun h53 => ?_)
        · exfalso; omega
        · refine ac_aload_n (q := 57) dX0_fit_56 rfl rfl ?_
          refine ac_get (q := 60) dX0_fit_57 fl_X0_18 (by assumption) rfl (ac_rdr rfl (by assumption)) ?_
          refine ac_iload_n (q := 61) dX0_fit_60 rfl rfl ?_
          refine ac_iload_n (q := 62) dX0_fit_61 rfl rfl ?_
          refine ac_iload (q := 64) dX0_fit_62 rfl rfl ?_
          refine ac_bipush (q := 66) dX0_fit_64 rfl (by decide) ?_
          refine ac_cvp (q := 69) (k_X3_third (t := c + 2) (d := d - 1) (by omega) hB9 (show ac_E (ac_mb m1 (c + 1) f) (c + 3) 0 E by unfold ac_E; rw [ac_mb_k (by omega)]; exact qE) hE hq ⟨by omega, by omega⟩ ⟨by omega, by omega⟩ ⟨by omega, by omega⟩) ml_X0_40 (by assumption) dX0_fit_66 rfl rfl rfl (by omega) (Nat.le_of_ble_eq_true rfl) (Nat.zero_le _) (Nat.zero_le _) ?_
          refine ac_top (w' := (0, (z : Int))) (by rw [hz]) ?_
          refine ac_istore (q := 71) dX0_fit_69 rfl (Nat.le_of_ble_eq_true rfl) rfl rfl ?_
          simp only [List.set_cons_succ, List.set_cons_zero]
          refine ac_iload (q := 73) dX0_fit_71 rfl rfl ?_
          refine ac_iconst (q := 74) dX0_fit_73 rfl ?_
          refine ac_icmp_lt (q := 77) (tgt := 108) dX0_fit_74 rfl rfl ⟨by omega, by omega⟩ ⟨by omega, by omega⟩ (fun h74 => ?_) (fun h74 => ?_)
          · have hF2 := ac_F1_no hq hF (by omega)
            rw [show 10 - r + 1 = 11 - r by omega] at hF2
            refine ac_iinc (q := 111) dX0_fit_108 rfl (Nat.le_of_ble_eq_true rfl) rfl rfl rfl rfl ?_
            simp only [List.set_cons_succ, List.set_cons_zero]
            refine ac_goto (q := 49) dX0_fit_111 rfl ?_
            refine ac_drop [(2, (c : Int)), (2, (t : Int)), (0, (e : Int)), (0, (x : Int)), (0, ((10 - r : Nat) : Int) + 1), (3, 0)] (by repeat (first | exact trivial | refine ⟨Or.inl rfl, ?_⟩ | refine ⟨Or.inr rfl, ?_⟩)) ?_
            exact ac_ls (by rw [ej]) (ih e x q _ hq hx (by omega) hF2 hK)
          · refine ac_iload (q := 79) dX0_fit_77 rfl rfl ?_
            refine ac_bipush (q := 81) dX0_fit_79 rfl (by decide) ?_
            refine ac_icmp_gt (q := 84) (tgt := 108) dX0_fit_81 rfl rfl ⟨by omega, by omega⟩ ⟨by omega, by omega⟩ (fun h81 => ?_) (fun h81 => ?_)
            · exfalso; omega
            · refine ac_aload_n (q := 85) dX0_fit_84 rfl rfl ?_
              refine ac_get (q := 88) dX0_fit_85 fl_X0_11 (by assumption) rfl (ac_rdr rfl (by assumption)) ?_
              refine ac_iconst (q := 89) dX0_fit_88 rfl ?_
              refine ac_iload_n (q := 90) dX0_fit_89 rfl rfl ?_
              refine ac_ishl1 (q := 91) (k := x) dX0_fit_90 rfl (by omega) ?_
              refine ac_iconst (q := 92) dX0_fit_91 rfl ?_
              refine ac_iload (q := 94) dX0_fit_92 rfl rfl ?_
              refine ac_ishl1 (q := 95) (k := 10 - r) dX0_fit_94 rfl (by omega) ?_
              refine ac_ior (q := 96) dX0_fit_95 rfl ?_
              refine ac_iconst (q := 97) dX0_fit_96 rfl ?_
              refine ac_iload (q := 99) dX0_fit_97 rfl rfl ?_
              refine ac_ishl1 (q := 100) (k := z) dX0_fit_99 rfl (by omega) ?_
              refine ac_ior (q := 101) dX0_fit_100 rfl ?_
              refine ac_dup2_11 (q := 102) dX0_fit_101 rfl (show (0 : Nat) ≠ 1 by decide) (show (2 : Nat) ≠ 1 by decide) ?_
              refine ac_ialoadN (q := 103) (j := (2 ^ x ||| 2 ^ (10 - r) ||| 2 ^ z)) (v := (f (2 ^ x ||| 2 ^ (10 - r) ||| 2 ^ z) : Int)) dX0_fit_102 kc1 (by decide) (by omega) rfl (ac_mb_at (by omega)) ?_
              refine ac_iconst (q := 104) dX0_fit_103 rfl ?_
              refine ac_iload_n (q := 105) dX0_fit_104 rfl rfl ?_
              refine ac_ishl1 (q := 106) (k := e) dX0_fit_105 rfl (by omega) ?_
              refine ac_ior (q := 107) dX0_fit_106 rfl ?_
              refine ac_iastoreN (q := 108) (j := (2 ^ x ||| 2 ^ (10 - r) ||| 2 ^ z)) dX0_fit_107 kc1 (by decide) (by omega) rfl ?_
              refine ac_mem (ac_mb_up (by omega)) ?_
              have hF2 := ac_F1_yes hq hx ⟨by omega, by omega⟩ hF (by omega)
              rw [← hmk, show 10 - r + 1 = 11 - r by omega] at hF2
              refine ac_iinc (q := 111) dX0_fit_108 rfl (Nat.le_of_ble_eq_true rfl) rfl rfl rfl rfl ?_
              simp only [List.set_cons_succ, List.set_cons_zero]
              refine ac_goto (q := 49) dX0_fit_111 rfl ?_
              refine ac_drop [(2, (c : Int)), (2, (t : Int)), (0, (e : Int)), (0, (x : Int)), (0, ((10 - r : Nat) : Int) + 1), (3, 0)] (by repeat (first | exact trivial | refine ⟨Or.inl rfl, ?_⟩ | refine ⟨Or.inr rfl, ?_⟩)) ?_
              exact ac_ls (by rw [ej]) (ih e x q _ hq hx (by omega) hF2 hK)
    have xx : ∀ (r e : Nat) (q : ac_Eq) (f : Nat → Nat), E[e]? = some q → r ≤ 10 → ac_F1 E f e (11 - r) 1 → (∀ f, ac_F1 E f e 11 1 → ac_V G (RX0, "fit") cX0_fit 6 none d 0 0 (ac_R Y [] (fun m => ac_RC m c E ∧ ∀ k', (k' < c + 1 ∨ c + 5 < k') → m k' = mm k')) 0 0 Y (ac_mb m1 (c + 1) f) 120 [(2, (c : Int)), (2, (t : Int)), (0, (e : Int)), (3, 0), (3, 0), (3, 0)] []) → ac_V G (RX0, "fit") cX0_fit 6 none d 0 0 (ac_R Y [] (fun m => ac_RC m c E ∧ ∀ k', (k' < c + 1 ∨ c + 5 < k') → m k' = mm k')) 0 0 Y (ac_mb m1 (c + 1) f) 40 [(2, (c : Int)), (2, (t : Int)), (0, (e : Int)), (0, ((11 - r : Nat) : Int)), (3, 0), (3, 0)] [] := by
      intro r
      induction r with
      | zero =>
        intro e q f hq hr hF hK
        refine ac_iload_n (q := 41) dX0_fit_40 rfl rfl ?_
        refine ac_bipush (q := 43) dX0_fit_41 rfl (by decide) ?_
        refine ac_icmp_gt (q := 46) (tgt := 120) dX0_fit_43 rfl rfl ⟨by omega, by omega⟩ ⟨by omega, by omega⟩ (fun h43 => ?_) (fun h43 => ?_)
        · refine ac_drop [(2, (c : Int)), (2, (t : Int)), (0, (e : Int)), (3, 0), (3, 0), (3, 0)] (by repeat (first | exact trivial | refine ⟨Or.inl rfl, ?_⟩ | refine ⟨Or.inr rfl, ?_⟩)) ?_
          exact hK f hF
        · exfalso; omega
      | succ r ih =>
        intro e q f hq hr hF hK
        rw [show 11 - (r + 1) = 10 - r by omega] at hF ⊢
        have ej : ((10 - r : Nat) : Int) + 1 = ((11 - r : Nat) : Int) := by omega
        refine ac_iload_n (q := 41) dX0_fit_40 rfl rfl ?_
        refine ac_bipush (q := 43) dX0_fit_41 rfl (by decide) ?_
        refine ac_icmp_gt (q := 46) (tgt := 120) dX0_fit_43 rfl rfl ⟨by omega, by omega⟩ ⟨by omega, by omega⟩ (fun h43 => ?_) (fun h43 => ?_)
        · exfalso; omega
        · refine ac_iconst (q := 47) dX0_fit_46 rfl ?_
          refine ac_istore (q := 49) dX0_fit_47 rfl (Nat.le_of_ble_eq_true rfl) rfl rfl ?_
          simp only [List.set_cons_succ, List.set_cons_zero]
          refine y 10 e (10 - r) q f hq ⟨by omega, by omega⟩ (Nat.le_refl _) hF (fun f hF => ?_)
          have hF := ac_F1_y hF
          rw [show 10 - r + 1 = 11 - r by omega] at hF
          refine ac_iinc (q := 117) dX0_fit_114 rfl (Nat.le_of_ble_eq_true rfl) rfl rfl rfl rfl ?_
          simp only [List.set_cons_succ, List.set_cons_zero]
          refine ac_goto (q := 40) dX0_fit_117 rfl ?_
          exact ac_ls (by rw [ej]) (ih e q f hq (by omega) hF hK)
    have eq : ∀ (r : Nat) (f : Nat → Nat), r ≤ E.length → ac_F1 E f (E.length - r) 1 1 → ac_V G (RX0, "fit") cX0_fit 6 none d 0 0 (ac_R Y [] (fun m => ac_RC m c E ∧ ∀ k', (k' < c + 1 ∨ c + 5 < k') → m k' = mm k')) 0 0 Y (ac_mb m1 (c + 1) f) 27 [(2, (c : Int)), (2, (t : Int)), (0, ((E.length - r : Nat) : Int)), (3, 0), (3, 0), (3, 0)] [] := by
      intro r
      induction r with
      | zero =>
        intro f hr hF
        rw [Nat.sub_zero] at hF
        refine ac_iload_n (q := 28) dX0_fit_27 rfl rfl ?_
        refine ac_aload_n (q := 29) dX0_fit_28 rfl rfl ?_
        refine ac_get (q := 32) dX0_fit_29 fl_X0_18 (by assumption) rfl (ac_rdr rfl (by assumption)) ?_
        refine ac_get (q := 35) dX0_fit_32 fl_X0_36 kb0 rfl (ac_rdi (v := (E.length : Int)) rfl (by rw [ac_mb_k (by omega)]; exact q5)) ?_
        refine ac_icmp_ge (q := 38) (tgt := 126) dX0_fit_35 rfl rfl ⟨by omega, by omega⟩ ⟨by omega, by omega⟩ (fun h35 => ?_) (fun h35 => ?_)
        · refine ac_aload_n (q := 127) dX0_fit_126 rfl rfl ?_
          refine ac_cv (q := 130) (k_X0_spread (d := d - 1) (f := f) (by omega) hC9 (by funext k j; unfold ac_mb; split <;> rfl)) ml_X0_44 (by assumption) dX0_fit_127 rfl rfl rfl (by omega) (Nat.le_of_ble_eq_true rfl) (Nat.zero_le _) (Nat.zero_le _) (fun m2 h2 => ?_)
          obtain ⟨g, hg, hF2⟩ := h2
          have hg : m2 = ac_mb m1 (c + 1) g := by rw [hg]; funext k j; unfold ac_mb; split <;> rfl
          subst hg
          refine ac_return dX0_fit_130 rfl (Nat.zero_le _) (Nat.zero_le _) ?_
          refine ⟨rfl, rfl, ⟨hE, by rw [ac_mb_k (by omega)]; exact q5, by unfold ac_E; rw [ac_mb_k (by omega)]; exact qE, fun S hS h0 => ?_⟩, fun k' hk' => ?_⟩
          · rw [ac_mb_at hS, ac_fit_br hF hF2 S hS h0]
          · rw [ac_mb_k (by omega)]; exact hfr k' (by omega)
        · exfalso; omega
      | succ r ih =>
        intro f hr hF
        obtain ⟨q, hq⟩ : ∃ q, E[E.length - (r + 1)]? = some q := ⟨_, List.getElem?_eq_getElem (by omega)⟩
        have ej : ((E.length - (r + 1) : Nat) : Int) + 1 = ((E.length - r : Nat) : Int) := by omega
        refine ac_iload_n (q := 28) dX0_fit_27 rfl rfl ?_
        refine ac_aload_n (q := 29) dX0_fit_28 rfl rfl ?_
        refine ac_get (q := 32) dX0_fit_29 fl_X0_18 (by assumption) rfl (ac_rdr rfl (by assumption)) ?_
        refine ac_get (q := 35) dX0_fit_32 fl_X0_36 kb0 rfl (ac_rdi (v := (E.length : Int)) rfl (by rw [ac_mb_k (by omega)]; exact q5)) ?_
        refine ac_icmp_ge (q := 38) (tgt := 126) dX0_fit_35 rfl rfl ⟨by omega, by omega⟩ ⟨by omega, by omega⟩ (fun h35 => ?_) (fun h35 => ?_)
        · exfalso; omega
        · refine ac_iconst (q := 39) dX0_fit_38 rfl ?_
          refine ac_istore_n (q := 40) (j := 3) rfl dX0_fit_39 rfl (Nat.le_of_ble_eq_true rfl) rfl rfl ?_
          simp only [List.set_cons_succ, List.set_cons_zero]
          refine xx 10 _ q f hq (Nat.le_refl _) hF (fun f hF => ?_)
          have hF := ac_F1_x hF
          rw [show E.length - (r + 1) + 1 = E.length - r by omega] at hF
          refine ac_iinc (q := 123) dX0_fit_120 rfl (Nat.le_of_ble_eq_true rfl) rfl rfl rfl rfl ?_
          simp only [List.set_cons_succ, List.set_cons_zero]
          refine ac_goto (q := 27) dX0_fit_123 rfl ?_
          exact ac_ls (by rw [ej]) (ih f (by omega) hF)
    exact ac_ls (by rw [show (0 : Int) = ((E.length - E.length : Nat) : Int) by omega]) (eq E.length (fun _ => 0) (Nat.le_refl _) (by rw [Nat.sub_self]; exact ac_F1_0))
  · have h5 : E = E0 := h5
    refine ac_return dX0_fit_8 rfl (Nat.zero_le _) (Nat.zero_le _) ?_
    exact ⟨rfl, rfl, by rw [h5]; exact hR9, fun _ _ => rfl⟩
