theorem ac_nump_le (n : Nat) (pin : Nat → Int) (s : List Nat) (p : Nat) : (ac_nump n pin s p).1 ≤ p + 2 := by
  unfold ac_nump; split
  · split
    · exact Nat.le_refl _
    · show p + 1 ≤ _; omega
  · show p ≤ _; omega
theorem ac_prt_le (s : List Nat) (p : Nat) (T : ac_Tk) : (ac_prt s p T).1 ≤ p + 5 := by
  have h1 : ∀ q, (ac_eqp s q).1 ≤ q + 4 := by
    intro q; unfold ac_eqp
    repeat' split
    all_goals (simp only; omega)
  have h2 : ∀ q, (ac_pinp T.1 T.2.1 T.2.2.2.1 s q).1 ≤ q + 3 := by
    intro q; unfold ac_pinp
    have := ac_nump_le T.1 T.2.2.2.1 s q
    repeat' split
    all_goals (simp only; omega)
  have a := h1 (p + 1)
  have b := h2 (p + 1)
  unfold ac_prt
  repeat' split
  all_goals (simp only; omega)
theorem ac_hdp_le (s : List Nat) : (ac_hdp s).1 ≤ 4 := by
  unfold ac_hdp
  repeat' split
  all_goals (simp only; omega)

set_option maxHeartbeats 8000000 in
theorem k_X4_read {G : ac_G} {Y : ac_Y} {mm : ac_M} {d t p u : Nat} {s : List Nat} (hd : 7 ≤ d) (hX : ac_isX Y t) (hR : ac_RX mm t s p) (hT : ac_isT Y u) (htu : t + 2 ≤ u ∨ u + 4 ≤ t) : ac_C G yX4_read cX4_read 3 (some .int) d 0 0 Y mm [(2, (t : Int)), (2, (u : Int))] (ac_R Y [(0, (ac_rd s).1)] (fun m => (∃ p', ac_RX m t s p') ∧ ((ac_rd s).1 = -9 → ac_RTk m u (ac_rd s).2) ∧ ∀ k', k' ≠ t → (k' < u ∨ u + 3 < k') → m k' = mm k')) := by
  have hX9 := hX
  have hR9 := hR
  obtain ⟨kx, kl, rl⟩ := hX
  obtain ⟨⟨hs60, hs256⟩, hlen, hpl, hlet⟩ := hR
  have hc := ac_ch_lt hs256
  have loop : ∀ (f i p : Nat) (T : ac_Tk) (m : ac_M), i + f = 60 → ac_RX m t s p → ac_RTk m u T → p ≤ 70 → (∀ k', k' ≠ t → (k' < u ∨ u + 3 < k') → m k' = mm k') → ac_rd s = ac_rdL s f p T → ac_V G (RX4, "read") cX4_read 3 (some .int) d 0 0 (ac_R Y [(0, (ac_rd s).1)] (fun m => (∃ p', ac_RX m t s p') ∧ ((ac_rd s).1 = -9 → ac_RTk m u (ac_rd s).2) ∧ ∀ k', k' ≠ t → (k' < u ∨ u + 3 < k') → m k' = mm k')) 0 0 Y m 20 [(2, (t : Int)), (2, (u : Int)), (0, (i : Int))] [] := by
    intro f
    induction f with
    | zero =>
      intro i p T m hi hRm hTm hp hfr hrd
      obtain rfl : i = 60 := by omega
      rw [hrd]
      refine ac_iload_n (q := 21) dX4_read_20 rfl rfl ?_
      refine ac_bipush (q := 23) dX4_read_21 rfl (by decide) ?_
      refine ac_icmp_ge (q := 26) (tgt := 56) dX4_read_23 rfl rfl ⟨by omega, by omega⟩ ⟨by omega, by omega⟩ (fun h23 => ?_) (fun h23 => ?_)
      · refine ac_bipush (q := 58) dX4_read_56 rfl (by decide) ?_
        refine ac_ireturn dX4_read_58 rfl (Nat.zero_le _) (Nat.zero_le _) ?_
        exact ⟨rfl, rfl, ⟨p, hRm⟩, fun _ => hTm, hfr⟩
      · exfalso; omega
    | succ f ih =>
      intro i p T m hi hRm hTm hp hfr hrd
      have ei : ((i : Nat) : Int) + 1 = ((i + 1 : Nat) : Int) := rfl
      have hple := ac_prt_le s p T
      obtain ⟨-, hlm, hpm, -⟩ := id hRm
      rw [ac_rdL] at hrd
      refine ac_iload_n (q := 21) dX4_read_20 rfl rfl ?_
      refine ac_bipush (q := 23) dX4_read_21 rfl (by decide) ?_
      refine ac_icmp_ge (q := 26) (tgt := 56) dX4_read_23 rfl rfl ⟨by omega, by omega⟩ ⟨by omega, by omega⟩ (fun h23 => ?_) (fun h23 => ?_)
      · exfalso; omega
      · refine ac_aload_n (q := 27) dX4_read_26 rfl rfl ?_
        refine ac_get (q := 30) dX4_read_27 fl_X4_19 kx rfl (ac_rdi rfl hpm) ?_
        refine ac_aload_n (q := 31) dX4_read_30 rfl rfl ?_
        refine ac_get (q := 34) dX4_read_31 fl_X4_15 kx rfl (ac_rdi rfl hlm) ?_
        refine ac_icmp_ge (q := 37) (tgt := 56) dX4_read_34 rfl rfl ⟨by omega, by omega⟩ ⟨by omega, by omega⟩ (fun h34 => ?_) (fun h34 => ?_)
        · rw [if_neg (by omega)] at hrd
          rw [hrd]
          refine ac_bipush (q := 58) dX4_read_56 rfl (by decide) ?_
          refine ac_ireturn dX4_read_58 rfl (Nat.zero_le _) (Nat.zero_le _) ?_
          exact ⟨rfl, rfl, ⟨p, hRm⟩, fun _ => hTm, hfr⟩
        · rw [if_pos (by omega)] at hrd
          refine ac_aload_n (q := 38) dX4_read_37 rfl rfl ?_
          refine ac_aload_n (q := 39) dX4_read_38 rfl rfl ?_
          refine ac_cv (q := 42) (k_X4_readPart (d := d - 1) (u := u) (by omega) hX9 hRm hT hTm (by omega) htu) ml_X4_26 (by assumption) dX4_read_39 rfl rfl rfl (by omega) (Nat.le_of_ble_eq_true rfl) (Nat.zero_le _) (Nat.zero_le _) (fun m1 h1 => ?_)
          obtain ⟨g1, g2, f1⟩ := h1
          have fr1 : ∀ k', k' ≠ t → (k' < u ∨ u + 3 < k') → m1 k' = mm k' := fun k' a b => (f1 k' a b).trans (hfr k' a b)
          generalize ac_prt s p T = R at *
          obtain ⟨q, o⟩ := R
          simp only at g1 g2 hrd hple
          obtain ⟨-, -, hpm1, -⟩ := id g1
          refine ac_bif_ne (q := 45) (tgt := 50) dX4_read_42 rfl rfl (fun h42 => ?_) (fun h42 => ?_)
          · refine ac_iinc (q := 53) dX4_read_50 rfl (Nat.le_of_ble_eq_true rfl) rfl rfl rfl rfl ?_
            simp only [List.set_cons_succ, List.set_cons_zero]
            refine ac_goto (q := 20) dX4_read_53 rfl ?_
            cases o with
            | none => exact absurd h42 (by simp)
            | some T' =>
              simp only at hrd
              exact ac_ls (by rw [ei]) (ih (i + 1) q T' m1 (by omega) g1 (g2 T' rfl) (by omega) fr1 hrd)
          · refine ac_aload_n (q := 46) dX4_read_45 rfl rfl ?_
            refine ac_get (q := 49) dX4_read_46 fl_X4_19 kx rfl (ac_rdi rfl hpm1) ?_
            refine ac_ireturn dX4_read_49 rfl (Nat.zero_le _) (Nat.zero_le _) ?_
            cases o with
            | some T' => exact absurd rfl h42
            | none =>
              simp only at hrd
              rw [hrd]
              exact ⟨rfl, rfl, ⟨q, g1⟩, fun h => by simp only at h; omega, fr1⟩
  refine ac_met (on := (RX4, "read")) rfl rfl (Nat.le_of_ble_eq_true rfl) (ls := [(2, (t : Int)), (2, (u : Int)), (3, 0)]) rfl ?_
  refine ac_aload_n (q := 1) dX4_read_0 rfl rfl ?_
  refine ac_iconst (q := 2) dX4_read_1 rfl ?_
  refine ac_put (q := 5) dX4_read_2 fl_X4_19 (by assumption) rfl rfl ?_
  have hR0 : ac_RX (ac_up mm t 2 0) t s 0 := ac_RX_place hR9 (fun j hj => ac_up_j hj) ac_up_s (by funext j; exact ac_up_k (by omega))
  have f0 : ∀ k', k' ≠ t → ac_up mm t 2 0 k' = mm k' := fun k' hk' => by funext j; exact ac_up_k hk'
  refine ac_aload_n (q := 6) dX4_read_5 rfl rfl ?_
  refine ac_aload_n (q := 7) dX4_read_6 rfl rfl ?_
  refine ac_cv (q := 10) (k_X4_readHead (d := d - 1) (u := u) (by omega) hX9 hR0 hT htu) ml_X4_22 (by assumption) dX4_read_7 rfl rfl rfl (by omega) (Nat.le_of_ble_eq_true rfl) (Nat.zero_le _) (Nat.zero_le _) (fun m1 h1 => ?_)
  obtain ⟨g1, g2, f1⟩ := h1
  have fr1 : ∀ k', k' ≠ t → (k' < u ∨ u + 3 < k') → m1 k' = mm k' := fun k' a b => by rw [f1 k' a b, f0 k' a]
  have hle := ac_hdp_le s
  have hrd : ac_rd s = match ac_hdp s with | (q, none) => ((q : Int), (1, 2, [], fun _ => -1, none)) | (q, some (n, k)) => ac_rdL s 60 q (n, k, [], fun _ => -1, none) := rfl
  generalize ac_hdp s = R at *
  obtain ⟨q, o⟩ := R
  simp only at g1 g2 hrd hle
  obtain ⟨-, -, hpm1, -⟩ := id g1
  refine ac_bif_ne (q := 13) (tgt := 18) dX4_read_10 rfl rfl (fun h10 => ?_) (fun h10 => ?_)
  · refine ac_iconst (q := 19) dX4_read_18 rfl ?_
    refine ac_istore_n (q := 20) (j := 2) rfl dX4_read_19 rfl (Nat.le_of_ble_eq_true rfl) rfl rfl ?_
    simp only [List.set_cons_succ, List.set_cons_zero]
    cases o with
    | none => exact absurd h10 (by simp)
    | some nk =>
      obtain ⟨n, k⟩ := nk
      simp only at hrd
      exact loop 60 0 q (n, k, [], fun _ => -1, none) m1 rfl g1 (g2 n k rfl) (by omega) fr1 hrd
  · refine ac_aload_n (q := 14) dX4_read_13 rfl rfl ?_
    refine ac_get (q := 17) dX4_read_14 fl_X4_19 kx rfl (ac_rdi rfl hpm1) ?_
    refine ac_ireturn dX4_read_17 rfl (Nat.zero_le _) (Nat.zero_le _) ?_
    cases o with
    | some T' => exact absurd rfl h10
    | none =>
      simp only at hrd
      rw [hrd]
      exact ⟨rfl, rfl, ⟨q, g1⟩, fun h => by simp only at h; omega, fr1⟩
