def ac_RD (mm : ac_M) (x : Nat) (s : List Nat) (p : Nat) : Prop := ((s.length ≤ 60 ∧ ∀ v ∈ s, v < 256) ∧ mm x 2 = (s.length : Int) ∧ ∀ i, i < s.length → mm (x + 1) i = (ac_ch s i : Int)) ∧ mm x 3 = (p : Int)
/-- the place alone has changed -/
def ac_fP (mm m : ac_M) (x : Nat) : Prop := (∀ k', k' ≠ x → m k' = mm k') ∧ ∀ j, j ≠ 3 → m x j = mm x j
/-- the place and the page read -/
def ac_fQ (mm m : ac_M) (x : Nat) : Prop := (∀ k', k' ≠ x → k' ≠ x + 2 → m k' = mm k') ∧ ∀ j, j ≠ 3 → m x j = mm x j
def ac_fD (mm m : ac_M) (x : Nat) : Prop := (∀ k', k' ≠ x → k' ≠ x + 2 → m k' = mm k') ∧ ∀ j, j ≠ 3 → j ≠ 5 → m x j = mm x j
section AcRD
variable {mm m a b c : ac_M} {x p q : Nat} {s : List Nat}
theorem ac_fP_r (mm : ac_M) (x : Nat) : ac_fP mm mm x := ⟨fun _ _ => rfl, fun _ _ => rfl⟩
theorem ac_fQ_r (mm : ac_M) (x : Nat) : ac_fQ mm mm x := ⟨fun _ _ _ => rfl, fun _ _ => rfl⟩
theorem ac_fD_r (mm : ac_M) (x : Nat) : ac_fD mm mm x := ⟨fun _ _ _ => rfl, fun _ _ _ => rfl⟩
theorem ac_fP_t (h : ac_fP a b x) (g : ac_fP b c x) : ac_fP a c x := ⟨fun k q => (g.1 k q).trans (h.1 k q), fun j q => (g.2 j q).trans (h.2 j q)⟩
theorem ac_fQ_t (h : ac_fQ a b x) (g : ac_fQ b c x) : ac_fQ a c x := ⟨fun k q r => (g.1 k q r).trans (h.1 k q r), fun j q => (g.2 j q).trans (h.2 j q)⟩
theorem ac_fD_t (h : ac_fD a b x) (g : ac_fD b c x) : ac_fD a c x := ⟨fun k q r => (g.1 k q r).trans (h.1 k q r), fun j q r => (g.2 j q r).trans (h.2 j q r)⟩
theorem ac_fP_Q (h : ac_fP a b x) : ac_fQ a b x := ⟨fun k q _ => h.1 k q, h.2⟩
theorem ac_fQ_D (h : ac_fQ a b x) : ac_fD a b x := ⟨h.1, fun j q _ => h.2 j q⟩
theorem ac_fQ_up {j : Nat} {v : Int} : ac_fQ mm (ac_up mm (x + 2) j v) x := ⟨fun k q r => by funext i; exact ac_up_k r, fun i q => ac_up_k (by omega)⟩
theorem ac_fP_up {v : Int} : ac_fP mm (ac_up mm x 3 v) x := ⟨fun k q => by funext i; exact ac_up_k q, fun i q => ac_up_j q⟩
theorem ac_RD_up (h : ac_RD mm x s p) : ac_RD (ac_up mm x 3 (q : Int)) x s q := by
  obtain ⟨⟨h1, h2, h3⟩, h4⟩ := h
  exact ⟨⟨h1, by rw [ac_up_j (by decide)]; exact h2, fun i hi => by rw [ac_up_k (by omega)]; exact h3 i hi⟩, if_pos ⟨rfl, rfl⟩⟩
theorem ac_RD_o (h : ac_RD mm x s p) (h1 : m (x + 1) = mm (x + 1)) (h2 : m x 2 = mm x 2) (h3 : m x 3 = mm x 3) : ac_RD m x s p := by
  obtain ⟨⟨g1, g2, g3⟩, g4⟩ := h
  exact ⟨⟨g1, by rw [h2]; exact g2, fun i hi => by rw [h1]; exact g3 i hi⟩, by rw [h3]; exact g4⟩
theorem ac_RD_up2 {j : Nat} {v : Int} (h : ac_RD mm x s p) : ac_RD (ac_up mm (x + 2) j v) x s p := ac_RD_o h (by funext i; exact ac_up_k (by omega)) (ac_up_k (by omega)) (ac_up_k (by omega))
end AcRD
theorem ac_chN {s : List Nat} {p : Nat} (h : ¬ p < s.length) : ac_ch s p = 0 := ac_ch_out (by omega)

set_option maxHeartbeats 8000000 in
theorem k_X7_figure {G : ac_G} {Y : ac_Y} {mm : ac_M} {d x : Nat} {s : List Nat} {p : Nat} {a b : Int} (hd : 2 ≤ d) (hM : ac_isM Y x) (hD : ac_RD mm x s p) (hp : p ≤ 950) (ha : 0 ≤ a ∧ a ≤ 9) (hb : 0 ≤ b ∧ b ≤ 9) : ac_C G yX7_figure cX7_figure 4 (some .int) d 0 0 Y mm [(2, (x : Int)), (0, a), (0, b)] (ac_R Y [(0, if (48 + a ≤ (ac_ch s p : Int) ∧ (ac_ch s p : Int) ≤ 48 + b) then (ac_ch s p : Int) - 48 else 1000)] (fun m => ac_RD m x s (if (48 + a ≤ (ac_ch s p : Int) ∧ (ac_ch s p : Int) ≤ 48 + b) then p + 1 else p) ∧ ac_fP mm m x)) := by
  have hM9 := hM
  obtain ⟨kx, k1, k2, k3, k4, k5, k6, k7, k8, k9, k10, k11, k12, k13, k14, k15, k16⟩ := hM.2
  obtain ⟨⟨⟨hs1, hs2⟩, hsz, htx⟩, hpl⟩ := id hD
  have hch := ac_ch_lt hs2
  have hcp := hch p
  refine ac_met (on := (RX7, "figure")) rfl rfl (Nat.le_of_ble_eq_true rfl) (ls := [(2, (x : Int)), (0, a), (0, b), (3, 0)]) rfl ?_
  refine ac_aload_n (q := 1) dX7_figure_0 rfl rfl ?_
  refine ac_get (q := 4) dX7_figure_1 fl_X7_79 kx rfl (ac_rdi (v := ((p : Nat) : Int)) rfl hpl) ?_
  refine ac_aload_n (q := 5) dX7_figure_4 rfl rfl ?_
  refine ac_get (q := 8) dX7_figure_5 fl_X7_76 kx rfl (ac_rdi rfl hsz) ?_
  refine ac_icmp_ge (q := 11) (tgt := 26) dX7_figure_8 rfl rfl ⟨by omega, by omega⟩ ⟨by omega, by omega⟩ (fun h8 => ?_) (fun h8 => ?_)
  · have h0 := ac_chN (s := s) (p := p) (by omega)
    refine ac_sipush (q := 29) dX7_figure_26 rfl (by decide) ?_
    refine ac_istore_n (q := 30) (j := 3) rfl dX7_figure_29 rfl (Nat.le_of_ble_eq_true rfl) rfl rfl ?_
    simp only [List.set_cons_succ, List.set_cons_zero]
    refine ac_iload_n (q := 31) dX7_figure_30 rfl rfl ?_
    refine ac_i2l (q := 32) dX7_figure_31 rfl ⟨by omega, by omega⟩ ?_
    refine ac_iload_n (q := 33) dX7_figure_32 rfl rfl ?_
    refine ac_i2l (q := 34) dX7_figure_33 rfl ⟨by omega, by omega⟩ ?_
    refine ac_iload_n (q := 35) dX7_figure_34 rfl rfl ?_
    refine ac_i2l (q := 36) dX7_figure_35 rfl ⟨by omega, by omega⟩ ?_
    refine ac_csp (q := 39) (k_X7_in (d := d - 1) (by omega) ⟨by omega, by omega⟩ ⟨by omega, by omega⟩ ⟨by omega, by omega⟩) ml_X7_72 dX7_figure_36 rfl rfl rfl (by omega) (Nat.le_of_ble_eq_true rfl) (Nat.zero_le _) (Nat.zero_le _) ?_
    refine ac_bif_ne (q := 42) (tgt := 46) dX7_figure_39 rfl rfl (fun h39 => ?_) (fun h39 => ?_)
    · refine ac_aload_n (q := 47) dX7_figure_46 rfl rfl ?_
      refine ac_dup (q := 48) dX7_figure_47 rfl (show (2 : Nat) ≠ 1 by decide) ?_
      refine ac_get (q := 51) dX7_figure_48 fl_X7_79 kx rfl (ac_rdi (v := ((p : Nat) : Int)) rfl hpl) ?_
      refine ac_iconst (q := 52) dX7_figure_51 rfl ?_
      refine ac_iadd (q := 53) dX7_figure_52 rfl ?_
      refine ac_top (w' := (0, ((p + 1 : Nat) : Int))) (congrArg (fun z : Int => ((0 : Nat), z)) (by omega)) ?_
      refine ac_put (q := 56) dX7_figure_53 fl_X7_79 (by assumption) rfl rfl ?_
      refine ac_iload_n (q := 57) dX7_figure_56 rfl rfl ?_
      refine ac_ireturn dX7_figure_57 rfl (Nat.zero_le _) (Nat.zero_le _) ?_
      first
        | (exfalso; omega)
        | (have hyes : (48 + a ≤ (ac_ch s p : Int) ∧ (ac_ch s p : Int) ≤ 48 + b) := by omega
           rw [if_pos hyes, if_pos hyes]
           exact ⟨rfl, rfl, ac_RD_up hD, ac_fP_up⟩)
    · refine ac_sipush (q := 45) dX7_figure_42 rfl (by decide) ?_
      refine ac_ireturn dX7_figure_45 rfl (Nat.zero_le _) (Nat.zero_le _) ?_
      have hno : ¬ (48 + a ≤ (ac_ch s p : Int) ∧ (ac_ch s p : Int) ≤ 48 + b) := by omega
      rw [if_neg hno, if_neg hno]
      exact ⟨rfl, rfl, hD, ac_fP_r mm x⟩
  · refine ac_aload_n (q := 12) dX7_figure_11 rfl rfl ?_
    refine ac_get (q := 15) dX7_figure_12 fl_X7_7 (by assumption) rfl (ac_rdr rfl hM9.1.1) ?_
    refine ac_aload_n (q := 16) dX7_figure_15 rfl rfl ?_
    refine ac_get (q := 19) dX7_figure_16 fl_X7_79 kx rfl (ac_rdi (v := ((p : Nat) : Int)) rfl hpl) ?_
    refine ac_ialoadN (q := 20) (j := p) (v := (ac_ch s (p) : Int)) dX7_figure_19 k1 (by decide) (by omega) rfl (htx (p) (by omega)) ?_
    refine ac_bipush (q := 22) dX7_figure_20 rfl (by decide) ?_
    refine ac_isub (q := 23) dX7_figure_22 rfl ?_
    refine ac_goto (q := 29) dX7_figure_23 rfl ?_
    refine ac_istore_n (q := 30) (j := 3) rfl dX7_figure_29 rfl (Nat.le_of_ble_eq_true rfl) rfl rfl ?_
    simp only [List.set_cons_succ, List.set_cons_zero]
    refine ac_iload_n (q := 31) dX7_figure_30 rfl rfl ?_
    refine ac_i2l (q := 32) dX7_figure_31 rfl ⟨by omega, by omega⟩ ?_
    refine ac_iload_n (q := 33) dX7_figure_32 rfl rfl ?_
    refine ac_i2l (q := 34) dX7_figure_33 rfl ⟨by omega, by omega⟩ ?_
    refine ac_iload_n (q := 35) dX7_figure_34 rfl rfl ?_
    refine ac_i2l (q := 36) dX7_figure_35 rfl ⟨by omega, by omega⟩ ?_
    refine ac_csp (q := 39) (k_X7_in (d := d - 1) (by omega) ⟨by omega, by omega⟩ ⟨by omega, by omega⟩ ⟨by omega, by omega⟩) ml_X7_72 dX7_figure_36 rfl rfl rfl (by omega) (Nat.le_of_ble_eq_true rfl) (Nat.zero_le _) (Nat.zero_le _) ?_
    refine ac_bif_ne (q := 42) (tgt := 46) dX7_figure_39 rfl rfl (fun h39 => ?_) (fun h39 => ?_)
    · refine ac_aload_n (q := 47) dX7_figure_46 rfl rfl ?_
      refine ac_dup (q := 48) dX7_figure_47 rfl (show (2 : Nat) ≠ 1 by decide) ?_
      refine ac_get (q := 51) dX7_figure_48 fl_X7_79 kx rfl (ac_rdi (v := ((p : Nat) : Int)) rfl hpl) ?_
      refine ac_iconst (q := 52) dX7_figure_51 rfl ?_
      refine ac_iadd (q := 53) dX7_figure_52 rfl ?_
      refine ac_top (w' := (0, ((p + 1 : Nat) : Int))) (congrArg (fun z : Int => ((0 : Nat), z)) (by omega)) ?_
      refine ac_put (q := 56) dX7_figure_53 fl_X7_79 (by assumption) rfl rfl ?_
      refine ac_iload_n (q := 57) dX7_figure_56 rfl rfl ?_
      refine ac_ireturn dX7_figure_57 rfl (Nat.zero_le _) (Nat.zero_le _) ?_
      first
        | (exfalso; omega)
        | (have hyes : (48 + a ≤ (ac_ch s p : Int) ∧ (ac_ch s p : Int) ≤ 48 + b) := by omega
           rw [if_pos hyes, if_pos hyes]
           exact ⟨rfl, rfl, ac_RD_up hD, ac_fP_up⟩)
    · refine ac_sipush (q := 45) dX7_figure_42 rfl (by decide) ?_
      refine ac_ireturn dX7_figure_45 rfl (Nat.zero_le _) (Nat.zero_le _) ?_
      have hno : ¬ (48 + a ≤ (ac_ch s p : Int) ∧ (ac_ch s p : Int) ≤ 48 + b) := by omega
      rw [if_neg hno, if_neg hno]
      exact ⟨rfl, rfl, hD, ac_fP_r mm x⟩

set_option maxHeartbeats 8000000 in
theorem k_X7_factor {G : ac_G} {Y : ac_Y} {mm : ac_M} {d x : Nat} {s : List Nat} {p : Nat} (hd : 3 ≤ d) (hM : ac_isM Y x) (hD : ac_RD mm x s p) (hp : p ≤ 950) : ac_C G yX7_factor cX7_factor 2 (some .int) d 0 0 Y mm [(2, (x : Int))] (ac_R Y [(0, if (ac_fc (ac_ch s p)) = 0 then 1000 else (ac_fc (ac_ch s p)))] (fun m => ac_RD m x s (if (ac_fc (ac_ch s p)) = 0 then p else p + 1) ∧ ac_fP mm m x)) := by
  have hM9 := hM
  obtain ⟨kx, k1, k2, k3, k4, k5, k6, k7, k8, k9, k10, k11, k12, k13, k14, k15, k16⟩ := hM.2
  obtain ⟨⟨⟨hs1, hs2⟩, hsz, htx⟩, hpl⟩ := id hD
  have hch := ac_ch_lt hs2
  have hcp := hch p
  have hf : ac_fc (ac_ch s p) = if 49 ≤ ac_ch s p ∧ ac_ch s p ≤ 52 then (ac_ch s p : Int) - 48 else if 97 ≤ ac_ch s p ∧ ac_ch s p ≤ 100 then 96 - (ac_ch s p : Int) else 0 := rfl
  refine ac_met (on := (RX7, "factor")) rfl rfl (Nat.le_of_ble_eq_true rfl) (ls := [(2, (x : Int)), (3, 0)]) rfl ?_
  refine ac_aload_n (q := 1) dX7_factor_0 rfl rfl ?_
  refine ac_get (q := 4) dX7_factor_1 fl_X7_79 kx rfl (ac_rdi (v := ((p : Nat) : Int)) rfl hpl) ?_
  refine ac_aload_n (q := 5) dX7_factor_4 rfl rfl ?_
  refine ac_get (q := 8) dX7_factor_5 fl_X7_76 kx rfl (ac_rdi rfl hsz) ?_
  refine ac_icmp_ge (q := 11) (tgt := 26) dX7_factor_8 rfl rfl ⟨by omega, by omega⟩ ⟨by omega, by omega⟩ (fun h8 => ?_) (fun h8 => ?_)
  · have h0 := ac_chN (s := s) (p := p) (by omega)
    refine ac_sipush (q := 29) dX7_factor_26 rfl (by decide) ?_
    refine ac_istore_n (q := 30) (j := 1) rfl dX7_factor_29 rfl (Nat.le_of_ble_eq_true rfl) rfl rfl ?_
    simp only [List.set_cons_succ, List.set_cons_zero]
    refine ac_iload_n (q := 31) dX7_factor_30 rfl rfl ?_
    refine ac_i2l (q := 32) dX7_factor_31 rfl ⟨by omega, by omega⟩ ?_
    refine ac_lconst (q := 33) (v := 1) dX7_factor_32 rfl (by decide) ?_
    refine ac_ldc2_w (q := 36) (v := 4) dX7_factor_33 rfl ct_X7_82 ?_
    refine ac_csp (q := 39) (k_X7_in (d := d - 1) (by omega) ⟨by omega, by omega⟩ ⟨by omega, by omega⟩ ⟨by omega, by omega⟩) ml_X7_72 dX7_factor_36 rfl rfl rfl (by omega) (Nat.le_of_ble_eq_true rfl) (Nat.zero_le _) (Nat.zero_le _) ?_
    refine ac_bif_eq (q := 42) (tgt := 55) dX7_factor_39 rfl rfl (fun h39 => ?_) (fun h39 => ?_)
    · refine ac_aload_n (q := 56) dX7_factor_55 rfl rfl ?_
      refine ac_iconst (q := 57) dX7_factor_56 rfl ?_
      refine ac_iconst (q := 58) dX7_factor_57 rfl ?_
      refine ac_cv (q := 61) (k_X7_figure (a := 1) (b := 4) (d := d - 1) (by omega) hM9 hD hp (by decide) (by decide)) ml_X7_84 (by assumption) dX7_factor_58 rfl rfl rfl (by omega) (Nat.le_of_ble_eq_true rfl) (Nat.zero_le _) (Nat.zero_le _) (fun m1 h1 => ?_)
      obtain ⟨D1, f1⟩ := h1
      refine ac_ireturn dX7_factor_61 rfl (Nat.zero_le _) (Nat.zero_le _) ?_
      by_cases hfg : 48 + 1 ≤ (ac_ch s p : Int) ∧ (ac_ch s p : Int) ≤ 48 + 4
      · rw [if_pos hfg] at D1 ⊢
        have hv : ac_fc (ac_ch s p) = (ac_ch s p : Int) - 48 := by rw [hf, if_pos (by omega)]
        have hz : ¬ ac_fc (ac_ch s p) = 0 := by omega
        rw [if_neg hz, if_neg hz, hv]
        exact ⟨rfl, rfl, D1, f1⟩
      · rw [if_neg hfg] at D1 ⊢
        have hz : ac_fc (ac_ch s p) = 0 := by rw [hf, if_neg (by omega), if_neg (by omega)]
        rw [if_pos hz, if_pos hz]
        exact ⟨rfl, rfl, D1, f1⟩
    · refine ac_aload_n (q := 43) dX7_factor_42 rfl rfl ?_
      refine ac_dup (q := 44) dX7_factor_43 rfl (show (2 : Nat) ≠ 1 by decide) ?_
      refine ac_get (q := 47) dX7_factor_44 fl_X7_79 kx rfl (ac_rdi (v := ((p : Nat) : Int)) rfl hpl) ?_
      refine ac_iconst (q := 48) dX7_factor_47 rfl ?_
      refine ac_iadd (q := 49) dX7_factor_48 rfl ?_
      refine ac_top (w' := (0, ((p + 1 : Nat) : Int))) (congrArg (fun z : Int => ((0 : Nat), z)) (by omega)) ?_
      refine ac_put (q := 52) dX7_factor_49 fl_X7_79 (by assumption) rfl rfl ?_
      refine ac_iload_n (q := 53) dX7_factor_52 rfl rfl ?_
      refine ac_ineg (q := 54) dX7_factor_53 rfl ?_
      refine ac_ireturn dX7_factor_54 rfl (Nat.zero_le _) (Nat.zero_le _) ?_
      have hv : ac_fc (ac_ch s p) = 96 - (ac_ch s p : Int) := by rw [hf, if_neg (by omega), if_pos (by omega)]
      have hz : ¬ ac_fc (ac_ch s p) = 0 := by omega
      rw [if_neg hz, if_neg hz, hv]
      exact ⟨congrArg (fun z : Int => [((0 : Nat), z)]) (by omega), rfl, ac_RD_up hD, ac_fP_up⟩
  · refine ac_aload_n (q := 12) dX7_factor_11 rfl rfl ?_
    refine ac_get (q := 15) dX7_factor_12 fl_X7_7 (by assumption) rfl (ac_rdr rfl hM9.1.1) ?_
    refine ac_aload_n (q := 16) dX7_factor_15 rfl rfl ?_
    refine ac_get (q := 19) dX7_factor_16 fl_X7_79 kx rfl (ac_rdi (v := ((p : Nat) : Int)) rfl hpl) ?_
    refine ac_ialoadN (q := 20) (j := p) (v := (ac_ch s (p) : Int)) dX7_factor_19 k1 (by decide) (by omega) rfl (htx (p) (by omega)) ?_
    refine ac_bipush (q := 22) dX7_factor_20 rfl (by decide) ?_
    refine ac_isub (q := 23) dX7_factor_22 rfl ?_
    refine ac_goto (q := 29) dX7_factor_23 rfl ?_
    refine ac_istore_n (q := 30) (j := 1) rfl dX7_factor_29 rfl (Nat.le_of_ble_eq_true rfl) rfl rfl ?_
    simp only [List.set_cons_succ, List.set_cons_zero]
    refine ac_iload_n (q := 31) dX7_factor_30 rfl rfl ?_
    refine ac_i2l (q := 32) dX7_factor_31 rfl ⟨by omega, by omega⟩ ?_
    refine ac_lconst (q := 33) (v := 1) dX7_factor_32 rfl (by decide) ?_
    refine ac_ldc2_w (q := 36) (v := 4) dX7_factor_33 rfl ct_X7_82 ?_
    refine ac_csp (q := 39) (k_X7_in (d := d - 1) (by omega) ⟨by omega, by omega⟩ ⟨by omega, by omega⟩ ⟨by omega, by omega⟩) ml_X7_72 dX7_factor_36 rfl rfl rfl (by omega) (Nat.le_of_ble_eq_true rfl) (Nat.zero_le _) (Nat.zero_le _) ?_
    refine ac_bif_eq (q := 42) (tgt := 55) dX7_factor_39 rfl rfl (fun h39 => ?_) (fun h39 => ?_)
    · refine ac_aload_n (q := 56) dX7_factor_55 rfl rfl ?_
      refine ac_iconst (q := 57) dX7_factor_56 rfl ?_
      refine ac_iconst (q := 58) dX7_factor_57 rfl ?_
      refine ac_cv (q := 61) (k_X7_figure (a := 1) (b := 4) (d := d - 1) (by omega) hM9 hD hp (by decide) (by decide)) ml_X7_84 (by assumption) dX7_factor_58 rfl rfl rfl (by omega) (Nat.le_of_ble_eq_true rfl) (Nat.zero_le _) (Nat.zero_le _) (fun m1 h1 => ?_)
      obtain ⟨D1, f1⟩ := h1
      refine ac_ireturn dX7_factor_61 rfl (Nat.zero_le _) (Nat.zero_le _) ?_
      by_cases hfg : 48 + 1 ≤ (ac_ch s p : Int) ∧ (ac_ch s p : Int) ≤ 48 + 4
      · rw [if_pos hfg] at D1 ⊢
        have hv : ac_fc (ac_ch s p) = (ac_ch s p : Int) - 48 := by rw [hf, if_pos (by omega)]
        have hz : ¬ ac_fc (ac_ch s p) = 0 := by omega
        rw [if_neg hz, if_neg hz, hv]
        exact ⟨rfl, rfl, D1, f1⟩
      · rw [if_neg hfg] at D1 ⊢
        have hz : ac_fc (ac_ch s p) = 0 := by rw [hf, if_neg (by omega), if_neg (by omega)]
        rw [if_pos hz, if_pos hz]
        exact ⟨rfl, rfl, D1, f1⟩
    · refine ac_aload_n (q := 43) dX7_factor_42 rfl rfl ?_
      refine ac_dup (q := 44) dX7_factor_43 rfl (show (2 : Nat) ≠ 1 by decide) ?_
      refine ac_get (q := 47) dX7_factor_44 fl_X7_79 kx rfl (ac_rdi (v := ((p : Nat) : Int)) rfl hpl) ?_
      refine ac_iconst (q := 48) dX7_factor_47 rfl ?_
      refine ac_iadd (q := 49) dX7_factor_48 rfl ?_
      refine ac_top (w' := (0, ((p + 1 : Nat) : Int))) (congrArg (fun z : Int => ((0 : Nat), z)) (by omega)) ?_
      refine ac_put (q := 52) dX7_factor_49 fl_X7_79 (by assumption) rfl rfl ?_
      refine ac_iload_n (q := 53) dX7_factor_52 rfl rfl ?_
      refine ac_ineg (q := 54) dX7_factor_53 rfl ?_
      refine ac_ireturn dX7_factor_54 rfl (Nat.zero_le _) (Nat.zero_le _) ?_
      have hv : ac_fc (ac_ch s p) = 96 - (ac_ch s p : Int) := by rw [hf, if_neg (by omega), if_pos (by omega)]
      have hz : ¬ ac_fc (ac_ch s p) = 0 := by omega
      rw [if_neg hz, if_neg hz, hv]
      exact ⟨congrArg (fun z : Int => [((0 : Nat), z)]) (by omega), rfl, ac_RD_up hD, ac_fP_up⟩

set_option maxHeartbeats 8000000 in
theorem k_X7_isBare {G : ac_G} {Y : ac_Y} {mm : ac_M} {d x : Nat} {T : ac_Tk} {i : Nat} (hd : 2 ≤ d) (hM : ac_isM Y x) (rP : ac_RP mm (x + 2) T) (hi : i ≤ 10000) : ac_C G yX7_isBare cX7_isBare 2 (some .boolean) d 0 0 Y mm [(2, (x : Int)), (0, (i : Int))] (ac_R Y [(0, ac_b ((1 ≤ i ∧ i ≤ T.1) ∧ T.2.2.2.1 i = -1))] (fun m => m = mm)) := by
  have hM9 := hM
  obtain ⟨kx, k1, k2, k3, k4, k5, k6, k7, k8, k9, k10, k11, k12, k13, k14, k15, k16⟩ := hM.2
  obtain ⟨⟨⟨hn1, hn2⟩, ⟨hk2, hk3⟩, hE, hp0, hpr, hc0⟩, p0, p1, pE, pp, p28, pcb, pcl⟩ := id rP
  have hE4 := hE.1
  refine ac_met (on := (RX7, "isBare")) rfl rfl (Nat.le_of_ble_eq_true rfl) (ls := [(2, (x : Int)), (0, (i : Int))]) rfl ?_
  refine ac_iload_n (q := 1) dX7_isBare_0 rfl rfl ?_
  refine ac_i2l (q := 2) dX7_isBare_1 rfl ⟨by omega, by omega⟩ ?_
  refine ac_lconst (q := 3) (v := 1) dX7_isBare_2 rfl (by decide) ?_
  refine ac_aload_n (q := 4) dX7_isBare_3 rfl rfl ?_
  refine ac_get (q := 7) dX7_isBare_4 fl_X7_17 (by assumption) rfl (ac_rdr rfl hM9.1.2.1) ?_
  refine ac_iconst (q := 8) dX7_isBare_7 rfl ?_
  refine ac_ialoadN (q := 9) (j := 0) (v := (T.1 : Int)) dX7_isBare_8 k2 (by decide) (by decide) rfl p0 ?_
  refine ac_i2l (q := 10) dX7_isBare_9 rfl ⟨by omega, by omega⟩ ?_
  refine ac_csp (q := 13) (k_X7_in (d := d - 1) (by omega) ⟨by omega, by omega⟩ ⟨by omega, by omega⟩ ⟨by omega, by omega⟩) ml_X7_72 dX7_isBare_10 rfl rfl rfl (by omega) (Nat.le_of_ble_eq_true rfl) (Nat.zero_le _) (Nat.zero_le _) ?_
  refine ac_bif_eq (q := 16) (tgt := 34) dX7_isBare_13 rfl rfl (fun h13 => ?_) (fun h13 => ?_)
  · refine ac_iconst (q := 35) dX7_isBare_34 rfl ?_
    refine ac_zreturn dX7_isBare_35 rfl (by first | exact ac_b01 | omega) (Nat.zero_le _) (Nat.zero_le _) ?_
    first
      | exact ⟨ac_l1 (by omega), rfl, rfl⟩
      | exact ⟨ac_l0 (by omega), rfl, rfl⟩
  · refine ac_aload_n (q := 17) dX7_isBare_16 rfl rfl ?_
    refine ac_get (q := 20) dX7_isBare_17 fl_X7_17 (by assumption) rfl (ac_rdr rfl hM9.1.2.1) ?_
    refine ac_bipush (q := 22) dX7_isBare_20 rfl (by decide) ?_
    refine ac_iload_n (q := 23) dX7_isBare_22 rfl rfl ?_
    refine ac_iadd (q := 24) dX7_isBare_23 rfl ?_
    refine ac_top (w' := (0, ((18 + i : Nat) : Int))) (congrArg (fun z : Int => ((0 : Nat), z)) (by omega)) ?_
    refine ac_iconst (q := 25) dX7_isBare_24 rfl ?_
    refine ac_isub (q := 26) dX7_isBare_25 rfl ?_
    refine ac_top (w' := (0, ((17 + i : Nat) : Int))) (congrArg (fun z : Int => ((0 : Nat), z)) (by omega)) ?_
    refine ac_ialoadN (q := 27) (j := 17 + i) (v := (T.2.2.2.1 i + 1)) dX7_isBare_26 k2 (by decide) (by omega) rfl (pp i (by omega) (by omega)) ?_
    have hpi := hpr i
    refine ac_if_ne (q := 30) (tgt := 34) dX7_isBare_27 rfl rfl ⟨by omega, by omega⟩ (fun h27 => ?_) (fun h27 => ?_)
    · refine ac_iconst (q := 35) dX7_isBare_34 rfl ?_
      refine ac_zreturn dX7_isBare_35 rfl (by first | exact ac_b01 | omega) (Nat.zero_le _) (Nat.zero_le _) ?_
      first
        | exact ⟨ac_l1 (by omega), rfl, rfl⟩
        | exact ⟨ac_l0 (by omega), rfl, rfl⟩
    · refine ac_iconst (q := 31) dX7_isBare_30 rfl ?_
      refine ac_goto (q := 35) dX7_isBare_31 rfl ?_
      refine ac_zreturn dX7_isBare_35 rfl (by first | exact ac_b01 | omega) (Nat.zero_le _) (Nat.zero_le _) ?_
      first
        | exact ⟨ac_l1 (by omega), rfl, rfl⟩
        | exact ⟨ac_l0 (by omega), rfl, rfl⟩

set_option maxHeartbeats 8000000 in
theorem k_X7_readEquation {G : ac_G} {Y : ac_Y} {mm : ac_M} {d x : Nat} {s : List Nat} {p : Nat} {T : ac_Tk} (hd : 4 ≤ d) (hM : ac_isM Y x) (hD : ac_RD mm x s p) (rP : ac_RP mm (x + 2) T) (hp : p ≤ 900) : ac_C G yX7_readEquation cX7_readEquation 4 (some .boolean) d 0 0 Y mm [(2, (x : Int))] (ac_R Y [(0, ac_b (T.2.2.1.length < 4 ∧ (ac_eqp s (p + 1)).2.isSome = true))] (fun m => ac_RD m x s (if T.2.2.1.length < 4 then (ac_eqp s (p + 1)).1 else p) ∧ (∀ q, T.2.2.1.length < 4 → (ac_eqp s (p + 1)).2 = some q → ac_RP m (x + 2) (T.1, T.2.1, T.2.2.1 ++ [q], T.2.2.2.1, T.2.2.2.2)) ∧ ac_fQ mm m x)) := by
  have hM9 := hM
  obtain ⟨kx, k1, k2, k3, k4, k5, k6, k7, k8, k9, k10, k11, k12, k13, k14, k15, k16⟩ := hM.2
  obtain ⟨⟨⟨hs1, hs2⟩, hsz, htx⟩, hpl⟩ := id hD
  have hch := ac_ch_lt hs2
  obtain ⟨⟨⟨hn1, hn2⟩, ⟨hk2, hk3⟩, hE, hp0, hpr, hc0⟩, p0, p1, pE, pp, p28, pcb, pcl⟩ := id rP
  have hE4 := hE.1
  obtain ⟨L, hL⟩ : ∃ L, L = T.2.2.1.length := ⟨_, rfl⟩
  rw [← hL] at hE4 p1
  have hi1 := ac_fc_in (ac_ch s (p + 1))
  have hi2 := ac_fc_in (ac_ch s (p + 2))
  have hi3 := ac_fc_in (ac_ch s (p + 3))
  have hch4 := hch (p + 4)
  have heq : (ac_eqp s (p + 1)) = if ac_fc (ac_ch s (p + 1)) = 0 then (p + 1, none) else if ac_fc (ac_ch s (p + 2)) = 0 then (p + 2, none) else if ac_fc (ac_ch s (p + 3)) = 0 then (p + 3, none)
    else if ac_ch s (p + 4) = 33 then (p + 5, some (ac_fc (ac_ch s (p + 1)), ac_fc (ac_ch s (p + 2)), ac_fc (ac_ch s (p + 3)), 1)) else if ac_ch s (p + 4) = 61 then (p + 5, some (ac_fc (ac_ch s (p + 1)), ac_fc (ac_ch s (p + 2)), ac_fc (ac_ch s (p + 3)), 0)) else (p + 4, none) := rfl
  refine ac_met (on := (RX7, "readEquation")) rfl rfl (Nat.le_of_ble_eq_true rfl) (ls := [(2, (x : Int)), (3, 0), (3, 0), (3, 0)]) rfl ?_
  refine ac_aload_n (q := 1) dX7_readEquation_0 rfl rfl ?_
  refine ac_get (q := 4) dX7_readEquation_1 fl_X7_17 (by assumption) rfl (ac_rdr rfl hM9.1.2.1) ?_
  refine ac_iconst (q := 5) dX7_readEquation_4 rfl ?_
  refine ac_ialoadN (q := 6) (j := 1) (v := (L : Int)) dX7_readEquation_5 k2 (by decide) (by decide) rfl p1 ?_
  refine ac_iconst (q := 7) dX7_readEquation_6 rfl ?_
  refine ac_icmp_ne (q := 10) (tgt := 12) dX7_readEquation_7 rfl rfl ⟨by omega, by omega⟩ ⟨by omega, by omega⟩ (fun h7 => ?_) (fun h7 => ?_)
  · skip
    have hlt : T.2.2.1.length < 4 := by omega
    refine ac_aload_n (q := 13) dX7_readEquation_12 rfl rfl ?_
    refine ac_dup (q := 14) dX7_readEquation_13 rfl (show (2 : Nat) ≠ 1 by decide) ?_
    refine ac_get (q := 17) dX7_readEquation_14 fl_X7_79 kx rfl (ac_rdi (v := ((p : Nat) : Int)) rfl hpl) ?_
    refine ac_iconst (q := 18) dX7_readEquation_17 rfl ?_
    refine ac_iadd (q := 19) dX7_readEquation_18 rfl ?_
    refine ac_top (w' := (0, ((p + 1 : Nat) : Int))) (congrArg (fun z : Int => ((0 : Nat), z)) (by omega)) ?_
    refine ac_put (q := 22) dX7_readEquation_19 fl_X7_79 (by assumption) rfl rfl ?_
    have hD0 := ac_RD_up (q := p + 1) hD
    have F0 : ac_fQ mm (ac_up mm x 3 ((p + 1 : Nat) : Int)) x := ac_fP_Q ac_fP_up
    have q2 : ac_up mm x 3 ((p + 1 : Nat) : Int) (x + 2) = mm (x + 2) := by funext j; exact ac_up_k (by omega)
    generalize ac_up mm x 3 ((p + 1 : Nat) : Int) = m0 at *
    refine ac_iconst (q := 23) dX7_readEquation_22 rfl ?_
    refine ac_iconst (q := 24) dX7_readEquation_23 rfl ?_
    refine ac_aload_n (q := 25) dX7_readEquation_24 rfl rfl ?_
    refine ac_get (q := 28) dX7_readEquation_25 fl_X7_17 (by assumption) rfl (ac_rdr rfl hM9.1.2.1) ?_
    refine ac_iconst (q := 29) dX7_readEquation_28 rfl ?_
    refine ac_ialoadN (q := 30) (j := 1) (v := (L : Int)) dX7_readEquation_29 k2 (by decide) (by decide) rfl (by rw [q2]; exact p1) ?_
    refine ac_imul (q := 31) dX7_readEquation_30 rfl ?_
    refine ac_iadd (q := 32) dX7_readEquation_31 rfl ?_
    refine ac_top (w' := (0, ((2 + 4 * L : Nat) : Int))) (congrArg (fun z : Int => ((0 : Nat), z)) (by omega)) ?_
    refine ac_istore_n (q := 33) (j := 1) rfl dX7_readEquation_32 rfl (Nat.le_of_ble_eq_true rfl) rfl rfl ?_
    simp only [List.set_cons_succ, List.set_cons_zero]
    refine ac_iconst (q := 34) dX7_readEquation_33 rfl ?_
    refine ac_istore_n (q := 35) (j := 2) rfl dX7_readEquation_34 rfl (Nat.le_of_ble_eq_true rfl) rfl rfl ?_
    simp only [List.set_cons_succ, List.set_cons_zero]
    refine ac_iload_n (q := 36) dX7_readEquation_35 rfl rfl ?_
    refine ac_iconst (q := 37) dX7_readEquation_36 rfl ?_
    refine ac_icmp_ge (q := 40) (tgt := 69) dX7_readEquation_37 rfl rfl ⟨by omega, by omega⟩ ⟨by omega, by omega⟩ (fun h37 => ?_) (fun h37 => ?_)
    · exact absurd h37 (by decide)
    · refine ac_aload_n (q := 41) dX7_readEquation_40 rfl rfl ?_
      refine ac_cv (q := 44) (k_X7_factor (p := p + 1) (d := d - 1) (by omega) hM9 hD0 (by omega)) ml_X7_88 (by assumption) dX7_readEquation_41 rfl rfl rfl (by omega) (Nat.le_of_ble_eq_true rfl) (Nat.zero_le _) (Nat.zero_le _) (fun m1 h1 => ?_)
      obtain ⟨D1, f1⟩ := h1
      have F1 := ac_fQ_t F0 (ac_fP_Q f1)
      refine ac_istore_n (q := 45) (j := 3) rfl dX7_readEquation_44 rfl (Nat.le_of_ble_eq_true rfl) rfl rfl ?_
      simp only [List.set_cons_succ, List.set_cons_zero]
      refine ac_iload_n (q := 46) dX7_readEquation_45 rfl rfl ?_
      refine ac_sipush (q := 49) dX7_readEquation_46 rfl (by decide) ?_
      refine ac_icmp_ne (q := 52) (tgt := 54) dX7_readEquation_49 rfl rfl (by split <;> exact ⟨by omega, by omega⟩) ⟨by omega, by omega⟩ (fun h49 => ?_) (fun h49 => ?_)
      · have z0 : ¬ (ac_fc (ac_ch s (p + 1))) = 0 := fun q => h49 (by rw [if_pos q])
        rw [if_neg z0] at D1 ⊢
        have hz0 := z0
        refine ac_aload_n (q := 55) dX7_readEquation_54 rfl rfl ?_
        refine ac_get (q := 58) dX7_readEquation_55 fl_X7_17 (by assumption) rfl (ac_rdr rfl hM9.1.2.1) ?_
        refine ac_iload_n (q := 59) dX7_readEquation_58 rfl rfl ?_
        refine ac_iload_n (q := 60) dX7_readEquation_59 rfl rfl ?_
        refine ac_iadd (q := 61) dX7_readEquation_60 rfl ?_
        refine ac_top (w' := (0, ((2 + 4 * L : Nat) : Int))) (congrArg (fun z : Int => ((0 : Nat), z)) (by omega)) ?_
        refine ac_iload_n (q := 62) dX7_readEquation_61 rfl rfl ?_
        refine ac_iastoreN (q := 63) (j := 2 + 4 * L) dX7_readEquation_62 k2 (by decide) (by omega) rfl ?_
        refine ac_iinc (q := 66) (v := 1) dX7_readEquation_63 rfl (Nat.le_of_ble_eq_true rfl) rfl rfl rfl rfl ?_
        simp only [List.set_cons_succ, List.set_cons_zero]
        refine ac_goto (q := 35) dX7_readEquation_66 rfl ?_
        refine ac_iload_n (q := 36) dX7_readEquation_35 rfl rfl ?_
        refine ac_iconst (q := 37) dX7_readEquation_36 rfl ?_
        refine ac_icmp_ge (q := 40) (tgt := 69) dX7_readEquation_37 rfl rfl ⟨by omega, by omega⟩ ⟨by omega, by omega⟩ (fun h37 => ?_) (fun h37 => ?_)
        · exact absurd h37 (by decide)
        · refine ac_aload_n (q := 41) dX7_readEquation_40 rfl rfl ?_
          refine ac_cv (q := 44) (k_X7_factor (p := p + 2) (d := d - 1) (by omega) hM9 (ac_RD_up2 D1) (by omega)) ml_X7_88 (by assumption) dX7_readEquation_41 rfl rfl rfl (by omega) (Nat.le_of_ble_eq_true rfl) (Nat.zero_le _) (Nat.zero_le _) (fun m2 h2 => ?_)
          obtain ⟨D2, f2⟩ := h2
          have F2 := ac_fQ_t (ac_fQ_t F1 ac_fQ_up) (ac_fP_Q f2)
          refine ac_istore_n (q := 45) (j := 3) rfl dX7_readEquation_44 rfl (Nat.le_of_ble_eq_true rfl) rfl rfl ?_
          simp only [List.set_cons_succ, List.set_cons_zero]
          refine ac_iload_n (q := 46) dX7_readEquation_45 rfl rfl ?_
          refine ac_sipush (q := 49) dX7_readEquation_46 rfl (by decide) ?_
          refine ac_icmp_ne (q := 52) (tgt := 54) dX7_readEquation_49 rfl rfl (by split <;> exact ⟨by omega, by omega⟩) ⟨by omega, by omega⟩ (fun h49 => ?_) (fun h49 => ?_)
          · have z1 : ¬ (ac_fc (ac_ch s (p + 2))) = 0 := fun q => h49 (by rw [if_pos q])
            rw [if_neg z1] at D2 ⊢
            have hz1 := z1
            refine ac_aload_n (q := 55) dX7_readEquation_54 rfl rfl ?_
            refine ac_get (q := 58) dX7_readEquation_55 fl_X7_17 (by assumption) rfl (ac_rdr rfl hM9.1.2.1) ?_
            refine ac_iload_n (q := 59) dX7_readEquation_58 rfl rfl ?_
            refine ac_iload_n (q := 60) dX7_readEquation_59 rfl rfl ?_
            refine ac_iadd (q := 61) dX7_readEquation_60 rfl ?_
            refine ac_top (w' := (0, ((2 + 4 * L + 1 : Nat) : Int))) (congrArg (fun z : Int => ((0 : Nat), z)) (by omega)) ?_
            refine ac_iload_n (q := 62) dX7_readEquation_61 rfl rfl ?_
            refine ac_iastoreN (q := 63) (j := 2 + 4 * L + 1) dX7_readEquation_62 k2 (by decide) (by omega) rfl ?_
            refine ac_iinc (q := 66) (v := 2) dX7_readEquation_63 rfl (Nat.le_of_ble_eq_true rfl) rfl rfl rfl rfl ?_
            simp only [List.set_cons_succ, List.set_cons_zero]
            refine ac_goto (q := 35) dX7_readEquation_66 rfl ?_
            refine ac_iload_n (q := 36) dX7_readEquation_35 rfl rfl ?_
            refine ac_iconst (q := 37) dX7_readEquation_36 rfl ?_
            refine ac_icmp_ge (q := 40) (tgt := 69) dX7_readEquation_37 rfl rfl ⟨by omega, by omega⟩ ⟨by omega, by omega⟩ (fun h37 => ?_) (fun h37 => ?_)
            · exact absurd h37 (by decide)
            · refine ac_aload_n (q := 41) dX7_readEquation_40 rfl rfl ?_
              refine ac_cv (q := 44) (k_X7_factor (p := p + 3) (d := d - 1) (by omega) hM9 (ac_RD_up2 D2) (by omega)) ml_X7_88 (by assumption) dX7_readEquation_41 rfl rfl rfl (by omega) (Nat.le_of_ble_eq_true rfl) (Nat.zero_le _) (Nat.zero_le _) (fun m3 h3 => ?_)
              obtain ⟨D3, f3⟩ := h3
              have F3 := ac_fQ_t (ac_fQ_t F2 ac_fQ_up) (ac_fP_Q f3)
              refine ac_istore_n (q := 45) (j := 3) rfl dX7_readEquation_44 rfl (Nat.le_of_ble_eq_true rfl) rfl rfl ?_
              simp only [List.set_cons_succ, List.set_cons_zero]
              refine ac_iload_n (q := 46) dX7_readEquation_45 rfl rfl ?_
              refine ac_sipush (q := 49) dX7_readEquation_46 rfl (by decide) ?_
              refine ac_icmp_ne (q := 52) (tgt := 54) dX7_readEquation_49 rfl rfl (by split <;> exact ⟨by omega, by omega⟩) ⟨by omega, by omega⟩ (fun h49 => ?_) (fun h49 => ?_)
              · have z2 : ¬ (ac_fc (ac_ch s (p + 3))) = 0 := fun q => h49 (by rw [if_pos q])
                rw [if_neg z2] at D3 ⊢
                have hz2 := z2
                refine ac_aload_n (q := 55) dX7_readEquation_54 rfl rfl ?_
                refine ac_get (q := 58) dX7_readEquation_55 fl_X7_17 (by assumption) rfl (ac_rdr rfl hM9.1.2.1) ?_
                refine ac_iload_n (q := 59) dX7_readEquation_58 rfl rfl ?_
                refine ac_iload_n (q := 60) dX7_readEquation_59 rfl rfl ?_
                refine ac_iadd (q := 61) dX7_readEquation_60 rfl ?_
                refine ac_top (w' := (0, ((2 + 4 * L + 2 : Nat) : Int))) (congrArg (fun z : Int => ((0 : Nat), z)) (by omega)) ?_
                refine ac_iload_n (q := 62) dX7_readEquation_61 rfl rfl ?_
                refine ac_iastoreN (q := 63) (j := 2 + 4 * L + 2) dX7_readEquation_62 k2 (by decide) (by omega) rfl ?_
                refine ac_iinc (q := 66) (v := 3) dX7_readEquation_63 rfl (Nat.le_of_ble_eq_true rfl) rfl rfl rfl rfl ?_
                simp only [List.set_cons_succ, List.set_cons_zero]
                refine ac_goto (q := 35) dX7_readEquation_66 rfl ?_
                refine ac_iload_n (q := 36) dX7_readEquation_35 rfl rfl ?_
                refine ac_iconst (q := 37) dX7_readEquation_36 rfl ?_
                refine ac_icmp_ge (q := 40) (tgt := 69) dX7_readEquation_37 rfl rfl ⟨by omega, by omega⟩ ⟨by omega, by omega⟩ (fun h37 => ?_) (fun h37 => ?_)
                · obtain ⟨⟨-, sz3, tx3⟩, pl3⟩ := ac_RD_up2 (j := 2 + 4 * L + 2) (v := ac_fc (ac_ch s (p + 3))) D3
                  have R2 : ∀ j, ac_up m3 (x + 2) (2 + 4 * L + 2) (ac_fc (ac_ch s (p + 3))) (x + 2) j = if j = 2 + 4 * L + 2 then ac_fc (ac_ch s (p + 3)) else if j = 2 + 4 * L + 1 then ac_fc (ac_ch s (p + 2)) else if j = 2 + 4 * L then ac_fc (ac_ch s (p + 1)) else mm (x + 2) j := fun j => by
                    have e3 := congrFun (f3.1 (x + 2) (by omega)) j
                    have e2 := congrFun (f2.1 (x + 2) (by omega)) j
                    have e1 := congrFun (f1.1 (x + 2) (by omega)) j
                    have e0 := congrFun q2 j
                    show (if x + 2 = x + 2 ∧ j = 2 + 4 * L + 2 then _ else m3 (x + 2) j) = _
                    rw [e3]
                    show (if x + 2 = x + 2 ∧ j = 2 + 4 * L + 2 then _ else if x + 2 = x + 2 ∧ j = 2 + 4 * L + 1 then _ else m2 (x + 2) j) = _
                    rw [e2]
                    show (if x + 2 = x + 2 ∧ j = 2 + 4 * L + 2 then _ else if x + 2 = x + 2 ∧ j = 2 + 4 * L + 1 then _ else if x + 2 = x + 2 ∧ j = 2 + 4 * L then _ else m1 (x + 2) j) = _
                    rw [e1, e0]
                    simp
                  refine ac_aload_n (q := 70) dX7_readEquation_69 rfl rfl ?_
                  refine ac_get (q := 73) dX7_readEquation_70 fl_X7_79 kx rfl (ac_rdi (v := ((p + 4 : Nat) : Int)) rfl pl3) ?_
                  refine ac_aload_n (q := 74) dX7_readEquation_73 rfl rfl ?_
                  refine ac_get (q := 77) dX7_readEquation_74 fl_X7_76 kx rfl (ac_rdi rfl sz3) ?_
                  refine ac_icmp_ge (q := 80) (tgt := 92) dX7_readEquation_77 rfl rfl ⟨by omega, by omega⟩ ⟨by omega, by omega⟩ (fun h77 => ?_) (fun h77 => ?_)
                  · have h0 := ac_chN (s := s) (p := p + 4) (by omega)
                    refine ac_iconst (q := 93) dX7_readEquation_92 rfl ?_
                    refine ac_istore_n (q := 94) (j := 2) rfl dX7_readEquation_93 rfl (Nat.le_of_ble_eq_true rfl) rfl rfl ?_
                    simp only [List.set_cons_succ, List.set_cons_zero]
                    refine ac_iload_n (q := 95) dX7_readEquation_94 rfl rfl ?_
                    refine ac_bipush (q := 97) dX7_readEquation_95 rfl (by decide) ?_
                    refine ac_icmp_eq (q := 100) (tgt := 108) dX7_readEquation_97 rfl rfl ⟨by omega, by omega⟩ ⟨by omega, by omega⟩ (fun h97 => ?_) (fun h97 => ?_)
                    · exact absurd h97 (by decide)
                    · refine ac_iload_n (q := 101) dX7_readEquation_100 rfl rfl ?_
                      refine ac_bipush (q := 103) dX7_readEquation_101 rfl (by decide) ?_
                      refine ac_icmp_eq (q := 106) (tgt := 108) dX7_readEquation_103 rfl rfl ⟨by omega, by omega⟩ ⟨by omega, by omega⟩ (fun h103 => ?_) (fun h103 => ?_)
                      · exact absurd h103 (by decide)
                      · refine ac_iconst (q := 107) dX7_readEquation_106 rfl ?_
                        refine ac_zreturn dX7_readEquation_107 rfl (by first | exact ac_b01 | omega) (Nat.zero_le _) (Nat.zero_le _) ?_
                        have he : (ac_eqp s (p + 1)) = (p + 4, none) := by rw [heq, if_neg z0, if_neg z1, if_neg z2, if_neg (by omega), if_neg (by omega)]
                        rw [if_pos hlt, he]
                        exact ⟨ac_l0 (fun q => by cases q.2), rfl, ac_RD_up2 D3, (fun q h hq => by cases hq), ac_fQ_t F3 ac_fQ_up⟩
                  · refine ac_aload_n (q := 81) dX7_readEquation_80 rfl rfl ?_
                    refine ac_get (q := 84) dX7_readEquation_81 fl_X7_7 (by assumption) rfl (ac_rdr rfl hM9.1.1) ?_
                    refine ac_aload_n (q := 85) dX7_readEquation_84 rfl rfl ?_
                    refine ac_get (q := 88) dX7_readEquation_85 fl_X7_79 kx rfl (ac_rdi (v := ((p + 4 : Nat) : Int)) rfl pl3) ?_
                    refine ac_ialoadN (q := 89) (j := p + 4) (v := (ac_ch s (p + 4) : Int)) dX7_readEquation_88 k1 (by decide) (by omega) rfl (tx3 (p + 4) (by omega)) ?_
                    refine ac_goto (q := 93) dX7_readEquation_89 rfl ?_
                    refine ac_istore_n (q := 94) (j := 2) rfl dX7_readEquation_93 rfl (Nat.le_of_ble_eq_true rfl) rfl rfl ?_
                    simp only [List.set_cons_succ, List.set_cons_zero]
                    refine ac_iload_n (q := 95) dX7_readEquation_94 rfl rfl ?_
                    refine ac_bipush (q := 97) dX7_readEquation_95 rfl (by decide) ?_
                    refine ac_icmp_eq (q := 100) (tgt := 108) dX7_readEquation_97 rfl rfl ⟨by omega, by omega⟩ ⟨by omega, by omega⟩ (fun h97 => ?_) (fun h97 => ?_)
                    · refine ac_aload_n (q := 109) dX7_readEquation_108 rfl rfl ?_
                      refine ac_dup (q := 110) dX7_readEquation_109 rfl (show (2 : Nat) ≠ 1 by decide) ?_
                      refine ac_get (q := 113) dX7_readEquation_110 fl_X7_79 kx rfl (ac_rdi (v := ((p + 4 : Nat) : Int)) rfl pl3) ?_
                      refine ac_iconst (q := 114) dX7_readEquation_113 rfl ?_
                      refine ac_iadd (q := 115) dX7_readEquation_114 rfl ?_
                      refine ac_top (w' := (0, ((p + 5 : Nat) : Int))) (congrArg (fun z : Int => ((0 : Nat), z)) (by omega)) ?_
                      refine ac_put (q := 118) dX7_readEquation_115 fl_X7_79 (by assumption) rfl rfl ?_
                      refine ac_aload_n (q := 119) dX7_readEquation_118 rfl rfl ?_
                      refine ac_get (q := 122) dX7_readEquation_119 fl_X7_17 (by assumption) rfl (ac_rdr rfl hM9.1.2.1) ?_
                      refine ac_iload_n (q := 123) dX7_readEquation_122 rfl rfl ?_
                      refine ac_iconst (q := 124) dX7_readEquation_123 rfl ?_
                      refine ac_iadd (q := 125) dX7_readEquation_124 rfl ?_
                      refine ac_top (w' := (0, ((2 + 4 * L + 3 : Nat) : Int))) (congrArg (fun z : Int => ((0 : Nat), z)) (by omega)) ?_
                      refine ac_iload_n (q := 126) dX7_readEquation_125 rfl rfl ?_
                      refine ac_bipush (q := 128) dX7_readEquation_126 rfl (by decide) ?_
                      refine ac_icmp_ne (q := 131) (tgt := 135) dX7_readEquation_128 rfl rfl ⟨by omega, by omega⟩ ⟨by omega, by omega⟩ (fun h128 => ?_) (fun h128 => ?_)
                      · refine ac_iconst (q := 136) dX7_readEquation_135 rfl ?_
                        refine ac_iastoreN (q := 137) (j := 2 + 4 * L + 3) dX7_readEquation_136 k2 (by decide) (by omega) rfl ?_
                        refine ac_aload_n (q := 138) dX7_readEquation_137 rfl rfl ?_
                        refine ac_get (q := 141) dX7_readEquation_138 fl_X7_17 (by assumption) rfl (ac_rdr rfl hM9.1.2.1) ?_
                        refine ac_iconst (q := 142) dX7_readEquation_141 rfl ?_
                        refine ac_dup2_11 (q := 143) dX7_readEquation_142 rfl (show (0 : Nat) ≠ 1 by decide) (show (2 : Nat) ≠ 1 by decide) ?_
                        refine ac_ialoadN (q := 144) (j := 1) (v := (L : Int)) dX7_readEquation_143 k2 (by decide) (by decide) rfl (by rw [ac_up_j (by omega), ac_up_k (by omega), R2, if_neg (by omega), if_neg (by omega), if_neg (by omega)]; exact p1) ?_
                        refine ac_iconst (q := 145) dX7_readEquation_144 rfl ?_
                        refine ac_iadd (q := 146) dX7_readEquation_145 rfl ?_
                        refine ac_iastoreN (q := 147) (j := 1) dX7_readEquation_146 (by assumption) (by decide) (by decide) rfl ?_
                        refine ac_iconst (q := 148) dX7_readEquation_147 rfl ?_
                        refine ac_zreturn dX7_readEquation_148 rfl (by first | exact ac_b01 | omega) (Nat.zero_le _) (Nat.zero_le _) ?_
                        first
                          | (exfalso; omega)
                          | (have hc4 : ac_ch s (p + 4) = 33 := by omega
                             have he : (ac_eqp s (p + 1)) = (p + 5, some ((ac_fc (ac_ch s (p + 1))), (ac_fc (ac_ch s (p + 2))), (ac_fc (ac_ch s (p + 3))), 1)) := by rw [heq, if_neg z0, if_neg z1, if_neg z2, if_pos hc4]
                             rw [if_pos hlt, he]
                             refine ⟨ac_l1 ⟨hlt, rfl⟩, rfl, ac_RD_up2 (ac_RD_up2 (ac_RD_up (ac_RD_up2 D3))), fun q h hq => ?_, ac_fQ_t (ac_fQ_t (ac_fQ_t (ac_fQ_t F3 ac_fQ_up) (ac_fP_Q ac_fP_up)) ac_fQ_up) ac_fQ_up⟩
                             cases hq
                             refine ac_RP_add rP hlt ⟨⟨hi1, z0⟩, ⟨hi2, z1⟩, ⟨hi3, z2⟩, (show (1 : Int) = 0 ∨ (1 : Int) = 1 by decide)⟩ (fun j => ?_)
                             rw [← hL]
                             show (if x + 2 = x + 2 ∧ j = 1 then _ else if x + 2 = x + 2 ∧ j = 2 + 4 * L + 3 then _ else if x + 2 = x ∧ j = 3 then _ else ac_up m3 (x + 2) (2 + 4 * L + 2) (ac_fc (ac_ch s (p + 3))) (x + 2) j) = _
                             rw [R2 j]
                             have hxx : ¬ x + 2 = x := by omega
                             simp [hxx])
                          | (have hc4 : ac_ch s (p + 4) = 61 := by omega
                             have he : (ac_eqp s (p + 1)) = (p + 5, some ((ac_fc (ac_ch s (p + 1))), (ac_fc (ac_ch s (p + 2))), (ac_fc (ac_ch s (p + 3))), 0)) := by rw [heq, if_neg z0, if_neg z1, if_neg z2, if_neg (by omega), if_pos hc4]
                             rw [if_pos hlt, he]
                             refine ⟨ac_l1 ⟨hlt, rfl⟩, rfl, ac_RD_up2 (ac_RD_up2 (ac_RD_up (ac_RD_up2 D3))), fun q h hq => ?_, ac_fQ_t (ac_fQ_t (ac_fQ_t (ac_fQ_t F3 ac_fQ_up) (ac_fP_Q ac_fP_up)) ac_fQ_up) ac_fQ_up⟩
                             cases hq
                             refine ac_RP_add rP hlt ⟨⟨hi1, z0⟩, ⟨hi2, z1⟩, ⟨hi3, z2⟩, (show (0 : Int) = 0 ∨ (0 : Int) = 1 by decide)⟩ (fun j => ?_)
                             rw [← hL]
                             show (if x + 2 = x + 2 ∧ j = 1 then _ else if x + 2 = x + 2 ∧ j = 2 + 4 * L + 3 then _ else if x + 2 = x ∧ j = 3 then _ else ac_up m3 (x + 2) (2 + 4 * L + 2) (ac_fc (ac_ch s (p + 3))) (x + 2) j) = _
                             rw [R2 j]
                             have hxx : ¬ x + 2 = x := by omega
                             simp [hxx])
                      · refine ac_iconst (q := 132) dX7_readEquation_131 rfl ?_
                        refine ac_goto (q := 136) dX7_readEquation_132 rfl ?_
                        refine ac_iastoreN (q := 137) (j := 2 + 4 * L + 3) dX7_readEquation_136 k2 (by decide) (by omega) rfl ?_
                        refine ac_aload_n (q := 138) dX7_readEquation_137 rfl rfl ?_
                        refine ac_get (q := 141) dX7_readEquation_138 fl_X7_17 (by assumption) rfl (ac_rdr rfl hM9.1.2.1) ?_
                        refine ac_iconst (q := 142) dX7_readEquation_141 rfl ?_
                        refine ac_dup2_11 (q := 143) dX7_readEquation_142 rfl (show (0 : Nat) ≠ 1 by decide) (show (2 : Nat) ≠ 1 by decide) ?_
                        refine ac_ialoadN (q := 144) (j := 1) (v := (L : Int)) dX7_readEquation_143 k2 (by decide) (by decide) rfl (by rw [ac_up_j (by omega), ac_up_k (by omega), R2, if_neg (by omega), if_neg (by omega), if_neg (by omega)]; exact p1) ?_
                        refine ac_iconst (q := 145) dX7_readEquation_144 rfl ?_
                        refine ac_iadd (q := 146) dX7_readEquation_145 rfl ?_
                        refine ac_iastoreN (q := 147) (j := 1) dX7_readEquation_146 (by assumption) (by decide) (by decide) rfl ?_
                        refine ac_iconst (q := 148) dX7_readEquation_147 rfl ?_
                        refine ac_zreturn dX7_readEquation_148 rfl (by first | exact ac_b01 | omega) (Nat.zero_le _) (Nat.zero_le _) ?_
                        first
                          | (exfalso; omega)
                          | (have hc4 : ac_ch s (p + 4) = 33 := by omega
                             have he : (ac_eqp s (p + 1)) = (p + 5, some ((ac_fc (ac_ch s (p + 1))), (ac_fc (ac_ch s (p + 2))), (ac_fc (ac_ch s (p + 3))), 1)) := by rw [heq, if_neg z0, if_neg z1, if_neg z2, if_pos hc4]
                             rw [if_pos hlt, he]
                             refine ⟨ac_l1 ⟨hlt, rfl⟩, rfl, ac_RD_up2 (ac_RD_up2 (ac_RD_up (ac_RD_up2 D3))), fun q h hq => ?_, ac_fQ_t (ac_fQ_t (ac_fQ_t (ac_fQ_t F3 ac_fQ_up) (ac_fP_Q ac_fP_up)) ac_fQ_up) ac_fQ_up⟩
                             cases hq
                             refine ac_RP_add rP hlt ⟨⟨hi1, z0⟩, ⟨hi2, z1⟩, ⟨hi3, z2⟩, (show (1 : Int) = 0 ∨ (1 : Int) = 1 by decide)⟩ (fun j => ?_)
                             rw [← hL]
                             show (if x + 2 = x + 2 ∧ j = 1 then _ else if x + 2 = x + 2 ∧ j = 2 + 4 * L + 3 then _ else if x + 2 = x ∧ j = 3 then _ else ac_up m3 (x + 2) (2 + 4 * L + 2) (ac_fc (ac_ch s (p + 3))) (x + 2) j) = _
                             rw [R2 j]
                             have hxx : ¬ x + 2 = x := by omega
                             simp [hxx])
                          | (have hc4 : ac_ch s (p + 4) = 61 := by omega
                             have he : (ac_eqp s (p + 1)) = (p + 5, some ((ac_fc (ac_ch s (p + 1))), (ac_fc (ac_ch s (p + 2))), (ac_fc (ac_ch s (p + 3))), 0)) := by rw [heq, if_neg z0, if_neg z1, if_neg z2, if_neg (by omega), if_pos hc4]
                             rw [if_pos hlt, he]
                             refine ⟨ac_l1 ⟨hlt, rfl⟩, rfl, ac_RD_up2 (ac_RD_up2 (ac_RD_up (ac_RD_up2 D3))), fun q h hq => ?_, ac_fQ_t (ac_fQ_t (ac_fQ_t (ac_fQ_t F3 ac_fQ_up) (ac_fP_Q ac_fP_up)) ac_fQ_up) ac_fQ_up⟩
                             cases hq
                             refine ac_RP_add rP hlt ⟨⟨hi1, z0⟩, ⟨hi2, z1⟩, ⟨hi3, z2⟩, (show (0 : Int) = 0 ∨ (0 : Int) = 1 by decide)⟩ (fun j => ?_)
                             rw [← hL]
                             show (if x + 2 = x + 2 ∧ j = 1 then _ else if x + 2 = x + 2 ∧ j = 2 + 4 * L + 3 then _ else if x + 2 = x ∧ j = 3 then _ else ac_up m3 (x + 2) (2 + 4 * L + 2) (ac_fc (ac_ch s (p + 3))) (x + 2) j) = _
                             rw [R2 j]
                             have hxx : ¬ x + 2 = x := by omega
                             simp [hxx])
                    · refine ac_iload_n (q := 101) dX7_readEquation_100 rfl rfl ?_
                      refine ac_bipush (q := 103) dX7_readEquation_101 rfl (by decide) ?_
                      refine ac_icmp_eq (q := 106) (tgt := 108) dX7_readEquation_103 rfl rfl ⟨by omega, by omega⟩ ⟨by omega, by omega⟩ (fun h103 => ?_) (fun h103 => ?_)
                      · refine ac_aload_n (q := 109) dX7_readEquation_108 rfl rfl ?_
                        refine ac_dup (q := 110) dX7_readEquation_109 rfl (show (2 : Nat) ≠ 1 by decide) ?_
                        refine ac_get (q := 113) dX7_readEquation_110 fl_X7_79 kx rfl (ac_rdi (v := ((p + 4 : Nat) : Int)) rfl pl3) ?_
                        refine ac_iconst (q := 114) dX7_readEquation_113 rfl ?_
                        refine ac_iadd (q := 115) dX7_readEquation_114 rfl ?_
                        refine ac_top (w' := (0, ((p + 5 : Nat) : Int))) (congrArg (fun z : Int => ((0 : Nat), z)) (by omega)) ?_
                        refine ac_put (q := 118) dX7_readEquation_115 fl_X7_79 (by assumption) rfl rfl ?_
                        refine ac_aload_n (q := 119) dX7_readEquation_118 rfl rfl ?_
                        refine ac_get (q := 122) dX7_readEquation_119 fl_X7_17 (by assumption) rfl (ac_rdr rfl hM9.1.2.1) ?_
                        refine ac_iload_n (q := 123) dX7_readEquation_122 rfl rfl ?_
                        refine ac_iconst (q := 124) dX7_readEquation_123 rfl ?_
                        refine ac_iadd (q := 125) dX7_readEquation_124 rfl ?_
                        refine ac_top (w' := (0, ((2 + 4 * L + 3 : Nat) : Int))) (congrArg (fun z : Int => ((0 : Nat), z)) (by omega)) ?_
                        refine ac_iload_n (q := 126) dX7_readEquation_125 rfl rfl ?_
                        refine ac_bipush (q := 128) dX7_readEquation_126 rfl (by decide) ?_
                        refine ac_icmp_ne (q := 131) (tgt := 135) dX7_readEquation_128 rfl rfl ⟨by omega, by omega⟩ ⟨by omega, by omega⟩ (fun h128 => ?_) (fun h128 => ?_)
                        · refine ac_iconst (q := 136) dX7_readEquation_135 rfl ?_
                          refine ac_iastoreN (q := 137) (j := 2 + 4 * L + 3) dX7_readEquation_136 k2 (by decide) (by omega) rfl ?_
                          refine ac_aload_n (q := 138) dX7_readEquation_137 rfl rfl ?_
                          refine ac_get (q := 141) dX7_readEquation_138 fl_X7_17 (by assumption) rfl (ac_rdr rfl hM9.1.2.1) ?_
                          refine ac_iconst (q := 142) dX7_readEquation_141 rfl ?_
                          refine ac_dup2_11 (q := 143) dX7_readEquation_142 rfl (show (0 : Nat) ≠ 1 by decide) (show (2 : Nat) ≠ 1 by decide) ?_
                          refine ac_ialoadN (q := 144) (j := 1) (v := (L : Int)) dX7_readEquation_143 k2 (by decide) (by decide) rfl (by rw [ac_up_j (by omega), ac_up_k (by omega), R2, if_neg (by omega), if_neg (by omega), if_neg (by omega)]; exact p1) ?_
                          refine ac_iconst (q := 145) dX7_readEquation_144 rfl ?_
                          refine ac_iadd (q := 146) dX7_readEquation_145 rfl ?_
                          refine ac_iastoreN (q := 147) (j := 1) dX7_readEquation_146 (by assumption) (by decide) (by decide) rfl ?_
                          refine ac_iconst (q := 148) dX7_readEquation_147 rfl ?_
                          refine ac_zreturn dX7_readEquation_148 rfl (by first | exact ac_b01 | omega) (Nat.zero_le _) (Nat.zero_le _) ?_
                          first
                            | (exfalso; omega)
                            | (have hc4 : ac_ch s (p + 4) = 33 := by omega
                               have he : (ac_eqp s (p + 1)) = (p + 5, some ((ac_fc (ac_ch s (p + 1))), (ac_fc (ac_ch s (p + 2))), (ac_fc (ac_ch s (p + 3))), 1)) := by rw [heq, if_neg z0, if_neg z1, if_neg z2, if_pos hc4]
                               rw [if_pos hlt, he]
                               refine ⟨ac_l1 ⟨hlt, rfl⟩, rfl, ac_RD_up2 (ac_RD_up2 (ac_RD_up (ac_RD_up2 D3))), fun q h hq => ?_, ac_fQ_t (ac_fQ_t (ac_fQ_t (ac_fQ_t F3 ac_fQ_up) (ac_fP_Q ac_fP_up)) ac_fQ_up) ac_fQ_up⟩
                               cases hq
                               refine ac_RP_add rP hlt ⟨⟨hi1, z0⟩, ⟨hi2, z1⟩, ⟨hi3, z2⟩, (show (1 : Int) = 0 ∨ (1 : Int) = 1 by decide)⟩ (fun j => ?_)
                               rw [← hL]
                               show (if x + 2 = x + 2 ∧ j = 1 then _ else if x + 2 = x + 2 ∧ j = 2 + 4 * L + 3 then _ else if x + 2 = x ∧ j = 3 then _ else ac_up m3 (x + 2) (2 + 4 * L + 2) (ac_fc (ac_ch s (p + 3))) (x + 2) j) = _
                               rw [R2 j]
                               have hxx : ¬ x + 2 = x := by omega
                               simp [hxx])
                            | (have hc4 : ac_ch s (p + 4) = 61 := by omega
                               have he : (ac_eqp s (p + 1)) = (p + 5, some ((ac_fc (ac_ch s (p + 1))), (ac_fc (ac_ch s (p + 2))), (ac_fc (ac_ch s (p + 3))), 0)) := by rw [heq, if_neg z0, if_neg z1, if_neg z2, if_neg (by omega), if_pos hc4]
                               rw [if_pos hlt, he]
                               refine ⟨ac_l1 ⟨hlt, rfl⟩, rfl, ac_RD_up2 (ac_RD_up2 (ac_RD_up (ac_RD_up2 D3))), fun q h hq => ?_, ac_fQ_t (ac_fQ_t (ac_fQ_t (ac_fQ_t F3 ac_fQ_up) (ac_fP_Q ac_fP_up)) ac_fQ_up) ac_fQ_up⟩
                               cases hq
                               refine ac_RP_add rP hlt ⟨⟨hi1, z0⟩, ⟨hi2, z1⟩, ⟨hi3, z2⟩, (show (0 : Int) = 0 ∨ (0 : Int) = 1 by decide)⟩ (fun j => ?_)
                               rw [← hL]
                               show (if x + 2 = x + 2 ∧ j = 1 then _ else if x + 2 = x + 2 ∧ j = 2 + 4 * L + 3 then _ else if x + 2 = x ∧ j = 3 then _ else ac_up m3 (x + 2) (2 + 4 * L + 2) (ac_fc (ac_ch s (p + 3))) (x + 2) j) = _
                               rw [R2 j]
                               have hxx : ¬ x + 2 = x := by omega
                               simp [hxx])
                        · refine ac_iconst (q := 132) dX7_readEquation_131 rfl ?_
                          refine ac_goto (q := 136) dX7_readEquation_132 rfl ?_
                          refine ac_iastoreN (q := 137) (j := 2 + 4 * L + 3) dX7_readEquation_136 k2 (by decide) (by omega) rfl ?_
                          refine ac_aload_n (q := 138) dX7_readEquation_137 rfl rfl ?_
                          refine ac_get (q := 141) dX7_readEquation_138 fl_X7_17 (by assumption) rfl (ac_rdr rfl hM9.1.2.1) ?_
                          refine ac_iconst (q := 142) dX7_readEquation_141 rfl ?_
                          refine ac_dup2_11 (q := 143) dX7_readEquation_142 rfl (show (0 : Nat) ≠ 1 by decide) (show (2 : Nat) ≠ 1 by decide) ?_
                          refine ac_ialoadN (q := 144) (j := 1) (v := (L : Int)) dX7_readEquation_143 k2 (by decide) (by decide) rfl (by rw [ac_up_j (by omega), ac_up_k (by omega), R2, if_neg (by omega), if_neg (by omega), if_neg (by omega)]; exact p1) ?_
                          refine ac_iconst (q := 145) dX7_readEquation_144 rfl ?_
                          refine ac_iadd (q := 146) dX7_readEquation_145 rfl ?_
                          refine ac_iastoreN (q := 147) (j := 1) dX7_readEquation_146 (by assumption) (by decide) (by decide) rfl ?_
                          refine ac_iconst (q := 148) dX7_readEquation_147 rfl ?_
                          refine ac_zreturn dX7_readEquation_148 rfl (by first | exact ac_b01 | omega) (Nat.zero_le _) (Nat.zero_le _) ?_
                          first
                            | (exfalso; omega)
                            | (have hc4 : ac_ch s (p + 4) = 33 := by omega
                               have he : (ac_eqp s (p + 1)) = (p + 5, some ((ac_fc (ac_ch s (p + 1))), (ac_fc (ac_ch s (p + 2))), (ac_fc (ac_ch s (p + 3))), 1)) := by rw [heq, if_neg z0, if_neg z1, if_neg z2, if_pos hc4]
                               rw [if_pos hlt, he]
                               refine ⟨ac_l1 ⟨hlt, rfl⟩, rfl, ac_RD_up2 (ac_RD_up2 (ac_RD_up (ac_RD_up2 D3))), fun q h hq => ?_, ac_fQ_t (ac_fQ_t (ac_fQ_t (ac_fQ_t F3 ac_fQ_up) (ac_fP_Q ac_fP_up)) ac_fQ_up) ac_fQ_up⟩
                               cases hq
                               refine ac_RP_add rP hlt ⟨⟨hi1, z0⟩, ⟨hi2, z1⟩, ⟨hi3, z2⟩, (show (1 : Int) = 0 ∨ (1 : Int) = 1 by decide)⟩ (fun j => ?_)
                               rw [← hL]
                               show (if x + 2 = x + 2 ∧ j = 1 then _ else if x + 2 = x + 2 ∧ j = 2 + 4 * L + 3 then _ else if x + 2 = x ∧ j = 3 then _ else ac_up m3 (x + 2) (2 + 4 * L + 2) (ac_fc (ac_ch s (p + 3))) (x + 2) j) = _
                               rw [R2 j]
                               have hxx : ¬ x + 2 = x := by omega
                               simp [hxx])
                            | (have hc4 : ac_ch s (p + 4) = 61 := by omega
                               have he : (ac_eqp s (p + 1)) = (p + 5, some ((ac_fc (ac_ch s (p + 1))), (ac_fc (ac_ch s (p + 2))), (ac_fc (ac_ch s (p + 3))), 0)) := by rw [heq, if_neg z0, if_neg z1, if_neg z2, if_neg (by omega), if_pos hc4]
                               rw [if_pos hlt, he]
                               refine ⟨ac_l1 ⟨hlt, rfl⟩, rfl, ac_RD_up2 (ac_RD_up2 (ac_RD_up (ac_RD_up2 D3))), fun q h hq => ?_, ac_fQ_t (ac_fQ_t (ac_fQ_t (ac_fQ_t F3 ac_fQ_up) (ac_fP_Q ac_fP_up)) ac_fQ_up) ac_fQ_up⟩
                               cases hq
                               refine ac_RP_add rP hlt ⟨⟨hi1, z0⟩, ⟨hi2, z1⟩, ⟨hi3, z2⟩, (show (0 : Int) = 0 ∨ (0 : Int) = 1 by decide)⟩ (fun j => ?_)
                               rw [← hL]
                               show (if x + 2 = x + 2 ∧ j = 1 then _ else if x + 2 = x + 2 ∧ j = 2 + 4 * L + 3 then _ else if x + 2 = x ∧ j = 3 then _ else ac_up m3 (x + 2) (2 + 4 * L + 2) (ac_fc (ac_ch s (p + 3))) (x + 2) j) = _
                               rw [R2 j]
                               have hxx : ¬ x + 2 = x := by omega
                               simp [hxx])
                      · refine ac_iconst (q := 107) dX7_readEquation_106 rfl ?_
                        refine ac_zreturn dX7_readEquation_107 rfl (by first | exact ac_b01 | omega) (Nat.zero_le _) (Nat.zero_le _) ?_
                        have he : (ac_eqp s (p + 1)) = (p + 4, none) := by rw [heq, if_neg z0, if_neg z1, if_neg z2, if_neg (by omega), if_neg (by omega)]
                        rw [if_pos hlt, he]
                        exact ⟨ac_l0 (fun q => by cases q.2), rfl, ac_RD_up2 D3, (fun q h hq => by cases hq), ac_fQ_t F3 ac_fQ_up⟩
                · exact absurd h37 (by decide)
              · have z2 : (ac_fc (ac_ch s (p + 3))) = 0 := Decidable.byContradiction fun q => by rw [if_neg q] at h49; omega
                rw [if_pos z2] at D3
                refine ac_iconst (q := 53) dX7_readEquation_52 rfl ?_
                refine ac_zreturn dX7_readEquation_53 rfl (by first | exact ac_b01 | omega) (Nat.zero_le _) (Nat.zero_le _) ?_
                have he : (ac_eqp s (p + 1)) = (p + 3, none) := by rw [heq, if_neg z0, if_neg z1, if_pos z2]
                rw [if_pos hlt, he]
                exact ⟨ac_l0 (fun q => by cases q.2), rfl, D3, (fun q h hq => by cases hq), F3⟩
          · have z1 : (ac_fc (ac_ch s (p + 2))) = 0 := Decidable.byContradiction fun q => by rw [if_neg q] at h49; omega
            rw [if_pos z1] at D2
            refine ac_iconst (q := 53) dX7_readEquation_52 rfl ?_
            refine ac_zreturn dX7_readEquation_53 rfl (by first | exact ac_b01 | omega) (Nat.zero_le _) (Nat.zero_le _) ?_
            have he : (ac_eqp s (p + 1)) = (p + 2, none) := by rw [heq, if_neg z0, if_pos z1]
            rw [if_pos hlt, he]
            exact ⟨ac_l0 (fun q => by cases q.2), rfl, D2, (fun q h hq => by cases hq), F2⟩
      · have z0 : (ac_fc (ac_ch s (p + 1))) = 0 := Decidable.byContradiction fun q => by rw [if_neg q] at h49; omega
        rw [if_pos z0] at D1
        refine ac_iconst (q := 53) dX7_readEquation_52 rfl ?_
        refine ac_zreturn dX7_readEquation_53 rfl (by first | exact ac_b01 | omega) (Nat.zero_le _) (Nat.zero_le _) ?_
        have he : (ac_eqp s (p + 1)) = (p + 1, none) := by rw [heq, if_pos z0]
        rw [if_pos hlt, he]
        exact ⟨ac_l0 (fun q => by cases q.2), rfl, D1, (fun q h hq => by cases hq), F1⟩
  · refine ac_iconst (q := 11) dX7_readEquation_10 rfl ?_
    refine ac_zreturn dX7_readEquation_11 rfl (by first | exact ac_b01 | omega) (Nat.zero_le _) (Nat.zero_le _) ?_
    have hno : ¬ T.2.2.1.length < 4 := by omega
    rw [if_neg hno]
    exact ⟨ac_l0 (fun q => hno q.1), rfl, hD, fun q h => absurd h hno, ac_fQ_r mm x⟩
