set_option maxHeartbeats 8000000 in
theorem k_X5_extend {G : ac_G} {Y : ac_Y} {w : Nat} {n k : Nat} {E : List ac_Eq} {pin : Nat → Int} {col : Option (List Nat)} {obs : List ac_Ob} {wanted : Int} (hW : ac_isW Y w) (hwt : ac_in wanted) : ∀ (f d : Nat) (mm : ac_M) (l : List Nat) (done : List (List Nat)) (P : Nat → Nat) (dead deep : Nat), f + 3 ≤ d → ac_W0 mm w n k E pin col obs → ac_cl mm (w + 14) l → l.length + f = n → (∀ c ∈ l, c < k) → ac_RW mm w col obs wanted done P dead deep → done.length + 3 ^ f ≤ 60000 → deep ≤ 10  → ac_C G yX5_extend cX5_extend 5 none d 0 0 Y mm [(2, (w : Int)), (0, ((l.length + 1 : Nat) : Int))] (ac_R Y [] (fun m => ac_RW m w col obs wanted (done ++ ac_ext (ac_may k E pin) f l) (ac_PL P l (ac_ext (ac_may k E pin) f l)) (dead + ac_dead (ac_may k E pin) f l) (max deep (ac_deep (ac_may k E pin) f l)) ∧ ac_cl m (w + 14) l ∧ ac_fw mm m w)) := by
  intro f
  induction f with
  | zero =>
    intro d mm l done P dead deep hd h0 hcl hl hlk hR hB hdp
    have hW9 := hW
    obtain ⟨⟨kw, rw0, rw1, rw2, rw3, rw4, rw5, rw6⟩, ⟨k14, k15, k16, k17⟩, hS, hC, hT⟩ := hW
    have kt0 := hT.1
    have kc0 := hC.1
    have ks0 := hS.1
    have h09 := h0
    obtain ⟨hRT, hRC, hRS⟩ := h0
    obtain ⟨⟨⟨hn1, hn2⟩, ⟨hkk1, hkk2⟩, hE, hp0, hpr, hc0⟩, t3, t4, t5, t6, tE, tp, tcb, tc⟩ := id hRT
    refine ac_met (on := (RX5, "extend")) rfl rfl (Nat.le_of_ble_eq_true rfl) (ls := [(2, (w : Int)), (0, ((l.length + 1 : Nat) : Int)), (3, 0), (3, 0), (3, 0)]) rfl ?_
    refine ac_aload_n (q := 1) dX5_extend_0 rfl rfl ?_
    refine ac_aload_n (q := 2) dX5_extend_1 rfl rfl ?_
    refine ac_get (q := 5) dX5_extend_2 fl_X5_74 kw rfl (ac_rdi rfl hR.1.2.2.2.2.1) ?_
    refine ac_iload_n (q := 6) dX5_extend_5 rfl rfl ?_
    refine ac_iconst (q := 7) dX5_extend_6 rfl ?_
    refine ac_isub (q := 8) dX5_extend_7 rfl ?_
    refine ac_max (v := ((max deep l.length : Nat) : Int)) (q := 11) dX5_extend_8 ml_X5_87 mt_max_s mt_i mt_max_c ⟨by omega, by omega⟩ ⟨by omega, by omega⟩ (by omega) rfl (by omega) (Nat.le_of_ble_eq_true rfl) (Nat.zero_le _) (Nat.zero_le _) ?_
    refine ac_put (q := 14) dX5_extend_11 fl_X5_74 (by assumption) rfl rfl ?_
    have f1 : ∀ k', k' ≠ w → ac_up mm w 11 ((max deep l.length : Nat) : Int) k' = mm k' := fun k' hk' => by funext j; exact ac_up_k hk'
    have h1 : ac_W0 (ac_up mm w 11 ((max deep l.length : Nat) : Int)) w n k E pin col obs := ac_W0_keep h09 (fun k' a1 a2 => f1 k' (by omega))
    have hcl1 := ac_cl_keep hcl (f1 (w + 14) (by omega))
    have R1 : ac_RW (ac_up mm w 11 ((max deep l.length : Nat) : Int)) w col obs wanted done P dead (max deep l.length) := by
      obtain ⟨⟨q7, q8, q9, q10, q11, q12, q13⟩, hch, hP⟩ := hR
      refine ⟨⟨by rw [ac_up_j (by decide)]; exact q7, by rw [ac_up_j (by decide)]; exact q8, by rw [ac_up_j (by decide)]; exact q9, by rw [ac_up_j (by decide)]; exact q10, ac_up_s, by rw [ac_up_j (by decide)]; exact q12, by rw [ac_up_j (by decide)]; exact q13⟩, fun x l0 a1 a2 => ac_cl_keep (hch x l0 a1 a2) (f1 _ (by omega)), fun x a1 a2 => by rw [f1 _ (by omega)]; exact hP x a1 a2⟩
    generalize ac_up mm w 11 ((max deep l.length : Nat) : Int) = m1 at *
    refine ac_aload_n (q := 15) dX5_extend_14 rfl rfl ?_
    refine ac_get (q := 18) dX5_extend_15 fl_X5_28 (by assumption) rfl (ac_rdr rfl (by assumption)) ?_
    refine ac_iload_n (q := 19) dX5_extend_18 rfl rfl ?_
    refine ac_cvp (q := 22) (k_X3_has (t := w + 10) (d := d - 1) (by omega) hT h1.1 ⟨by omega, by omega⟩) ml_X5_93 (by assumption) dX5_extend_19 rfl rfl rfl (by omega) (Nat.le_of_ble_eq_true rfl) (Nat.zero_le _) (Nat.zero_le _) ?_
    refine ac_bif_ne (q := 25) (tgt := 30) dX5_extend_22 rfl rfl (fun h22 => ?_) (fun h22 => ?_)
    · exfalso; omega
    · refine ac_aload_n (q := 26) dX5_extend_25 rfl rfl ?_
      refine ac_cv (q := 29) (k_X5_arrive (d := d - 1) (by omega) hW9 h1 hcl1 (by omega) hlk R1 (by omega) hwt) ml_X5_97 (by assumption) dX5_extend_26 rfl rfl rfl (by omega) (Nat.le_of_ble_eq_true rfl) (Nat.zero_le _) (Nat.zero_le _) (fun m2 h2 => ?_)
      refine ac_return dX5_extend_29 rfl (Nat.zero_le _) (Nat.zero_le _) ?_
      obtain ⟨g1, g2, g3⟩ := h2
      refine ⟨rfl, rfl, ac_RW_P g1 (fun x a1 a2 => by show ac_PL P l [l] x = _; rw [ac_PL_1]), g2, fun k' a1 a2 => ?_⟩
      rw [g3 k' a1 (by omega), f1 k' a1]
  | succ f ih =>
    intro d mm l done P dead deep hd h0 hcl hl hlk hR hB hdp
    have hW9 := hW
    obtain ⟨⟨kw, rw0, rw1, rw2, rw3, rw4, rw5, rw6⟩, ⟨k14, k15, k16, k17⟩, hS, hC, hT⟩ := hW
    have kt0 := hT.1
    have kc0 := hC.1
    have ks0 := hS.1
    have h09 := h0
    obtain ⟨hRT, hRC, hRS⟩ := h0
    obtain ⟨⟨⟨hn1, hn2⟩, ⟨hkk1, hkk2⟩, hE, hp0, hpr, hc0⟩, t3, t4, t5, t6, tE, tp, tcb, tc⟩ := id hRT
    have h3f : 3 ^ (f + 1) = 3 * 3 ^ f := by rw [Nat.pow_succ, Nat.mul_comm]
    rw [ac_ext_s, ac_dead_s, ac_deep_s]
    have loop : ∀ (r c : Nat) (m : ac_M), c + r = 3 → ac_RW m w col obs wanted (done ++ ac_gl (ac_may k E pin) f l c) (ac_PL P l (ac_gl (ac_may k E pin) f l c)) (dead + ac_gd (ac_may k E pin) f l c) (max deep (ac_ge (ac_may k E pin) f l c)) → ac_cl m (w + 14) l → ac_fw mm m w → ac_V G (RX5, "extend") cX5_extend 5 none d 0 0 (ac_R Y [] (fun m => ac_RW m w col obs wanted (done ++ ac_gl (ac_may k E pin) f l 3) (ac_PL P l (ac_gl (ac_may k E pin) f l 3)) (dead + (ac_gd (ac_may k E pin) f l 3 + if ac_ga (ac_may k E pin) l 3 = true then 0 else 1)) (max deep (ac_ge (ac_may k E pin) f l 3)) ∧ ac_cl m (w + 14) l ∧ ac_fw mm m w)) 0 0 Y m 34 [(2, (w : Int)), (0, ((l.length + 1 : Nat) : Int)), (0, (if ac_ga (ac_may k E pin) l c = true then (0 : Int) else 1)), (0, (c : Int)), (3, 0)] [] := by
      intro r
      induction r with
      | zero =>
        intro c m hc hRc hclc hfw
        obtain rfl : c = 3 := by omega
        by_cases hga : ac_ga (ac_may k E pin) l 3 = true
        · simp only [if_pos hga]
          refine ac_iload_n (q := 35) dX5_extend_34 rfl rfl ?_
          refine ac_iconst (q := 36) dX5_extend_35 rfl ?_
          refine ac_icmp_ge (q := 39) (tgt := 95) dX5_extend_36 rfl rfl ⟨by omega, by omega⟩ ⟨by omega, by omega⟩ (fun h36 => ?_) (fun h36 => ?_)
          · refine ac_iload_n (q := 96) dX5_extend_95 rfl rfl ?_
            refine ac_if_eq (q := 99) (tgt := 109) dX5_extend_96 rfl rfl ⟨by omega, by omega⟩ (fun h96 => ?_) (fun h96 => ?_)
            · refine ac_return dX5_extend_109 rfl (Nat.zero_le _) (Nat.zero_le _) ?_
              refine ⟨rfl, rfl, ?_, hclc, hfw⟩
              rw [Nat.add_zero]; exact hRc
            · exact absurd rfl h96
          · exfalso; omega
        · simp only [if_neg hga]
          refine ac_iload_n (q := 35) dX5_extend_34 rfl rfl ?_
          refine ac_iconst (q := 36) dX5_extend_35 rfl ?_
          refine ac_icmp_ge (q := 39) (tgt := 95) dX5_extend_36 rfl rfl ⟨by omega, by omega⟩ ⟨by omega, by omega⟩ (fun h36 => ?_) (fun h36 => ?_)
          · refine ac_iload_n (q := 96) dX5_extend_95 rfl rfl ?_
            refine ac_if_eq (q := 99) (tgt := 109) dX5_extend_96 rfl rfl ⟨by omega, by omega⟩ (fun h96 => ?_) (fun h96 => ?_)
            · exact absurd h96 (by decide)
            · refine ac_aload_n (q := 100) dX5_extend_99 rfl rfl ?_
              refine ac_dup (q := 101) dX5_extend_100 rfl (show (2 : Nat) ≠ 1 by decide) ?_
              refine ac_get (q := 104) dX5_extend_101 fl_X5_71 kw rfl (ac_rdi rfl hRc.1.2.2.2.1) ?_
              refine ac_iconst (q := 105) dX5_extend_104 rfl ?_
              refine ac_iadd (q := 106) dX5_extend_105 rfl ?_
              refine ac_put (q := 109) dX5_extend_106 fl_X5_71 (by assumption) rfl rfl ?_
              refine ac_return dX5_extend_109 rfl (Nat.zero_le _) (Nat.zero_le _) ?_
              obtain ⟨⟨q7, q8, q9, q10, q11, q12, q13⟩, hch, hP⟩ := hRc
              refine ⟨rfl, rfl, ⟨⟨by rw [ac_up_j (by decide)]; exact q7, by rw [ac_up_j (by decide)]; exact q8, by rw [ac_up_j (by decide)]; exact q9, by rw [ac_up_s]; omega, by rw [ac_up_j (by decide)]; exact q11, by rw [ac_up_j (by decide)]; exact q12, by rw [ac_up_j (by decide)]; exact q13⟩, fun x l0 a1 a2 => ac_cl_keep (hch x l0 a1 a2) (by funext j; exact ac_up_k (by omega)), fun x a1 a2 => by rw [ac_up_k (by omega)]; exact hP x a1 a2⟩, ac_cl_keep hclc (by funext j; exact ac_up_k (by omega)), fun k' a1 a2 => ?_⟩
              rw [← hfw k' a1 a2]; funext j; exact ac_up_k a1
          · exfalso; omega
      | succ r ihr =>
        intro c m hc hRc hclc hfw
        have hWc := ac_W0_fw h09 hfw
        have ec : ((c : Nat) : Int) + 1 = ((c + 1 : Nat) : Int) := rfl
        have hgl := ac_gl_len (ac_may k E pin) f l c
        have hge := ac_ge_le (ac_may k E pin) f l c
        have hlc : c * 3 ^ f ≤ 2 * 3 ^ f := Nat.mul_le_mul_right _ (by omega)
        refine ac_iload_n (q := 35) dX5_extend_34 rfl rfl ?_
        refine ac_iconst (q := 36) dX5_extend_35 rfl ?_
        refine ac_icmp_ge (q := 39) (tgt := 95) dX5_extend_36 rfl rfl ⟨by omega, by omega⟩ ⟨by omega, by omega⟩ (fun h36 => ?_) (fun h36 => ?_)
        · exfalso; omega
        · refine ac_aload_n (q := 40) dX5_extend_39 rfl rfl ?_
          refine ac_iload_n (q := 41) dX5_extend_40 rfl rfl ?_
          refine ac_iload_n (q := 42) dX5_extend_41 rfl rfl ?_
          refine ac_cv (q := 45) (k_X5_put (d := d - 1) (by omega) hW9 hWc hclc rfl (by omega) (by omega)) ml_X5_100 (by assumption) dX5_extend_42 rfl rfl rfl (by omega) (Nat.le_of_ble_eq_true rfl) (Nat.zero_le _) (Nat.zero_le _) (fun m1 h1 => ?_)
          obtain ⟨cl1, f1⟩ := h1
          refine ac_bif_eq (q := 48) (tgt := 89) dX5_extend_45 rfl rfl (fun h45 => ?_) (fun h45 => ?_)
          · rw [if_neg h45] at cl1
            have R1 := ac_RW_keep hRc (f1 w (by omega)) (f1 _ (by omega)) (f1 _ (by omega))
            refine ac_iinc (q := 92) dX5_extend_89 rfl (Nat.le_of_ble_eq_true rfl) rfl rfl rfl rfl ?_
            simp only [List.set_cons_succ, List.set_cons_zero]
            refine ac_goto (q := 34) dX5_extend_92 rfl ?_
            have hs := ihr (c + 1) m1 (by omega) (by rw [ac_gl_n h45, ac_gd_n h45, ac_ge_n h45]; exact R1) cl1 (ac_fw_t hfw (fun k' a1 a2 => f1 k' (by omega)))
            rw [ac_ga_n h45] at hs
            exact ac_ls (by rw [ec]) hs
          · rw [if_pos h45] at cl1
            have R1 := ac_RW_keep hRc (f1 w (by omega)) (f1 _ (by omega)) (f1 _ (by omega))
            have fw1 : ac_fw m m1 w := fun k' a1 a2 => f1 k' (by omega)
            have hlen1 : (l ++ [c]).length = l.length + 1 := by rw [List.length_append]; rfl
            have hel := ac_ext_len (ac_may k E pin) f (l ++ [c])
            have hfo : (done ++ ac_gl (ac_may k E pin) f l c).length ≤ done.length + 2 * 3 ^ f := by rw [List.length_append]; omega
            refine ac_aload_n (q := 49) dX5_extend_48 rfl rfl ?_
            refine ac_get (q := 52) dX5_extend_49 fl_X5_65 kw rfl (ac_rdi rfl R1.1.2.1) ?_
            refine ac_istore (q := 54) dX5_extend_52 rfl (Nat.le_of_ble_eq_true rfl) rfl rfl ?_
            simp only [List.set_cons_succ, List.set_cons_zero]
            refine ac_aload_n (q := 55) dX5_extend_54 rfl rfl ?_
            refine ac_iload_n (q := 56) dX5_extend_55 rfl rfl ?_
            refine ac_iconst (q := 57) dX5_extend_56 rfl ?_
            refine ac_iadd (q := 58) dX5_extend_57 rfl ?_
            refine ac_top (w' := (0, (((l ++ [c]).length + 1 : Nat) : Int))) (by rw [hlen1]; rfl) ?_
            refine ac_cs (q := 61) (ih (d - 1) m1 (l ++ [c]) _ _ _ _ (by omega) (ac_W0_fw hWc fw1) cl1 (by omega) (ac_may_pre h45 hlk) R1 (by omega) (by omega)) ml_X5_83 dX5_extend_58 rfl rfl rfl (by omega) (Nat.le_of_ble_eq_true rfl) (Nat.zero_le _) (Nat.zero_le _) (fun m2 h2 => ?_)
            obtain ⟨R2, cl2, fw2⟩ := h2
            refine ac_aload_n (q := 62) dX5_extend_61 rfl rfl ?_
            refine ac_iload_n (q := 63) dX5_extend_62 rfl rfl ?_
            refine ac_iload_n (q := 64) dX5_extend_63 rfl rfl ?_
            refine ac_cv (q := 67) (k_X5_lift (d := d - 1) (by omega) hW9 cl2 rfl (by omega) (by omega)) ml_X5_104 (by assumption) dX5_extend_64 rfl rfl rfl (by omega) (Nat.le_of_ble_eq_true rfl) (Nat.zero_le _) (Nat.zero_le _) (fun m3 h3 => ?_)
            obtain ⟨cl3, f3⟩ := h3
            have R3 := ac_RW_keep R2 (f3 w (by omega)) (f3 _ (by omega)) (f3 _ (by omega))
            have fw3 : ac_fw mm m3 w := ac_fw_t (ac_fw_t hfw fw1) (ac_fw_t fw2 (fun k' a1 a2 => f3 k' (by omega)))
            rw [ac_gl_y h45, ac_gd_y h45, ac_ge_y h45] at R3
            have hP3 := R3.2.2 (l.length + 1) (by omega) (by omega)
            have hfo2 : (done ++ ac_gl (ac_may k E pin) f l (c + 1)).length = (done ++ ac_gl (ac_may k E pin) f l c).length + (ac_ext (ac_may k E pin) f (l ++ [c])).length := by rw [← ac_gl_y h45, List.length_append]
            refine ac_aload_n (q := 68) dX5_extend_67 rfl rfl ?_
            refine ac_iload_n (q := 69) dX5_extend_68 rfl rfl ?_
            refine ac_iload_n (q := 70) dX5_extend_69 rfl rfl ?_
            refine ac_aload_n (q := 71) dX5_extend_70 rfl rfl ?_
            refine ac_get (q := 74) dX5_extend_71 fl_X5_65 kw rfl (ac_rdi rfl R3.1.2.1) ?_
            refine ac_iload (q := 76) dX5_extend_74 rfl rfl ?_
            refine ac_icmp_le (q := 79) (tgt := 83) dX5_extend_76 rfl rfl ⟨by omega, by omega⟩ ⟨by omega, by omega⟩ (fun h76 => ?_) (fun h76 => ?_)
            · refine ac_iconst (q := 84) dX5_extend_83 rfl ?_
              refine ac_cv (q := 87) (k_X5_allow0 (d := d - 1) (by omega) hW9 hP3 ⟨by omega, by omega⟩ (by omega)) ml_X5_108 (by assumption) dX5_extend_84 rfl rfl rfl (by omega) (Nat.le_of_ble_eq_true rfl) (Nat.zero_le _) (Nat.zero_le _) (fun m4 h4 => ?_)
              subst h4
              have hne : ac_ext (ac_may k E pin) f (l ++ [c]) = [] := List.eq_nil_of_length_eq_zero (by omega)
              refine ac_iconst (q := 88) dX5_extend_87 rfl ?_
              refine ac_istore_n (q := 89) (j := 2) rfl dX5_extend_88 rfl (Nat.le_of_ble_eq_true rfl) rfl rfl ?_
              simp only [List.set_cons_succ, List.set_cons_zero]
              refine ac_iinc (q := 92) dX5_extend_89 rfl (Nat.le_of_ble_eq_true rfl) rfl rfl rfl rfl ?_
              simp only [List.set_cons_succ, List.set_cons_zero]
              refine ac_goto (q := 34) dX5_extend_92 rfl ?_
              have hga1 : ac_ga (ac_may k E pin) l (c + 1) = true := ac_ga_y h45
              have hs := ihr (c + 1) _ (by omega) (ac_RW_P R3 (fun x a1 a2 => by rw [ac_PL_s h45, if_pos hne, Nat.or_zero]; split <;> rfl)) (cl3) (fw3)
              rw [if_pos hga1] at hs
              refine ac_drop [(2, (w : Int)), (0, ((l.length + 1 : Nat) : Int)), (0, 0), (0, (c : Int) + 1), (3, 0)] (by repeat (first | exact trivial | refine ⟨Or.inl rfl, ?_⟩ | refine ⟨Or.inr rfl, ?_⟩)) ?_
              exact ac_ls (by rw [ec]) hs
            · refine ac_iconst (q := 80) dX5_extend_79 rfl ?_
              refine ac_goto (q := 84) dX5_extend_80 rfl ?_
              refine ac_cv (q := 87) (k_X5_allow1 (d := d - 1) (by omega) hW9 hP3 ⟨by omega, by omega⟩ (by omega)) ml_X5_108 (by assumption) dX5_extend_84 rfl rfl rfl (by omega) (Nat.le_of_ble_eq_true rfl) (Nat.zero_le _) (Nat.zero_le _) (fun m4 h4 => ?_)
              subst h4
              have hne : ¬ ac_ext (ac_may k E pin) f (l ++ [c]) = [] := fun hz => by rw [hz, List.length_nil] at hfo2; omega
              refine ac_iconst (q := 88) dX5_extend_87 rfl ?_
              refine ac_istore_n (q := 89) (j := 2) rfl dX5_extend_88 rfl (Nat.le_of_ble_eq_true rfl) rfl rfl ?_
              simp only [List.set_cons_succ, List.set_cons_zero]
              refine ac_iinc (q := 92) dX5_extend_89 rfl (Nat.le_of_ble_eq_true rfl) rfl rfl rfl rfl ?_
              simp only [List.set_cons_succ, List.set_cons_zero]
              refine ac_goto (q := 34) dX5_extend_92 rfl ?_
              have hf4 := R3.1
              rw [← show ac_up m3 (w + 16) (l.length + 1) ((ac_PL (ac_PL P l (ac_gl (ac_may k E pin) f l c)) (l ++ [c]) (ac_ext (ac_may k E pin) f (l ++ [c])) (l.length + 1) ||| 2 ^ c : Nat) : Int) w = m3 w from by funext j; exact ac_up_k (by omega)] at hf4
              have hga1 : ac_ga (ac_may k E pin) l (c + 1) = true := ac_ga_y h45
              have hs := ihr (c + 1) _ (by omega) (⟨hf4, fun x l0 a1 a2 => ac_cl_keep (R3.2.1 x l0 a1 a2) (by funext j; exact ac_up_k (by omega)), fun x a1 a2 => by rw [ac_PL_s h45, if_neg hne]; by_cases hx : x = l.length + 1; (subst hx; rw [if_pos rfl, ac_up_s]); (rw [if_neg hx, ac_up_j hx]; exact R3.2.2 x a1 a2)⟩) (ac_cl_keep cl3 (by funext j; exact ac_up_k (by omega))) (fun k' a1 a2 => by rw [← fw3 k' a1 a2]; funext j; exact ac_up_k (by omega))
              rw [if_pos hga1] at hs
              refine ac_drop [(2, (w : Int)), (0, ((l.length + 1 : Nat) : Int)), (0, 0), (0, (c : Int) + 1), (3, 0)] (by repeat (first | exact trivial | refine ⟨Or.inl rfl, ?_⟩ | refine ⟨Or.inr rfl, ?_⟩)) ?_
              exact ac_ls (by rw [ec]) hs
    refine ac_met (on := (RX5, "extend")) rfl rfl (Nat.le_of_ble_eq_true rfl) (ls := [(2, (w : Int)), (0, ((l.length + 1 : Nat) : Int)), (3, 0), (3, 0), (3, 0)]) rfl ?_
    refine ac_aload_n (q := 1) dX5_extend_0 rfl rfl ?_
    refine ac_aload_n (q := 2) dX5_extend_1 rfl rfl ?_
    refine ac_get (q := 5) dX5_extend_2 fl_X5_74 kw rfl (ac_rdi rfl hR.1.2.2.2.2.1) ?_
    refine ac_iload_n (q := 6) dX5_extend_5 rfl rfl ?_
    refine ac_iconst (q := 7) dX5_extend_6 rfl ?_
    refine ac_isub (q := 8) dX5_extend_7 rfl ?_
    refine ac_max (v := ((max deep l.length : Nat) : Int)) (q := 11) dX5_extend_8 ml_X5_87 mt_max_s mt_i mt_max_c ⟨by omega, by omega⟩ ⟨by omega, by omega⟩ (by omega) rfl (by omega) (Nat.le_of_ble_eq_true rfl) (Nat.zero_le _) (Nat.zero_le _) ?_
    refine ac_put (q := 14) dX5_extend_11 fl_X5_74 (by assumption) rfl rfl ?_
    have f1 : ∀ k', k' ≠ w → ac_up mm w 11 ((max deep l.length : Nat) : Int) k' = mm k' := fun k' hk' => by funext j; exact ac_up_k hk'
    have h1 : ac_W0 (ac_up mm w 11 ((max deep l.length : Nat) : Int)) w n k E pin col obs := ac_W0_keep h09 (fun k' a1 a2 => f1 k' (by omega))
    have hcl1 := ac_cl_keep hcl (f1 (w + 14) (by omega))
    have R1 : ac_RW (ac_up mm w 11 ((max deep l.length : Nat) : Int)) w col obs wanted done P dead (max deep l.length) := by
      obtain ⟨⟨q7, q8, q9, q10, q11, q12, q13⟩, hch, hP⟩ := hR
      refine ⟨⟨by rw [ac_up_j (by decide)]; exact q7, by rw [ac_up_j (by decide)]; exact q8, by rw [ac_up_j (by decide)]; exact q9, by rw [ac_up_j (by decide)]; exact q10, ac_up_s, by rw [ac_up_j (by decide)]; exact q12, by rw [ac_up_j (by decide)]; exact q13⟩, fun x l0 a1 a2 => ac_cl_keep (hch x l0 a1 a2) (f1 _ (by omega)), fun x a1 a2 => by rw [f1 _ (by omega)]; exact hP x a1 a2⟩
    generalize ac_up mm w 11 ((max deep l.length : Nat) : Int) = m1 at *
    refine ac_aload_n (q := 15) dX5_extend_14 rfl rfl ?_
    refine ac_get (q := 18) dX5_extend_15 fl_X5_28 (by assumption) rfl (ac_rdr rfl (by assumption)) ?_
    refine ac_iload_n (q := 19) dX5_extend_18 rfl rfl ?_
    refine ac_cvp (q := 22) (k_X3_has (t := w + 10) (d := d - 1) (by omega) hT h1.1 ⟨by omega, by omega⟩) ml_X5_93 (by assumption) dX5_extend_19 rfl rfl rfl (by omega) (Nat.le_of_ble_eq_true rfl) (Nat.zero_le _) (Nat.zero_le _) ?_
    refine ac_bif_ne (q := 25) (tgt := 30) dX5_extend_22 rfl rfl (fun h22 => ?_) (fun h22 => ?_)
    · refine ac_iconst (q := 31) dX5_extend_30 rfl ?_
      refine ac_istore_n (q := 32) (j := 2) rfl dX5_extend_31 rfl (Nat.le_of_ble_eq_true rfl) rfl rfl ?_
      simp only [List.set_cons_succ, List.set_cons_zero]
      refine ac_iconst (q := 33) dX5_extend_32 rfl ?_
      refine ac_istore_n (q := 34) (j := 3) rfl dX5_extend_33 rfl (Nat.le_of_ble_eq_true rfl) rfl rfl ?_
      simp only [List.set_cons_succ, List.set_cons_zero]
      have hs := loop 3 0 m1 rfl (by
        show ac_RW m1 w col obs wanted (done ++ []) (ac_PL P l []) (dead + 0) (max deep l.length)
        rw [List.append_nil, ac_PL_0]; exact R1) hcl1 (fun k' a1 a2 => f1 k' a1)
      exact hs
    · exfalso; omega

set_option maxHeartbeats 8000000 in
theorem k_X5_survey {G : ac_G} {Y : ac_Y} {mm : ac_M} {d w : Nat} {n k : Nat} {E : List ac_Eq} {pin : Nat → Int} {col : Option (List Nat)} {obs : List ac_Ob} (hd : 16 ≤ d) (hW : ac_isW Y w) {t : Nat} {E0 : List ac_Eq} {wanted : Int} (hwt : ac_in wanted) (hRC : ac_RC mm (w + 4) E0) (hRS : ac_RS mm (w + 1) obs) (hT9 : ac_isT Y t) (hRT0 : ac_RT mm t n k E pin col) (hwo : t + 4 ≤ w ∨ w + 18 ≤ t) : ac_C G yX5_survey cX5_survey 3 none d 0 0 Y mm [(2, (w : Int)), (2, (t : Int)), (0, wanted)] (ac_R Y [] (fun m => ac_W0 m w n k E pin col obs ∧ ac_RW m w col obs wanted (ac_ext (ac_may k E pin) n []) (ac_cb (ac_ext (ac_may k E pin) n [])) (ac_dead (ac_may k E pin) n []) (ac_deep (ac_may k E pin) n []) ∧ ∀ k', (k' < w ∨ w + 16 < k') → m k' = mm k')) := by
  have hW9 := hW
  obtain ⟨⟨kw, rw0, rw1, rw2, rw3, rw4, rw5, rw6⟩, ⟨k14, k15, k16, k17⟩, hS, hC, hT⟩ := hW
  have kt0 := hT.1
  have kc0 := hC.1
  have ks0 := hS.1
  refine ac_met (on := (RX5, "survey")) rfl rfl (Nat.le_of_ble_eq_true rfl) (ls := [(2, (w : Int)), (2, (t : Int)), (0, wanted)]) rfl ?_
  refine ac_aload_n (q := 1) dX5_survey_0 rfl rfl ?_
  refine ac_aload_n (q := 2) dX5_survey_1 rfl rfl ?_
  refine ac_cv (q := 5) (k_X5_begin (d := d - 1) (by omega) hW9 hRC hRS hT9 hRT0 hwo) ml_X5_58 (by assumption) dX5_survey_2 rfl rfl rfl (by omega) (Nat.le_of_ble_eq_true rfl) (Nat.zero_le _) (Nat.zero_le _) (fun m1 h1 => ?_)
  obtain ⟨h1, cl1, f1⟩ := h1
  refine ac_aload_n (q := 6) dX5_survey_5 rfl rfl ?_
  refine ac_get (q := 9) dX5_survey_6 fl_X5_39 (by assumption) rfl (ac_rdr rfl (by assumption)) ?_
  refine ac_iconst (q := 10) dX5_survey_9 rfl ?_
  refine ac_cs (q := 13) (k_fill (d := d - 1) (by omega) k16 (by decide)) ml_X5_52 dX5_survey_10 rfl rfl rfl (by omega) (Nat.le_of_ble_eq_true rfl) (Nat.zero_le _) (Nat.zero_le _) (fun m2 h2 => ?_)
  subst h2
  refine ac_aload_n (q := 14) dX5_survey_13 rfl rfl ?_
  refine ac_iload_n (q := 15) dX5_survey_14 rfl rfl ?_
  refine ac_put (q := 18) dX5_survey_15 fl_X5_61 (by assumption) rfl rfl ?_
  refine ac_aload_n (q := 19) dX5_survey_18 rfl rfl ?_
  refine ac_iconst (q := 20) dX5_survey_19 rfl ?_
  refine ac_put (q := 23) dX5_survey_20 fl_X5_65 (by assumption) rfl rfl ?_
  refine ac_aload_n (q := 24) dX5_survey_23 rfl rfl ?_
  refine ac_bipush (q := 26) dX5_survey_24 rfl (by decide) ?_
  refine ac_put (q := 29) dX5_survey_26 fl_X5_68 (by assumption) rfl rfl ?_
  refine ac_aload_n (q := 30) dX5_survey_29 rfl rfl ?_
  refine ac_iconst (q := 31) dX5_survey_30 rfl ?_
  refine ac_put (q := 34) dX5_survey_31 fl_X5_71 (by assumption) rfl rfl ?_
  refine ac_aload_n (q := 35) dX5_survey_34 rfl rfl ?_
  refine ac_iconst (q := 36) dX5_survey_35 rfl ?_
  refine ac_put (q := 39) dX5_survey_36 fl_X5_74 (by assumption) rfl rfl ?_
  refine ac_aload_n (q := 40) dX5_survey_39 rfl rfl ?_
  refine ac_iconst (q := 41) dX5_survey_40 rfl ?_
  refine ac_put (q := 44) dX5_survey_41 fl_X5_77 (by assumption) rfl rfl ?_
  refine ac_aload_n (q := 45) dX5_survey_44 rfl rfl ?_
  refine ac_bipush (q := 47) dX5_survey_45 rfl (by decide) ?_
  refine ac_put (q := 50) dX5_survey_47 fl_X5_80 (by assumption) rfl rfl ?_
  have hn2 : n ≤ 10 := h1.1.1.1.2
  generalize hm3 : ac_up (ac_up (ac_up (ac_up (ac_up (ac_up (ac_up (ac_fl m1 (w + 16) 11 0) w 7 wanted) w 8 0) w 9 (-9)) w 10 0) w 11 0) w 12 0) w 13 (-9) = m3
  have g3 : ∀ k', k' ≠ w → k' ≠ w + 16 → m3 k' = m1 k' := fun k' a1 a2 => by subst hm3; funext j; simp only [ac_up, ac_fl]; repeat rw [if_neg (fun q => by omega)]
  have hW3 : ac_W0 m3 w n k E pin col obs := ac_W0_keep h1 (fun k' a1 a2 => g3 k' (by omega) (by omega))
  have cl3 : ac_cl m3 (w + 14) [] := ac_cl_keep cl1 (g3 _ (by omega) (by omega))
  have R3 : ac_RW m3 w col obs wanted [] (fun _ => 0) 0 0 := by
    subst hm3
    refine ⟨⟨by simp [ac_up], by simp [ac_up], by simp [ac_up, ac_rk, ac_rkA], by simp [ac_up], by simp [ac_up], by simp [ac_up], by simp [ac_up, ac_low]⟩, fun x l0 a1 a2 => by simp at a2, fun x a1 a2 => ?_⟩
    simp [ac_up, ac_fl, a2]
  refine ac_aload_n (q := 51) dX5_survey_50 rfl rfl ?_
  refine ac_iconst (q := 52) dX5_survey_51 rfl ?_
  refine ac_mem (mm' := m3) rfl ?_
  refine ac_cs (q := 55) (k_X5_extend hW9 hwt n (d - 1) m3 [] [] (fun _ => 0) 0 0 (by omega) hW3 cl3 (by simp) (fun c hc => by cases hc) R3 (by have := Nat.pow_le_pow_right (n := 3) (by decide) hn2; show 0 + 3 ^ n ≤ 60000; omega) (by omega)) ml_X5_83 dX5_survey_52 rfl rfl rfl (by omega) (Nat.le_of_ble_eq_true rfl) (Nat.zero_le _) (Nat.zero_le _) (fun m4 h4 => ?_)
  refine ac_return dX5_survey_55 rfl (Nat.zero_le _) (Nat.zero_le _) ?_
  obtain ⟨R4, cl4, fw4⟩ := h4
  refine ⟨rfl, rfl, ac_W0_fw hW3 fw4, ?_, fun k' a1 => ?_⟩
  · have e := R4
    rw [List.nil_append, Nat.zero_add, Nat.zero_max] at e
    exact ac_RW_P e (fun x a1 a2 => by unfold ac_PL; rw [if_pos (by show 0 < x; omega), Nat.zero_or])
  · rw [fw4 k' (by omega) (by omega), g3 k' (by omega) (by omega), f1 k' (by omega)]
