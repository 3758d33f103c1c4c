set_option maxHeartbeats 8000000 in
theorem k_X5_namingsWith {G : ac_G} {Y : ac_Y} {mm : ac_M} {d w : Nat} {n k : Nat} {E : List ac_Eq} {pin : Nat → Int} {col : Option (List Nat)} {obs : List ac_Ob} (hd : 2 ≤ d) (hW : ac_isW Y w) (h0 : ac_W0 mm w n k E pin col obs) {x c : Nat} (hx : 1 ≤ x ∧ x ≤ n) (hc : c < 3) : ac_C G yX5_namingsWith cX5_namingsWith 6 (some .int) d 0 0 Y mm [(2, (w : Int)), (0, (x : Int)), (0, (c : Int))] (ac_R Y [(0, ((ac_nmw (pin x) c : Nat) : Int))] (fun m => m = mm)) := by
  have hW9 := hW
  obtain ⟨⟨kw, rw0, rw1, rw2, rw3, rw4, rw5, rw6⟩, ⟨k14, k15, k16, k17⟩, hS, hC, hT⟩ := hW
  have kt0 := hT.1
  have kc0 := hC.1
  have ks0 := hS.1
  have h09 := h0
  obtain ⟨hRT, hRC, hRS⟩ := h0
  obtain ⟨⟨⟨hn1, hn2⟩, ⟨hkk1, hkk2⟩, hE, hp0, hpr, hc0⟩, t3, t4, t5, t6, tE, tp, tcb, tc⟩ := id hRT
  have hpx := hpr x
  have loop : ∀ (r i : Nat), i + r = 6 → ¬ pin x = -1 → ac_V G (RX5, "namingsWith") cX5_namingsWith 6 (some .int) d 0 0 (ac_R Y [(0, ((ac_nmw (pin x) c : Nat) : Int))] (fun m => m = mm)) 0 0 Y mm 32 [(2, (w : Int)), (0, (x : Int)), (0, (c : Int)), (0, pin x), (0, ((ac_nmA (pin x) c i : Nat) : Int)), (0, (i : Int))] [] := by
    intro r
    induction r with
    | zero =>
      intro i hi hne
      obtain rfl : i = 6 := by omega
      refine ac_iload (q := 34) dX5_namingsWith_32 rfl rfl ?_
      refine ac_bipush (q := 36) dX5_namingsWith_34 rfl (by decide) ?_
      refine ac_icmp_ge (q := 39) (tgt := 68) dX5_namingsWith_36 rfl rfl ⟨by omega, by omega⟩ ⟨by omega, by omega⟩ (fun h36 => ?_) (fun h36 => ?_)
      · refine ac_iload (q := 70) dX5_namingsWith_68 rfl rfl ?_
        refine ac_ireturn dX5_namingsWith_70 rfl (Nat.zero_le _) (Nat.zero_le _) ?_
        exact ⟨by unfold ac_nmw; rw [if_neg hne], rfl, rfl⟩
      · exfalso; omega
    | succ r ih =>
      intro i hi hne
      have ei : ((i : Nat) : Int) + 1 = ((i + 1 : Nat) : Int) := rfl
      have en : (3 * (i : Int) + (c : Int)).toNat = 3 * i + c := by omega
      have hnin : ac_in (ac_names (3 * i + c)) := by
        rcases (show i = 0 ∨ i = 1 ∨ i = 2 ∨ i = 3 ∨ i = 4 ∨ i = 5 by omega) with rfl | rfl | rfl | rfl | rfl | rfl <;> rcases (show c = 0 ∨ c = 1 ∨ c = 2 by omega) with rfl | rfl | rfl <;> exact ⟨by decide, by decide⟩
      refine ac_iload (q := 34) dX5_namingsWith_32 rfl rfl ?_
      refine ac_bipush (q := 36) dX5_namingsWith_34 rfl (by decide) ?_
      refine ac_icmp_ge (q := 39) (tgt := 68) dX5_namingsWith_36 rfl rfl ⟨by omega, by omega⟩ ⟨by omega, by omega⟩ (fun h36 => ?_) (fun h36 => ?_)
      · exfalso; omega
      · refine ac_names_get (q := 42) dX5_namingsWith_39 fl_names rfl ?_
        refine ac_iconst (q := 43) dX5_namingsWith_42 rfl ?_
        refine ac_iload (q := 45) dX5_namingsWith_43 rfl rfl ?_
        refine ac_imul (q := 46) dX5_namingsWith_45 rfl ?_
        refine ac_iload_n (q := 47) dX5_namingsWith_46 rfl rfl ?_
        refine ac_iadd (q := 48) dX5_namingsWith_47 rfl ?_
        refine ac_names_ld (q := 49) (v := ac_names (3 * i + c)) dX5_namingsWith_48 ⟨by omega, by omega⟩ rfl (by rw [en]) ?_
        refine ac_iload_n (q := 50) dX5_namingsWith_49 rfl rfl ?_
        refine ac_icmp_ne (q := 53) (tgt := 62) dX5_namingsWith_50 rfl rfl hnin ⟨by omega, by omega⟩ (fun h50 => ?_) (fun h50 => ?_)
        · refine ac_iinc (q := 65) dX5_namingsWith_62 rfl (Nat.le_of_ble_eq_true rfl) rfl rfl rfl rfl ?_
          simp only [List.set_cons_succ, List.set_cons_zero]
          refine ac_goto (q := 32) dX5_namingsWith_65 rfl ?_
          have hs := ih (i + 1) (by omega) hne
          rw [ac_nmA, if_neg h50, Nat.or_zero] at hs
          exact ac_ls (by rw [ei]) hs
        · refine ac_iload (q := 55) dX5_namingsWith_53 rfl rfl ?_
          refine ac_iconst (q := 56) dX5_namingsWith_55 rfl ?_
          refine ac_iload (q := 58) dX5_namingsWith_56 rfl rfl ?_
          refine ac_ishl1 (q := 59) (k := i) dX5_namingsWith_58 rfl (by omega) ?_
          refine ac_ior (q := 60) dX5_namingsWith_59 rfl ?_
          refine ac_istore (q := 62) dX5_namingsWith_60 rfl (Nat.le_of_ble_eq_true rfl) rfl rfl ?_
          simp only [List.set_cons_succ, List.set_cons_zero]
          refine ac_iinc (q := 65) dX5_namingsWith_62 rfl (Nat.le_of_ble_eq_true rfl) rfl rfl rfl rfl ?_
          simp only [List.set_cons_succ, List.set_cons_zero]
          refine ac_goto (q := 32) dX5_namingsWith_65 rfl ?_
          have hs := ih (i + 1) (by omega) hne
          rw [ac_nmA, if_pos h50] at hs
          exact ac_ls (by rw [ei]) hs
  refine ac_met (on := (RX5, "namingsWith")) rfl rfl (Nat.le_of_ble_eq_true rfl) (ls := [(2, (w : Int)), (0, (x : Int)), (0, (c : Int)), (3, 0), (3, 0), (3, 0)]) rfl ?_
  refine ac_aload_n (q := 1) dX5_namingsWith_0 rfl rfl ?_
  refine ac_get (q := 4) dX5_namingsWith_1 fl_X5_28 (by assumption) rfl (ac_rdr rfl (by assumption)) ?_
  refine ac_iload_n (q := 5) dX5_namingsWith_4 rfl rfl ?_
  refine ac_cvp (q := 8) (k_X3_pinOf (t := w + 10) (d := d - 1) (by omega) hT hRT ⟨by omega, by omega⟩) ml_X5_167 (by assumption) dX5_namingsWith_5 rfl rfl rfl (by omega) (Nat.le_of_ble_eq_true rfl) (Nat.zero_le _) (Nat.zero_le _) ?_
  simp only [Int.toNat_natCast]
  refine ac_istore_n (q := 9) (j := 3) rfl dX5_namingsWith_8 rfl (Nat.le_of_ble_eq_true rfl) rfl rfl ?_
  simp only [List.set_cons_succ, List.set_cons_zero]
  refine ac_iload_n (q := 10) dX5_namingsWith_9 rfl rfl ?_
  refine ac_iconst (q := 11) dX5_namingsWith_10 rfl ?_
  refine ac_icmp_eq (q := 14) (tgt := 23) dX5_namingsWith_11 rfl rfl ⟨by omega, by omega⟩ ⟨by omega, by omega⟩ (fun h11 => ?_) (fun h11 => ?_)
  · refine ac_bipush (q := 25) dX5_namingsWith_23 rfl (by decide) ?_
    refine ac_ireturn dX5_namingsWith_25 rfl (Nat.zero_le _) (Nat.zero_le _) ?_
    exact ⟨by unfold ac_nmw; rw [if_pos (by omega)]; rfl, rfl, rfl⟩
  · refine ac_iload_n (q := 15) dX5_namingsWith_14 rfl rfl ?_
    refine ac_if_lt (q := 18) (tgt := 23) dX5_namingsWith_15 rfl rfl ⟨by omega, by omega⟩ (fun h15 => ?_) (fun h15 => ?_)
    · exfalso; omega
    · refine ac_iload_n (q := 19) dX5_namingsWith_18 rfl rfl ?_
      refine ac_iconst (q := 20) dX5_namingsWith_19 rfl ?_
      refine ac_icmp_lt (q := 23) (tgt := 26) dX5_namingsWith_20 rfl rfl ⟨by omega, by omega⟩ ⟨by omega, by omega⟩ (fun h20 => ?_) (fun h20 => ?_)
      · refine ac_iconst (q := 27) dX5_namingsWith_26 rfl ?_
        refine ac_istore (q := 29) dX5_namingsWith_27 rfl (Nat.le_of_ble_eq_true rfl) rfl rfl ?_
        simp only [List.set_cons_succ, List.set_cons_zero]
        refine ac_iconst (q := 30) dX5_namingsWith_29 rfl ?_
        refine ac_istore (q := 32) dX5_namingsWith_30 rfl (Nat.le_of_ble_eq_true rfl) rfl rfl ?_
        simp only [List.set_cons_succ, List.set_cons_zero]
        exact loop 6 0 rfl (by omega)
      · exfalso; omega

set_option maxHeartbeats 8000000 in
theorem k_X5_group {G : ac_G} {Y : ac_Y} {w : Nat} {n k : Nat} {E : List ac_Eq} {pin : Nat → Int} {col : Option (List Nat)} {obs : List ac_Ob} (hW : ac_isW Y w) : ∀ (f d : Nat) (mm : ac_M) (l : List Nat) (o nm : Nat), f + 3 ≤ d → ac_W0 mm w n k E pin col obs → ac_cl mm (w + 14) l → l.length + f = n → o ≤ 3 → nm < 64 → ac_C G yX5_group cX5_group 6 none d 0 0 Y mm [(2, (w : Int)), (0, ((l.length + 1 : Nat) : Int)), (0, (o : Int)), (0, (nm : Int))] (ac_R Y [] (fun m => m w 14 = mm w 14 + (ac_grp k E pin f l o nm : Int) ∧ ac_cl m (w + 14) l ∧ ∀ k' j, (k' ≠ w ∨ j ≠ 14) → k' ≠ w + 14 → m k' j = mm k' j)) := by
  intro f
  induction f with
  | zero =>
    intro d mm l o nm hd h0 hcl hl ho hnm
    have hW9 := hW
    obtain ⟨⟨kw, rw0, rw1, rw2, rw3, rw4, rw5, rw6⟩, ⟨k14, k15, k16, k17⟩, hS, hC, hT⟩ := hW
    have kt0 := hT.1
    have kc0 := hC.1
    have ks0 := hS.1
    have h09 := h0
    obtain ⟨hRT, hRC, hRS⟩ := h0
    obtain ⟨⟨⟨hn1, hn2⟩, ⟨hkk1, hkk2⟩, hE, hp0, hpr, hc0⟩, t3, t4, t5, t6, tE, tp, tcb, tc⟩ := id hRT
    refine ac_met (on := (RX5, "group")) rfl rfl (Nat.le_of_ble_eq_true rfl) (ls := [(2, (w : Int)), (0, ((l.length + 1 : Nat) : Int)), (0, (o : Int)), (0, (nm : Int)), (3, 0), (3, 0)]) rfl ?_
    refine ac_iload_n (q := 1) dX5_group_0 rfl rfl ?_
    refine ac_if_ne (q := 4) (tgt := 5) dX5_group_1 rfl rfl ⟨by omega, by omega⟩ (fun h1 => ?_) (fun h1 => ?_)
    · refine ac_aload_n (q := 6) dX5_group_5 rfl rfl ?_
      refine ac_get (q := 9) dX5_group_6 fl_X5_28 (by assumption) rfl (ac_rdr rfl (by assumption)) ?_
      refine ac_iload_n (q := 10) dX5_group_9 rfl rfl ?_
      refine ac_cvp (q := 13) (k_X3_has (t := w + 10) (d := d - 1) (by omega) hT hRT ⟨by omega, by omega⟩) ml_X5_93 (by assumption) dX5_group_10 rfl rfl rfl (by omega) (Nat.le_of_ble_eq_true rfl) (Nat.zero_le _) (Nat.zero_le _) ?_
      refine ac_bif_ne (q := 16) (tgt := 27) dX5_group_13 rfl rfl (fun h13 => ?_) (fun h13 => ?_)
      · exfalso; omega
      · refine ac_aload_n (q := 17) dX5_group_16 rfl rfl ?_
        refine ac_dup (q := 18) dX5_group_17 rfl (show (2 : Nat) ≠ 1 by decide) ?_
        refine ac_get (q := 21) dX5_group_18 fl_X5_148 (by assumption) rfl rfl ?_
        refine ac_iconst (q := 22) dX5_group_21 rfl ?_
        refine ac_iadd (q := 23) dX5_group_22 rfl ?_
        refine ac_put (q := 26) dX5_group_23 fl_X5_148 (by assumption) rfl rfl ?_
        refine ac_return dX5_group_26 rfl (Nat.zero_le _) (Nat.zero_le _) ?_
        refine ⟨rfl, rfl, ?_, ac_cl_keep hcl (by funext j; exact ac_up_k (by omega)), fun k' j a1 a2 => if_neg (fun q => by omega)⟩
        rw [ac_grp, if_neg (by omega), ac_up_s]; rfl
    · refine ac_return dX5_group_4 rfl (Nat.zero_le _) (Nat.zero_le _) ?_
      refine ⟨rfl, rfl, ?_, hcl, fun _ _ _ _ => rfl⟩
      rw [show nm = 0 by omega]; simp [ac_grp]
  | succ f ih =>
    intro d mm l o nm hd h0 hcl hl ho hnm
    have hW9 := hW
    obtain ⟨⟨kw, rw0, rw1, rw2, rw3, rw4, rw5, rw6⟩, ⟨k14, k15, k16, k17⟩, hS, hC, hT⟩ := hW
    have kt0 := hT.1
    have kc0 := hC.1
    have ks0 := hS.1
    have h09 := h0
    obtain ⟨hRT, hRC, hRS⟩ := h0
    obtain ⟨⟨⟨hn1, hn2⟩, ⟨hkk1, hkk2⟩, hE, hp0, hpr, hc0⟩, t3, t4, t5, t6, tE, tp, tcb, tc⟩ := id hRT
    have loop : ∀ (r c : Nat) (m : ac_M), c + r = 3 → ¬ nm = 0 → m w 14 = mm w 14 + (ac_gg k E pin f l o nm c : Int) → ac_cl m (w + 14) l → (∀ k' j, (k' ≠ w ∨ j ≠ 14) → k' ≠ w + 14 → m k' j = mm k' j) → ac_V G (RX5, "group") cX5_group 6 none d 0 0 (ac_R Y [] (fun m => m w 14 = mm w 14 + (ac_grp k E pin (f + 1) l o nm : Int) ∧ ac_cl m (w + 14) l ∧ ∀ k' j, (k' ≠ w ∨ j ≠ 14) → k' ≠ w + 14 → m k' j = mm k' j)) 0 0 Y m 30 [(2, (w : Int)), (0, ((l.length + 1 : Nat) : Int)), (0, (o : Int)), (0, (nm : Int)), (0, (c : Int)), (3, 0)] [] := by
      intro r
      induction r with
      | zero =>
        intro c m hc hnz hcnt hclm hfr
        obtain rfl : c = 3 := by omega
        have e4 : m (w + 10) 4 = (k : Int) := by rw [hfr _ _ (Or.inl (by omega)) (by omega)]; exact t4
        have hRTm : ac_RT m (w + 10) n k E pin col := ac_RT_keep hRT (by funext j; exact hfr _ _ (Or.inl (by omega)) (by omega)) (by funext j; exact hfr _ _ (Or.inl (by omega)) (by omega)) (by funext j; exact hfr _ _ (Or.inl (by omega)) (by omega)) (by funext j; exact hfr _ _ (Or.inl (by omega)) (by omega))
        have h0m : ac_W0 m w n k E pin col obs := ac_W0_keep h09 (fun k' a1 a2 => by funext j; exact hfr _ _ (Or.inl (by omega)) (by omega))
        refine ac_iload (q := 32) dX5_group_30 rfl rfl ?_
        refine ac_iload_n (q := 33) dX5_group_32 rfl rfl ?_
        refine ac_icmp_gt (q := 36) (tgt := 113) dX5_group_33 rfl rfl ⟨by omega, by omega⟩ ⟨by omega, by omega⟩ (fun h33 => ?_) (fun h33 => ?_)
        · refine ac_return dX5_group_113 rfl (Nat.zero_le _) (Nat.zero_le _) ?_
          exact ⟨rfl, rfl, by rw [hcnt, ac_grp_s hnz], hclm, hfr⟩
        · refine ac_iload (q := 38) dX5_group_36 rfl rfl ?_
          refine ac_aload_n (q := 39) dX5_group_38 rfl rfl ?_
          refine ac_get (q := 42) dX5_group_39 fl_X5_28 (by assumption) rfl (ac_rdr rfl (by assumption)) ?_
          refine ac_get (q := 45) dX5_group_42 fl_X5_155 kt0 rfl (ac_rdi rfl e4) ?_
          refine ac_icmp_ge (q := 48) (tgt := 113) dX5_group_45 rfl rfl ⟨by omega, by omega⟩ ⟨by omega, by omega⟩ (fun h45 => ?_) (fun h45 => ?_)
          · refine ac_return dX5_group_113 rfl (Nat.zero_le _) (Nat.zero_le _) ?_
            exact ⟨rfl, rfl, by rw [hcnt, ac_grp_s hnz], hclm, hfr⟩
          · exfalso; omega
      | succ r ihr =>
        intro c m hc hnz hcnt hclm hfr
        have ec : ((c : Nat) : Int) + 1 = ((c + 1 : Nat) : Int) := rfl
        have e4 : m (w + 10) 4 = (k : Int) := by rw [hfr _ _ (Or.inl (by omega)) (by omega)]; exact t4
        have hRTm : ac_RT m (w + 10) n k E pin col := ac_RT_keep hRT (by funext j; exact hfr _ _ (Or.inl (by omega)) (by omega)) (by funext j; exact hfr _ _ (Or.inl (by omega)) (by omega)) (by funext j; exact hfr _ _ (Or.inl (by omega)) (by omega)) (by funext j; exact hfr _ _ (Or.inl (by omega)) (by omega))
        have h0m : ac_W0 m w n k E pin col obs := ac_W0_keep h09 (fun k' a1 a2 => by funext j; exact hfr _ _ (Or.inl (by omega)) (by omega))
        have hbl := ac_br_lt (E := E) (ac_set (l ++ [c]) c) hE.1
        have hlen1 : (l ++ [c]).length = l.length + 1 := by rw [List.length_append]; rfl
        refine ac_iload (q := 32) dX5_group_30 rfl rfl ?_
        refine ac_iload_n (q := 33) dX5_group_32 rfl rfl ?_
        refine ac_icmp_gt (q := 36) (tgt := 113) dX5_group_33 rfl rfl ⟨by omega, by omega⟩ ⟨by omega, by omega⟩ (fun h33 => ?_) (fun h33 => ?_)
        · refine ac_return dX5_group_113 rfl (Nat.zero_le _) (Nat.zero_le _) ?_
          exact ⟨rfl, rfl, by rw [hcnt, ac_grp_s hnz, ac_gg_stop (by omega) (by omega)], hclm, hfr⟩
        · refine ac_iload (q := 38) dX5_group_36 rfl rfl ?_
          refine ac_aload_n (q := 39) dX5_group_38 rfl rfl ?_
          refine ac_get (q := 42) dX5_group_39 fl_X5_28 (by assumption) rfl (ac_rdr rfl (by assumption)) ?_
          refine ac_get (q := 45) dX5_group_42 fl_X5_155 kt0 rfl (ac_rdi rfl e4) ?_
          refine ac_icmp_ge (q := 48) (tgt := 113) dX5_group_45 rfl rfl ⟨by omega, by omega⟩ ⟨by omega, by omega⟩ (fun h45 => ?_) (fun h45 => ?_)
          · refine ac_return dX5_group_113 rfl (Nat.zero_le _) (Nat.zero_le _) ?_
            exact ⟨rfl, rfl, by rw [hcnt, ac_grp_s hnz, ac_gg_stop (by omega) (by omega)], hclm, hfr⟩
          · refine ac_aload_n (q := 49) dX5_group_48 rfl rfl ?_
            refine ac_get (q := 52) dX5_group_49 fl_X5_21 (by assumption) rfl (ac_rdr rfl (by assumption)) ?_
            refine ac_aload_n (q := 53) dX5_group_52 rfl rfl ?_
            refine ac_iload_n (q := 54) dX5_group_53 rfl rfl ?_
            refine ac_iload (q := 56) dX5_group_54 rfl rfl ?_
            refine ac_cvp (q := 59) (k_X5_with (d := d - 1) (by omega) hW9 hclm rfl (by omega) (by omega)) ml_X5_158 (by assumption) dX5_group_56 rfl rfl rfl (by omega) (Nat.le_of_ble_eq_true rfl) (Nat.zero_le _) (Nat.zero_le _) ?_
            refine ac_cvp (q := 62) (k_X0_in (c := w + 4) (d := d - 1) (S := ac_set (l ++ [c]) c) (by omega) hC h0m.2.1 (ac_set_lt c (by omega)) (ac_set_0 _ _)) ml_X5_136 (by assumption) dX5_group_59 rfl rfl rfl (by omega) (Nat.le_of_ble_eq_true rfl) (Nat.zero_le _) (Nat.zero_le _) ?_
            refine ac_if_ne (q := 65) (tgt := 107) dX5_group_62 rfl rfl ⟨by omega, by omega⟩ (fun h62 => ?_) (fun h62 => ?_)
            · refine ac_iinc (q := 110) dX5_group_107 rfl (Nat.le_of_ble_eq_true rfl) rfl rfl rfl rfl ?_
              simp only [List.set_cons_succ, List.set_cons_zero]
              refine ac_goto (q := 30) dX5_group_110 rfl ?_
              have hng : ¬ ac_grc k E l o c := fun q => h62 (by rw [q.2.2]; rfl)
              exact ac_ls (by rw [ec]) (ihr (c + 1) m (by omega) hnz (by rw [ac_gg_n hng]; exact hcnt) hclm hfr)
            · refine ac_iload_n (q := 66) dX5_group_65 rfl rfl ?_
              refine ac_aload_n (q := 67) dX5_group_66 rfl rfl ?_
              refine ac_iload_n (q := 68) dX5_group_67 rfl rfl ?_
              refine ac_iload (q := 70) dX5_group_68 rfl rfl ?_
              refine ac_cvp (q := 73) (k_X5_namingsWith (d := d - 1) (by omega) hW9 h0m ⟨by omega, by omega⟩ (by omega)) ml_X5_161 (by assumption) dX5_group_70 rfl rfl rfl (by omega) (Nat.le_of_ble_eq_true rfl) (Nat.zero_le _) (Nat.zero_le _) ?_
              refine ac_iand (q := 74) dX5_group_73 rfl ?_
              refine ac_istore (q := 76) dX5_group_74 rfl (Nat.le_of_ble_eq_true rfl) rfl rfl ?_
              simp only [List.set_cons_succ, List.set_cons_zero]
              refine ac_aload_n (q := 77) dX5_group_76 rfl rfl ?_
              refine ac_iload_n (q := 78) dX5_group_77 rfl rfl ?_
              refine ac_iload (q := 80) dX5_group_78 rfl rfl ?_
              refine ac_cv (q := 83) (k_X5_lay (d := d - 1) (by omega) hW9 hclm rfl (by omega) (by omega)) ml_X5_164 (by assumption) dX5_group_80 rfl rfl rfl (by omega) (Nat.le_of_ble_eq_true rfl) (Nat.zero_le _) (Nat.zero_le _) (fun m1 h1 => ?_)
              obtain ⟨cl1, f1⟩ := h1
              have hnm2 : nm &&& ac_nmw (pin (l.length + 1)) c < 64 := Nat.lt_of_le_of_lt Nat.and_le_left hnm
              refine ac_aload_n (q := 84) dX5_group_83 rfl rfl ?_
              refine ac_iload_n (q := 85) dX5_group_84 rfl rfl ?_
              refine ac_iconst (q := 86) dX5_group_85 rfl ?_
              refine ac_iadd (q := 87) dX5_group_86 rfl ?_
              refine ac_iload_n (q := 88) dX5_group_87 rfl rfl ?_
              refine ac_iload (q := 90) dX5_group_88 rfl rfl ?_
              refine ac_iconst (q := 91) dX5_group_90 rfl ?_
              refine ac_iadd (q := 92) dX5_group_91 rfl ?_
              refine ac_max (v := ((max o (c + 1) : Nat) : Int)) (q := 95) dX5_group_92 ml_X5_87 mt_max_s mt_i mt_max_c ⟨by omega, by omega⟩ ⟨by omega, by omega⟩ (by omega) rfl (by omega) (Nat.le_of_ble_eq_true rfl) (Nat.zero_le _) (Nat.zero_le _) ?_
              refine ac_iload (q := 97) dX5_group_95 rfl rfl ?_
              refine ac_cs (q := 100) (ih (d - 1) m1 (l ++ [c]) (max o (c + 1)) (nm &&& ac_nmw (pin (l.length + 1)) c) (by omega) (ac_W0_keep h0m (fun k' a1 a2 => f1 k' (by omega))) cl1 (by omega) (by omega) hnm2) ml_X5_151 dX5_group_97 rfl (by rw [hlen1]; rfl) rfl (by omega) (Nat.le_of_ble_eq_true rfl) (Nat.zero_le _) (Nat.zero_le _) (fun m2 h2 => ?_)
              obtain ⟨g2, cl2, f2⟩ := h2
              refine ac_aload_n (q := 101) dX5_group_100 rfl rfl ?_
              refine ac_iload_n (q := 102) dX5_group_101 rfl rfl ?_
              refine ac_iload (q := 104) dX5_group_102 rfl rfl ?_
              refine ac_cv (q := 107) (k_X5_lift (d := d - 1) (by omega) hW9 cl2 rfl (by omega) (by omega)) ml_X5_104 (by assumption) dX5_group_104 rfl rfl rfl (by omega) (Nat.le_of_ble_eq_true rfl) (Nat.zero_le _) (Nat.zero_le _) (fun m3 h3 => ?_)
              obtain ⟨cl3, f3⟩ := h3
              refine ac_iinc (q := 110) dX5_group_107 rfl (Nat.le_of_ble_eq_true rfl) rfl rfl rfl rfl ?_
              simp only [List.set_cons_succ, List.set_cons_zero]
              refine ac_goto (q := 30) dX5_group_110 rfl ?_
              have hyg : ac_grc k E l o c := ⟨by omega, by omega, by omega⟩
              refine ac_drop [(2, (w : Int)), (0, ((l.length + 1 : Nat) : Int)), (0, (o : Int)), (0, (nm : Int)), (0, (c : Int) + 1), (3, 0)] (by repeat (first | exact trivial | refine ⟨Or.inl rfl, ?_⟩ | refine ⟨Or.inr rfl, ?_⟩)) ?_
              refine ac_ls (by rw [ec]) (ihr (c + 1) m3 (by omega) hnz ?_ cl3 (fun k' j a1 a2 => ?_))
              · rw [ac_gg_y hyg, f3 w (by omega), g2, f1 w (by omega), hcnt]; omega
              · rw [f3 k' a2, f2 k' j a1 a2, f1 k' a2, hfr k' j a1 a2]
    refine ac_met (on := (RX5, "group")) rfl rfl (Nat.le_of_ble_eq_true rfl) (ls := [(2, (w : Int)), (0, ((l.length + 1 : Nat) : Int)), (0, (o : Int)), (0, (nm : Int)), (3, 0), (3, 0)]) rfl ?_
    refine ac_iload_n (q := 1) dX5_group_0 rfl rfl ?_
    refine ac_if_ne (q := 4) (tgt := 5) dX5_group_1 rfl rfl ⟨by omega, by omega⟩ (fun h1 => ?_) (fun h1 => ?_)
    · refine ac_aload_n (q := 6) dX5_group_5 rfl rfl ?_
      refine ac_get (q := 9) dX5_group_6 fl_X5_28 (by assumption) rfl (ac_rdr rfl (by assumption)) ?_
      refine ac_iload_n (q := 10) dX5_group_9 rfl rfl ?_
      refine ac_cvp (q := 13) (k_X3_has (t := w + 10) (d := d - 1) (by omega) hT hRT ⟨by omega, by omega⟩) ml_X5_93 (by assumption) dX5_group_10 rfl rfl rfl (by omega) (Nat.le_of_ble_eq_true rfl) (Nat.zero_le _) (Nat.zero_le _) ?_
      refine ac_bif_ne (q := 16) (tgt := 27) dX5_group_13 rfl rfl (fun h13 => ?_) (fun h13 => ?_)
      · refine ac_iconst (q := 28) dX5_group_27 rfl ?_
        refine ac_istore (q := 30) dX5_group_28 rfl (Nat.le_of_ble_eq_true rfl) rfl rfl ?_
        simp only [List.set_cons_succ, List.set_cons_zero]
        exact loop 3 0 mm rfl (by omega) (by show _ = _ + ((0 : Nat) : Int); simp) hcl (fun _ _ _ _ => rfl)
      · exfalso; omega
    · refine ac_return dX5_group_4 rfl (Nat.zero_le _) (Nat.zero_le _) ?_
      refine ⟨rfl, rfl, ?_, hcl, fun _ _ _ _ => rfl⟩
      rw [show nm = 0 by omega, ac_grp_0]; simp

/-! with two colours a block without a pin takes the colour left over: masks with five and with all the names -/
theorem ac_r5s : ∀ nm ∈ ([63, 3, 12, 20, 33, 1, 4, 0] : List Nat), ∀ b, b < 2 → ∀ p ∈ ([-1, 0, 1] : List Int), (nm &&& ac_nmw p b) ∈ ([63, 3, 12, 20, 33, 1, 4, 0] : List Nat) := by decide +kernel
theorem ac_r50 : ∀ nm ∈ ([63, 3, 12, 20, 33, 1, 4, 0] : List Nat), (nm = 0 ↔ nm &&& 5 = 0) := by decide +kernel
theorem ac_grp_5 {E : List ac_Eq} {pin : Nat → Int} (hp : ∀ i, -1 ≤ pin i ∧ pin i < 2) : ∀ (f : Nat) (l : List Nat) (o nm : Nat), nm ∈ ([63, 3, 12, 20, 33, 1, 4, 0] : List Nat) → ac_grp 2 E pin f l o nm = ac_grp 2 E pin f l o (nm &&& 5)
  | 0, l, o, nm, h => by
    by_cases h0 : nm = 0
    · subst h0; rfl
    · have h5 : ¬ nm &&& 5 = 0 := fun q => h0 ((ac_r50 nm h).mpr q)
      rw [ac_grp, ac_grp, if_neg h0, if_neg h5]
  | f + 1, l, o, nm, h => by
    by_cases h0 : nm = 0
    · subst h0; rfl
    · have h5 : ¬ nm &&& 5 = 0 := fun q => h0 ((ac_r50 nm h).mpr q)
      rw [ac_grp_s h0, ac_grp_s h5]
      unfold ac_gg
      refine ac_sm_congr 3 fun b _ => ?_
      by_cases hg : ac_grc 2 E l o b
      · have hpx : pin (l.length + 1) ∈ ([-1, 0, 1] : List Int) := by
          have := hp (l.length + 1)
          rcases (show pin (l.length + 1) = -1 ∨ pin (l.length + 1) = 0 ∨ pin (l.length + 1) = 1 by omega) with q | q | q <;> rw [q] <;> decide
        refine (if_pos hg).trans (Eq.trans ?_ (if_pos hg).symm)
        rw [ac_grp_5 hp f _ _ _ (ac_r5s nm h b hg.2.1 _ hpx), Nat.and_assoc, Nat.and_assoc, Nat.and_comm 5]
      · exact (if_neg hg).trans (if_neg hg).symm
theorem ac_grp_all {n k : Nat} {E : List ac_Eq} {pin : Nat → Int} (hk : 2 ≤ k ∧ k ≤ 3) (hp : ∀ i, -1 ≤ pin i ∧ pin i < k) : ac_grp k E pin n [] 0 63 = ac_grp k E pin n [] 0 (if k = 2 then 5 else 63) := by
  rcases (show k = 2 ∨ k = 3 by omega) with rfl | rfl
  · exact ac_grp_5 (fun i => by have := hp i; omega) n [] 0 63 (by decide)
  · rfl

set_option maxHeartbeats 8000000 in
theorem k_X5_countKinds {G : ac_G} {Y : ac_Y} {mm : ac_M} {d w : Nat} {n k : Nat} {E : List ac_Eq} {pin : Nat → Int} {col : Option (List Nat)} {obs : List ac_Ob} (hd : 16 ≤ d) (hW : ac_isW Y w) {t : Nat} {E0 : List ac_Eq} (hRC : ac_RC mm (w + 4) E0) (hRS : ac_RS mm (w + 1) obs) (hT9 : ac_isT Y t) (hRT0 : ac_RT mm t n k E pin col) (hwo : t + 4 ≤ w ∨ w + 18 ≤ t) : ac_C G yX5_countKinds cX5_countKinds 2 (some .int) d 0 0 Y mm [(2, (w : Int)), (2, (t : Int))] (ac_R Y [(0, (ac_grp k E pin n [] 0 (if k = 2 then 5 else 63) : Int))] (fun m => ac_W0 m w n k E pin col obs ∧ ∀ k', (k' < w ∨ w + 14 < k') → m k' = mm k')) := by
  have hW9 := hW
  obtain ⟨⟨kw, rw0, rw1, rw2, rw3, rw4, rw5, rw6⟩, ⟨k14, k15, k16, k17⟩, hS, hC, hT⟩ := hW
  have kt0 := hT.1
  have kc0 := hC.1
  have ks0 := hS.1
  refine ac_met (on := (RX5, "countKinds")) rfl rfl (Nat.le_of_ble_eq_true rfl) (ls := [(2, (w : Int)), (2, (t : Int))]) rfl ?_
  refine ac_aload_n (q := 1) dX5_countKinds_0 rfl rfl ?_
  refine ac_aload_n (q := 2) dX5_countKinds_1 rfl rfl ?_
  refine ac_cv (q := 5) (k_X5_begin (d := d - 1) (by omega) hW9 hRC hRS hT9 hRT0 hwo) ml_X5_58 (by assumption) dX5_countKinds_2 rfl rfl rfl (by omega) (Nat.le_of_ble_eq_true rfl) (Nat.zero_le _) (Nat.zero_le _) (fun m1 h1 => ?_)
  obtain ⟨h1, cl1, f1⟩ := h1
  obtain ⟨⟨⟨hn1, hn2⟩, hkk, -, -, hpr, -⟩, t3, t4, -⟩ := id h1.1
  refine ac_aload_n (q := 6) dX5_countKinds_5 rfl rfl ?_
  refine ac_iconst (q := 7) dX5_countKinds_6 rfl ?_
  refine ac_put (q := 10) dX5_countKinds_7 fl_X5_148 (by assumption) rfl rfl ?_
  refine ac_aload_n (q := 11) dX5_countKinds_10 rfl rfl ?_
  refine ac_iconst (q := 12) dX5_countKinds_11 rfl ?_
  refine ac_iconst (q := 13) dX5_countKinds_12 rfl ?_
  refine ac_bipush (q := 15) dX5_countKinds_13 rfl (by decide) ?_
  refine ac_cs (q := 18) (k_X5_group hW9 n (d - 1) (ac_up m1 w 14 0) [] 0 63 (by omega) (ac_W0_keep h1 (fun k' a1 a2 => by funext j; exact ac_up_k (by omega))) (ac_cl_keep cl1 (by funext j; exact ac_up_k (by omega))) (by simp) (by omega) (by omega)) ml_X5_151 dX5_countKinds_15 rfl rfl rfl (by omega) (Nat.le_of_ble_eq_true rfl) (Nat.zero_le _) (Nat.zero_le _) (fun m2 h2 => ?_)
  obtain ⟨g2, cl2, f2⟩ := h2
  rw [ac_up_s, Int.zero_add, ac_grp_all hkk hpr] at g2
  refine ac_aload_n (q := 19) dX5_countKinds_18 rfl rfl ?_
  refine ac_get (q := 22) dX5_countKinds_19 fl_X5_148 kw rfl (ac_rdi rfl g2) ?_
  refine ac_ireturn dX5_countKinds_22 rfl (Nat.zero_le _) (Nat.zero_le _) ?_
  refine ⟨rfl, rfl, ac_W0_keep h1 (fun k' a1 a2 => ?_), fun k' a1 => ?_⟩
  · funext j; rw [f2 _ _ (Or.inl (by omega)) (by omega), ac_up_k (by omega)]
  · rw [← f1 k' (by omega)]; funext j; rw [f2 _ _ (Or.inl (by omega)) (by omega), ac_up_k (by omega)]

set_option maxHeartbeats 8000000 in
theorem k_X5_mark {G : ac_G} {Y : ac_Y} {mm : ac_M} {d w : Nat} {n k : Nat} {E : List ac_Eq} {pin : Nat → Int} {col : Option (List Nat)} {obs : List ac_Ob} (hd : 2 ≤ d) (hW : ac_isW Y w) (h0 : ac_W0 mm w n k E pin col obs) {l : List Nat} (hcl : ac_cl mm (w + 14) l) (hl : l.length = n) : ac_C G yX5_mark cX5_mark 6 none d 0 0 Y mm [(2, (w : Int))] (ac_R Y [] (fun m => m = ac_up mm (w + 17) (ac_brk E l) (mm (w + 17) (ac_brk E l) + 1))) := by
  have hW9 := hW
  obtain ⟨⟨kw, rw0, rw1, rw2, rw3, rw4, rw5, rw6⟩, ⟨k14, k15, k16, k17⟩, hS, hC, hT⟩ := hW
  have kt0 := hT.1
  have kc0 := hC.1
  have ks0 := hS.1
  have h09 := h0
  obtain ⟨hRT, hRC, hRS⟩ := h0
  obtain ⟨⟨⟨hn1, hn2⟩, ⟨hkk1, hkk2⟩, hE, hp0, hpr, hc0⟩, t3, t4, t5, t6, tE, tp, tcb, tc⟩ := id hRT
  have hbk := ac_brk_lt (E := E) l hE.1
  refine ac_met (on := (RX5, "mark")) rfl rfl (Nat.le_of_ble_eq_true rfl) (ls := [(2, (w : Int)), (3, 0), (3, 0), (3, 0), (3, 0), (3, 0)]) rfl ?_
  refine ac_iconst (q := 1) dX5_mark_0 rfl ?_
  refine ac_istore_n (q := 2) (j := 1) rfl dX5_mark_1 rfl (Nat.le_of_ble_eq_true rfl) rfl rfl ?_
  simp only [List.set_cons_succ, List.set_cons_zero]
  refine ac_aload_n (q := 3) dX5_mark_2 rfl rfl ?_
  refine ac_get (q := 6) dX5_mark_3 fl_X5_32 (by assumption) rfl (ac_rdr rfl (by assumption)) ?_
  refine ac_astore_n (q := 7) (j := 2) rfl dX5_mark_6 rfl (Nat.le_of_ble_eq_true rfl) rfl rfl ?_
  simp only [List.set_cons_succ, List.set_cons_zero]
  refine ac_aload_n (q := 8) dX5_mark_7 rfl rfl ?_
  refine ac_alen (q := 9) dX5_mark_8 k14 (by decide) rfl ?_
  refine ac_top (w' := (0, 3)) rfl ?_
  refine ac_istore_n (q := 10) (j := 3) rfl dX5_mark_9 rfl (Nat.le_of_ble_eq_true rfl) rfl rfl ?_
  simp only [List.set_cons_succ, List.set_cons_zero]
  refine ac_iconst (q := 11) dX5_mark_10 rfl ?_
  refine ac_istore (q := 13) dX5_mark_11 rfl (Nat.le_of_ble_eq_true rfl) rfl rfl ?_
  simp only [List.set_cons_succ, List.set_cons_zero]
  refine ac_iload (q := 15) dX5_mark_13 rfl rfl ?_
  refine ac_iload_n (q := 16) dX5_mark_15 rfl rfl ?_
  refine ac_icmp_ge (q := 19) (tgt := 43) dX5_mark_16 rfl rfl ⟨by omega, by omega⟩ ⟨by omega, by omega⟩ (fun h16 => ?_) (fun h16 => ?_)
  · exact absurd h16 (by decide)
  · refine ac_aload_n (q := 20) dX5_mark_19 rfl rfl ?_
    refine ac_iload (q := 22) dX5_mark_20 rfl rfl ?_
    refine ac_ialoadN (q := 23) (j := 0) (v := ((ac_set l 0 : Nat) : Int)) dX5_mark_22 k14 (by decide) (by decide) rfl (hcl _ (by decide)) ?_
    refine ac_istore (q := 25) dX5_mark_23 rfl (Nat.le_of_ble_eq_true rfl) rfl rfl ?_
    simp only [List.set_cons_succ, List.set_cons_zero]
    refine ac_iload_n (q := 26) dX5_mark_25 rfl rfl ?_
    refine ac_aload_n (q := 27) dX5_mark_26 rfl rfl ?_
    refine ac_get (q := 30) dX5_mark_27 fl_X5_21 (by assumption) rfl (ac_rdr rfl (by assumption)) ?_
    refine ac_iload (q := 32) dX5_mark_30 rfl rfl ?_
    refine ac_cvp (q := 35) (k_X0_in (c := w + 4) (d := d - 1) (S := ac_set l 0) (by omega) hC hRC (ac_set_lt _ (by omega)) (ac_set_0 _ _)) ml_X5_136 (by assumption) dX5_mark_32 rfl rfl rfl (by omega) (Nat.le_of_ble_eq_true rfl) (Nat.zero_le _) (Nat.zero_le _) ?_
    refine ac_ior (q := 36) (a := 0) dX5_mark_35 rfl ?_
    refine ac_istore_n (q := 37) (j := 1) rfl dX5_mark_36 rfl (Nat.le_of_ble_eq_true rfl) rfl rfl ?_
    simp only [List.set_cons_succ, List.set_cons_zero]
    refine ac_iinc (q := 40) (v := 1) dX5_mark_37 rfl (Nat.le_of_ble_eq_true rfl) rfl rfl rfl rfl ?_
    simp only [List.set_cons_succ, List.set_cons_zero]
    refine ac_goto (q := 13) dX5_mark_40 rfl ?_
    refine ac_iload (q := 15) dX5_mark_13 rfl rfl ?_
    refine ac_iload_n (q := 16) dX5_mark_15 rfl rfl ?_
    refine ac_icmp_ge (q := 19) (tgt := 43) dX5_mark_16 rfl rfl ⟨by omega, by omega⟩ ⟨by omega, by omega⟩ (fun h16 => ?_) (fun h16 => ?_)
    · exact absurd h16 (by decide)
    · refine ac_aload_n (q := 20) dX5_mark_19 rfl rfl ?_
      refine ac_iload (q := 22) dX5_mark_20 rfl rfl ?_
      refine ac_ialoadN (q := 23) (j := 1) (v := ((ac_set l 1 : Nat) : Int)) dX5_mark_22 k14 (by decide) (by decide) rfl (hcl _ (by decide)) ?_
      refine ac_istore (q := 25) dX5_mark_23 rfl (Nat.le_of_ble_eq_true rfl) rfl rfl ?_
      simp only [List.set_cons_succ, List.set_cons_zero]
      refine ac_iload_n (q := 26) dX5_mark_25 rfl rfl ?_
      refine ac_aload_n (q := 27) dX5_mark_26 rfl rfl ?_
      refine ac_get (q := 30) dX5_mark_27 fl_X5_21 (by assumption) rfl (ac_rdr rfl (by assumption)) ?_
      refine ac_iload (q := 32) dX5_mark_30 rfl rfl ?_
      refine ac_cvp (q := 35) (k_X0_in (c := w + 4) (d := d - 1) (S := ac_set l 1) (by omega) hC hRC (ac_set_lt _ (by omega)) (ac_set_0 _ _)) ml_X5_136 (by assumption) dX5_mark_32 rfl rfl rfl (by omega) (Nat.le_of_ble_eq_true rfl) (Nat.zero_le _) (Nat.zero_le _) ?_
      refine ac_ior (q := 36) dX5_mark_35 rfl ?_
      refine ac_istore_n (q := 37) (j := 1) rfl dX5_mark_36 rfl (Nat.le_of_ble_eq_true rfl) rfl rfl ?_
      simp only [List.set_cons_succ, List.set_cons_zero]
      refine ac_iinc (q := 40) (v := 2) dX5_mark_37 rfl (Nat.le_of_ble_eq_true rfl) rfl rfl rfl rfl ?_
      simp only [List.set_cons_succ, List.set_cons_zero]
      refine ac_goto (q := 13) dX5_mark_40 rfl ?_
      refine ac_iload (q := 15) dX5_mark_13 rfl rfl ?_
      refine ac_iload_n (q := 16) dX5_mark_15 rfl rfl ?_
      refine ac_icmp_ge (q := 19) (tgt := 43) dX5_mark_16 rfl rfl ⟨by omega, by omega⟩ ⟨by omega, by omega⟩ (fun h16 => ?_) (fun h16 => ?_)
      · exact absurd h16 (by decide)
      · refine ac_aload_n (q := 20) dX5_mark_19 rfl rfl ?_
        refine ac_iload (q := 22) dX5_mark_20 rfl rfl ?_
        refine ac_ialoadN (q := 23) (j := 2) (v := ((ac_set l 2 : Nat) : Int)) dX5_mark_22 k14 (by decide) (by decide) rfl (hcl _ (by decide)) ?_
        refine ac_istore (q := 25) dX5_mark_23 rfl (Nat.le_of_ble_eq_true rfl) rfl rfl ?_
        simp only [List.set_cons_succ, List.set_cons_zero]
        refine ac_iload_n (q := 26) dX5_mark_25 rfl rfl ?_
        refine ac_aload_n (q := 27) dX5_mark_26 rfl rfl ?_
        refine ac_get (q := 30) dX5_mark_27 fl_X5_21 (by assumption) rfl (ac_rdr rfl (by assumption)) ?_
        refine ac_iload (q := 32) dX5_mark_30 rfl rfl ?_
        refine ac_cvp (q := 35) (k_X0_in (c := w + 4) (d := d - 1) (S := ac_set l 2) (by omega) hC hRC (ac_set_lt _ (by omega)) (ac_set_0 _ _)) ml_X5_136 (by assumption) dX5_mark_32 rfl rfl rfl (by omega) (Nat.le_of_ble_eq_true rfl) (Nat.zero_le _) (Nat.zero_le _) ?_
        refine ac_ior (q := 36) dX5_mark_35 rfl ?_
        refine ac_istore_n (q := 37) (j := 1) rfl dX5_mark_36 rfl (Nat.le_of_ble_eq_true rfl) rfl rfl ?_
        simp only [List.set_cons_succ, List.set_cons_zero]
        refine ac_iinc (q := 40) (v := 3) dX5_mark_37 rfl (Nat.le_of_ble_eq_true rfl) rfl rfl rfl rfl ?_
        simp only [List.set_cons_succ, List.set_cons_zero]
        refine ac_goto (q := 13) dX5_mark_40 rfl ?_
        refine ac_iload (q := 15) dX5_mark_13 rfl rfl ?_
        refine ac_iload_n (q := 16) dX5_mark_15 rfl rfl ?_
        refine ac_icmp_ge (q := 19) (tgt := 43) dX5_mark_16 rfl rfl ⟨by omega, by omega⟩ ⟨by omega, by omega⟩ (fun h16 => ?_) (fun h16 => ?_)
        · refine ac_ls (ls' := [(2, (w : Int)), (0, ((ac_brk E l : Nat) : Int)), (2, ((w + 14 : Nat) : Int)), (0, 3), (0, 3), _]) (by unfold ac_brk; rw [Nat.zero_or]) ?_
          refine ac_iload_n (q := 44) dX5_mark_43 rfl rfl ?_
          refine ac_if_lt (q := 47) (tgt := 66) dX5_mark_44 rfl rfl ⟨by omega, by omega⟩ (fun h44 => ?_) (fun h44 => ?_)
          · exfalso; omega
          · refine ac_iload_n (q := 48) dX5_mark_47 rfl rfl ?_
            refine ac_aload_n (q := 49) dX5_mark_48 rfl rfl ?_
            refine ac_get (q := 52) dX5_mark_49 fl_X5_42 (by assumption) rfl (ac_rdr rfl (by assumption)) ?_
            refine ac_alen (q := 53) dX5_mark_52 (by assumption) (by decide) rfl ?_
            refine ac_icmp_ge (q := 56) (tgt := 66) dX5_mark_53 rfl rfl ⟨by omega, by omega⟩ ⟨by omega, by omega⟩ (fun h53 => ?_) (fun h53 => ?_)
            · exfalso; omega
            · refine ac_aload_n (q := 57) dX5_mark_56 rfl rfl ?_
              refine ac_get (q := 60) dX5_mark_57 fl_X5_42 (by assumption) rfl (ac_rdr rfl (by assumption)) ?_
              refine ac_iload_n (q := 61) dX5_mark_60 rfl rfl ?_
              refine ac_dup2_11 (q := 62) dX5_mark_61 rfl (show (0 : Nat) ≠ 1 by decide) (show (2 : Nat) ≠ 1 by decide) ?_
              refine ac_ialoadN (q := 63) (j := ac_brk E l) (v := mm (w + 17) (ac_brk E l)) dX5_mark_62 k17 (by decide) hbk rfl rfl ?_
              refine ac_iconst (q := 64) dX5_mark_63 rfl ?_
              refine ac_iadd (q := 65) dX5_mark_64 rfl ?_
              refine ac_iastoreN (q := 66) (j := ac_brk E l) dX5_mark_65 k17 (by decide) hbk rfl ?_
              refine ac_return dX5_mark_66 rfl (Nat.zero_le _) (Nat.zero_le _) ?_
              exact ⟨rfl, rfl, rfl⟩
        · exact absurd h16 (by decide)

set_option maxHeartbeats 8000000 in
theorem k_X5_spread {G : ac_G} {Y : ac_Y} {w : Nat} {n k : Nat} {E : List ac_Eq} {pin : Nat → Int} {col : Option (List Nat)} {obs : List ac_Ob} (hW : ac_isW Y w) : ∀ (f d : Nat) (mm : ac_M) (l : List Nat), f + 3 ≤ d → ac_W0 mm w n k E pin col obs → ac_cl mm (w + 14) l → l.length + f = n → ac_C G yX5_spread cX5_spread 3 none d 0 0 Y mm [(2, (w : Int)), (0, ((l.length + 1 : Nat) : Int))] (ac_R Y [] (fun m => (∀ j, m (w + 17) j = mm (w + 17) j + (ac_tl E (ac_ext (ac_pinA k pin) f l) j : Int)) ∧ ac_cl m (w + 14) l ∧ ∀ k', k' ≠ w + 14 → k' ≠ w + 17 → m k' = mm k')) := by
  intro f
  induction f with
  | zero =>
    intro d mm l hd h0 hcl hl
    have hW9 := hW
    obtain ⟨⟨kw, rw0, rw1, rw2, rw3, rw4, rw5, rw6⟩, ⟨k14, k15, k16, k17⟩, hS, hC, hT⟩ := hW
    have kt0 := hT.1
    have kc0 := hC.1
    have ks0 := hS.1
    have h09 := h0
    obtain ⟨hRT, hRC, hRS⟩ := h0
    obtain ⟨⟨⟨hn1, hn2⟩, ⟨hkk1, hkk2⟩, hE, hp0, hpr, hc0⟩, t3, t4, t5, t6, tE, tp, tcb, tc⟩ := id hRT
    refine ac_met (on := (RX5, "spread")) rfl rfl (Nat.le_of_ble_eq_true rfl) (ls := [(2, (w : Int)), (0, ((l.length + 1 : Nat) : Int)), (3, 0)]) rfl ?_
    refine ac_aload_n (q := 1) dX5_spread_0 rfl rfl ?_
    refine ac_get (q := 4) dX5_spread_1 fl_X5_28 (by assumption) rfl (ac_rdr rfl (by assumption)) ?_
    refine ac_iload_n (q := 5) dX5_spread_4 rfl rfl ?_
    refine ac_cvp (q := 8) (k_X3_has (t := w + 10) (d := d - 1) (by omega) hT hRT ⟨by omega, by omega⟩) ml_X5_93 (by assumption) dX5_spread_5 rfl rfl rfl (by omega) (Nat.le_of_ble_eq_true rfl) (Nat.zero_le _) (Nat.zero_le _) ?_
    refine ac_bif_ne (q := 11) (tgt := 16) dX5_spread_8 rfl rfl (fun h8 => ?_) (fun h8 => ?_)
    · exfalso; omega
    · refine ac_aload_n (q := 12) dX5_spread_11 rfl rfl ?_
      refine ac_cv (q := 15) (k_X5_mark (d := d - 1) (by omega) hW9 h09 hcl (by omega)) ml_X5_176 (by assumption) dX5_spread_12 rfl rfl rfl (by omega) (Nat.le_of_ble_eq_true rfl) (Nat.zero_le _) (Nat.zero_le _) (fun m1 h1 => ?_)
      subst h1
      refine ac_return dX5_spread_15 rfl (Nat.zero_le _) (Nat.zero_le _) ?_
      refine ⟨rfl, rfl, fun j => ?_, ac_cl_keep hcl (by funext j; exact ac_up_k (by omega)), fun k' a1 a2 => by funext j; exact ac_up_k a2⟩
      have e : ac_tl E (ac_ext (ac_pinA k pin) 0 l) j = if ac_brk E l = j then 1 else 0 := by unfold ac_tl; rw [ac_ext, List.countP_cons]; simp
      rw [e]
      by_cases hj : ac_brk E l = j
      · subst hj; rw [ac_up_s, if_pos rfl]; rfl
      · rw [ac_up_j (fun q => hj q.symm), if_neg hj]; simp
  | succ f ih =>
    intro d mm l hd h0 hcl hl
    have hW9 := hW
    obtain ⟨⟨kw, rw0, rw1, rw2, rw3, rw4, rw5, rw6⟩, ⟨k14, k15, k16, k17⟩, hS, hC, hT⟩ := hW
    have kt0 := hT.1
    have kc0 := hC.1
    have ks0 := hS.1
    have h09 := h0
    obtain ⟨hRT, hRC, hRS⟩ := h0
    obtain ⟨⟨⟨hn1, hn2⟩, ⟨hkk1, hkk2⟩, hE, hp0, hpr, hc0⟩, t3, t4, t5, t6, tE, tp, tcb, tc⟩ := id hRT
    rw [ac_ext_s]
    have loop : ∀ (r c : Nat) (m : ac_M), c + r = 3 → (∀ j, m (w + 17) j = mm (w + 17) j + (ac_tl E (ac_gl (ac_pinA k pin) f l c) j : Int)) → ac_cl m (w + 14) l → (∀ k', k' ≠ w + 14 → k' ≠ w + 17 → m k' = mm k') → ac_V G (RX5, "spread") cX5_spread 3 none d 0 0 (ac_R Y [] (fun m => (∀ j, m (w + 17) j = mm (w + 17) j + (ac_tl E (ac_gl (ac_pinA k pin) f l 3) j : Int)) ∧ ac_cl m (w + 14) l ∧ ∀ k', k' ≠ w + 14 → k' ≠ w + 17 → m k' = mm k')) 0 0 Y m 18 [(2, (w : Int)), (0, ((l.length + 1 : Nat) : Int)), (0, (c : Int))] [] := by
      intro r
      induction r with
      | zero =>
        intro c m hc hcnt hclm hfr
        obtain rfl : c = 3 := by omega
        refine ac_iload_n (q := 19) dX5_spread_18 rfl rfl ?_
        refine ac_iconst (q := 20) dX5_spread_19 rfl ?_
        refine ac_icmp_ge (q := 23) (tgt := 60) dX5_spread_20 rfl rfl ⟨by omega, by omega⟩ ⟨by omega, by omega⟩ (fun h20 => ?_) (fun h20 => ?_)
        · refine ac_return dX5_spread_60 rfl (Nat.zero_le _) (Nat.zero_le _) ?_
          exact ⟨rfl, rfl, hcnt, hclm, hfr⟩
        · exfalso; omega
      | succ r ihr =>
        intro c m hc hcnt hclm hfr
        have ec : ((c : Nat) : Int) + 1 = ((c + 1 : Nat) : Int) := rfl
        have h0m : ac_W0 m w n k E pin col obs := ac_W0_keep h09 (fun k' a1 a2 => hfr _ (by omega) (by omega))
        have hlen1 : (l ++ [c]).length = l.length + 1 := by rw [List.length_append]; rfl
        refine ac_iload_n (q := 19) dX5_spread_18 rfl rfl ?_
        refine ac_iconst (q := 20) dX5_spread_19 rfl ?_
        refine ac_icmp_ge (q := 23) (tgt := 60) dX5_spread_20 rfl rfl ⟨by omega, by omega⟩ ⟨by omega, by omega⟩ (fun h20 => ?_) (fun h20 => ?_)
        · exfalso; omega
        · refine ac_aload_n (q := 24) dX5_spread_23 rfl rfl ?_
          refine ac_get (q := 27) dX5_spread_24 fl_X5_28 (by assumption) rfl (ac_rdr rfl (by assumption)) ?_
          refine ac_iload_n (q := 28) dX5_spread_27 rfl rfl ?_
          refine ac_iload_n (q := 29) dX5_spread_28 rfl rfl ?_
          refine ac_cvp (q := 32) (k_X3_allows (t := w + 10) (d := d - 1) (x := ((l.length + 1 : Nat) : Int)) (c := (c : Int)) (by omega) hT h0m.1 ⟨by omega, by omega⟩ ⟨by omega, by omega⟩) ml_X5_133 (by assumption) dX5_spread_29 rfl rfl rfl (by omega) (Nat.le_of_ble_eq_true rfl) (Nat.zero_le _) (Nat.zero_le _) ?_
          simp only [Int.toNat_natCast]
          refine ac_bif_eq (q := 35) (tgt := 54) dX5_spread_32 rfl rfl (fun h32 => ?_) (fun h32 => ?_)
          · refine ac_iinc (q := 57) dX5_spread_54 rfl (Nat.le_of_ble_eq_true rfl) rfl rfl rfl rfl ?_
            simp only [List.set_cons_succ, List.set_cons_zero]
            refine ac_goto (q := 18) dX5_spread_57 rfl ?_
            have hng : ¬ (ac_pinA k pin) l c = true := fun q => by
              obtain ⟨q1, q2⟩ := ac_pinA_iff.mp q
              exact h32 ⟨by omega, by omega, q2⟩
            exact ac_ls (by rw [ec]) (ihr (c + 1) m (by omega) (by rw [ac_gl_n hng]; exact hcnt) hclm hfr)
          · refine ac_aload_n (q := 36) dX5_spread_35 rfl rfl ?_
            refine ac_iload_n (q := 37) dX5_spread_36 rfl rfl ?_
            refine ac_iload_n (q := 38) dX5_spread_37 rfl rfl ?_
            refine ac_cv (q := 41) (k_X5_lay (d := d - 1) (by omega) hW9 hclm rfl (by omega) (by omega)) ml_X5_164 (by assumption) dX5_spread_38 rfl rfl rfl (by omega) (Nat.le_of_ble_eq_true rfl) (Nat.zero_le _) (Nat.zero_le _) (fun m1 h1 => ?_)
            obtain ⟨cl1, f1⟩ := h1
            refine ac_aload_n (q := 42) dX5_spread_41 rfl rfl ?_
            refine ac_iload_n (q := 43) dX5_spread_42 rfl rfl ?_
            refine ac_iconst (q := 44) dX5_spread_43 rfl ?_
            refine ac_iadd (q := 45) dX5_spread_44 rfl ?_
            refine ac_cs (q := 48) (ih (d - 1) m1 (l ++ [c]) (by omega) (ac_W0_keep h0m (fun k' a1 a2 => f1 k' (by omega))) cl1 (by omega)) ml_X5_173 dX5_spread_45 rfl (by rw [hlen1]; rfl) rfl (by omega) (Nat.le_of_ble_eq_true rfl) (Nat.zero_le _) (Nat.zero_le _) (fun m2 h2 => ?_)
            obtain ⟨g2, cl2, f2⟩ := h2
            refine ac_aload_n (q := 49) dX5_spread_48 rfl rfl ?_
            refine ac_iload_n (q := 50) dX5_spread_49 rfl rfl ?_
            refine ac_iload_n (q := 51) dX5_spread_50 rfl rfl ?_
            refine ac_cv (q := 54) (k_X5_lift (d := d - 1) (by omega) hW9 cl2 rfl (by omega) (by omega)) ml_X5_104 (by assumption) dX5_spread_51 rfl rfl rfl (by omega) (Nat.le_of_ble_eq_true rfl) (Nat.zero_le _) (Nat.zero_le _) (fun m3 h3 => ?_)
            obtain ⟨cl3, f3⟩ := h3
            refine ac_iinc (q := 57) dX5_spread_54 rfl (Nat.le_of_ble_eq_true rfl) rfl rfl rfl rfl ?_
            simp only [List.set_cons_succ, List.set_cons_zero]
            refine ac_goto (q := 18) dX5_spread_57 rfl ?_
            have hyg : (ac_pinA k pin) l c = true := ac_pinA_iff.mpr ⟨by omega, h32.2.2⟩
            refine ac_ls (by rw [ec]) (ihr (c + 1) m3 (by omega) (fun j => ?_) cl3 (fun k' a1 a2 => ?_))
            · rw [ac_gl, if_pos hyg, ac_tl_app, f3 _ (by omega), g2, f1 _ (by omega), hcnt]; omega
            · rw [f3 k' a1, f2 k' a1 a2, f1 k' a1, hfr k' a1 a2]
    refine ac_met (on := (RX5, "spread")) rfl rfl (Nat.le_of_ble_eq_true rfl) (ls := [(2, (w : Int)), (0, ((l.length + 1 : Nat) : Int)), (3, 0)]) rfl ?_
    refine ac_aload_n (q := 1) dX5_spread_0 rfl rfl ?_
    refine ac_get (q := 4) dX5_spread_1 fl_X5_28 (by assumption) rfl (ac_rdr rfl (by assumption)) ?_
    refine ac_iload_n (q := 5) dX5_spread_4 rfl rfl ?_
    refine ac_cvp (q := 8) (k_X3_has (t := w + 10) (d := d - 1) (by omega) hT hRT ⟨by omega, by omega⟩) ml_X5_93 (by assumption) dX5_spread_5 rfl rfl rfl (by omega) (Nat.le_of_ble_eq_true rfl) (Nat.zero_le _) (Nat.zero_le _) ?_
    refine ac_bif_ne (q := 11) (tgt := 16) dX5_spread_8 rfl rfl (fun h8 => ?_) (fun h8 => ?_)
    · refine ac_iconst (q := 17) dX5_spread_16 rfl ?_
      refine ac_istore_n (q := 18) (j := 2) rfl dX5_spread_17 rfl (Nat.le_of_ble_eq_true rfl) rfl rfl ?_
      simp only [List.set_cons_succ, List.set_cons_zero]
      exact loop 3 0 mm rfl (fun j => by show _ = _ + ((0 : Nat) : Int); simp) hcl (fun _ _ _ => rfl)
    · exfalso; omega

set_option maxHeartbeats 8000000 in
theorem k_X5_tally {G : ac_G} {Y : ac_Y} {mm : ac_M} {d w : Nat} {n k : Nat} {E : List ac_Eq} {pin : Nat → Int} {col : Option (List Nat)} {obs : List ac_Ob} (hd : 16 ≤ d) (hW : ac_isW Y w) {t : Nat} {E0 : List ac_Eq} (hRC : ac_RC mm (w + 4) E0) (hRS : ac_RS mm (w + 1) obs) (hT9 : ac_isT Y t) (hRT0 : ac_RT mm t n k E pin col) (hwo : t + 4 ≤ w ∨ w + 18 ≤ t) : ac_C G yX5_tally cX5_tally 2 none d 0 0 Y mm [(2, (w : Int)), (2, (t : Int))] (ac_R Y [] (fun m => ac_W0 m w n k E pin col obs ∧ (∀ j, j < 16 → m (w + 17) j = (ac_tl E (ac_ext (ac_pinA k pin) n []) j : Int)) ∧ ∀ k', (k' < w ∨ w + 17 < k') → m k' = mm k')) := by
  have hW9 := hW
  obtain ⟨⟨kw, rw0, rw1, rw2, rw3, rw4, rw5, rw6⟩, ⟨k14, k15, k16, k17⟩, hS, hC, hT⟩ := hW
  have kt0 := hT.1
  have kc0 := hC.1
  have ks0 := hS.1
  refine ac_met (on := (RX5, "tally")) rfl rfl (Nat.le_of_ble_eq_true rfl) (ls := [(2, (w : Int)), (2, (t : Int))]) rfl ?_
  refine ac_aload_n (q := 1) dX5_tally_0 rfl rfl ?_
  refine ac_aload_n (q := 2) dX5_tally_1 rfl rfl ?_
  refine ac_cv (q := 5) (k_X5_begin (d := d - 1) (by omega) hW9 hRC hRS hT9 hRT0 hwo) ml_X5_58 (by assumption) dX5_tally_2 rfl rfl rfl (by omega) (Nat.le_of_ble_eq_true rfl) (Nat.zero_le _) (Nat.zero_le _) (fun m1 h1 => ?_)
  obtain ⟨h1, cl1, f1⟩ := h1
  have hn2 : n ≤ 10 := h1.1.1.1.2
  refine ac_aload_n (q := 6) dX5_tally_5 rfl rfl ?_
  refine ac_get (q := 9) dX5_tally_6 fl_X5_42 (by assumption) rfl (ac_rdr rfl (by assumption)) ?_
  refine ac_iconst (q := 10) dX5_tally_9 rfl ?_
  refine ac_cs (q := 13) (k_fill (d := d - 1) (by omega) k17 (by decide)) ml_X5_52 dX5_tally_10 rfl rfl rfl (by omega) (Nat.le_of_ble_eq_true rfl) (Nat.zero_le _) (Nat.zero_le _) (fun m2 h2 => ?_)
  subst h2
  have fl : ∀ k', k' ≠ w + 17 → ac_fl m1 (w + 17) 16 0 k' = m1 k' := fun k' hk' => by funext j; exact if_neg (fun q => hk' q.1)
  refine ac_aload_n (q := 14) dX5_tally_13 rfl rfl ?_
  refine ac_iconst (q := 15) dX5_tally_14 rfl ?_
  refine ac_cs (q := 18) (k_X5_spread hW9 n (d - 1) (ac_fl m1 (w + 17) 16 0) [] (by omega) (ac_W0_keep h1 (fun k' a1 a2 => fl k' (by omega))) (ac_cl_keep cl1 (fl _ (by omega))) (by simp)) ml_X5_173 dX5_tally_15 rfl rfl rfl (by omega) (Nat.le_of_ble_eq_true rfl) (Nat.zero_le _) (Nat.zero_le _) (fun m3 h3 => ?_)
  obtain ⟨g3, cl3, f3⟩ := h3
  refine ac_return dX5_tally_18 rfl (Nat.zero_le _) (Nat.zero_le _) ?_
  refine ⟨rfl, rfl, ac_W0_keep h1 (fun k' a1 a2 => ?_), fun j hj => ?_, fun k' a1 => ?_⟩
  · rw [f3 _ (by omega) (by omega), fl _ (by omega)]
  · rw [g3, show ac_fl m1 (w + 17) 16 0 (w + 17) j = 0 from if_pos ⟨rfl, hj⟩, Int.zero_add]
  · rw [f3 _ (by omega) (by omega), fl _ (by omega), f1 _ (by omega)]

set_option maxHeartbeats 8000000 in
theorem k_X5_heeding {G : ac_G} {Y : ac_Y} {mm : ac_M} {d w e : Nat} {t : Nat → Nat} (hd : 1 ≤ d) (hW : ac_isW Y w) (ht : ∀ j, j < 16 → mm (w + 17) j = (t j : Int)) : ac_C G yX5_heeding cX5_heeding 4 (some .int) d 0 0 Y mm [(2, (w : Int)), (0, (e : Int))] (ac_R Y [(0, ((ac_hs t e 16 : Nat) : Int))] (fun m => m = mm)) := by
  have hW9 := hW
  obtain ⟨⟨kw, rw0, rw1, rw2, rw3, rw4, rw5, rw6⟩, ⟨k14, k15, k16, k17⟩, hS, hC, hT⟩ := hW
  have kt0 := hT.1
  have kc0 := hC.1
  have ks0 := hS.1
  have loop : ∀ (r i : Nat), i + r = 16 → ac_V G (RX5, "heeding") cX5_heeding 4 (some .int) d 0 0 (ac_R Y [(0, ((ac_hs t e 16 : Nat) : Int))] (fun m => m = mm)) 0 0 Y mm 4 [(2, (w : Int)), (0, (e : Int)), (0, ((ac_hs t e i : Nat) : Int)), (0, (i : Int))] [] := by
    intro r
    induction r with
    | zero =>
      intro i hi
      obtain rfl : i = 16 := by omega
      refine ac_iload_n (q := 5) dX5_heeding_4 rfl rfl ?_
      refine ac_aload_n (q := 6) dX5_heeding_5 rfl rfl ?_
      refine ac_get (q := 9) dX5_heeding_6 fl_X5_42 (by assumption) rfl (ac_rdr rfl (by assumption)) ?_
      refine ac_alen (q := 10) dX5_heeding_9 (by assumption) (by decide) rfl ?_
      refine ac_icmp_ge (q := 13) (tgt := 34) dX5_heeding_10 rfl rfl ⟨by omega, by omega⟩ ⟨by omega, by omega⟩ (fun h10 => ?_) (fun h10 => ?_)
      · refine ac_iload_n (q := 35) dX5_heeding_34 rfl rfl ?_
        refine ac_ireturn dX5_heeding_35 rfl (Nat.zero_le _) (Nat.zero_le _) ?_
        exact ⟨rfl, rfl, rfl⟩
      · exfalso; omega
    | succ r ih =>
      intro i hi
      have ei : ((i : Nat) : Int) + 1 = ((i + 1 : Nat) : Int) := rfl
      have hle : i &&& e ≤ i := Nat.and_le_left
      have hs := ih (i + 1) (by omega)
      have hS : ac_hs t e (i + 1) = ac_hs t e i + if i &&& e = 0 then t i else 0 := rfl
      refine ac_iload_n (q := 5) dX5_heeding_4 rfl rfl ?_
      refine ac_aload_n (q := 6) dX5_heeding_5 rfl rfl ?_
      refine ac_get (q := 9) dX5_heeding_6 fl_X5_42 (by assumption) rfl (ac_rdr rfl (by assumption)) ?_
      refine ac_alen (q := 10) dX5_heeding_9 (by assumption) (by decide) rfl ?_
      refine ac_icmp_ge (q := 13) (tgt := 34) dX5_heeding_10 rfl rfl ⟨by omega, by omega⟩ ⟨by omega, by omega⟩ (fun h10 => ?_) (fun h10 => ?_)
      · exfalso; omega
      · refine ac_iload_n (q := 14) dX5_heeding_13 rfl rfl ?_
        refine ac_iload_n (q := 15) dX5_heeding_14 rfl rfl ?_
        refine ac_iand (q := 16) dX5_heeding_15 rfl ?_
        refine ac_if_ne (q := 19) (tgt := 28) dX5_heeding_16 rfl rfl ⟨by omega, by omega⟩ (fun h16 => ?_) (fun h16 => ?_)
        · rw [if_neg (by omega)] at hS
          rw [hS] at hs
          refine ac_iinc (q := 31) dX5_heeding_28 rfl (Nat.le_of_ble_eq_true rfl) rfl rfl rfl rfl ?_
          simp only [List.set_cons_succ, List.set_cons_zero]
          refine ac_goto (q := 4) dX5_heeding_31 rfl ?_
          exact ac_ls (by rw [ei]; rfl) hs
        · rw [if_pos (by omega)] at hS
          rw [hS] at hs
          refine ac_iload_n (q := 20) dX5_heeding_19 rfl rfl ?_
          refine ac_aload_n (q := 21) dX5_heeding_20 rfl rfl ?_
          refine ac_get (q := 24) dX5_heeding_21 fl_X5_42 (by assumption) rfl (ac_rdr rfl (by assumption)) ?_
          refine ac_iload_n (q := 25) dX5_heeding_24 rfl rfl ?_
          refine ac_ialoadN (q := 26) (j := i) dX5_heeding_25 k17 (by decide) (by omega) rfl (ht i (by omega)) ?_
          refine ac_iadd (q := 27) dX5_heeding_26 rfl ?_
          refine ac_istore_n (q := 28) (j := 2) rfl dX5_heeding_27 rfl (Nat.le_of_ble_eq_true rfl) rfl rfl ?_
          simp only [List.set_cons_succ, List.set_cons_zero]
          refine ac_iinc (q := 31) dX5_heeding_28 rfl (Nat.le_of_ble_eq_true rfl) rfl rfl rfl rfl ?_
          simp only [List.set_cons_succ, List.set_cons_zero]
          refine ac_goto (q := 4) dX5_heeding_31 rfl ?_
          exact ac_ls (by rw [ei]; rfl) hs
  refine ac_met (on := (RX5, "heeding")) rfl rfl (Nat.le_of_ble_eq_true rfl) (ls := [(2, (w : Int)), (0, (e : Int)), (3, 0), (3, 0)]) rfl ?_
  refine ac_iconst (q := 1) dX5_heeding_0 rfl ?_
  refine ac_istore_n (q := 2) (j := 2) rfl dX5_heeding_1 rfl (Nat.le_of_ble_eq_true rfl) rfl rfl ?_
  simp only [List.set_cons_succ, List.set_cons_zero]
  refine ac_iconst (q := 3) dX5_heeding_2 rfl ?_
  refine ac_istore_n (q := 4) (j := 3) rfl dX5_heeding_3 rfl (Nat.le_of_ble_eq_true rfl) rfl rfl ?_
  simp only [List.set_cons_succ, List.set_cons_zero]
  exact loop 16 0 rfl
