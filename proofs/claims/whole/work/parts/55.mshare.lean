set_option maxHeartbeats 8000000 in
theorem k_X7_keep0 {G : ac_G} {Y : ac_Y} {mm : ac_M} {d x : Nat} {s : List Nat} {T : ac_Tk} {hs : List ac_Tk} {s0 s1 : Option ac_Tk} {obs : List ac_Ob} {ch : Int} (hd : 30 ≤ d) (hM : ac_isM Y x) (hR : ac_RM mm x s T hs s0 s1 obs ch)  : ac_C G yX7_keep cX7_keep 3 (some .int) d 0 0 Y mm [(2, (x : Int)), (0, 0)] (ac_R Y [(0, (T.1 : Int))] (fun m => ac_RM m x s T hs (some T) s1 obs ch ∧ ac_fM mm m x)) := by
  have hM9 := hM
  obtain ⟨kx, k1, k2, k3, k4, k5, k6, k7, k8, k9, k10, k11, k12, k13, k14, k15, k16⟩ := hM.2
  obtain ⟨-, ⟨hkk, hPg⟩, -⟩ := id hR
  obtain ⟨⟨⟨hn1, hn2⟩, ⟨hk2, hk3⟩, hE, hp0, hpr, hc0⟩, -⟩ := id hPg
  have hE4 := hE.1
  have hLn := ac_Lt_len T hn2
  have half : ∀ (m0 : ac_M), (∀ m, m = ac_cpn m0 (x + 3) 0 (x + 6) 0 39 → ac_V G (RX7, "keep") cX7_keep 3 (some .int) d 0 0 (ac_R Y [(0, (T.1 : Int))] (fun m => ac_RM m x s T hs (some T) s1 obs ch ∧ ac_fM mm m x)) 0 0 Y m 55 [(2, (x : Int)), (0, 0), (0, (39 : Int))] []) → ac_V G (RX7, "keep") cX7_keep 3 (some .int) d 0 0 (ac_R Y [(0, (T.1 : Int))] (fun m => ac_RM m x s T hs (some T) s1 obs ch ∧ ac_fM mm m x)) 0 0 Y m0 24 [(2, (x : Int)), (0, 0), (3, 0)] [] := by
    intro m0 hK
    have loop : (∀ m : ac_M, m = (ac_cpn m0 (x + 3) 0 (x + 6) 0 39) → ac_V G (RX7, "keep") cX7_keep 3 (some .int) d 0 0 (ac_R Y [(0, (T.1 : Int))] (fun m => ac_RM m x s T hs (some T) s1 obs ch ∧ ac_fM mm m x)) 0 0 Y m 55 [(2, (x : Int)), (0, 0), (0, (39 : Int))] []) → ∀ (f i : Nat), i + f = 39 → ac_V G (RX7, "keep") cX7_keep 3 (some .int) d 0 0 (ac_R Y [(0, (T.1 : Int))] (fun m => ac_RM m x s T hs (some T) s1 obs ch ∧ ac_fM mm m x)) 0 0 Y (ac_cpn m0 (x + 3) 0 (x + 6) 0 i) 26 [(2, (x : Int)), (0, 0), (0, (i : Int))] [] := by
      intro hK f
      induction f with
      | zero =>
        intro i hi
        refine ac_iload_n (q := 27) dX7_keep_26 rfl rfl ?_
        refine ac_bipush (q := 29) dX7_keep_27 rfl (by decide) ?_
        refine ac_icmp_ge (q := 32) (tgt := 55) dX7_keep_29 rfl rfl ⟨by omega, by omega⟩ ⟨by omega, by omega⟩ (fun h29 => ?_) (fun h29 => ?_)
        · obtain rfl : i = 39 := by omega
          exact hK _ rfl
        · exfalso; omega
      | succ f ih =>
        intro i hi
        have ei : ((i : Nat) : Int) + 1 = ((i + 1 : Nat) : Int) := rfl
        refine ac_iload_n (q := 27) dX7_keep_26 rfl rfl ?_
        refine ac_bipush (q := 29) dX7_keep_27 rfl (by decide) ?_
        refine ac_icmp_ge (q := 32) (tgt := 55) dX7_keep_29 rfl rfl ⟨by omega, by omega⟩ ⟨by omega, by omega⟩ (fun h29 => ?_) (fun h29 => ?_)
        · exfalso; omega
        · refine ac_aload_n (q := 33) dX7_keep_32 rfl rfl ?_
          refine ac_get (q := 36) dX7_keep_33 fl_X7_29 (by assumption) rfl (ac_rdr rfl hM9.1.2.2.2.2.2.1) ?_
          refine ac_bipush (q := 38) dX7_keep_36 rfl (by decide) ?_
          refine ac_iload_n (q := 39) dX7_keep_38 rfl rfl ?_
          refine ac_imul (q := 40) dX7_keep_39 rfl ?_
          refine ac_iload_n (q := 41) dX7_keep_40 rfl rfl ?_
          refine ac_iadd (q := 42) dX7_keep_41 rfl ?_
          refine ac_top (w' := (0, ((0 + i : Nat) : Int))) (congrArg (fun z : Int => ((0 : Nat), z)) (by omega)) ?_
          refine ac_aload_n (q := 43) dX7_keep_42 rfl rfl ?_
          refine ac_get (q := 46) dX7_keep_43 fl_X7_20 (by assumption) rfl (ac_rdr rfl hM9.1.2.2.1) ?_
          refine ac_iload_n (q := 47) dX7_keep_46 rfl rfl ?_
          refine ac_top (w' := (0, ((0 + i : Nat) : Int))) (congrArg (fun z : Int => ((0 : Nat), z)) (by omega)) ?_
          refine ac_ialoadN (q := 48) (j := 0 + i) (v := m0 (x + 3) (0 + i)) dX7_keep_47 k3 (by decide) (by omega) rfl (ac_cpn_rd (Or.inl (by omega))) ?_
          refine ac_iastoreN (q := 49) (j := 0 + i) dX7_keep_48 k6 (by decide) (by omega) rfl ?_
          rw [ac_cpn_s]
          refine ac_iinc (q := 52) dX7_keep_49 rfl (Nat.le_of_ble_eq_true rfl) rfl rfl rfl rfl ?_
          simp only [List.set_cons_succ, List.set_cons_zero]
          refine ac_goto (q := 26) dX7_keep_52 rfl ?_
          exact ac_ls (by rw [ei]) (ih (i + 1) (by omega))
    refine ac_iconst (q := 25) dX7_keep_24 rfl ?_
    refine ac_istore_n (q := 26) (j := 2) rfl dX7_keep_25 rfl (Nat.le_of_ble_eq_true rfl) rfl rfl ?_
    simp only [List.set_cons_succ, List.set_cons_zero]
    refine ac_mem (ac_cpn_0 (ra := x + 3) (oa := 0) (rb := x + 6) (ob := 0)).symm ?_
    exact loop hK 39 0 rfl
  refine ac_met (on := (RX7, "keep")) rfl rfl (Nat.le_of_ble_eq_true rfl) (ls := [(2, (x : Int)), (0, 0), (3, 0)]) rfl ?_
  refine ac_aload_n (q := 1) dX7_keep_0 rfl rfl ?_
  refine ac_iconst (q := 2) dX7_keep_1 rfl ?_
  refine ac_put (q := 5) dX7_keep_2 fl_X7_67 (by assumption) rfl rfl ?_
  have A0 := ac_up0_RM hR
  have F0 : ac_fM mm (ac_up mm x 0 0) x := ac_up0_fM
  generalize ac_up mm x 0 0 = m0 at *
  obtain ⟨q4, qP⟩ := A0.2.1
  obtain ⟨-, p0, p1, pE, pp, p28, pcb, pcl⟩ := id qP
  obtain ⟨⟨a1, a2, a3⟩, ⟨b1, b2⟩, ⟨c1, c2, c3⟩, ⟨⟨d1, d2⟩, d3, d4⟩, ⟨e1, e2, e3⟩, ff⟩ := id A0
  refine ac_iload_n (q := 6) dX7_keep_5 rfl rfl ?_
  refine ac_i2l (q := 7) dX7_keep_6 rfl ⟨by omega, by omega⟩ ?_
  refine ac_lconst (q := 8) (v := 0) dX7_keep_7 rfl (by decide) ?_
  refine ac_lconst (q := 9) (v := 1) dX7_keep_8 rfl (by decide) ?_
  refine ac_csp (q := 12) (k_X7_in (d := d - 1) (by omega) ⟨by omega, by omega⟩ ⟨by omega, by omega⟩ ⟨by omega, by omega⟩) ml_X7_72 dX7_keep_9 rfl rfl rfl (by omega) (Nat.le_of_ble_eq_true rfl) (Nat.zero_le _) (Nat.zero_le _) ?_
  refine ac_bif_ne (q := 15) (tgt := 17) dX7_keep_12 rfl rfl (fun h12 => ?_) (fun h12 => ?_)
  · refine ac_aload_n (q := 18) dX7_keep_17 rfl rfl ?_
    refine ac_get (q := 21) dX7_keep_18 fl_X7_32 (by assumption) rfl (ac_rdr rfl hM9.1.2.2.2.2.2.2.1) ?_
    refine ac_iload_n (q := 22) dX7_keep_21 rfl rfl ?_
    refine ac_iconst (q := 23) dX7_keep_22 rfl ?_
    refine ac_bastoreN (q := 24) (j := 0) dX7_keep_23 k7 (by decide) (by decide) (by omega) rfl ?_
    refine half _ (fun m hm => ?_)
    have hfr : ∀ k', k' ≠ x + 6 → k' ≠ x + 7 → m k' = m0 k' := fun k' h1 h2 => by rw [hm, ac_cpn_k h1]; funext j; exact ac_up_k h2
    have h7 : ∀ j, m (x + 7) j = if j = 0 then 1 else m0 (x + 7) j := fun j => by rw [hm, ac_cpn_k (by omega)]; unfold ac_up; simp
    have p0m : m (x + 3) 0 = (T.1 : Int) := by rw [hfr _ (by omega) (by omega)]; exact p0
    have hNew : ac_RP (ac_sh m 0) (x + 6) T := by
      rw [hm]
      refine ac_RP_cp (ra := x + 3) (oa := 0) (rb := x + 6) (ob := 0) ?_
      rw [ac_sh0]; exact ac_RP_keep qP (by funext j; exact ac_up_k (by omega))
    have hOld : ∀ j, (39 ≤ j) → m (x + 6) j = m0 (x + 6) j := fun j hj => by rw [hm, ac_cpn_o (by omega), ac_up_k (by omega)]
    refine ac_aload_n (q := 56) dX7_keep_55 rfl rfl ?_
    refine ac_get (q := 59) dX7_keep_56 fl_X7_20 (by assumption) rfl (ac_rdr rfl hM9.1.2.2.1) ?_
    refine ac_iconst (q := 60) dX7_keep_59 rfl ?_
    refine ac_ialoadN (q := 61) (j := 0) (v := (T.1 : Int)) dX7_keep_60 k3 (by decide) (by decide) rfl p0m ?_
    refine ac_ireturn dX7_keep_61 rfl (Nat.zero_le _) (Nat.zero_le _) ?_
    exact ⟨rfl, rfl, ⟨⟨a1, by rw [hfr x (by omega) (by omega)]; exact a2, by rw [hfr _ (by omega) (by omega)]; exact a3⟩, ⟨by rw [hfr x (by omega) (by omega)]; exact q4, ac_RP_keep qP (hfr _ (by omega) (by omega))⟩, ⟨c1, by rw [hfr x (by omega) (by omega)]; exact c2, fun i T2 hi => ⟨(c3 i T2 hi).1, ac_RP_keep (c3 i T2 hi).2 (ac_sh_k (hfr _ (by omega) (by omega)))⟩⟩, ⟨⟨by rw [h7]; rfl, by rw [h7, if_neg (by decide)]; exact d2⟩, fun T2 hT => by cases hT; exact ⟨rfl, hNew⟩, fun T2 hT => ⟨(d4 T2 hT).1, ac_RP_cong (d4 T2 hT).2 (fun j hj => hOld _ (by omega))⟩⟩, ⟨e1, by rw [hfr x (by omega) (by omega)]; exact e2, by rw [hfr (x + 8) (by omega) (by omega), hfr (x + 9) (by omega) (by omega), hfr (x + 10) (by omega) (by omega)]; exact e3⟩, by rw [hfr x (by omega) (by omega)]; exact ff⟩, fun k' hk' => by rw [hfr k' (by omega) (by omega), F0 k' hk']⟩
  · exact absurd (by decide) h12

set_option maxHeartbeats 8000000 in
theorem k_X7_keep1 {G : ac_G} {Y : ac_Y} {mm : ac_M} {d x : Nat} {s : List Nat} {T : ac_Tk} {hs : List ac_Tk} {s0 s1 : Option ac_Tk} {obs : List ac_Ob} {ch : Int} (hd : 30 ≤ d) (hM : ac_isM Y x) (hR : ac_RM mm x s T hs s0 s1 obs ch)  : ac_C G yX7_keep cX7_keep 3 (some .int) d 0 0 Y mm [(2, (x : Int)), (0, 1)] (ac_R Y [(0, (T.1 : Int))] (fun m => ac_RM m x s T hs s0 (some T) obs ch ∧ ac_fM mm m x)) := by
  have hM9 := hM
  obtain ⟨kx, k1, k2, k3, k4, k5, k6, k7, k8, k9, k10, k11, k12, k13, k14, k15, k16⟩ := hM.2
  obtain ⟨-, ⟨hkk, hPg⟩, -⟩ := id hR
  obtain ⟨⟨⟨hn1, hn2⟩, ⟨hk2, hk3⟩, hE, hp0, hpr, hc0⟩, -⟩ := id hPg
  have hE4 := hE.1
  have hLn := ac_Lt_len T hn2
  have half : ∀ (m0 : ac_M), (∀ m, m = ac_cpn m0 (x + 3) 0 (x + 6) 39 39 → ac_V G (RX7, "keep") cX7_keep 3 (some .int) d 0 0 (ac_R Y [(0, (T.1 : Int))] (fun m => ac_RM m x s T hs s0 (some T) obs ch ∧ ac_fM mm m x)) 0 0 Y m 55 [(2, (x : Int)), (0, 1), (0, (39 : Int))] []) → ac_V G (RX7, "keep") cX7_keep 3 (some .int) d 0 0 (ac_R Y [(0, (T.1 : Int))] (fun m => ac_RM m x s T hs s0 (some T) obs ch ∧ ac_fM mm m x)) 0 0 Y m0 24 [(2, (x : Int)), (0, 1), (3, 0)] [] := by
    intro m0 hK
    have loop : (∀ m : ac_M, m = (ac_cpn m0 (x + 3) 0 (x + 6) 39 39) → ac_V G (RX7, "keep") cX7_keep 3 (some .int) d 0 0 (ac_R Y [(0, (T.1 : Int))] (fun m => ac_RM m x s T hs s0 (some T) obs ch ∧ ac_fM mm m x)) 0 0 Y m 55 [(2, (x : Int)), (0, 1), (0, (39 : Int))] []) → ∀ (f i : Nat), i + f = 39 → ac_V G (RX7, "keep") cX7_keep 3 (some .int) d 0 0 (ac_R Y [(0, (T.1 : Int))] (fun m => ac_RM m x s T hs s0 (some T) obs ch ∧ ac_fM mm m x)) 0 0 Y (ac_cpn m0 (x + 3) 0 (x + 6) 39 i) 26 [(2, (x : Int)), (0, 1), (0, (i : Int))] [] := by
      intro hK f
      induction f with
      | zero =>
        intro i hi
        refine ac_iload_n (q := 27) dX7_keep_26 rfl rfl ?_
        refine ac_bipush (q := 29) dX7_keep_27 rfl (by decide) ?_
        refine ac_icmp_ge (q := 32) (tgt := 55) dX7_keep_29 rfl rfl ⟨by omega, by omega⟩ ⟨by omega, by omega⟩ (fun h29 => ?_) (fun h29 => ?_)
        · obtain rfl : i = 39 := by omega
          exact hK _ rfl
        · exfalso; omega
      | succ f ih =>
        intro i hi
        have ei : ((i : Nat) : Int) + 1 = ((i + 1 : Nat) : Int) := rfl
        refine ac_iload_n (q := 27) dX7_keep_26 rfl rfl ?_
        refine ac_bipush (q := 29) dX7_keep_27 rfl (by decide) ?_
        refine ac_icmp_ge (q := 32) (tgt := 55) dX7_keep_29 rfl rfl ⟨by omega, by omega⟩ ⟨by omega, by omega⟩ (fun h29 => ?_) (fun h29 => ?_)
        · exfalso; omega
        · refine ac_aload_n (q := 33) dX7_keep_32 rfl rfl ?_
          refine ac_get (q := 36) dX7_keep_33 fl_X7_29 (by assumption) rfl (ac_rdr rfl hM9.1.2.2.2.2.2.1) ?_
          refine ac_bipush (q := 38) dX7_keep_36 rfl (by decide) ?_
          refine ac_iload_n (q := 39) dX7_keep_38 rfl rfl ?_
          refine ac_imul (q := 40) dX7_keep_39 rfl ?_
          refine ac_iload_n (q := 41) dX7_keep_40 rfl rfl ?_
          refine ac_iadd (q := 42) dX7_keep_41 rfl ?_
          refine ac_top (w' := (0, ((39 + i : Nat) : Int))) (congrArg (fun z : Int => ((0 : Nat), z)) (by omega)) ?_
          refine ac_aload_n (q := 43) dX7_keep_42 rfl rfl ?_
          refine ac_get (q := 46) dX7_keep_43 fl_X7_20 (by assumption) rfl (ac_rdr rfl hM9.1.2.2.1) ?_
          refine ac_iload_n (q := 47) dX7_keep_46 rfl rfl ?_
          refine ac_top (w' := (0, ((0 + i : Nat) : Int))) (congrArg (fun z : Int => ((0 : Nat), z)) (by omega)) ?_
          refine ac_ialoadN (q := 48) (j := 0 + i) (v := m0 (x + 3) (0 + i)) dX7_keep_47 k3 (by decide) (by omega) rfl (ac_cpn_rd (Or.inl (by omega))) ?_
          refine ac_iastoreN (q := 49) (j := 39 + i) dX7_keep_48 k6 (by decide) (by omega) rfl ?_
          rw [ac_cpn_s]
          refine ac_iinc (q := 52) dX7_keep_49 rfl (Nat.le_of_ble_eq_true rfl) rfl rfl rfl rfl ?_
          simp only [List.set_cons_succ, List.set_cons_zero]
          refine ac_goto (q := 26) dX7_keep_52 rfl ?_
          exact ac_ls (by rw [ei]) (ih (i + 1) (by omega))
    refine ac_iconst (q := 25) dX7_keep_24 rfl ?_
    refine ac_istore_n (q := 26) (j := 2) rfl dX7_keep_25 rfl (Nat.le_of_ble_eq_true rfl) rfl rfl ?_
    simp only [List.set_cons_succ, List.set_cons_zero]
    refine ac_mem (ac_cpn_0 (ra := x + 3) (oa := 0) (rb := x + 6) (ob := 39)).symm ?_
    exact loop hK 39 0 rfl
  refine ac_met (on := (RX7, "keep")) rfl rfl (Nat.le_of_ble_eq_true rfl) (ls := [(2, (x : Int)), (0, 1), (3, 0)]) rfl ?_
  refine ac_aload_n (q := 1) dX7_keep_0 rfl rfl ?_
  refine ac_iconst (q := 2) dX7_keep_1 rfl ?_
  refine ac_put (q := 5) dX7_keep_2 fl_X7_67 (by assumption) rfl rfl ?_
  have A0 := ac_up0_RM hR
  have F0 : ac_fM mm (ac_up mm x 0 0) x := ac_up0_fM
  generalize ac_up mm x 0 0 = m0 at *
  obtain ⟨q4, qP⟩ := A0.2.1
  obtain ⟨-, p0, p1, pE, pp, p28, pcb, pcl⟩ := id qP
  obtain ⟨⟨a1, a2, a3⟩, ⟨b1, b2⟩, ⟨c1, c2, c3⟩, ⟨⟨d1, d2⟩, d3, d4⟩, ⟨e1, e2, e3⟩, ff⟩ := id A0
  refine ac_iload_n (q := 6) dX7_keep_5 rfl rfl ?_
  refine ac_i2l (q := 7) dX7_keep_6 rfl ⟨by omega, by omega⟩ ?_
  refine ac_lconst (q := 8) (v := 0) dX7_keep_7 rfl (by decide) ?_
  refine ac_lconst (q := 9) (v := 1) dX7_keep_8 rfl (by decide) ?_
  refine ac_csp (q := 12) (k_X7_in (d := d - 1) (by omega) ⟨by omega, by omega⟩ ⟨by omega, by omega⟩ ⟨by omega, by omega⟩) ml_X7_72 dX7_keep_9 rfl rfl rfl (by omega) (Nat.le_of_ble_eq_true rfl) (Nat.zero_le _) (Nat.zero_le _) ?_
  refine ac_bif_ne (q := 15) (tgt := 17) dX7_keep_12 rfl rfl (fun h12 => ?_) (fun h12 => ?_)
  · refine ac_aload_n (q := 18) dX7_keep_17 rfl rfl ?_
    refine ac_get (q := 21) dX7_keep_18 fl_X7_32 (by assumption) rfl (ac_rdr rfl hM9.1.2.2.2.2.2.2.1) ?_
    refine ac_iload_n (q := 22) dX7_keep_21 rfl rfl ?_
    refine ac_iconst (q := 23) dX7_keep_22 rfl ?_
    refine ac_bastoreN (q := 24) (j := 1) dX7_keep_23 k7 (by decide) (by decide) (by omega) rfl ?_
    refine half _ (fun m hm => ?_)
    have hfr : ∀ k', k' ≠ x + 6 → k' ≠ x + 7 → m k' = m0 k' := fun k' h1 h2 => by rw [hm, ac_cpn_k h1]; funext j; exact ac_up_k h2
    have h7 : ∀ j, m (x + 7) j = if j = 1 then 1 else m0 (x + 7) j := fun j => by rw [hm, ac_cpn_k (by omega)]; unfold ac_up; simp
    have p0m : m (x + 3) 0 = (T.1 : Int) := by rw [hfr _ (by omega) (by omega)]; exact p0
    have hNew : ac_RP (ac_sh m 39) (x + 6) T := by
      rw [hm]
      refine ac_RP_cp (ra := x + 3) (oa := 0) (rb := x + 6) (ob := 39) ?_
      rw [ac_sh0]; exact ac_RP_keep qP (by funext j; exact ac_up_k (by omega))
    have hOld : ∀ j, (j < 39) → m (x + 6) j = m0 (x + 6) j := fun j hj => by rw [hm, ac_cpn_o (by omega), ac_up_k (by omega)]
    refine ac_aload_n (q := 56) dX7_keep_55 rfl rfl ?_
    refine ac_get (q := 59) dX7_keep_56 fl_X7_20 (by assumption) rfl (ac_rdr rfl hM9.1.2.2.1) ?_
    refine ac_iconst (q := 60) dX7_keep_59 rfl ?_
    refine ac_ialoadN (q := 61) (j := 0) (v := (T.1 : Int)) dX7_keep_60 k3 (by decide) (by decide) rfl p0m ?_
    refine ac_ireturn dX7_keep_61 rfl (Nat.zero_le _) (Nat.zero_le _) ?_
    exact ⟨rfl, rfl, ⟨⟨a1, by rw [hfr x (by omega) (by omega)]; exact a2, by rw [hfr _ (by omega) (by omega)]; exact a3⟩, ⟨by rw [hfr x (by omega) (by omega)]; exact q4, ac_RP_keep qP (hfr _ (by omega) (by omega))⟩, ⟨c1, by rw [hfr x (by omega) (by omega)]; exact c2, fun i T2 hi => ⟨(c3 i T2 hi).1, ac_RP_keep (c3 i T2 hi).2 (ac_sh_k (hfr _ (by omega) (by omega)))⟩⟩, ⟨⟨by rw [h7, if_neg (by decide)]; exact d1, by rw [h7]; rfl⟩, fun T2 hT => ⟨(d3 T2 hT).1, ac_RP_cong (d3 T2 hT).2 (fun j hj => hOld _ (by omega))⟩, fun T2 hT => by cases hT; exact ⟨rfl, hNew⟩⟩, ⟨e1, by rw [hfr x (by omega) (by omega)]; exact e2, by rw [hfr (x + 8) (by omega) (by omega), hfr (x + 9) (by omega) (by omega), hfr (x + 10) (by omega) (by omega)]; exact e3⟩, by rw [hfr x (by omega) (by omega)]; exact ff⟩, fun k' hk' => by rw [hfr k' (by omega) (by omega), F0 k' hk']⟩
  · exact absurd (by decide) h12

set_option maxHeartbeats 8000000 in
theorem k_X7_keepu {G : ac_G} {Y : ac_Y} {mm : ac_M} {d x : Nat} {s : List Nat} {T : ac_Tk} {hs : List ac_Tk} {s0 s1 : Option ac_Tk} {obs : List ac_Ob} {ch : Int} {i : Int} (hd : 30 ≤ d) (hM : ac_isM Y x) (hR : ac_RM mm x s T hs s0 s1 obs ch) (hi : ac_in i) (hno : ¬ (i = 0 ∨ i = 1)) : ac_C G yX7_keep cX7_keep 3 (some .int) d 0 0 Y mm [(2, (x : Int)), (0, i)] (ac_R Y [(0, -1)] (fun m => ac_RM m x s T hs s0 s1 obs ch ∧ ac_fM mm m x)) := by
  have hM9 := hM
  obtain ⟨kx, k1, k2, k3, k4, k5, k6, k7, k8, k9, k10, k11, k12, k13, k14, k15, k16⟩ := hM.2
  obtain ⟨-, ⟨hkk, hPg⟩, -⟩ := id hR
  obtain ⟨⟨⟨hn1, hn2⟩, ⟨hk2, hk3⟩, hE, hp0, hpr, hc0⟩, -⟩ := id hPg
  have hE4 := hE.1
  have hLn := ac_Lt_len T hn2
  obtain ⟨hi1, hi2⟩ := hi
  refine ac_met (on := (RX7, "keep")) rfl rfl (Nat.le_of_ble_eq_true rfl) (ls := [(2, (x : Int)), (0, i), (3, 0)]) rfl ?_
  refine ac_aload_n (q := 1) dX7_keep_0 rfl rfl ?_
  refine ac_iconst (q := 2) dX7_keep_1 rfl ?_
  refine ac_put (q := 5) dX7_keep_2 fl_X7_67 (by assumption) rfl rfl ?_
  have A0 := ac_up0_RM hR
  have F0 : ac_fM mm (ac_up mm x 0 0) x := ac_up0_fM
  generalize ac_up mm x 0 0 = m0 at *
  obtain ⟨q4, qP⟩ := A0.2.1
  obtain ⟨-, p0, p1, pE, pp, p28, pcb, pcl⟩ := id qP
  refine ac_iload_n (q := 6) dX7_keep_5 rfl rfl ?_
  refine ac_i2l (q := 7) dX7_keep_6 rfl ⟨by omega, by omega⟩ ?_
  refine ac_lconst (q := 8) (v := 0) dX7_keep_7 rfl (by decide) ?_
  refine ac_lconst (q := 9) (v := 1) dX7_keep_8 rfl (by decide) ?_
  refine ac_csp (q := 12) (k_X7_in (d := d - 1) (by omega) ⟨by omega, by omega⟩ ⟨by omega, by omega⟩ ⟨by omega, by omega⟩) ml_X7_72 dX7_keep_9 rfl rfl rfl (by omega) (Nat.le_of_ble_eq_true rfl) (Nat.zero_le _) (Nat.zero_le _) ?_
  refine ac_bif_ne (q := 15) (tgt := 17) dX7_keep_12 rfl rfl (fun h12 => ?_) (fun h12 => ?_)
  · exfalso; omega
  · refine ac_iconst (q := 16) dX7_keep_15 rfl ?_
    refine ac_ireturn dX7_keep_16 rfl (Nat.zero_le _) (Nat.zero_le _) ?_
    exact ⟨rfl, rfl, A0, F0⟩

set_option maxHeartbeats 8000000 in
theorem k_X7_againu {G : ac_G} {Y : ac_Y} {mm : ac_M} {d x : Nat} {s : List Nat} {T : ac_Tk} {hs : List ac_Tk} {s0 s1 : Option ac_Tk} {obs : List ac_Ob} {ch : Int} {i : Int} (hd : 30 ≤ d) (hM : ac_isM Y x) (hR : ac_RM mm x s T hs s0 s1 obs ch) (hi : ac_in i) (hno : ¬ (i = 0 ∨ i = 1)) : ac_C G yX7_again cX7_again 3 (some .int) d 0 0 Y mm [(2, (x : Int)), (0, i)] (ac_R Y [(0, -1)] (fun m => ac_RM m x s T hs s0 s1 obs ch ∧ ac_fM mm m x)) := by
  have hM9 := hM
  obtain ⟨kx, k1, k2, k3, k4, k5, k6, k7, k8, k9, k10, k11, k12, k13, k14, k15, k16⟩ := hM.2
  obtain ⟨-, ⟨hkk, hPg⟩, -⟩ := id hR
  obtain ⟨⟨⟨hn1, hn2⟩, ⟨hk2, hk3⟩, hE, hp0, hpr, hc0⟩, -⟩ := id hPg
  have hE4 := hE.1
  have hLn := ac_Lt_len T hn2
  obtain ⟨hi1, hi2⟩ := hi
  refine ac_met (on := (RX7, "again")) rfl rfl (Nat.le_of_ble_eq_true rfl) (ls := [(2, (x : Int)), (0, i), (3, 0)]) rfl ?_
  refine ac_aload_n (q := 1) dX7_again_0 rfl rfl ?_
  refine ac_iconst (q := 2) dX7_again_1 rfl ?_
  refine ac_put (q := 5) dX7_again_2 fl_X7_67 (by assumption) rfl rfl ?_
  have A0 := ac_up0_RM hR
  have F0 : ac_fM mm (ac_up mm x 0 0) x := ac_up0_fM
  generalize ac_up mm x 0 0 = m0 at *
  obtain ⟨q4, qP⟩ := A0.2.1
  obtain ⟨-, p0, p1, pE, pp, p28, pcb, pcl⟩ := id qP
  refine ac_iload_n (q := 6) dX7_again_5 rfl rfl ?_
  refine ac_i2l (q := 7) dX7_again_6 rfl ⟨by omega, by omega⟩ ?_
  refine ac_lconst (q := 8) (v := 0) dX7_again_7 rfl (by decide) ?_
  refine ac_lconst (q := 9) (v := 1) dX7_again_8 rfl (by decide) ?_
  refine ac_csp (q := 12) (k_X7_in (d := d - 1) (by omega) ⟨by omega, by omega⟩ ⟨by omega, by omega⟩ ⟨by omega, by omega⟩) ml_X7_72 dX7_again_9 rfl rfl rfl (by omega) (Nat.le_of_ble_eq_true rfl) (Nat.zero_le _) (Nat.zero_le _) ?_
  refine ac_bif_ne (q := 15) (tgt := 17) dX7_again_12 rfl rfl (fun h12 => ?_) (fun h12 => ?_)
  · exfalso; omega
  · refine ac_iconst (q := 16) dX7_again_15 rfl ?_
    refine ac_ireturn dX7_again_16 rfl (Nat.zero_le _) (Nat.zero_le _) ?_
    exact ⟨rfl, rfl, A0, F0⟩

set_option maxHeartbeats 8000000 in
theorem k_X7_again0n {G : ac_G} {Y : ac_Y} {mm : ac_M} {d x : Nat} {s : List Nat} {T : ac_Tk} {hs : List ac_Tk} {T1 : ac_Tk} {s1 : Option ac_Tk} {obs : List ac_Ob} {ch : Int} (hd : 30 ≤ d) (hM : ac_isM Y x) (hR : ac_RM mm x s T hs none s1 obs ch)  : ac_C G yX7_again cX7_again 3 (some .int) d 0 0 Y mm [(2, (x : Int)), (0, 0)] (ac_R Y [(0, -3)] (fun m => ac_RM m x s T hs none s1 obs ch ∧ ac_fM mm m x)) := by
  have hM9 := hM
  obtain ⟨kx, k1, k2, k3, k4, k5, k6, k7, k8, k9, k10, k11, k12, k13, k14, k15, k16⟩ := hM.2
  obtain ⟨-, ⟨hkk, hPg⟩, -⟩ := id hR
  obtain ⟨⟨⟨hn1, hn2⟩, ⟨hk2, hk3⟩, hE, hp0, hpr, hc0⟩, -⟩ := id hPg
  have hE4 := hE.1
  have hLn := ac_Lt_len T hn2
  refine ac_met (on := (RX7, "again")) rfl rfl (Nat.le_of_ble_eq_true rfl) (ls := [(2, (x : Int)), (0, 0), (3, 0)]) rfl ?_
  refine ac_aload_n (q := 1) dX7_again_0 rfl rfl ?_
  refine ac_iconst (q := 2) dX7_again_1 rfl ?_
  refine ac_put (q := 5) dX7_again_2 fl_X7_67 (by assumption) rfl rfl ?_
  have A0 := ac_up0_RM hR
  have F0 : ac_fM mm (ac_up mm x 0 0) x := ac_up0_fM
  generalize ac_up mm x 0 0 = m0 at *
  obtain ⟨q4, qP⟩ := A0.2.1
  obtain ⟨-, p0, p1, pE, pp, p28, pcb, pcl⟩ := id qP
  obtain ⟨⟨a1, a2, a3⟩, ⟨b1, b2⟩, ⟨c1, c2, c3⟩, ⟨⟨d1, d2⟩, d3, d4⟩, ⟨e1, e2, e3⟩, ff⟩ := id A0
  refine ac_iload_n (q := 6) dX7_again_5 rfl rfl ?_
  refine ac_i2l (q := 7) dX7_again_6 rfl ⟨by omega, by omega⟩ ?_
  refine ac_lconst (q := 8) (v := 0) dX7_again_7 rfl (by decide) ?_
  refine ac_lconst (q := 9) (v := 1) dX7_again_8 rfl (by decide) ?_
  refine ac_csp (q := 12) (k_X7_in (d := d - 1) (by omega) ⟨by omega, by omega⟩ ⟨by omega, by omega⟩ ⟨by omega, by omega⟩) ml_X7_72 dX7_again_9 rfl rfl rfl (by omega) (Nat.le_of_ble_eq_true rfl) (Nat.zero_le _) (Nat.zero_le _) ?_
  refine ac_bif_ne (q := 15) (tgt := 17) dX7_again_12 rfl rfl (fun h12 => ?_) (fun h12 => ?_)
  · refine ac_aload_n (q := 18) dX7_again_17 rfl rfl ?_
    refine ac_get (q := 21) dX7_again_18 fl_X7_32 (by assumption) rfl (ac_rdr rfl hM9.1.2.2.2.2.2.2.1) ?_
    refine ac_iload_n (q := 22) dX7_again_21 rfl rfl ?_
    refine ac_baloadN (q := 23) (j := 0) (v := 0) dX7_again_22 k7 (by decide) (by decide) rfl (by rw [d1]; rfl) ?_
    refine ac_if_ne (q := 26) (tgt := 29) dX7_again_23 rfl rfl ⟨by omega, by omega⟩ (fun h23 => ?_) (fun h23 => ?_)
    · exact absurd rfl h23
    · refine ac_bipush (q := 28) dX7_again_26 rfl (by decide) ?_
      refine ac_ireturn dX7_again_28 rfl (Nat.zero_le _) (Nat.zero_le _) ?_
      exact ⟨rfl, rfl, A0, F0⟩
  · exact absurd (by decide) h12

set_option maxHeartbeats 8000000 in
theorem k_X7_again0s {G : ac_G} {Y : ac_Y} {mm : ac_M} {d x : Nat} {s : List Nat} {T : ac_Tk} {hs : List ac_Tk} {T1 : ac_Tk} {s1 : Option ac_Tk} {obs : List ac_Ob} {ch : Int} (hd : 30 ≤ d) (hM : ac_isM Y x) (hR : ac_RM mm x s T hs (some T1) s1 obs ch)  : ac_C G yX7_again cX7_again 3 (some .int) d 0 0 Y mm [(2, (x : Int)), (0, 0)] (ac_R Y [(0, (T1.1 : Int))] (fun m => ac_RM m x s T1 [] (some T1) s1 obs ch ∧ ac_fM mm m x)) := by
  have hM9 := hM
  obtain ⟨kx, k1, k2, k3, k4, k5, k6, k7, k8, k9, k10, k11, k12, k13, k14, k15, k16⟩ := hM.2
  obtain ⟨-, ⟨hkk, hPg⟩, -⟩ := id hR
  obtain ⟨⟨⟨hn1, hn2⟩, ⟨hk2, hk3⟩, hE, hp0, hpr, hc0⟩, -⟩ := id hPg
  have hE4 := hE.1
  have hLn := ac_Lt_len T hn2
  have half : ∀ (m0 : ac_M), (∀ m, m = ac_cpn m0 (x + 6) 0 (x + 3) 0 39 → ac_V G (RX7, "again") cX7_again 3 (some .int) d 0 0 (ac_R Y [(0, (T1.1 : Int))] (fun m => ac_RM m x s T1 [] (some T1) s1 obs ch ∧ ac_fM mm m x)) 0 0 Y m 60 [(2, (x : Int)), (0, 0), (0, (39 : Int))] []) → ac_V G (RX7, "again") cX7_again 3 (some .int) d 0 0 (ac_R Y [(0, (T1.1 : Int))] (fun m => ac_RM m x s T1 [] (some T1) s1 obs ch ∧ ac_fM mm m x)) 0 0 Y m0 29 [(2, (x : Int)), (0, 0), (3, 0)] [] := by
    intro m0 hK
    have loop : (∀ m : ac_M, m = (ac_cpn m0 (x + 6) 0 (x + 3) 0 39) → ac_V G (RX7, "again") cX7_again 3 (some .int) d 0 0 (ac_R Y [(0, (T1.1 : Int))] (fun m => ac_RM m x s T1 [] (some T1) s1 obs ch ∧ ac_fM mm m x)) 0 0 Y m 60 [(2, (x : Int)), (0, 0), (0, (39 : Int))] []) → ∀ (f i : Nat), i + f = 39 → ac_V G (RX7, "again") cX7_again 3 (some .int) d 0 0 (ac_R Y [(0, (T1.1 : Int))] (fun m => ac_RM m x s T1 [] (some T1) s1 obs ch ∧ ac_fM mm m x)) 0 0 Y (ac_cpn m0 (x + 6) 0 (x + 3) 0 i) 31 [(2, (x : Int)), (0, 0), (0, (i : Int))] [] := by
      intro hK f
      induction f with
      | zero =>
        intro i hi
        refine ac_iload_n (q := 32) dX7_again_31 rfl rfl ?_
        refine ac_bipush (q := 34) dX7_again_32 rfl (by decide) ?_
        refine ac_icmp_ge (q := 37) (tgt := 60) dX7_again_34 rfl rfl ⟨by omega, by omega⟩ ⟨by omega, by omega⟩ (fun h34 => ?_) (fun h34 => ?_)
        · obtain rfl : i = 39 := by omega
          exact hK _ rfl
        · exfalso; omega
      | succ f ih =>
        intro i hi
        have ei : ((i : Nat) : Int) + 1 = ((i + 1 : Nat) : Int) := rfl
        refine ac_iload_n (q := 32) dX7_again_31 rfl rfl ?_
        refine ac_bipush (q := 34) dX7_again_32 rfl (by decide) ?_
        refine ac_icmp_ge (q := 37) (tgt := 60) dX7_again_34 rfl rfl ⟨by omega, by omega⟩ ⟨by omega, by omega⟩ (fun h34 => ?_) (fun h34 => ?_)
        · exfalso; omega
        · refine ac_aload_n (q := 38) dX7_again_37 rfl rfl ?_
          refine ac_get (q := 41) dX7_again_38 fl_X7_20 (by assumption) rfl (ac_rdr rfl hM9.1.2.2.1) ?_
          refine ac_iload_n (q := 42) dX7_again_41 rfl rfl ?_
          refine ac_top (w' := (0, ((0 + i : Nat) : Int))) (congrArg (fun z : Int => ((0 : Nat), z)) (by omega)) ?_
          refine ac_aload_n (q := 43) dX7_again_42 rfl rfl ?_
          refine ac_get (q := 46) dX7_again_43 fl_X7_29 (by assumption) rfl (ac_rdr rfl hM9.1.2.2.2.2.2.1) ?_
          refine ac_bipush (q := 48) dX7_again_46 rfl (by decide) ?_
          refine ac_iload_n (q := 49) dX7_again_48 rfl rfl ?_
          refine ac_imul (q := 50) dX7_again_49 rfl ?_
          refine ac_iload_n (q := 51) dX7_again_50 rfl rfl ?_
          refine ac_iadd (q := 52) dX7_again_51 rfl ?_
          refine ac_top (w' := (0, ((0 + i : Nat) : Int))) (congrArg (fun z : Int => ((0 : Nat), z)) (by omega)) ?_
          refine ac_ialoadN (q := 53) (j := 0 + i) (v := m0 (x + 6) (0 + i)) dX7_again_52 k6 (by decide) (by omega) rfl (ac_cpn_rd (Or.inl (by omega))) ?_
          refine ac_iastoreN (q := 54) (j := 0 + i) dX7_again_53 k3 (by decide) (by omega) rfl ?_
          rw [ac_cpn_s]
          refine ac_iinc (q := 57) dX7_again_54 rfl (Nat.le_of_ble_eq_true rfl) rfl rfl rfl rfl ?_
          simp only [List.set_cons_succ, List.set_cons_zero]
          refine ac_goto (q := 31) dX7_again_57 rfl ?_
          exact ac_ls (by rw [ei]) (ih (i + 1) (by omega))
    refine ac_iconst (q := 30) dX7_again_29 rfl ?_
    refine ac_istore_n (q := 31) (j := 2) rfl dX7_again_30 rfl (Nat.le_of_ble_eq_true rfl) rfl rfl ?_
    simp only [List.set_cons_succ, List.set_cons_zero]
    refine ac_mem (ac_cpn_0 (ra := x + 6) (oa := 0) (rb := x + 3) (ob := 0)).symm ?_
    exact loop hK 39 0 rfl
  refine ac_met (on := (RX7, "again")) rfl rfl (Nat.le_of_ble_eq_true rfl) (ls := [(2, (x : Int)), (0, 0), (3, 0)]) rfl ?_
  refine ac_aload_n (q := 1) dX7_again_0 rfl rfl ?_
  refine ac_iconst (q := 2) dX7_again_1 rfl ?_
  refine ac_put (q := 5) dX7_again_2 fl_X7_67 (by assumption) rfl rfl ?_
  have A0 := ac_up0_RM hR
  have F0 : ac_fM mm (ac_up mm x 0 0) x := ac_up0_fM
  generalize ac_up mm x 0 0 = m0 at *
  obtain ⟨q4, qP⟩ := A0.2.1
  obtain ⟨-, p0, p1, pE, pp, p28, pcb, pcl⟩ := id qP
  obtain ⟨⟨a1, a2, a3⟩, ⟨b1, b2⟩, ⟨c1, c2, c3⟩, ⟨⟨d1, d2⟩, d3, d4⟩, ⟨e1, e2, e3⟩, ff⟩ := id A0
  refine ac_iload_n (q := 6) dX7_again_5 rfl rfl ?_
  refine ac_i2l (q := 7) dX7_again_6 rfl ⟨by omega, by omega⟩ ?_
  refine ac_lconst (q := 8) (v := 0) dX7_again_7 rfl (by decide) ?_
  refine ac_lconst (q := 9) (v := 1) dX7_again_8 rfl (by decide) ?_
  refine ac_csp (q := 12) (k_X7_in (d := d - 1) (by omega) ⟨by omega, by omega⟩ ⟨by omega, by omega⟩ ⟨by omega, by omega⟩) ml_X7_72 dX7_again_9 rfl rfl rfl (by omega) (Nat.le_of_ble_eq_true rfl) (Nat.zero_le _) (Nat.zero_le _) ?_
  refine ac_bif_ne (q := 15) (tgt := 17) dX7_again_12 rfl rfl (fun h12 => ?_) (fun h12 => ?_)
  · refine ac_aload_n (q := 18) dX7_again_17 rfl rfl ?_
    refine ac_get (q := 21) dX7_again_18 fl_X7_32 (by assumption) rfl (ac_rdr rfl hM9.1.2.2.2.2.2.2.1) ?_
    refine ac_iload_n (q := 22) dX7_again_21 rfl rfl ?_
    refine ac_baloadN (q := 23) (j := 0) (v := 1) dX7_again_22 k7 (by decide) (by decide) rfl (by rw [d1]; rfl) ?_
    refine ac_if_ne (q := 26) (tgt := 29) dX7_again_23 rfl rfl ⟨by omega, by omega⟩ (fun h23 => ?_) (fun h23 => ?_)
    · refine half m0 (fun m hm => ?_)
      have hfr : ∀ k', k' ≠ x + 3 → m k' = m0 k' := fun k' h1 => by rw [hm, ac_cpn_k h1]
      obtain ⟨hk1, hP1⟩ := d3 T1 rfl
      have hP : ac_RP m (x + 3) T1 := by
        have := ac_RP_cp (ra := x + 6) (oa := 0) (rb := x + 3) (ob := 0) hP1
        rw [ac_sh0, ← hm] at this; exact this
      refine ac_aload_n (q := 61) dX7_again_60 rfl rfl ?_
      refine ac_iconst (q := 62) dX7_again_61 rfl ?_
      refine ac_put (q := 65) dX7_again_62 fl_X7_115 (by assumption) rfl rfl ?_
      refine ac_aload_n (q := 66) dX7_again_65 rfl rfl ?_
      refine ac_get (q := 69) dX7_again_66 fl_X7_20 (by assumption) rfl (ac_rdr rfl hM9.1.2.2.1) ?_
      refine ac_iconst (q := 70) dX7_again_69 rfl ?_
      refine ac_ialoadN (q := 71) (j := 0) (v := (T1.1 : Int)) dX7_again_70 k3 (by decide) (by decide) rfl (by rw [ac_up_k (by omega)]; exact hP.2.1) ?_
      refine ac_ireturn dX7_again_71 rfl (Nat.zero_le _) (Nat.zero_le _) ?_
      have hK : ∀ k', k' ≠ x → k' ≠ x + 3 → ac_up m x 10 0 k' = m0 k' := fun k' h1 h2 => by rw [← hfr k' h2]; funext j; exact ac_up_k h1
      have hX : ∀ j, j ≠ 10 → ac_up m x 10 0 x j = m0 x j := fun j hj => by rw [ac_up_j hj, hfr x (by omega)]
      exact ⟨rfl, rfl, ⟨⟨a1, by rw [hX 2 (by decide)]; exact a2, by rw [hK _ (by omega) (by omega)]; exact a3⟩, ⟨by rw [hX 4 (by decide), hk1]; exact q4, ac_RP_keep hP (by funext j; exact ac_up_k (by omega))⟩, ⟨by simp, ac_up_s, fun i T2 hi => by simp at hi⟩, ⟨⟨by rw [hK _ (by omega) (by omega)]; exact d1, by rw [hK _ (by omega) (by omega)]; exact d2⟩, fun T2 hT => ⟨by rw [hk1]; exact (d3 T2 hT).1, ac_RP_keep (d3 T2 hT).2 (ac_sh_k (hK _ (by omega) (by omega)))⟩, fun T2 hT => ⟨by rw [hk1]; exact (d4 T2 hT).1, ac_RP_keep (d4 T2 hT).2 (ac_sh_k (hK _ (by omega) (by omega)))⟩⟩, ⟨e1, by rw [hX 13 (by decide)]; exact e2, by rw [hK (x + 8) (by omega) (by omega), hK (x + 9) (by omega) (by omega), hK (x + 10) (by omega) (by omega)]; exact e3⟩, by rw [hX 17 (by decide)]; exact ff⟩, fun k' hk' => by rw [hK k' (by omega) (by omega), F0 k' hk']⟩
    · exact absurd h23 (by decide)
  · exact absurd (by decide) h12

set_option maxHeartbeats 8000000 in
theorem k_X7_again1n {G : ac_G} {Y : ac_Y} {mm : ac_M} {d x : Nat} {s : List Nat} {T : ac_Tk} {hs : List ac_Tk} {T1 : ac_Tk} {s0 : Option ac_Tk} {obs : List ac_Ob} {ch : Int} (hd : 30 ≤ d) (hM : ac_isM Y x) (hR : ac_RM mm x s T hs s0 none obs ch)  : ac_C G yX7_again cX7_again 3 (some .int) d 0 0 Y mm [(2, (x : Int)), (0, 1)] (ac_R Y [(0, -3)] (fun m => ac_RM m x s T hs s0 none obs ch ∧ ac_fM mm m x)) := by
  have hM9 := hM
  obtain ⟨kx, k1, k2, k3, k4, k5, k6, k7, k8, k9, k10, k11, k12, k13, k14, k15, k16⟩ := hM.2
  obtain ⟨-, ⟨hkk, hPg⟩, -⟩ := id hR
  obtain ⟨⟨⟨hn1, hn2⟩, ⟨hk2, hk3⟩, hE, hp0, hpr, hc0⟩, -⟩ := id hPg
  have hE4 := hE.1
  have hLn := ac_Lt_len T hn2
  refine ac_met (on := (RX7, "again")) rfl rfl (Nat.le_of_ble_eq_true rfl) (ls := [(2, (x : Int)), (0, 1), (3, 0)]) rfl ?_
  refine ac_aload_n (q := 1) dX7_again_0 rfl rfl ?_
  refine ac_iconst (q := 2) dX7_again_1 rfl ?_
  refine ac_put (q := 5) dX7_again_2 fl_X7_67 (by assumption) rfl rfl ?_
  have A0 := ac_up0_RM hR
  have F0 : ac_fM mm (ac_up mm x 0 0) x := ac_up0_fM
  generalize ac_up mm x 0 0 = m0 at *
  obtain ⟨q4, qP⟩ := A0.2.1
  obtain ⟨-, p0, p1, pE, pp, p28, pcb, pcl⟩ := id qP
  obtain ⟨⟨a1, a2, a3⟩, ⟨b1, b2⟩, ⟨c1, c2, c3⟩, ⟨⟨d1, d2⟩, d3, d4⟩, ⟨e1, e2, e3⟩, ff⟩ := id A0
  refine ac_iload_n (q := 6) dX7_again_5 rfl rfl ?_
  refine ac_i2l (q := 7) dX7_again_6 rfl ⟨by omega, by omega⟩ ?_
  refine ac_lconst (q := 8) (v := 0) dX7_again_7 rfl (by decide) ?_
  refine ac_lconst (q := 9) (v := 1) dX7_again_8 rfl (by decide) ?_
  refine ac_csp (q := 12) (k_X7_in (d := d - 1) (by omega) ⟨by omega, by omega⟩ ⟨by omega, by omega⟩ ⟨by omega, by omega⟩) ml_X7_72 dX7_again_9 rfl rfl rfl (by omega) (Nat.le_of_ble_eq_true rfl) (Nat.zero_le _) (Nat.zero_le _) ?_
  refine ac_bif_ne (q := 15) (tgt := 17) dX7_again_12 rfl rfl (fun h12 => ?_) (fun h12 => ?_)
  · refine ac_aload_n (q := 18) dX7_again_17 rfl rfl ?_
    refine ac_get (q := 21) dX7_again_18 fl_X7_32 (by assumption) rfl (ac_rdr rfl hM9.1.2.2.2.2.2.2.1) ?_
    refine ac_iload_n (q := 22) dX7_again_21 rfl rfl ?_
    refine ac_baloadN (q := 23) (j := 1) (v := 0) dX7_again_22 k7 (by decide) (by decide) rfl (by rw [d2]; rfl) ?_
    refine ac_if_ne (q := 26) (tgt := 29) dX7_again_23 rfl rfl ⟨by omega, by omega⟩ (fun h23 => ?_) (fun h23 => ?_)
    · exact absurd rfl h23
    · refine ac_bipush (q := 28) dX7_again_26 rfl (by decide) ?_
      refine ac_ireturn dX7_again_28 rfl (Nat.zero_le _) (Nat.zero_le _) ?_
      exact ⟨rfl, rfl, A0, F0⟩
  · exact absurd (by decide) h12

set_option maxHeartbeats 8000000 in
theorem k_X7_again1s {G : ac_G} {Y : ac_Y} {mm : ac_M} {d x : Nat} {s : List Nat} {T : ac_Tk} {hs : List ac_Tk} {T1 : ac_Tk} {s0 : Option ac_Tk} {obs : List ac_Ob} {ch : Int} (hd : 30 ≤ d) (hM : ac_isM Y x) (hR : ac_RM mm x s T hs s0 (some T1) obs ch)  : ac_C G yX7_again cX7_again 3 (some .int) d 0 0 Y mm [(2, (x : Int)), (0, 1)] (ac_R Y [(0, (T1.1 : Int))] (fun m => ac_RM m x s T1 [] s0 (some T1) obs ch ∧ ac_fM mm m x)) := by
  have hM9 := hM
  obtain ⟨kx, k1, k2, k3, k4, k5, k6, k7, k8, k9, k10, k11, k12, k13, k14, k15, k16⟩ := hM.2
  obtain ⟨-, ⟨hkk, hPg⟩, -⟩ := id hR
  obtain ⟨⟨⟨hn1, hn2⟩, ⟨hk2, hk3⟩, hE, hp0, hpr, hc0⟩, -⟩ := id hPg
  have hE4 := hE.1
  have hLn := ac_Lt_len T hn2
  have half : ∀ (m0 : ac_M), (∀ m, m = ac_cpn m0 (x + 6) 39 (x + 3) 0 39 → ac_V G (RX7, "again") cX7_again 3 (some .int) d 0 0 (ac_R Y [(0, (T1.1 : Int))] (fun m => ac_RM m x s T1 [] s0 (some T1) obs ch ∧ ac_fM mm m x)) 0 0 Y m 60 [(2, (x : Int)), (0, 1), (0, (39 : Int))] []) → ac_V G (RX7, "again") cX7_again 3 (some .int) d 0 0 (ac_R Y [(0, (T1.1 : Int))] (fun m => ac_RM m x s T1 [] s0 (some T1) obs ch ∧ ac_fM mm m x)) 0 0 Y m0 29 [(2, (x : Int)), (0, 1), (3, 0)] [] := by
    intro m0 hK
    have loop : (∀ m : ac_M, m = (ac_cpn m0 (x + 6) 39 (x + 3) 0 39) → ac_V G (RX7, "again") cX7_again 3 (some .int) d 0 0 (ac_R Y [(0, (T1.1 : Int))] (fun m => ac_RM m x s T1 [] s0 (some T1) obs ch ∧ ac_fM mm m x)) 0 0 Y m 60 [(2, (x : Int)), (0, 1), (0, (39 : Int))] []) → ∀ (f i : Nat), i + f = 39 → ac_V G (RX7, "again") cX7_again 3 (some .int) d 0 0 (ac_R Y [(0, (T1.1 : Int))] (fun m => ac_RM m x s T1 [] s0 (some T1) obs ch ∧ ac_fM mm m x)) 0 0 Y (ac_cpn m0 (x + 6) 39 (x + 3) 0 i) 31 [(2, (x : Int)), (0, 1), (0, (i : Int))] [] := by
      intro hK f
      induction f with
      | zero =>
        intro i hi
        refine ac_iload_n (q := 32) dX7_again_31 rfl rfl ?_
        refine ac_bipush (q := 34) dX7_again_32 rfl (by decide) ?_
        refine ac_icmp_ge (q := 37) (tgt := 60) dX7_again_34 rfl rfl ⟨by omega, by omega⟩ ⟨by omega, by omega⟩ (fun h34 => ?_) (fun h34 => ?_)
        · obtain rfl : i = 39 := by omega
          exact hK _ rfl
        · exfalso; omega
      | succ f ih =>
        intro i hi
        have ei : ((i : Nat) : Int) + 1 = ((i + 1 : Nat) : Int) := rfl
        refine ac_iload_n (q := 32) dX7_again_31 rfl rfl ?_
        refine ac_bipush (q := 34) dX7_again_32 rfl (by decide) ?_
        refine ac_icmp_ge (q := 37) (tgt := 60) dX7_again_34 rfl rfl ⟨by omega, by omega⟩ ⟨by omega, by omega⟩ (fun h34 => ?_) (fun h34 => ?_)
        · exfalso; omega
        · refine ac_aload_n (q := 38) dX7_again_37 rfl rfl ?_
          refine ac_get (q := 41) dX7_again_38 fl_X7_20 (by assumption) rfl (ac_rdr rfl hM9.1.2.2.1) ?_
          refine ac_iload_n (q := 42) dX7_again_41 rfl rfl ?_
          refine ac_top (w' := (0, ((0 + i : Nat) : Int))) (congrArg (fun z : Int => ((0 : Nat), z)) (by omega)) ?_
          refine ac_aload_n (q := 43) dX7_again_42 rfl rfl ?_
          refine ac_get (q := 46) dX7_again_43 fl_X7_29 (by assumption) rfl (ac_rdr rfl hM9.1.2.2.2.2.2.1) ?_
          refine ac_bipush (q := 48) dX7_again_46 rfl (by decide) ?_
          refine ac_iload_n (q := 49) dX7_again_48 rfl rfl ?_
          refine ac_imul (q := 50) dX7_again_49 rfl ?_
          refine ac_iload_n (q := 51) dX7_again_50 rfl rfl ?_
          refine ac_iadd (q := 52) dX7_again_51 rfl ?_
          refine ac_top (w' := (0, ((39 + i : Nat) : Int))) (congrArg (fun z : Int => ((0 : Nat), z)) (by omega)) ?_
          refine ac_ialoadN (q := 53) (j := 39 + i) (v := m0 (x + 6) (39 + i)) dX7_again_52 k6 (by decide) (by omega) rfl (ac_cpn_rd (Or.inl (by omega))) ?_
          refine ac_iastoreN (q := 54) (j := 0 + i) dX7_again_53 k3 (by decide) (by omega) rfl ?_
          rw [ac_cpn_s]
          refine ac_iinc (q := 57) dX7_again_54 rfl (Nat.le_of_ble_eq_true rfl) rfl rfl rfl rfl ?_
          simp only [List.set_cons_succ, List.set_cons_zero]
          refine ac_goto (q := 31) dX7_again_57 rfl ?_
          exact ac_ls (by rw [ei]) (ih (i + 1) (by omega))
    refine ac_iconst (q := 30) dX7_again_29 rfl ?_
    refine ac_istore_n (q := 31) (j := 2) rfl dX7_again_30 rfl (Nat.le_of_ble_eq_true rfl) rfl rfl ?_
    simp only [List.set_cons_succ, List.set_cons_zero]
    refine ac_mem (ac_cpn_0 (ra := x + 6) (oa := 39) (rb := x + 3) (ob := 0)).symm ?_
    exact loop hK 39 0 rfl
  refine ac_met (on := (RX7, "again")) rfl rfl (Nat.le_of_ble_eq_true rfl) (ls := [(2, (x : Int)), (0, 1), (3, 0)]) rfl ?_
  refine ac_aload_n (q := 1) dX7_again_0 rfl rfl ?_
  refine ac_iconst (q := 2) dX7_again_1 rfl ?_
  refine ac_put (q := 5) dX7_again_2 fl_X7_67 (by assumption) rfl rfl ?_
  have A0 := ac_up0_RM hR
  have F0 : ac_fM mm (ac_up mm x 0 0) x := ac_up0_fM
  generalize ac_up mm x 0 0 = m0 at *
  obtain ⟨q4, qP⟩ := A0.2.1
  obtain ⟨-, p0, p1, pE, pp, p28, pcb, pcl⟩ := id qP
  obtain ⟨⟨a1, a2, a3⟩, ⟨b1, b2⟩, ⟨c1, c2, c3⟩, ⟨⟨d1, d2⟩, d3, d4⟩, ⟨e1, e2, e3⟩, ff⟩ := id A0
  refine ac_iload_n (q := 6) dX7_again_5 rfl rfl ?_
  refine ac_i2l (q := 7) dX7_again_6 rfl ⟨by omega, by omega⟩ ?_
  refine ac_lconst (q := 8) (v := 0) dX7_again_7 rfl (by decide) ?_
  refine ac_lconst (q := 9) (v := 1) dX7_again_8 rfl (by decide) ?_
  refine ac_csp (q := 12) (k_X7_in (d := d - 1) (by omega) ⟨by omega, by omega⟩ ⟨by omega, by omega⟩ ⟨by omega, by omega⟩) ml_X7_72 dX7_again_9 rfl rfl rfl (by omega) (Nat.le_of_ble_eq_true rfl) (Nat.zero_le _) (Nat.zero_le _) ?_
  refine ac_bif_ne (q := 15) (tgt := 17) dX7_again_12 rfl rfl (fun h12 => ?_) (fun h12 => ?_)
  · refine ac_aload_n (q := 18) dX7_again_17 rfl rfl ?_
    refine ac_get (q := 21) dX7_again_18 fl_X7_32 (by assumption) rfl (ac_rdr rfl hM9.1.2.2.2.2.2.2.1) ?_
    refine ac_iload_n (q := 22) dX7_again_21 rfl rfl ?_
    refine ac_baloadN (q := 23) (j := 1) (v := 1) dX7_again_22 k7 (by decide) (by decide) rfl (by rw [d2]; rfl) ?_
    refine ac_if_ne (q := 26) (tgt := 29) dX7_again_23 rfl rfl ⟨by omega, by omega⟩ (fun h23 => ?_) (fun h23 => ?_)
    · refine half m0 (fun m hm => ?_)
      have hfr : ∀ k', k' ≠ x + 3 → m k' = m0 k' := fun k' h1 => by rw [hm, ac_cpn_k h1]
      obtain ⟨hk1, hP1⟩ := d4 T1 rfl
      have hP : ac_RP m (x + 3) T1 := by
        have := ac_RP_cp (ra := x + 6) (oa := 39) (rb := x + 3) (ob := 0) hP1
        rw [ac_sh0, ← hm] at this; exact this
      refine ac_aload_n (q := 61) dX7_again_60 rfl rfl ?_
      refine ac_iconst (q := 62) dX7_again_61 rfl ?_
      refine ac_put (q := 65) dX7_again_62 fl_X7_115 (by assumption) rfl rfl ?_
      refine ac_aload_n (q := 66) dX7_again_65 rfl rfl ?_
      refine ac_get (q := 69) dX7_again_66 fl_X7_20 (by assumption) rfl (ac_rdr rfl hM9.1.2.2.1) ?_
      refine ac_iconst (q := 70) dX7_again_69 rfl ?_
      refine ac_ialoadN (q := 71) (j := 0) (v := (T1.1 : Int)) dX7_again_70 k3 (by decide) (by decide) rfl (by rw [ac_up_k (by omega)]; exact hP.2.1) ?_
      refine ac_ireturn dX7_again_71 rfl (Nat.zero_le _) (Nat.zero_le _) ?_
      have hK : ∀ k', k' ≠ x → k' ≠ x + 3 → ac_up m x 10 0 k' = m0 k' := fun k' h1 h2 => by rw [← hfr k' h2]; funext j; exact ac_up_k h1
      have hX : ∀ j, j ≠ 10 → ac_up m x 10 0 x j = m0 x j := fun j hj => by rw [ac_up_j hj, hfr x (by omega)]
      exact ⟨rfl, rfl, ⟨⟨a1, by rw [hX 2 (by decide)]; exact a2, by rw [hK _ (by omega) (by omega)]; exact a3⟩, ⟨by rw [hX 4 (by decide), hk1]; exact q4, ac_RP_keep hP (by funext j; exact ac_up_k (by omega))⟩, ⟨by simp, ac_up_s, fun i T2 hi => by simp at hi⟩, ⟨⟨by rw [hK _ (by omega) (by omega)]; exact d1, by rw [hK _ (by omega) (by omega)]; exact d2⟩, fun T2 hT => ⟨by rw [hk1]; exact (d3 T2 hT).1, ac_RP_keep (d3 T2 hT).2 (ac_sh_k (hK _ (by omega) (by omega)))⟩, fun T2 hT => ⟨by rw [hk1]; exact (d4 T2 hT).1, ac_RP_keep (d4 T2 hT).2 (ac_sh_k (hK _ (by omega) (by omega)))⟩⟩, ⟨e1, by rw [hX 13 (by decide)]; exact e2, by rw [hK (x + 8) (by omega) (by omega), hK (x + 9) (by omega) (by omega), hK (x + 10) (by omega) (by omega)]; exact e3⟩, by rw [hX 17 (by decide)]; exact ff⟩, fun k' hk' => by rw [hK k' (by omega) (by omega), F0 k' hk']⟩
    · exact absurd h23 (by decide)
  · exact absurd (by decide) h12

set_option maxHeartbeats 8000000 in
theorem k_X7_factorial {G : ac_G} {Y : ac_Y} {mm : ac_M} {d : Nat} {e : Nat} (hd : 1 ≤ d) (he : e < 100) : ac_C G yX7_factorial cX7_factorial 3 (some .int) d 0 0 Y mm [(0, (e : Int))] (ac_R Y [(0, ((ac_fac e : Nat) : Int))] (fun m => m = mm)) := by
  have loop : ∀ (r i : Nat), i + 1 + r = e → ac_V G (RX7, "factorial") cX7_factorial 3 (some .int) d 0 0 (ac_R Y [(0, ((ac_fac e : Nat) : Int))] (fun m => m = mm)) 0 0 Y mm 4 [(0, (e : Int)), (0, ((ac_fac (i + 1) : Nat) : Int)), (0, ((i + 2 : Nat) : Int))] [] := by
    intro r
    induction r with
    | zero =>
      intro i hi
      obtain rfl : i + 1 = e := by omega
      refine ac_iload_n (q := 5) dX7_factorial_4 rfl rfl ?_
      refine ac_iload_n (q := 6) dX7_factorial_5 rfl rfl ?_
      refine ac_icmp_gt (q := 9) (tgt := 19) dX7_factorial_6 rfl rfl ⟨by omega, by omega⟩ ⟨by omega, by omega⟩ (fun h6 => ?_) (fun h6 => ?_)
      · refine ac_iload_n (q := 20) dX7_factorial_19 rfl rfl ?_
        refine ac_ireturn dX7_factorial_20 rfl (Nat.zero_le _) (Nat.zero_le _) ?_
        exact ⟨rfl, rfl, rfl⟩
      · exfalso; omega
    | succ r ih =>
      intro i hi
      have ei : ((i + 2 : Nat) : Int) + 1 = ((i + 1 + 2 : Nat) : Int) := rfl
      have hs := ih (i + 1) (by omega)
      rw [ac_fac, Int.natCast_mul] at hs
      refine ac_iload_n (q := 5) dX7_factorial_4 rfl rfl ?_
      refine ac_iload_n (q := 6) dX7_factorial_5 rfl rfl ?_
      refine ac_icmp_gt (q := 9) (tgt := 19) dX7_factorial_6 rfl rfl ⟨by omega, by omega⟩ ⟨by omega, by omega⟩ (fun h6 => ?_) (fun h6 => ?_)
      · exfalso; omega
      · refine ac_iload_n (q := 10) dX7_factorial_9 rfl rfl ?_
        refine ac_iload_n (q := 11) dX7_factorial_10 rfl rfl ?_
        refine ac_imul (q := 12) dX7_factorial_11 rfl ?_
        refine ac_istore_n (q := 13) (j := 1) rfl dX7_factorial_12 rfl (Nat.le_of_ble_eq_true rfl) rfl rfl ?_
        simp only [List.set_cons_succ, List.set_cons_zero]
        refine ac_iinc (q := 16) dX7_factorial_13 rfl (Nat.le_of_ble_eq_true rfl) rfl rfl rfl rfl ?_
        simp only [List.set_cons_succ, List.set_cons_zero]
        refine ac_goto (q := 4) dX7_factorial_16 rfl ?_
        exact ac_ls (by rw [ei]) hs
  refine ac_met (on := (RX7, "factorial")) rfl rfl (Nat.le_of_ble_eq_true rfl) (ls := [(0, (e : Int)), (3, 0), (3, 0)]) rfl ?_
  by_cases he0 : e = 0
  · subst he0
    refine ac_iconst (q := 1) dX7_factorial_0 rfl ?_
    refine ac_istore_n (q := 2) (j := 1) rfl dX7_factorial_1 rfl (Nat.le_of_ble_eq_true rfl) rfl rfl ?_
    simp only [List.set_cons_succ, List.set_cons_zero]
    refine ac_iconst (q := 3) dX7_factorial_2 rfl ?_
    refine ac_istore_n (q := 4) (j := 2) rfl dX7_factorial_3 rfl (Nat.le_of_ble_eq_true rfl) rfl rfl ?_
    simp only [List.set_cons_succ, List.set_cons_zero]
    refine ac_iload_n (q := 5) dX7_factorial_4 rfl rfl ?_
    refine ac_iload_n (q := 6) dX7_factorial_5 rfl rfl ?_
    refine ac_icmp_gt (q := 9) (tgt := 19) dX7_factorial_6 rfl rfl ⟨by omega, by omega⟩ ⟨by omega, by omega⟩ (fun h6 => ?_) (fun h6 => ?_)
    · refine ac_iload_n (q := 20) dX7_factorial_19 rfl rfl ?_
      refine ac_ireturn dX7_factorial_20 rfl (Nat.zero_le _) (Nat.zero_le _) ?_
      exact ⟨rfl, rfl, rfl⟩
    · exfalso; omega
  refine ac_iconst (q := 1) dX7_factorial_0 rfl ?_
  refine ac_istore_n (q := 2) (j := 1) rfl dX7_factorial_1 rfl (Nat.le_of_ble_eq_true rfl) rfl rfl ?_
  simp only [List.set_cons_succ, List.set_cons_zero]
  refine ac_iconst (q := 3) dX7_factorial_2 rfl ?_
  refine ac_istore_n (q := 4) (j := 2) rfl dX7_factorial_3 rfl (Nat.le_of_ble_eq_true rfl) rfl rfl ?_
  simp only [List.set_cons_succ, List.set_cons_zero]
  exact loop (e - 1) 0 (by omega)

set_option maxHeartbeats 8000000 in
theorem k_X7_divisor {G : ac_G} {Y : ac_Y} {mm : ac_M} {d : Nat} {a b : Nat} (hd : 1 ≤ d) (ha : a < 2147483648) (hb : b < 2147483648) : ac_C G yX7_divisor cX7_divisor 5 (some .int) d 0 0 Y mm [(0, (a : Int)), (0, (b : Int))] (ac_R Y [(0, ((Nat.gcd b a : Nat) : Int))] (fun m => m = mm)) := by
  have loop : ∀ (N p q : Nat) (zz : Nat × Int), zz.1 ≠ 1 → q < N → p < 2147483648 → q < 2147483648 → Nat.gcd p q = Nat.gcd b a → ac_V G (RX7, "divisor") cX7_divisor 5 (some .int) d 0 0 (ac_R Y [(0, ((Nat.gcd b a : Nat) : Int))] (fun m => m = mm)) 0 0 Y mm 13 [(0, (a : Int)), (0, (b : Int)), (0, ((p : Nat) : Int)), (0, ((q : Nat) : Int)), zz] [] := by
    intro N
    induction N with
    | zero => intro p q zz hz hq; omega
    | succ N ih =>
      intro p q zz hz hq hp hq2 hg
      obtain ⟨zz1, zz2⟩ := zz
      simp only at hz
      refine ac_iload_n (q := 14) dX7_divisor_13 rfl rfl ?_
      refine ac_if_eq (q := 17) (tgt := 30) dX7_divisor_14 rfl rfl ⟨by omega, by omega⟩ (fun h14 => ?_) (fun h14 => ?_)
      · refine ac_iload_n (q := 31) dX7_divisor_30 rfl rfl ?_
        refine ac_ireturn dX7_divisor_31 rfl (Nat.zero_le _) (Nat.zero_le _) ?_
        have hq0 : q = 0 := by omega
        rw [hq0, Nat.gcd_zero_right] at hg
        exact ⟨by rw [hg], rfl, rfl⟩
      · have hml := Nat.mod_lt p (show q > 0 by omega)
        refine ac_iload_n (q := 18) dX7_divisor_17 rfl rfl ?_
        refine ac_iload_n (q := 19) dX7_divisor_18 rfl rfl ?_
        refine ac_irem (q := 20) dX7_divisor_19 rfl ⟨by omega, by omega⟩ ⟨by omega, by omega⟩ (by omega) (by omega) ?_
        refine ac_top (w' := (0, ((p % q : Nat) : Int))) (congrArg (fun z => ((0 : Nat), z)) (by rw [Int.ofNat_tmod])) ?_
        refine ac_istore (q := 22) dX7_divisor_20 rfl (Nat.le_of_ble_eq_true rfl) rfl rfl ?_
        simp only [List.set_cons_succ, List.set_cons_zero]
        refine ac_iload_n (q := 23) dX7_divisor_22 rfl rfl ?_
        refine ac_istore_n (q := 24) (j := 2) rfl dX7_divisor_23 rfl (Nat.le_of_ble_eq_true rfl) rfl rfl ?_
        simp only [List.set_cons_succ, List.set_cons_zero]
        refine ac_iload (q := 26) dX7_divisor_24 rfl rfl ?_
        refine ac_istore_n (q := 27) (j := 3) rfl dX7_divisor_26 rfl (Nat.le_of_ble_eq_true rfl) rfl rfl ?_
        simp only [List.set_cons_succ, List.set_cons_zero]
        refine ac_goto (q := 13) dX7_divisor_27 rfl ?_
        exact ih q (p % q) (0, ((p % q : Nat) : Int)) (show (0 : Nat) ≠ 1 by decide) (by omega) hq2 (by omega) (by rw [← hg, Nat.gcd_comm p q, Nat.gcd_rec q p, Nat.gcd_comm])
  refine ac_met (on := (RX7, "divisor")) rfl rfl (Nat.le_of_ble_eq_true rfl) (ls := [(0, (a : Int)), (0, (b : Int)), (3, 0), (3, 0), (3, 0)]) rfl ?_
  refine ac_iload_n (q := 1) dX7_divisor_0 rfl rfl ?_
  refine ac_if_ge (q := 4) (tgt := 9) dX7_divisor_1 rfl rfl ⟨by omega, by omega⟩ (fun h1 => ?_) (fun h1 => ?_)
  · refine ac_iload_n (q := 10) dX7_divisor_9 rfl rfl ?_
    refine ac_istore_n (q := 11) (j := 2) rfl dX7_divisor_10 rfl (Nat.le_of_ble_eq_true rfl) rfl rfl ?_
    simp only [List.set_cons_succ, List.set_cons_zero]
    refine ac_iload_n (q := 12) dX7_divisor_11 rfl rfl ?_
    refine ac_istore_n (q := 13) (j := 3) rfl dX7_divisor_12 rfl (Nat.le_of_ble_eq_true rfl) rfl rfl ?_
    simp only [List.set_cons_succ, List.set_cons_zero]
    exact loop (b + 1) a b (3, 0) (show (3 : Nat) ≠ 1 by decide) (by omega) ha hb (Nat.gcd_comm a b)
  · exfalso; omega

set_option maxHeartbeats 8000000 in
theorem k_X7_fraction {G : ac_G} {Y : ac_Y} {mm : ac_M} {d : Nat} {a b : Nat} {up : Int} (hd : 2 ≤ d) (ha : a < 2147483648) (hb : b < 2147483648) (hb0 : 0 < b) (hup : ac_in up) : ac_C G yX7_fraction cX7_fraction 4 (some .int) d 0 0 Y mm [(0, (a : Int)), (0, (b : Int)), (0, up)] (ac_R Y [(0, ac_frac a b up)] (fun m => m = mm)) := by
  obtain ⟨hu1, hu2⟩ := hup
  have hg : 0 < Nat.gcd b a := Nat.gcd_pos_of_pos_left _ hb0
  have hgl : Nat.gcd b a ≤ b := Nat.gcd_le_left _ hb0
  unfold ac_frac
  refine ac_met (on := (RX7, "fraction")) rfl rfl (Nat.le_of_ble_eq_true rfl) (ls := [(0, (a : Int)), (0, (b : Int)), (0, up), (3, 0)]) rfl ?_
  refine ac_iload_n (q := 1) dX7_fraction_0 rfl rfl ?_
  refine ac_iload_n (q := 2) dX7_fraction_1 rfl rfl ?_
  refine ac_csp (q := 5) (k_X7_divisor (a := a) (b := b) (d := d - 1) (by omega) ha hb) ml_X7_256 dX7_fraction_2 rfl rfl rfl (by omega) (Nat.le_of_ble_eq_true rfl) (Nat.zero_le _) (Nat.zero_le _) ?_
  generalize Nat.gcd b a = g at *
  refine ac_istore_n (q := 6) (j := 3) rfl dX7_fraction_5 rfl (Nat.le_of_ble_eq_true rfl) rfl rfl ?_
  simp only [List.set_cons_succ, List.set_cons_zero]
  refine ac_iload_n (q := 7) dX7_fraction_6 rfl rfl ?_
  refine ac_if_eq (q := 10) (tgt := 16) dX7_fraction_7 rfl rfl ⟨by omega, by omega⟩ (fun h7 => ?_) (fun h7 => ?_)
  · refine ac_iload_n (q := 17) dX7_fraction_16 rfl rfl ?_
    refine ac_iload_n (q := 18) dX7_fraction_17 rfl rfl ?_
    refine ac_idiv (q := 19) dX7_fraction_18 rfl ⟨by omega, by omega⟩ ⟨by omega, by omega⟩ (by omega) (by omega) ?_
    rw [← Int.ofNat_tdiv]
    refine ac_ireturn dX7_fraction_19 rfl (Nat.zero_le _) (Nat.zero_le _) ?_
    first
      | exact ⟨by rw [if_pos (by omega)], rfl, rfl⟩
      | exact ⟨by rw [if_neg (by omega)], rfl, rfl⟩
  · refine ac_iload_n (q := 11) dX7_fraction_10 rfl rfl ?_
    refine ac_iload_n (q := 12) dX7_fraction_11 rfl rfl ?_
    refine ac_idiv (q := 13) dX7_fraction_12 rfl ⟨by omega, by omega⟩ ⟨by omega, by omega⟩ (by omega) (by omega) ?_
    rw [← Int.ofNat_tdiv]
    refine ac_goto (q := 19) dX7_fraction_13 rfl ?_
    refine ac_ireturn dX7_fraction_19 rfl (Nat.zero_le _) (Nat.zero_le _) ?_
    first
      | exact ⟨by rw [if_pos (by omega)], rfl, rfl⟩
      | exact ⟨by rw [if_neg (by omega)], rfl, rfl⟩

set_option maxHeartbeats 8000000 in
theorem k_X7_luck {G : ac_G} {Y : ac_Y} {mm : ac_M} {d x : Nat} {s : List Nat} {T : ac_Tk} {hs : List ac_Tk} {s0 s1 : Option ac_Tk} {obs : List ac_Ob} {ch : Int} {up : Int} (hd : 30 ≤ d) (hM : ac_isM Y x) (hR : ac_RM mm x s T hs s0 s1 obs ch) (hup : ac_in up) : ac_C G yX7_luck cX7_luck 2 (some .int) d 0 0 Y mm [(2, (x : Int)), (0, up)] (ac_R Y [(0, ac_an_luck T up)] (fun m => ac_RM m x s T hs s0 s1 obs ch ∧ ac_fM mm m x)) := by
  have hM9 := hM
  obtain ⟨kx, k1, k2, k3, k4, k5, k6, k7, k8, k9, k10, k11, k12, k13, k14, k15, k16⟩ := hM.2
  obtain ⟨-, ⟨hkk, hPg⟩, -⟩ := id hR
  obtain ⟨⟨⟨hn1, hn2⟩, ⟨hk2, hk3⟩, hE, hp0, hpr, hc0⟩, -⟩ := id hPg
  have hE4 := hE.1
  have hLn := ac_Lt_len T hn2
  have hkp : T.2.1 ^ T.1 ≤ 59049 := Nat.le_trans (Nat.pow_le_pow_left hk3 T.1) (Nat.pow_le_pow_right (n := 3) (by decide) hn2)
  have hkp0 : 0 < T.2.1 ^ T.1 := Nat.pow_pos (by omega)
  refine ac_met (on := (RX7, "luck")) rfl rfl (Nat.le_of_ble_eq_true rfl) (ls := [(2, (x : Int)), (0, up)]) rfl ?_
  refine ac_aload_n (q := 1) dX7_luck_0 rfl rfl ?_
  refine ac_iconst (q := 2) dX7_luck_1 rfl ?_
  refine ac_put (q := 5) dX7_luck_2 fl_X7_67 (by assumption) rfl rfl ?_
  have A0 := ac_up0_RM hR
  have F0 : ac_fM mm (ac_up mm x 0 0) x := ac_up0_fM
  generalize ac_up mm x 0 0 = m0 at *
  obtain ⟨q4, qP⟩ := A0.2.1
  obtain ⟨-, p0, p1, pE, pp, p28, pcb, pcl⟩ := id qP
  refine ac_aload_n (q := 6) dX7_luck_5 rfl rfl ?_
  refine ac_aload_n (q := 7) dX7_luck_6 rfl rfl ?_
  refine ac_get (q := 10) dX7_luck_7 fl_X7_20 (by assumption) rfl (ac_rdr rfl hM9.1.2.2.1) ?_
  refine ac_cv (q := 13) (k_X7_manyOf (r := x + 3) (d := d - 1) (by omega) hM9 (Or.inl rfl) A0.2.1.2 A0.2.1.1) ml_X7_118 (by assumption) dX7_luck_10 rfl rfl rfl (by omega) (Nat.le_of_ble_eq_true rfl) (Nat.zero_le _) (Nat.zero_le _) (fun m1 h1 => ?_)
  have A1 := ac_RM_fE A0 h1
  have F1 := ac_fM_t F0 (ac_fE_fM h1)
  obtain ⟨r4, rP⟩ := A1.2.1
  have r0 := rP.2.1
  refine ac_aload_n (q := 14) dX7_luck_13 rfl rfl ?_
  refine ac_get (q := 17) dX7_luck_14 fl_X7_13 kx rfl (ac_rdi rfl r4) ?_
  refine ac_aload_n (q := 18) dX7_luck_17 rfl rfl ?_
  refine ac_get (q := 21) dX7_luck_18 fl_X7_20 (by assumption) rfl (ac_rdr rfl hM9.1.2.2.1) ?_
  refine ac_iconst (q := 22) dX7_luck_21 rfl ?_
  refine ac_ialoadN (q := 23) (j := 0) (v := (T.1 : Int)) dX7_luck_22 k3 (by decide) (by decide) rfl r0 ?_
  refine ac_csp (q := 26) (k_X7_power (d := d - 1) (by omega) (by omega)) ml_X7_266 dX7_luck_23 rfl rfl rfl (by omega) (Nat.le_of_ble_eq_true rfl) (Nat.zero_le _) (Nat.zero_le _) ?_
  refine ac_iload_n (q := 27) dX7_luck_26 rfl rfl ?_
  refine ac_csp (q := 30) (k_X7_fraction (a := (ac_Lt T).length) (b := T.2.1 ^ T.1) (d := d - 1) (by omega) (by omega) (by omega) hkp0 hup) ml_X7_262 dX7_luck_27 rfl rfl rfl (by omega) (Nat.le_of_ble_eq_true rfl) (Nat.zero_le _) (Nat.zero_le _) ?_
  refine ac_ireturn dX7_luck_30 rfl (Nat.zero_le _) (Nat.zero_le _) ?_
  exact ⟨rfl, rfl, A1, F1⟩

set_option maxHeartbeats 8000000 in
theorem k_X7_share {G : ac_G} {Y : ac_Y} {mm : ac_M} {d x : Nat} {s : List Nat} {T : ac_Tk} {hs : List ac_Tk} {s0 s1 : Option ac_Tk} {obs : List ac_Ob} {ch : Int} {e up : Int} (hd : 30 ≤ d) (hM : ac_isM Y x) (hR : ac_RM mm x s T hs s0 s1 obs ch) (he : ac_in e) (hup : ac_in up) : ac_C G yX7_share cX7_share 7 (some .int) d 0 0 Y mm [(2, (x : Int)), (0, e), (0, up)] (ac_R Y [(0, ac_an_share T e up)] (fun m => ac_RM m x s T hs s0 s1 obs ch ∧ ac_fM mm m x)) := by
  have hM9 := hM
  obtain ⟨kx, k1, k2, k3, k4, k5, k6, k7, k8, k9, k10, k11, k12, k13, k14, k15, k16⟩ := hM.2
  obtain ⟨-, ⟨hkk, hPg⟩, -⟩ := id hR
  obtain ⟨⟨⟨hn1, hn2⟩, ⟨hk2, hk3⟩, hE, hp0, hpr, hc0⟩, -⟩ := id hPg
  have hE4 := hE.1
  have hLn := ac_Lt_len T hn2
  obtain ⟨he1, he2⟩ := he
  have h2l : 2 ^ T.2.2.1.length ≤ 16 := Nat.pow_le_pow_right (n := 2) (by decide) hE4
  have hbd := ac_bits_d T.2.2.1.length hE4
  refine ac_met (on := (RX7, "share")) rfl rfl (Nat.le_of_ble_eq_true rfl) (ls := [(2, (x : Int)), (0, e), (0, up), (3, 0), (3, 0), (3, 0), (3, 0)]) rfl ?_
  refine ac_aload_n (q := 1) dX7_share_0 rfl rfl ?_
  refine ac_iconst (q := 2) dX7_share_1 rfl ?_
  refine ac_put (q := 5) dX7_share_2 fl_X7_67 (by assumption) rfl rfl ?_
  have A0 := ac_up0_RM hR
  have F0 : ac_fM mm (ac_up mm x 0 0) x := ac_up0_fM
  generalize ac_up mm x 0 0 = m0 at *
  obtain ⟨q4, qP⟩ := A0.2.1
  obtain ⟨-, p0, p1, pE, pp, p28, pcb, pcl⟩ := id qP
  refine ac_aload_n (q := 6) dX7_share_5 rfl rfl ?_
  refine ac_iload_n (q := 7) dX7_share_6 rfl rfl ?_
  refine ac_cvp (q := 10) (k_X7_noEquation (T := T) (e := e) (d := d - 1) (by omega) hM9 qP ⟨by omega, by omega⟩) ml_X7_185 (by assumption) dX7_share_7 rfl rfl rfl (by omega) (Nat.le_of_ble_eq_true rfl) (Nat.zero_le _) (Nat.zero_le _) ?_
  refine ac_bif_eq (q := 13) (tgt := 15) dX7_share_10 rfl rfl (fun h10 => ?_) (fun h10 => ?_)
  · have hin : 0 ≤ e ∧ e < (T.2.2.1.length : Int) := Decidable.not_not.mp h10
    obtain ⟨e, rfl⟩ := Int.eq_ofNat_of_zero_le (a := e) (by omega)
    have hans : ac_an_share T (e : Int) up = ac_frac (ac_shv T e) (ac_fac T.2.2.1.length) up := by unfold ac_an_share; rw [if_neg (fun q => q hin), Int.toNat_natCast]
    refine ac_aload_n (q := 16) dX7_share_15 rfl rfl ?_
    refine ac_get (q := 19) dX7_share_16 fl_X7_20 (by assumption) rfl (ac_rdr rfl hM9.1.2.2.1) ?_
    refine ac_iconst (q := 20) dX7_share_19 rfl ?_
    refine ac_ialoadN (q := 21) (j := 1) (v := (T.2.2.1.length : Int)) dX7_share_20 k3 (by decide) (by decide) rfl p1 ?_
    refine ac_istore_n (q := 22) (j := 3) rfl dX7_share_21 rfl (Nat.le_of_ble_eq_true rfl) rfl rfl ?_
    simp only [List.set_cons_succ, List.set_cons_zero]
    refine ac_iconst (q := 23) dX7_share_22 rfl ?_
    refine ac_istore (q := 25) dX7_share_23 rfl (Nat.le_of_ble_eq_true rfl) rfl rfl ?_
    simp only [List.set_cons_succ, List.set_cons_zero]
    refine ac_iconst (q := 26) dX7_share_25 rfl ?_
    refine ac_istore (q := 28) dX7_share_26 rfl (Nat.le_of_ble_eq_true rfl) rfl rfl ?_
    simp only [List.set_cons_succ, List.set_cons_zero]
    have loop : ∀ (r i : Nat) (m : ac_M), i + r = 2 ^ T.2.2.1.length → ac_RM m x s T hs s0 s1 obs ch → ac_fM mm m x → ac_V G (RX7, "share") cX7_share 7 (some .int) d 0 0 (ac_R Y [(0, ac_an_share T (e : Int) up)] (fun m => ac_RM m x s T hs s0 s1 obs ch ∧ ac_fM mm m x)) 0 0 Y m 28 [(2, (x : Int)), (0, (e : Int)), (0, up), (0, (T.2.2.1.length : Int)), (0, ((ac_sm (ac_shg T e) i : Nat) : Int)), (0, ((i : Nat) : Int)), (3, 0)] [] := by
      intro r
      induction r with
      | zero =>
        intro i m hi A F
        obtain rfl : i = 2 ^ T.2.2.1.length := by omega
        have hsb : ac_sm (ac_shg T e) (2 ^ T.2.2.1.length) ≤ 16 * (24 * 24 * 59049) := Nat.le_trans (ac_sm_bound2 _ (fun j hj => ac_shg_le T e j hn2 (by have := (hbd j hj).1; omega) hE4)) (Nat.mul_le_mul_right _ h2l)
        have hfp := ac_fac_pos T.2.2.1.length hE4
        have hfl := ac_fac_le T.2.2.1.length hE4
        refine ac_iload (q := 30) dX7_share_28 rfl rfl ?_
        refine ac_iconst (q := 31) dX7_share_30 rfl ?_
        refine ac_iload_n (q := 32) dX7_share_31 rfl rfl ?_
        refine ac_ishl1 (q := 33) (k := T.2.2.1.length) dX7_share_32 rfl (by omega) ?_
        refine ac_icmp_ge (q := 36) (tgt := 104) dX7_share_33 rfl rfl (ac_nin (by omega)) (ac_nin (by omega)) (fun h33 => ?_) (fun h33 => ?_)
        · refine ac_iload (q := 106) dX7_share_104 rfl rfl ?_
          refine ac_iload_n (q := 107) dX7_share_106 rfl rfl ?_
          refine ac_csp (q := 110) (k_X7_factorial (d := d - 1) (by omega) (by omega)) ml_X7_259 dX7_share_107 rfl rfl rfl (by omega) (Nat.le_of_ble_eq_true rfl) (Nat.zero_le _) (Nat.zero_le _) ?_
          refine ac_iload_n (q := 111) dX7_share_110 rfl rfl ?_
          refine ac_csp (q := 114) (k_X7_fraction (a := ac_shv T e) (b := ac_fac T.2.2.1.length) (d := d - 1) (by omega) (by show ac_sm _ _ < _; omega) (by omega) (by omega) hup) ml_X7_262 dX7_share_111 rfl rfl rfl (by omega) (Nat.le_of_ble_eq_true rfl) (Nat.zero_le _) (Nat.zero_le _) ?_
          refine ac_ireturn dX7_share_114 rfl (Nat.zero_le _) (Nat.zero_le _) ?_
          rw [hans]; exact ⟨rfl, rfl, A, F⟩
        · exact absurd h33 (Int.lt_irrefl _)
      | succ r ih =>
        intro i m hi A F
        have ei : ((i : Nat) : Int) + 1 = ((i + 1 : Nat) : Int) := rfl
        have hs := fun m => ih (i + 1) m (by omega)
        obtain ⟨hb1, hb2⟩ := hbd i (by omega)
        have hmo := ac_NS_mono T i (2 ^ e) hk3 hE4
        have hor : i ||| 2 ^ e < 16 := Nat.or_lt_two_pow (n := 4) (show i < 2 ^ 4 by omega) (Nat.pow_lt_pow_of_lt (by decide) (by omega))
        refine ac_iload (q := 30) dX7_share_28 rfl rfl ?_
        refine ac_iconst (q := 31) dX7_share_30 rfl ?_
        refine ac_iload_n (q := 32) dX7_share_31 rfl rfl ?_
        refine ac_ishl1 (q := 33) (k := T.2.2.1.length) dX7_share_32 rfl (by omega) ?_
        refine ac_icmp_ge (q := 36) (tgt := 104) dX7_share_33 rfl rfl ⟨by omega, by omega⟩ ⟨by omega, by omega⟩ (fun h33 => ?_) (fun h33 => ?_)
        · exfalso; omega
        · refine ac_iload (q := 38) dX7_share_36 rfl rfl ?_
          refine ac_iload_n (q := 39) dX7_share_38 rfl rfl ?_
          refine ac_csp (q := 42) (k_X7_has (S := i) (k := e) (d := d - 1) (by omega) (by omega) (by omega)) ml_X7_122 dX7_share_39 rfl rfl rfl (by omega) (Nat.le_of_ble_eq_true rfl) (Nat.zero_le _) (Nat.zero_le _) ?_
          refine ac_bif_ne (q := 45) (tgt := 98) dX7_share_42 rfl rfl (fun h42 => ?_) (fun h42 => ?_)
          · have hsg : ac_sm (ac_shg T e) (i + 1) = ac_sm (ac_shg T e) i := by rw [ac_sm, ac_shg, if_pos h42]; rfl
            have hs := hs m A F
            rw [hsg] at hs
            refine ac_iinc (q := 101) dX7_share_98 rfl (Nat.le_of_ble_eq_true rfl) rfl rfl rfl rfl ?_
            simp only [List.set_cons_succ, List.set_cons_zero]
            refine ac_goto (q := 28) dX7_share_101 rfl ?_
            exact ac_ls (by rw [ei]) hs
          · have hsg : ((ac_sm (ac_shg T e) (i + 1) : Nat) : Int) = ((ac_sm (ac_shg T e) i : Nat) : Int) + ((ac_fac (ac_bits i) : Nat) : Int) * ((ac_fac (T.2.2.1.length - 1 - ac_bits i) : Nat) : Int) * (((ac_NS T i : Nat) : Int) - ((ac_NS T (i ||| 2 ^ e) : Nat) : Int)) := by
              rw [ac_sm, ac_shg, if_neg h42, Int.natCast_add, Int.natCast_mul, Int.natCast_mul, Int.ofNat_sub hmo]
            refine ac_iload (q := 47) dX7_share_45 rfl rfl ?_
            refine ac_csp (q := 50) (k_X7_ones (S := i) (d := d - 1) (by omega) (by omega)) ml_X7_201 dX7_share_47 rfl rfl rfl (by omega) (Nat.le_of_ble_eq_true rfl) (Nat.zero_le _) (Nat.zero_le _) ?_
            refine ac_istore (q := 52) dX7_share_50 rfl (Nat.le_of_ble_eq_true rfl) rfl rfl ?_
            simp only [List.set_cons_succ, List.set_cons_zero]
            refine ac_iload (q := 54) dX7_share_52 rfl rfl ?_
            refine ac_iload (q := 56) dX7_share_54 rfl rfl ?_
            refine ac_csp (q := 59) (k_X7_factorial (d := d - 1) (by omega) (by omega)) ml_X7_259 dX7_share_56 rfl rfl rfl (by omega) (Nat.le_of_ble_eq_true rfl) (Nat.zero_le _) (Nat.zero_le _) ?_
            refine ac_iload_n (q := 60) dX7_share_59 rfl rfl ?_
            refine ac_iconst (q := 61) dX7_share_60 rfl ?_
            refine ac_isub (q := 62) dX7_share_61 rfl ?_
            refine ac_iload (q := 64) dX7_share_62 rfl rfl ?_
            refine ac_isub (q := 65) dX7_share_64 rfl ?_
            refine ac_top (w' := (0, ((T.2.2.1.length - 1 - ac_bits i : Nat) : Int))) (congrArg (fun z : Int => ((0 : Nat), z)) (by have := hb2 e (by omega) (by simpa using h42); omega)) ?_
            refine ac_csp (q := 68) (k_X7_factorial (d := d - 1) (by omega) (by omega)) ml_X7_259 dX7_share_65 rfl rfl rfl (by omega) (Nat.le_of_ble_eq_true rfl) (Nat.zero_le _) (Nat.zero_le _) ?_
            refine ac_imul (q := 69) dX7_share_68 rfl ?_
            refine ac_aload_n (q := 70) dX7_share_69 rfl rfl ?_
            refine ac_aload_n (q := 71) dX7_share_70 rfl rfl ?_
            refine ac_get (q := 74) dX7_share_71 fl_X7_20 (by assumption) rfl (ac_rdr rfl hM9.1.2.2.1) ?_
            refine ac_iload (q := 76) dX7_share_74 rfl rfl ?_
            refine ac_cv (q := 79) (k_X7_manyBy (r := x + 3) (T := T) (S := i) (d := d - 1) (by omega) hM9 (Or.inl rfl) A.2.1.2 A.2.1.1 (by omega)) ml_X7_167 (by assumption) dX7_share_76 rfl rfl rfl (by omega) (Nat.le_of_ble_eq_true rfl) (Nat.zero_le _) (Nat.zero_le _) (fun m5 h5 => ?_)
            have A5 := ac_RM_fE A h5
            refine ac_top (w' := (0, ((ac_NS T i : Nat) : Int))) rfl ?_
            refine ac_aload_n (q := 80) dX7_share_79 rfl rfl ?_
            refine ac_aload_n (q := 81) dX7_share_80 rfl rfl ?_
            refine ac_get (q := 84) dX7_share_81 fl_X7_20 (by assumption) rfl (ac_rdr rfl hM9.1.2.2.1) ?_
            refine ac_iload (q := 86) dX7_share_84 rfl rfl ?_
            refine ac_iconst (q := 87) dX7_share_86 rfl ?_
            refine ac_iload_n (q := 88) dX7_share_87 rfl rfl ?_
            refine ac_ishl1 (q := 89) (k := e) dX7_share_88 rfl (by omega) ?_
            refine ac_ior (q := 90) dX7_share_89 rfl ?_
            refine ac_cv (q := 93) (k_X7_manyBy (r := x + 3) (T := T) (S := i ||| 2 ^ e) (d := d - 1) (by omega) hM9 (Or.inl rfl) A5.2.1.2 A5.2.1.1 (by omega)) ml_X7_167 (by assumption) dX7_share_90 rfl rfl rfl (by omega) (Nat.le_of_ble_eq_true rfl) (Nat.zero_le _) (Nat.zero_le _) (fun m6 h6 => ?_)
            have A6 := ac_RM_fE A5 h6
            refine ac_top (w' := (0, ((ac_NS T (i ||| 2 ^ e) : Nat) : Int))) rfl ?_
            have F6 := ac_fM_t (ac_fM_t F (ac_fE_fM h5)) (ac_fE_fM h6)
            refine ac_isub (q := 94) dX7_share_93 rfl ?_
            refine ac_imul (q := 95) dX7_share_94 rfl ?_
            refine ac_iadd (q := 96) dX7_share_95 rfl ?_
            refine ac_istore (q := 98) dX7_share_96 rfl (Nat.le_of_ble_eq_true rfl) rfl rfl ?_
            simp only [List.set_cons_succ, List.set_cons_zero]
            refine ac_iinc (q := 101) dX7_share_98 rfl (Nat.le_of_ble_eq_true rfl) rfl rfl rfl rfl ?_
            simp only [List.set_cons_succ, List.set_cons_zero]
            refine ac_goto (q := 28) dX7_share_101 rfl ?_
            have hs := hs m6 A6 F6
            rw [hsg] at hs
            refine ac_drop [(2, (x : Int)), (0, (e : Int)), (0, up), (0, (T.2.2.1.length : Int)), (0, _), (0, (i : Int) + 1), (3, 0)] (by repeat (first | exact trivial | refine ⟨Or.inl rfl, ?_⟩ | refine ⟨Or.inr rfl, ?_⟩)) ?_
            exact ac_ls (by rw [ei]) hs
    exact loop (2 ^ T.2.2.1.length) 0 m0 (by omega) A0 F0
  · refine ac_iconst (q := 14) dX7_share_13 rfl ?_
    refine ac_ireturn dX7_share_14 rfl (Nat.zero_le _) (Nat.zero_le _) ?_
    unfold ac_an_share; rw [if_pos h10]; exact ⟨rfl, rfl, A0, F0⟩

set_option maxHeartbeats 8000000 in
theorem k_X7_lost {G : ac_G} {Y : ac_Y} {mm : ac_M} {d x : Nat} {s : List Nat} {T : ac_Tk} {hs : List ac_Tk} {s0 s1 : Option ac_Tk} {obs : List ac_Ob} {ch : Int} {a up : Int} (hd : 30 ≤ d) (hM : ac_isM Y x) (hR : ac_RM mm x s T hs s0 s1 obs ch) (ha : ac_in a) (hup : ac_in up) : ac_C G yX7_lost cX7_lost 6 (some .int) d 0 0 Y mm [(2, (x : Int)), (0, a), (0, up)] (ac_R Y [(0, ac_an_lost T a up)] (fun m => ac_RM m x s T hs s0 s1 obs ch ∧ ac_fM mm m x)) := by
  have hM9 := hM
  obtain ⟨kx, k1, k2, k3, k4, k5, k6, k7, k8, k9, k10, k11, k12, k13, k14, k15, k16⟩ := hM.2
  obtain ⟨-, ⟨hkk, hPg⟩, -⟩ := id hR
  obtain ⟨⟨⟨hn1, hn2⟩, ⟨hk2, hk3⟩, hE, hp0, hpr, hc0⟩, -⟩ := id hPg
  have hE4 := hE.1
  have hLn := ac_Lt_len T hn2
  obtain ⟨ha1, ha2⟩ := ha
  have h2l : 2 ^ T.2.2.1.length ≤ 16 := Nat.pow_le_pow_right (n := 2) (by decide) hE4
  have hbd := ac_bits_d T.2.2.1.length hE4
  refine ac_met (on := (RX7, "lost")) rfl rfl (Nat.le_of_ble_eq_true rfl) (ls := [(2, (x : Int)), (0, a), (0, up), (3, 0), (3, 0), (3, 0)]) rfl ?_
  refine ac_aload_n (q := 1) dX7_lost_0 rfl rfl ?_
  refine ac_iconst (q := 2) dX7_lost_1 rfl ?_
  refine ac_put (q := 5) dX7_lost_2 fl_X7_67 (by assumption) rfl rfl ?_
  have A0 := ac_up0_RM hR
  have F0 : ac_fM mm (ac_up mm x 0 0) x := ac_up0_fM
  generalize ac_up mm x 0 0 = m0 at *
  obtain ⟨q4, qP⟩ := A0.2.1
  obtain ⟨-, p0, p1, pE, pp, p28, pcb, pcl⟩ := id qP
  refine ac_iload_n (q := 6) dX7_lost_5 rfl rfl ?_
  refine ac_i2l (q := 7) dX7_lost_6 rfl ⟨by omega, by omega⟩ ?_
  refine ac_lconst (q := 8) (v := 0) dX7_lost_7 rfl (by decide) ?_
  refine ac_ldc2_w (q := 11) (v := 10) dX7_lost_8 rfl ct_X7_215 ?_
  refine ac_csp (q := 14) (k_X7_in (d := d - 1) (by omega) ⟨by omega, by omega⟩ ⟨by omega, by omega⟩ ⟨by omega, by omega⟩) ml_X7_72 dX7_lost_11 rfl rfl rfl (by omega) (Nat.le_of_ble_eq_true rfl) (Nat.zero_le _) (Nat.zero_le _) ?_
  refine ac_bif_ne (q := 17) (tgt := 20) dX7_lost_14 rfl rfl (fun h14 => ?_) (fun h14 => ?_)
  · obtain ⟨a, rfl⟩ := Int.eq_ofNat_of_zero_le (a := a) (by omega)
    have hans : ac_an_lost T (a : Int) up = ac_frac (ac_los T a) (10 ^ T.2.2.1.length) up := by unfold ac_an_lost; rw [if_neg (fun q => q h14), Int.toNat_natCast]
    refine ac_aload_n (q := 21) dX7_lost_20 rfl rfl ?_
    refine ac_get (q := 24) dX7_lost_21 fl_X7_20 (by assumption) rfl (ac_rdr rfl hM9.1.2.2.1) ?_
    refine ac_iconst (q := 25) dX7_lost_24 rfl ?_
    refine ac_ialoadN (q := 26) (j := 1) (v := (T.2.2.1.length : Int)) dX7_lost_25 k3 (by decide) (by decide) rfl p1 ?_
    refine ac_istore_n (q := 27) (j := 3) rfl dX7_lost_26 rfl (Nat.le_of_ble_eq_true rfl) rfl rfl ?_
    simp only [List.set_cons_succ, List.set_cons_zero]
    refine ac_iconst (q := 28) dX7_lost_27 rfl ?_
    refine ac_istore (q := 30) dX7_lost_28 rfl (Nat.le_of_ble_eq_true rfl) rfl rfl ?_
    simp only [List.set_cons_succ, List.set_cons_zero]
    refine ac_iconst (q := 31) dX7_lost_30 rfl ?_
    refine ac_istore (q := 33) dX7_lost_31 rfl (Nat.le_of_ble_eq_true rfl) rfl rfl ?_
    simp only [List.set_cons_succ, List.set_cons_zero]
    have loop : ∀ (r i : Nat) (m : ac_M), i + r = 2 ^ T.2.2.1.length → ac_RM m x s T hs s0 s1 obs ch → ac_fM mm m x → ac_V G (RX7, "lost") cX7_lost 6 (some .int) d 0 0 (ac_R Y [(0, ac_an_lost T (a : Int) up)] (fun m => ac_RM m x s T hs s0 s1 obs ch ∧ ac_fM mm m x)) 0 0 Y m 33 [(2, (x : Int)), (0, (a : Int)), (0, up), (0, (T.2.2.1.length : Int)), (0, ((ac_sm (ac_lsg T a) i : Nat) : Int)), (0, ((i : Nat) : Int))] [] := by
      intro r
      induction r with
      | zero =>
        intro i m hi A F
        obtain rfl : i = 2 ^ T.2.2.1.length := by omega
        have hsb : ac_sm (ac_lsg T a) (2 ^ T.2.2.1.length) ≤ 16 * (10000 * 10000) := Nat.le_trans (ac_sm_bound2 _ (fun j hj => ac_lsg_le T a j (by omega) (by have := (hbd j hj).1; omega) hE4)) (Nat.mul_le_mul_right _ h2l)
        have hpp : 0 < 10 ^ T.2.2.1.length := Nat.pow_pos (by decide)
        have hpl := ac_pow10 (a := 10) (n := T.2.2.1.length) (by decide) hE4
        refine ac_iload (q := 35) dX7_lost_33 rfl rfl ?_
        refine ac_iconst (q := 36) dX7_lost_35 rfl ?_
        refine ac_iload_n (q := 37) dX7_lost_36 rfl rfl ?_
        refine ac_ishl1 (q := 38) (k := T.2.2.1.length) dX7_lost_37 rfl (by omega) ?_
        refine ac_icmp_ge (q := 41) (tgt := 104) dX7_lost_38 rfl rfl (ac_nin (by omega)) (ac_nin (by omega)) (fun h38 => ?_) (fun h38 => ?_)
        · refine ac_iload (q := 106) dX7_lost_104 rfl rfl ?_
          refine ac_bipush (q := 108) dX7_lost_106 rfl (by decide) ?_
          refine ac_iload_n (q := 109) dX7_lost_108 rfl rfl ?_
          refine ac_csp (q := 112) (k_X7_power (a := 10) (d := d - 1) (by omega) (by omega)) ml_X7_266 dX7_lost_109 rfl rfl rfl (by omega) (Nat.le_of_ble_eq_true rfl) (Nat.zero_le _) (Nat.zero_le _) ?_
          refine ac_iload_n (q := 113) dX7_lost_112 rfl rfl ?_
          refine ac_csp (q := 116) (k_X7_fraction (a := ac_los T a) (b := 10 ^ T.2.2.1.length) (d := d - 1) (by omega) (by show ac_sm _ _ < _; omega) (by omega) hpp hup) ml_X7_262 dX7_lost_113 rfl rfl rfl (by omega) (Nat.le_of_ble_eq_true rfl) (Nat.zero_le _) (Nat.zero_le _) ?_
          refine ac_ireturn dX7_lost_116 rfl (Nat.zero_le _) (Nat.zero_le _) ?_
          rw [hans]; exact ⟨rfl, rfl, A, F⟩
        · exact absurd h38 (Int.lt_irrefl _)
      | succ r ih =>
        intro i m hi A F
        have ei : ((i : Nat) : Int) + 1 = ((i + 1 : Nat) : Int) := rfl
        have hs := fun m => ih (i + 1) m (by omega)
        obtain ⟨hb1, hb2⟩ := hbd i (by omega)
        obtain ⟨r4, rP⟩ := A.2.1
        have r0 := rP.2.1
        refine ac_iload (q := 35) dX7_lost_33 rfl rfl ?_
        refine ac_iconst (q := 36) dX7_lost_35 rfl ?_
        refine ac_iload_n (q := 37) dX7_lost_36 rfl rfl ?_
        refine ac_ishl1 (q := 38) (k := T.2.2.1.length) dX7_lost_37 rfl (by omega) ?_
        refine ac_icmp_ge (q := 41) (tgt := 104) dX7_lost_38 rfl rfl ⟨by omega, by omega⟩ ⟨by omega, by omega⟩ (fun h38 => ?_) (fun h38 => ?_)
        · exfalso; omega
        · refine ac_aload_n (q := 42) dX7_lost_41 rfl rfl ?_
          refine ac_aload_n (q := 43) dX7_lost_42 rfl rfl ?_
          refine ac_get (q := 46) dX7_lost_43 fl_X7_20 (by assumption) rfl (ac_rdr rfl hM9.1.2.2.1) ?_
          refine ac_iload (q := 48) dX7_lost_46 rfl rfl ?_
          refine ac_aload_n (q := 49) dX7_lost_48 rfl rfl ?_
          refine ac_get (q := 52) dX7_lost_49 fl_X7_20 (by assumption) rfl (ac_rdr rfl hM9.1.2.2.1) ?_
          refine ac_iconst (q := 53) dX7_lost_52 rfl ?_
          refine ac_ialoadN (q := 54) (j := 0) (v := (T.1 : Int)) dX7_lost_53 k3 (by decide) (by decide) rfl r0 ?_
          refine ac_iconst (q := 55) dX7_lost_54 rfl ?_
          refine ac_cv (q := 58) (k_X7_begin (r := x + 3) (S := i) (n := T.1) (T := T) (pz := 1) (pn := T.2.2.2.1) (d := d - 1) (by omega) hM9 (Or.inl rfl) rP r4 (by omega) ⟨hn1, hn2⟩ (Or.inr ⟨rfl, rfl⟩)) ml_X7_160 (by assumption) dX7_lost_55 rfl rfl rfl (by omega) (Nat.le_of_ble_eq_true rfl) (Nat.zero_le _) (Nat.zero_le _) (fun m5 h5 => ?_)
          obtain ⟨N5, P5, E5⟩ := h5
          refine ac_iload (q := 60) dX7_lost_58 rfl rfl ?_
          refine ac_aload_n (q := 61) dX7_lost_60 rfl rfl ?_
          refine ac_cv (q := 64) (k_X7_more (d := d - 1) (by omega) hM9 N5 P5) ml_X7_164 (by assumption) dX7_lost_61 rfl rfl rfl (by omega) (Nat.le_of_ble_eq_true rfl) (Nat.zero_le _) (Nat.zero_le _) (fun m6 h6 => ?_)
          obtain ⟨N6, F6, c6⟩ := h6
          have A6 := ac_RM_fE A (ac_fE_t E5 F6)
          have G6 := ac_fM_t F (ac_fE_fM (ac_fE_t E5 F6))
          have hs := hs m6 A6 G6
          refine ac_bif_eq (q := 67) (tgt := 94) dX7_lost_64 rfl rfl (fun h64 => ?_) (fun h64 => ?_)
          · have hsg : ac_sm (ac_lsg T a) (i + 1) = ac_sm (ac_lsg T a) i := by
              rw [ac_sm, ac_lsg, if_neg (by unfold ac_NS; rw [Decidable.not_not.mp h64]; decide)]; rfl
            rw [hsg] at hs
            refine ac_iconst (q := 95) dX7_lost_94 rfl ?_
            refine ac_iadd (q := 96) dX7_lost_95 rfl ?_
            refine ac_istore (q := 98) dX7_lost_96 rfl (Nat.le_of_ble_eq_true rfl) rfl rfl ?_
            simp only [List.set_cons_succ, List.set_cons_zero]
            refine ac_iinc (q := 101) dX7_lost_98 rfl (Nat.le_of_ble_eq_true rfl) rfl rfl rfl rfl ?_
            simp only [List.set_cons_succ, List.set_cons_zero]
            refine ac_goto (q := 33) dX7_lost_101 rfl ?_
            exact ac_ls (by rw [ei]; try rw [Int.add_zero]) hs
          · have hNp : 0 < ac_NS T i := by unfold ac_NS; exact List.length_pos_iff.mpr h64
            have hsg : ((ac_sm (ac_lsg T a) (i + 1) : Nat) : Int) = ((ac_sm (ac_lsg T a) i : Nat) : Int) + (((10 - a) ^ ac_bits i : Nat) : Int) * ((a ^ (T.2.2.1.length - ac_bits i) : Nat) : Int) := by
              rw [ac_sm, ac_lsg, if_pos hNp, Int.natCast_add, Int.natCast_mul]
            rw [hsg] at hs
            refine ac_bipush (q := 69) dX7_lost_67 rfl (by decide) ?_
            refine ac_iload_n (q := 70) dX7_lost_69 rfl rfl ?_
            refine ac_isub (q := 71) dX7_lost_70 rfl ?_
            refine ac_iload (q := 73) dX7_lost_71 rfl rfl ?_
            refine ac_csp (q := 76) (k_X7_ones (S := i) (d := d - 1) (by omega) (by omega)) ml_X7_201 dX7_lost_73 rfl rfl rfl (by omega) (Nat.le_of_ble_eq_true rfl) (Nat.zero_le _) (Nat.zero_le _) ?_
            refine ac_top2 (w' := (0, ((10 - a : Nat) : Int))) (congrArg (fun z : Int => ((0 : Nat), z)) (by omega)) ?_
            refine ac_csp (q := 79) (k_X7_power (a := 10 - a) (d := d - 1) (by omega) (by omega)) ml_X7_266 dX7_lost_76 rfl rfl rfl (by omega) (Nat.le_of_ble_eq_true rfl) (Nat.zero_le _) (Nat.zero_le _) ?_
            refine ac_iload_n (q := 80) dX7_lost_79 rfl rfl ?_
            refine ac_iload_n (q := 81) dX7_lost_80 rfl rfl ?_
            refine ac_iload (q := 83) dX7_lost_81 rfl rfl ?_
            refine ac_csp (q := 86) (k_X7_ones (S := i) (d := d - 1) (by omega) (by omega)) ml_X7_201 dX7_lost_83 rfl rfl rfl (by omega) (Nat.le_of_ble_eq_true rfl) (Nat.zero_le _) (Nat.zero_le _) ?_
            refine ac_isub (q := 87) dX7_lost_86 rfl ?_
            refine ac_top (w' := (0, ((T.2.2.1.length - ac_bits i : Nat) : Int))) (congrArg (fun z : Int => ((0 : Nat), z)) (by omega)) ?_
            refine ac_csp (q := 90) (k_X7_power (d := d - 1) (by omega) (by omega)) ml_X7_266 dX7_lost_87 rfl rfl rfl (by omega) (Nat.le_of_ble_eq_true rfl) (Nat.zero_le _) (Nat.zero_le _) ?_
            refine ac_imul (q := 91) dX7_lost_90 rfl ?_
            refine ac_goto (q := 95) dX7_lost_91 rfl ?_
            refine ac_iadd (q := 96) dX7_lost_95 rfl ?_
            refine ac_istore (q := 98) dX7_lost_96 rfl (Nat.le_of_ble_eq_true rfl) rfl rfl ?_
            simp only [List.set_cons_succ, List.set_cons_zero]
            refine ac_iinc (q := 101) dX7_lost_98 rfl (Nat.le_of_ble_eq_true rfl) rfl rfl rfl rfl ?_
            simp only [List.set_cons_succ, List.set_cons_zero]
            refine ac_goto (q := 33) dX7_lost_101 rfl ?_
            exact ac_ls (by rw [ei]; try rw [Int.add_zero]) hs
    exact loop (2 ^ T.2.2.1.length) 0 m0 (by omega) A0 F0
  · refine ac_bipush (q := 19) dX7_lost_17 rfl (by decide) ?_
    refine ac_ireturn dX7_lost_19 rfl (Nat.zero_le _) (Nat.zero_le _) ?_
    unfold ac_an_lost; rw [if_pos h14]; exact ⟨rfl, rfl, A0, F0⟩
