set_option maxHeartbeats 8000000 in
theorem k_X7_undo0 {G : ac_G} {Y : ac_Y} {mm : ac_M} {d x : Nat} {s : List Nat} {T : ac_Tk} {s0 s1 : Option ac_Tk} {obs : List ac_Ob} {ch : Int} (hd : 30 ≤ d) (hM : ac_isM Y x) (hR : ac_RM mm x s T [] s0 s1 obs ch)  : ac_C G yX7_undo cX7_undo 2 (some .int) d 0 0 Y mm [(2, (x : Int))] (ac_R Y [(0, -3)] (fun m => ac_RM m x s T [] s0 s1 obs ch ∧ ac_fM mm m x)) := by
  have hM9 := hM
  obtain ⟨kx, k1, k2, k3, k4, k5, k6, k7, k8, k9, k10, k11, k12, k13, k14, k15, k16⟩ := hM.2
  obtain ⟨-, ⟨hkk, hPg⟩, -⟩ := id hR
  obtain ⟨⟨⟨hn1, hn2⟩, ⟨hk2, hk3⟩, hE, hp0, hpr, hc0⟩, -⟩ := id hPg
  have hE4 := hE.1
  have hLn := ac_Lt_len T hn2
  refine ac_met (on := (RX7, "undo")) rfl rfl (Nat.le_of_ble_eq_true rfl) (ls := [(2, (x : Int)), (3, 0)]) rfl ?_
  refine ac_aload_n (q := 1) dX7_undo_0 rfl rfl ?_
  refine ac_iconst (q := 2) dX7_undo_1 rfl ?_
  refine ac_put (q := 5) dX7_undo_2 fl_X7_67 (by assumption) rfl rfl ?_
  have A0 := ac_up0_RM hR
  have F0 : ac_fM mm (ac_up mm x 0 0) x := ac_up0_fM
  generalize ac_up mm x 0 0 = m0 at *
  obtain ⟨q4, qP⟩ := A0.2.1
  obtain ⟨-, p0, p1, pE, pp, p28, pcb, pcl⟩ := id qP
  have q10 : m0 x 10 = 0 := A0.2.2.1.2.1
  refine ac_aload_n (q := 6) dX7_undo_5 rfl rfl ?_
  refine ac_get (q := 9) dX7_undo_6 fl_X7_115 kx rfl (ac_rdi rfl q10) ?_
  refine ac_if_ne (q := 12) (tgt := 15) dX7_undo_9 rfl rfl ⟨by omega, by omega⟩ (fun h9 => ?_) (fun h9 => ?_)
  · exact absurd rfl h9
  · refine ac_bipush (q := 14) dX7_undo_12 rfl (by decide) ?_
    refine ac_ireturn dX7_undo_14 rfl (Nat.zero_le _) (Nat.zero_le _) ?_
    exact ⟨rfl, rfl, A0, F0⟩

set_option maxHeartbeats 8000000 in
theorem k_X7_undo1 {G : ac_G} {Y : ac_Y} {mm : ac_M} {d x : Nat} {s : List Nat} {T : ac_Tk} {T1 : ac_Tk} {hs : List ac_Tk} {s0 s1 : Option ac_Tk} {obs : List ac_Ob} {ch : Int} (hd : 30 ≤ d) (hM : ac_isM Y x) (hR : ac_RM mm x s T (T1 :: hs) s0 s1 obs ch)  : ac_C G yX7_undo cX7_undo 2 (some .int) d 0 0 Y mm [(2, (x : Int))] (ac_R Y [(0, (hs.length : Int))] (fun m => ac_RM m x s T1 hs s0 s1 obs ch ∧ ac_fM mm m x)) := by
  have hM9 := hM
  obtain ⟨kx, k1, k2, k3, k4, k5, k6, k7, k8, k9, k10, k11, k12, k13, k14, k15, k16⟩ := hM.2
  obtain ⟨-, ⟨hkk, hPg⟩, -⟩ := id hR
  obtain ⟨⟨⟨hn1, hn2⟩, ⟨hk2, hk3⟩, hE, hp0, hpr, hc0⟩, -⟩ := id hPg
  have hE4 := hE.1
  have hLn := ac_Lt_len T hn2
  have half : ∀ (m0 : ac_M), m0 x 10 = (hs.length : Int) → ac_RP (ac_sh m0 (39 * hs.length)) (x + 5) T1 → hs.length ≤ 13 → (∀ m, m = ac_cpn m0 (x + 5) (39 * hs.length) (x + 3) 0 39 → ac_V G (RX7, "undo") cX7_undo 2 (some .int) d 0 0 (ac_R Y [(0, (hs.length : Int))] (fun m => ac_RM m x s T1 hs s0 s1 obs ch ∧ ac_fM mm m x)) 0 0 Y m 59 [(2, (x : Int)), (0, (39 : Int))] []) → ac_V G (RX7, "undo") cX7_undo 2 (some .int) d 0 0 (ac_R Y [(0, (hs.length : Int))] (fun m => ac_RM m x s T1 hs s0 s1 obs ch ∧ ac_fM mm m x)) 0 0 Y m0 25 [(2, (x : Int)), (3, 0)] [] := by
    intro m0 q10 hP1 h13 hK
    have loop : (∀ m : ac_M, m = (ac_cpn m0 (x + 5) (39 * hs.length) (x + 3) 0 39) → ac_V G (RX7, "undo") cX7_undo 2 (some .int) d 0 0 (ac_R Y [(0, (hs.length : Int))] (fun m => ac_RM m x s T1 hs s0 s1 obs ch ∧ ac_fM mm m x)) 0 0 Y m 59 [(2, (x : Int)), (0, (39 : Int))] []) → ∀ (f i : Nat), i + f = 39 → ac_V G (RX7, "undo") cX7_undo 2 (some .int) d 0 0 (ac_R Y [(0, (hs.length : Int))] (fun m => ac_RM m x s T1 hs s0 s1 obs ch ∧ ac_fM mm m x)) 0 0 Y (ac_cpn m0 (x + 5) (39 * hs.length) (x + 3) 0 i) 27 [(2, (x : Int)), (0, (i : Int))] [] := by
      intro hK f
      induction f with
      | zero =>
        intro i hi
        have q10i : ac_cpn m0 (x + 5) (39 * hs.length) (x + 3) 0 i x 10 = (hs.length : Int) := by rw [ac_cpn_k (by omega)]; exact q10
        refine ac_iload_n (q := 28) dX7_undo_27 rfl rfl ?_
        refine ac_bipush (q := 30) dX7_undo_28 rfl (by decide) ?_
        refine ac_icmp_ge (q := 33) (tgt := 59) dX7_undo_30 rfl rfl ⟨by omega, by omega⟩ ⟨by omega, by omega⟩ (fun h30 => ?_) (fun h30 => ?_)
        · obtain rfl : i = 39 := by omega
          exact hK _ rfl
        · exfalso; omega
      | succ f ih =>
        intro i hi
        have ei : ((i : Nat) : Int) + 1 = ((i + 1 : Nat) : Int) := rfl
        have q10i : ac_cpn m0 (x + 5) (39 * hs.length) (x + 3) 0 i x 10 = (hs.length : Int) := by rw [ac_cpn_k (by omega)]; exact q10
        refine ac_iload_n (q := 28) dX7_undo_27 rfl rfl ?_
        refine ac_bipush (q := 30) dX7_undo_28 rfl (by decide) ?_
        refine ac_icmp_ge (q := 33) (tgt := 59) dX7_undo_30 rfl rfl ⟨by omega, by omega⟩ ⟨by omega, by omega⟩ (fun h30 => ?_) (fun h30 => ?_)
        · exfalso; omega
        · refine ac_aload_n (q := 34) dX7_undo_33 rfl rfl ?_
          refine ac_get (q := 37) dX7_undo_34 fl_X7_20 (by assumption) rfl (ac_rdr rfl hM9.1.2.2.1) ?_
          refine ac_iload_n (q := 38) dX7_undo_37 rfl rfl ?_
          refine ac_top (w' := (0, ((0 + i : Nat) : Int))) (congrArg (fun z : Int => ((0 : Nat), z)) (by omega)) ?_
          refine ac_aload_n (q := 39) dX7_undo_38 rfl rfl ?_
          refine ac_get (q := 42) dX7_undo_39 fl_X7_26 (by assumption) rfl (ac_rdr rfl hM9.1.2.2.2.2.1) ?_
          refine ac_bipush (q := 44) dX7_undo_42 rfl (by decide) ?_
          refine ac_aload_n (q := 45) dX7_undo_44 rfl rfl ?_
          refine ac_get (q := 48) dX7_undo_45 fl_X7_115 kx rfl (ac_rdi rfl q10i) ?_
          refine ac_imul (q := 49) dX7_undo_48 rfl ?_
          refine ac_iload_n (q := 50) dX7_undo_49 rfl rfl ?_
          refine ac_iadd (q := 51) dX7_undo_50 rfl ?_
          refine ac_top (w' := (0, ((39 * hs.length + i : Nat) : Int))) (congrArg (fun z : Int => ((0 : Nat), z)) (by omega)) ?_
          refine ac_ialoadN (q := 52) (j := (39 * hs.length) + i) (v := m0 (x + 5) ((39 * hs.length) + i)) dX7_undo_51 k5 (by decide) (by omega) rfl (ac_cpn_rd (Or.inl (by omega))) ?_
          refine ac_iastoreN (q := 53) (j := 0 + i) dX7_undo_52 k3 (by decide) (by omega) rfl ?_
          rw [ac_cpn_s]
          refine ac_iinc (q := 56) dX7_undo_53 rfl (Nat.le_of_ble_eq_true rfl) rfl rfl rfl rfl ?_
          simp only [List.set_cons_succ, List.set_cons_zero]
          refine ac_goto (q := 27) dX7_undo_56 rfl ?_
          exact ac_ls (by rw [ei]) (ih (i + 1) (by omega))
    refine ac_iconst (q := 26) dX7_undo_25 rfl ?_
    refine ac_istore_n (q := 27) (j := 1) rfl dX7_undo_26 rfl (Nat.le_of_ble_eq_true rfl) rfl rfl ?_
    simp only [List.set_cons_succ, List.set_cons_zero]
    refine ac_mem (ac_cpn_0 (ra := x + 5) (oa := 39 * hs.length) (rb := x + 3) (ob := 0)).symm ?_
    exact loop hK 39 0 rfl
  refine ac_met (on := (RX7, "undo")) rfl rfl (Nat.le_of_ble_eq_true rfl) (ls := [(2, (x : Int)), (3, 0)]) rfl ?_
  refine ac_aload_n (q := 1) dX7_undo_0 rfl rfl ?_
  refine ac_iconst (q := 2) dX7_undo_1 rfl ?_
  refine ac_put (q := 5) dX7_undo_2 fl_X7_67 (by assumption) rfl rfl ?_
  have A0 := ac_up0_RM hR
  have F0 : ac_fM mm (ac_up mm x 0 0) x := ac_up0_fM
  generalize ac_up mm x 0 0 = m0 at *
  obtain ⟨q4, qP⟩ := A0.2.1
  obtain ⟨-, p0, p1, pE, pp, p28, pcb, pcl⟩ := id qP
  obtain ⟨c1, c2, c3⟩ := A0.2.2.1
  rw [List.length_cons] at c1 c2
  refine ac_aload_n (q := 6) dX7_undo_5 rfl rfl ?_
  refine ac_get (q := 9) dX7_undo_6 fl_X7_115 kx rfl (ac_rdi (v := ((hs.length + 1 : Nat) : Int)) rfl c2) ?_
  refine ac_if_ne (q := 12) (tgt := 15) dX7_undo_9 rfl rfl ⟨by omega, by omega⟩ (fun h9 => ?_) (fun h9 => ?_)
  · refine ac_aload_n (q := 16) dX7_undo_15 rfl rfl ?_
    refine ac_dup (q := 17) dX7_undo_16 rfl (show (2 : Nat) ≠ 1 by decide) ?_
    refine ac_get (q := 20) dX7_undo_17 fl_X7_115 kx rfl (ac_rdi (v := ((hs.length + 1 : Nat) : Int)) rfl c2) ?_
    refine ac_iconst (q := 21) dX7_undo_20 rfl ?_
    refine ac_isub (q := 22) dX7_undo_21 rfl ?_
    refine ac_put (q := 25) dX7_undo_22 fl_X7_115 (by assumption) rfl rfl ?_
    have hone : ac_RP (ac_sh (ac_up m0 x 10 (((hs.length + 1 : Nat) : Int) - 1)) (39 * hs.length)) (x + 5) T1 := by
      have := (c3 0 T1 rfl).2
      rw [List.length_cons] at this
      exact ac_RP_keep this (ac_sh_k (by funext j; exact ac_up_k (by omega)))
    refine half _ (by rw [ac_up_s]; omega) hone (by omega) (fun m hm => ?_)
    have hfr : ∀ k', k' ≠ x → k' ≠ x + 3 → m k' = m0 k' := fun k' h1 h2 => by rw [hm, ac_cpn_k h2]; funext j; exact ac_up_k h1
    have hx : ∀ j, j ≠ 10 → m x j = m0 x j := fun j hj => by rw [hm, ac_cpn_k (by omega)]; exact ac_up_j hj
    have h10 : m x 10 = (hs.length : Int) := by rw [hm, ac_cpn_k (by omega), ac_up_s]; omega
    have hP : ac_RP m (x + 3) T1 := by
      have := ac_RP_cp (ra := x + 5) (oa := 39 * hs.length) (rb := x + 3) (ob := 0) hone
      rw [ac_sh0, ← hm] at this; exact this
    have hT1k := (c3 0 T1 rfl).1
    refine ac_aload_n (q := 60) dX7_undo_59 rfl rfl ?_
    refine ac_get (q := 63) dX7_undo_60 fl_X7_115 kx rfl (ac_rdi rfl h10) ?_
    refine ac_ireturn dX7_undo_63 rfl (Nat.zero_le _) (Nat.zero_le _) ?_
    obtain ⟨⟨a1, a2, a3⟩, -, -, ⟨⟨d1, d2⟩, d3, d4⟩, ⟨e1, e2, e3⟩, f⟩ := A0
    refine ⟨rfl, rfl, ⟨⟨a1, by rw [hx 2 (by decide)]; exact a2, by rw [hfr _ (by omega) (by omega)]; exact a3⟩, ⟨by rw [hx 4 (by decide), hT1k]; exact q4, hP⟩, ⟨by omega, h10, fun i T' hi => ?_⟩, ⟨⟨by rw [hfr _ (by omega) (by omega)]; exact d1, by rw [hfr _ (by omega) (by omega)]; exact d2⟩, fun T2 hT => ⟨by rw [hT1k]; exact (d3 T2 hT).1, ac_RP_keep (d3 T2 hT).2 (ac_sh_k (hfr _ (by omega) (by omega)))⟩, fun T2 hT => ⟨by rw [hT1k]; exact (d4 T2 hT).1, ac_RP_keep (d4 T2 hT).2 (ac_sh_k (hfr _ (by omega) (by omega)))⟩⟩, ⟨e1, by rw [hx 13 (by decide)]; exact e2, by rw [hfr (x + 8) (by omega) (by omega), hfr (x + 9) (by omega) (by omega), hfr (x + 10) (by omega) (by omega)]; exact e3⟩, by rw [hx 17 (by decide)]; exact f⟩, fun k' hk' => by rw [hfr k' (by omega) (by omega), F0 k' hk']⟩
    obtain ⟨q1, q2⟩ := c3 (i + 1) T' hi
    rw [List.length_cons, show hs.length + 1 - 1 - (i + 1) = hs.length - 1 - i by omega] at q2
    exact ⟨by rw [hT1k]; exact q1, ac_RP_keep q2 (ac_sh_k (hfr _ (by omega) (by omega)))⟩
  · exfalso; omega

set_option maxHeartbeats 8000000 in
theorem k_X7_paint {G : ac_G} {Y : ac_Y} {mm : ac_M} {d x : Nat} {s : List Nat} {T : ac_Tk} {hs : List ac_Tk} {s0 s1 : Option ac_Tk} {obs : List ac_Ob} {ch : Int} {a c : Int} (hd : 30 ≤ d) (hM : ac_isM Y x) (hR : ac_RM mm x s T hs s0 s1 obs ch) (ha : ac_in a) (hc : ac_in c) : ac_C G yX7_paint cX7_paint 3 (some .int) d 0 0 Y mm [(2, (x : Int)), (0, a), (0, c)] (ac_R Y [(0, (if ac_rfp T a c = 0 then ac_rk (ac_t_paint T a c).2.2.2.2 (ac_Lt T) else ac_rfp T a c))] (fun m => ac_RM m x s (if ac_rfp T a c = 0 then ac_t_paint T a c else T) (if ac_rfp T a c = 0 then ac_push T hs else hs) s0 s1 obs ch ∧ ac_fM mm m x)) := by
  have hM9 := hM
  obtain ⟨kx, k1, k2, k3, k4, k5, k6, k7, k8, k9, k10, k11, k12, k13, k14, k15, k16⟩ := hM.2
  obtain ⟨-, ⟨hkk, hPg⟩, -⟩ := id hR
  obtain ⟨⟨⟨hn1, hn2⟩, ⟨hk2, hk3⟩, hE, hp0, hpr, hc0⟩, -⟩ := id hPg
  have hE4 := hE.1
  have hLn := ac_Lt_len T hn2
  obtain ⟨ha1, ha2⟩ := ha
  obtain ⟨hc1, hc2⟩ := hc
  have hrf : ac_rfp T a c = if ¬ (1 ≤ a ∧ a ≤ (T.1 : Int)) then -1 else if ¬ (0 ≤ c ∧ c < (T.2.1 : Int)) then -2 else if ac_pt T a.toNat c.toNat = true then 0 else -3 := rfl
  refine ac_met (on := (RX7, "paint")) rfl rfl (Nat.le_of_ble_eq_true rfl) (ls := [(2, (x : Int)), (0, a), (0, c)]) rfl ?_
  refine ac_aload_n (q := 1) dX7_paint_0 rfl rfl ?_
  refine ac_iconst (q := 2) dX7_paint_1 rfl ?_
  refine ac_put (q := 5) dX7_paint_2 fl_X7_67 (by assumption) rfl rfl ?_
  have A0 := ac_up0_RM hR
  have F0 : ac_fM mm (ac_up mm x 0 0) x := ac_up0_fM
  generalize ac_up mm x 0 0 = m0 at *
  obtain ⟨q4, qP⟩ := A0.2.1
  obtain ⟨-, p0, p1, pE, pp, p28, pcb, pcl⟩ := id qP
  refine ac_aload_n (q := 6) dX7_paint_5 rfl rfl ?_
  refine ac_iload_n (q := 7) dX7_paint_6 rfl rfl ?_
  refine ac_cvp (q := 10) (k_X7_noNumber (T := T) (a := a) (d := d - 1) (by omega) hM9 qP ⟨by omega, by omega⟩) ml_X7_195 (by assumption) dX7_paint_7 rfl rfl rfl (by omega) (Nat.le_of_ble_eq_true rfl) (Nat.zero_le _) (Nat.zero_le _) ?_
  refine ac_bif_eq (q := 13) (tgt := 15) dX7_paint_10 rfl rfl (fun h10 => ?_) (fun h10 => ?_)
  · have hin : 1 ≤ a ∧ a ≤ (T.1 : Int) := Decidable.not_not.mp h10
    rw [if_neg (fun q => q hin)] at hrf
    obtain ⟨a, rfl⟩ := Int.eq_ofNat_of_zero_le (a := a) (by omega)
    refine ac_iload_n (q := 16) dX7_paint_15 rfl rfl ?_
    refine ac_i2l (q := 17) dX7_paint_16 rfl ⟨by omega, by omega⟩ ?_
    refine ac_lconst (q := 18) (v := 0) dX7_paint_17 rfl (by decide) ?_
    refine ac_aload_n (q := 19) dX7_paint_18 rfl rfl ?_
    refine ac_get (q := 22) dX7_paint_19 fl_X7_13 kx rfl (ac_rdi rfl q4) ?_
    refine ac_iconst (q := 23) dX7_paint_22 rfl ?_
    refine ac_isub (q := 24) dX7_paint_23 rfl ?_
    refine ac_i2l (q := 25) dX7_paint_24 rfl ⟨by omega, by omega⟩ ?_
    refine ac_csp (q := 28) (k_X7_in (d := d - 1) (by omega) ⟨by omega, by omega⟩ ⟨by omega, by omega⟩ ⟨by omega, by omega⟩) ml_X7_72 dX7_paint_25 rfl rfl rfl (by omega) (Nat.le_of_ble_eq_true rfl) (Nat.zero_le _) (Nat.zero_le _) ?_
    refine ac_bif_ne (q := 31) (tgt := 34) dX7_paint_28 rfl rfl (fun h28 => ?_) (fun h28 => ?_)
    · have hin2 : 0 ≤ c ∧ c < (T.2.1 : Int) := by omega
      rw [if_neg (fun q => q hin2)] at hrf
      obtain ⟨c, rfl⟩ := Int.eq_ofNat_of_zero_le (a := c) (by omega)
      simp only [Int.toNat_natCast] at hrf
      refine ac_aload_n (q := 35) dX7_paint_34 rfl rfl ?_
      refine ac_cv (q := 38) (k_X7_layTrial (d := d - 1) (by omega) hM9 A0) ml_X7_208 (by assumption) dX7_paint_35 rfl rfl rfl (by omega) (Nat.le_of_ble_eq_true rfl) (Nat.zero_le _) (Nat.zero_le _) (fun m1 h1 => ?_)
      obtain ⟨A1, tP1, x1, f1⟩ := h1
      have F1 : ac_fM mm m1 x := ac_fM_t F0 (fun k' hk' => f1 k' (by omega))
      refine ac_aload_n (q := 39) dX7_paint_38 rfl rfl ?_
      refine ac_aload_n (q := 40) dX7_paint_39 rfl rfl ?_
      refine ac_get (q := 43) dX7_paint_40 fl_X7_23 (by assumption) rfl (ac_rdr rfl hM9.1.2.2.2.1) ?_
      refine ac_iload_n (q := 44) dX7_paint_43 rfl rfl ?_
      refine ac_iload_n (q := 45) dX7_paint_44 rfl rfl ?_
      refine ac_cv (q := 48) (k_X7_paintOn (r := x + 4) (T := T) (a := a) (c := c) (d := d - 1) (by omega) hM9 (Or.inr rfl) tP1 A1.2.1.1 ⟨by omega, by omega⟩ (by omega)) ml_X7_211 (by assumption) dX7_paint_45 rfl rfl rfl (by omega) (Nat.le_of_ble_eq_true rfl) (Nat.zero_le _) (Nat.zero_le _) (fun m2 h2 => ?_)
      obtain ⟨-, e2⟩ := h2
      have A2 := ac_RM_e A1 (fun k' hk' => e2.1 k' (by omega) (by omega) (by omega)) (fun j hj => e2.2 j (by omega))
      have F2 : ac_fM mm m2 x := ac_fM_t F1 (ac_fEr_fM (Or.inr rfl) e2)
      refine ac_bif_ne (q := 51) (tgt := 54) dX7_paint_48 rfl rfl (fun h48 => ?_) (fun h48 => ?_)
      · rw [if_pos h48] at hrf
        refine ac_aload_n (q := 55) dX7_paint_54 rfl rfl ?_
        refine ac_cv (q := 58) (k_X7_note (d := d - 1) (by omega) hM9 A2) ml_X7_205 (by assumption) dX7_paint_55 rfl rfl rfl (by omega) (Nat.le_of_ble_eq_true rfl) (Nat.zero_le _) (Nat.zero_le _) (fun m3 h3 => ?_)
        obtain ⟨A3, x3, f3⟩ := h3
        have F3 : ac_fM mm m3 x := ac_fM_t F2 (fun k' hk' => f3 k' (by omega) (by omega))
        obtain ⟨n4, nP⟩ := A3.2.1
        refine ac_aload_n (q := 59) dX7_paint_58 rfl rfl ?_
        refine ac_aload_n (q := 60) dX7_paint_59 rfl rfl ?_
        refine ac_get (q := 63) dX7_paint_60 fl_X7_20 (by assumption) rfl (ac_rdr rfl hM9.1.2.2.1) ?_
        refine ac_iload_n (q := 64) dX7_paint_63 rfl rfl ?_
        refine ac_iload_n (q := 65) dX7_paint_64 rfl rfl ?_
        refine ac_cv (q := 68) (k_X7_paintOn (r := x + 3) (T := T) (a := a) (c := c) (d := d - 1) (by omega) hM9 (Or.inl rfl) A3.2.1.2 A3.2.1.1 ⟨by omega, by omega⟩ (by omega)) ml_X7_211 (by assumption) dX7_paint_65 rfl rfl rfl (by omega) (Nat.le_of_ble_eq_true rfl) (Nat.zero_le _) (Nat.zero_le _) (fun m4 h4 => ?_)
        obtain ⟨g4, e4⟩ := h4
        rw [if_pos h48] at g4
        have A4 := ac_RM_p (T' := ac_t_paint T (a : Int) (c : Int)) A3 g4 rfl (fun k' hk' => e4.1 k' (by omega) (by omega) (by omega)) (fun j hj => e4.2 j (by omega))
        have F4 : ac_fM mm m4 x := ac_fM_t F3 (ac_fEr_fM (Or.inl rfl) e4)
        refine ac_pop (q := 69) dX7_paint_68 rfl (show (0 : Nat) ≠ 1 by decide) ?_
        refine ac_aload_n (q := 70) dX7_paint_69 rfl rfl ?_
        refine ac_aload_n (q := 71) dX7_paint_70 rfl rfl ?_
        refine ac_get (q := 74) dX7_paint_71 fl_X7_20 (by assumption) rfl (ac_rdr rfl hM9.1.2.2.1) ?_
        refine ac_cv (q := 77) (k_X7_numberOf (r := x + 3) (T := ac_t_paint T (a : Int) (c : Int)) (d := d - 1) (by omega) hM9 (Or.inl rfl) g4 A4.2.1.1) ml_X7_178 (by assumption) dX7_paint_74 rfl rfl rfl (by omega) (Nat.le_of_ble_eq_true rfl) (Nat.zero_le _) (Nat.zero_le _) (fun m5 h5 => ?_)
        have A5 := ac_RM_fE A4 h5
        have F5 := ac_fM_t F4 (ac_fE_fM h5)
        refine ac_ireturn dX7_paint_77 rfl (Nat.zero_le _) (Nat.zero_le _) ?_
        rw [if_pos hrf, if_pos hrf, if_pos hrf]; exact ⟨rfl, rfl, A5, F5⟩
      · rw [if_neg h48] at hrf
        refine ac_bipush (q := 53) dX7_paint_51 rfl (by decide) ?_
        refine ac_ireturn dX7_paint_53 rfl (Nat.zero_le _) (Nat.zero_le _) ?_
        have hne : ¬ ac_rfp T (a : Int) (c : Int) = 0 := by omega
        rw [if_neg hne, if_neg hne, if_neg hne, hrf]; exact ⟨rfl, rfl, A2, F2⟩
    · rw [if_pos (by omega)] at hrf
      refine ac_bipush (q := 33) dX7_paint_31 rfl (by decide) ?_
      refine ac_ireturn dX7_paint_33 rfl (Nat.zero_le _) (Nat.zero_le _) ?_
      have hne : ¬ ac_rfp T (a : Int) c = 0 := by omega
      rw [if_neg hne, if_neg hne, if_neg hne, hrf]; exact ⟨rfl, rfl, A0, F0⟩
  · rw [if_pos h10] at hrf
    refine ac_iconst (q := 14) dX7_paint_13 rfl ?_
    refine ac_ireturn dX7_paint_14 rfl (Nat.zero_le _) (Nat.zero_le _) ?_
    have hne : ¬ ac_rfp T a c = 0 := by omega
    rw [if_neg hne, if_neg hne, if_neg hne, hrf]; exact ⟨rfl, rfl, A0, F0⟩

set_option maxHeartbeats 8000000 in
theorem k_X7_go {G : ac_G} {Y : ac_Y} {mm : ac_M} {d x : Nat} {s : List Nat} {T : ac_Tk} {hs : List ac_Tk} {s0 s1 : Option ac_Tk} {obs : List ac_Ob} {ch : Int} {c : Int} (hd : 30 ≤ d) (hM : ac_isM Y x) (hR : ac_RM mm x s T hs s0 s1 obs ch) (hok : ac_okS T) (hc : ac_in c) : ac_C G yX7_go cX7_go 4 (some .int) d 0 0 Y mm [(2, (x : Int)), (0, c)] (ac_R Y [(0, (ac_go T c).elim (-1) (fun l => (ac_dif (ac_colD T) l T.1 : Int)))] (fun m => ac_RM m x s ((ac_go T c).elim T (fun l => ac_wcol T l)) ((ac_go T c).elim hs (fun _ => ac_push T hs)) s0 s1 obs ch ∧ ac_fM mm m x)) := by
  have hM9 := hM
  obtain ⟨kx, k1, k2, k3, k4, k5, k6, k7, k8, k9, k10, k11, k12, k13, k14, k15, k16⟩ := hM.2
  obtain ⟨-, ⟨hkk, hPg⟩, -⟩ := id hR
  obtain ⟨⟨⟨hn1, hn2⟩, ⟨hk2, hk3⟩, hE, hp0, hpr, hc0⟩, -⟩ := id hPg
  have hE4 := hE.1
  have hLn := ac_Lt_len T hn2
  obtain ⟨hc1, hc2⟩ := hc
  refine ac_met (on := (RX7, "go")) rfl rfl (Nat.le_of_ble_eq_true rfl) (ls := [(2, (x : Int)), (0, c), (3, 0), (3, 0)]) rfl ?_
  refine ac_aload_n (q := 1) dX7_go_0 rfl rfl ?_
  refine ac_iconst (q := 2) dX7_go_1 rfl ?_
  refine ac_put (q := 5) dX7_go_2 fl_X7_67 (by assumption) rfl rfl ?_
  have A0 := ac_up0_RM hR
  have F0 : ac_fM mm (ac_up mm x 0 0) x := ac_up0_fM
  generalize ac_up mm x 0 0 = m0 at *
  obtain ⟨q4, qP⟩ := A0.2.1
  obtain ⟨-, p0, p1, pE, pp, p28, pcb, pcl⟩ := id qP
  refine ac_iload_n (q := 6) dX7_go_5 rfl rfl ?_
  refine ac_i2l (q := 7) dX7_go_6 rfl ⟨by omega, by omega⟩ ?_
  refine ac_lconst (q := 8) (v := 0) dX7_go_7 rfl (by decide) ?_
  refine ac_aload_n (q := 9) dX7_go_8 rfl rfl ?_
  refine ac_aload_n (q := 10) dX7_go_9 rfl rfl ?_
  refine ac_get (q := 13) dX7_go_10 fl_X7_20 (by assumption) rfl (ac_rdr rfl hM9.1.2.2.1) ?_
  refine ac_cv (q := 16) (k_X7_manyOf (r := x + 3) (d := d - 1) (by omega) hM9 (Or.inl rfl) A0.2.1.2 A0.2.1.1) ml_X7_118 (by assumption) dX7_go_13 rfl rfl rfl (by omega) (Nat.le_of_ble_eq_true rfl) (Nat.zero_le _) (Nat.zero_le _) (fun m1 h1 => ?_)
  have A1 := ac_RM_fE A0 h1
  have F1 := ac_fM_t F0 (ac_fE_fM h1)
  refine ac_iconst (q := 17) dX7_go_16 rfl ?_
  refine ac_isub (q := 18) dX7_go_17 rfl ?_
  refine ac_i2l (q := 19) dX7_go_18 rfl ⟨by omega, by omega⟩ ?_
  refine ac_csp (q := 22) (k_X7_in (d := d - 1) (by omega) ⟨by omega, by omega⟩ ⟨by omega, by omega⟩ ⟨by omega, by omega⟩) ml_X7_72 dX7_go_19 rfl rfl rfl (by omega) (Nat.le_of_ble_eq_true rfl) (Nat.zero_le _) (Nat.zero_le _) ?_
  refine ac_bif_ne (q := 25) (tgt := 27) dX7_go_22 rfl rfl (fun h22 => ?_) (fun h22 => ?_)
  · obtain ⟨c, rfl⟩ := Int.eq_ofNat_of_zero_le (a := c) (by omega)
    obtain ⟨l', hl'⟩ : ∃ l', (ac_Lt T)[c]? = some l' := ⟨_, List.getElem?_eq_getElem (by omega)⟩
    have hg : ac_go T (c : Int) = some l' := by unfold ac_go; rw [if_pos (by omega), Int.toNat_natCast]; exact hl'
    obtain ⟨l, hl⟩ : ∃ l, T.2.2.2.2 = some l := by
      cases hc : T.2.2.2.2 with
      | some l => exact ⟨l, rfl⟩
      | none => rw [hok.2.2 hc] at hl'; simp at hl'
    obtain ⟨hl1, hl2⟩ := hc0 l hl
    have hcd : ac_colD T = l := by unfold ac_colD; rw [hl]; rfl
    refine ac_aload_n (q := 28) dX7_go_27 rfl rfl ?_
    refine ac_cv (q := 31) (k_X7_note (d := d - 1) (by omega) hM9 A1) ml_X7_205 (by assumption) dX7_go_28 rfl rfl rfl (by omega) (Nat.le_of_ble_eq_true rfl) (Nat.zero_le _) (Nat.zero_le _) (fun m2 h2 => ?_)
    obtain ⟨A2, x2, f2⟩ := h2
    have F2 : ac_fM mm m2 x := ac_fM_t F1 (fun k' hk' => f2 k' (by omega) (by omega))
    obtain ⟨n4, nP⟩ := A2.2.1
    refine ac_aload_n (q := 32) dX7_go_31 rfl rfl ?_
    refine ac_aload_n (q := 33) dX7_go_32 rfl rfl ?_
    refine ac_get (q := 36) dX7_go_33 fl_X7_20 (by assumption) rfl (ac_rdr rfl hM9.1.2.2.1) ?_
    refine ac_cv (q := 39) (k_X7_beginAll (r := x + 3) (T := T) (d := d - 1) (by omega) hM9 (Or.inl rfl) nP n4) ml_X7_171 (by assumption) dX7_go_36 rfl rfl rfl (by omega) (Nat.le_of_ble_eq_true rfl) (Nat.zero_le _) (Nat.zero_le _) (fun m3 h3 => ?_)
    obtain ⟨N3, P3, E3⟩ := h3
    have A3 := ac_RM_fE A2 E3
    have F3 := ac_fM_t F2 (ac_fE_fM E3)
    refine ac_iconst (q := 40) dX7_go_39 rfl ?_
    refine ac_istore_n (q := 41) (j := 2) rfl dX7_go_40 rfl (Nat.le_of_ble_eq_true rfl) rfl rfl ?_
    simp only [List.set_cons_succ, List.set_cons_zero]
    have loop : ∀ (f i : Nat) (m : ac_M), i + f = c + 1 → ac_EN m x (2 ^ T.2.2.1.length - 1) T.2.1 T.1 T.2.2.1 T.2.2.2.1 → ac_PO m x (2 ^ T.2.2.1.length - 1) T.2.1 T.1 T.2.2.1 T.2.2.2.1 ((ac_Lt T).drop i) → ac_fE m3 m x → (∀ y, 0 < i → (ac_Lt T)[i - 1]? = some y → ac_wy m x y ∧ y.length = T.1 ∧ ∀ z ∈ y, z < T.2.1) → ac_V G (RX7, "go") cX7_go 4 (some .int) d 0 0 (ac_R Y [(0, (ac_go T (c : Int)).elim (-1) (fun l => (ac_dif (ac_colD T) l T.1 : Int)))] (fun m => ac_RM m x s ((ac_go T (c : Int)).elim T (fun l => ac_wcol T l)) ((ac_go T (c : Int)).elim hs (fun _ => ac_push T hs)) s0 s1 obs ch ∧ ac_fM mm m x)) 0 0 Y m 41 [(2, (x : Int)), (0, (c : Int)), (0, (i : Int)), (3, 0)] [] := by
      intro f
      induction f with
      | zero =>
        intro i m hi hN hP hf hwy
        obtain rfl : i = c + 1 := by omega
        obtain ⟨wy, ly, ck⟩ := hwy l' (by omega) hl'
        have A4 := ac_RM_fE A3 hf
        have F4 := ac_fM_t F3 (ac_fE_fM hf)
        obtain ⟨u4, uP⟩ := A4.2.1
        obtain ⟨-, u0, u1, uE, up, u28, ucb, ucl⟩ := id uP
        have ucl2 := ucl l hl
        refine ac_iload_n (q := 42) dX7_go_41 rfl rfl ?_
        refine ac_iload_n (q := 43) dX7_go_42 rfl rfl ?_
        refine ac_icmp_gt (q := 46) (tgt := 57) dX7_go_43 rfl rfl ⟨by omega, by omega⟩ ⟨by omega, by omega⟩ (fun h43 => ?_) (fun h43 => ?_)
        · refine ac_iconst (q := 58) dX7_go_57 rfl ?_
          refine ac_istore_n (q := 59) (j := 2) rfl dX7_go_58 rfl (Nat.le_of_ble_eq_true rfl) rfl rfl ?_
          simp only [List.set_cons_succ, List.set_cons_zero]
          refine ac_iconst (q := 60) dX7_go_59 rfl ?_
          refine ac_istore_n (q := 61) (j := 3) rfl dX7_go_60 rfl (Nat.le_of_ble_eq_true rfl) rfl rfl ?_
          simp only [List.set_cons_succ, List.set_cons_zero]
          have cnt : ∀ (f i : Nat), i + f = T.1 → ac_V G (RX7, "go") cX7_go 4 (some .int) d 0 0 (ac_R Y [(0, (ac_go T (c : Int)).elim (-1) (fun l => (ac_dif (ac_colD T) l T.1 : Int)))] (fun m => ac_RM m x s ((ac_go T (c : Int)).elim T (fun l => ac_wcol T l)) ((ac_go T (c : Int)).elim hs (fun _ => ac_push T hs)) s0 s1 obs ch ∧ ac_fM mm m x)) 0 0 Y m 61 [(2, (x : Int)), (0, (c : Int)), (0, ((ac_dif l l' i : Nat) : Int)), (0, (((i + 1 : Nat)) : Int))] [] := by
            intro f
            induction f with
            | zero =>
              intro i hi
              obtain rfl : i = T.1 := by omega
              refine ac_iload_n (q := 62) dX7_go_61 rfl rfl ?_
              refine ac_aload_n (q := 63) dX7_go_62 rfl rfl ?_
              refine ac_get (q := 66) dX7_go_63 fl_X7_20 (by assumption) rfl (ac_rdr rfl hM9.1.2.2.1) ?_
              refine ac_iconst (q := 67) dX7_go_66 rfl ?_
              refine ac_ialoadN (q := 68) (j := 0) (v := (T.1 : Int)) dX7_go_67 k3 (by decide) (by decide) rfl u0 ?_
              refine ac_icmp_gt (q := 71) (tgt := 105) dX7_go_68 rfl rfl ⟨by omega, by omega⟩ ⟨by omega, by omega⟩ (fun h68 => ?_) (fun h68 => ?_)
              · refine ac_aload_n (q := 106) dX7_go_105 rfl rfl ?_
                refine ac_aload_n (q := 107) dX7_go_106 rfl rfl ?_
                refine ac_get (q := 110) dX7_go_107 fl_X7_20 (by assumption) rfl (ac_rdr rfl hM9.1.2.2.1) ?_
                refine ac_iconst (q := 111) dX7_go_110 rfl ?_
                refine ac_top (w' := (0, 1)) rfl ?_
                refine ac_cv (q := 114) (k_X7_take1 (r := x + 3) (T := T) (y := l') wy ly ck (d := d - 1) (by omega) hM9 (Or.inl rfl) uP) ml_X7_181 (by assumption) dX7_go_111 rfl rfl rfl (by omega) (Nat.le_of_ble_eq_true rfl) (Nat.zero_le _) (Nat.zero_le _) (fun m5 h5 => ?_)
                obtain ⟨g5, f5⟩ := h5
                have A5 := ac_RM_p (T' := ac_wcol T l') A4 g5 rfl (fun k' hk' => f5 k' (by omega)) (fun j hj => by rw [f5 x (by omega)])
                refine ac_iload_n (q := 115) dX7_go_114 rfl rfl ?_
                refine ac_ireturn dX7_go_115 rfl (Nat.zero_le _) (Nat.zero_le _) ?_
                rw [hg]
                refine ⟨?_, rfl, A5, ac_fM_t F4 (fun k' hk' => f5 k' (by omega))⟩
                show _ = [((0 : Nat), ((ac_dif (ac_colD T) l' T.1 : Nat) : Int))]
                rw [hcd]
              · exfalso; omega
            | succ f ih =>
              intro i hi
              have ei : ((i + 1 : Nat) : Int) + 1 = ((i + 1 + 1 : Nat) : Int) := rfl
              have hs := ih (i + 1) (by omega)
              obtain ⟨a1, ha1⟩ : ∃ a, l[i]? = some a := ⟨_, List.getElem?_eq_getElem (by omega)⟩
              obtain ⟨a2, ha2⟩ : ∃ a, l'[i]? = some a := ⟨_, List.getElem?_eq_getElem (by omega)⟩
              have hb1 := hl2 a1 (List.mem_of_getElem? ha1)
              have hb2 := ck a2 (List.mem_of_getElem? ha2)
              rw [ac_dif, ha1, ha2] at hs
              refine ac_iload_n (q := 62) dX7_go_61 rfl rfl ?_
              refine ac_aload_n (q := 63) dX7_go_62 rfl rfl ?_
              refine ac_get (q := 66) dX7_go_63 fl_X7_20 (by assumption) rfl (ac_rdr rfl hM9.1.2.2.1) ?_
              refine ac_iconst (q := 67) dX7_go_66 rfl ?_
              refine ac_ialoadN (q := 68) (j := 0) (v := (T.1 : Int)) dX7_go_67 k3 (by decide) (by decide) rfl u0 ?_
              refine ac_icmp_gt (q := 71) (tgt := 105) dX7_go_68 rfl rfl ⟨by omega, by omega⟩ ⟨by omega, by omega⟩ (fun h68 => ?_) (fun h68 => ?_)
              · exfalso; omega
              · refine ac_iload_n (q := 72) dX7_go_71 rfl rfl ?_
                refine ac_aload_n (q := 73) dX7_go_72 rfl rfl ?_
                refine ac_get (q := 76) dX7_go_73 fl_X7_51 (by assumption) rfl (ac_rdr rfl hM9.1.2.2.2.2.2.2.2.2.2.2.2.2.1) ?_
                refine ac_iload_n (q := 77) dX7_go_76 rfl rfl ?_
                refine ac_ialoadN (q := 78) (j := i + 1) (v := (a2 : Int)) dX7_go_77 k13 (by decide) (by omega) rfl (wy i a2 ha2) ?_
                refine ac_aload_n (q := 79) dX7_go_78 rfl rfl ?_
                refine ac_get (q := 82) dX7_go_79 fl_X7_20 (by assumption) rfl (ac_rdr rfl hM9.1.2.2.1) ?_
                refine ac_bipush (q := 84) dX7_go_82 rfl (by decide) ?_
                refine ac_iload_n (q := 85) dX7_go_84 rfl rfl ?_
                refine ac_iadd (q := 86) dX7_go_85 rfl ?_
                refine ac_iconst (q := 87) dX7_go_86 rfl ?_
                refine ac_isub (q := 88) dX7_go_87 rfl ?_
                refine ac_top (w' := (0, ((29 + i : Nat) : Int))) (congrArg (fun z : Int => ((0 : Nat), z)) (by omega)) ?_
                refine ac_ialoadN (q := 89) (j := 29 + i) (v := (a1 : Int)) dX7_go_88 k3 (by decide) (by omega) rfl (ucl2 i a1 ha1) ?_
                refine ac_icmp_eq (q := 92) (tgt := 96) dX7_go_89 rfl rfl ⟨by omega, by omega⟩ ⟨by omega, by omega⟩ (fun h89 => ?_) (fun h89 => ?_)
                · rw [if_pos (by rw [Int.ofNat.inj h89])] at hs
                  refine ac_iconst (q := 97) dX7_go_96 rfl ?_
                  refine ac_iadd (q := 98) dX7_go_97 rfl ?_
                  refine ac_istore_n (q := 99) (j := 2) rfl dX7_go_98 rfl (Nat.le_of_ble_eq_true rfl) rfl rfl ?_
                  simp only [List.set_cons_succ, List.set_cons_zero]
                  refine ac_iinc (q := 102) dX7_go_99 rfl (Nat.le_of_ble_eq_true rfl) rfl rfl rfl rfl ?_
                  simp only [List.set_cons_succ, List.set_cons_zero]
                  refine ac_goto (q := 61) dX7_go_102 rfl ?_
                  exact ac_ls (by rw [ei]; rfl) hs
                · rw [if_neg (fun q => h89 (by cases q; rfl))] at hs
                  refine ac_iconst (q := 93) dX7_go_92 rfl ?_
                  refine ac_goto (q := 97) dX7_go_93 rfl ?_
                  refine ac_iadd (q := 98) dX7_go_97 rfl ?_
                  refine ac_istore_n (q := 99) (j := 2) rfl dX7_go_98 rfl (Nat.le_of_ble_eq_true rfl) rfl rfl ?_
                  simp only [List.set_cons_succ, List.set_cons_zero]
                  refine ac_iinc (q := 102) dX7_go_99 rfl (Nat.le_of_ble_eq_true rfl) rfl rfl rfl rfl ?_
                  simp only [List.set_cons_succ, List.set_cons_zero]
                  refine ac_goto (q := 61) dX7_go_102 rfl ?_
                  exact ac_ls (by rw [ei]; rfl) hs
          exact cnt T.1 0 (by omega)
        · exfalso; omega
      | succ f ih =>
        intro i m hi hN hP hf hwy
        have ei : ((i : Nat) : Int) + 1 = ((i + 1 : Nat) : Int) := rfl
        obtain ⟨y, hy⟩ : ∃ y, (ac_Lt T)[i]? = some y := ⟨_, List.getElem?_eq_getElem (by omega)⟩
        have hdr : (ac_Lt T).drop i = y :: (ac_Lt T).drop (i + 1) := by
          rw [List.drop_eq_getElem_cons (by omega)]
          congr 1
          have := List.getElem?_eq_getElem (l := ac_Lt T) (i := i) (by omega)
          rw [hy] at this; exact (Option.some.inj this).symm
        rw [hdr] at hP
        refine ac_iload_n (q := 42) dX7_go_41 rfl rfl ?_
        refine ac_iload_n (q := 43) dX7_go_42 rfl rfl ?_
        refine ac_icmp_gt (q := 46) (tgt := 57) dX7_go_43 rfl rfl ⟨by omega, by omega⟩ ⟨by omega, by omega⟩ (fun h43 => ?_) (fun h43 => ?_)
        · exfalso; omega
        · refine ac_aload_n (q := 47) dX7_go_46 rfl rfl ?_
          refine ac_cv (q := 50) (k_X7_more (d := d - 1) (by omega) hM9 hN hP) ml_X7_164 (by assumption) dX7_go_47 rfl rfl rfl (by omega) (Nat.le_of_ble_eq_true rfl) (Nat.zero_le _) (Nat.zero_le _) (fun m5 h5 => ?_)
          obtain ⟨N5, F5, c5⟩ := h5
          obtain ⟨P5, wy5, ly5, ck5⟩ := c5 y _ rfl
          refine ac_pop (q := 51) dX7_go_50 rfl (show (0 : Nat) ≠ 1 by decide) ?_
          refine ac_iinc (q := 54) dX7_go_51 rfl (Nat.le_of_ble_eq_true rfl) rfl rfl rfl rfl ?_
          simp only [List.set_cons_succ, List.set_cons_zero]
          refine ac_goto (q := 41) dX7_go_54 rfl ?_
          exact ac_ls (by rw [ei]) (ih (i + 1) m5 (by omega) N5 P5 (ac_fE_t hf F5) (fun z _ hz => by rw [show i + 1 - 1 = i from rfl, hy] at hz; cases hz; exact ⟨wy5, ly5, ck5⟩))
    exact loop (c + 1) 0 m3 (by omega) N3 (by rw [List.drop_zero]; exact P3) (ac_fE_r m3 x) (fun y h => absurd h (Nat.not_lt_zero _))
  · refine ac_iconst (q := 26) dX7_go_25 rfl ?_
    refine ac_ireturn dX7_go_26 rfl (Nat.zero_le _) (Nat.zero_le _) ?_
    have hg : ac_go T c = none := by
      unfold ac_go
      by_cases h0 : 0 ≤ c
      · rw [if_pos h0, List.getElem?_eq_none (by omega)]
      · rw [if_neg h0]
    rw [hg]; exact ⟨rfl, rfl, A1, F1⟩
