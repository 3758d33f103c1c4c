set_option maxHeartbeats 8000000 in
theorem k_X7_forced {G : ac_G} {Y : ac_Y} {mm : ac_M} {d x : Nat} {r : Nat} {T : ac_Tk} (hd : 9 ≤ d) (hM : ac_isM Y x) (hr : r = x + 3 ∨ r = x + 4) (rP : ac_RP mm r T) (hk : mm x 4 = (T.2.1 : Int))  : ac_C G yX7_forced cX7_forced 4 (some .int) d 0 0 Y mm [(2, (x : Int)), (2, (r : Int))] (ac_R Y [(0, ((ac_frc (ac_Lt T) T.1 : Nat) : Int))] (fun m => ac_fE mm m x)) := by
  have hM9 := hM
  obtain ⟨kx, k1, k2, k3, k4, k5, k6, k7, k8, k9, k10, k11, k12, k13, k14, k15, k16⟩ := hM.2
  obtain ⟨⟨⟨hn1, hn2⟩, ⟨hk2, hk3⟩, hE, hp0, hpr, hc0⟩, p0, p1, pE, pp, p28, pcb, pcl⟩ := id rP
  have kr : Y.2.1 r = (1, 39) := by rcases hr with e | e <;> rw [e] <;> assumption
  have h2l : 2 ^ T.2.2.1.length ≤ 16 := Nat.pow_le_pow_right (n := 2) (by decide) hE.1
  have hE4 := hE.1
  have hcb : ∀ y, ac_cb (ac_Lt T) y < 2048 := fun y => Nat.lt_trans (ac_cb_lt (fun l hl c hc => by have := ((ac_Lt_mem hk3).mp hl).2.1 c hc; omega)) (by decide)
  have loop : ∀ (f i : Nat) (m : ac_M), i + f = T.1 → ac_fE mm m x → ac_V G (RX7, "forced") cX7_forced 4 (some .int) d 0 0 (ac_R Y [(0, ((ac_frc (ac_Lt T) T.1 : Nat) : Int))] (fun m => ac_fE mm m x)) 0 0 Y m 4 [(2, (x : Int)), (2, (r : Int)), (0, ((ac_frc (ac_Lt T) i : Nat) : Int)), (0, ((i + 1 : Nat) : Int))] [] := by
    intro f
    induction f with
    | zero =>
      intro i m hi hf
      obtain rfl : i = T.1 := by omega
      have rPm := ac_RP_fE hr rP hf
      have p0m := rPm.2.1
      refine ac_iload_n (q := 5) dX7_forced_4 rfl rfl ?_
      refine ac_aload_n (q := 6) dX7_forced_5 rfl rfl ?_
      refine ac_iconst (q := 7) dX7_forced_6 rfl ?_
      refine ac_ialoadN (q := 8) (j := 0) (v := (T.1 : Int)) dX7_forced_7 kr (by decide) (by decide) rfl p0m ?_
      refine ac_icmp_gt (q := 11) (tgt := 40) dX7_forced_8 rfl rfl ⟨by omega, by omega⟩ ⟨by omega, by omega⟩ (fun h8 => ?_) (fun h8 => ?_)
      · refine ac_iload_n (q := 41) dX7_forced_40 rfl rfl ?_
        refine ac_ireturn dX7_forced_41 rfl (Nat.zero_le _) (Nat.zero_le _) ?_
        exact ⟨rfl, rfl, hf⟩
      · exfalso; omega
    | succ f ih =>
      intro i m hi hf
      have rPm := ac_RP_fE hr rP hf
      have p0m := rPm.2.1
      have ei : ((i + 1 : Nat) : Int) + 1 = ((i + 1 + 1 : Nat) : Int) := rfl
      have hb12 := ac_bits_le (ac_cb (ac_Lt T) (i + 1))
      have hs := fun m => ih (i + 1) m (by omega)
      rw [ac_frc] at hs
      refine ac_iload_n (q := 5) dX7_forced_4 rfl rfl ?_
      refine ac_aload_n (q := 6) dX7_forced_5 rfl rfl ?_
      refine ac_iconst (q := 7) dX7_forced_6 rfl ?_
      refine ac_ialoadN (q := 8) (j := 0) (v := (T.1 : Int)) dX7_forced_7 kr (by decide) (by decide) rfl p0m ?_
      refine ac_icmp_gt (q := 11) (tgt := 40) dX7_forced_8 rfl rfl ⟨by omega, by omega⟩ ⟨by omega, by omega⟩ (fun h8 => ?_) (fun h8 => ?_)
      · exfalso; omega
      · refine ac_iload_n (q := 12) dX7_forced_11 rfl rfl ?_
        refine ac_aload_n (q := 13) dX7_forced_12 rfl rfl ?_
        refine ac_aload_n (q := 14) dX7_forced_13 rfl rfl ?_
        refine ac_iload_n (q := 15) dX7_forced_14 rfl rfl ?_
        refine ac_cv (q := 18) (k_X7_mayBe (r := r) (T := T) (a := i + 1) (d := d - 1) (by omega) hM9 hr rPm (by rw [hf.2 4 (by omega)]; exact hk) ⟨by omega, by omega⟩) ml_X7_198 (by assumption) dX7_forced_15 rfl rfl rfl (by omega) (Nat.le_of_ble_eq_true rfl) (Nat.zero_le _) (Nat.zero_le _) (fun m1 h1 => ?_)
        have FF := ac_fE_t hf h1
        have hs := hs m1 FF
        refine ac_csp (q := 21) (k_X7_ones (S := ac_cb (ac_Lt T) (i + 1)) (d := d - 1) (by omega) (by have := hcb (i + 1); omega)) ml_X7_201 dX7_forced_18 rfl rfl rfl (by omega) (Nat.le_of_ble_eq_true rfl) (Nat.zero_le _) (Nat.zero_le _) ?_
        refine ac_iconst (q := 22) dX7_forced_21 rfl ?_
        refine ac_icmp_ne (q := 25) (tgt := 31) dX7_forced_22 rfl rfl ⟨by omega, by omega⟩ ⟨by omega, by omega⟩ (fun h22 => ?_) (fun h22 => ?_)
        · rw [if_neg (by omega)] at hs
          refine ac_iconst (q := 32) dX7_forced_31 rfl ?_
          refine ac_ior (q := 33) (b := 0) dX7_forced_32 rfl ?_
          refine ac_istore_n (q := 34) (j := 2) rfl dX7_forced_33 rfl (Nat.le_of_ble_eq_true rfl) rfl rfl ?_
          simp only [List.set_cons_succ, List.set_cons_zero]
          refine ac_iinc (q := 37) dX7_forced_34 rfl (Nat.le_of_ble_eq_true rfl) rfl rfl rfl rfl ?_
          simp only [List.set_cons_succ, List.set_cons_zero]
          refine ac_goto (q := 4) dX7_forced_37 rfl ?_
          exact ac_ls (by rw [ei]) hs
        · rw [if_pos (by omega)] at hs
          refine ac_iconst (q := 26) dX7_forced_25 rfl ?_
          refine ac_iload_n (q := 27) dX7_forced_26 rfl rfl ?_
          refine ac_ishl1 (q := 28) (k := i + 1) dX7_forced_27 rfl (by omega) ?_
          refine ac_goto (q := 32) dX7_forced_28 rfl ?_
          refine ac_ior (q := 33) dX7_forced_32 rfl ?_
          refine ac_istore_n (q := 34) (j := 2) rfl dX7_forced_33 rfl (Nat.le_of_ble_eq_true rfl) rfl rfl ?_
          simp only [List.set_cons_succ, List.set_cons_zero]
          refine ac_iinc (q := 37) dX7_forced_34 rfl (Nat.le_of_ble_eq_true rfl) rfl rfl rfl rfl ?_
          simp only [List.set_cons_succ, List.set_cons_zero]
          refine ac_goto (q := 4) dX7_forced_37 rfl ?_
          exact ac_ls (by rw [ei]) hs
  refine ac_met (on := (RX7, "forced")) rfl rfl (Nat.le_of_ble_eq_true rfl) (ls := [(2, (x : Int)), (2, (r : Int)), (3, 0), (3, 0)]) rfl ?_
  refine ac_iconst (q := 1) dX7_forced_0 rfl ?_
  refine ac_istore_n (q := 2) (j := 2) rfl dX7_forced_1 rfl (Nat.le_of_ble_eq_true rfl) rfl rfl ?_
  simp only [List.set_cons_succ, List.set_cons_zero]
  refine ac_iconst (q := 3) dX7_forced_2 rfl ?_
  refine ac_istore_n (q := 4) (j := 3) rfl dX7_forced_3 rfl (Nat.le_of_ble_eq_true rfl) rfl rfl ?_
  simp only [List.set_cons_succ, List.set_cons_zero]
  exact loop T.1 0 mm (by omega) (ac_fE_r mm x)

set_option maxHeartbeats 8000000 in
theorem k_X7_paints {G : ac_G} {Y : ac_Y} {mm : ac_M} {d x : Nat} {s : List Nat} {T : ac_Tk} {hs : List ac_Tk} {s0 s1 : Option ac_Tk} {obs : List ac_Ob} {ch : Int} (hd : 14 ≤ d) (hM : ac_isM Y x) (hR : ac_RM mm x s T hs s0 s1 obs ch)  : ac_C G yX7_paints cX7_paints 4 (some .int) d 0 0 Y mm [(2, (x : Int))] (ac_R Y [(0, (ac_pca T T.1 : Int))] (fun m => ac_RM m x s T hs s0 s1 obs ch ∧ ac_fM mm m x)) := by
  have hM9 := hM
  obtain ⟨kx, k1, k2, k3, k4, k5, k6, k7, k8, k9, k10, k11, k12, k13, k14, k15, k16⟩ := hM.2
  obtain ⟨-, ⟨hkk, hPg⟩, -⟩ := id hR
  obtain ⟨⟨⟨hn1, hn2⟩, ⟨hk2, hk3⟩, hE, hp0, hpr, hc0⟩, -⟩ := id hPg
  have hE4 := hE.1
  have hLn := ac_Lt_len T hn2
  have inner : ∀ (r i j q : Nat) (m : ac_M), j + r = T.2.1 → i + 1 ≤ T.1 → ac_RM m x s T hs s0 s1 obs ch → ac_fM mm m x → (∀ m, ac_RM m x s T hs s0 s1 obs ch → ac_fM mm m x → ac_V G (RX7, "paints") cX7_paints 4 (some .int) d 0 0 (ac_R Y [(0, (ac_pca T T.1 : Int))] (fun m => ac_RM m x s T hs s0 s1 obs ch ∧ ac_fM mm m x)) 0 0 Y m 55 [(2, (x : Int)), (0, ((q + ac_pcx T (i + 1) T.2.1 : Nat) : Int)), (0, ((i + 1 : Nat) : Int)), (3, 0)] []) → ac_V G (RX7, "paints") cX7_paints 4 (some .int) d 0 0 (ac_R Y [(0, (ac_pca T T.1 : Int))] (fun m => ac_RM m x s T hs s0 s1 obs ch ∧ ac_fM mm m x)) 0 0 Y m 16 [(2, (x : Int)), (0, ((q + ac_pcx T (i + 1) j : Nat) : Int)), (0, ((i + 1 : Nat) : Int)), (0, (j : Int))] [] := by
    intro r
    induction r with
    | zero =>
      intro i j q m hj hi A f hK
      obtain rfl : j = T.2.1 := by omega
      have e4 := A.2.1.1
      refine ac_iload_n (q := 17) dX7_paints_16 rfl rfl ?_
      refine ac_aload_n (q := 18) dX7_paints_17 rfl rfl ?_
      refine ac_get (q := 21) dX7_paints_18 fl_X7_13 kx rfl (ac_rdi rfl e4) ?_
      refine ac_icmp_ge (q := 24) (tgt := 55) dX7_paints_21 rfl rfl ⟨by omega, by omega⟩ ⟨by omega, by omega⟩ (fun h21 => ?_) (fun h21 => ?_)
      · refine ac_drop [(2, (x : Int)), (0, ((q + ac_pcx T (i + 1) T.2.1 : Nat) : Int)), (0, ((i + 1 : Nat) : Int)), (3, 0)] (by repeat (first | exact trivial | refine ⟨Or.inl rfl, ?_⟩ | refine ⟨Or.inr rfl, ?_⟩)) ?_
        exact hK m A f
      · exfalso; omega
    | succ r ih =>
      intro i j q m hj hi A f hK
      have ej : ((j : Nat) : Int) + 1 = ((j + 1 : Nat) : Int) := rfl
      have e4 := A.2.1.1
      have hs := fun m => ih i (j + 1) q m (by omega) hi
      have hS : ac_pcx T (i + 1) (j + 1) = ac_pcx T (i + 1) j + if ac_pt T (i + 1) j = true then 1 else 0 := rfl
      refine ac_iload_n (q := 17) dX7_paints_16 rfl rfl ?_
      refine ac_aload_n (q := 18) dX7_paints_17 rfl rfl ?_
      refine ac_get (q := 21) dX7_paints_18 fl_X7_13 kx rfl (ac_rdi rfl e4) ?_
      refine ac_icmp_ge (q := 24) (tgt := 55) dX7_paints_21 rfl rfl ⟨by omega, by omega⟩ ⟨by omega, by omega⟩ (fun h21 => ?_) (fun h21 => ?_)
      · exfalso; omega
      · refine ac_aload_n (q := 25) dX7_paints_24 rfl rfl ?_
        refine ac_cv (q := 28) (k_X7_layTrial (d := d - 1) (by omega) hM9 A) ml_X7_208 (by assumption) dX7_paints_25 rfl rfl rfl (by omega) (Nat.le_of_ble_eq_true rfl) (Nat.zero_le _) (Nat.zero_le _) (fun m1 h1 => ?_)
        obtain ⟨A1, tP1, x1, f1⟩ := h1
        have F1 : ac_fM mm m1 x := ac_fM_t f (fun k' hk' => f1 k' (by omega))
        refine ac_iload_n (q := 29) dX7_paints_28 rfl rfl ?_
        refine ac_aload_n (q := 30) dX7_paints_29 rfl rfl ?_
        refine ac_aload_n (q := 31) dX7_paints_30 rfl rfl ?_
        refine ac_get (q := 34) dX7_paints_31 fl_X7_23 (by assumption) rfl (ac_rdr rfl hM9.1.2.2.2.1) ?_
        refine ac_iload_n (q := 35) dX7_paints_34 rfl rfl ?_
        refine ac_iload_n (q := 36) dX7_paints_35 rfl rfl ?_
        refine ac_cv (q := 39) (k_X7_paintOn (r := x + 4) (T := T) (a := i + 1) (c := j) (d := d - 1) (by omega) hM9 (Or.inr rfl) tP1 A1.2.1.1 ⟨by omega, by omega⟩ (by omega)) ml_X7_211 (by assumption) dX7_paints_36 rfl rfl rfl (by omega) (Nat.le_of_ble_eq_true rfl) (Nat.zero_le _) (Nat.zero_le _) (fun m2 h2 => ?_)
        obtain ⟨-, e2⟩ := h2
        have A2 := ac_RM_e A1 (fun k' hk' => e2.1 k' (by omega) (by omega) (by omega)) (fun j hj => e2.2 j (by omega))
        have F2 : ac_fM mm m2 x := ac_fM_t F1 (ac_fEr_fM (Or.inr rfl) e2)
        have hs := hs m2 A2 F2 hK
        refine ac_bif_eq (q := 42) (tgt := 46) dX7_paints_39 rfl rfl (fun h39 => ?_) (fun h39 => ?_)
        · rw [if_neg h39] at hS
          rw [hS] at hs
          refine ac_iconst (q := 47) dX7_paints_46 rfl ?_
          refine ac_iadd (q := 48) dX7_paints_47 rfl ?_
          refine ac_istore_n (q := 49) (j := 1) rfl dX7_paints_48 rfl (Nat.le_of_ble_eq_true rfl) rfl rfl ?_
          simp only [List.set_cons_succ, List.set_cons_zero]
          refine ac_iinc (q := 52) dX7_paints_49 rfl (Nat.le_of_ble_eq_true rfl) rfl rfl rfl rfl ?_
          simp only [List.set_cons_succ, List.set_cons_zero]
          refine ac_goto (q := 16) dX7_paints_52 rfl ?_
          exact ac_ls (by rw [ej]; first | rfl | (rw [Int.add_zero]; rfl)) hs
        · rw [if_pos h39] at hS
          rw [hS] at hs
          refine ac_iconst (q := 43) dX7_paints_42 rfl ?_
          refine ac_goto (q := 47) dX7_paints_43 rfl ?_
          refine ac_iadd (q := 48) dX7_paints_47 rfl ?_
          refine ac_istore_n (q := 49) (j := 1) rfl dX7_paints_48 rfl (Nat.le_of_ble_eq_true rfl) rfl rfl ?_
          simp only [List.set_cons_succ, List.set_cons_zero]
          refine ac_iinc (q := 52) dX7_paints_49 rfl (Nat.le_of_ble_eq_true rfl) rfl rfl rfl rfl ?_
          simp only [List.set_cons_succ, List.set_cons_zero]
          refine ac_goto (q := 16) dX7_paints_52 rfl ?_
          exact ac_ls (by rw [ej]; first | rfl | (rw [Int.add_zero]; rfl)) hs
  have outer : ∀ (r i : Nat) (m : ac_M), i + r = T.1 → ac_RM m x s T hs s0 s1 obs ch → ac_fM mm m x → ac_V G (RX7, "paints") cX7_paints 4 (some .int) d 0 0 (ac_R Y [(0, (ac_pca T T.1 : Int))] (fun m => ac_RM m x s T hs s0 s1 obs ch ∧ ac_fM mm m x)) 0 0 Y m 4 [(2, (x : Int)), (0, ((ac_pca T i : Nat) : Int)), (0, ((i + 1 : Nat) : Int)), (3, 0)] [] := by
    intro r
    induction r with
    | zero =>
      intro i m hi A f
      obtain rfl : i = T.1 := by omega
      have e3 := A.2.1.2.2.1
      refine ac_iload_n (q := 5) dX7_paints_4 rfl rfl ?_
      refine ac_aload_n (q := 6) dX7_paints_5 rfl rfl ?_
      refine ac_get (q := 9) dX7_paints_6 fl_X7_20 (by assumption) rfl (ac_rdr rfl hM9.1.2.2.1) ?_
      refine ac_iconst (q := 10) dX7_paints_9 rfl ?_
      refine ac_ialoadN (q := 11) (j := 0) (v := (T.1 : Int)) dX7_paints_10 k3 (by decide) (by decide) rfl e3 ?_
      refine ac_icmp_gt (q := 14) (tgt := 61) dX7_paints_11 rfl rfl ⟨by omega, by omega⟩ ⟨by omega, by omega⟩ (fun h11 => ?_) (fun h11 => ?_)
      · refine ac_iload_n (q := 62) dX7_paints_61 rfl rfl ?_
        refine ac_ireturn dX7_paints_62 rfl (Nat.zero_le _) (Nat.zero_le _) ?_
        exact ⟨rfl, rfl, A, f⟩
      · exfalso; omega
    | succ r ih =>
      intro i m hi A f
      have e3 := A.2.1.2.2.1
      have ei : ((i + 1 : Nat) : Int) + 1 = ((i + 1 + 1 : Nat) : Int) := rfl
      refine ac_iload_n (q := 5) dX7_paints_4 rfl rfl ?_
      refine ac_aload_n (q := 6) dX7_paints_5 rfl rfl ?_
      refine ac_get (q := 9) dX7_paints_6 fl_X7_20 (by assumption) rfl (ac_rdr rfl hM9.1.2.2.1) ?_
      refine ac_iconst (q := 10) dX7_paints_9 rfl ?_
      refine ac_ialoadN (q := 11) (j := 0) (v := (T.1 : Int)) dX7_paints_10 k3 (by decide) (by decide) rfl e3 ?_
      refine ac_icmp_gt (q := 14) (tgt := 61) dX7_paints_11 rfl rfl ⟨by omega, by omega⟩ ⟨by omega, by omega⟩ (fun h11 => ?_) (fun h11 => ?_)
      · exfalso; omega
      · refine ac_iconst (q := 15) dX7_paints_14 rfl ?_
        refine ac_istore_n (q := 16) (j := 3) rfl dX7_paints_15 rfl (Nat.le_of_ble_eq_true rfl) rfl rfl ?_
        simp only [List.set_cons_succ, List.set_cons_zero]
        refine inner T.2.1 i 0 (ac_pca T i) m (by omega) (by omega) A f (fun m1 A1 f1 => ?_)
        refine ac_iinc (q := 58) dX7_paints_55 rfl (Nat.le_of_ble_eq_true rfl) rfl rfl rfl rfl ?_
        simp only [List.set_cons_succ, List.set_cons_zero]
        refine ac_goto (q := 4) dX7_paints_58 rfl ?_
        exact ac_ls (by rw [ei]; rfl) (ih (i + 1) m1 (by omega) A1 f1)
  refine ac_met (on := (RX7, "paints")) rfl rfl (Nat.le_of_ble_eq_true rfl) (ls := [(2, (x : Int)), (3, 0), (3, 0), (3, 0)]) rfl ?_
  refine ac_iconst (q := 1) dX7_paints_0 rfl ?_
  refine ac_istore_n (q := 2) (j := 1) rfl dX7_paints_1 rfl (Nat.le_of_ble_eq_true rfl) rfl rfl ?_
  simp only [List.set_cons_succ, List.set_cons_zero]
  refine ac_iconst (q := 3) dX7_paints_2 rfl ?_
  refine ac_istore_n (q := 4) (j := 2) rfl dX7_paints_3 rfl (Nat.le_of_ble_eq_true rfl) rfl rfl ?_
  simp only [List.set_cons_succ, List.set_cons_zero]
  exact outer T.1 0 mm (by omega) hR (ac_fM_r mm x)

set_option maxHeartbeats 8000000 in
theorem k_X7_on {G : ac_G} {Y : ac_Y} {mm : ac_M} {d x : Nat} {s : List Nat} {T : ac_Tk} {hs : List ac_Tk} {s0 s1 : Option ac_Tk} {obs : List ac_Ob} {ch : Int} (hd : 30 ≤ d) (hM : ac_isM Y x) (hR : ac_RM mm x s T hs s0 s1 obs ch) (hok : ac_okS T)  : ac_C G yX7_on cX7_on 3 (some .int) d 0 0 Y mm [(2, (x : Int))] (ac_R Y [(0, ac_an_on T)] (fun m => ac_RM m x s T hs s0 s1 obs ch ∧ ac_fM mm m x)) := by
  have hM9 := hM
  obtain ⟨kx, k1, k2, k3, k4, k5, k6, k7, k8, k9, k10, k11, k12, k13, k14, k15, k16⟩ := hM.2
  obtain ⟨-, ⟨hkk, hPg⟩, -⟩ := id hR
  obtain ⟨⟨⟨hn1, hn2⟩, ⟨hk2, hk3⟩, hE, hp0, hpr, hc0⟩, -⟩ := id hPg
  have hE4 := hE.1
  have hLn := ac_Lt_len T hn2
  have h2l : 2 ^ T.2.2.1.length ≤ 16 := Nat.pow_le_pow_right (n := 2) (by decide) hE4
  refine ac_met (on := (RX7, "on")) rfl rfl (Nat.le_of_ble_eq_true rfl) (ls := [(2, (x : Int)), (3, 0), (3, 0)]) rfl ?_
  refine ac_aload_n (q := 1) dX7_on_0 rfl rfl ?_
  refine ac_iconst (q := 2) dX7_on_1 rfl ?_
  refine ac_put (q := 5) dX7_on_2 fl_X7_67 (by assumption) rfl rfl ?_
  have A0 := ac_up0_RM hR
  have F0 : ac_fM mm (ac_up mm x 0 0) x := ac_up0_fM
  generalize ac_up mm x 0 0 = m0 at *
  obtain ⟨q4, qP⟩ := A0.2.1
  obtain ⟨-, p0, p1, pE, pp, p28, pcb, pcl⟩ := id qP
  refine ac_aload_n (q := 6) dX7_on_5 rfl rfl ?_
  refine ac_get (q := 9) dX7_on_6 fl_X7_20 (by assumption) rfl (ac_rdr rfl hM9.1.2.2.1) ?_
  refine ac_iconst (q := 10) dX7_on_9 rfl ?_
  refine ac_ialoadN (q := 11) (j := 0) (v := (T.1 : Int)) dX7_on_10 k3 (by decide) (by decide) rfl p0 ?_
  refine ac_bipush (q := 13) dX7_on_11 rfl (by decide) ?_
  refine ac_icmp_eq (q := 16) (tgt := 26) dX7_on_13 rfl rfl ⟨by omega, by omega⟩ ⟨by omega, by omega⟩ (fun h13 => ?_) (fun h13 => ?_)
  · refine ac_bipush (q := 28) dX7_on_26 rfl (by decide) ?_
    refine ac_ireturn dX7_on_28 rfl (Nat.zero_le _) (Nat.zero_le _) ?_
    have hans : ac_an_on T = -3 := by
      unfold ac_an_on
      first
        | rw [if_neg (by omega)]
        | (rw [if_pos (by omega)]
           cases hc : T.2.2.2.2 with
           | none => rfl
           | some l => rw [hc] at h23; exact absurd rfl h23)
    rw [hans]; exact ⟨rfl, rfl, A0, F0⟩
  · refine ac_aload_n (q := 17) dX7_on_16 rfl rfl ?_
    refine ac_get (q := 20) dX7_on_17 fl_X7_20 (by assumption) rfl (ac_rdr rfl hM9.1.2.2.1) ?_
    refine ac_bipush (q := 22) dX7_on_20 rfl (by decide) ?_
    refine ac_ialoadN (q := 23) (j := 28) (v := ac_b (T.2.2.2.2.isSome = true)) dX7_on_22 k3 (by decide) (by decide) rfl p28 ?_
    refine ac_bif_ne (q := 26) (tgt := 29) dX7_on_23 rfl rfl (fun h23 => ?_) (fun h23 => ?_)
    · refine ac_aload_n (q := 30) dX7_on_29 rfl rfl ?_
      refine ac_aload_n (q := 31) dX7_on_30 rfl rfl ?_
      refine ac_get (q := 34) dX7_on_31 fl_X7_20 (by assumption) rfl (ac_rdr rfl hM9.1.2.2.1) ?_
      refine ac_aload_n (q := 35) dX7_on_34 rfl rfl ?_
      refine ac_get (q := 38) dX7_on_35 fl_X7_20 (by assumption) rfl (ac_rdr rfl hM9.1.2.2.1) ?_
      refine ac_csp (q := 41) (k_X7_all (r := x + 3) (z := T.2.2.1.length) (d := d - 1) (by omega) k3 p1 hE4) ml_X7_157 dX7_on_38 rfl rfl rfl (by omega) (Nat.le_of_ble_eq_true rfl) (Nat.zero_le _) (Nat.zero_le _) ?_
      refine ac_aload_n (q := 42) dX7_on_41 rfl rfl ?_
      refine ac_get (q := 45) dX7_on_42 fl_X7_20 (by assumption) rfl (ac_rdr rfl hM9.1.2.2.1) ?_
      refine ac_iconst (q := 46) dX7_on_45 rfl ?_
      refine ac_ialoadN (q := 47) (j := 0) (v := (T.1 : Int)) dX7_on_46 k3 (by decide) (by decide) rfl p0 ?_
      refine ac_iconst (q := 48) dX7_on_47 rfl ?_
      refine ac_cv (q := 51) (k_X7_begin2 (r := x + 3) (S := 2 ^ T.2.2.1.length - 1) (n := T.1) (T := T) (pz := 0) (pn := fun _ => -1) (d := d - 1) (by omega) hM9 (Or.inl rfl) qP q4 (by omega) ⟨hn1, hn2⟩ (Or.inl ⟨rfl, rfl⟩)) ml_X7_160 (by assumption) dX7_on_48 rfl rfl rfl (by omega) (Nat.le_of_ble_eq_true rfl) (Nat.zero_le _) (Nat.zero_le _) (fun m1 h1 => ?_)
      obtain ⟨N1, ⟨hcl0, -⟩, E1⟩ := h1
      have A1 := ac_RM_fE A0 E1
      have F1 := ac_fM_t F0 (ac_fE_fM E1)
      obtain ⟨l, hl⟩ := Option.isSome_iff_exists.mp h23
      obtain ⟨hl1, hl2⟩ := hc0 l hl
      have hlv := ((ac_Lt_mem hk3).mp (hok.2.1 l hl)).2.2.2
      have hans : ac_an_on T = (ac_onA T.2.2.1 l T.2.1 : Int) := by unfold ac_an_on; rw [if_pos (by omega), hl]; rfl
      refine ac_iconst (q := 52) dX7_on_51 rfl ?_
      refine ac_istore_n (q := 53) (j := 1) rfl dX7_on_52 rfl (Nat.le_of_ble_eq_true rfl) rfl rfl ?_
      simp only [List.set_cons_succ, List.set_cons_zero]
      have l1 : ∀ (f i : Nat) (m : ac_M), i + f = T.1 → ac_RM m x s T hs s0 s1 obs ch → ac_fM mm m x → ac_EN m x (2 ^ T.2.2.1.length - 1) T.2.1 T.1 T.2.2.1 (fun _ => -1) → ac_cl m (x + 14) (l.take i) → (∀ m, ac_RM m x s T hs s0 s1 obs ch → ac_fM mm m x → ac_EN m x (2 ^ T.2.2.1.length - 1) T.2.1 T.1 T.2.2.1 (fun _ => -1) → ac_cl m (x + 14) l → ac_V G (RX7, "on") cX7_on 3 (some .int) d 0 0 (ac_R Y [(0, ac_an_on T)] (fun m => ac_RM m x s T hs s0 s1 obs ch ∧ ac_fM mm m x)) 0 0 Y m 91 [(2, (x : Int)), (3, 0), (3, 0)] []) → ac_V G (RX7, "on") cX7_on 3 (some .int) d 0 0 (ac_R Y [(0, ac_an_on T)] (fun m => ac_RM m x s T hs s0 s1 obs ch ∧ ac_fM mm m x)) 0 0 Y m 53 [(2, (x : Int)), (0, ((i + 1 : Nat) : Int)), (3, 0)] [] := by
        intro f
        induction f with
        | zero =>
          intro i m hi A F N hcl hK
          obtain rfl : i = T.1 := by omega
          have e3 := A.2.1.2.2.1
          rw [List.take_of_length_le (by omega)] at hcl
          refine ac_iload_n (q := 54) dX7_on_53 rfl rfl ?_
          refine ac_aload_n (q := 55) dX7_on_54 rfl rfl ?_
          refine ac_get (q := 58) dX7_on_55 fl_X7_20 (by assumption) rfl (ac_rdr rfl hM9.1.2.2.1) ?_
          refine ac_iconst (q := 59) dX7_on_58 rfl ?_
          refine ac_ialoadN (q := 60) (j := 0) (v := (T.1 : Int)) dX7_on_59 k3 (by decide) (by decide) rfl e3 ?_
          refine ac_icmp_gt (q := 63) (tgt := 91) dX7_on_60 rfl rfl ⟨by omega, by omega⟩ ⟨by omega, by omega⟩ (fun h60 => ?_) (fun h60 => ?_)
          · refine ac_drop [(2, (x : Int)), (3, 0), (3, 0)] (by repeat (first | exact trivial | refine ⟨Or.inl rfl, ?_⟩ | refine ⟨Or.inr rfl, ?_⟩)) ?_
            exact hK m A F N hcl
          · exfalso; omega
        | succ f ih =>
          intro i m hi A F N hcl hK
          have e3 := A.2.1.2.2.1
          obtain ⟨c, hc⟩ : ∃ c, l[i]? = some c := ⟨_, List.getElem?_eq_getElem (by omega)⟩
          have hck := hl2 c (List.mem_of_getElem? hc)
          have hcv := A.2.1.2.2.2.2.2.2.2.2 l hl i c hc
          have ei : ((i + 1 : Nat) : Int) + 1 = ((i + 1 + 1 : Nat) : Int) := rfl
          have htk : l.take (i + 1) = l.take i ++ [c] := by rw [List.take_add_one, hc]; rfl
          have htl : (l.take i).length = i := by rw [List.length_take]; omega
          have hup : ac_set (l.take i) c ||| 2 ^ (i + 1) = ac_set (l.take i ++ [c]) c := by have := @ac_set_up (l.take i) c; rw [htl] at this; exact this
          refine ac_iload_n (q := 54) dX7_on_53 rfl rfl ?_
          refine ac_aload_n (q := 55) dX7_on_54 rfl rfl ?_
          refine ac_get (q := 58) dX7_on_55 fl_X7_20 (by assumption) rfl (ac_rdr rfl hM9.1.2.2.1) ?_
          refine ac_iconst (q := 59) dX7_on_58 rfl ?_
          refine ac_ialoadN (q := 60) (j := 0) (v := (T.1 : Int)) dX7_on_59 k3 (by decide) (by decide) rfl e3 ?_
          refine ac_icmp_gt (q := 63) (tgt := 91) dX7_on_60 rfl rfl ⟨by omega, by omega⟩ ⟨by omega, by omega⟩ (fun h60 => ?_) (fun h60 => ?_)
          · exfalso; omega
          · refine ac_aload_n (q := 64) dX7_on_63 rfl rfl ?_
            refine ac_get (q := 67) dX7_on_64 fl_X7_54 (by assumption) rfl (ac_rdr rfl hM9.1.2.2.2.2.2.2.2.2.2.2.2.2.2.1) ?_
            refine ac_aload_n (q := 68) dX7_on_67 rfl rfl ?_
            refine ac_get (q := 71) dX7_on_68 fl_X7_20 (by assumption) rfl (ac_rdr rfl hM9.1.2.2.1) ?_
            refine ac_bipush (q := 73) dX7_on_71 rfl (by decide) ?_
            refine ac_iload_n (q := 74) dX7_on_73 rfl rfl ?_
            refine ac_iadd (q := 75) dX7_on_74 rfl ?_
            refine ac_iconst (q := 76) dX7_on_75 rfl ?_
            refine ac_isub (q := 77) dX7_on_76 rfl ?_
            refine ac_top (w' := (0, ((29 + i : Nat) : Int))) (congrArg (fun z : Int => ((0 : Nat), z)) (by omega)) ?_
            refine ac_ialoadN (q := 78) (j := 29 + i) (v := (c : Int)) dX7_on_77 k3 (by decide) (by omega) rfl hcv ?_
            refine ac_dup2_11 (q := 79) dX7_on_78 rfl (show (0 : Nat) ≠ 1 by decide) (show (2 : Nat) ≠ 1 by decide) ?_
            refine ac_ialoadN (q := 80) (j := c) (v := ((ac_set (l.take i) c : Nat) : Int)) dX7_on_79 k14 (by decide) (by omega) rfl (hcl c (by omega)) ?_
            refine ac_iconst (q := 81) dX7_on_80 rfl ?_
            refine ac_iload_n (q := 82) dX7_on_81 rfl rfl ?_
            refine ac_ishl1 (q := 83) (k := i + 1) dX7_on_82 rfl (by omega) ?_
            refine ac_ior (q := 84) dX7_on_83 rfl ?_
            refine ac_top (w' := (0, ((ac_set (l.take i ++ [c]) c : Nat) : Int))) (by rw [hup]) ?_
            refine ac_iastoreN (q := 85) (j := c) dX7_on_84 k14 (by decide) (by omega) rfl ?_
            refine ac_iinc (q := 88) dX7_on_85 rfl (Nat.le_of_ble_eq_true rfl) rfl rfl rfl rfl ?_
            simp only [List.set_cons_succ, List.set_cons_zero]
            refine ac_goto (q := 53) dX7_on_88 rfl ?_
            have hcl2 : ac_cl (ac_up m (x + 14) c ((ac_set (l.take i ++ [c]) c : Nat) : Int)) (x + 14) (l.take i ++ [c]) := ac_cl_lay hcl (fun j => by unfold ac_up; simp)
            have hK2 : ∀ k', k' ≠ x + 14 → ac_up m (x + 14) c ((ac_set (l.take i ++ [c]) c : Nat) : Int) k' = m k' := fun k' h => by funext j; exact ac_up_k h
            exact ac_ls (by rw [ei]) (ih (i + 1) _ (by omega) (ac_RM_e A (fun k' hk' => hK2 k' (by omega)) (fun j hj => by rw [hK2 x (by omega)])) (ac_fM_t F (fun k' hk' => hK2 k' (by omega))) (ac_EN_keep N (fun j _ => by rw [hK2 x (by omega)]) (hK2 _ (by omega)) (hK2 _ (by omega)) (hK2 _ (by omega)) (hK2 _ (by omega))) (by rw [htk]; exact hcl2) hK)
      refine l1 T.1 0 m1 (by omega) A1 F1 N1 hcl0 (fun m A F N hcl => ?_)
      have e3 := A.2.1.2.2.1
      have e4 := A.2.1.1
      have l2 : ∀ (f c : Nat), c + f = T.2.1 → ac_V G (RX7, "on") cX7_on 3 (some .int) d 0 0 (ac_R Y [(0, ac_an_on T)] (fun m => ac_RM m x s T hs s0 s1 obs ch ∧ ac_fM mm m x)) 0 0 Y m 95 [(2, (x : Int)), (0, ((ac_onA T.2.2.1 l c : Nat) : Int)), (0, (c : Int))] [] := by
        intro f
        induction f with
        | zero =>
          intro c hc
          obtain rfl : c = T.2.1 := by omega
          refine ac_iload_n (q := 96) dX7_on_95 rfl rfl ?_
          refine ac_aload_n (q := 97) dX7_on_96 rfl rfl ?_
          refine ac_get (q := 100) dX7_on_97 fl_X7_13 kx rfl (ac_rdi rfl e4) ?_
          refine ac_icmp_ge (q := 103) (tgt := 135) dX7_on_100 rfl rfl ⟨by omega, by omega⟩ ⟨by omega, by omega⟩ (fun h100 => ?_) (fun h100 => ?_)
          · refine ac_iload_n (q := 136) dX7_on_135 rfl rfl ?_
            refine ac_ireturn dX7_on_136 rfl (Nat.zero_le _) (Nat.zero_le _) ?_
            rw [hans]; exact ⟨rfl, rfl, A, F⟩
          · exfalso; omega
        | succ f ih =>
          intro c hc
          have ec : ((c : Nat) : Int) + 1 = ((c + 1 : Nat) : Int) := rfl
          have hs := ih (c + 1) (by omega)
          rw [ac_onA] at hs
          refine ac_iload_n (q := 96) dX7_on_95 rfl rfl ?_
          refine ac_aload_n (q := 97) dX7_on_96 rfl rfl ?_
          refine ac_get (q := 100) dX7_on_97 fl_X7_13 kx rfl (ac_rdi rfl e4) ?_
          refine ac_icmp_ge (q := 103) (tgt := 135) dX7_on_100 rfl rfl ⟨by omega, by omega⟩ ⟨by omega, by omega⟩ (fun h100 => ?_) (fun h100 => ?_)
          · exfalso; omega
          · refine ac_iload_n (q := 104) dX7_on_103 rfl rfl ?_
            refine ac_aload_n (q := 105) dX7_on_104 rfl rfl ?_
            refine ac_aload_n (q := 106) dX7_on_105 rfl rfl ?_
            refine ac_get (q := 109) dX7_on_106 fl_X7_20 (by assumption) rfl (ac_rdr rfl hM9.1.2.2.1) ?_
            refine ac_iconst (q := 110) dX7_on_109 rfl ?_
            refine ac_ialoadN (q := 111) (j := 0) (v := (T.1 : Int)) dX7_on_110 k3 (by decide) (by decide) rfl e3 ?_
            refine ac_iconst (q := 112) dX7_on_111 rfl ?_
            refine ac_iadd (q := 113) dX7_on_112 rfl ?_
            refine ac_top (w' := (0, ((l.length + 1 : Nat) : Int))) (congrArg (fun z : Int => ((0 : Nat), z)) (by omega)) ?_
            refine ac_iload_n (q := 114) dX7_on_113 rfl rfl ?_
            refine ac_cvp (q := 117) (k_X7_may (S := 2 ^ T.2.2.1.length - 1) (E := T.2.2.1) (l := l) (c := c) (d := d - 1) (by omega) hM9 N.2.2.2.1 hE (by omega) (by omega) hcl (by rw [ac_br_all]; exact hlv c (by omega))) ml_X7_151 (by assumption) dX7_on_114 rfl rfl rfl (by omega) (Nat.le_of_ble_eq_true rfl) (Nat.zero_le _) (Nat.zero_le _) ?_
            simp only [ac_br_all]
            refine ac_bif_eq (q := 120) (tgt := 126) dX7_on_117 rfl rfl (fun h117 => ?_) (fun h117 => ?_)
            · rw [if_neg h117] at hs
              refine ac_iconst (q := 127) dX7_on_126 rfl ?_
              refine ac_ior (q := 128) (b := 0) dX7_on_127 rfl ?_
              refine ac_istore_n (q := 129) (j := 1) rfl dX7_on_128 rfl (Nat.le_of_ble_eq_true rfl) rfl rfl ?_
              simp only [List.set_cons_succ, List.set_cons_zero]
              refine ac_iinc (q := 132) dX7_on_129 rfl (Nat.le_of_ble_eq_true rfl) rfl rfl rfl rfl ?_
              simp only [List.set_cons_succ, List.set_cons_zero]
              refine ac_goto (q := 95) dX7_on_132 rfl ?_
              exact ac_ls (by rw [ec]) hs
            · rw [if_pos h117] at hs
              refine ac_iconst (q := 121) dX7_on_120 rfl ?_
              refine ac_iload_n (q := 122) dX7_on_121 rfl rfl ?_
              refine ac_ishl1 (q := 123) (k := c) dX7_on_122 rfl (by omega) ?_
              refine ac_goto (q := 127) dX7_on_123 rfl ?_
              refine ac_ior (q := 128) dX7_on_127 rfl ?_
              refine ac_istore_n (q := 129) (j := 1) rfl dX7_on_128 rfl (Nat.le_of_ble_eq_true rfl) rfl rfl ?_
              simp only [List.set_cons_succ, List.set_cons_zero]
              refine ac_iinc (q := 132) dX7_on_129 rfl (Nat.le_of_ble_eq_true rfl) rfl rfl rfl rfl ?_
              simp only [List.set_cons_succ, List.set_cons_zero]
              refine ac_goto (q := 95) dX7_on_132 rfl ?_
              exact ac_ls (by rw [ec]) hs
      refine ac_iconst (q := 92) dX7_on_91 rfl ?_
      refine ac_istore_n (q := 93) (j := 1) rfl dX7_on_92 rfl (Nat.le_of_ble_eq_true rfl) rfl rfl ?_
      simp only [List.set_cons_succ, List.set_cons_zero]
      refine ac_iconst (q := 94) dX7_on_93 rfl ?_
      refine ac_istore_n (q := 95) (j := 2) rfl dX7_on_94 rfl (Nat.le_of_ble_eq_true rfl) rfl rfl ?_
      simp only [List.set_cons_succ, List.set_cons_zero]
      exact l2 T.2.1 0 (by omega)
    · refine ac_bipush (q := 28) dX7_on_26 rfl (by decide) ?_
      refine ac_ireturn dX7_on_28 rfl (Nat.zero_le _) (Nat.zero_le _) ?_
      have hans : ac_an_on T = -3 := by
        unfold ac_an_on
        first
          | rw [if_neg (by omega)]
          | (rw [if_pos (by omega)]
             cases hc : T.2.2.2.2 with
             | none => rfl
             | some l => rw [hc] at h23; exact absurd rfl h23)
      rw [hans]; exact ⟨rfl, rfl, A0, F0⟩
