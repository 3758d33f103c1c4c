set_option maxHeartbeats 8000000 in
theorem k_X7_layTrial {G : ac_G} {Y : ac_Y} {mm : ac_M} {d x : Nat} {s : List Nat} {T : ac_Tk} {hs : List ac_Tk} {s0 s1 : Option ac_Tk} {obs : List ac_Ob} {ch : Int} (hd : 1 ≤ d) (hM : ac_isM Y x) (hR : ac_RM mm x s T hs s0 s1 obs ch)  : ac_C G yX7_layTrial cX7_layTrial 2 none d 0 0 Y mm [(2, (x : Int))] (ac_R Y [] (fun m => ac_RM m x s T hs s0 s1 obs ch ∧ ac_RP m (x + 4) T ∧ m x = mm x ∧ ∀ k', k' ≠ x + 4 → m k' = mm k')) := by
  have hM9 := hM
  obtain ⟨kx, k1, k2, k3, k4, k5, k6, k7, k8, k9, k10, k11, k12, k13, k14, k15, k16⟩ := hM.2
  have loop : (∀ m : ac_M, m = (ac_cpn mm (x + 3) 0 (x + 4) 0 39) → ac_V G (RX7, "layTrial") cX7_layTrial 2 none d 0 0 (ac_R Y [] (fun m => ac_RM m x s T hs s0 s1 obs ch ∧ ac_RP m (x + 4) T ∧ m x = mm x ∧ ∀ k', k' ≠ x + 4 → m k' = mm k')) 0 0 Y m 26 [(2, (x : Int)), (0, (39 : Int))] []) → ∀ (f i : Nat), i + f = 39 → ac_V G (RX7, "layTrial") cX7_layTrial 2 none d 0 0 (ac_R Y [] (fun m => ac_RM m x s T hs s0 s1 obs ch ∧ ac_RP m (x + 4) T ∧ m x = mm x ∧ ∀ k', k' ≠ x + 4 → m k' = mm k')) 0 0 Y (ac_cpn mm (x + 3) 0 (x + 4) 0 i) 2 [(2, (x : Int)), (0, (i : Int))] [] := by
    intro hK f
    induction f with
    | zero =>
      intro i hi
      refine ac_iload_n (q := 3) dX7_layTrial_2 rfl rfl ?_
      refine ac_bipush (q := 5) dX7_layTrial_3 rfl (by decide) ?_
      refine ac_icmp_ge (q := 8) (tgt := 26) dX7_layTrial_5 rfl rfl ⟨by omega, by omega⟩ ⟨by omega, by omega⟩ (fun h5 => ?_) (fun h5 => ?_)
      · obtain rfl : i = 39 := by omega
        exact hK _ rfl
      · exfalso; omega
    | succ f ih =>
      intro i hi
      have ei : ((i : Nat) : Int) + 1 = ((i + 1 : Nat) : Int) := rfl
      refine ac_iload_n (q := 3) dX7_layTrial_2 rfl rfl ?_
      refine ac_bipush (q := 5) dX7_layTrial_3 rfl (by decide) ?_
      refine ac_icmp_ge (q := 8) (tgt := 26) dX7_layTrial_5 rfl rfl ⟨by omega, by omega⟩ ⟨by omega, by omega⟩ (fun h5 => ?_) (fun h5 => ?_)
      · exfalso; omega
      · refine ac_aload_n (q := 9) dX7_layTrial_8 rfl rfl ?_
        refine ac_get (q := 12) dX7_layTrial_9 fl_X7_23 (by assumption) rfl (ac_rdr rfl hM9.1.2.2.2.1) ?_
        refine ac_iload_n (q := 13) dX7_layTrial_12 rfl rfl ?_
        refine ac_top (w' := (0, ((0 + i : Nat) : Int))) (congrArg (fun z : Int => ((0 : Nat), z)) (by omega)) ?_
        refine ac_aload_n (q := 14) dX7_layTrial_13 rfl rfl ?_
        refine ac_get (q := 17) dX7_layTrial_14 fl_X7_20 (by assumption) rfl (ac_rdr rfl hM9.1.2.2.1) ?_
        refine ac_iload_n (q := 18) dX7_layTrial_17 rfl rfl ?_
        refine ac_top (w' := (0, ((0 + i : Nat) : Int))) (congrArg (fun z : Int => ((0 : Nat), z)) (by omega)) ?_
        refine ac_ialoadN (q := 19) (j := 0 + i) (v := mm (x + 3) (0 + i)) dX7_layTrial_18 k3 (by decide) (by omega) rfl (ac_cpn_rd (Or.inl (by omega))) ?_
        refine ac_iastoreN (q := 20) (j := 0 + i) dX7_layTrial_19 k4 (by decide) (by omega) rfl ?_
        rw [ac_cpn_s]
        refine ac_iinc (q := 23) dX7_layTrial_20 rfl (Nat.le_of_ble_eq_true rfl) rfl rfl rfl rfl ?_
        simp only [List.set_cons_succ, List.set_cons_zero]
        refine ac_goto (q := 2) dX7_layTrial_23 rfl ?_
        exact ac_ls (by rw [ei]) (ih (i + 1) (by omega))
  refine ac_met (on := (RX7, "layTrial")) rfl rfl (Nat.le_of_ble_eq_true rfl) (ls := [(2, (x : Int)), (3, 0)]) rfl ?_
  refine ac_iconst (q := 1) dX7_layTrial_0 rfl ?_
  refine ac_istore_n (q := 2) (j := 1) rfl dX7_layTrial_1 rfl (Nat.le_of_ble_eq_true rfl) rfl rfl ?_
  simp only [List.set_cons_succ, List.set_cons_zero]
  refine ac_mem (ac_cpn_0 (ra := x + 3) (oa := 0) (rb := x + 4) (ob := 0)).symm ?_
  refine loop (fun m hm => ?_) 39 0 rfl
  subst hm
  have hfr : ∀ k', k' ≠ x + 4 → ac_cpn mm (x + 3) 0 (x + 4) 0 39 k' = mm k' := fun k' h => ac_cpn_k h
  have hP : ac_RP (ac_cpn mm (x + 3) 0 (x + 4) 0 39) (x + 4) T := by
    have := ac_RP_cp (ra := x + 3) (oa := 0) (rb := x + 4) (ob := 0) (mm := mm) (T := T) (by rw [ac_sh0]; exact hR.2.1.2)
    rw [ac_sh0] at this; exact this
  refine ac_return dX7_layTrial_26 rfl (Nat.zero_le _) (Nat.zero_le _) ?_
  exact ⟨rfl, rfl, ac_RM_e hR (fun k' hk' => hfr k' (by omega)) (fun j hj => by rw [hfr x (by omega)]), hP, hfr x (by omega), hfr⟩

set_option maxHeartbeats 8000000 in
theorem k_X7_note {G : ac_G} {Y : ac_Y} {mm : ac_M} {d x : Nat} {s : List Nat} {T : ac_Tk} {hs : List ac_Tk} {s0 s1 : Option ac_Tk} {obs : List ac_Ob} {ch : Int} (hd : 1 ≤ d) (hM : ac_isM Y x) (hR : ac_RM mm x s T hs s0 s1 obs ch)  : ac_C G yX7_note cX7_note 2 none d 0 0 Y mm [(2, (x : Int))] (ac_R Y [] (fun m => ac_RM m x s T (ac_push T hs) s0 s1 obs ch ∧ (∀ j, j ≠ 10 → m x j = mm x j) ∧ ∀ k', k' ≠ x → k' ≠ x + 5 → m k' = mm k')) := by
  have hM9 := hM
  obtain ⟨kx, k1, k2, k3, k4, k5, k6, k7, k8, k9, k10, k11, k12, k13, k14, k15, k16⟩ := hM.2
  have hR9 := hR
  obtain ⟨-, ⟨b1, b2⟩, ⟨c1, c2, c3⟩, -⟩ := hR
  have half : ∀ (m0 : ac_M) (ks : List ac_Tk) (xx : Nat × Int), xx.1 ≠ 1 → ks.length ≤ 13 → ac_push T hs = T :: ks → m0 x 10 = (ks.length : Int) → (∀ (i : Nat) (T' : ac_Tk), ks[i]? = some T' → T'.2.1 = T.2.1 ∧ ac_RP (ac_sh m0 (39 * (ks.length - 1 - i))) (x + 5) T') → (∀ j, j ≠ 10 → m0 x j = mm x j) → (∀ k', k' ≠ x → k' ≠ x + 5 → m0 k' = mm k') → ac_V G (RX7, "note") cX7_note 2 none d 0 0 (ac_R Y [] (fun m => ac_RM m x s T (ac_push T hs) s0 s1 obs ch ∧ (∀ j, j ≠ 10 → m x j = mm x j) ∧ ∀ k', k' ≠ x → k' ≠ x + 5 → m k' = mm k')) 0 0 Y m0 49 [(2, (x : Int)), xx] [] := by
    intro m0 ks xx hxx hk13 hps h10 hbk hx0 hfr0
    obtain ⟨xx1, xx2⟩ := xx
    simp only at hxx
    have b20 : ac_RP m0 (x + 3) T := ac_RP_keep b2 (hfr0 _ (by omega) (by omega))
    have loop : (∀ m : ac_M, m = (ac_cpn m0 (x + 3) 0 (x + 5) (39 * ks.length) 39) → ac_V G (RX7, "note") cX7_note 2 none d 0 0 (ac_R Y [] (fun m => ac_RM m x s T (ac_push T hs) s0 s1 obs ch ∧ (∀ j, j ≠ 10 → m x j = mm x j) ∧ ∀ k', k' ≠ x → k' ≠ x + 5 → m k' = mm k')) 0 0 Y m 83 [(2, (x : Int)), (0, (39 : Int))] []) → ∀ (f i : Nat), i + f = 39 → ac_V G (RX7, "note") cX7_note 2 none d 0 0 (ac_R Y [] (fun m => ac_RM m x s T (ac_push T hs) s0 s1 obs ch ∧ (∀ j, j ≠ 10 → m x j = mm x j) ∧ ∀ k', k' ≠ x → k' ≠ x + 5 → m k' = mm k')) 0 0 Y (ac_cpn m0 (x + 3) 0 (x + 5) (39 * ks.length) i) 51 [(2, (x : Int)), (0, (i : Int))] [] := by
      intro hK f
      induction f with
      | zero =>
        intro i hi
        have h10i : ac_cpn m0 (x + 3) 0 (x + 5) (39 * ks.length) i x 10 = (ks.length : Int) := by rw [ac_cpn_k (by omega)]; exact h10
        refine ac_iload_n (q := 52) dX7_note_51 rfl rfl ?_
        refine ac_bipush (q := 54) dX7_note_52 rfl (by decide) ?_
        refine ac_icmp_ge (q := 57) (tgt := 83) dX7_note_54 rfl rfl ⟨by omega, by omega⟩ ⟨by omega, by omega⟩ (fun h54 => ?_) (fun h54 => ?_)
        · obtain rfl : i = 39 := by omega
          exact hK _ rfl
        · exfalso; omega
      | succ f ih =>
        intro i hi
        have ei : ((i : Nat) : Int) + 1 = ((i + 1 : Nat) : Int) := rfl
        have h10i : ac_cpn m0 (x + 3) 0 (x + 5) (39 * ks.length) i x 10 = (ks.length : Int) := by rw [ac_cpn_k (by omega)]; exact h10
        refine ac_iload_n (q := 52) dX7_note_51 rfl rfl ?_
        refine ac_bipush (q := 54) dX7_note_52 rfl (by decide) ?_
        refine ac_icmp_ge (q := 57) (tgt := 83) dX7_note_54 rfl rfl ⟨by omega, by omega⟩ ⟨by omega, by omega⟩ (fun h54 => ?_) (fun h54 => ?_)
        · exfalso; omega
        · refine ac_aload_n (q := 58) dX7_note_57 rfl rfl ?_
          refine ac_get (q := 61) dX7_note_58 fl_X7_26 (by assumption) rfl (ac_rdr rfl hM9.1.2.2.2.2.1) ?_
          refine ac_bipush (q := 63) dX7_note_61 rfl (by decide) ?_
          refine ac_aload_n (q := 64) dX7_note_63 rfl rfl ?_
          refine ac_get (q := 67) dX7_note_64 fl_X7_115 kx rfl (ac_rdi rfl h10i) ?_
          refine ac_imul (q := 68) dX7_note_67 rfl ?_
          refine ac_iload_n (q := 69) dX7_note_68 rfl rfl ?_
          refine ac_iadd (q := 70) dX7_note_69 rfl ?_
          refine ac_top (w' := (0, ((39 * ks.length + i : Nat) : Int))) (congrArg (fun z : Int => ((0 : Nat), z)) (by omega)) ?_
          refine ac_aload_n (q := 71) dX7_note_70 rfl rfl ?_
          refine ac_get (q := 74) dX7_note_71 fl_X7_20 (by assumption) rfl (ac_rdr rfl hM9.1.2.2.1) ?_
          refine ac_iload_n (q := 75) dX7_note_74 rfl rfl ?_
          refine ac_top (w' := (0, ((0 + i : Nat) : Int))) (congrArg (fun z : Int => ((0 : Nat), z)) (by omega)) ?_
          refine ac_ialoadN (q := 76) (j := 0 + i) (v := m0 (x + 3) (0 + i)) dX7_note_75 k3 (by decide) (by omega) rfl (ac_cpn_rd (Or.inl (by omega))) ?_
          refine ac_iastoreN (q := 77) (j := (39 * ks.length) + i) dX7_note_76 k5 (by decide) (by omega) rfl ?_
          rw [ac_cpn_s]
          refine ac_iinc (q := 80) dX7_note_77 rfl (Nat.le_of_ble_eq_true rfl) rfl rfl rfl rfl ?_
          simp only [List.set_cons_succ, List.set_cons_zero]
          refine ac_goto (q := 51) dX7_note_80 rfl ?_
          exact ac_ls (by rw [ei]) (ih (i + 1) (by omega))
    refine ac_iconst (q := 50) dX7_note_49 rfl ?_
    refine ac_istore_n (q := 51) (j := 1) rfl dX7_note_50 rfl (Nat.le_of_ble_eq_true rfl) rfl rfl ?_
    simp only [List.set_cons_succ, List.set_cons_zero]
    refine ac_mem (ac_cpn_0 (ra := x + 3) (oa := 0) (rb := x + 5) (ob := 39 * ks.length)).symm ?_
    refine loop (fun m1 hm1 => ?_) 39 0 rfl
    have hfr : ∀ k', k' ≠ x + 5 → m1 k' = m0 k' := fun k' h => by rw [hm1]; exact ac_cpn_k h
    have h10b : m1 x 10 = (ks.length : Int) := by rw [hfr x (by omega)]; exact h10
    have hP : ac_RP (ac_sh m1 (39 * ks.length)) (x + 5) T := by
      rw [hm1]
      exact ac_RP_cp (ra := x + 3) (oa := 0) (rb := x + 5) (ob := 39 * ks.length) (mm := m0) (T := T) (by rw [ac_sh0]; exact b20)
    have hlow : ∀ j, j < 39 * ks.length → m1 (x + 5) j = m0 (x + 5) j := fun j hj => by rw [hm1]; exact ac_cpn_o (Or.inl hj)
    refine ac_aload_n (q := 84) dX7_note_83 rfl rfl ?_
    refine ac_dup (q := 85) dX7_note_84 rfl (show (2 : Nat) ≠ 1 by decide) ?_
    refine ac_get (q := 88) dX7_note_85 fl_X7_115 kx rfl (ac_rdi rfl h10b) ?_
    refine ac_iconst (q := 89) dX7_note_88 rfl ?_
    refine ac_iadd (q := 90) dX7_note_89 rfl ?_
    refine ac_put (q := 93) dX7_note_90 fl_X7_115 (by assumption) rfl rfl ?_
    refine ac_return dX7_note_93 rfl (Nat.zero_le _) (Nat.zero_le _) ?_
    have hX : ∀ j, j ≠ 10 → ac_up m1 x 10 ((ks.length : Int) + 1) x j = mm x j := fun j hj => by rw [ac_up_j hj, hfr x (by omega)]; exact hx0 j hj
    have hK : ∀ k', k' ≠ x → ac_up m1 x 10 ((ks.length : Int) + 1) k' = m1 k' := fun k' hk' => by funext j; exact ac_up_k hk'
    have hOut : ∀ k', k' ≠ x → k' ≠ x + 5 → ac_up m1 x 10 ((ks.length : Int) + 1) k' = mm k' := fun k' h1 h2 => by rw [hK k' h1, hfr k' h2, hfr0 k' h1 h2]
    refine ⟨rfl, rfl, ?_, hX, hOut⟩
    obtain ⟨⟨a1, a2, a3⟩, -, -, ⟨⟨d1, d2⟩, d3, d4⟩, ⟨e1, e2, e3⟩, f⟩ := hR9
    refine ⟨⟨a1, by rw [hX 2 (by decide)]; exact a2, by rw [hOut _ (by omega) (by omega)]; exact a3⟩, ⟨by rw [hX 4 (by decide)]; exact b1, ac_RP_keep b2 (hOut _ (by omega) (by omega))⟩, ?_, ⟨⟨by rw [hOut _ (by omega) (by omega)]; exact d1, by rw [hOut _ (by omega) (by omega)]; exact d2⟩, fun T2 hT => ⟨(d3 T2 hT).1, ac_RP_keep (d3 T2 hT).2 (ac_sh_k (hOut _ (by omega) (by omega)))⟩, fun T2 hT => ⟨(d4 T2 hT).1, ac_RP_keep (d4 T2 hT).2 (ac_sh_k (hOut _ (by omega) (by omega)))⟩⟩, ⟨e1, by rw [hX 13 (by decide)]; exact e2, by rw [hOut (x + 8) (by omega) (by omega), hOut (x + 9) (by omega) (by omega), hOut (x + 10) (by omega) (by omega)]; exact e3⟩, by rw [hX 17 (by decide)]; exact f⟩
    rw [hps]
    refine ⟨by rw [List.length_cons]; omega, by rw [ac_up_s, List.length_cons]; rfl, fun i T' hi => ?_⟩
    rw [List.length_cons]
    cases i with
    | zero =>
      cases hi
      refine ⟨rfl, ac_RP_keep hP (ac_sh_k (hK _ (by omega)))⟩
    | succ i =>
      have hi2 : ks[i]? = some T' := hi
      have hil := (List.getElem?_eq_some_iff.mp hi2).1
      obtain ⟨q1, q2⟩ := hbk i T' hi2
      refine ⟨q1, ac_RP_cong q2 (fun j hj => ?_)⟩
      show ac_up m1 x 10 ((ks.length : Int) + 1) (x + 5) (39 * (ks.length + 1 - 1 - (i + 1)) + j) = m0 (x + 5) (39 * (ks.length - 1 - i) + j)
      rw [hK _ (by omega), show ks.length + 1 - 1 - (i + 1) = ks.length - 1 - i by omega, hlow _ (by omega)]
  have shift : (∀ m : ac_M, m = (ac_cpn mm (x + 5) 39 (x + 5) 0 507) → ac_V G (RX7, "note") cX7_note 2 none d 0 0 (ac_R Y [] (fun m => ac_RM m x s T (ac_push T hs) s0 s1 obs ch ∧ (∀ j, j ≠ 10 → m x j = mm x j) ∧ ∀ k', k' ≠ x → k' ≠ x + 5 → m k' = mm k')) 0 0 Y m 39 [(2, (x : Int)), (0, (507 : Int))] []) → ∀ (f i : Nat), i + f = 507 → ac_V G (RX7, "note") cX7_note 2 none d 0 0 (ac_R Y [] (fun m => ac_RM m x s T (ac_push T hs) s0 s1 obs ch ∧ (∀ j, j ≠ 10 → m x j = mm x j) ∧ ∀ k', k' ≠ x → k' ≠ x + 5 → m k' = mm k')) 0 0 Y (ac_cpn mm (x + 5) 39 (x + 5) 0 i) 11 [(2, (x : Int)), (0, (i : Int))] [] := by
    intro hK f
    induction f with
    | zero =>
      intro i hi
      refine ac_iload_n (q := 12) dX7_note_11 rfl rfl ?_
      refine ac_sipush (q := 15) dX7_note_12 rfl (by decide) ?_
      refine ac_icmp_ge (q := 18) (tgt := 39) dX7_note_15 rfl rfl ⟨by omega, by omega⟩ ⟨by omega, by omega⟩ (fun h15 => ?_) (fun h15 => ?_)
      · obtain rfl : i = 507 := by omega
        exact hK _ rfl
      · exfalso; omega
    | succ f ih =>
      intro i hi
      have ei : ((i : Nat) : Int) + 1 = ((i + 1 : Nat) : Int) := rfl
      refine ac_iload_n (q := 12) dX7_note_11 rfl rfl ?_
      refine ac_sipush (q := 15) dX7_note_12 rfl (by decide) ?_
      refine ac_icmp_ge (q := 18) (tgt := 39) dX7_note_15 rfl rfl ⟨by omega, by omega⟩ ⟨by omega, by omega⟩ (fun h15 => ?_) (fun h15 => ?_)
      · exfalso; omega
      · refine ac_aload_n (q := 19) dX7_note_18 rfl rfl ?_
        refine ac_get (q := 22) dX7_note_19 fl_X7_26 (by assumption) rfl (ac_rdr rfl hM9.1.2.2.2.2.1) ?_
        refine ac_iload_n (q := 23) dX7_note_22 rfl rfl ?_
        refine ac_top (w' := (0, ((0 + i : Nat) : Int))) (congrArg (fun z : Int => ((0 : Nat), z)) (by omega)) ?_
        refine ac_aload_n (q := 24) dX7_note_23 rfl rfl ?_
        refine ac_get (q := 27) dX7_note_24 fl_X7_26 (by assumption) rfl (ac_rdr rfl hM9.1.2.2.2.2.1) ?_
        refine ac_iload_n (q := 28) dX7_note_27 rfl rfl ?_
        refine ac_bipush (q := 30) dX7_note_28 rfl (by decide) ?_
        refine ac_iadd (q := 31) dX7_note_30 rfl ?_
        refine ac_top (w' := (0, ((39 + i : Nat) : Int))) (congrArg (fun z : Int => ((0 : Nat), z)) (by omega)) ?_
        refine ac_ialoadN (q := 32) (j := 39 + i) (v := mm (x + 5) (39 + i)) dX7_note_31 k5 (by decide) (by omega) rfl (ac_cpn_rd (Or.inr (by omega))) ?_
        refine ac_iastoreN (q := 33) (j := 0 + i) dX7_note_32 k5 (by decide) (by omega) rfl ?_
        rw [ac_cpn_s]
        refine ac_iinc (q := 36) dX7_note_33 rfl (Nat.le_of_ble_eq_true rfl) rfl rfl rfl rfl ?_
        simp only [List.set_cons_succ, List.set_cons_zero]
        refine ac_goto (q := 11) dX7_note_36 rfl ?_
        exact ac_ls (by rw [ei]) (ih (i + 1) (by omega))
  refine ac_met (on := (RX7, "note")) rfl rfl (Nat.le_of_ble_eq_true rfl) (ls := [(2, (x : Int)), (3, 0)]) rfl ?_
  refine ac_aload_n (q := 1) dX7_note_0 rfl rfl ?_
  refine ac_get (q := 4) dX7_note_1 fl_X7_115 kx rfl (ac_rdi rfl c2) ?_
  refine ac_bipush (q := 6) dX7_note_4 rfl (by decide) ?_
  refine ac_icmp_ne (q := 9) (tgt := 49) dX7_note_6 rfl rfl ⟨by omega, by omega⟩ ⟨by omega, by omega⟩ (fun h6 => ?_) (fun h6 => ?_)
  · have hps : ac_push T hs = T :: hs := by unfold ac_push; rw [List.take_of_length_le (by rw [List.length_cons]; omega)]
    exact half mm hs (3, 0) (show (3 : Nat) ≠ 1 by decide) (by omega) hps c2 c3 (fun _ _ => rfl) (fun _ _ _ => rfl)
  · refine ac_iconst (q := 10) dX7_note_9 rfl ?_
    refine ac_istore_n (q := 11) (j := 1) rfl dX7_note_10 rfl (Nat.le_of_ble_eq_true rfl) rfl rfl ?_
    simp only [List.set_cons_succ, List.set_cons_zero]
    refine ac_mem (ac_cpn_0 (ra := x + 5) (oa := 39) (rb := x + 5) (ob := 0)).symm ?_
    refine shift (fun m1 hm1 => ?_) 507 0 rfl
    have hfr : ∀ k', k' ≠ x + 5 → m1 k' = mm k' := fun k' h => by rw [hm1]; exact ac_cpn_k h
    have c2b : m1 x 10 = (hs.length : Int) := by rw [hfr x (by omega)]; exact c2
    have h14 : hs.length = 14 := by omega
    have htl : (hs.take 13).length = 13 := by rw [List.length_take]; omega
    have hps : ac_push T hs = T :: hs.take 13 := rfl
    refine ac_aload_n (q := 40) dX7_note_39 rfl rfl ?_
    refine ac_dup (q := 41) dX7_note_40 rfl (show (2 : Nat) ≠ 1 by decide) ?_
    refine ac_get (q := 44) dX7_note_41 fl_X7_115 kx rfl (ac_rdi rfl c2b) ?_
    refine ac_iconst (q := 45) dX7_note_44 rfl ?_
    refine ac_isub (q := 46) dX7_note_45 rfl ?_
    refine ac_put (q := 49) dX7_note_46 fl_X7_115 (by assumption) rfl rfl ?_
    refine half _ (hs.take 13) (0, ((507 : Nat) : Int)) (show (0 : Nat) ≠ 1 by decide) (by omega) hps (by rw [ac_up_s, htl, h14]; rfl) (fun i T' hi => ?_) (fun j hj => by rw [ac_up_j hj, hfr x (by omega)]) (fun k' h1 h2 => by rw [← hfr k' h2]; funext j; exact ac_up_k h1)
    obtain ⟨hi13, hi2⟩ := ac_take_get hi
    obtain ⟨q1, q2⟩ := c3 i T' hi2
    refine ⟨q1, ac_RP_cong q2 (fun j hj => ?_)⟩
    show ac_up m1 x 10 ((hs.length : Int) - 1) (x + 5) (39 * ((hs.take 13).length - 1 - i) + j) = mm (x + 5) (39 * (hs.length - 1 - i) + j)
    rw [ac_up_k (by omega), htl, h14, hm1, show 39 * (13 - 1 - i) + j = 0 + (39 * (13 - 1 - i) + j) by omega, ac_cpn_at (by omega)]
    congr 1; omega
