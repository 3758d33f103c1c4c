theorem ac_RM_D {mm m : ac_M} {x : Nat} {s : List Nat} {T : ac_Tk} {hs : List ac_Tk} {s0 s1 : Option ac_Tk} {obs : List ac_Ob} {ch : Int} (h : ac_RM mm x s T hs s0 s1 obs ch) (hf : ac_fD mm m x) : ac_RM m x s T hs s0 s1 obs ch :=
  ac_RM_e h (fun k' hk' => hf.1 k' (by omega) (by omega)) (fun j hj => hf.2 j (by omega) (by omega))
theorem ac_fD_fM {mm m : ac_M} {x : Nat} (hf : ac_fD mm m x) : ac_fM mm m x := fun k' hk' => hf.1 k' (by omega) (by omega)
/-- a new task: history and slots are empty -/
theorem ac_RM_new {mm m : ac_M} {x : Nat} {s : List Nat} {T T' : ac_Tk} {hs : List ac_Tk} {s0 s1 : Option ac_Tk} {obs : List ac_Ob} {ch : Int} (h : ac_RM mm x s T hs s0 s1 obs ch) (hP : ac_RP m (x + 3) T') (h4 : m x 4 = (T'.2.1 : Int)) (h10 : m x 10 = 0) (h7 : m (x + 7) 0 = 0 ∧ m (x + 7) 1 = 0) (hf : ∀ k', (k' = x + 1 ∨ (x + 8 ≤ k' ∧ k' ≤ x + 10)) → m k' = mm k') (hx : ∀ j, (j = 2 ∨ j = 13 ∨ j = 17) → m x j = mm x j) : ac_RM m x s T' [] none none obs ch := by
  obtain ⟨⟨a1, a2, a3⟩, -, -, -, ⟨e1, e2, e3⟩, f⟩ := h
  exact ⟨⟨a1, by rw [hx 2 (by decide)]; exact a2, by rw [hf _ (by omega)]; exact a3⟩, ⟨h4, hP⟩, ⟨Nat.zero_le _, h10, fun i T2 hi => by cases hi⟩, ⟨⟨h7.1, h7.2⟩, fun T2 hT => (by cases hT), fun T2 hT => (by cases hT)⟩, ⟨e1, by rw [hx 13 (by decide)]; exact e2, by rw [hf (x + 8) (by omega), hf (x + 9) (by omega), hf (x + 10) (by omega)]; exact e3⟩, by rw [hx 17 (by decide)]; exact f⟩

set_option maxHeartbeats 8000000 in
theorem k_X7_fault {G : ac_G} {Y : ac_Y} {mm : ac_M} {d x : Nat} {s : List Nat} {T : ac_Tk} {hs : List ac_Tk} {s0 s1 : Option ac_Tk} {obs : List ac_Ob} {ch : Int} (hd : 30 ≤ d) (hM : ac_isM Y x) (hR : ac_RM mm x s T hs s0 s1 obs ch)  : ac_C G yX7_fault cX7_fault 1 (some .int) d 0 0 Y mm [(2, (x : Int))] (ac_R Y [(0, (ac_rd s).1)] (fun m => ac_RM m x s T hs s0 s1 obs ch ∧ ac_fM mm m x)) := by
  have hM9 := hM
  obtain ⟨kx, k1, k2, k3, k4, k5, k6, k7, k8, k9, k10, k11, k12, k13, k14, k15, k16⟩ := hM.2
  obtain ⟨-, ⟨hkk, hPg⟩, -⟩ := id hR
  obtain ⟨⟨⟨hn1, hn2⟩, ⟨hk2, hk3⟩, hE, hp0, hpr, hc0⟩, -⟩ := id hPg
  have hE4 := hE.1
  have hLn := ac_Lt_len T hn2
  refine ac_met (on := (RX7, "fault")) rfl rfl (Nat.le_of_ble_eq_true rfl) (ls := [(2, (x : Int))]) rfl ?_
  refine ac_aload_n (q := 1) dX7_fault_0 rfl rfl ?_
  refine ac_iconst (q := 2) dX7_fault_1 rfl ?_
  refine ac_put (q := 5) dX7_fault_2 fl_X7_67 (by assumption) rfl rfl ?_
  have A0 := ac_up0_RM hR
  have F0 : ac_fM mm (ac_up mm x 0 0) x := ac_up0_fM
  generalize ac_up mm x 0 0 = m0 at *
  obtain ⟨q4, qP⟩ := A0.2.1
  obtain ⟨-, p0, p1, pE, pp, p28, pcb, pcl⟩ := id qP
  refine ac_aload_n (q := 6) dX7_fault_5 rfl rfl ?_
  refine ac_cv (q := 9) (k_X7_readTask (s := s) (d := d - 1) (by omega) hM9 A0.1) ml_X7_108 (by assumption) dX7_fault_6 rfl rfl rfl (by omega) (Nat.le_of_ble_eq_true rfl) (Nat.zero_le _) (Nat.zero_le _) (fun m1 h1 => ?_)
  obtain ⟨D1, R1, f1⟩ := h1
  have A1 := ac_RM_D A0 f1
  have F1 := ac_fM_t F0 (ac_fD_fM f1)
  refine ac_ireturn dX7_fault_9 rfl (Nat.zero_le _) (Nat.zero_le _) ?_
  exact ⟨rfl, rfl, A1, F1⟩

set_option maxHeartbeats 8000000 in
theorem k_X7_task {G : ac_G} {Y : ac_Y} {mm : ac_M} {d x : Nat} {s : List Nat} {T : ac_Tk} {hs : List ac_Tk} {s0 s1 : Option ac_Tk} {obs : List ac_Ob} {ch : Int} (hd : 30 ≤ d) (hM : ac_isM Y x) (hR : ac_RM mm x s T hs s0 s1 obs ch)  : ac_C G yX7_task cX7_task 2 (some .int) d 0 0 Y mm [(2, (x : Int))] (ac_R Y [(0, (if (ac_rd s).1 = -9 then ((ac_Lt (ac_rd s).2).length : Int) else -3))] (fun m => ac_RM m x s (if (ac_rd s).1 = -9 then ac_stl (ac_rd s).2 else T) (if (ac_rd s).1 = -9 then [] else hs) (if (ac_rd s).1 = -9 then none else s0) (if (ac_rd s).1 = -9 then none else s1) obs ch ∧ ac_fM mm m x)) := by
  have hM9 := hM
  obtain ⟨kx, k1, k2, k3, k4, k5, k6, k7, k8, k9, k10, k11, k12, k13, k14, k15, k16⟩ := hM.2
  obtain ⟨-, ⟨hkk, hPg⟩, -⟩ := id hR
  obtain ⟨⟨⟨hn1, hn2⟩, ⟨hk2, hk3⟩, hE, hp0, hpr, hc0⟩, -⟩ := id hPg
  have hE4 := hE.1
  have hLn := ac_Lt_len T hn2
  have half : ∀ (m1 : ac_M), ac_RM m1 x s T hs s0 s1 obs ch → ac_fM mm m1 x → (ac_rd s).1 = -9 → ac_RP m1 (x + 2) (ac_rd s).2 → (ac_rd s).2.2.2.2.2 = none → m1 x 5 = ((ac_rd s).2.2.1 : Int) → ac_V G (RX7, "task") cX7_task 2 (some .int) d 0 0 (ac_R Y [(0, (if (ac_rd s).1 = -9 then ((ac_Lt (ac_rd s).2).length : Int) else -3))] (fun m => ac_RM m x s (if (ac_rd s).1 = -9 then ac_stl (ac_rd s).2 else T) (if (ac_rd s).1 = -9 then [] else hs) (if (ac_rd s).1 = -9 then none else s0) (if (ac_rd s).1 = -9 then none else s1) obs ch ∧ ac_fM mm m x)) 0 0 Y m1 17 [(2, (x : Int)), (3, 0)] [] := by
    intro m1 A1 F1 h9 rP2 hnone h5
    have e4 : ∀ k', k' ≠ x → ac_up m1 x 4 ((ac_rd s).2.2.1 : Int) k' = m1 k' := fun k' h => by funext j; exact ac_up_k h
    have e4x : ∀ j, j ≠ 4 → ac_up m1 x 4 ((ac_rd s).2.2.1 : Int) x j = m1 x j := fun j h => ac_up_j h
    have e44 : ac_up m1 x 4 ((ac_rd s).2.2.1 : Int) x 4 = ((ac_rd s).2.2.1 : Int) := ac_up_s
    have copy : ∀ (m2 : ac_M), (∀ k', k' ≠ x → m2 k' = m1 k') → (∀ j, j ≠ 4 → m2 x j = m1 x j) → m2 x 4 = ((ac_rd s).2.2.1 : Int) → ac_V G (RX7, "task") cX7_task 2 (some .int) d 0 0 (ac_R Y [(0, (if (ac_rd s).1 = -9 then ((ac_Lt (ac_rd s).2).length : Int) else -3))] (fun m => ac_RM m x s (if (ac_rd s).1 = -9 then ac_stl (ac_rd s).2 else T) (if (ac_rd s).1 = -9 then [] else hs) (if (ac_rd s).1 = -9 then none else s0) (if (ac_rd s).1 = -9 then none else s1) obs ch ∧ ac_fM mm m x)) 0 0 Y m2 25 [(2, (x : Int)), (3, 0)] [] := by
      intro m2 e2 e2x e24
      have loop : (∀ m : ac_M, m = (ac_cpn m2 (x + 2) 0 (x + 3) 0 39) → ac_V G (RX7, "task") cX7_task 2 (some .int) d 0 0 (ac_R Y [(0, (if (ac_rd s).1 = -9 then ((ac_Lt (ac_rd s).2).length : Int) else -3))] (fun m => ac_RM m x s (if (ac_rd s).1 = -9 then ac_stl (ac_rd s).2 else T) (if (ac_rd s).1 = -9 then [] else hs) (if (ac_rd s).1 = -9 then none else s0) (if (ac_rd s).1 = -9 then none else s1) obs ch ∧ ac_fM mm m x)) 0 0 Y m 51 [(2, (x : Int)), (0, (39 : Int))] []) → ∀ (f i : Nat), i + f = 39 → ac_V G (RX7, "task") cX7_task 2 (some .int) d 0 0 (ac_R Y [(0, (if (ac_rd s).1 = -9 then ((ac_Lt (ac_rd s).2).length : Int) else -3))] (fun m => ac_RM m x s (if (ac_rd s).1 = -9 then ac_stl (ac_rd s).2 else T) (if (ac_rd s).1 = -9 then [] else hs) (if (ac_rd s).1 = -9 then none else s0) (if (ac_rd s).1 = -9 then none else s1) obs ch ∧ ac_fM mm m x)) 0 0 Y (ac_cpn m2 (x + 2) 0 (x + 3) 0 i) 27 [(2, (x : Int)), (0, (i : Int))] [] := by
        intro hK f
        induction f with
        | zero =>
          intro i hi
          refine ac_iload_n (q := 28) dX7_task_27 rfl rfl ?_
          refine ac_bipush (q := 30) dX7_task_28 rfl (by decide) ?_
          refine ac_icmp_ge (q := 33) (tgt := 51) dX7_task_30 rfl rfl ⟨by omega, by omega⟩ ⟨by omega, by omega⟩ (fun h30 => ?_) (fun h30 => ?_)
          · obtain rfl : i = 39 := by omega
            exact hK _ rfl
          · exfalso; omega
        | succ f ih =>
          intro i hi
          have ei : ((i : Nat) : Int) + 1 = ((i + 1 : Nat) : Int) := rfl
          refine ac_iload_n (q := 28) dX7_task_27 rfl rfl ?_
          refine ac_bipush (q := 30) dX7_task_28 rfl (by decide) ?_
          refine ac_icmp_ge (q := 33) (tgt := 51) dX7_task_30 rfl rfl ⟨by omega, by omega⟩ ⟨by omega, by omega⟩ (fun h30 => ?_) (fun h30 => ?_)
          · exfalso; omega
          · refine ac_aload_n (q := 34) dX7_task_33 rfl rfl ?_
            refine ac_get (q := 37) dX7_task_34 fl_X7_20 (by assumption) rfl (ac_rdr rfl hM9.1.2.2.1) ?_
            refine ac_iload_n (q := 38) dX7_task_37 rfl rfl ?_
            refine ac_top (w' := (0, ((0 + i : Nat) : Int))) (congrArg (fun z : Int => ((0 : Nat), z)) (by omega)) ?_
            refine ac_aload_n (q := 39) dX7_task_38 rfl rfl ?_
            refine ac_get (q := 42) dX7_task_39 fl_X7_17 (by assumption) rfl (ac_rdr rfl hM9.1.2.1) ?_
            refine ac_iload_n (q := 43) dX7_task_42 rfl rfl ?_
            refine ac_top (w' := (0, ((0 + i : Nat) : Int))) (congrArg (fun z : Int => ((0 : Nat), z)) (by omega)) ?_
            refine ac_ialoadN (q := 44) (j := 0 + i) (v := m2 (x + 2) (0 + i)) dX7_task_43 k2 (by decide) (by omega) rfl (ac_cpn_rd (Or.inl (by omega))) ?_
            refine ac_iastoreN (q := 45) (j := 0 + i) dX7_task_44 k3 (by decide) (by omega) rfl ?_
            rw [ac_cpn_s]
            refine ac_iinc (q := 48) dX7_task_45 rfl (Nat.le_of_ble_eq_true rfl) rfl rfl rfl rfl ?_
            simp only [List.set_cons_succ, List.set_cons_zero]
            refine ac_goto (q := 27) dX7_task_48 rfl ?_
            exact ac_ls (by rw [ei]) (ih (i + 1) (by omega))
      refine ac_iconst (q := 26) dX7_task_25 rfl ?_
      refine ac_istore_n (q := 27) (j := 1) rfl dX7_task_26 rfl (Nat.le_of_ble_eq_true rfl) rfl rfl ?_
      simp only [List.set_cons_succ, List.set_cons_zero]
      refine ac_mem (ac_cpn_0 (ra := x + 2) (oa := 0) (rb := x + 3) (ob := 0)).symm ?_
      refine loop (fun m3 hm => ?_) 39 0 rfl
      have hP3 : ac_RP m3 (x + 3) (ac_rd s).2 := by
        have := ac_RP_cp (ra := x + 2) (oa := 0) (rb := x + 3) (ob := 0) (mm := m2) (T := (ac_rd s).2) (by rw [ac_sh0]; exact ac_RP_keep rP2 (e2 _ (by omega)))
        rw [ac_sh0, ← hm] at this; exact this
      have f3 : ∀ k', k' ≠ x + 3 → m3 k' = m2 k' := fun k' h => by rw [hm]; exact ac_cpn_k h
      refine ac_aload_n (q := 52) dX7_task_51 rfl rfl ?_
      refine ac_aload_n (q := 53) dX7_task_52 rfl rfl ?_
      refine ac_get (q := 56) dX7_task_53 fl_X7_20 (by assumption) rfl (ac_rdr rfl hM9.1.2.2.1) ?_
      refine ac_cv (q := 59) (k_X7_settleOn (r := x + 3) (T := (ac_rd s).2) (d := d - 1) (by omega) hM9 (Or.inl rfl) hP3 (by rw [f3 x (by omega)]; exact e24)) ml_X7_111 (by assumption) dX7_task_56 rfl rfl rfl (by omega) (Nat.le_of_ble_eq_true rfl) (Nat.zero_le _) (Nat.zero_le _) (fun m4 h4 => ?_)
      obtain ⟨g4, e5⟩ := h4
      refine ac_aload_n (q := 60) dX7_task_59 rfl rfl ?_
      refine ac_iconst (q := 61) dX7_task_60 rfl ?_
      refine ac_put (q := 64) dX7_task_61 fl_X7_115 (by assumption) rfl rfl ?_
      refine ac_aload_n (q := 65) dX7_task_64 rfl rfl ?_
      refine ac_get (q := 68) dX7_task_65 fl_X7_32 (by assumption) rfl (ac_rdr rfl hM9.1.2.2.2.2.2.2.1) ?_
      refine ac_iconst (q := 69) dX7_task_68 rfl ?_
      refine ac_iconst (q := 70) dX7_task_69 rfl ?_
      refine ac_bastoreN (q := 71) (j := 0) dX7_task_70 (by assumption) (by decide) (by decide) (by first | exact ac_b01 | omega) rfl ?_
      refine ac_aload_n (q := 72) dX7_task_71 rfl rfl ?_
      refine ac_get (q := 75) dX7_task_72 fl_X7_32 (by assumption) rfl (ac_rdr rfl hM9.1.2.2.2.2.2.2.1) ?_
      refine ac_iconst (q := 76) dX7_task_75 rfl ?_
      refine ac_iconst (q := 77) dX7_task_76 rfl ?_
      refine ac_bastoreN (q := 78) (j := 1) dX7_task_77 (by assumption) (by decide) (by decide) (by first | exact ac_b01 | omega) rfl ?_
      have f5 : ∀ k', k' ≠ x → k' ≠ x + 7 → (ac_up (ac_up (ac_up m4 x 10 0) (x + 7) 0 0) (x + 7) 1 0) k' = m4 k' := fun k' h1 h2 => by funext j; rw [ac_up_k h2, ac_up_k h2, ac_up_k h1]
      have f5x : ∀ j, j ≠ 10 → (ac_up (ac_up (ac_up m4 x 10 0) (x + 7) 0 0) (x + 7) 1 0) x j = m4 x j := fun j h => by rw [ac_up_k (by omega), ac_up_k (by omega), ac_up_j h]
      have h10 : (ac_up (ac_up (ac_up m4 x 10 0) (x + 7) 0 0) (x + 7) 1 0) x 10 = 0 := by rw [ac_up_k (by omega), ac_up_k (by omega), ac_up_s]
      have h70 : (ac_up (ac_up (ac_up m4 x 10 0) (x + 7) 0 0) (x + 7) 1 0) (x + 7) 0 = 0 := by rw [ac_up_j (by decide), ac_up_s]
      have h71 : (ac_up (ac_up (ac_up m4 x 10 0) (x + 7) 0 0) (x + 7) 1 0) (x + 7) 1 = 0 := ac_up_s
      generalize (ac_up (ac_up (ac_up m4 x 10 0) (x + 7) 0 0) (x + 7) 1 0) = m5 at *
      have A5 : ac_RM m5 x s (ac_stl (ac_rd s).2) [] none none obs ch := ac_RM_new A1 (ac_RP_keep g4 (f5 _ (by omega) (by omega))) (by rw [f5x 4 (by decide), e5.2 4 (by decide), f3 x (by omega), e24, ac_stl_same.2.1]) h10 ⟨h70, h71⟩ (fun k' hk' => by rw [f5 k' (by omega) (by omega), e5.1 k' (by omega) (by omega) (by omega), f3 k' (by omega), e2 k' (by omega)]) (fun j hj => by rw [f5x j (by omega), e5.2 j (by omega), f3 x (by omega), e2x j (by omega)])
      have F5 : ac_fM mm m5 x := ac_fM_t F1 (fun k' hk' => by rw [f5 k' (by omega) (by omega), e5.1 k' (by omega) (by omega) (by omega), f3 k' (by omega), e2 k' (by omega)])
      have hLs : ac_Lt (ac_stl (ac_rd s).2) = ac_Lt (ac_rd s).2 := ac_stl_same.2.2.2.2
      refine ac_aload_n (q := 79) dX7_task_78 rfl rfl ?_
      refine ac_aload_n (q := 80) dX7_task_79 rfl rfl ?_
      refine ac_get (q := 83) dX7_task_80 fl_X7_20 (by assumption) rfl (ac_rdr rfl hM9.1.2.2.1) ?_
      refine ac_cv (q := 86) (k_X7_manyOf (r := x + 3) (T := ac_stl (ac_rd s).2) (d := d - 1) (by omega) hM9 (Or.inl rfl) A5.2.1.2 A5.2.1.1) ml_X7_118 (by assumption) dX7_task_83 rfl rfl rfl (by omega) (Nat.le_of_ble_eq_true rfl) (Nat.zero_le _) (Nat.zero_le _) (fun m6 h6 => ?_)
      have A6 := ac_RM_fE A5 h6
      have F6 := ac_fM_t F5 (ac_fE_fM h6)
      refine ac_ireturn dX7_task_86 rfl (Nat.zero_le _) (Nat.zero_le _) ?_
      rw [if_pos h9, if_pos h9, if_pos h9, if_pos h9, if_pos h9, ← hLs]; exact ⟨rfl, rfl, A6, F6⟩
    refine ac_aload_n (q := 18) dX7_task_17 rfl rfl ?_
    refine ac_aload_n (q := 19) dX7_task_18 rfl rfl ?_
    refine ac_get (q := 22) dX7_task_19 fl_X7_98 kx rfl (ac_rdi rfl h5) ?_
    refine ac_put (q := 25) dX7_task_22 fl_X7_13 (by assumption) rfl rfl ?_
    exact copy _ e4 e4x e44
  refine ac_met (on := (RX7, "task")) rfl rfl (Nat.le_of_ble_eq_true rfl) (ls := [(2, (x : Int)), (3, 0)]) rfl ?_
  refine ac_aload_n (q := 1) dX7_task_0 rfl rfl ?_
  refine ac_iconst (q := 2) dX7_task_1 rfl ?_
  refine ac_put (q := 5) dX7_task_2 fl_X7_67 (by assumption) rfl rfl ?_
  have A0 := ac_up0_RM hR
  have F0 : ac_fM mm (ac_up mm x 0 0) x := ac_up0_fM
  generalize ac_up mm x 0 0 = m0 at *
  obtain ⟨q4, qP⟩ := A0.2.1
  obtain ⟨-, p0, p1, pE, pp, p28, pcb, pcl⟩ := id qP
  have hrdi := ac_rd_in s A0.1.1.1
  refine ac_aload_n (q := 6) dX7_task_5 rfl rfl ?_
  refine ac_cv (q := 9) (k_X7_readTask (s := s) (d := d - 1) (by omega) hM9 A0.1) ml_X7_108 (by assumption) dX7_task_6 rfl rfl rfl (by omega) (Nat.le_of_ble_eq_true rfl) (Nat.zero_le _) (Nat.zero_le _) (fun m1 h1 => ?_)
  obtain ⟨D1, R1, f1⟩ := h1
  have A1 := ac_RM_D A0 f1
  have F1 := ac_fM_t F0 (ac_fD_fM f1)
  refine ac_bipush (q := 11) dX7_task_9 rfl (by decide) ?_
  refine ac_icmp_eq (q := 14) (tgt := 17) dX7_task_11 rfl rfl ⟨by omega, by omega⟩ ⟨by omega, by omega⟩ (fun h11 => ?_) (fun h11 => ?_)
  · exact half m1 A1 F1 (by omega) (R1 (by omega)).1 (R1 (by omega)).2.1 (R1 (by omega)).2.2
  · refine ac_bipush (q := 16) dX7_task_14 rfl (by decide) ?_
    refine ac_ireturn dX7_task_16 rfl (Nat.zero_le _) (Nat.zero_le _) ?_
    rw [if_neg (by omega), if_neg (by omega), if_neg (by omega), if_neg (by omega), if_neg (by omega)]; exact ⟨rfl, rfl, A1, F1⟩
