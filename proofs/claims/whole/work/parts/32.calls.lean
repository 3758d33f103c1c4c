set_option maxHeartbeats 8000000 in
theorem k_X6_write {G : ac_G} {Y : ac_Y} {mm : ac_M} {d x : Nat} {s : List Nat} {T : ac_Tk} {hs : List ac_Tk} {s0 s1 : Option ac_Tk} {obs : List ac_Ob} {ch : Int} {v : Int} (hd : 30 ≤ d) (hA : ac_isA Y x) (hR : ac_RA mm x s T hs s0 s1 obs ch) (hv : ac_in v) : ac_C G yX6_write cX6_write 2 (some .int) d 0 0 Y mm [(2, (x : Int)), (0, v)] (ac_R Y [(0, if ¬ (0 ≤ v ∧ v ≤ 255) then -2 else if s.length < 60 then (s.length : Int) + 1 else -4)] (fun m => ac_RA m x (if 0 ≤ v ∧ v ≤ 255 then (if s.length < 60 then s ++ [v.toNat] else s) else s) T hs s0 s1 obs ch ∧ ac_fA mm m x)) := by
  have hA9 := hA
  obtain ⟨⟨kx, -⟩, hX, ⟨hT0, hT1, hT2, hT3⟩, ⟨ka, -, -, hS0, hS1⟩, hH, hW⟩ := hA
  have ktx := hX.1
  have kn0 := hT0.1
  have kn1 := hT1.1
  have kn2 := hT2.1
  have kn3 := hT3.1
  have kh := hH.1
  obtain ⟨⟨kw, -⟩, ⟨k14, k15, k16, k17⟩, hWS, hWC, hWT⟩ := id hW
  have kws := hWS.1
  have kwc := hWC.1
  have hR9 := hR
  obtain ⟨⟨p, rX⟩, rT, ⟨rs0, rs1⟩, rH, rS, ⟨E0, rC⟩, rc⟩ := hR
  obtain ⟨⟨⟨hn1, hn2⟩, ⟨hkk1, hkk2⟩, ⟨hE4, hE2⟩, hp0, hpr, hc0⟩, t3, t4, t5, t6, tE, tp, tcb, tc⟩ := id rT
  have hLn := ac_Lt_len T hn2
  obtain ⟨hv1, hv2⟩ := hv
  have hs60 := rX.1.1
  refine ac_met (on := (RX6, "write")) rfl rfl (Nat.le_of_ble_eq_true rfl) (ls := [(2, (x : Int)), (0, v)]) rfl ?_
  refine ac_iload_n (q := 1) dX6_write_0 rfl rfl ?_
  refine ac_if_lt (q := 4) (tgt := 11) dX6_write_1 rfl rfl ⟨by omega, by omega⟩ (fun h1 => ?_) (fun h1 => ?_)
  · refine ac_bipush (q := 13) dX6_write_11 rfl (by decide) ?_
    refine ac_ireturn dX6_write_13 rfl (Nat.zero_le _) (Nat.zero_le _) ?_
    rw [if_pos (by omega), if_neg (by omega)]; exact ⟨rfl, rfl, hR9, ac_fA_r mm x⟩
  · refine ac_iload_n (q := 5) dX6_write_4 rfl rfl ?_
    refine ac_sipush (q := 8) dX6_write_5 rfl (by decide) ?_
    refine ac_icmp_le (q := 11) (tgt := 14) dX6_write_8 rfl rfl ⟨by omega, by omega⟩ ⟨by omega, by omega⟩ (fun h8 => ?_) (fun h8 => ?_)
    · refine ac_aload_n (q := 15) dX6_write_14 rfl rfl ?_
      refine ac_get (q := 18) dX6_write_15 fl_X6_10 (by assumption) rfl (ac_rdr rfl hA9.1.2.1) ?_
      refine ac_iload_n (q := 19) dX6_write_18 rfl rfl ?_
      obtain ⟨v, rfl⟩ := Int.eq_ofNat_of_zero_le (a := v) (by omega)
      simp only [Int.toNat_natCast]
      refine ac_cv (q := 22) (k_X4_append (d := d - 1) (by omega) hX rX (by omega)) ml_X6_58 (by assumption) dX6_write_19 rfl rfl rfl (by omega) (Nat.le_of_ble_eq_true rfl) (Nat.zero_le _) (Nat.zero_le _) (fun m1 h1 => ?_)
      obtain ⟨g1, f1⟩ := h1
      have A1 := ac_RA_x hR9 ⟨_, g1⟩ (fun k' a b => f1 k' (by omega))
      have ql := g1.2.1
      refine ac_bif_eq (q := 25) (tgt := 35) dX6_write_22 rfl rfl (fun h22 => ?_) (fun h22 => ?_)
      · refine ac_bipush (q := 37) dX6_write_35 rfl (by decide) ?_
        refine ac_ireturn dX6_write_37 rfl (Nat.zero_le _) (Nat.zero_le _) ?_
        have e1 : ¬ ¬ (0 ≤ (v : Int) ∧ (v : Int) ≤ 255) := by omega
        have e2 : 0 ≤ (v : Int) ∧ (v : Int) ≤ 255 := by omega
        first
          | (simp only [if_pos h22, if_pos e2, if_neg e1] at A1 ⊢; exact ⟨by rw [List.length_append]; rfl, rfl, A1, fun k' a => f1 k' (by omega)⟩)
          | (simp only [if_neg h22, if_pos e2, if_neg e1] at A1 ⊢; exact ⟨rfl, rfl, A1, fun k' a => f1 k' (by omega)⟩)
      · refine ac_aload_n (q := 26) dX6_write_25 rfl rfl ?_
        refine ac_get (q := 29) dX6_write_26 fl_X6_10 (by assumption) rfl (ac_rdr rfl hA9.1.2.1) ?_
        refine ac_get (q := 32) dX6_write_29 fl_X6_62 ktx rfl (ac_rdi rfl ql) ?_
        refine ac_goto (q := 37) dX6_write_32 rfl ?_
        refine ac_ireturn dX6_write_37 rfl (Nat.zero_le _) (Nat.zero_le _) ?_
        have e1 : ¬ ¬ (0 ≤ (v : Int) ∧ (v : Int) ≤ 255) := by omega
        have e2 : 0 ≤ (v : Int) ∧ (v : Int) ≤ 255 := by omega
        first
          | (simp only [if_pos h22, if_pos e2, if_neg e1] at A1 ⊢; exact ⟨by rw [List.length_append]; rfl, rfl, A1, fun k' a => f1 k' (by omega)⟩)
          | (simp only [if_neg h22, if_pos e2, if_neg e1] at A1 ⊢; exact ⟨rfl, rfl, A1, fun k' a => f1 k' (by omega)⟩)
    · refine ac_bipush (q := 13) dX6_write_11 rfl (by decide) ?_
      refine ac_ireturn dX6_write_13 rfl (Nat.zero_le _) (Nat.zero_le _) ?_
      rw [if_pos (by omega), if_neg (by omega)]; exact ⟨rfl, rfl, hR9, ac_fA_r mm x⟩

set_option maxHeartbeats 8000000 in
theorem k_X6_wipe {G : ac_G} {Y : ac_Y} {mm : ac_M} {d x : Nat} {s : List Nat} {T : ac_Tk} {hs : List ac_Tk} {s0 s1 : Option ac_Tk} {obs : List ac_Ob} {ch : Int} (hd : 30 ≤ d) (hA : ac_isA Y x) (hR : ac_RA mm x s T hs s0 s1 obs ch)  : ac_C G yX6_wipe cX6_wipe 2 (some .int) d 0 0 Y mm [(2, (x : Int))] (ac_R Y [(0, (s.length : Int))] (fun m => ac_RA m x [] T hs s0 s1 obs ch ∧ ac_fA mm m x)) := by
  have hA9 := hA
  obtain ⟨⟨kx, -⟩, hX, ⟨hT0, hT1, hT2, hT3⟩, ⟨ka, -, -, hS0, hS1⟩, hH, hW⟩ := hA
  have ktx := hX.1
  have kn0 := hT0.1
  have kn1 := hT1.1
  have kn2 := hT2.1
  have kn3 := hT3.1
  have kh := hH.1
  obtain ⟨⟨kw, -⟩, ⟨k14, k15, k16, k17⟩, hWS, hWC, hWT⟩ := id hW
  have kws := hWS.1
  have kwc := hWC.1
  have hR9 := hR
  obtain ⟨⟨p, rX⟩, rT, ⟨rs0, rs1⟩, rH, rS, ⟨E0, rC⟩, rc⟩ := hR
  obtain ⟨⟨⟨hn1, hn2⟩, ⟨hkk1, hkk2⟩, ⟨hE4, hE2⟩, hp0, hpr, hc0⟩, t3, t4, t5, t6, tE, tp, tcb, tc⟩ := id rT
  have hLn := ac_Lt_len T hn2
  have ql := rX.2.1
  have hs60 := rX.1.1
  refine ac_met (on := (RX6, "wipe")) rfl rfl (Nat.le_of_ble_eq_true rfl) (ls := [(2, (x : Int)), (3, 0)]) rfl ?_
  refine ac_aload_n (q := 1) dX6_wipe_0 rfl rfl ?_
  refine ac_get (q := 4) dX6_wipe_1 fl_X6_10 (by assumption) rfl (ac_rdr rfl hA9.1.2.1) ?_
  refine ac_get (q := 7) dX6_wipe_4 fl_X6_62 ktx rfl (ac_rdi rfl ql) ?_
  refine ac_istore_n (q := 8) (j := 1) rfl dX6_wipe_7 rfl (Nat.le_of_ble_eq_true rfl) rfl rfl ?_
  simp only [List.set_cons_succ, List.set_cons_zero]
  refine ac_aload_n (q := 9) dX6_wipe_8 rfl rfl ?_
  refine ac_get (q := 12) dX6_wipe_9 fl_X6_10 (by assumption) rfl (ac_rdr rfl hA9.1.2.1) ?_
  refine ac_iconst (q := 13) dX6_wipe_12 rfl ?_
  refine ac_put (q := 16) dX6_wipe_13 fl_X6_62 (by assumption) rfl rfl ?_
  refine ac_iload_n (q := 17) dX6_wipe_16 rfl rfl ?_
  refine ac_ireturn dX6_wipe_17 rfl (Nat.zero_le _) (Nat.zero_le _) ?_
  refine ⟨rfl, rfl, ac_RA_x hR9 ⟨p, ⟨by simp, fun v h => by cases h⟩, ac_up_s, by rw [ac_up_j (by decide)]; exact rX.2.2.1, fun i h => by simp at h⟩ (fun k' a b => by funext j; exact ac_up_k (by omega)), fun k' a => by funext j; exact ac_up_k (by omega)⟩

set_option maxHeartbeats 8000000 in
theorem k_X6_fault {G : ac_G} {Y : ac_Y} {mm : ac_M} {d x : Nat} {s : List Nat} {T : ac_Tk} {hs : List ac_Tk} {s0 s1 : Option ac_Tk} {obs : List ac_Ob} {ch : Int} (hd : 30 ≤ d) (hA : ac_isA Y x) (hR : ac_RA mm x s T hs s0 s1 obs ch)  : ac_C G yX6_fault cX6_fault 1 (some .int) d 0 0 Y mm [(2, (x : Int))] (ac_R Y [(0, (ac_rd s).1)] (fun m => ac_RA m x s T hs s0 s1 obs ch ∧ ac_fA mm m x)) := by
  have hA9 := hA
  obtain ⟨⟨kx, -⟩, hX, ⟨hT0, hT1, hT2, hT3⟩, ⟨ka, -, -, hS0, hS1⟩, hH, hW⟩ := hA
  have ktx := hX.1
  have kn0 := hT0.1
  have kn1 := hT1.1
  have kn2 := hT2.1
  have kn3 := hT3.1
  have kh := hH.1
  obtain ⟨⟨kw, -⟩, ⟨k14, k15, k16, k17⟩, hWS, hWC, hWT⟩ := id hW
  have kws := hWS.1
  have kwc := hWC.1
  have hR9 := hR
  obtain ⟨⟨p, rX⟩, rT, ⟨rs0, rs1⟩, rH, rS, ⟨E0, rC⟩, rc⟩ := hR
  obtain ⟨⟨⟨hn1, hn2⟩, ⟨hkk1, hkk2⟩, ⟨hE4, hE2⟩, hp0, hpr, hc0⟩, t3, t4, t5, t6, tE, tp, tcb, tc⟩ := id rT
  have hLn := ac_Lt_len T hn2
  refine ac_met (on := (RX6, "fault")) rfl rfl (Nat.le_of_ble_eq_true rfl) (ls := [(2, (x : Int))]) rfl ?_
  refine ac_aload_n (q := 1) dX6_fault_0 rfl rfl ?_
  refine ac_get (q := 4) dX6_fault_1 fl_X6_10 (by assumption) rfl (ac_rdr rfl hA9.1.2.1) ?_
  refine ac_aload_n (q := 5) dX6_fault_4 rfl rfl ?_
  refine ac_get (q := 8) dX6_fault_5 fl_X6_23 (by assumption) rfl (ac_rdr rfl hA9.1.2.2.2.1) ?_
  refine ac_cv (q := 11) (k_X4_read (t := x + 1) (u := x + 7) (d := d - 1) (by omega) hX rX hT1 (by omega)) ml_X6_66 (by assumption) dX6_fault_8 rfl rfl rfl (by omega) (Nat.le_of_ble_eq_true rfl) (Nat.zero_le _) (Nat.zero_le _) (fun m1 h1 => ?_)
  obtain ⟨g1, g2, f1⟩ := h1
  have A1 := ac_RA_x hR9 g1 (fun k' a b => f1 k' (by omega) (by omega))
  refine ac_ireturn dX6_fault_11 rfl (Nat.zero_le _) (Nat.zero_le _) ?_
  exact ⟨rfl, rfl, A1, fun k' a => f1 k' (by omega) (by omega)⟩

theorem ac_rdL_in (s : List Nat) (hs : s.length ≤ 60) : ∀ (f p : Nat) (T : ac_Tk), -9 ≤ (ac_rdL s f p T).1 ∧ (ac_rdL s f p T).1 ≤ 100
  | 0, p, T => by rw [ac_rdL]; exact ⟨show (-9 : Int) ≤ -9 by decide, show (-9 : Int) ≤ 100 by decide⟩
  | f + 1, p, T => by
    rw [ac_rdL]
    split
    · have h := ac_prt_le s p T
      split
      · rename_i q hq; rw [hq] at h; simp only at h ⊢; omega
      · rename_i q T' hq; exact ac_rdL_in s hs f q T'
    · exact ⟨show (-9 : Int) ≤ -9 by decide, show (-9 : Int) ≤ 100 by decide⟩
theorem ac_rd_in (s : List Nat) (hs : s.length ≤ 60) : -9 ≤ (ac_rd s).1 ∧ (ac_rd s).1 ≤ 100 := by
  have h := ac_hdp_le s
  unfold ac_rd
  split
  · rename_i q hq; rw [hq] at h; simp only at h ⊢; omega
  · exact ac_rdL_in s hs _ _ _

set_option maxHeartbeats 8000000 in
theorem k_X6_task {G : ac_G} {Y : ac_Y} {mm : ac_M} {d x : Nat} {s : List Nat} {T : ac_Tk} {hs : List ac_Tk} {s0 s1 : Option ac_Tk} {obs : List ac_Ob} {ch : Int} (hd : 30 ≤ d) (hA : ac_isA Y x) (hR : ac_RA mm x s T hs s0 s1 obs ch)  : ac_C G yX6_task cX6_task 2 (some .int) d 0 0 Y mm [(2, (x : Int))] (ac_R Y [(0, (if (ac_rd s).1 = -9 then ((ac_Lt (ac_rd s).2).length : Int) else -3))] (fun m => ac_RA m x s (if (ac_rd s).1 = -9 then ac_stl (ac_rd s).2 else T) (if (ac_rd s).1 = -9 then [] else hs) (if (ac_rd s).1 = -9 then none else s0) (if (ac_rd s).1 = -9 then none else s1) obs ch ∧ ac_fA mm m x)) := by
  have hA9 := hA
  obtain ⟨⟨kx, -⟩, hX, ⟨hT0, hT1, hT2, hT3⟩, ⟨ka, -, -, hS0, hS1⟩, hH, hW⟩ := hA
  have ktx := hX.1
  have kn0 := hT0.1
  have kn1 := hT1.1
  have kn2 := hT2.1
  have kn3 := hT3.1
  have kh := hH.1
  obtain ⟨⟨kw, -⟩, ⟨k14, k15, k16, k17⟩, hWS, hWC, hWT⟩ := id hW
  have kws := hWS.1
  have kwc := hWC.1
  have hR9 := hR
  obtain ⟨⟨p, rX⟩, rT, ⟨rs0, rs1⟩, rH, rS, ⟨E0, rC⟩, rc⟩ := hR
  obtain ⟨⟨⟨hn1, hn2⟩, ⟨hkk1, hkk2⟩, ⟨hE4, hE2⟩, hp0, hpr, hc0⟩, t3, t4, t5, t6, tE, tp, tcb, tc⟩ := id rT
  have hLn := ac_Lt_len T hn2
  have hrdi := ac_rd_in s rX.1.1
  refine ac_met (on := (RX6, "task")) rfl rfl (Nat.le_of_ble_eq_true rfl) (ls := [(2, (x : Int)), (3, 0)]) rfl ?_
  refine ac_aload_n (q := 1) dX6_task_0 rfl rfl ?_
  refine ac_get (q := 4) dX6_task_1 fl_X6_10 (by assumption) rfl (ac_rdr rfl hA9.1.2.1) ?_
  refine ac_aload_n (q := 5) dX6_task_4 rfl rfl ?_
  refine ac_get (q := 8) dX6_task_5 fl_X6_23 (by assumption) rfl (ac_rdr rfl hA9.1.2.2.2.1) ?_
  refine ac_cv (q := 11) (k_X4_read (t := x + 1) (u := x + 7) (d := d - 1) (by omega) hX rX hT1 (by omega)) ml_X6_66 (by assumption) dX6_task_8 rfl rfl rfl (by omega) (Nat.le_of_ble_eq_true rfl) (Nat.zero_le _) (Nat.zero_le _) (fun m1 h1 => ?_)
  obtain ⟨g1, g2, f1⟩ := h1
  have A1 := ac_RA_x hR9 g1 (fun k' a b => f1 k' (by omega) (by omega))
  refine ac_bipush (q := 13) dX6_task_11 rfl (by decide) ?_
  refine ac_icmp_eq (q := 16) (tgt := 19) dX6_task_13 rfl rfl ⟨by omega, by omega⟩ ⟨by omega, by omega⟩ (fun h13 => ?_) (fun h13 => ?_)
  · refine ac_aload_n (q := 20) dX6_task_19 rfl rfl ?_
    refine ac_get (q := 23) dX6_task_20 fl_X6_19 (by assumption) rfl (ac_rdr rfl hA9.1.2.2.1) ?_
    refine ac_aload_n (q := 24) dX6_task_23 rfl rfl ?_
    refine ac_get (q := 27) dX6_task_24 fl_X6_23 (by assumption) rfl (ac_rdr rfl hA9.1.2.2.2.1) ?_
    refine ac_cv (q := 30) (k_X3_copy (t := x + 3) (o := x + 7) (d := d - 1) (by omega) hT0 hT1 (by omega) (g2 h13)) ml_X6_69 (by assumption) dX6_task_27 rfl rfl rfl (by omega) (Nat.le_of_ble_eq_true rfl) (Nat.zero_le _) (Nat.zero_le _) (fun m2 h2 => ?_)
    obtain ⟨g3, f2⟩ := h2
    have A2 := ac_RA_t A1 g3 f2
    refine ac_aload_n (q := 31) dX6_task_30 rfl rfl ?_
    refine ac_get (q := 34) dX6_task_31 fl_X6_39 (by assumption) rfl (ac_rdr rfl hA9.1.2.2.2.2.2.2.2.1) ?_
    refine ac_cv (q := 37) (k_X1_forget (h := x + 28) (d := d - 1) (by omega) hH A2.2.2.2.1) ml_X6_73 (by assumption) dX6_task_34 rfl rfl rfl (by omega) (Nat.le_of_ble_eq_true rfl) (Nat.zero_le _) (Nat.zero_le _) (fun m3 h3 => ?_)
    obtain ⟨g4, f3⟩ := h3
    have A3 := ac_RA_h A2 g4 (fun k' a => f3 k' (by omega))
    refine ac_iconst (q := 38) dX6_task_37 rfl ?_
    refine ac_istore_n (q := 39) (j := 1) rfl dX6_task_38 rfl (Nat.le_of_ble_eq_true rfl) rfl rfl ?_
    simp only [List.set_cons_succ, List.set_cons_zero]
    refine ac_iload_n (q := 40) dX6_task_39 rfl rfl ?_
    refine ac_aload_n (q := 41) dX6_task_40 rfl rfl ?_
    refine ac_get (q := 44) dX6_task_41 fl_X6_32 (by assumption) rfl (ac_rdr rfl hA9.1.2.2.2.2.2.2.1) ?_
    refine ac_alen (q := 45) dX6_task_44 ka (by decide) rfl ?_
    refine ac_top (w' := (0, 2)) rfl ?_
    refine ac_icmp_ge (q := 48) (tgt := 62) dX6_task_45 rfl rfl ⟨by omega, by omega⟩ ⟨by omega, by omega⟩ (fun h45 => ?_) (fun h45 => ?_)
    · exact absurd h45 (by decide)
    · refine ac_aload_n (q := 49) dX6_task_48 rfl rfl ?_
      refine ac_iload_n (q := 50) dX6_task_49 rfl rfl ?_
      refine ac_cvp (q := 53) (k_X6_slotAt (d := d - 1) (i := 0) (by omega) hA9 ⟨by decide, by decide⟩) ml_X6_76 (by assumption) dX6_task_50 rfl rfl rfl (by omega) (Nat.le_of_ble_eq_true rfl) (Nat.zero_le _) (Nat.zero_le _) ?_
      refine ac_top (w' := (2, ((x + 20 : Nat) : Int))) rfl ?_
      refine ac_cs (q := 56) (k_X6_empty (u := x + 20) (d := d - 1) (by omega) hS0 (by omega)) ml_X6_80 dX6_task_53 rfl rfl rfl (by omega) (Nat.le_of_ble_eq_true rfl) (Nat.zero_le _) (Nat.zero_le _) (fun m4 h4 => ?_)
      refine ac_iinc (q := 59) (v := 1) dX6_task_56 rfl (Nat.le_of_ble_eq_true rfl) rfl rfl rfl rfl ?_
      simp only [List.set_cons_succ, List.set_cons_zero]
      refine ac_goto (q := 39) dX6_task_59 rfl ?_
      refine ac_iload_n (q := 40) dX6_task_39 rfl rfl ?_
      refine ac_aload_n (q := 41) dX6_task_40 rfl rfl ?_
      refine ac_get (q := 44) dX6_task_41 fl_X6_32 (by assumption) rfl (ac_rdr rfl hA9.1.2.2.2.2.2.2.1) ?_
      refine ac_alen (q := 45) dX6_task_44 ka (by decide) rfl ?_
      refine ac_top (w' := (0, 2)) rfl ?_
      refine ac_icmp_ge (q := 48) (tgt := 62) dX6_task_45 rfl rfl ⟨by omega, by omega⟩ ⟨by omega, by omega⟩ (fun h45 => ?_) (fun h45 => ?_)
      · exact absurd h45 (by decide)
      · refine ac_aload_n (q := 49) dX6_task_48 rfl rfl ?_
        refine ac_iload_n (q := 50) dX6_task_49 rfl rfl ?_
        refine ac_cvp (q := 53) (k_X6_slotAt (d := d - 1) (i := 1) (by omega) hA9 ⟨by decide, by decide⟩) ml_X6_76 (by assumption) dX6_task_50 rfl rfl rfl (by omega) (Nat.le_of_ble_eq_true rfl) (Nat.zero_le _) (Nat.zero_le _) ?_
        refine ac_top (w' := (2, ((x + 24 : Nat) : Int))) rfl ?_
        refine ac_cs (q := 56) (k_X6_empty (u := x + 24) (d := d - 1) (by omega) hS1 (by omega)) ml_X6_80 dX6_task_53 rfl rfl rfl (by omega) (Nat.le_of_ble_eq_true rfl) (Nat.zero_le _) (Nat.zero_le _) (fun m5 h5 => ?_)
        refine ac_iinc (q := 59) (v := 2) dX6_task_56 rfl (Nat.le_of_ble_eq_true rfl) rfl rfl rfl rfl ?_
        simp only [List.set_cons_succ, List.set_cons_zero]
        refine ac_goto (q := 39) dX6_task_59 rfl ?_
        refine ac_iload_n (q := 40) dX6_task_39 rfl rfl ?_
        refine ac_aload_n (q := 41) dX6_task_40 rfl rfl ?_
        refine ac_get (q := 44) dX6_task_41 fl_X6_32 (by assumption) rfl (ac_rdr rfl hA9.1.2.2.2.2.2.2.1) ?_
        refine ac_alen (q := 45) dX6_task_44 ka (by decide) rfl ?_
        refine ac_top (w' := (0, 2)) rfl ?_
        refine ac_icmp_ge (q := 48) (tgt := 62) dX6_task_45 rfl rfl ⟨by omega, by omega⟩ ⟨by omega, by omega⟩ (fun h45 => ?_) (fun h45 => ?_)
        · have f5 : ∀ k', (k' ≠ x + 20 ∧ k' ≠ x + 24) → m5 k' = m3 k' := fun k' a => by rw [h5, h4]; funext j; rw [ac_up_k (by omega), ac_up_k (by omega)]
          have A5 := ac_RA_s (s0' := none) (s1' := none) A3 ⟨fun _ => by rw [h5, h4, ac_up_k (by omega)]; exact ac_up_s, fun T h => (by cases h)⟩ ⟨fun _ => by rw [h5]; exact ac_up_s, fun T h => (by cases h)⟩ (fun k' a => f5 k' (by omega))
          obtain ⟨E5, rC5⟩ := A5.2.2.2.2.2.1
          have hfr : ∀ k', (k' < x ∨ x + 103 < k') → m5 k' = mm k' := fun k' a => by rw [f5 k' (by omega), f3 k' (by omega), f2 k' (by omega), f1 k' (by omega) (by omega)]
          refine ac_aload_n (q := 63) dX6_task_62 rfl rfl ?_
          refine ac_aload_n (q := 64) dX6_task_63 rfl rfl ?_
          refine ac_get (q := 67) dX6_task_64 fl_X6_19 (by assumption) rfl (ac_rdr rfl hA9.1.2.2.1) ?_
          refine ac_cv (q := 70) (k_X6_settle (u := x + 3) (T := (ac_rd s).2) (d := d - 1) (by omega) hA9 (Or.inl rfl) A5.2.1 A5.2.2.2.2.1 rC5) ml_X6_54 (by assumption) dX6_task_67 rfl rfl rfl (by omega) (Nat.le_of_ble_eq_true rfl) (Nat.zero_le _) (Nat.zero_le _) (fun m6 h6 => ?_)
          obtain ⟨g6, g7, g8, f6⟩ := h6
          have A6 := ac_RA_re A5 g6 g7 g8 (fun k' a => f6 k' (by omega) (by omega))
          refine ac_ireturn dX6_task_70 rfl (Nat.zero_le _) (Nat.zero_le _) ?_
          rw [if_pos (by omega), if_pos (by omega), if_pos (by omega), if_pos (by omega), if_pos (by omega)]; exact ⟨rfl, rfl, A6, fun k' a => (f6 k' (by omega) (by omega)).trans (hfr k' a)⟩
        · exact absurd h45 (by decide)
  · refine ac_bipush (q := 18) dX6_task_16 rfl (by decide) ?_
    refine ac_ireturn dX6_task_18 rfl (Nat.zero_le _) (Nat.zero_le _) ?_
    rw [if_neg (by omega), if_neg (by omega), if_neg (by omega), if_neg (by omega), if_neg (by omega)]; exact ⟨rfl, rfl, A1, fun k' a => f1 k' (by omega) (by omega)⟩

theorem ac_ry_len (q : ac_Eq) (n x : Nat) : ∀ f, (ac_ry q n x f).length ≤ f
  | 0 => Nat.le_refl _
  | f + 1 => by
    have := ac_ry_len q n x f
    rw [ac_ry, List.length_append]
    split
    · rw [List.length_singleton]; omega
    · rw [List.length_nil]; omega
theorem ac_rx_len (q : ac_Eq) (n : Nat) : ∀ f, (ac_rx q n f).length ≤ f * n
  | 0 => Nat.zero_le _
  | f + 1 => by
    have h1 := ac_rx_len q n f
    have h2 := ac_ry_len q n (n - f) n
    rw [ac_rx, List.length_append, Nat.succ_mul]; omega
theorem ac_sols_len (q : ac_Eq) (n : Nat) (h : n ≤ 10) : (ac_sols q n).length ≤ 100 :=
  Nat.le_trans (ac_rx_len q n n) (Nat.mul_le_mul h h)

set_option maxHeartbeats 8000000 in
theorem k_X6_equation {G : ac_G} {Y : ac_Y} {mm : ac_M} {d x : Nat} {s : List Nat} {T : ac_Tk} {hs : List ac_Tk} {s0 s1 : Option ac_Tk} {obs : List ac_Ob} {ch : Int} {e w : Int} (hd : 30 ≤ d) (hA : ac_isA Y x) (hR : ac_RA mm x s T hs s0 s1 obs ch) (he : ac_in e) (hw : ac_in w) : ac_C G yX6_equation cX6_equation 3 (some .int) d 0 0 Y mm [(2, (x : Int)), (0, e), (0, w)] (ac_R Y [(0, ac_an_equation T e w)] (fun m => ac_RA m x s T hs s0 s1 obs ch ∧ ac_fA mm m x)) := by
  have hA9 := hA
  obtain ⟨⟨kx, -⟩, hX, ⟨hT0, hT1, hT2, hT3⟩, ⟨ka, -, -, hS0, hS1⟩, hH, hW⟩ := hA
  have ktx := hX.1
  have kn0 := hT0.1
  have kn1 := hT1.1
  have kn2 := hT2.1
  have kn3 := hT3.1
  have kh := hH.1
  obtain ⟨⟨kw, -⟩, ⟨k14, k15, k16, k17⟩, hWS, hWC, hWT⟩ := id hW
  have kws := hWS.1
  have kwc := hWC.1
  have hR9 := hR
  obtain ⟨⟨p, rX⟩, rT, ⟨rs0, rs1⟩, rH, rS, ⟨E0, rC⟩, rc⟩ := hR
  obtain ⟨⟨⟨hn1, hn2⟩, ⟨hkk1, hkk2⟩, ⟨hE4, hE2⟩, hp0, hpr, hc0⟩, t3, t4, t5, t6, tE, tp, tcb, tc⟩ := id rT
  have hLn := ac_Lt_len T hn2
  obtain ⟨he1, he2⟩ := he
  obtain ⟨hw1, hw2⟩ := hw
  refine ac_met (on := (RX6, "equation")) rfl rfl (Nat.le_of_ble_eq_true rfl) (ls := [(2, (x : Int)), (0, e), (0, w)]) rfl ?_
  refine ac_aload_n (q := 1) dX6_equation_0 rfl rfl ?_
  refine ac_get (q := 4) dX6_equation_1 fl_X6_19 (by assumption) rfl (ac_rdr rfl hA9.1.2.2.1) ?_
  refine ac_iload_n (q := 5) dX6_equation_4 rfl rfl ?_
  refine ac_cvp (q := 8) (k_X3_hasEquation (t := x + 3) (d := d - 1) (by omega) hT0 rT ⟨by omega, by omega⟩) ml_X6_83 (by assumption) dX6_equation_5 rfl rfl rfl (by omega) (Nat.le_of_ble_eq_true rfl) (Nat.zero_le _) (Nat.zero_le _) ?_
  refine ac_bif_ne (q := 11) (tgt := 13) dX6_equation_8 rfl rfl (fun h8 => ?_) (fun h8 => ?_)
  · obtain ⟨e, rfl⟩ := Int.eq_ofNat_of_zero_le (a := e) (by omega)
    have hq := ac_eqn_get (T := T) (e := (e : Int)) ⟨by omega, by omega⟩
    simp only [Int.toNat_natCast] at hq
    have hsl := ac_sols_len (ac_eqn T (e : Int)) T.1 hn2
    unfold ac_an_equation
    rw [if_neg (by omega)]
    refine ac_iload_n (q := 14) dX6_equation_13 rfl rfl ?_
    by_cases hsw : w < 0 ∨ 5 < w
    · refine ac_tabOut (tgt := 101) dX6_equation_14 ⟨by omega, by omega⟩ hsw rfl ?_
      refine ac_bipush (q := 103) dX6_equation_101 rfl (by decide) ?_
      refine ac_ireturn dX6_equation_103 rfl (Nat.zero_le _) (Nat.zero_le _) ?_
      rw [if_neg (by omega), if_neg (by omega), if_neg (by omega), if_neg (by omega)]; exact ⟨rfl, rfl, hR9, ac_fA_r mm x⟩
    · rcases (show w = 0 ∨ w = 1 ∨ w = 2 ∨ w = 3 ∨ w = 4 ∨ w = 5 by omega) with rfl | rfl | rfl | rfl | rfl | rfl
      · refine ac_tabIn (off := 38) (tgt := 52) dX6_equation_14 ⟨by decide, by decide⟩ (by decide) (by decide) rfl rfl ?_
        refine ac_aload_n (q := 53) dX6_equation_52 rfl rfl ?_
        refine ac_get (q := 56) dX6_equation_53 fl_X6_19 (by assumption) rfl (ac_rdr rfl hA9.1.2.2.1) ?_
        refine ac_iload_n (q := 57) dX6_equation_56 rfl rfl ?_
        refine ac_iload_n (q := 58) dX6_equation_57 rfl rfl ?_
        refine ac_top (w' := (0, ((0 : Nat) : Int))) rfl ?_
        refine ac_cvp (q := 61) (k_X3_part (t := x + 3) (w := 0) (q := ac_eqn T e) (d := d - 1) (by omega) hT0 rT hq (by decide)) ml_X6_86 (by assumption) dX6_equation_58 rfl rfl rfl (by omega) (Nat.le_of_ble_eq_true rfl) (Nat.zero_le _) (Nat.zero_le _) ?_
        refine ac_bipush (q := 63) dX6_equation_61 rfl (by decide) ?_
        refine ac_iadd (q := 64) dX6_equation_63 rfl ?_
        refine ac_ireturn dX6_equation_64 rfl (Nat.zero_le _) (Nat.zero_le _) ?_
        rw [if_pos (by decide)]; exact ⟨rfl, rfl, hR9, ac_fA_r mm x⟩
      · refine ac_tabIn (off := 38) (tgt := 52) dX6_equation_14 ⟨by decide, by decide⟩ (by decide) (by decide) rfl rfl ?_
        refine ac_aload_n (q := 53) dX6_equation_52 rfl rfl ?_
        refine ac_get (q := 56) dX6_equation_53 fl_X6_19 (by assumption) rfl (ac_rdr rfl hA9.1.2.2.1) ?_
        refine ac_iload_n (q := 57) dX6_equation_56 rfl rfl ?_
        refine ac_iload_n (q := 58) dX6_equation_57 rfl rfl ?_
        refine ac_top (w' := (0, ((1 : Nat) : Int))) rfl ?_
        refine ac_cvp (q := 61) (k_X3_part (t := x + 3) (w := 1) (q := ac_eqn T e) (d := d - 1) (by omega) hT0 rT hq (by decide)) ml_X6_86 (by assumption) dX6_equation_58 rfl rfl rfl (by omega) (Nat.le_of_ble_eq_true rfl) (Nat.zero_le _) (Nat.zero_le _) ?_
        refine ac_bipush (q := 63) dX6_equation_61 rfl (by decide) ?_
        refine ac_iadd (q := 64) dX6_equation_63 rfl ?_
        refine ac_ireturn dX6_equation_64 rfl (Nat.zero_le _) (Nat.zero_le _) ?_
        rw [if_pos (by decide)]; exact ⟨rfl, rfl, hR9, ac_fA_r mm x⟩
      · refine ac_tabIn (off := 38) (tgt := 52) dX6_equation_14 ⟨by decide, by decide⟩ (by decide) (by decide) rfl rfl ?_
        refine ac_aload_n (q := 53) dX6_equation_52 rfl rfl ?_
        refine ac_get (q := 56) dX6_equation_53 fl_X6_19 (by assumption) rfl (ac_rdr rfl hA9.1.2.2.1) ?_
        refine ac_iload_n (q := 57) dX6_equation_56 rfl rfl ?_
        refine ac_iload_n (q := 58) dX6_equation_57 rfl rfl ?_
        refine ac_top (w' := (0, ((2 : Nat) : Int))) rfl ?_
        refine ac_cvp (q := 61) (k_X3_part (t := x + 3) (w := 2) (q := ac_eqn T e) (d := d - 1) (by omega) hT0 rT hq (by decide)) ml_X6_86 (by assumption) dX6_equation_58 rfl rfl rfl (by omega) (Nat.le_of_ble_eq_true rfl) (Nat.zero_le _) (Nat.zero_le _) ?_
        refine ac_bipush (q := 63) dX6_equation_61 rfl (by decide) ?_
        refine ac_iadd (q := 64) dX6_equation_63 rfl ?_
        refine ac_ireturn dX6_equation_64 rfl (Nat.zero_le _) (Nat.zero_le _) ?_
        rw [if_pos (by decide)]; exact ⟨rfl, rfl, hR9, ac_fA_r mm x⟩
      · refine ac_tabIn (off := 51) (tgt := 65) dX6_equation_14 ⟨by decide, by decide⟩ (by decide) (by decide) rfl rfl ?_
        refine ac_aload_n (q := 66) dX6_equation_65 rfl rfl ?_
        refine ac_get (q := 69) dX6_equation_66 fl_X6_19 (by assumption) rfl (ac_rdr rfl hA9.1.2.2.1) ?_
        refine ac_iload_n (q := 70) dX6_equation_69 rfl rfl ?_
        refine ac_iconst (q := 71) dX6_equation_70 rfl ?_
        refine ac_top (w' := (0, ((3 : Nat) : Int))) rfl ?_
        refine ac_cvp (q := 74) (k_X3_part (t := x + 3) (w := 3) (q := ac_eqn T e) (d := d - 1) (by omega) hT0 rT hq (by decide)) ml_X6_86 (by assumption) dX6_equation_71 rfl rfl rfl (by omega) (Nat.le_of_ble_eq_true rfl) (Nat.zero_le _) (Nat.zero_le _) ?_
        refine ac_ireturn dX6_equation_74 rfl (Nat.zero_le _) (Nat.zero_le _) ?_
        rw [if_neg (by decide), if_pos rfl]; exact ⟨rfl, rfl, hR9, ac_fA_r mm x⟩
      · refine ac_tabIn (off := 61) (tgt := 75) dX6_equation_14 ⟨by decide, by decide⟩ (by decide) (by decide) rfl rfl ?_
        refine ac_aload_n (q := 76) dX6_equation_75 rfl rfl ?_
        refine ac_get (q := 79) dX6_equation_76 fl_X6_19 (by assumption) rfl (ac_rdr rfl hA9.1.2.2.1) ?_
        refine ac_iload_n (q := 80) dX6_equation_79 rfl rfl ?_
        refine ac_cvp (q := 83) (k_X3_regular (t := x + 3) (q := ac_eqn T (e : Int)) (d := d - 1) (by omega) hT0 rT hq) ml_X6_90 (by assumption) dX6_equation_80 rfl rfl rfl (by omega) (Nat.le_of_ble_eq_true rfl) (Nat.zero_le _) (Nat.zero_le _) ?_
        letI := ac_regd (ac_eqn T (e : Int))
        refine ac_bif_eq (q := 86) (tgt := 90) dX6_equation_83 rfl rfl (fun h83 => ?_) (fun h83 => ?_)
        · refine ac_iconst (q := 91) dX6_equation_90 rfl ?_
          refine ac_ireturn dX6_equation_91 rfl (Nat.zero_le _) (Nat.zero_le _) ?_
          rw [if_neg (by decide), if_neg (by decide), if_pos rfl]
          first
            | exact ⟨ac_l1 h83, rfl, hR9, ac_fA_r mm x⟩
            | exact ⟨ac_l0 h83, rfl, hR9, ac_fA_r mm x⟩
        · refine ac_iconst (q := 87) dX6_equation_86 rfl ?_
          refine ac_goto (q := 91) dX6_equation_87 rfl ?_
          refine ac_ireturn dX6_equation_91 rfl (Nat.zero_le _) (Nat.zero_le _) ?_
          rw [if_neg (by decide), if_neg (by decide), if_pos rfl]
          first
            | exact ⟨ac_l1 h83, rfl, hR9, ac_fA_r mm x⟩
            | exact ⟨ac_l0 h83, rfl, hR9, ac_fA_r mm x⟩
      · refine ac_tabIn (off := 78) (tgt := 92) dX6_equation_14 ⟨by decide, by decide⟩ (by decide) (by decide) rfl rfl ?_
        refine ac_aload_n (q := 93) dX6_equation_92 rfl rfl ?_
        refine ac_get (q := 96) dX6_equation_93 fl_X6_19 (by assumption) rfl (ac_rdr rfl hA9.1.2.2.1) ?_
        refine ac_iload_n (q := 97) dX6_equation_96 rfl rfl ?_
        refine ac_cvp (q := 100) (k_X3_solutions (t := x + 3) (q := ac_eqn T (e : Int)) (d := d - 1) (by omega) hT0 rT hq) ml_X6_93 (by assumption) dX6_equation_97 rfl rfl rfl (by omega) (Nat.le_of_ble_eq_true rfl) (Nat.zero_le _) (Nat.zero_le _) ?_
        refine ac_ireturn dX6_equation_100 rfl (Nat.zero_le _) (Nat.zero_le _) ?_
        rw [if_neg (by decide), if_neg (by decide), if_neg (by decide), if_pos rfl]; exact ⟨rfl, rfl, hR9, ac_fA_r mm x⟩
  · refine ac_iconst (q := 12) dX6_equation_11 rfl ?_
    refine ac_ireturn dX6_equation_12 rfl (Nat.zero_le _) (Nat.zero_le _) ?_
    unfold ac_an_equation; rw [if_pos (by omega)]; exact ⟨rfl, rfl, hR9, ac_fA_r mm x⟩

set_option maxHeartbeats 8000000 in
theorem k_X6_solution {G : ac_G} {Y : ac_Y} {mm : ac_M} {d x : Nat} {s : List Nat} {T : ac_Tk} {hs : List ac_Tk} {s0 s1 : Option ac_Tk} {obs : List ac_Ob} {ch : Int} {e i : Int} (hd : 30 ≤ d) (hA : ac_isA Y x) (hR : ac_RA mm x s T hs s0 s1 obs ch) (he : ac_in e) (hi : ac_in i) : ac_C G yX6_solution cX6_solution 3 (some .int) d 0 0 Y mm [(2, (x : Int)), (0, e), (0, i)] (ac_R Y [(0, ac_an_solution T e i)] (fun m => ac_RA m x s T hs s0 s1 obs ch ∧ ac_fA mm m x)) := by
  have hA9 := hA
  obtain ⟨⟨kx, -⟩, hX, ⟨hT0, hT1, hT2, hT3⟩, ⟨ka, -, -, hS0, hS1⟩, hH, hW⟩ := hA
  have ktx := hX.1
  have kn0 := hT0.1
  have kn1 := hT1.1
  have kn2 := hT2.1
  have kn3 := hT3.1
  have kh := hH.1
  obtain ⟨⟨kw, -⟩, ⟨k14, k15, k16, k17⟩, hWS, hWC, hWT⟩ := id hW
  have kws := hWS.1
  have kwc := hWC.1
  have hR9 := hR
  obtain ⟨⟨p, rX⟩, rT, ⟨rs0, rs1⟩, rH, rS, ⟨E0, rC⟩, rc⟩ := hR
  obtain ⟨⟨⟨hn1, hn2⟩, ⟨hkk1, hkk2⟩, ⟨hE4, hE2⟩, hp0, hpr, hc0⟩, t3, t4, t5, t6, tE, tp, tcb, tc⟩ := id rT
  have hLn := ac_Lt_len T hn2
  obtain ⟨he1, he2⟩ := he
  unfold ac_an_solution
  refine ac_met (on := (RX6, "solution")) rfl rfl (Nat.le_of_ble_eq_true rfl) (ls := [(2, (x : Int)), (0, e), (0, i)]) rfl ?_
  refine ac_aload_n (q := 1) dX6_solution_0 rfl rfl ?_
  refine ac_get (q := 4) dX6_solution_1 fl_X6_19 (by assumption) rfl (ac_rdr rfl hA9.1.2.2.1) ?_
  refine ac_iload_n (q := 5) dX6_solution_4 rfl rfl ?_
  refine ac_cvp (q := 8) (k_X3_hasEquation (t := x + 3) (d := d - 1) (by omega) hT0 rT ⟨by omega, by omega⟩) ml_X6_83 (by assumption) dX6_solution_5 rfl rfl rfl (by omega) (Nat.le_of_ble_eq_true rfl) (Nat.zero_le _) (Nat.zero_le _) ?_
  refine ac_bif_ne (q := 11) (tgt := 13) dX6_solution_8 rfl rfl (fun h8 => ?_) (fun h8 => ?_)
  · obtain ⟨e, rfl⟩ := Int.eq_ofNat_of_zero_le (a := e) (by omega)
    have hq := ac_eqn_get (T := T) (e := (e : Int)) ⟨by omega, by omega⟩
    simp only [Int.toNat_natCast] at hq
    refine ac_aload_n (q := 14) dX6_solution_13 rfl rfl ?_
    refine ac_get (q := 17) dX6_solution_14 fl_X6_19 (by assumption) rfl (ac_rdr rfl hA9.1.2.2.1) ?_
    refine ac_iload_n (q := 18) dX6_solution_17 rfl rfl ?_
    refine ac_iload_n (q := 19) dX6_solution_18 rfl rfl ?_
    refine ac_cvp (q := 22) (k_X3_solutionAt (t := x + 3) (q := ac_eqn T (e : Int)) (d := d - 1) (by omega) hT0 rT hq hi) ml_X6_97 (by assumption) dX6_solution_19 rfl rfl rfl (by omega) (Nat.le_of_ble_eq_true rfl) (Nat.zero_le _) (Nat.zero_le _) ?_
    refine ac_ireturn dX6_solution_22 rfl (Nat.zero_le _) (Nat.zero_le _) ?_
    rw [if_neg (by omega)]; exact ⟨rfl, rfl, hR9, ac_fA_r mm x⟩
  · refine ac_iconst (q := 12) dX6_solution_11 rfl ?_
    refine ac_ireturn dX6_solution_12 rfl (Nat.zero_le _) (Nat.zero_le _) ?_
    rw [if_pos (by omega)]; exact ⟨rfl, rfl, hR9, ac_fA_r mm x⟩

set_option maxHeartbeats 8000000 in
theorem k_X6_number {G : ac_G} {Y : ac_Y} {mm : ac_M} {d x : Nat} {s : List Nat} {T : ac_Tk} {hs : List ac_Tk} {s0 s1 : Option ac_Tk} {obs : List ac_Ob} {ch : Int} {a w : Int} (hd : 30 ≤ d) (hA : ac_isA Y x) (hR : ac_RA mm x s T hs s0 s1 obs ch) (ha : ac_in a) (hw : ac_in w) : ac_C G yX6_number cX6_number 3 (some .int) d 0 0 Y mm [(2, (x : Int)), (0, a), (0, w)] (ac_R Y [(0, ac_an_number T a w)] (fun m => ac_RA m x s T hs s0 s1 obs ch ∧ ac_fA mm m x)) := by
  have hA9 := hA
  obtain ⟨⟨kx, -⟩, hX, ⟨hT0, hT1, hT2, hT3⟩, ⟨ka, -, -, hS0, hS1⟩, hH, hW⟩ := hA
  have ktx := hX.1
  have kn0 := hT0.1
  have kn1 := hT1.1
  have kn2 := hT2.1
  have kn3 := hT3.1
  have kh := hH.1
  obtain ⟨⟨kw, -⟩, ⟨k14, k15, k16, k17⟩, hWS, hWC, hWT⟩ := id hW
  have kws := hWS.1
  have kwc := hWC.1
  have hR9 := hR
  obtain ⟨⟨p, rX⟩, rT, ⟨rs0, rs1⟩, rH, rS, ⟨E0, rC⟩, rc⟩ := hR
  obtain ⟨⟨⟨hn1, hn2⟩, ⟨hkk1, hkk2⟩, ⟨hE4, hE2⟩, hp0, hpr, hc0⟩, t3, t4, t5, t6, tE, tp, tcb, tc⟩ := id rT
  have hLn := ac_Lt_len T hn2
  obtain ⟨ha1, ha2⟩ := ha
  obtain ⟨hw1, hw2⟩ := hw
  refine ac_met (on := (RX6, "number")) rfl rfl (Nat.le_of_ble_eq_true rfl) (ls := [(2, (x : Int)), (0, a), (0, w)]) rfl ?_
  refine ac_aload_n (q := 1) dX6_number_0 rfl rfl ?_
  refine ac_get (q := 4) dX6_number_1 fl_X6_19 (by assumption) rfl (ac_rdr rfl hA9.1.2.2.1) ?_
  refine ac_iload_n (q := 5) dX6_number_4 rfl rfl ?_
  refine ac_cvp (q := 8) (k_X3_has (t := x + 3) (d := d - 1) (by omega) hT0 rT ⟨by omega, by omega⟩) ml_X6_100 (by assumption) dX6_number_5 rfl rfl rfl (by omega) (Nat.le_of_ble_eq_true rfl) (Nat.zero_le _) (Nat.zero_le _) ?_
  refine ac_bif_ne (q := 11) (tgt := 13) dX6_number_8 rfl rfl (fun h8 => ?_) (fun h8 => ?_)
  · obtain ⟨a, rfl⟩ := Int.eq_ofNat_of_zero_le (a := a) (by omega)
    have hpa := hpr a
    unfold ac_an_number
    rw [if_neg (by omega)]
    simp only [Int.toNat_natCast]
    have t6b : mm (x + 3) 6 = ac_b (T.2.2.2.2.isSome = true) := t6
    refine ac_iload_n (q := 14) dX6_number_13 rfl rfl ?_
    by_cases hsw : w < 0 ∨ 3 < w
    · refine ac_tabOut (tgt := 144) dX6_number_14 ⟨by omega, by omega⟩ hsw rfl ?_
      refine ac_bipush (q := 146) dX6_number_144 rfl (by decide) ?_
      refine ac_ireturn dX6_number_146 rfl (Nat.zero_le _) (Nat.zero_le _) ?_
      rw [if_neg (by omega), if_neg (by omega), if_neg (by omega), if_neg (by omega)]; exact ⟨rfl, rfl, hR9, ac_fA_r mm x⟩
    · rcases (show w = 0 ∨ w = 1 ∨ w = 2 ∨ w = 3 by omega) with rfl | rfl | rfl | rfl
      · refine ac_tabIn (off := 30) (tgt := 44) dX6_number_14 ⟨by decide, by decide⟩ (by decide) (by decide) rfl rfl ?_
        refine ac_aload_n (q := 45) dX6_number_44 rfl rfl ?_
        refine ac_get (q := 48) dX6_number_45 fl_X6_19 (by assumption) rfl (ac_rdr rfl hA9.1.2.2.1) ?_
        refine ac_get (q := 51) dX6_number_48 fl_X6_103 kn0 rfl (ac_rdz rfl t6b) ?_
        refine ac_bif_eq (q := 54) (tgt := 65) dX6_number_51 rfl rfl (fun h51 => ?_) (fun h51 => ?_)
        · have hcn : T.2.2.2.2 = none := by cases hc : T.2.2.2.2 with
            | none => rfl
            | some l => rw [hc] at h51; exact absurd rfl h51
          refine ac_bipush (q := 67) dX6_number_65 rfl (by decide) ?_
          refine ac_ireturn dX6_number_67 rfl (Nat.zero_le _) (Nat.zero_le _) ?_
          rw [if_pos rfl]
          first
            | (rw [hl]; exact ⟨rfl, rfl, hR9, ac_fA_r mm x⟩)
            | (rw [hcn]; exact ⟨rfl, rfl, hR9, ac_fA_r mm x⟩)
        · obtain ⟨l, hl⟩ := Option.isSome_iff_exists.mp h51
          refine ac_aload_n (q := 55) dX6_number_54 rfl rfl ?_
          refine ac_get (q := 58) dX6_number_55 fl_X6_19 (by assumption) rfl (ac_rdr rfl hA9.1.2.2.1) ?_
          refine ac_iload_n (q := 59) dX6_number_58 rfl rfl ?_
          refine ac_cvp (q := 62) (k_X3_colourOf (t := x + 3) (l := l) (d := d - 1) (by omega) hT0 rT ⟨by omega, by omega⟩ hl) ml_X6_107 (by assumption) dX6_number_59 rfl rfl rfl (by omega) (Nat.le_of_ble_eq_true rfl) (Nat.zero_le _) (Nat.zero_le _) ?_
          refine ac_goto (q := 67) dX6_number_62 rfl ?_
          refine ac_ireturn dX6_number_67 rfl (Nat.zero_le _) (Nat.zero_le _) ?_
          rw [if_pos rfl]
          first
            | (rw [hl]; exact ⟨rfl, rfl, hR9, ac_fA_r mm x⟩)
            | (rw [hcn]; exact ⟨rfl, rfl, hR9, ac_fA_r mm x⟩)
      · refine ac_tabIn (off := 54) (tgt := 68) dX6_number_14 ⟨by decide, by decide⟩ (by decide) (by decide) rfl rfl ?_
        refine ac_aload_n (q := 69) dX6_number_68 rfl rfl ?_
        refine ac_get (q := 72) dX6_number_69 fl_X6_19 (by assumption) rfl (ac_rdr rfl hA9.1.2.2.1) ?_
        refine ac_iload_n (q := 73) dX6_number_72 rfl rfl ?_
        refine ac_cvp (q := 76) (k_X3_pinOf (t := x + 3) (d := d - 1) (by omega) hT0 rT ⟨by omega, by omega⟩) ml_X6_110 (by assumption) dX6_number_73 rfl rfl rfl (by omega) (Nat.le_of_ble_eq_true rfl) (Nat.zero_le _) (Nat.zero_le _) ?_
        simp only [Int.toNat_natCast]
        refine ac_iconst (q := 77) dX6_number_76 rfl ?_
        refine ac_icmp_ne (q := 80) (tgt := 85) dX6_number_77 rfl rfl ⟨by omega, by omega⟩ ⟨by omega, by omega⟩ (fun h77 => ?_) (fun h77 => ?_)
        · refine ac_aload_n (q := 86) dX6_number_85 rfl rfl ?_
          refine ac_get (q := 89) dX6_number_86 fl_X6_19 (by assumption) rfl (ac_rdr rfl hA9.1.2.2.1) ?_
          refine ac_iload_n (q := 90) dX6_number_89 rfl rfl ?_
          refine ac_cvp (q := 93) (k_X3_pinOf (t := x + 3) (d := d - 1) (by omega) hT0 rT ⟨by omega, by omega⟩) ml_X6_110 (by assumption) dX6_number_90 rfl rfl rfl (by omega) (Nat.le_of_ble_eq_true rfl) (Nat.zero_le _) (Nat.zero_le _) ?_
          simp only [Int.toNat_natCast]
          refine ac_ireturn dX6_number_93 rfl (Nat.zero_le _) (Nat.zero_le _) ?_
          rw [if_neg (by decide)]
          first
            | rw [if_pos rfl]
            | rw [if_pos trivial]
          first
            | (rw [if_pos (by omega)]; exact ⟨rfl, rfl, hR9, ac_fA_r mm x⟩)
            | (rw [if_neg (by omega)]; exact ⟨rfl, rfl, hR9, ac_fA_r mm x⟩)
        · refine ac_bipush (q := 82) dX6_number_80 rfl (by decide) ?_
          refine ac_goto (q := 93) dX6_number_82 rfl ?_
          refine ac_ireturn dX6_number_93 rfl (Nat.zero_le _) (Nat.zero_le _) ?_
          rw [if_neg (by decide)]
          first
            | rw [if_pos rfl]
            | rw [if_pos trivial]
          first
            | (rw [if_pos (by omega)]; exact ⟨rfl, rfl, hR9, ac_fA_r mm x⟩)
            | (rw [if_neg (by omega)]; exact ⟨rfl, rfl, hR9, ac_fA_r mm x⟩)
      · refine ac_tabIn (off := 80) (tgt := 94) dX6_number_14 ⟨by decide, by decide⟩ (by decide) (by decide) rfl rfl ?_
        refine ac_aload_n (q := 95) dX6_number_94 rfl rfl ?_
        refine ac_get (q := 98) dX6_number_95 fl_X6_46 (by assumption) rfl (ac_rdr rfl hA9.1.2.2.2.2.2.2.2.2) ?_
        refine ac_aload_n (q := 99) dX6_number_98 rfl rfl ?_
        refine ac_get (q := 102) dX6_number_99 fl_X6_19 (by assumption) rfl (ac_rdr rfl hA9.1.2.2.1) ?_
        refine ac_iconst (q := 103) dX6_number_102 rfl ?_
        refine ac_cv (q := 106) (k_X5_survey (d := d - 1) (w := x + 86) (t := x + 3) (wanted := 0) (by omega) hW ⟨by decide, by decide⟩ rC rS hT0 rT (by omega)) ml_X6_113 (by assumption) dX6_number_103 rfl rfl rfl (by omega) (Nat.le_of_ble_eq_true rfl) (Nat.zero_le _) (Nat.zero_le _) (fun m1 h1 => ?_)
        obtain ⟨w1, R1, f1⟩ := h1
        have R1 : ac_RW m1 (x + 86) T.2.2.2.2 obs 0 (ac_Lt T) (ac_cb (ac_Lt T)) (ac_dead (ac_may T.2.1 T.2.2.1 T.2.2.2.1) T.1 []) (ac_deep (ac_may T.2.1 T.2.2.1 T.2.2.2.1) T.1 []) := R1
        have A1 := ac_RA_w hR9 w1.2.2 ⟨_, w1.2.1⟩ (fun k' a => f1 k' (by omega))
        refine ac_aload_n (q := 107) dX6_number_106 rfl rfl ?_
        refine ac_get (q := 110) dX6_number_107 fl_X6_46 (by assumption) rfl (ac_rdr rfl hA9.1.2.2.2.2.2.2.2.2) ?_
        refine ac_iload_n (q := 111) dX6_number_110 rfl rfl ?_
        refine ac_cvp (q := 114) (k_X5_possibleOf (w := x + 86) (p := ac_cb (ac_Lt T) a) (d := d - 1) (by omega) hW (R1.2.2 a (by omega) (by omega)) ⟨by omega, by omega⟩) ml_X6_117 (by assumption) dX6_number_111 rfl rfl rfl (by omega) (Nat.le_of_ble_eq_true rfl) (Nat.zero_le _) (Nat.zero_le _) ?_
        refine ac_ireturn dX6_number_114 rfl (Nat.zero_le _) (Nat.zero_le _) ?_
        rw [if_neg (by decide), if_neg (by decide), if_pos rfl]; exact ⟨rfl, rfl, A1, fun k' a => f1 k' (by omega)⟩
      · refine ac_tabIn (off := 101) (tgt := 115) dX6_number_14 ⟨by decide, by decide⟩ (by decide) (by decide) rfl rfl ?_
        refine ac_aload_n (q := 116) dX6_number_115 rfl rfl ?_
        refine ac_get (q := 119) dX6_number_116 fl_X6_46 (by assumption) rfl (ac_rdr rfl hA9.1.2.2.2.2.2.2.2.2) ?_
        refine ac_aload_n (q := 120) dX6_number_119 rfl rfl ?_
        refine ac_get (q := 123) dX6_number_120 fl_X6_19 (by assumption) rfl (ac_rdr rfl hA9.1.2.2.1) ?_
        refine ac_iconst (q := 124) dX6_number_123 rfl ?_
        refine ac_cv (q := 127) (k_X5_survey (d := d - 1) (w := x + 86) (t := x + 3) (wanted := 0) (by omega) hW ⟨by decide, by decide⟩ rC rS hT0 rT (by omega)) ml_X6_113 (by assumption) dX6_number_124 rfl rfl rfl (by omega) (Nat.le_of_ble_eq_true rfl) (Nat.zero_le _) (Nat.zero_le _) (fun m1 h1 => ?_)
        obtain ⟨w1, R1, f1⟩ := h1
        have R1 : ac_RW m1 (x + 86) T.2.2.2.2 obs 0 (ac_Lt T) (ac_cb (ac_Lt T)) (ac_dead (ac_may T.2.1 T.2.2.1 T.2.2.2.1) T.1 []) (ac_deep (ac_may T.2.1 T.2.2.1 T.2.2.2.1) T.1 []) := R1
        have A1 := ac_RA_w hR9 w1.2.2 ⟨_, w1.2.1⟩ (fun k' a => f1 k' (by omega))
        have hcb : ac_cb (ac_Lt T) a < 2048 := Nat.lt_trans (ac_cb_lt (fun l hl c hc => by have := ((ac_Lt_mem hkk2).mp hl).2.1 c hc; omega)) (by decide)
        refine ac_aload_n (q := 128) dX6_number_127 rfl rfl ?_
        refine ac_get (q := 131) dX6_number_128 fl_X6_46 (by assumption) rfl (ac_rdr rfl hA9.1.2.2.2.2.2.2.2.2) ?_
        refine ac_iload_n (q := 132) dX6_number_131 rfl rfl ?_
        refine ac_cvp (q := 135) (k_X5_forces (w := x + 86) (p := ac_cb (ac_Lt T) a) (d := d - 1) (by omega) hW (R1.2.2 a (by omega) (by omega)) ⟨by omega, by omega⟩ hcb) ml_X6_120 (by assumption) dX6_number_132 rfl rfl rfl (by omega) (Nat.le_of_ble_eq_true rfl) (Nat.zero_le _) (Nat.zero_le _) ?_
        refine ac_bif_eq (q := 138) (tgt := 142) dX6_number_135 rfl rfl (fun h135 => ?_) (fun h135 => ?_)
        · refine ac_iconst (q := 143) dX6_number_142 rfl ?_
          refine ac_ireturn dX6_number_143 rfl (Nat.zero_le _) (Nat.zero_le _) ?_
          rw [if_neg (by decide), if_neg (by decide), if_neg (by decide), if_pos rfl]
          first
            | exact ⟨ac_l1 h135, rfl, A1, fun k' a => f1 k' (by omega)⟩
            | exact ⟨ac_l0 h135, rfl, A1, fun k' a => f1 k' (by omega)⟩
        · refine ac_iconst (q := 139) dX6_number_138 rfl ?_
          refine ac_goto (q := 143) dX6_number_139 rfl ?_
          refine ac_ireturn dX6_number_143 rfl (Nat.zero_le _) (Nat.zero_le _) ?_
          rw [if_neg (by decide), if_neg (by decide), if_neg (by decide), if_pos rfl]
          first
            | exact ⟨ac_l1 h135, rfl, A1, fun k' a => f1 k' (by omega)⟩
            | exact ⟨ac_l0 h135, rfl, A1, fun k' a => f1 k' (by omega)⟩
  · refine ac_iconst (q := 12) dX6_number_11 rfl ?_
    refine ac_ireturn dX6_number_12 rfl (Nat.zero_le _) (Nat.zero_le _) ?_
    unfold ac_an_number; rw [if_pos (by omega)]; exact ⟨rfl, rfl, hR9, ac_fA_r mm x⟩
