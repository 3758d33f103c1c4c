/-! the reference's ask -/
theorem ac_RM_fG {mm m : ac_M} {x : Nat} {s : List Nat} {T : ac_Tk} {hs : List ac_Tk} {s0 s1 : Option ac_Tk} {obs : List ac_Ob} {ch : Int} (h : ac_RM mm x s T hs s0 s1 obs ch) (hf : ac_fG mm m x) : ac_RM m x s T hs s0 s1 obs ch :=
  ac_RM_e h (fun k' hk' => hf.1 k' (by omega) (by omega)) (fun j hj => hf.2 j (by omega))
theorem ac_fG_fM {mm m : ac_M} {x : Nat} (h : ac_fG mm m x) : ac_fM mm m x := fun k' hk' => h.1 k' (by omega) (by omega)

set_option maxHeartbeats 8000000 in
theorem k_X7_ask {G : ac_G} {Y : ac_Y} {mm : ac_M} {d x : Nat} {s : List Nat} {T : ac_Tk} {hs : List ac_Tk} {s0 s1 : Option ac_Tk} {obs : List ac_Ob} {ch : Int} {w : Int} (hd : 30 ≤ d) (hM : ac_isM Y x) (hR : ac_RM mm x s T hs s0 s1 obs ch) (hw : ac_in w) : ac_C G yX7_ask cX7_ask 2 (some .int) d 0 0 Y mm [(2, (x : Int)), (0, w)] (ac_R Y [(0, ac_an_ask T w)] (fun m => ac_RM m x s T hs s0 s1 obs ch ∧ ac_fM mm m x)) := by
  have hM9 := hM
  obtain ⟨kx, k1, k2, k3, k4, k5, k6, k7, k8, k9, k10, k11, k12, k13, k14, k15, k16⟩ := hM.2
  obtain ⟨-, ⟨hkk, hPg⟩, -⟩ := id hR
  obtain ⟨⟨⟨hn1, hn2⟩, ⟨hk2, hk3⟩, hE, hp0, hpr, hc0⟩, -⟩ := id hPg
  have hE4 := hE.1
  have hLn := ac_Lt_len T hn2
  obtain ⟨hw1, hw2⟩ := hw
  unfold ac_an_ask
  refine ac_met (on := (RX7, "ask")) rfl rfl (Nat.le_of_ble_eq_true rfl) (ls := [(2, (x : Int)), (0, w)]) rfl ?_
  refine ac_aload_n (q := 1) dX7_ask_0 rfl rfl ?_
  refine ac_iconst (q := 2) dX7_ask_1 rfl ?_
  refine ac_put (q := 5) dX7_ask_2 fl_X7_67 (by assumption) rfl rfl ?_
  have A0 := ac_up0_RM hR
  have F0 : ac_fM mm (ac_up mm x 0 0) x := ac_up0_fM
  generalize ac_up mm x 0 0 = m0 at *
  obtain ⟨q4, qP⟩ := A0.2.1
  obtain ⟨-, p0, p1, pE, pp, p28, pcb, pcl⟩ := id qP
  refine ac_iload_n (q := 6) dX7_ask_5 rfl rfl ?_
  by_cases hsw : w < 0 ∨ 6 < w
  · refine ac_tabOut (tgt := 99) dX7_ask_6 ⟨by omega, by omega⟩ hsw rfl ?_
    refine ac_bipush (q := 101) dX7_ask_99 rfl (by decide) ?_
    refine ac_ireturn dX7_ask_101 rfl (Nat.zero_le _) (Nat.zero_le _) ?_
    rw [if_neg (by omega), if_neg (by omega), if_neg (by omega), if_neg (by omega), if_neg (by omega), if_neg (by omega), if_neg (by omega)]; exact ⟨rfl, rfl, A0, F0⟩
  · rcases (show w = 0 ∨ w = 1 ∨ w = 2 ∨ w = 3 ∨ w = 4 ∨ w = 5 ∨ w = 6 by omega) with rfl | rfl | rfl | rfl | rfl | rfl | rfl
    · refine ac_tabIn (off := 42) (tgt := 48) dX7_ask_6 ⟨by decide, by decide⟩ (by decide) (by decide) rfl rfl ?_
      refine ac_aload_n (q := 49) dX7_ask_48 rfl rfl ?_
      refine ac_aload_n (q := 50) dX7_ask_49 rfl rfl ?_
      refine ac_get (q := 53) dX7_ask_50 fl_X7_20 (by assumption) rfl (ac_rdr rfl hM9.1.2.2.1) ?_
      refine ac_cv (q := 56) (k_X7_manyOf (r := x + 3) (T := T) (d := d - 1) (by omega) hM9 (Or.inl rfl) qP q4) ml_X7_118 (by assumption) dX7_ask_53 rfl rfl rfl (by omega) (Nat.le_of_ble_eq_true rfl) (Nat.zero_le _) (Nat.zero_le _) (fun m1 h1 => ?_)
      refine ac_ireturn dX7_ask_56 rfl (Nat.zero_le _) (Nat.zero_le _) ?_
      rw [if_pos rfl]; exact ⟨rfl, rfl, ac_RM_fE A0 h1, ac_fM_t F0 (ac_fE_fM h1)⟩
    · refine ac_tabIn (off := 51) (tgt := 57) dX7_ask_6 ⟨by decide, by decide⟩ (by decide) (by decide) rfl rfl ?_
      refine ac_aload_n (q := 58) dX7_ask_57 rfl rfl ?_
      refine ac_aload_n (q := 59) dX7_ask_58 rfl rfl ?_
      refine ac_get (q := 62) dX7_ask_59 fl_X7_20 (by assumption) rfl (ac_rdr rfl hM9.1.2.2.1) ?_
      refine ac_cv (q := 65) (k_X7_numberOf (r := x + 3) (T := T) (d := d - 1) (by omega) hM9 (Or.inl rfl) qP q4) ml_X7_178 (by assumption) dX7_ask_62 rfl rfl rfl (by omega) (Nat.le_of_ble_eq_true rfl) (Nat.zero_le _) (Nat.zero_le _) (fun m1 h1 => ?_)
      refine ac_ireturn dX7_ask_65 rfl (Nat.zero_le _) (Nat.zero_le _) ?_
      rw [if_neg (by decide), if_pos rfl]; exact ⟨rfl, rfl, ac_RM_fE A0 h1, ac_fM_t F0 (ac_fE_fM h1)⟩
    · refine ac_tabIn (off := 60) (tgt := 66) dX7_ask_6 ⟨by decide, by decide⟩ (by decide) (by decide) rfl rfl ?_
      refine ac_aload_n (q := 67) dX7_ask_66 rfl rfl ?_
      refine ac_aload_n (q := 68) dX7_ask_67 rfl rfl ?_
      refine ac_get (q := 71) dX7_ask_68 fl_X7_20 (by assumption) rfl (ac_rdr rfl hM9.1.2.2.1) ?_
      refine ac_cv (q := 74) (k_X7_least (r := x + 3) (T := T) (d := d - 1) (by omega) hM9 (Or.inl rfl) qP q4) ml_X7_228 (by assumption) dX7_ask_71 rfl rfl rfl (by omega) (Nat.le_of_ble_eq_true rfl) (Nat.zero_le _) (Nat.zero_le _) (fun m1 h1 => ?_)
      refine ac_ireturn dX7_ask_74 rfl (Nat.zero_le _) (Nat.zero_le _) ?_
      rw [if_neg (by decide), if_neg (by decide), if_pos rfl]; exact ⟨rfl, rfl, ac_RM_fE A0 h1, ac_fM_t F0 (ac_fE_fM h1)⟩
    · refine ac_tabIn (off := 69) (tgt := 75) dX7_ask_6 ⟨by decide, by decide⟩ (by decide) (by decide) rfl rfl ?_
      refine ac_aload_n (q := 76) dX7_ask_75 rfl rfl ?_
      refine ac_aload_n (q := 77) dX7_ask_76 rfl rfl ?_
      refine ac_get (q := 80) dX7_ask_77 fl_X7_20 (by assumption) rfl (ac_rdr rfl hM9.1.2.2.1) ?_
      refine ac_cv (q := 83) (k_X7_forced (r := x + 3) (T := T) (d := d - 1) (by omega) hM9 (Or.inl rfl) qP q4) ml_X7_231 (by assumption) dX7_ask_80 rfl rfl rfl (by omega) (Nat.le_of_ble_eq_true rfl) (Nat.zero_le _) (Nat.zero_le _) (fun m1 h1 => ?_)
      refine ac_ireturn dX7_ask_83 rfl (Nat.zero_le _) (Nat.zero_le _) ?_
      rw [if_neg (by decide), if_neg (by decide), if_neg (by decide), if_pos rfl]; exact ⟨rfl, rfl, ac_RM_fE A0 h1, ac_fM_t F0 (ac_fE_fM h1)⟩
    · refine ac_tabIn (off := 78) (tgt := 84) dX7_ask_6 ⟨by decide, by decide⟩ (by decide) (by decide) rfl rfl ?_
      refine ac_aload_n (q := 85) dX7_ask_84 rfl rfl ?_
      refine ac_cv (q := 88) (k_X7_paints (d := d - 1) (by omega) hM9 A0) ml_X7_234 (by assumption) dX7_ask_85 rfl rfl rfl (by omega) (Nat.le_of_ble_eq_true rfl) (Nat.zero_le _) (Nat.zero_le _) (fun m1 h1 => ?_)
      refine ac_ireturn dX7_ask_88 rfl (Nat.zero_le _) (Nat.zero_le _) ?_
      rw [if_neg (by decide), if_neg (by decide), if_neg (by decide), if_neg (by decide), if_pos rfl]; exact ⟨rfl, rfl, h1.1, ac_fM_t F0 h1.2⟩
    · refine ac_tabIn (off := 83) (tgt := 89) dX7_ask_6 ⟨by decide, by decide⟩ (by decide) (by decide) rfl rfl ?_
      refine ac_aload_n (q := 90) dX7_ask_89 rfl rfl ?_
      refine ac_cv (q := 93) (k_X7_kinds (T := T) (d := d - 1) (by omega) hM9 qP q4) ml_X7_237 (by assumption) dX7_ask_90 rfl rfl rfl (by omega) (Nat.le_of_ble_eq_true rfl) (Nat.zero_le _) (Nat.zero_le _) (fun m1 h1 => ?_)
      refine ac_ireturn dX7_ask_93 rfl (Nat.zero_le _) (Nat.zero_le _) ?_
      rw [if_neg (by decide), if_neg (by decide), if_neg (by decide), if_neg (by decide), if_neg (by decide), if_pos rfl]; exact ⟨rfl, rfl, ac_RM_fG A0 h1, ac_fM_t F0 (ac_fG_fM h1)⟩
    · refine ac_tabIn (off := 88) (tgt := 94) dX7_ask_6 ⟨by decide, by decide⟩ (by decide) (by decide) rfl rfl ?_
      refine ac_aload_n (q := 95) dX7_ask_94 rfl rfl ?_
      refine ac_cv (q := 98) (k_X7_ends (T := T) (d := d - 1) (by omega) hM9 qP q4) ml_X7_240 (by assumption) dX7_ask_95 rfl rfl rfl (by omega) (Nat.le_of_ble_eq_true rfl) (Nat.zero_le _) (Nat.zero_le _) (fun m1 h1 => ?_)
      refine ac_ireturn dX7_ask_98 rfl (Nat.zero_le _) (Nat.zero_le _) ?_
      rw [if_neg (by decide), if_neg (by decide), if_neg (by decide), if_neg (by decide), if_neg (by decide), if_neg (by decide), if_pos rfl]; exact ⟨rfl, rfl, ac_RM_fG A0 h1, ac_fM_t F0 (ac_fG_fM h1)⟩
