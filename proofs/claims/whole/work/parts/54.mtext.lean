set_option maxHeartbeats 8000000 in
theorem k_X7_write {G : ac_G} {Y : ac_Y} {mm : ac_M} {d x : Nat} {s : List Nat} {T : ac_Tk} {hs : List ac_Tk} {s0 s1 : Option ac_Tk} {obs : List ac_Ob} {ch : Int} {v : Int} (hd : 30 ≤ d) (hM : ac_isM Y x) (hR : ac_RM mm x s T hs s0 s1 obs ch) (hv : ac_in v) : ac_C G yX7_write cX7_write 2 (some .int) d 0 0 Y mm [(2, (x : Int)), (0, v)] (ac_R Y [(0, if ¬ (0 ≤ v ∧ v ≤ 255) then -2 else if s.length < 60 then (s.length : Int) + 1 else -4)] (fun m => ac_RM m x (if 0 ≤ v ∧ v ≤ 255 then (if s.length < 60 then s ++ [v.toNat] else s) else s) T hs s0 s1 obs ch ∧ ac_fM mm m x)) := by
  have hM9 := hM
  obtain ⟨kx, k1, k2, k3, k4, k5, k6, k7, k8, k9, k10, k11, k12, k13, k14, k15, k16⟩ := hM.2
  obtain ⟨-, ⟨hkk, hPg⟩, -⟩ := id hR
  obtain ⟨⟨⟨hn1, hn2⟩, ⟨hk2, hk3⟩, hE, hp0, hpr, hc0⟩, -⟩ := id hPg
  have hE4 := hE.1
  have hLn := ac_Lt_len T hn2
  obtain ⟨hv1, hv2⟩ := hv
  refine ac_met (on := (RX7, "write")) rfl rfl (Nat.le_of_ble_eq_true rfl) (ls := [(2, (x : Int)), (0, v)]) rfl ?_
  refine ac_aload_n (q := 1) dX7_write_0 rfl rfl ?_
  refine ac_iconst (q := 2) dX7_write_1 rfl ?_
  refine ac_put (q := 5) dX7_write_2 fl_X7_67 (by assumption) rfl rfl ?_
  have A0 := ac_up0_RM hR
  have F0 : ac_fM mm (ac_up mm x 0 0) x := ac_up0_fM
  generalize ac_up mm x 0 0 = m0 at *
  obtain ⟨q4, qP⟩ := A0.2.1
  obtain ⟨-, p0, p1, pE, pp, p28, pcb, pcl⟩ := id qP
  obtain ⟨⟨a1, a2, a3⟩, ⟨b1, b2⟩, ⟨c1, c2, c3⟩, ⟨⟨d1, d2⟩, d3, d4⟩, ⟨e1, e2, e3⟩, ff⟩ := id A0
  have hs60 := a1.1
  refine ac_iload_n (q := 6) dX7_write_5 rfl rfl ?_
  refine ac_i2l (q := 7) dX7_write_6 rfl ⟨by omega, by omega⟩ ?_
  refine ac_lconst (q := 8) (v := 0) dX7_write_7 rfl (by decide) ?_
  refine ac_ldc2_w (q := 11) (v := 255) dX7_write_8 rfl ct_X7_70 ?_
  refine ac_csp (q := 14) (k_X7_in (d := d - 1) (by omega) ⟨by omega, by omega⟩ ⟨by omega, by omega⟩ ⟨by omega, by omega⟩) ml_X7_72 dX7_write_11 rfl rfl rfl (by omega) (Nat.le_of_ble_eq_true rfl) (Nat.zero_le _) (Nat.zero_le _) ?_
  refine ac_bif_ne (q := 17) (tgt := 20) dX7_write_14 rfl rfl (fun h14 => ?_) (fun h14 => ?_)
  · refine ac_aload_n (q := 21) dX7_write_20 rfl rfl ?_
    refine ac_get (q := 24) dX7_write_21 fl_X7_76 kx rfl (ac_rdi rfl a2) ?_
    refine ac_bipush (q := 26) dX7_write_24 rfl (by decide) ?_
    refine ac_icmp_ne (q := 29) (tgt := 32) dX7_write_26 rfl rfl ⟨by omega, by omega⟩ ⟨by omega, by omega⟩ (fun h26 => ?_) (fun h26 => ?_)
    · refine ac_aload_n (q := 33) dX7_write_32 rfl rfl ?_
      refine ac_get (q := 36) dX7_write_33 fl_X7_7 (by assumption) rfl (ac_rdr rfl hM9.1.1) ?_
      refine ac_aload_n (q := 37) dX7_write_36 rfl rfl ?_
      refine ac_get (q := 40) dX7_write_37 fl_X7_76 kx rfl (ac_rdi rfl a2) ?_
      refine ac_iload_n (q := 41) dX7_write_40 rfl rfl ?_
      obtain ⟨v, rfl⟩ := Int.eq_ofNat_of_zero_le (a := v) (by omega)
      refine ac_iastoreN (q := 42) (j := s.length) dX7_write_41 k1 (by decide) (by omega) rfl ?_
      have a2b : ac_up m0 (x + 1) s.length (v : Int) x 2 = (s.length : Int) := by rw [ac_up_k (by omega)]; exact a2
      refine ac_aload_n (q := 43) dX7_write_42 rfl rfl ?_
      refine ac_dup (q := 44) dX7_write_43 rfl (show (2 : Nat) ≠ 1 by decide) ?_
      refine ac_get (q := 47) dX7_write_44 fl_X7_76 kx rfl (ac_rdi rfl a2b) ?_
      refine ac_iconst (q := 48) dX7_write_47 rfl ?_
      refine ac_iadd (q := 49) dX7_write_48 rfl ?_
      refine ac_put (q := 52) dX7_write_49 fl_X7_76 (by assumption) rfl rfl ?_
      refine ac_aload_n (q := 53) dX7_write_52 rfl rfl ?_
      refine ac_get (q := 56) dX7_write_53 fl_X7_76 kx rfl (ac_rdi (v := (s.length : Int) + 1) rfl ac_up_s) ?_
      refine ac_ireturn dX7_write_56 rfl (Nat.zero_le _) (Nat.zero_le _) ?_
      have e1' := e1
      have e2' := e2
      clear e1 e2
      have e1 : 0 ≤ (v : Int) ∧ (v : Int) ≤ 255 := by omega
      have e2 : s.length < 60 := by omega
      simp only [if_pos e1, if_neg (fun q : ¬ (0 ≤ (v : Int) ∧ (v : Int) ≤ 255) => q e1), if_pos e2, Int.toNat_natCast]
      have hK : ∀ k', k' ≠ x → k' ≠ x + 1 → ac_up (ac_up m0 (x + 1) s.length (v : Int)) x 2 ((s.length : Int) + 1) k' = m0 k' := fun k' h1 h2 => by funext j; rw [ac_up_k h1, ac_up_k h2]
      have hX : ∀ j, j ≠ 2 → ac_up (ac_up m0 (x + 1) s.length (v : Int)) x 2 ((s.length : Int) + 1) x j = m0 x j := fun j hj => by rw [ac_up_j hj, ac_up_k (by omega)]
      refine ⟨rfl, rfl, ⟨⟨⟨by rw [List.length_append, List.length_singleton]; omega, fun z hz => ?_⟩, by rw [ac_up_s, List.length_append]; rfl, fun i hi => ?_⟩, ⟨by rw [hX 4 (by decide)]; exact b1, ac_RP_keep b2 (hK _ (by omega) (by omega))⟩, ⟨c1, by rw [hX 10 (by decide)]; exact c2, fun i T2 hi => ⟨(c3 i T2 hi).1, ac_RP_keep (c3 i T2 hi).2 (ac_sh_k (hK _ (by omega) (by omega)))⟩⟩, ⟨⟨by rw [hK _ (by omega) (by omega)]; exact d1, by rw [hK _ (by omega) (by omega)]; exact d2⟩, fun T2 hT => ⟨(d3 T2 hT).1, ac_RP_keep (d3 T2 hT).2 (ac_sh_k (hK _ (by omega) (by omega)))⟩, fun T2 hT => ⟨(d4 T2 hT).1, ac_RP_keep (d4 T2 hT).2 (ac_sh_k (hK _ (by omega) (by omega)))⟩⟩, ⟨e1', by rw [hX 13 (by decide)]; exact e2', by rw [hK (x + 8) (by omega) (by omega), hK (x + 9) (by omega) (by omega), hK (x + 10) (by omega) (by omega)]; exact e3⟩, by rw [hX 17 (by decide)]; exact ff⟩, fun k' hk' => by rw [hK k' (by omega) (by omega), F0 k' hk']⟩
      · rcases List.mem_append.mp hz with hz | hz
        · exact a1.2 z hz
        · rw [List.mem_singleton.mp hz]; omega
      · rw [ac_up_k (by omega)]
        by_cases hi2 : i = s.length
        · subst hi2; rw [ac_up_s]; unfold ac_ch; rw [List.getD_eq_getElem?_getD, List.getElem?_append_right (Nat.le_refl _), Nat.sub_self]; rfl
        · have hi3 : i < s.length := by rw [List.length_append, List.length_singleton] at hi; omega
          rw [ac_up_j hi2, a3 i hi3]; unfold ac_ch; rw [List.getD_eq_getElem?_getD, List.getD_eq_getElem?_getD, List.getElem?_append_left hi3]
    · refine ac_bipush (q := 31) dX7_write_29 rfl (by decide) ?_
      refine ac_ireturn dX7_write_31 rfl (Nat.zero_le _) (Nat.zero_le _) ?_
      have e1 : 0 ≤ v ∧ v ≤ 255 := by omega
      have e2 : ¬ s.length < 60 := by omega
      rw [if_pos e1, if_neg (fun q => q e1), if_neg e2, if_neg e2]; exact ⟨rfl, rfl, A0, F0⟩
  · refine ac_bipush (q := 19) dX7_write_17 rfl (by decide) ?_
    refine ac_ireturn dX7_write_19 rfl (Nat.zero_le _) (Nat.zero_le _) ?_
    have e1 : ¬ (0 ≤ v ∧ v ≤ 255) := by omega
    rw [if_neg e1, if_pos e1]; exact ⟨rfl, rfl, A0, F0⟩

set_option maxHeartbeats 8000000 in
theorem k_X7_wipe {G : ac_G} {Y : ac_Y} {mm : ac_M} {d x : Nat} {s : List Nat} {T : ac_Tk} {hs : List ac_Tk} {s0 s1 : Option ac_Tk} {obs : List ac_Ob} {ch : Int} (hd : 30 ≤ d) (hM : ac_isM Y x) (hR : ac_RM mm x s T hs s0 s1 obs ch)  : ac_C G yX7_wipe cX7_wipe 2 (some .int) d 0 0 Y mm [(2, (x : Int))] (ac_R Y [(0, (s.length : Int))] (fun m => ac_RM m x [] T hs s0 s1 obs ch ∧ ac_fM mm m x)) := by
  have hM9 := hM
  obtain ⟨kx, k1, k2, k3, k4, k5, k6, k7, k8, k9, k10, k11, k12, k13, k14, k15, k16⟩ := hM.2
  obtain ⟨-, ⟨hkk, hPg⟩, -⟩ := id hR
  obtain ⟨⟨⟨hn1, hn2⟩, ⟨hk2, hk3⟩, hE, hp0, hpr, hc0⟩, -⟩ := id hPg
  have hE4 := hE.1
  have hLn := ac_Lt_len T hn2
  refine ac_met (on := (RX7, "wipe")) rfl rfl (Nat.le_of_ble_eq_true rfl) (ls := [(2, (x : Int)), (3, 0)]) rfl ?_
  refine ac_aload_n (q := 1) dX7_wipe_0 rfl rfl ?_
  refine ac_iconst (q := 2) dX7_wipe_1 rfl ?_
  refine ac_put (q := 5) dX7_wipe_2 fl_X7_67 (by assumption) rfl rfl ?_
  have A0 := ac_up0_RM hR
  have F0 : ac_fM mm (ac_up mm x 0 0) x := ac_up0_fM
  generalize ac_up mm x 0 0 = m0 at *
  obtain ⟨q4, qP⟩ := A0.2.1
  obtain ⟨-, p0, p1, pE, pp, p28, pcb, pcl⟩ := id qP
  obtain ⟨⟨a1, a2, a3⟩, ⟨b1, b2⟩, ⟨c1, c2, c3⟩, ⟨⟨d1, d2⟩, d3, d4⟩, ⟨e1, e2, e3⟩, ff⟩ := id A0
  have hs60 := a1.1
  refine ac_aload_n (q := 6) dX7_wipe_5 rfl rfl ?_
  refine ac_get (q := 9) dX7_wipe_6 fl_X7_76 kx rfl (ac_rdi rfl a2) ?_
  refine ac_istore_n (q := 10) (j := 1) rfl dX7_wipe_9 rfl (Nat.le_of_ble_eq_true rfl) rfl rfl ?_
  simp only [List.set_cons_succ, List.set_cons_zero]
  refine ac_aload_n (q := 11) dX7_wipe_10 rfl rfl ?_
  refine ac_iconst (q := 12) dX7_wipe_11 rfl ?_
  refine ac_put (q := 15) dX7_wipe_12 fl_X7_76 (by assumption) rfl rfl ?_
  refine ac_iload_n (q := 16) dX7_wipe_15 rfl rfl ?_
  refine ac_ireturn dX7_wipe_16 rfl (Nat.zero_le _) (Nat.zero_le _) ?_
  have hK : ∀ k', k' ≠ x → ac_up m0 x 2 0 k' = m0 k' := fun k' h1 => by funext j; rw [ac_up_k h1]
  have hX : ∀ j, j ≠ 2 → ac_up m0 x 2 0 x j = m0 x j := fun j hj => ac_up_j hj
  have hF : ac_fM mm (ac_up m0 x 2 0) x := fun k' hk' => by rw [hK k' (by omega), F0 k' hk']
  exact ⟨rfl, rfl, ⟨⟨⟨by simp, fun v h => (by cases h)⟩, ac_up_s, fun i h => by simp at h⟩, ⟨by rw [hX 4 (by decide)]; exact b1, ac_RP_keep b2 (hK _ (by omega))⟩, ⟨c1, by rw [hX 10 (by decide)]; exact c2, fun i T2 hi => ⟨(c3 i T2 hi).1, ac_RP_keep (c3 i T2 hi).2 (ac_sh_k (hK _ (by omega)))⟩⟩, ⟨⟨by rw [hK _ (by omega)]; exact d1, by rw [hK _ (by omega)]; exact d2⟩, fun T2 hT => ⟨(d3 T2 hT).1, ac_RP_keep (d3 T2 hT).2 (ac_sh_k (hK _ (by omega)))⟩, fun T2 hT => ⟨(d4 T2 hT).1, ac_RP_keep (d4 T2 hT).2 (ac_sh_k (hK _ (by omega)))⟩⟩, ⟨e1, by rw [hX 13 (by decide)]; exact e2, by rw [hK (x + 8) (by omega), hK (x + 9) (by omega), hK (x + 10) (by omega)]; exact e3⟩, by rw [hX 17 (by decide)]; exact ff⟩, hF⟩

set_option maxHeartbeats 8000000 in
theorem k_X7_unsee {G : ac_G} {Y : ac_Y} {mm : ac_M} {d x : Nat} {s : List Nat} {T : ac_Tk} {hs : List ac_Tk} {s0 s1 : Option ac_Tk} {obs : List ac_Ob} {ch : Int} (hd : 30 ≤ d) (hM : ac_isM Y x) (hR : ac_RM mm x s T hs s0 s1 obs ch)  : ac_C G yX7_unsee cX7_unsee 2 (some .int) d 0 0 Y mm [(2, (x : Int))] (ac_R Y [(0, (obs.length : Int))] (fun m => ac_RM m x s T hs s0 s1 [] ch ∧ ac_fM mm m x)) := by
  have hM9 := hM
  obtain ⟨kx, k1, k2, k3, k4, k5, k6, k7, k8, k9, k10, k11, k12, k13, k14, k15, k16⟩ := hM.2
  obtain ⟨-, ⟨hkk, hPg⟩, -⟩ := id hR
  obtain ⟨⟨⟨hn1, hn2⟩, ⟨hk2, hk3⟩, hE, hp0, hpr, hc0⟩, -⟩ := id hPg
  have hE4 := hE.1
  have hLn := ac_Lt_len T hn2
  refine ac_met (on := (RX7, "unsee")) rfl rfl (Nat.le_of_ble_eq_true rfl) (ls := [(2, (x : Int)), (3, 0)]) rfl ?_
  refine ac_aload_n (q := 1) dX7_unsee_0 rfl rfl ?_
  refine ac_iconst (q := 2) dX7_unsee_1 rfl ?_
  refine ac_put (q := 5) dX7_unsee_2 fl_X7_67 (by assumption) rfl rfl ?_
  have A0 := ac_up0_RM hR
  have F0 : ac_fM mm (ac_up mm x 0 0) x := ac_up0_fM
  generalize ac_up mm x 0 0 = m0 at *
  obtain ⟨q4, qP⟩ := A0.2.1
  obtain ⟨-, p0, p1, pE, pp, p28, pcb, pcl⟩ := id qP
  obtain ⟨⟨a1, a2, a3⟩, ⟨b1, b2⟩, ⟨c1, c2, c3⟩, ⟨⟨d1, d2⟩, d3, d4⟩, ⟨e1, e2, e3⟩, ff⟩ := id A0
  have he6 := e1.1
  refine ac_aload_n (q := 6) dX7_unsee_5 rfl rfl ?_
  refine ac_get (q := 9) dX7_unsee_6 fl_X7_253 kx rfl (ac_rdi rfl e2) ?_
  refine ac_istore_n (q := 10) (j := 1) rfl dX7_unsee_9 rfl (Nat.le_of_ble_eq_true rfl) rfl rfl ?_
  simp only [List.set_cons_succ, List.set_cons_zero]
  refine ac_aload_n (q := 11) dX7_unsee_10 rfl rfl ?_
  refine ac_iconst (q := 12) dX7_unsee_11 rfl ?_
  refine ac_put (q := 15) dX7_unsee_12 fl_X7_253 (by assumption) rfl rfl ?_
  refine ac_iload_n (q := 16) dX7_unsee_15 rfl rfl ?_
  refine ac_ireturn dX7_unsee_16 rfl (Nat.zero_le _) (Nat.zero_le _) ?_
  have hK : ∀ k', k' ≠ x → ac_up m0 x 13 0 k' = m0 k' := fun k' h1 => by funext j; rw [ac_up_k h1]
  have hX : ∀ j, j ≠ 13 → ac_up m0 x 13 0 x j = m0 x j := fun j hj => ac_up_j hj
  have hF : ac_fM mm (ac_up m0 x 13 0) x := fun k' hk' => by rw [hK k' (by omega), F0 k' hk']
  exact ⟨rfl, rfl, ⟨⟨a1, by rw [hX 2 (by decide)]; exact a2, by rw [hK _ (by omega)]; exact a3⟩, ⟨by rw [hX 4 (by decide)]; exact b1, ac_RP_keep b2 (hK _ (by omega))⟩, ⟨c1, by rw [hX 10 (by decide)]; exact c2, fun i T2 hi => ⟨(c3 i T2 hi).1, ac_RP_keep (c3 i T2 hi).2 (ac_sh_k (hK _ (by omega)))⟩⟩, ⟨⟨by rw [hK _ (by omega)]; exact d1, by rw [hK _ (by omega)]; exact d2⟩, fun T2 hT => ⟨(d3 T2 hT).1, ac_RP_keep (d3 T2 hT).2 (ac_sh_k (hK _ (by omega)))⟩, fun T2 hT => ⟨(d4 T2 hT).1, ac_RP_keep (d4 T2 hT).2 (ac_sh_k (hK _ (by omega)))⟩⟩, ⟨⟨by simp, fun v h => (by cases h)⟩, ac_up_s, fun i o h => by simp at h⟩, by rw [hX 17 (by decide)]; exact ff⟩, hF⟩

set_option maxHeartbeats 8000000 in
theorem k_X7_seed {G : ac_G} {Y : ac_Y} {mm : ac_M} {d x : Nat} {s : List Nat} {T : ac_Tk} {hs : List ac_Tk} {s0 s1 : Option ac_Tk} {obs : List ac_Ob} {ch : Int} {v : Int} (hd : 30 ≤ d) (hM : ac_isM Y x) (hR : ac_RM mm x s T hs s0 s1 obs ch)  : ac_C G yX7_seed cX7_seed 5 (some .long) d 0 0 Y mm [(2, (x : Int)), (1, v)] (ac_R Y [(1, ch)] (fun m => ac_RM m x s T hs s0 s1 obs v ∧ ac_fM mm m x)) := by
  have hM9 := hM
  obtain ⟨kx, k1, k2, k3, k4, k5, k6, k7, k8, k9, k10, k11, k12, k13, k14, k15, k16⟩ := hM.2
  obtain ⟨-, ⟨hkk, hPg⟩, -⟩ := id hR
  obtain ⟨⟨⟨hn1, hn2⟩, ⟨hk2, hk3⟩, hE, hp0, hpr, hc0⟩, -⟩ := id hPg
  have hE4 := hE.1
  have hLn := ac_Lt_len T hn2
  refine ac_met (on := (RX7, "seed")) rfl rfl (Nat.le_of_ble_eq_true rfl) (ls := [(2, (x : Int)), (1, v), (3, 0), (3, 0), (3, 0)]) rfl ?_
  refine ac_aload_n (q := 1) dX7_seed_0 rfl rfl ?_
  refine ac_iconst (q := 2) dX7_seed_1 rfl ?_
  refine ac_put (q := 5) dX7_seed_2 fl_X7_67 (by assumption) rfl rfl ?_
  have A0 := ac_up0_RM hR
  have F0 : ac_fM mm (ac_up mm x 0 0) x := ac_up0_fM
  generalize ac_up mm x 0 0 = m0 at *
  obtain ⟨q4, qP⟩ := A0.2.1
  obtain ⟨-, p0, p1, pE, pp, p28, pcb, pcl⟩ := id qP
  obtain ⟨⟨a1, a2, a3⟩, ⟨b1, b2⟩, ⟨c1, c2, c3⟩, ⟨⟨d1, d2⟩, d3, d4⟩, ⟨e1, e2, e3⟩, ff⟩ := id A0
  refine ac_aload_n (q := 6) dX7_seed_5 rfl rfl ?_
  refine ac_get (q := 9) dX7_seed_6 fl_X7_269 kx rfl (w := (1, ch)) (by show (1, m0 x 17) = _; rw [ff]) ?_
  refine ac_lstore_n (q := 10) (j := 3) rfl dX7_seed_9 rfl (Nat.le_of_ble_eq_true rfl) rfl rfl ?_
  simp only [List.set_cons_succ, List.set_cons_zero]
  refine ac_aload_n (q := 11) dX7_seed_10 rfl rfl ?_
  refine ac_lload_n (q := 12) dX7_seed_11 rfl rfl ?_
  refine ac_putL (q := 15) dX7_seed_12 fl_X7_269 (by assumption) rfl rfl ?_
  refine ac_lload_n (q := 16) dX7_seed_15 rfl rfl ?_
  refine ac_lreturn dX7_seed_16 rfl (Nat.zero_le _) (Nat.zero_le _) ?_
  have hK : ∀ k', k' ≠ x → ac_up m0 x 17 v k' = m0 k' := fun k' h1 => by funext j; rw [ac_up_k h1]
  have hX : ∀ j, j ≠ 17 → ac_up m0 x 17 v x j = m0 x j := fun j hj => ac_up_j hj
  have hF : ac_fM mm (ac_up m0 x 17 v) x := fun k' hk' => by rw [hK k' (by omega), F0 k' hk']
  exact ⟨rfl, rfl, ⟨⟨a1, by rw [hX 2 (by decide)]; exact a2, by rw [hK _ (by omega)]; exact a3⟩, ⟨by rw [hX 4 (by decide)]; exact b1, ac_RP_keep b2 (hK _ (by omega))⟩, ⟨c1, by rw [hX 10 (by decide)]; exact c2, fun i T2 hi => ⟨(c3 i T2 hi).1, ac_RP_keep (c3 i T2 hi).2 (ac_sh_k (hK _ (by omega)))⟩⟩, ⟨⟨by rw [hK _ (by omega)]; exact d1, by rw [hK _ (by omega)]; exact d2⟩, fun T2 hT => ⟨(d3 T2 hT).1, ac_RP_keep (d3 T2 hT).2 (ac_sh_k (hK _ (by omega)))⟩, fun T2 hT => ⟨(d4 T2 hT).1, ac_RP_keep (d4 T2 hT).2 (ac_sh_k (hK _ (by omega)))⟩⟩, ⟨e1, by rw [hX 13 (by decide)]; exact e2, by rw [hK (x + 8) (by omega), hK (x + 9) (by omega), hK (x + 10) (by omega)]; exact e3⟩, ac_up_s⟩, hF⟩

set_option maxHeartbeats 8000000 in
theorem k_X7_see {G : ac_G} {Y : ac_Y} {mm : ac_M} {d x : Nat} {s : List Nat} {T : ac_Tk} {hs : List ac_Tk} {s0 s1 : Option ac_Tk} {obs : List ac_Ob} {ch : Int} {a b e : Int} (hd : 30 ≤ d) (hM : ac_isM Y x) (hR : ac_RM mm x s T hs s0 s1 obs ch) (ha : ac_in a) (hb : ac_in b) (he : ac_in e) : ac_C G yX7_see cX7_see 4 (some .int) d 0 0 Y mm [(2, (x : Int)), (0, a), (0, b), (0, e)] (ac_R Y [(0, (@ite _ (ac_seeok a b e) (ac_seeokd a b e) (if obs.length < 6 then (obs.length : Int) + 1 else -4) (-2)))] (fun m => ac_RM m x s T hs s0 s1 (@ite _ (ac_seeok a b e) (ac_seeokd a b e) (if obs.length < 6 then obs ++ [(a.toNat, b.toNat, e.toNat)] else obs) obs) ch ∧ ac_fM mm m x)) := by
  have hM9 := hM
  obtain ⟨kx, k1, k2, k3, k4, k5, k6, k7, k8, k9, k10, k11, k12, k13, k14, k15, k16⟩ := hM.2
  obtain ⟨-, ⟨hkk, hPg⟩, -⟩ := id hR
  obtain ⟨⟨⟨hn1, hn2⟩, ⟨hk2, hk3⟩, hE, hp0, hpr, hc0⟩, -⟩ := id hPg
  have hE4 := hE.1
  have hLn := ac_Lt_len T hn2
  obtain ⟨ha1, ha2⟩ := ha
  obtain ⟨hb1, hb2⟩ := hb
  obtain ⟨he1, he2⟩ := he
  refine ac_met (on := (RX7, "see")) rfl rfl (Nat.le_of_ble_eq_true rfl) (ls := [(2, (x : Int)), (0, a), (0, b), (0, e)]) rfl ?_
  refine ac_aload_n (q := 1) dX7_see_0 rfl rfl ?_
  refine ac_iconst (q := 2) dX7_see_1 rfl ?_
  refine ac_put (q := 5) dX7_see_2 fl_X7_67 (by assumption) rfl rfl ?_
  have A0 := ac_up0_RM hR
  have F0 : ac_fM mm (ac_up mm x 0 0) x := ac_up0_fM
  generalize ac_up mm x 0 0 = m0 at *
  obtain ⟨q4, qP⟩ := A0.2.1
  obtain ⟨-, p0, p1, pE, pp, p28, pcb, pcl⟩ := id qP
  obtain ⟨⟨a1, a2, a3⟩, ⟨b1, b2⟩, ⟨c1, c2, c3⟩, ⟨⟨d1, d2⟩, d3, d4⟩, ⟨e1, e2, e3⟩, ff⟩ := id A0
  have he6 := e1.1
  refine ac_iload_n (q := 6) dX7_see_5 rfl rfl ?_
  refine ac_i2l (q := 7) dX7_see_6 rfl ⟨by omega, by omega⟩ ?_
  refine ac_lconst (q := 8) (v := 1) dX7_see_7 rfl (by decide) ?_
  refine ac_ldc2_w (q := 11) (v := 10) dX7_see_8 rfl ct_X7_215 ?_
  refine ac_csp (q := 14) (k_X7_in (d := d - 1) (by omega) ⟨by omega, by omega⟩ ⟨by omega, by omega⟩ ⟨by omega, by omega⟩) ml_X7_72 dX7_see_11 rfl rfl rfl (by omega) (Nat.le_of_ble_eq_true rfl) (Nat.zero_le _) (Nat.zero_le _) ?_
  refine ac_bif_eq (q := 17) (tgt := 44) dX7_see_14 rfl rfl (fun h14 => ?_) (fun h14 => ?_)
  · refine ac_bipush (q := 46) dX7_see_44 rfl (by decide) ?_
    refine ac_ireturn dX7_see_46 rfl (Nat.zero_le _) (Nat.zero_le _) ?_
    have hno : ¬ ac_seeok a b e := fun q => by unfold ac_seeok at q; omega
    rw [if_neg hno, if_neg hno]; exact ⟨rfl, rfl, A0, F0⟩
  · refine ac_iload_n (q := 18) dX7_see_17 rfl rfl ?_
    refine ac_i2l (q := 19) dX7_see_18 rfl ⟨by omega, by omega⟩ ?_
    refine ac_lconst (q := 20) (v := 1) dX7_see_19 rfl (by decide) ?_
    refine ac_ldc2_w (q := 23) (v := 10) dX7_see_20 rfl ct_X7_215 ?_
    refine ac_csp (q := 26) (k_X7_in (d := d - 1) (by omega) ⟨by omega, by omega⟩ ⟨by omega, by omega⟩ ⟨by omega, by omega⟩) ml_X7_72 dX7_see_23 rfl rfl rfl (by omega) (Nat.le_of_ble_eq_true rfl) (Nat.zero_le _) (Nat.zero_le _) ?_
    refine ac_bif_eq (q := 29) (tgt := 44) dX7_see_26 rfl rfl (fun h26 => ?_) (fun h26 => ?_)
    · refine ac_bipush (q := 46) dX7_see_44 rfl (by decide) ?_
      refine ac_ireturn dX7_see_46 rfl (Nat.zero_le _) (Nat.zero_le _) ?_
      have hno : ¬ ac_seeok a b e := fun q => by unfold ac_seeok at q; omega
      rw [if_neg hno, if_neg hno]; exact ⟨rfl, rfl, A0, F0⟩
    · refine ac_iload_n (q := 30) dX7_see_29 rfl rfl ?_
      refine ac_iload_n (q := 31) dX7_see_30 rfl rfl ?_
      refine ac_icmp_eq (q := 34) (tgt := 44) dX7_see_31 rfl rfl ⟨by omega, by omega⟩ ⟨by omega, by omega⟩ (fun h31 => ?_) (fun h31 => ?_)
      · refine ac_bipush (q := 46) dX7_see_44 rfl (by decide) ?_
        refine ac_ireturn dX7_see_46 rfl (Nat.zero_le _) (Nat.zero_le _) ?_
        have hno : ¬ ac_seeok a b e := fun q => by unfold ac_seeok at q; omega
        rw [if_neg hno, if_neg hno]; exact ⟨rfl, rfl, A0, F0⟩
      · refine ac_iload_n (q := 35) dX7_see_34 rfl rfl ?_
        refine ac_i2l (q := 36) dX7_see_35 rfl ⟨by omega, by omega⟩ ?_
        refine ac_lconst (q := 37) (v := 0) dX7_see_36 rfl (by decide) ?_
        refine ac_lconst (q := 38) (v := 1) dX7_see_37 rfl (by decide) ?_
        refine ac_csp (q := 41) (k_X7_in (d := d - 1) (by omega) ⟨by omega, by omega⟩ ⟨by omega, by omega⟩ ⟨by omega, by omega⟩) ml_X7_72 dX7_see_38 rfl rfl rfl (by omega) (Nat.le_of_ble_eq_true rfl) (Nat.zero_le _) (Nat.zero_le _) ?_
        refine ac_bif_ne (q := 44) (tgt := 47) dX7_see_41 rfl rfl (fun h41 => ?_) (fun h41 => ?_)
        · have hyes : ac_seeok a b e := ⟨⟨⟨by omega, by omega⟩, ⟨by omega, by omega⟩⟩, by omega, by omega, by omega⟩
          rw [if_pos hyes, if_pos hyes]
          obtain ⟨a, rfl⟩ := Int.eq_ofNat_of_zero_le (a := a) (by omega)
          obtain ⟨b, rfl⟩ := Int.eq_ofNat_of_zero_le (a := b) (by omega)
          obtain ⟨e, rfl⟩ := Int.eq_ofNat_of_zero_le (a := e) (by omega)
          simp only [Int.toNat_natCast]
          refine ac_aload_n (q := 48) dX7_see_47 rfl rfl ?_
          refine ac_get (q := 51) dX7_see_48 fl_X7_253 kx rfl (ac_rdi (v := (obs.length : Int)) rfl (by  exact e2)) ?_
          refine ac_bipush (q := 53) dX7_see_51 rfl (by decide) ?_
          refine ac_icmp_ne (q := 56) (tgt := 59) dX7_see_53 rfl rfl ⟨by omega, by omega⟩ ⟨by omega, by omega⟩ (fun h53 => ?_) (fun h53 => ?_)
          · refine ac_aload_n (q := 60) dX7_see_59 rfl rfl ?_
            refine ac_get (q := 63) dX7_see_60 fl_X7_36 (by assumption) rfl (ac_rdr rfl hM9.1.2.2.2.2.2.2.2.1) ?_
            refine ac_aload_n (q := 64) dX7_see_63 rfl rfl ?_
            refine ac_get (q := 67) dX7_see_64 fl_X7_253 kx rfl (ac_rdi (v := (obs.length : Int)) rfl (by  exact e2)) ?_
            refine ac_iload_n (q := 68) dX7_see_67 rfl rfl ?_
            refine ac_iastoreN (q := 69) (j := obs.length) dX7_see_68 k8 (by decide) (by omega) rfl ?_
            refine ac_aload_n (q := 70) dX7_see_69 rfl rfl ?_
            refine ac_get (q := 73) dX7_see_70 fl_X7_39 (by assumption) rfl (ac_rdr rfl hM9.1.2.2.2.2.2.2.2.2.1) ?_
            refine ac_aload_n (q := 74) dX7_see_73 rfl rfl ?_
            refine ac_get (q := 77) dX7_see_74 fl_X7_253 kx rfl (ac_rdi (v := (obs.length : Int)) rfl (by rw [ac_up_k (by omega)]; exact e2)) ?_
            refine ac_iload_n (q := 78) dX7_see_77 rfl rfl ?_
            refine ac_iastoreN (q := 79) (j := obs.length) dX7_see_78 k9 (by decide) (by omega) rfl ?_
            refine ac_aload_n (q := 80) dX7_see_79 rfl rfl ?_
            refine ac_get (q := 83) dX7_see_80 fl_X7_42 (by assumption) rfl (ac_rdr rfl hM9.1.2.2.2.2.2.2.2.2.2.1) ?_
            refine ac_aload_n (q := 84) dX7_see_83 rfl rfl ?_
            refine ac_get (q := 87) dX7_see_84 fl_X7_253 kx rfl (ac_rdi (v := (obs.length : Int)) rfl (by rw [ac_up_k (by omega), ac_up_k (by omega)]; exact e2)) ?_
            refine ac_iload_n (q := 88) dX7_see_87 rfl rfl ?_
            refine ac_iastoreN (q := 89) (j := obs.length) dX7_see_88 k10 (by decide) (by omega) rfl ?_
            refine ac_aload_n (q := 90) dX7_see_89 rfl rfl ?_
            refine ac_dup (q := 91) dX7_see_90 rfl (show (2 : Nat) ≠ 1 by decide) ?_
            refine ac_get (q := 94) dX7_see_91 fl_X7_253 kx rfl (ac_rdi (v := (obs.length : Int)) rfl (by rw [ac_up_k (by omega), ac_up_k (by omega), ac_up_k (by omega)]; exact e2)) ?_
            refine ac_iconst (q := 95) dX7_see_94 rfl ?_
            refine ac_iadd (q := 96) dX7_see_95 rfl ?_
            refine ac_put (q := 99) dX7_see_96 fl_X7_253 (by assumption) rfl rfl ?_
            refine ac_aload_n (q := 100) dX7_see_99 rfl rfl ?_
            refine ac_get (q := 103) dX7_see_100 fl_X7_253 kx rfl (ac_rdi (v := (obs.length : Int) + 1) rfl ac_up_s) ?_
            refine ac_ireturn dX7_see_103 rfl (Nat.zero_le _) (Nat.zero_le _) ?_
            have h6 : obs.length < 6 := by omega
            rw [if_pos h6, if_pos h6]
            have hK : ∀ k', k' ≠ x → k' ≠ x + 8 → k' ≠ x + 9 → k' ≠ x + 10 → (ac_up (ac_up (ac_up (ac_up m0 (x + 8) obs.length (a : Int)) (x + 9) obs.length (b : Int)) (x + 10) obs.length (e : Int)) x 13 ((obs.length : Int) + 1)) k' = m0 k' := fun k' h1 h2 h3 h4 => by funext j; rw [ac_up_k h1, ac_up_k h4, ac_up_k h3, ac_up_k h2]
            have hX : ∀ j, j ≠ 13 → (ac_up (ac_up (ac_up (ac_up m0 (x + 8) obs.length (a : Int)) (x + 9) obs.length (b : Int)) (x + 10) obs.length (e : Int)) x 13 ((obs.length : Int) + 1)) x j = m0 x j := fun j hj => by rw [ac_up_j hj, ac_up_k (by omega), ac_up_k (by omega), ac_up_k (by omega)]
            have h8 : ∀ j, (ac_up (ac_up (ac_up (ac_up m0 (x + 8) obs.length (a : Int)) (x + 9) obs.length (b : Int)) (x + 10) obs.length (e : Int)) x 13 ((obs.length : Int) + 1)) (x + 8) j = if j = obs.length then (a : Int) else m0 (x + 8) j := fun j => by unfold ac_up; simp
            have h9 : ∀ j, (ac_up (ac_up (ac_up (ac_up m0 (x + 8) obs.length (a : Int)) (x + 9) obs.length (b : Int)) (x + 10) obs.length (e : Int)) x 13 ((obs.length : Int) + 1)) (x + 9) j = if j = obs.length then (b : Int) else m0 (x + 9) j := fun j => by unfold ac_up; simp
            have h10 : ∀ j, (ac_up (ac_up (ac_up (ac_up m0 (x + 8) obs.length (a : Int)) (x + 9) obs.length (b : Int)) (x + 10) obs.length (e : Int)) x 13 ((obs.length : Int) + 1)) (x + 10) j = if j = obs.length then (e : Int) else m0 (x + 10) j := fun j => by unfold ac_up; simp
            have h13 : (ac_up (ac_up (ac_up (ac_up m0 (x + 8) obs.length (a : Int)) (x + 9) obs.length (b : Int)) (x + 10) obs.length (e : Int)) x 13 ((obs.length : Int) + 1)) x 13 = (obs.length : Int) + 1 := ac_up_s
            generalize (ac_up (ac_up (ac_up (ac_up m0 (x + 8) obs.length (a : Int)) (x + 9) obs.length (b : Int)) (x + 10) obs.length (e : Int)) x 13 ((obs.length : Int) + 1)) = m4 at *
            refine ⟨rfl, rfl, ⟨⟨a1, by rw [hX 2 (by decide)]; exact a2, by rw [hK _ (by omega) (by omega) (by omega) (by omega)]; exact a3⟩, ⟨by rw [hX 4 (by decide)]; exact b1, ac_RP_keep b2 (hK _ (by omega) (by omega) (by omega) (by omega))⟩, ⟨c1, by rw [hX 10 (by decide)]; exact c2, fun i T2 hi => ⟨(c3 i T2 hi).1, ac_RP_keep (c3 i T2 hi).2 (ac_sh_k (hK _ (by omega) (by omega) (by omega) (by omega)))⟩⟩, ⟨⟨by rw [hK _ (by omega) (by omega) (by omega) (by omega)]; exact d1, by rw [hK _ (by omega) (by omega) (by omega) (by omega)]; exact d2⟩, fun T2 hT => ⟨(d3 T2 hT).1, ac_RP_keep (d3 T2 hT).2 (ac_sh_k (hK _ (by omega) (by omega) (by omega) (by omega)))⟩, fun T2 hT => ⟨(d4 T2 hT).1, ac_RP_keep (d4 T2 hT).2 (ac_sh_k (hK _ (by omega) (by omega) (by omega) (by omega)))⟩⟩, ⟨⟨by rw [List.length_append, List.length_singleton]; omega, fun o ho => ?_⟩, by rw [h13, List.length_append]; rfl, fun i o hi => ?_⟩, by rw [hX 17 (by decide)]; exact ff⟩, fun k' hk' => by rw [hK k' (by omega) (by omega) (by omega) (by omega), F0 k' hk']⟩
            · rcases List.mem_append.mp ho with ho | ho
              · exact e1.2 o ho
              · rw [List.mem_singleton.mp ho]; exact ⟨show 1 ≤ a ∧ a ≤ 10 by omega, show 1 ≤ b ∧ b ≤ 10 by omega, show a ≠ b by omega, show e = 0 ∨ e = 1 by omega⟩
            · rw [h8, h9, h10]
              by_cases hil : i = obs.length
              · subst hil
                rw [List.getElem?_append_right (Nat.le_refl _), Nat.sub_self] at hi
                cases hi
                rw [if_pos rfl, if_pos rfl, if_pos rfl]; exact ⟨rfl, rfl, rfl⟩
              · have := (List.getElem?_eq_some_iff.mp hi).1
                rw [List.length_append, List.length_singleton] at this
                rw [List.getElem?_append_left (by omega)] at hi
                rw [if_neg hil, if_neg hil, if_neg hil]; exact e3 i o hi
          · refine ac_bipush (q := 58) dX7_see_56 rfl (by decide) ?_
            refine ac_ireturn dX7_see_58 rfl (Nat.zero_le _) (Nat.zero_le _) ?_
            have h6 : ¬ obs.length < 6 := by omega
            rw [if_neg h6, if_neg h6]; exact ⟨rfl, rfl, A0, F0⟩
        · refine ac_bipush (q := 46) dX7_see_44 rfl (by decide) ?_
          refine ac_ireturn dX7_see_46 rfl (Nat.zero_le _) (Nat.zero_le _) ?_
          have hno : ¬ ac_seeok a b e := fun q => by unfold ac_seeok at q; omega
          rw [if_neg hno, if_neg hno]; exact ⟨rfl, rfl, A0, F0⟩

theorem ac_pins_10 {pin : Nat → Int} {n : Nat} (h : ∀ i, n < i → pin i = -1) : ∀ m, n ≤ m → ac_pins pin m = ac_pins pin n
  | 0, hm => by rw [show n = 0 by omega]
  | m + 1, hm => by
    by_cases hn : n = m + 1
    · rw [hn]
    · rw [ac_pins, if_pos (h (m + 1) (by omega)), ac_pins_10 h m (by omega), Nat.add_zero]

set_option maxHeartbeats 8000000 in
theorem k_X7_pins {G : ac_G} {Y : ac_Y} {mm : ac_M} {d x : Nat} {T : ac_Tk} (hd : 2 ≤ d) (hM : ac_isM Y x) (rP : ac_RP mm (x + 3) T) : ac_C G yX7_pins cX7_pins 3 (some .int) d 0 0 Y mm [(2, (x : Int))] (ac_R Y [(0, ((ac_pins T.2.2.2.1 T.1 : Nat) : Int))] (fun m => m = mm)) := by
  have hM9 := hM
  obtain ⟨kx, k1, k2, k3, k4, k5, k6, k7, k8, k9, k10, k11, k12, k13, k14, k15, k16⟩ := hM.2
  obtain ⟨⟨⟨hn1, hn2⟩, hk, hE, hp0, hpr, -⟩, p0, p1, pE, pp, -⟩ := rP
  have h10 := ac_pins_10 (fun i hi => hp0 i (Or.inr hi)) 10 hn2
  have loop : ∀ (f i : Nat), i + f = 10 → ac_V G (RX7, "pins") cX7_pins 3 (some .int) d 0 0 (ac_R Y [(0, ((ac_pins T.2.2.2.1 T.1 : Nat) : Int))] (fun m => m = mm)) 0 0 Y mm 4 [(2, (x : Int)), (0, ((ac_pins T.2.2.2.1 i : Nat) : Int)), (0, (i : Int))] [] := by
    intro f
    induction f with
    | zero =>
      intro i hi
      obtain rfl : i = 10 := by omega
      refine ac_iload_n (q := 5) dX7_pins_4 rfl rfl ?_
      refine ac_bipush (q := 7) dX7_pins_5 rfl (by decide) ?_
      refine ac_icmp_ge (q := 10) (tgt := 36) dX7_pins_7 rfl rfl ⟨by omega, by omega⟩ ⟨by omega, by omega⟩ (fun h7 => ?_) (fun h7 => ?_)
      · refine ac_iload_n (q := 37) dX7_pins_36 rfl rfl ?_
        refine ac_ireturn dX7_pins_37 rfl (Nat.zero_le _) (Nat.zero_le _) ?_
        exact ⟨by rw [h10], rfl, rfl⟩
      · exfalso; omega
    | succ f ih =>
      intro i hi
      have ei : ((i : Nat) : Int) + 1 = ((i + 1 : Nat) : Int) := rfl
      have hs := ih (i + 1) (by omega)
      have hpi := hpr (i + 1)
      have hpp := pp (i + 1) (by omega) (by omega)
      rw [show 17 + (i + 1) = 18 + i by omega] at hpp
      rw [ac_pins] at hs
      refine ac_iload_n (q := 5) dX7_pins_4 rfl rfl ?_
      refine ac_bipush (q := 7) dX7_pins_5 rfl (by decide) ?_
      refine ac_icmp_ge (q := 10) (tgt := 36) dX7_pins_7 rfl rfl ⟨by omega, by omega⟩ ⟨by omega, by omega⟩ (fun h7 => ?_) (fun h7 => ?_)
      · exfalso; omega
      · refine ac_iload_n (q := 11) dX7_pins_10 rfl rfl ?_
        refine ac_aload_n (q := 12) dX7_pins_11 rfl rfl ?_
        refine ac_get (q := 15) dX7_pins_12 fl_X7_20 (by assumption) rfl (ac_rdr rfl hM9.1.2.2.1) ?_
        refine ac_bipush (q := 17) dX7_pins_15 rfl (by decide) ?_
        refine ac_iload_n (q := 18) dX7_pins_17 rfl rfl ?_
        refine ac_iadd (q := 19) dX7_pins_18 rfl ?_
        refine ac_top (w' := (0, ((18 + i : Nat) : Int))) (congrArg (fun z : Int => ((0 : Nat), z)) (by omega)) ?_
        refine ac_ialoadN (q := 20) (j := 18 + i) (v := T.2.2.2.1 (i + 1) + 1) dX7_pins_19 k3 (by decide) (by omega) rfl hpp ?_
        refine ac_if_le (q := 23) (tgt := 27) dX7_pins_20 rfl rfl ⟨by omega, by omega⟩ (fun h20 => ?_) (fun h20 => ?_)
        · rw [if_pos (by omega)] at hs
          refine ac_iconst (q := 28) dX7_pins_27 rfl ?_
          refine ac_iadd (q := 29) dX7_pins_28 rfl ?_
          refine ac_istore_n (q := 30) (j := 1) rfl dX7_pins_29 rfl (Nat.le_of_ble_eq_true rfl) rfl rfl ?_
          simp only [List.set_cons_succ, List.set_cons_zero]
          refine ac_iinc (q := 33) dX7_pins_30 rfl (Nat.le_of_ble_eq_true rfl) rfl rfl rfl rfl ?_
          simp only [List.set_cons_succ, List.set_cons_zero]
          refine ac_goto (q := 4) dX7_pins_33 rfl ?_
          exact ac_ls (by rw [ei]; rfl) hs
        · rw [if_neg (by omega)] at hs
          refine ac_iconst (q := 24) dX7_pins_23 rfl ?_
          refine ac_goto (q := 28) dX7_pins_24 rfl ?_
          refine ac_iadd (q := 29) dX7_pins_28 rfl ?_
          refine ac_istore_n (q := 30) (j := 1) rfl dX7_pins_29 rfl (Nat.le_of_ble_eq_true rfl) rfl rfl ?_
          simp only [List.set_cons_succ, List.set_cons_zero]
          refine ac_iinc (q := 33) dX7_pins_30 rfl (Nat.le_of_ble_eq_true rfl) rfl rfl rfl rfl ?_
          simp only [List.set_cons_succ, List.set_cons_zero]
          refine ac_goto (q := 4) dX7_pins_33 rfl ?_
          exact ac_ls (by rw [ei]; rfl) hs
  refine ac_met (on := (RX7, "pins")) rfl rfl (Nat.le_of_ble_eq_true rfl) (ls := [(2, (x : Int)), (3, 0), (3, 0)]) rfl ?_
  refine ac_iconst (q := 1) dX7_pins_0 rfl ?_
  refine ac_istore_n (q := 2) (j := 1) rfl dX7_pins_1 rfl (Nat.le_of_ble_eq_true rfl) rfl rfl ?_
  simp only [List.set_cons_succ, List.set_cons_zero]
  refine ac_iconst (q := 3) dX7_pins_2 rfl ?_
  refine ac_istore_n (q := 4) (j := 2) rfl dX7_pins_3 rfl (Nat.le_of_ble_eq_true rfl) rfl rfl ?_
  simp only [List.set_cons_succ, List.set_cons_zero]
  exact loop 10 0 rfl

set_option maxHeartbeats 8000000 in
theorem k_X7_count {G : ac_G} {Y : ac_Y} {mm : ac_M} {d x : Nat} {s : List Nat} {T : ac_Tk} {hs : List ac_Tk} {s0 s1 : Option ac_Tk} {obs : List ac_Ob} {ch : Int} {w : Int} (hd : 30 ≤ d) (hM : ac_isM Y x) (hR : ac_RM mm x s T hs s0 s1 obs ch) (hw : ac_in w) : ac_C G yX7_count cX7_count 2 (some .int) d 0 0 Y mm [(2, (x : Int)), (0, w)] (ac_R Y [(0, ac_an_count s T hs obs w)] (fun m => ac_RM m x s T hs s0 s1 obs ch ∧ ac_fM mm m x)) := by
  have hM9 := hM
  obtain ⟨kx, k1, k2, k3, k4, k5, k6, k7, k8, k9, k10, k11, k12, k13, k14, k15, k16⟩ := hM.2
  obtain ⟨-, ⟨hkk, hPg⟩, -⟩ := id hR
  obtain ⟨⟨⟨hn1, hn2⟩, ⟨hk2, hk3⟩, hE, hp0, hpr, hc0⟩, -⟩ := id hPg
  have hE4 := hE.1
  have hLn := ac_Lt_len T hn2
  obtain ⟨hw1, hw2⟩ := hw
  unfold ac_an_count
  refine ac_met (on := (RX7, "count")) rfl rfl (Nat.le_of_ble_eq_true rfl) (ls := [(2, (x : Int)), (0, w)]) rfl ?_
  refine ac_aload_n (q := 1) dX7_count_0 rfl rfl ?_
  refine ac_iconst (q := 2) dX7_count_1 rfl ?_
  refine ac_put (q := 5) dX7_count_2 fl_X7_67 (by assumption) rfl rfl ?_
  have A0 := ac_up0_RM hR
  have F0 : ac_fM mm (ac_up mm x 0 0) x := ac_up0_fM
  generalize ac_up mm x 0 0 = m0 at *
  obtain ⟨q4, qP⟩ := A0.2.1
  obtain ⟨-, p0, p1, pE, pp, p28, pcb, pcl⟩ := id qP
  obtain ⟨⟨a1, a2, a3⟩, ⟨b1, b2⟩, ⟨c1, c2, c3⟩, ⟨⟨d1, d2⟩, d3, d4⟩, ⟨e1, e2, e3⟩, ff⟩ := id A0
  refine ac_iload_n (q := 6) dX7_count_5 rfl rfl ?_
  by_cases hsw : w < 0 ∨ 6 < w
  · refine ac_tabOut (tgt := 87) dX7_count_6 ⟨by omega, by omega⟩ hsw rfl ?_
    refine ac_bipush (q := 89) dX7_count_87 rfl (by decide) ?_
    refine ac_ireturn dX7_count_89 rfl (Nat.zero_le _) (Nat.zero_le _) ?_
    rw [if_neg (by omega), if_neg (by omega), if_neg (by omega), if_neg (by omega), if_neg (by omega), if_neg (by omega), if_neg (by omega)]; exact ⟨rfl, rfl, A0, F0⟩
  · rcases (show w = 0 ∨ w = 1 ∨ w = 2 ∨ w = 3 ∨ w = 4 ∨ w = 5 ∨ w = 6 by omega) with rfl | rfl | rfl | rfl | rfl | rfl | rfl
    · refine ac_tabIn (off := 42) (tgt := 48) dX7_count_6 ⟨by decide, by decide⟩ (by decide) (by decide) rfl rfl ?_
      refine ac_aload_n (q := 49) dX7_count_48 rfl rfl ?_
      refine ac_get (q := 52) dX7_count_49 fl_X7_76 kx rfl (ac_rdi rfl a2) ?_
      refine ac_ireturn dX7_count_52 rfl (Nat.zero_le _) (Nat.zero_le _) ?_
      rw [if_pos rfl]; exact ⟨rfl, rfl, A0, F0⟩
    · refine ac_tabIn (off := 47) (tgt := 53) dX7_count_6 ⟨by decide, by decide⟩ (by decide) (by decide) rfl rfl ?_
      refine ac_aload_n (q := 54) dX7_count_53 rfl rfl ?_
      refine ac_get (q := 57) dX7_count_54 fl_X7_20 (by assumption) rfl (ac_rdr rfl hM9.1.2.2.1) ?_
      refine ac_iconst (q := 58) dX7_count_57 rfl ?_
      refine ac_ialoadN (q := 59) (j := 0) (v := (T.1 : Int)) dX7_count_58 k3 (by decide) (by decide) rfl p0 ?_
      refine ac_ireturn dX7_count_59 rfl (Nat.zero_le _) (Nat.zero_le _) ?_
      rw [if_neg (by decide), if_pos rfl]; exact ⟨rfl, rfl, A0, F0⟩
    · refine ac_tabIn (off := 54) (tgt := 60) dX7_count_6 ⟨by decide, by decide⟩ (by decide) (by decide) rfl rfl ?_
      refine ac_aload_n (q := 61) dX7_count_60 rfl rfl ?_
      refine ac_get (q := 64) dX7_count_61 fl_X7_13 kx rfl (ac_rdi rfl q4) ?_
      refine ac_ireturn dX7_count_64 rfl (Nat.zero_le _) (Nat.zero_le _) ?_
      rw [if_neg (by decide), if_neg (by decide), if_pos rfl]; exact ⟨rfl, rfl, A0, F0⟩
    · refine ac_tabIn (off := 59) (tgt := 65) dX7_count_6 ⟨by decide, by decide⟩ (by decide) (by decide) rfl rfl ?_
      refine ac_aload_n (q := 66) dX7_count_65 rfl rfl ?_
      refine ac_get (q := 69) dX7_count_66 fl_X7_20 (by assumption) rfl (ac_rdr rfl hM9.1.2.2.1) ?_
      refine ac_iconst (q := 70) dX7_count_69 rfl ?_
      refine ac_ialoadN (q := 71) (j := 1) (v := (T.2.2.1.length : Int)) dX7_count_70 k3 (by decide) (by decide) rfl p1 ?_
      refine ac_ireturn dX7_count_71 rfl (Nat.zero_le _) (Nat.zero_le _) ?_
      rw [if_neg (by decide), if_neg (by decide), if_neg (by decide), if_pos rfl]; exact ⟨rfl, rfl, A0, F0⟩
    · refine ac_tabIn (off := 66) (tgt := 72) dX7_count_6 ⟨by decide, by decide⟩ (by decide) (by decide) rfl rfl ?_
      refine ac_aload_n (q := 73) dX7_count_72 rfl rfl ?_
      refine ac_cvp (q := 76) (k_X7_pins (T := T) (d := d - 1) (by omega) hM9 qP) ml_X7_280 (by assumption) dX7_count_73 rfl rfl rfl (by omega) (Nat.le_of_ble_eq_true rfl) (Nat.zero_le _) (Nat.zero_le _) ?_
      refine ac_ireturn dX7_count_76 rfl (Nat.zero_le _) (Nat.zero_le _) ?_
      rw [if_neg (by decide), if_neg (by decide), if_neg (by decide), if_neg (by decide), if_pos rfl]; exact ⟨rfl, rfl, A0, F0⟩
    · refine ac_tabIn (off := 71) (tgt := 77) dX7_count_6 ⟨by decide, by decide⟩ (by decide) (by decide) rfl rfl ?_
      refine ac_aload_n (q := 78) dX7_count_77 rfl rfl ?_
      refine ac_get (q := 81) dX7_count_78 fl_X7_115 kx rfl (ac_rdi rfl c2) ?_
      refine ac_ireturn dX7_count_81 rfl (Nat.zero_le _) (Nat.zero_le _) ?_
      rw [if_neg (by decide), if_neg (by decide), if_neg (by decide), if_neg (by decide), if_neg (by decide), if_pos rfl]; exact ⟨rfl, rfl, A0, F0⟩
    · refine ac_tabIn (off := 76) (tgt := 82) dX7_count_6 ⟨by decide, by decide⟩ (by decide) (by decide) rfl rfl ?_
      refine ac_aload_n (q := 83) dX7_count_82 rfl rfl ?_
      refine ac_get (q := 86) dX7_count_83 fl_X7_253 kx rfl (ac_rdi rfl e2) ?_
      refine ac_ireturn dX7_count_86 rfl (Nat.zero_le _) (Nat.zero_le _) ?_
      rw [if_neg (by decide), if_neg (by decide), if_neg (by decide), if_neg (by decide), if_neg (by decide), if_neg (by decide), if_pos rfl]; exact ⟨rfl, rfl, A0, F0⟩
