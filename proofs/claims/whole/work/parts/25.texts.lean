set_option maxHeartbeats 8000000 in
theorem k_X1_at {G : ac_G} {Y : ac_Y} {mm : ac_M} {d h : Nat} {x : Nat} (hd : 1 ≤ d) (hH : ac_isH Y h) (hx : x < 14) : ac_C G yX1_at cX1_at 2 (some (.object "AvoidColours$Task")) d 0 0 Y mm [(2, (h : Int)), (0, (x : Int))] (ac_R Y [(2, ((h + 2 + 4 * x : Nat) : Int))] (fun m => m = mm)) := by
  obtain ⟨kh, rh, kp, ht⟩ := hH
  refine ac_met (on := (RX1, "at")) rfl rfl (Nat.le_of_ble_eq_true rfl) (ls := [(2, (h : Int)), (0, (x : Int))]) rfl ?_
  refine ac_iload_n (q := 1) dX1_at_0 rfl rfl ?_
  refine ac_if_lt (q := 4) (tgt := 19) dX1_at_1 rfl rfl ⟨by omega, by omega⟩ (fun h1 => ?_) (fun h1 => ?_)
  · exfalso; omega
  · refine ac_iload_n (q := 5) dX1_at_4 rfl rfl ?_
    refine ac_bipush (q := 7) dX1_at_5 rfl (by decide) ?_
    refine ac_icmp_ge (q := 10) (tgt := 19) dX1_at_7 rfl rfl ⟨by omega, by omega⟩ ⟨by omega, by omega⟩ (fun h7 => ?_) (fun h7 => ?_)
    · exfalso; omega
    · refine ac_aload_n (q := 11) dX1_at_10 rfl rfl ?_
      refine ac_get (q := 14) dX1_at_11 fl_X1_11 (by assumption) rfl (ac_rdr rfl (by assumption)) ?_
      refine ac_iload_n (q := 15) dX1_at_14 rfl rfl ?_
      refine ac_aaloadN (q := 16) (j := x) (v := h + 2 + 4 * x) dX1_at_15 kp (by decide) hx rfl (ht x hx).1 ?_
      refine ac_goto (q := 20) dX1_at_16 rfl ?_
      refine ac_areturn dX1_at_20 rfl (Nat.zero_le _) (Nat.zero_le _) ?_
      exact ⟨rfl, rfl, rfl⟩

set_option maxHeartbeats 8000000 in
theorem k_X1_remember {G : ac_G} {Y : ac_Y} {mm : ac_M} {d h : Nat} {t : Nat} {T : ac_Tk} {hs : List ac_Tk} (hd : 2 ≤ d) (hH : ac_isH Y h) (hR : ac_RH mm h hs) (hT : ac_isT Y t) (hRT : ac_RTk mm t T) (hth : t + 4 ≤ h ∨ h + 58 ≤ t) : ac_C G yX1_remember cX1_remember 3 none d 0 0 Y mm [(2, (h : Int)), (2, (t : Int))] (ac_R Y [] (fun m => ac_RH m h ((T :: hs).take 14) ∧ ∀ k', (k' < h ∨ h + 57 < k') → m k' = mm k')) := by
  have hH9 := hH
  obtain ⟨kh, rh, kp, ht⟩ := hH
  obtain ⟨hl14, hsz, p, hp, hnx, hal⟩ := hR
  refine ac_met (on := (RX1, "remember")) rfl rfl (Nat.le_of_ble_eq_true rfl) (ls := [(2, (h : Int)), (2, (t : Int)), (3, 0)]) rfl ?_
  refine ac_aload_n (q := 1) dX1_remember_0 rfl rfl ?_
  refine ac_aload_n (q := 2) dX1_remember_1 rfl rfl ?_
  refine ac_get (q := 5) dX1_remember_2 fl_X1_16 kh rfl (ac_rdi rfl hnx) ?_
  refine ac_cvp (q := 8) (k_X1_at (d := d - 1) (x := p) (by omega) hH9 hp) ml_X1_20 (by assumption) dX1_remember_5 rfl rfl rfl (by omega) (Nat.le_of_ble_eq_true rfl) (Nat.zero_le _) (Nat.zero_le _) ?_
  refine ac_astore_n (q := 9) (j := 2) rfl dX1_remember_8 rfl (Nat.le_of_ble_eq_true rfl) rfl rfl ?_
  simp only [List.set_cons_succ, List.set_cons_zero]
  refine ac_aload_n (q := 10) dX1_remember_9 rfl rfl ?_
  have hk14 : ((p : Int) + 1).tmod 14 = (((p + 1) % 14 : Nat) : Int) := by
    rw [show (p : Int) + 1 = ((p + 1 : Nat) : Int) from rfl, show (14 : Int) = ((14 : Nat) : Int) from rfl, Int.ofNat_tmod]
  have hmin : min ((hs.length : Int) + 1) 14 = (((T :: hs).take 14).length : Int) := by
    rw [List.length_take, List.length_cons]; omega
  have ktp := (ht p hp).2.1
  refine ac_ifnonnull_t (q := 14) dX1_remember_10 rfl (by omega) ?_
  refine ac_aload_n (q := 15) dX1_remember_14 rfl rfl ?_
  refine ac_aload_n (q := 16) dX1_remember_15 rfl rfl ?_
  refine ac_cv (q := 19) (k_X3_copy (d := d - 1) (t := h + 2 + 4 * p) (o := t) (by omega) (ht p hp).2 hT (by omega) hRT) ml_X1_24 (by assumption) dX1_remember_16 rfl rfl rfl (by omega) (Nat.le_of_ble_eq_true rfl) (Nat.zero_le _) (Nat.zero_le _) (fun m1 h1 => ?_)
  obtain ⟨g1, f1⟩ := h1
  refine ac_aload_n (q := 20) dX1_remember_19 rfl rfl ?_
  refine ac_aload_n (q := 21) dX1_remember_20 rfl rfl ?_
  refine ac_get (q := 24) dX1_remember_21 fl_X1_16 kh rfl (ac_rdi (v := (p : Int)) rfl (by rw [f1 h (by omega)]; exact hnx)) ?_
  refine ac_iconst (q := 25) dX1_remember_24 rfl ?_
  refine ac_iadd (q := 26) dX1_remember_25 rfl ?_
  refine ac_bipush (q := 28) dX1_remember_26 rfl (by decide) ?_
  refine ac_irem (q := 29) dX1_remember_28 rfl ⟨by omega, by omega⟩ ⟨by omega, by omega⟩ (by omega) (by omega) ?_
  refine ac_top (congrArg (fun z => ((0 : Nat), z)) hk14) ?_
  refine ac_put (q := 32) dX1_remember_29 fl_X1_16 (by assumption) rfl rfl ?_
  refine ac_aload_n (q := 33) dX1_remember_32 rfl rfl ?_
  refine ac_aload_n (q := 34) dX1_remember_33 rfl rfl ?_
  refine ac_get (q := 37) dX1_remember_34 fl_X1_28 kh rfl (ac_rdi (v := (hs.length : Int)) rfl (by rw [ac_up_j (by decide), f1 h (by omega)]; exact hsz)) ?_
  refine ac_iconst (q := 38) dX1_remember_37 rfl ?_
  refine ac_iadd (q := 39) dX1_remember_38 rfl ?_
  refine ac_bipush (q := 41) dX1_remember_39 rfl (by decide) ?_
  refine ac_min (v := (((T :: hs).take 14).length : Int)) (q := 44) dX1_remember_41 ml_X1_31 mt_min_s mt_i mt_min_c ⟨by omega, by omega⟩ ⟨by omega, by omega⟩ hmin rfl (by omega) (Nat.le_of_ble_eq_true rfl) (Nat.zero_le _) (Nat.zero_le _) ?_
  refine ac_put (q := 47) dX1_remember_44 fl_X1_28 (by assumption) rfl rfl ?_
  refine ac_return dX1_remember_47 rfl (Nat.zero_le _) (Nat.zero_le _) ?_
  refine ⟨rfl, rfl, ⟨by rw [List.length_take]; omega, ac_up_s, (p + 1) % 14, Nat.mod_lt _ (by decide), by rw [ac_up_j (by decide), ac_up_s], fun i T' hi => ?_⟩, fun k' hk' => ?_⟩
  · obtain ⟨hi14, hi2⟩ := ac_take_get hi
    have key : ac_RTk m1 (h + 2 + 4 * (((p + 1) % 14 + 13 - i) % 14)) T' := by
      cases i with
      | zero =>
        cases hi2
        rw [show ((p + 1) % 14 + 13 - 0) % 14 = p by omega]; exact g1
      | succ i =>
        have hi3 : hs[i]? = some T' := hi2
        have e : ((p + 1) % 14 + 13 - (i + 1)) % 14 = (p + 13 - i) % 14 := by omega
        have ne : (p + 13 - i) % 14 ≠ p := by omega
        rw [e]
        refine ac_RTk_keep (hal i T' hi3) ?_ ?_ ?_ ?_ <;> exact f1 _ (by omega)
    refine ac_RTk_keep key ?_ ?_ ?_ ?_ <;> (funext j; rw [ac_up_k (by omega), ac_up_k (by omega)])
  · rw [← f1 k' (by omega)]; funext j; rw [ac_up_k (by omega), ac_up_k (by omega)]

set_option maxHeartbeats 8000000 in
theorem k_X1_restore1 {G : ac_G} {Y : ac_Y} {mm : ac_M} {d h : Nat} {t : Nat} {T : ac_Tk} {hs : List ac_Tk} (hd : 2 ≤ d) (hH : ac_isH Y h) (hR : ac_RH mm h (T :: hs)) (hT : ac_isT Y t) (hth : t + 4 ≤ h ∨ h + 58 ≤ t) : ac_C G yX1_restore cX1_restore 4 (some .boolean) d 0 0 Y mm [(2, (h : Int)), (2, (t : Int))] (ac_R Y [(0, 1)] (fun m => ac_RH m h hs ∧ ac_RTk m t T ∧ ∀ k', k' ≠ h → (k' < t ∨ t + 3 < k') → m k' = mm k')) := by
  have hH9 := hH
  obtain ⟨kh, rh, kp, ht⟩ := hH
  obtain ⟨hl14, hsz, p, hp, hnx, hal⟩ := hR
  refine ac_met (on := (RX1, "restore")) rfl rfl (Nat.le_of_ble_eq_true rfl) (ls := [(2, (h : Int)), (2, (t : Int)), (3, 0), (3, 0)]) rfl ?_
  have hk14 : ((p : Int) + 14 - 1).tmod 14 = (((p + 13) % 14 : Nat) : Int) := by
    rw [show (p : Int) + 14 - 1 = ((p + 13 : Nat) : Int) by omega, show (14 : Int) = ((14 : Nat) : Int) from rfl, Int.ofNat_tmod]
  rw [List.length_cons] at hl14 hsz
  have ktt := hT.1
  refine ac_aload_n (q := 1) dX1_restore_0 rfl rfl ?_
  refine ac_get (q := 4) dX1_restore_1 fl_X1_16 kh rfl (ac_rdi rfl hnx) ?_
  refine ac_bipush (q := 6) dX1_restore_4 rfl (by decide) ?_
  refine ac_iadd (q := 7) dX1_restore_6 rfl ?_
  refine ac_iconst (q := 8) dX1_restore_7 rfl ?_
  refine ac_isub (q := 9) dX1_restore_8 rfl ?_
  refine ac_bipush (q := 11) dX1_restore_9 rfl (by decide) ?_
  refine ac_irem (q := 12) dX1_restore_11 rfl ⟨by omega, by omega⟩ ⟨by omega, by omega⟩ (by omega) (by omega) ?_
  refine ac_top (congrArg (fun z => ((0 : Nat), z)) hk14) ?_
  refine ac_istore_n (q := 13) (j := 2) rfl dX1_restore_12 rfl (Nat.le_of_ble_eq_true rfl) rfl rfl ?_
  simp only [List.set_cons_succ, List.set_cons_zero]
  refine ac_aload_n (q := 14) dX1_restore_13 rfl rfl ?_
  refine ac_get (q := 17) dX1_restore_14 fl_X1_28 kh rfl (ac_rdi rfl hsz) ?_
  refine ac_if_le (q := 20) (tgt := 28) dX1_restore_17 rfl rfl ⟨by omega, by omega⟩ (fun h17 => ?_) (fun h17 => ?_)
  · exfalso; omega
  · refine ac_aload_n (q := 21) dX1_restore_20 rfl rfl ?_
    refine ac_iload_n (q := 22) dX1_restore_21 rfl rfl ?_
    refine ac_cvp (q := 25) (k_X1_at (d := d - 1) (x := (p + 13) % 14) (by omega) hH9 (Nat.mod_lt _ (by decide))) ml_X1_20 (by assumption) dX1_restore_22 rfl rfl rfl (by omega) (Nat.le_of_ble_eq_true rfl) (Nat.zero_le _) (Nat.zero_le _) ?_
    refine ac_goto (q := 29) dX1_restore_25 rfl ?_
    refine ac_astore_n (q := 30) (j := 3) rfl dX1_restore_29 rfl (Nat.le_of_ble_eq_true rfl) rfl rfl ?_
    simp only [List.set_cons_succ, List.set_cons_zero]
    refine ac_aload_n (q := 31) dX1_restore_30 rfl rfl ?_
    refine ac_ifnonnull_t (q := 36) dX1_restore_31 rfl (by omega) ?_
    refine ac_aload_n (q := 37) dX1_restore_36 rfl rfl ?_
    refine ac_aload_n (q := 38) dX1_restore_37 rfl rfl ?_
    refine ac_cv (q := 41) (k_X3_copy (d := d - 1) (t := t) (o := h + 2 + 4 * ((p + 13) % 14)) (by omega) hT (ht _ (Nat.mod_lt _ (by decide))).2 (by omega) (hal 0 T rfl)) ml_X1_24 (by assumption) dX1_restore_38 rfl rfl rfl (by omega) (Nat.le_of_ble_eq_true rfl) (Nat.zero_le _) (Nat.zero_le _) (fun m1 h1 => ?_)
    obtain ⟨g1, f1⟩ := h1
    refine ac_aload_n (q := 42) dX1_restore_41 rfl rfl ?_
    refine ac_iload_n (q := 43) dX1_restore_42 rfl rfl ?_
    refine ac_put (q := 46) dX1_restore_43 fl_X1_16 (by assumption) rfl rfl ?_
    refine ac_aload_n (q := 47) dX1_restore_46 rfl rfl ?_
    refine ac_dup (q := 48) dX1_restore_47 rfl (show (2 : Nat) ≠ 1 by decide) ?_
    refine ac_get (q := 51) dX1_restore_48 fl_X1_28 kh rfl (ac_rdi (v := (hs.length : Int) + 1) rfl (by rw [ac_up_j (by decide), f1 h (by omega)]; exact hsz)) ?_
    refine ac_iconst (q := 52) dX1_restore_51 rfl ?_
    refine ac_isub (q := 53) dX1_restore_52 rfl ?_
    refine ac_put (q := 56) dX1_restore_53 fl_X1_28 (by assumption) rfl rfl ?_
    refine ac_iconst (q := 57) dX1_restore_56 rfl ?_
    refine ac_zreturn dX1_restore_57 rfl (by first | exact ac_b01 | omega) (Nat.zero_le _) (Nat.zero_le _) ?_
    refine ⟨rfl, rfl, ⟨by omega, by rw [ac_up_s]; omega, (p + 13) % 14, Nat.mod_lt _ (by decide), by rw [ac_up_j (by decide), ac_up_s], fun i T' hi => ?_⟩, ?_, fun k' hk1 hk' => ?_⟩
    · have hil := (List.getElem?_eq_some_iff.mp hi).1
      have e : ((p + 13) % 14 + 13 - i) % 14 = (p + 13 - (i + 1)) % 14 := by omega
      rw [e]
      refine ac_RTk_keep (hal (i + 1) T' hi) ?_ ?_ ?_ ?_ <;> (rw [← f1 _ (by omega)]; funext j; rw [ac_up_k (by omega), ac_up_k (by omega)])
    · refine ac_RT_keep g1 ?_ ?_ ?_ ?_ <;> (funext j; rw [ac_up_k (by omega), ac_up_k (by omega)])
    · rw [← f1 k' (by omega)]; funext j; rw [ac_up_k (by omega), ac_up_k (by omega)]

set_option maxHeartbeats 8000000 in
theorem k_X1_restore0 {G : ac_G} {Y : ac_Y} {mm : ac_M} {d h : Nat} {t : Nat} {T : ac_Tk} {hs : List ac_Tk} (hd : 2 ≤ d) (hH : ac_isH Y h) (hR : ac_RH mm h []) : ac_C G yX1_restore cX1_restore 4 (some .boolean) d 0 0 Y mm [(2, (h : Int)), (2, (t : Int))] (ac_R Y [(0, 0)] (fun m => m = mm)) := by
  have hH9 := hH
  obtain ⟨kh, rh, kp, ht⟩ := hH
  obtain ⟨hl14, hsz, p, hp, hnx, hal⟩ := hR
  refine ac_met (on := (RX1, "restore")) rfl rfl (Nat.le_of_ble_eq_true rfl) (ls := [(2, (h : Int)), (2, (t : Int)), (3, 0), (3, 0)]) rfl ?_
  have hk14 : ((p : Int) + 14 - 1).tmod 14 = (((p + 13) % 14 : Nat) : Int) := by
    rw [show (p : Int) + 14 - 1 = ((p + 13 : Nat) : Int) by omega, show (14 : Int) = ((14 : Nat) : Int) from rfl, Int.ofNat_tmod]
  rw [List.length_nil] at hl14 hsz
  refine ac_aload_n (q := 1) dX1_restore_0 rfl rfl ?_
  refine ac_get (q := 4) dX1_restore_1 fl_X1_16 kh rfl (ac_rdi rfl hnx) ?_
  refine ac_bipush (q := 6) dX1_restore_4 rfl (by decide) ?_
  refine ac_iadd (q := 7) dX1_restore_6 rfl ?_
  refine ac_iconst (q := 8) dX1_restore_7 rfl ?_
  refine ac_isub (q := 9) dX1_restore_8 rfl ?_
  refine ac_bipush (q := 11) dX1_restore_9 rfl (by decide) ?_
  refine ac_irem (q := 12) dX1_restore_11 rfl ⟨by omega, by omega⟩ ⟨by omega, by omega⟩ (by omega) (by omega) ?_
  refine ac_top (congrArg (fun z => ((0 : Nat), z)) hk14) ?_
  refine ac_istore_n (q := 13) (j := 2) rfl dX1_restore_12 rfl (Nat.le_of_ble_eq_true rfl) rfl rfl ?_
  simp only [List.set_cons_succ, List.set_cons_zero]
  refine ac_aload_n (q := 14) dX1_restore_13 rfl rfl ?_
  refine ac_get (q := 17) dX1_restore_14 fl_X1_28 kh rfl (ac_rdi rfl hsz) ?_
  refine ac_if_le (q := 20) (tgt := 28) dX1_restore_17 rfl rfl ⟨by omega, by omega⟩ (fun h17 => ?_) (fun h17 => ?_)
  · refine ac_aconst_null (q := 29) dX1_restore_28 rfl ?_
    refine ac_astore_n (q := 30) (j := 3) rfl dX1_restore_29 rfl (Nat.le_of_ble_eq_true rfl) rfl rfl ?_
    simp only [List.set_cons_succ, List.set_cons_zero]
    refine ac_aload_n (q := 31) dX1_restore_30 rfl rfl ?_
    refine ac_ifnonnull_f (q := 34) dX1_restore_31 rfl ?_
    refine ac_iconst (q := 35) dX1_restore_34 rfl ?_
    refine ac_zreturn dX1_restore_35 rfl (by first | exact ac_b01 | omega) (Nat.zero_le _) (Nat.zero_le _) ?_
    exact ⟨rfl, rfl, rfl⟩
  · exfalso; omega

set_option maxHeartbeats 8000000 in
theorem k_X1_forget {G : ac_G} {Y : ac_Y} {mm : ac_M} {d h : Nat} {hs : List ac_Tk} (hd : 1 ≤ d) (hH : ac_isH Y h) (hR : ac_RH mm h hs) : ac_C G yX1_forget cX1_forget 1 none d 0 0 Y mm [(2, (h : Int))] (ac_R Y [] (fun m => ac_RH m h [] ∧ ∀ k', k' ≠ h → m k' = mm k')) := by
  have hH9 := hH
  obtain ⟨kh, rh, kp, ht⟩ := hH
  obtain ⟨hl14, hsz, p, hp, hnx, hal⟩ := hR
  refine ac_met (on := (RX1, "forget")) rfl rfl (Nat.le_of_ble_eq_true rfl) (ls := [(2, (h : Int))]) rfl ?_
  refine ac_aload_n (q := 1) dX1_forget_0 rfl rfl ?_
  refine ac_iconst (q := 2) dX1_forget_1 rfl ?_
  refine ac_put (q := 5) dX1_forget_2 fl_X1_28 (by assumption) rfl rfl ?_
  refine ac_return dX1_forget_5 rfl (Nat.zero_le _) (Nat.zero_le _) ?_
  exact ⟨rfl, rfl, ⟨by simp, by rw [ac_up_s]; rfl, p, hp, by rw [ac_up_j (by decide)]; exact hnx, fun i T hi => by simp at hi⟩, fun k' hk' => by funext j; exact ac_up_k hk'⟩

set_option maxHeartbeats 8000000 in
theorem k_X4_append {G : ac_G} {Y : ac_Y} {mm : ac_M} {d t p : Nat} {s : List Nat} {v : Nat} (hd : 1 ≤ d) (hX : ac_isX Y t) (hR : ac_RX mm t s p) (hv : v < 256) : ac_C G yX4_append cX4_append 2 (some .boolean) d 0 0 Y mm [(2, (t : Int)), (0, (v : Int))] (ac_R Y [(0, ac_b (s.length < 60))] (fun m => ac_RX m t (if s.length < 60 then s ++ [v] else s) p ∧ ∀ k', (k' < t ∨ t + 1 < k') → m k' = mm k')) := by
  have hX9 := hX
  have hR9 := hR
  obtain ⟨kx, kl, rl⟩ := hX
  obtain ⟨⟨hs60, hs256⟩, hlen, hpl, hlet⟩ := hR
  have hc := ac_ch_lt hs256
  refine ac_met (on := (RX4, "append")) rfl rfl (Nat.le_of_ble_eq_true rfl) (ls := [(2, (t : Int)), (0, (v : Int))]) rfl ?_
  refine ac_aload_n (q := 1) dX4_append_0 rfl rfl ?_
  refine ac_get (q := 4) dX4_append_1 fl_X4_15 kx rfl (ac_rdi rfl hlen) ?_
  refine ac_if_lt (q := 7) (tgt := 16) dX4_append_4 rfl rfl ⟨by omega, by omega⟩ (fun h4 => ?_) (fun h4 => ?_)
  · exfalso; omega
  · refine ac_aload_n (q := 8) dX4_append_7 rfl rfl ?_
    refine ac_get (q := 11) dX4_append_8 fl_X4_15 kx rfl (ac_rdi rfl hlen) ?_
    refine ac_bipush (q := 13) dX4_append_11 rfl (by decide) ?_
    refine ac_icmp_lt (q := 16) (tgt := 18) dX4_append_13 rfl rfl ⟨by omega, by omega⟩ ⟨by omega, by omega⟩ (fun h13 => ?_) (fun h13 => ?_)
    · refine ac_aload_n (q := 19) dX4_append_18 rfl rfl ?_
      refine ac_get (q := 22) dX4_append_19 fl_X4_11 (by assumption) rfl (ac_rdr rfl (by assumption)) ?_
      refine ac_aload_n (q := 23) dX4_append_22 rfl rfl ?_
      refine ac_get (q := 26) dX4_append_23 fl_X4_15 kx rfl (ac_rdi rfl hlen) ?_
      refine ac_iload_n (q := 27) dX4_append_26 rfl rfl ?_
      refine ac_iastoreN (q := 28) (j := s.length) dX4_append_27 kl (by decide) (by omega) rfl ?_
      refine ac_aload_n (q := 29) dX4_append_28 rfl rfl ?_
      refine ac_dup (q := 30) dX4_append_29 rfl (show (2 : Nat) ≠ 1 by decide) ?_
      refine ac_get (q := 33) dX4_append_30 fl_X4_15 kx rfl (ac_rdi (v := (s.length : Int)) rfl (by rw [ac_up_k (by omega)]; exact hlen)) ?_
      refine ac_iconst (q := 34) dX4_append_33 rfl ?_
      refine ac_iadd (q := 35) dX4_append_34 rfl ?_
      refine ac_put (q := 38) dX4_append_35 fl_X4_15 (by assumption) rfl rfl ?_
      refine ac_iconst (q := 39) dX4_append_38 rfl ?_
      refine ac_zreturn dX4_append_39 rfl (by first | exact ac_b01 | omega) (Nat.zero_le _) (Nat.zero_le _) ?_
      refine ⟨ac_l1 (by omega), rfl, ?_, fun k' hk' => by funext j; rw [ac_up_k (by omega), ac_up_k (by omega)]⟩
      rw [if_pos (by omega)]
      refine ⟨⟨by rw [List.length_append]; simp; omega, fun x hx => ?_⟩, by rw [ac_up_s, List.length_append]; rfl, by rw [ac_up_j (by decide), ac_up_k (by omega)]; exact hpl, fun i hi => ?_⟩
      · rcases List.mem_append.mp hx with hx | hx
        · exact hs256 x hx
        · rw [List.mem_singleton.mp hx]; exact hv
      · rw [ac_up_k (by omega)]
        by_cases hi2 : i = s.length
        · subst hi2; rw [ac_up_s]; unfold ac_ch; rw [List.getD_eq_getElem?_getD, List.getElem?_append_right (Nat.le_refl _), Nat.sub_self]; rfl
        · have hi3 : i < s.length := by rw [List.length_append] at hi; simp at hi; omega
          rw [ac_up_j hi2, hlet i hi3]; unfold ac_ch; rw [List.getD_eq_getElem?_getD, List.getD_eq_getElem?_getD, List.getElem?_append_left hi3]
    · refine ac_iconst (q := 17) dX4_append_16 rfl ?_
      refine ac_zreturn dX4_append_17 rfl (by first | exact ac_b01 | omega) (Nat.zero_le _) (Nat.zero_le _) ?_
      exact ⟨ac_l0 (by omega), rfl, by rw [if_neg (by omega)]; exact hR9, fun _ _ => rfl⟩

set_option maxHeartbeats 8000000 in
theorem k_X4_accept {G : ac_G} {Y : ac_Y} {mm : ac_M} {d t p : Nat} {s : List Nat} {lo hi : Int} (hd : 1 ≤ d) (hX : ac_isX Y t) (hR : ac_RX mm t s p) (hp : p ≤ 1000) (hlo : 1 ≤ lo) (hlo2 : lo < 10000) (hhi : 0 ≤ hi) (hhi2 : hi < 10000) : ac_C G yX4_accept cX4_accept 4 (some .int) d 0 0 Y mm [(2, (t : Int)), (0, lo), (0, hi)] (ac_R Y [(0, if lo ≤ (ac_ch s p : Int) ∧ (ac_ch s p : Int) ≤ hi then (ac_ch s p : Int) else -1)] (fun m => ac_RX m t s (if lo ≤ (ac_ch s p : Int) ∧ (ac_ch s p : Int) ≤ hi then p + 1 else p) ∧ ∀ k', k' ≠ t → m k' = mm k')) := by
  have hX9 := hX
  have hR9 := hR
  obtain ⟨kx, kl, rl⟩ := hX
  obtain ⟨⟨hs60, hs256⟩, hlen, hpl, hlet⟩ := hR
  have hc := ac_ch_lt hs256
  have hcp := hc p
  refine ac_met (on := (RX4, "accept")) rfl rfl (Nat.le_of_ble_eq_true rfl) (ls := [(2, (t : Int)), (0, lo), (0, hi), (3, 0)]) rfl ?_
  refine ac_aload_n (q := 1) dX4_accept_0 rfl rfl ?_
  refine ac_get (q := 4) dX4_accept_1 fl_X4_19 kx rfl (ac_rdi rfl hpl) ?_
  refine ac_if_lt (q := 7) (tgt := 27) dX4_accept_4 rfl rfl ⟨by omega, by omega⟩ (fun h4 => ?_) (fun h4 => ?_)
  · exfalso; omega
  · refine ac_aload_n (q := 8) dX4_accept_7 rfl rfl ?_
    refine ac_get (q := 11) dX4_accept_8 fl_X4_19 kx rfl (ac_rdi rfl hpl) ?_
    refine ac_aload_n (q := 12) dX4_accept_11 rfl rfl ?_
    refine ac_get (q := 15) dX4_accept_12 fl_X4_15 kx rfl (ac_rdi rfl hlen) ?_
    refine ac_icmp_ge (q := 18) (tgt := 27) dX4_accept_15 rfl rfl ⟨by omega, by omega⟩ ⟨by omega, by omega⟩ (fun h15 => ?_) (fun h15 => ?_)
    · have hco := ac_ch_out (s := s) (p := p) (by omega)
      refine ac_iconst (q := 28) dX4_accept_27 rfl ?_
      refine ac_ireturn dX4_accept_28 rfl (Nat.zero_le _) (Nat.zero_le _) ?_
      first
        | exact ⟨by rw [if_neg (by omega)], rfl, by rw [if_neg (by omega)]; exact hR9, fun _ _ => rfl⟩
        | (exfalso; omega)
    · refine ac_aload_n (q := 19) dX4_accept_18 rfl rfl ?_
      refine ac_get (q := 22) dX4_accept_19 fl_X4_19 kx rfl (ac_rdi rfl hpl) ?_
      refine ac_bipush (q := 24) dX4_accept_22 rfl (by decide) ?_
      refine ac_icmp_lt (q := 27) (tgt := 29) dX4_accept_24 rfl rfl ⟨by omega, by omega⟩ ⟨by omega, by omega⟩ (fun h24 => ?_) (fun h24 => ?_)
      · refine ac_aload_n (q := 30) dX4_accept_29 rfl rfl ?_
        refine ac_get (q := 33) dX4_accept_30 fl_X4_11 (by assumption) rfl (ac_rdr rfl (by assumption)) ?_
        refine ac_aload_n (q := 34) dX4_accept_33 rfl rfl ?_
        refine ac_get (q := 37) dX4_accept_34 fl_X4_19 kx rfl (ac_rdi rfl hpl) ?_
        refine ac_ialoadN (q := 38) (j := p) (v := (ac_ch s p : Int)) dX4_accept_37 kl (by decide) (by omega) rfl (hlet p (by omega)) ?_
        refine ac_istore_n (q := 39) (j := 3) rfl dX4_accept_38 rfl (Nat.le_of_ble_eq_true rfl) rfl rfl ?_
        simp only [List.set_cons_succ, List.set_cons_zero]
        refine ac_iload_n (q := 40) dX4_accept_39 rfl rfl ?_
        refine ac_iload_n (q := 41) dX4_accept_40 rfl rfl ?_
        refine ac_icmp_lt (q := 44) (tgt := 49) dX4_accept_41 rfl rfl ⟨by omega, by omega⟩ ⟨by omega, by omega⟩ (fun h41 => ?_) (fun h41 => ?_)
        · refine ac_iconst (q := 50) dX4_accept_49 rfl ?_
          refine ac_ireturn dX4_accept_50 rfl (Nat.zero_le _) (Nat.zero_le _) ?_
          first
            | exact ⟨by rw [if_neg (by omega)], rfl, by rw [if_neg (by omega)]; exact hR9, fun _ _ => rfl⟩
            | (exfalso; omega)
        · refine ac_iload_n (q := 45) dX4_accept_44 rfl rfl ?_
          refine ac_iload_n (q := 46) dX4_accept_45 rfl rfl ?_
          refine ac_icmp_le (q := 49) (tgt := 51) dX4_accept_46 rfl rfl ⟨by omega, by omega⟩ ⟨by omega, by omega⟩ (fun h46 => ?_) (fun h46 => ?_)
          · refine ac_aload_n (q := 52) dX4_accept_51 rfl rfl ?_
            refine ac_dup (q := 53) dX4_accept_52 rfl (show (2 : Nat) ≠ 1 by decide) ?_
            refine ac_get (q := 56) dX4_accept_53 fl_X4_19 kx rfl (ac_rdi rfl hpl) ?_
            refine ac_iconst (q := 57) dX4_accept_56 rfl ?_
            refine ac_iadd (q := 58) dX4_accept_57 rfl ?_
            refine ac_put (q := 61) dX4_accept_58 fl_X4_19 (by assumption) rfl rfl ?_
            refine ac_iload_n (q := 62) dX4_accept_61 rfl rfl ?_
            refine ac_ireturn dX4_accept_62 rfl (Nat.zero_le _) (Nat.zero_le _) ?_
            exact ⟨by rw [if_pos ⟨by omega, by omega⟩], rfl, by rw [if_pos ⟨by omega, by omega⟩]; exact ac_RX_place hR9 (fun j hj => ac_up_j hj) ac_up_s (by funext j; exact ac_up_k (by omega)), fun k' hk' => by funext j; exact ac_up_k hk'⟩
          · refine ac_iconst (q := 50) dX4_accept_49 rfl ?_
            refine ac_ireturn dX4_accept_50 rfl (Nat.zero_le _) (Nat.zero_le _) ?_
            first
              | exact ⟨by rw [if_neg (by omega)], rfl, by rw [if_neg (by omega)]; exact hR9, fun _ _ => rfl⟩
              | (exfalso; omega)
      · refine ac_iconst (q := 28) dX4_accept_27 rfl ?_
        refine ac_ireturn dX4_accept_28 rfl (Nat.zero_le _) (Nat.zero_le _) ?_
        first
          | exact ⟨by rw [if_neg (by omega)], rfl, by rw [if_neg (by omega)]; exact hR9, fun _ _ => rfl⟩
          | (exfalso; omega)

set_option maxHeartbeats 8000000 in
theorem k_X4_readFactor {G : ac_G} {Y : ac_Y} {mm : ac_M} {d t p : Nat} {s : List Nat} (hd : 2 ≤ d) (hX : ac_isX Y t) (hR : ac_RX mm t s p) (hp : p ≤ 1000) : ac_C G yX4_readFactor cX4_readFactor 3 (some .int) d 0 0 Y mm [(2, (t : Int))] (ac_R Y [(0, ac_fc (ac_ch s p))] (fun m => ac_RX m t s (if ac_fc (ac_ch s p) = 0 then p else p + 1) ∧ ∀ k', k' ≠ t → m k' = mm k')) := by
  have hX9 := hX
  have hR9 := hR
  obtain ⟨kx, kl, rl⟩ := hX
  obtain ⟨⟨hs60, hs256⟩, hlen, hpl, hlet⟩ := hR
  have hc := ac_ch_lt hs256
  have hcp := hc p
  refine ac_met (on := (RX4, "readFactor")) rfl rfl (Nat.le_of_ble_eq_true rfl) (ls := [(2, (t : Int)), (3, 0), (3, 0)]) rfl ?_
  refine ac_aload_n (q := 1) dX4_readFactor_0 rfl rfl ?_
  refine ac_bipush (q := 3) dX4_readFactor_1 rfl (by decide) ?_
  refine ac_bipush (q := 5) dX4_readFactor_3 rfl (by decide) ?_
  refine ac_cv (q := 8) (k_X4_accept (d := d - 1) (p := p) (by omega) hX9 hR9 (by omega) (by omega) (by omega) (by omega) (by omega)) ml_X4_34 (by assumption) dX4_readFactor_5 rfl rfl rfl (by omega) (Nat.le_of_ble_eq_true rfl) (Nat.zero_le _) (Nat.zero_le _) (fun m1 a1 => ?_)
  obtain ⟨g1, f1⟩ := a1
  refine ac_istore_n (q := 9) (j := 1) rfl dX4_readFactor_8 rfl (Nat.le_of_ble_eq_true rfl) rfl rfl ?_
  simp only [List.set_cons_succ, List.set_cons_zero]
  refine ac_iload_n (q := 10) dX4_readFactor_9 rfl rfl ?_
  refine ac_if_lt (q := 13) (tgt := 18) dX4_readFactor_10 rfl rfl (by split <;> exact ⟨by omega, by omega⟩) (fun h10 => ?_) (fun h10 => ?_)
  · have e1 : ¬ (49 ≤ ((ac_ch s p : Nat) : Int) ∧ ((ac_ch s p : Nat) : Int) ≤ 52) := fun q => by rw [if_pos q] at h10; omega
    rw [if_neg e1] at g1
    refine ac_aload_n (q := 19) dX4_readFactor_18 rfl rfl ?_
    refine ac_bipush (q := 21) dX4_readFactor_19 rfl (by decide) ?_
    refine ac_bipush (q := 23) dX4_readFactor_21 rfl (by decide) ?_
    refine ac_cv (q := 26) (k_X4_accept (d := d - 1) (p := p) (by omega) hX9 g1 (by omega) (by omega) (by omega) (by omega) (by omega)) ml_X4_34 (by assumption) dX4_readFactor_23 rfl rfl rfl (by omega) (Nat.le_of_ble_eq_true rfl) (Nat.zero_le _) (Nat.zero_le _) (fun m2 a2 => ?_)
    obtain ⟨g2, f2⟩ := a2
    refine ac_istore_n (q := 27) (j := 2) rfl dX4_readFactor_26 rfl (Nat.le_of_ble_eq_true rfl) rfl rfl ?_
    simp only [List.set_cons_succ, List.set_cons_zero]
    refine ac_iload_n (q := 28) dX4_readFactor_27 rfl rfl ?_
    refine ac_if_lt (q := 31) (tgt := 38) dX4_readFactor_28 rfl rfl (by split <;> exact ⟨by omega, by omega⟩) (fun h28 => ?_) (fun h28 => ?_)
    · have e2 : ¬ (97 ≤ ((ac_ch s p : Nat) : Int) ∧ ((ac_ch s p : Nat) : Int) ≤ 100) := fun q => by rw [if_pos q] at h28; omega
      rw [if_neg e2] at g2
      refine ac_iconst (q := 39) dX4_readFactor_38 rfl ?_
      refine ac_ireturn dX4_readFactor_39 rfl (Nat.zero_le _) (Nat.zero_le _) ?_
      first
        | (have ef : ac_fc (ac_ch s p) = ((ac_ch s p : Nat) : Int) - 48 := by unfold ac_fc; rw [if_pos (by omega)]
           rw [ef, if_neg (by omega)]; exact ⟨rfl, rfl, g1, f1⟩)
        | (have ef : ac_fc (ac_ch s p) = 96 - ((ac_ch s p : Nat) : Int) := by unfold ac_fc; rw [if_neg (by omega), if_pos (by omega)]
           rw [ef, if_neg (by omega)]; exact ⟨rfl, rfl, g2, fun k' hk' => (f2 k' hk').trans (f1 k' hk')⟩)
        | (have ef : ac_fc (ac_ch s p) = 0 := by unfold ac_fc; rw [if_neg (by omega), if_neg (by omega)]
           rw [ef, if_pos rfl]; exact ⟨rfl, rfl, g2, fun k' hk' => (f2 k' hk').trans (f1 k' hk')⟩)
    · have e2 : (97 ≤ ((ac_ch s p : Nat) : Int) ∧ ((ac_ch s p : Nat) : Int) ≤ 100) := Decidable.byContradiction fun q => by rw [if_neg q] at h28; omega
      rw [if_pos e2] at g2 ⊢
      refine ac_bipush (q := 33) dX4_readFactor_31 rfl (by decide) ?_
      refine ac_iload_n (q := 34) dX4_readFactor_33 rfl rfl ?_
      refine ac_isub (q := 35) dX4_readFactor_34 rfl ?_
      refine ac_goto (q := 39) dX4_readFactor_35 rfl ?_
      refine ac_ireturn dX4_readFactor_39 rfl (Nat.zero_le _) (Nat.zero_le _) ?_
      first
        | (have ef : ac_fc (ac_ch s p) = ((ac_ch s p : Nat) : Int) - 48 := by unfold ac_fc; rw [if_pos (by omega)]
           rw [ef, if_neg (by omega)]; exact ⟨rfl, rfl, g1, f1⟩)
        | (have ef : ac_fc (ac_ch s p) = 96 - ((ac_ch s p : Nat) : Int) := by unfold ac_fc; rw [if_neg (by omega), if_pos (by omega)]
           rw [ef, if_neg (by omega)]; exact ⟨rfl, rfl, g2, fun k' hk' => (f2 k' hk').trans (f1 k' hk')⟩)
        | (have ef : ac_fc (ac_ch s p) = 0 := by unfold ac_fc; rw [if_neg (by omega), if_neg (by omega)]
           rw [ef, if_pos rfl]; exact ⟨rfl, rfl, g2, fun k' hk' => (f2 k' hk').trans (f1 k' hk')⟩)
  · have e1 : (49 ≤ ((ac_ch s p : Nat) : Int) ∧ ((ac_ch s p : Nat) : Int) ≤ 52) := Decidable.byContradiction fun q => by rw [if_neg q] at h10; omega
    rw [if_pos e1] at g1 ⊢
    refine ac_iload_n (q := 14) dX4_readFactor_13 rfl rfl ?_
    refine ac_bipush (q := 16) dX4_readFactor_14 rfl (by decide) ?_
    refine ac_isub (q := 17) dX4_readFactor_16 rfl ?_
    refine ac_ireturn dX4_readFactor_17 rfl (Nat.zero_le _) (Nat.zero_le _) ?_
    first
      | (have ef : ac_fc (ac_ch s p) = ((ac_ch s p : Nat) : Int) - 48 := by unfold ac_fc; rw [if_pos (by omega)]
         rw [ef, if_neg (by omega)]; exact ⟨rfl, rfl, g1, f1⟩)
      | (have ef : ac_fc (ac_ch s p) = 96 - ((ac_ch s p : Nat) : Int) := by unfold ac_fc; rw [if_neg (by omega), if_pos (by omega)]
         rw [ef, if_neg (by omega)]; exact ⟨rfl, rfl, g2, fun k' hk' => (f2 k' hk').trans (f1 k' hk')⟩)
      | (have ef : ac_fc (ac_ch s p) = 0 := by unfold ac_fc; rw [if_neg (by omega), if_neg (by omega)]
         rw [ef, if_pos rfl]; exact ⟨rfl, rfl, g2, fun k' hk' => (f2 k' hk').trans (f1 k' hk')⟩)
