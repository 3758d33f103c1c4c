set_option maxHeartbeats 8000000 in
theorem k_X7_reachOn {G : ac_G} {Y : ac_Y} {mm : ac_M} {d x : Nat} {r : Nat} {T : ac_Tk} {n : Nat} (hd : 9 ≤ d) (hM : ac_isM Y x) (hr : r = x + 3 ∨ r = x + 4) (rP : ac_RP mm r T) (hk : mm x 4 = (T.2.1 : Int)) (hn : 1 ≤ n ∧ n ≤ 10) : ac_C G yX7_reachOn cX7_reachOn 4 none d 0 0 Y mm [(2, (x : Int)), (2, (r : Int)), (0, (n : Int))] (ac_R Y [] (fun m => ac_RP m r (ac_t_reach T n) ∧ ac_fEr mm m x r)) := by
  have hM9 := hM
  obtain ⟨kx, k1, k2, k3, k4, k5, k6, k7, k8, k9, k10, k11, k12, k13, k14, k15, k16⟩ := hM.2
  obtain ⟨⟨⟨hn1, hn2⟩, ⟨hk2, hk3⟩, hE, hp0, hpr, hc0⟩, p0, p1, pE, pp, p28, pcb, pcl⟩ := id rP
  have kr : Y.2.1 r = (1, 39) := by rcases hr with e | e <;> rw [e] <;> assumption
  have h2l : 2 ^ T.2.2.1.length ≤ 16 := Nat.pow_le_pow_right (n := 2) (by decide) hE.1
  have hE4 := hE.1
  obtain ⟨hm1, hm2⟩ := hn
  have p28b : mm r 28 = 0 ∨ mm r 28 = 1 := by rw [p28]; exact ac_b01
  have loop : ∀ (f i : Nat) (m0 : ac_M), i + f = 10 → n ≤ i → (∀ k', k' ≠ r → m0 k' = mm k') → m0 r 0 = (n : Int) → m0 r 28 = (if n = T.1 then mm r 28 else 0) → (∀ j, j ≠ 0 → j ≠ 28 → m0 r j = mm r j) → ac_V G (RX7, "reachOn") cX7_reachOn 4 none d 0 0 (ac_R Y [] (fun m => ac_RP m r (ac_t_reach T n) ∧ ac_fEr mm m x r)) 0 0 Y (ac_zr m0 r (18 + n) (18 + i)) 18 [(2, (x : Int)), (2, (r : Int)), (0, (n : Int)), (0, (i : Int))] [] := by
    intro f
    induction f with
    | zero =>
      intro i m0 hi hni hfr h0 h28 ho
      obtain rfl : i = 10 := by omega
      have hP : ac_RP (ac_zr m0 r (18 + n) (18 + 10)) r (n, T.2.1, T.2.2.1, ac_cut T.2.2.2.1 n, if n = T.1 then T.2.2.2.2 else none) := ac_RP_reach rP ⟨hm1, hm2⟩ (by rw [ac_zr_o (by omega)]; exact h0) (by rw [ac_zr_o (by omega)]; exact h28) (fun i h1 h2 => ac_zr_at (by omega) (by omega)) (fun j h1 h2 h3 => by rw [ac_zr_o (by omega)]; exact ho j h1 h2)
      have hfz : ∀ k', k' ≠ r → ac_zr m0 r (18 + n) (18 + 10) k' = mm k' := fun k' h => by rw [ac_zr_k h]; exact hfr k' h
      generalize ac_zr m0 r (18 + n) (18 + 10) = m1 at *
      refine ac_iload_n (q := 19) dX7_reachOn_18 rfl rfl ?_
      refine ac_bipush (q := 21) dX7_reachOn_19 rfl (by decide) ?_
      refine ac_icmp_ge (q := 24) (tgt := 37) dX7_reachOn_21 rfl rfl ⟨by omega, by omega⟩ ⟨by omega, by omega⟩ (fun h21 => ?_) (fun h21 => ?_)
      · refine ac_aload_n (q := 38) dX7_reachOn_37 rfl rfl ?_
        refine ac_aload_n (q := 39) dX7_reachOn_38 rfl rfl ?_
        refine ac_cv (q := 42) (k_X7_settleOn (r := r) (T := (n, T.2.1, T.2.2.1, ac_cut T.2.2.2.1 n, if n = T.1 then T.2.2.2.2 else none)) (d := d - 1) (by omega) hM9 hr hP (by rw [hfz x (by omega)]; exact hk)) ml_X7_111 (by assumption) dX7_reachOn_39 rfl rfl rfl (by omega) (Nat.le_of_ble_eq_true rfl) (Nat.zero_le _) (Nat.zero_le _) (fun m2 h2 => ?_)
        obtain ⟨g2, f2⟩ := h2
        refine ac_return dX7_reachOn_42 rfl (Nat.zero_le _) (Nat.zero_le _) ?_
        exact ⟨rfl, rfl, g2, fun k' a b c => by rw [f2.1 k' a b c, hfz k' b], fun j hj => by rw [f2.2 j hj, hfz x (by omega)]⟩
      · exfalso; omega
    | succ f ih =>
      intro i m0 hi hni hfr h0 h28 ho
      have ei : ((i : Nat) : Int) + 1 = ((i + 1 : Nat) : Int) := rfl
      have hs := ih (i + 1) m0 (by omega) (by omega) hfr h0 h28 ho
      rw [show 18 + (i + 1) = 18 + i + 1 from rfl, ← ac_zr_s (by omega)] at hs
      refine ac_iload_n (q := 19) dX7_reachOn_18 rfl rfl ?_
      refine ac_bipush (q := 21) dX7_reachOn_19 rfl (by decide) ?_
      refine ac_icmp_ge (q := 24) (tgt := 37) dX7_reachOn_21 rfl rfl ⟨by omega, by omega⟩ ⟨by omega, by omega⟩ (fun h21 => ?_) (fun h21 => ?_)
      · exfalso; omega
      · refine ac_aload_n (q := 25) dX7_reachOn_24 rfl rfl ?_
        refine ac_bipush (q := 27) dX7_reachOn_25 rfl (by decide) ?_
        refine ac_iload_n (q := 28) dX7_reachOn_27 rfl rfl ?_
        refine ac_iadd (q := 29) dX7_reachOn_28 rfl ?_
        refine ac_top (w' := (0, ((18 + i : Nat) : Int))) (congrArg (fun z : Int => ((0 : Nat), z)) (by omega)) ?_
        refine ac_iconst (q := 30) dX7_reachOn_29 rfl ?_
        refine ac_iastoreN (q := 31) (j := 18 + i) dX7_reachOn_30 kr (by decide) (by omega) rfl ?_
        refine ac_iinc (q := 34) dX7_reachOn_31 rfl (Nat.le_of_ble_eq_true rfl) rfl rfl rfl rfl ?_
        simp only [List.set_cons_succ, List.set_cons_zero]
        refine ac_goto (q := 18) dX7_reachOn_34 rfl ?_
        exact ac_ls (by rw [ei]) hs
  refine ac_met (on := (RX7, "reachOn")) rfl rfl (Nat.le_of_ble_eq_true rfl) (ls := [(2, (x : Int)), (2, (r : Int)), (0, (n : Int)), (3, 0)]) rfl ?_
  refine ac_iload_n (q := 1) dX7_reachOn_0 rfl rfl ?_
  refine ac_aload_n (q := 2) dX7_reachOn_1 rfl rfl ?_
  refine ac_iconst (q := 3) dX7_reachOn_2 rfl ?_
  refine ac_ialoadN (q := 4) (j := 0) (v := (T.1 : Int)) dX7_reachOn_3 kr (by decide) (by decide) rfl p0 ?_
  refine ac_icmp_eq (q := 7) (tgt := 16) dX7_reachOn_4 rfl rfl ⟨by omega, by omega⟩ ⟨by omega, by omega⟩ (fun h4 => ?_) (fun h4 => ?_)
  · refine ac_iload_n (q := 17) dX7_reachOn_16 rfl rfl ?_
    refine ac_istore_n (q := 18) (j := 3) rfl dX7_reachOn_17 rfl (Nat.le_of_ble_eq_true rfl) rfl rfl ?_
    simp only [List.set_cons_succ, List.set_cons_zero]
    first
      | (refine ac_mem (ac_zr_0 (r := r) (a := 18 + n)).symm ?_
         exact loop (10 - n) n mm (by omega) (Nat.le_refl _) (fun _ _ => rfl) (by rw [p0]; omega) (by rw [if_pos (by omega)]) (fun _ _ _ => rfl))
      | (refine ac_mem (ac_zr_0 (r := r) (a := 18 + n)).symm ?_
         exact loop (10 - n) n _ (by omega) (Nat.le_refl _) (fun k' hk' => by funext j; rw [ac_up_k hk', ac_up_k hk']) (by rw [ac_up_j (by decide), ac_up_s]) (by rw [if_neg (by omega), ac_up_s]) (fun j h1 h2 => by rw [ac_up_j h2, ac_up_j h1]))
  · refine ac_aload_n (q := 8) dX7_reachOn_7 rfl rfl ?_
    refine ac_iconst (q := 9) dX7_reachOn_8 rfl ?_
    refine ac_iload_n (q := 10) dX7_reachOn_9 rfl rfl ?_
    refine ac_iastoreN (q := 11) (j := 0) dX7_reachOn_10 (by assumption) (by decide) (by decide) rfl ?_
    refine ac_aload_n (q := 12) dX7_reachOn_11 rfl rfl ?_
    refine ac_bipush (q := 14) dX7_reachOn_12 rfl (by decide) ?_
    refine ac_iconst (q := 15) dX7_reachOn_14 rfl ?_
    refine ac_iastoreN (q := 16) (j := 28) dX7_reachOn_15 (by assumption) (by decide) (by decide) rfl ?_
    refine ac_iload_n (q := 17) dX7_reachOn_16 rfl rfl ?_
    refine ac_istore_n (q := 18) (j := 3) rfl dX7_reachOn_17 rfl (Nat.le_of_ble_eq_true rfl) rfl rfl ?_
    simp only [List.set_cons_succ, List.set_cons_zero]
    first
      | (refine ac_mem (ac_zr_0 (r := r) (a := 18 + n)).symm ?_
         exact loop (10 - n) n mm (by omega) (Nat.le_refl _) (fun _ _ => rfl) (by rw [p0]; omega) (by rw [if_pos (by omega)]) (fun _ _ _ => rfl))
      | (refine ac_mem (ac_zr_0 (r := r) (a := 18 + n)).symm ?_
         exact loop (10 - n) n _ (by omega) (Nat.le_refl _) (fun k' hk' => by funext j; rw [ac_up_k hk', ac_up_k hk']) (by rw [ac_up_j (by decide), ac_up_s]) (by rw [if_neg (by omega), ac_up_s]) (fun j h1 h2 => by rw [ac_up_j h2, ac_up_j h1]))

set_option maxHeartbeats 8000000 in
theorem k_X7_paintOn {G : ac_G} {Y : ac_Y} {mm : ac_M} {d x : Nat} {r : Nat} {T : ac_Tk} {a c : Nat} (hd : 9 ≤ d) (hM : ac_isM Y x) (hr : r = x + 3 ∨ r = x + 4) (rP : ac_RP mm r T) (hk : mm x 4 = (T.2.1 : Int)) (ha : 1 ≤ a ∧ a ≤ T.1) (hc : c < T.2.1) : ac_C G yX7_paintOn cX7_paintOn 5 (some .boolean) d 0 0 Y mm [(2, (x : Int)), (2, (r : Int)), (0, (a : Int)), (0, (c : Int))] (ac_R Y [(0, ac_b (ac_pt T a c = true))] (fun m => ac_RP m r (if ac_pt T a c = true then ac_t_paint T (a : Int) (c : Int) else T) ∧ ac_fEr mm m x r)) := by
  have hM9 := hM
  obtain ⟨kx, k1, k2, k3, k4, k5, k6, k7, k8, k9, k10, k11, k12, k13, k14, k15, k16⟩ := hM.2
  obtain ⟨⟨⟨hn1, hn2⟩, ⟨hk2, hk3⟩, hE, hp0, hpr, hc0⟩, p0, p1, pE, pp, p28, pcb, pcl⟩ := id rP
  have kr : Y.2.1 r = (1, 39) := by rcases hr with e | e <;> rw [e] <;> assumption
  have h2l : 2 ^ T.2.2.1.length ≤ 16 := Nat.pow_le_pow_right (n := 2) (by decide) hE.1
  have hE4 := hE.1
  obtain ⟨ha1, ha2⟩ := ha
  have hw := pcb (a - 1) (by omega)
  generalize hwv : mm r (29 + (a - 1)) = wv at *
  refine ac_met (on := (RX7, "paintOn")) rfl rfl (Nat.le_of_ble_eq_true rfl) (ls := [(2, (x : Int)), (2, (r : Int)), (0, (a : Int)), (0, (c : Int)), (3, 0)]) rfl ?_
  refine ac_aload_n (q := 1) dX7_paintOn_0 rfl rfl ?_
  refine ac_bipush (q := 3) dX7_paintOn_1 rfl (by decide) ?_
  refine ac_iload_n (q := 4) dX7_paintOn_3 rfl rfl ?_
  refine ac_iadd (q := 5) dX7_paintOn_4 rfl ?_
  refine ac_iconst (q := 6) dX7_paintOn_5 rfl ?_
  refine ac_isub (q := 7) dX7_paintOn_6 rfl ?_
  refine ac_top (w' := (0, ((29 + (a - 1) : Nat) : Int))) (congrArg (fun z : Int => ((0 : Nat), z)) (by omega)) ?_
  refine ac_ialoadN (q := 8) (j := 29 + (a - 1)) (v := wv) dX7_paintOn_7 kr (by decide) (by omega) rfl hwv ?_
  refine ac_istore (q := 10) dX7_paintOn_8 rfl (Nat.le_of_ble_eq_true rfl) rfl rfl ?_
  simp only [List.set_cons_succ, List.set_cons_zero]
  refine ac_aload_n (q := 11) dX7_paintOn_10 rfl rfl ?_
  refine ac_bipush (q := 13) dX7_paintOn_11 rfl (by decide) ?_
  refine ac_ialoadN (q := 14) (j := 28) (v := ac_b (T.2.2.2.2.isSome = true)) dX7_paintOn_13 kr (by decide) (by decide) rfl p28 ?_
  refine ac_bif_eq (q := 17) (tgt := 23) dX7_paintOn_14 rfl rfl (fun h14 => ?_) (fun h14 => ?_)
  · refine ac_iconst (q := 24) dX7_paintOn_23 rfl ?_
    refine ac_zreturn dX7_paintOn_24 rfl (by first | exact ac_b01 | omega) (Nat.zero_le _) (Nat.zero_le _) ?_
    have hno : ¬ ac_pt T a c = true := by
      unfold ac_pt
      cases hcol : T.2.2.2.2 with
      | none => simp
      | some l =>
        obtain ⟨l1, l2⟩ := hc0 l hcol
        have hg : l[a - 1]? = some (l.getD (a - 1) 0) := by rw [List.getD_eq_getElem?_getD, List.getElem?_eq_getElem (by omega)]; rfl
        have hpv := pcl l hcol (a - 1) _ hg
        first
          | (rw [hcol] at h14; exact absurd rfl h14)
          | (rw [Bool.and_eq_true, decide_eq_true_eq]
             rintro ⟨q1, -⟩
             omega)
    rw [if_neg hno]; exact ⟨ac_l0 hno, rfl, rP, ac_fE_fEr (ac_fE_r mm x)⟩
  · refine ac_iload (q := 19) dX7_paintOn_17 rfl rfl ?_
    refine ac_iload_n (q := 20) dX7_paintOn_19 rfl rfl ?_
    refine ac_icmp_ne (q := 23) (tgt := 25) dX7_paintOn_20 rfl rfl ⟨by omega, by omega⟩ ⟨by omega, by omega⟩ (fun h20 => ?_) (fun h20 => ?_)
    · obtain ⟨l, hl⟩ := Option.isSome_iff_exists.mp h14
      obtain ⟨hl1, hl2⟩ := hc0 l hl
      have hg : l[a - 1]? = some (l.getD (a - 1) 0) := by rw [List.getD_eq_getElem?_getD, List.getElem?_eq_getElem (by omega)]; rfl
      have hpv := pcl l hl (a - 1) _ hg
      have hpt : ac_pt T a c = (decide (l.getD (a - 1) 0 ≠ c) && decide (l.set (a - 1) c ∈ ac_Lt T)) := by unfold ac_pt; rw [hl]
      have hcd : ac_colD T = l := by unfold ac_colD; rw [hl]; rfl
      have hP1 : ac_RP (ac_up mm r (29 + (a - 1)) (c : Int)) r (ac_wcol T (l.set (a - 1) c)) := ac_RP_col rP hl (by rw [List.length_set]; exact hl1) (fun z hz => by
          rcases List.mem_or_eq_of_mem_set hz with hz | hz
          · exact hl2 z hz
          · rw [hz]; exact hc) (fun j hj => ac_up_j (by omega)) (fun i z hz => by
          by_cases hi : a - 1 = i
          · subst hi
            rw [List.getElem?_set_self (by omega)] at hz
            cases hz; exact ac_up_s
          · rw [List.getElem?_set_ne hi] at hz
            rw [ac_up_j (by omega)]; exact pcl l hl i z hz) (fun i hi => by
          by_cases hi2 : i = a - 1
          · subst hi2; rw [ac_up_s]; omega
          · rw [ac_up_j (by omega)]; exact pcb i hi)
      have hrk := ac_rk_in (col := (ac_wcol T (l.set (a - 1) c)).2.2.2.2) (ac_Lt_nodup (ac_wcol T (l.set (a - 1) c)))
      have hLl := ac_Lt_len (ac_wcol T (l.set (a - 1) c)) hn2
      have hwcL : ac_Lt (ac_wcol T (l.set (a - 1) c)) = ac_Lt T := rfl
      rw [hwcL] at hrk hLl
      refine ac_aload_n (q := 26) dX7_paintOn_25 rfl rfl ?_
      refine ac_bipush (q := 28) dX7_paintOn_26 rfl (by decide) ?_
      refine ac_iload_n (q := 29) dX7_paintOn_28 rfl rfl ?_
      refine ac_iadd (q := 30) dX7_paintOn_29 rfl ?_
      refine ac_iconst (q := 31) dX7_paintOn_30 rfl ?_
      refine ac_isub (q := 32) dX7_paintOn_31 rfl ?_
      refine ac_top (w' := (0, ((29 + (a - 1) : Nat) : Int))) (congrArg (fun z : Int => ((0 : Nat), z)) (by omega)) ?_
      refine ac_iload_n (q := 33) dX7_paintOn_32 rfl rfl ?_
      refine ac_iastoreN (q := 34) (j := 29 + (a - 1)) dX7_paintOn_33 kr (by decide) (by omega) rfl ?_
      refine ac_aload_n (q := 35) dX7_paintOn_34 rfl rfl ?_
      refine ac_aload_n (q := 36) dX7_paintOn_35 rfl rfl ?_
      refine ac_cv (q := 39) (k_X7_numberOf (r := r) (T := ac_wcol T (l.set (a - 1) c)) (d := d - 1) (by omega) hM9 hr hP1 (by rw [ac_up_k (by omega)]; exact hk)) ml_X7_178 (by assumption) dX7_paintOn_36 rfl rfl rfl (by omega) (Nat.le_of_ble_eq_true rfl) (Nat.zero_le _) (Nat.zero_le _) (fun m1 h1 => ?_)
      rw [hwcL]
      refine ac_bipush (q := 41) dX7_paintOn_39 rfl (by decide) ?_
      refine ac_icmp_eq (q := 44) (tgt := 46) dX7_paintOn_41 rfl rfl ⟨by omega, by omega⟩ ⟨by omega, by omega⟩ (fun h41 => ?_) (fun h41 => ?_)
      · refine ac_aload_n (q := 47) dX7_paintOn_46 rfl rfl ?_
        refine ac_bipush (q := 49) dX7_paintOn_47 rfl (by decide) ?_
        refine ac_iload_n (q := 50) dX7_paintOn_49 rfl rfl ?_
        refine ac_iadd (q := 51) dX7_paintOn_50 rfl ?_
        refine ac_iconst (q := 52) dX7_paintOn_51 rfl ?_
        refine ac_isub (q := 53) dX7_paintOn_52 rfl ?_
        refine ac_top (w' := (0, ((29 + (a - 1) : Nat) : Int))) (congrArg (fun z : Int => ((0 : Nat), z)) (by omega)) ?_
        refine ac_iload (q := 55) dX7_paintOn_53 rfl rfl ?_
        refine ac_iastoreN (q := 56) (j := 29 + (a - 1)) dX7_paintOn_55 kr (by decide) (by omega) rfl ?_
        refine ac_iconst (q := 57) dX7_paintOn_56 rfl ?_
        refine ac_zreturn dX7_paintOn_57 rfl (by first | exact ac_b01 | omega) (Nat.zero_le _) (Nat.zero_le _) ?_
        have hno : ¬ ac_pt T a c = true := by
          rw [hpt, Bool.and_eq_true, decide_eq_true_eq, decide_eq_true_eq]
          rintro ⟨-, q2⟩
          rcases hrk with ⟨-, h⟩ | ⟨h, -⟩
          · exact h _ rfl q2
          · omega
        rw [if_neg hno]
        have hm1r : ∀ j, m1 r j = ac_up mm r (29 + (a - 1)) (c : Int) r j := fun j => by rw [h1.1 r (by omega) (by omega)]
        refine ⟨ac_l0 hno, rfl, ac_RP_keep rP ?_, fun k' q1 q2 q3 => ?_, fun j hj => ?_⟩
        · funext j
          by_cases hj : j = 29 + (a - 1)
          · subst hj; rw [ac_up_s, hwv]
          · rw [ac_up_j hj, hm1r, ac_up_j hj]
        · rw [← show ac_up mm r (29 + (a - 1)) (c : Int) k' = mm k' from by funext j; exact ac_up_k q2, ← h1.1 k' q1 q3]; funext j; exact ac_up_k q2
        · rw [ac_up_k (by omega), h1.2 j hj, ac_up_k (by omega)]
      · refine ac_iconst (q := 45) dX7_paintOn_44 rfl ?_
        refine ac_zreturn dX7_paintOn_45 rfl (by first | exact ac_b01 | omega) (Nat.zero_le _) (Nat.zero_le _) ?_
        have hyes : ac_pt T a c = true := by
          rw [hpt, Bool.and_eq_true, decide_eq_true_eq, decide_eq_true_eq]
          refine ⟨fun q => h20 (by omega), ?_⟩
          rcases hrk with h | ⟨-, -, l', q1, q2⟩
          · exact absurd h.1 h41
          · cases q1; exact q2
        rw [if_pos hyes]
        refine ⟨ac_l1 hyes, rfl, ?_, fun k' q1 q2 q3 => ?_, fun j hj => ?_⟩
        · unfold ac_t_paint; rw [hcd]; exact ac_RP_fE hr hP1 h1
        · rw [h1.1 k' q1 q3]; funext j; exact ac_up_k q2
        · rw [h1.2 j hj, ac_up_k (by omega)]
    · refine ac_iconst (q := 24) dX7_paintOn_23 rfl ?_
      refine ac_zreturn dX7_paintOn_24 rfl (by first | exact ac_b01 | omega) (Nat.zero_le _) (Nat.zero_le _) ?_
      have hno : ¬ ac_pt T a c = true := by
        unfold ac_pt
        cases hcol : T.2.2.2.2 with
        | none => simp
        | some l =>
          obtain ⟨l1, l2⟩ := hc0 l hcol
          have hg : l[a - 1]? = some (l.getD (a - 1) 0) := by rw [List.getD_eq_getElem?_getD, List.getElem?_eq_getElem (by omega)]; rfl
          have hpv := pcl l hcol (a - 1) _ hg
          first
            | (rw [hcol] at h14; exact absurd rfl h14)
            | (rw [Bool.and_eq_true, decide_eq_true_eq]
               rintro ⟨q1, -⟩
               omega)
      rw [if_neg hno]; exact ⟨ac_l0 hno, rfl, rP, ac_fE_fEr (ac_fE_r mm x)⟩

set_option maxHeartbeats 8000000 in
theorem k_X7_least {G : ac_G} {Y : ac_Y} {mm : ac_M} {d x : Nat} {r : Nat} {T : ac_Tk} (hd : 7 ≤ d) (hM : ac_isM Y x) (hr : r = x + 3 ∨ r = x + 4) (rP : ac_RP mm r T) (hk : mm x 4 = (T.2.1 : Int))  : ac_C G yX7_least cX7_least 3 (some .int) d 0 0 Y mm [(2, (x : Int)), (2, (r : Int))] (ac_R Y [(0, ac_limT T)] (fun m => ac_fE mm m x)) := by
  have hM9 := hM
  obtain ⟨kx, k1, k2, k3, k4, k5, k6, k7, k8, k9, k10, k11, k12, k13, k14, k15, k16⟩ := hM.2
  obtain ⟨⟨⟨hn1, hn2⟩, ⟨hk2, hk3⟩, hE, hp0, hpr, hc0⟩, p0, p1, pE, pp, p28, pcb, pcl⟩ := id rP
  have kr : Y.2.1 r = (1, 39) := by rcases hr with e | e <;> rw [e] <;> assumption
  have h2l : 2 ^ T.2.2.1.length ≤ 16 := Nat.pow_le_pow_right (n := 2) (by decide) hE.1
  have hE4 := hE.1
  have hans : ac_limT T = ac_lst (ac_mayS (2 ^ T.2.2.1.length - 1) T.2.1 T.2.2.1 (fun _ => -1)) 10 1 := by unfold ac_limT; rw [ac_may_all, ac_least]
  have loop : ∀ (f i : Nat) (m : ac_M), i + f = 11 → 1 ≤ i → ac_fE mm m x → ac_limT T = ac_lst (ac_mayS (2 ^ T.2.2.1.length - 1) T.2.1 T.2.2.1 (fun _ => -1)) f i → ac_V G (RX7, "least") cX7_least 3 (some .int) d 0 0 (ac_R Y [(0, ac_limT T)] (fun m => ac_fE mm m x)) 0 0 Y m 2 [(2, (x : Int)), (2, (r : Int)), (0, (i : Int))] [] := by
    intro f
    induction f with
    | zero =>
      intro i m hi hi1 hf ha
      obtain rfl : i = 11 := by omega
      refine ac_iload_n (q := 3) dX7_least_2 rfl rfl ?_
      refine ac_bipush (q := 5) dX7_least_3 rfl (by decide) ?_
      refine ac_icmp_gt (q := 8) (tgt := 34) dX7_least_5 rfl rfl ⟨by omega, by omega⟩ ⟨by omega, by omega⟩ (fun h5 => ?_) (fun h5 => ?_)
      · refine ac_bipush (q := 36) dX7_least_34 rfl (by decide) ?_
        refine ac_ireturn dX7_least_36 rfl (Nat.zero_le _) (Nat.zero_le _) ?_
        exact ⟨by rw [ha]; rfl, rfl, hf⟩
      · exfalso; omega
    | succ f ih =>
      intro i m hi hi1 hf ha
      have ei : ((i : Nat) : Int) + 1 = ((i + 1 : Nat) : Int) := rfl
      have rPm := ac_RP_fE hr rP hf
      have p1m := rPm.2.2.1
      rw [ac_lst] at ha
      refine ac_iload_n (q := 3) dX7_least_2 rfl rfl ?_
      refine ac_bipush (q := 5) dX7_least_3 rfl (by decide) ?_
      refine ac_icmp_gt (q := 8) (tgt := 34) dX7_least_5 rfl rfl ⟨by omega, by omega⟩ ⟨by omega, by omega⟩ (fun h5 => ?_) (fun h5 => ?_)
      · exfalso; omega
      · refine ac_aload_n (q := 9) dX7_least_8 rfl rfl ?_
        refine ac_aload_n (q := 10) dX7_least_9 rfl rfl ?_
        refine ac_aload_n (q := 11) dX7_least_10 rfl rfl ?_
        refine ac_csp (q := 14) (k_X7_all (r := r) (z := T.2.2.1.length) (d := d - 1) (by omega) kr p1m hE.1) ml_X7_157 dX7_least_11 rfl rfl rfl (by omega) (Nat.le_of_ble_eq_true rfl) (Nat.zero_le _) (Nat.zero_le _) ?_
        refine ac_iload_n (q := 15) dX7_least_14 rfl rfl ?_
        refine ac_iconst (q := 16) dX7_least_15 rfl ?_
        refine ac_cv (q := 19) (k_X7_begin (r := r) (S := 2 ^ T.2.2.1.length - 1) (n := i) (T := T) (pz := 0) (pn := fun _ => -1) (d := d - 1) (by omega) hM9 hr rPm (by rw [hf.2 4 (by omega)]; exact hk) (by omega) ⟨by omega, by omega⟩ (Or.inl ⟨rfl, rfl⟩)) ml_X7_160 (by assumption) dX7_least_16 rfl rfl rfl (by omega) (Nat.le_of_ble_eq_true rfl) (Nat.zero_le _) (Nat.zero_le _) (fun m1 h1 => ?_)
        obtain ⟨N1, P1, F1⟩ := h1
        refine ac_aload_n (q := 20) dX7_least_19 rfl rfl ?_
        refine ac_cv (q := 23) (k_X7_more (d := d - 1) (by omega) hM9 N1 P1) ml_X7_164 (by assumption) dX7_least_20 rfl rfl rfl (by omega) (Nat.le_of_ble_eq_true rfl) (Nat.zero_le _) (Nat.zero_le _) (fun m2 h2 => ?_)
        obtain ⟨N2, F2, c2⟩ := h2
        have FF : ac_fE mm m2 x := ac_fE_t hf (ac_fE_t F1 F2)
        refine ac_bif_ne (q := 26) (tgt := 28) dX7_least_23 rfl rfl (fun h23 => ?_) (fun h23 => ?_)
        · rw [if_neg h23] at ha
          refine ac_iinc (q := 31) dX7_least_28 rfl (Nat.le_of_ble_eq_true rfl) rfl rfl rfl rfl ?_
          simp only [List.set_cons_succ, List.set_cons_zero]
          refine ac_goto (q := 2) dX7_least_31 rfl ?_
          exact ac_ls (by rw [ei]) (ih (i + 1) m2 (by omega) (by omega) FF ha)
        · rw [if_pos (Decidable.not_not.mp h23)] at ha
          refine ac_iload_n (q := 27) dX7_least_26 rfl rfl ?_
          refine ac_ireturn dX7_least_27 rfl (Nat.zero_le _) (Nat.zero_le _) ?_
          exact ⟨by rw [ha], rfl, FF⟩
  refine ac_met (on := (RX7, "least")) rfl rfl (Nat.le_of_ble_eq_true rfl) (ls := [(2, (x : Int)), (2, (r : Int)), (3, 0)]) rfl ?_
  refine ac_iconst (q := 1) dX7_least_0 rfl ?_
  refine ac_istore_n (q := 2) (j := 2) rfl dX7_least_1 rfl (Nat.le_of_ble_eq_true rfl) rfl rfl ?_
  simp only [List.set_cons_succ, List.set_cons_zero]
  exact loop 10 1 mm rfl (by omega) (ac_fE_r mm x) hans
