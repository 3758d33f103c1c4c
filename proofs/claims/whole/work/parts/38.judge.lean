theorem ac_std_1 {T : ac_Tk} {d : Nat} (h : d / 1000 = 1) : ac_std T d = (decide (ac_rfp T ((d % 1000 / 10 : Nat) : Int) ((d % 1000 % 10 : Nat) : Int) = 0), if ac_rfp T ((d % 1000 / 10 : Nat) : Int) ((d % 1000 % 10 : Nat) : Int) = 0 then ac_t_paint T ((d % 1000 / 10 : Nat) : Int) ((d % 1000 % 10 : Nat) : Int) else T) := by
  unfold ac_std
  rw [if_pos h]
theorem ac_std_2 {T : ac_Tk} {d : Nat} (h : d / 1000 = 2) : ac_std T d = (decide (ac_rfn T ((d % 1000 / 10 : Nat) : Int) ((d % 1000 % 10 : Nat) : Int) = 0), if ac_rfn T ((d % 1000 / 10 : Nat) : Int) ((d % 1000 % 10 : Nat) : Int) = 0 then ac_t_pin T (d % 1000 / 10) ((d % 1000 % 10 : Nat) : Int) else T) := by
  unfold ac_std
  rw [if_neg (show ¬ d / 1000 = 1 by omega), if_pos h]
theorem ac_std_3 {T : ac_Tk} {d : Nat} (h : d / 1000 = 3) : ac_std T d = (decide (1 ≤ d % 1000 ∧ d % 1000 ≤ 10), if 1 ≤ d % 1000 ∧ d % 1000 ≤ 10 then ac_t_reach T (d % 1000) else T) := by
  unfold ac_std
  rw [if_neg (show ¬ d / 1000 = 1 by omega), if_neg (show ¬ d / 1000 = 2 by omega), if_pos h]
theorem ac_std_4 {T : ac_Tk} {d : Nat} (h : d / 1000 = 4) : ac_std T d = (decide ((ac_Lt T).length = d % 1000), T) := by
  unfold ac_std
  rw [if_neg (show ¬ d / 1000 = 1 by omega), if_neg (show ¬ d / 1000 = 2 by omega), if_neg (show ¬ d / 1000 = 3 by omega), if_pos h]
theorem ac_std_5 {T : ac_Tk} {d : Nat} (h : d / 1000 = 5) : ac_std T d = (decide (ac_poss T (d % 1000 / 10) = 2 ^ (d % 1000 % 10)), T) := by
  unfold ac_std
  rw [if_neg (show ¬ d / 1000 = 1 by omega), if_neg (show ¬ d / 1000 = 2 by omega), if_neg (show ¬ d / 1000 = 3 by omega), if_neg (show ¬ d / 1000 = 4 by omega), if_pos h]
theorem ac_std_6 {T : ac_Tk} {d : Nat} (h : d / 1000 = 6) : ac_std T d = (decide (d % 1000 < T.2.2.1.length) && @decide (ac_reg (ac_eqn T ((d % 1000 : Nat) : Int))) (ac_regd _), T) := by
  unfold ac_std
  rw [if_neg (show ¬ d / 1000 = 1 by omega), if_neg (show ¬ d / 1000 = 2 by omega), if_neg (show ¬ d / 1000 = 3 by omega), if_neg (show ¬ d / 1000 = 4 by omega), if_neg (show ¬ d / 1000 = 5 by omega), if_pos h]
theorem ac_std_7 {T : ac_Tk} {d : Nat} (h : d / 1000 = 7) : ac_std T d = (decide (ac_limT T = if d % 1000 = 0 then -9 else ((d % 1000 : Nat) : Int)), T) := by
  unfold ac_std
  rw [if_neg (show ¬ d / 1000 = 1 by omega), if_neg (show ¬ d / 1000 = 2 by omega), if_neg (show ¬ d / 1000 = 3 by omega), if_neg (show ¬ d / 1000 = 4 by omega), if_neg (show ¬ d / 1000 = 5 by omega), if_neg (show ¬ d / 1000 = 6 by omega), if_pos h]
theorem ac_std_8 {T : ac_Tk} {d : Nat} (h : d / 1000 < 1 ∨ 7 < d / 1000) : ac_std T d = (false, T) := by
  unfold ac_std
  rw [if_neg (show ¬ d / 1000 = 1 by omega), if_neg (show ¬ d / 1000 = 2 by omega), if_neg (show ¬ d / 1000 = 3 by omega), if_neg (show ¬ d / 1000 = 4 by omega), if_neg (show ¬ d / 1000 = 5 by omega), if_neg (show ¬ d / 1000 = 6 by omega), if_neg (show ¬ d / 1000 = 7 by omega)]
theorem ac_bt {b : Bool} (h : b = true) : ([(0, 1)] : List (Nat × Int)) = [(0, ac_b (b = true))] := ac_l1 h
theorem ac_bf {b : Bool} (h : ¬ b = true) : ([(0, 0)] : List (Nat × Int)) = [(0, ac_b (b = true))] := ac_l0 h
theorem ac_lim_in (A : List Nat → Nat → Bool) : -9 ≤ ac_lim A ∧ ac_lim A ≤ 11 := by
  unfold ac_lim; split <;> omega

set_option maxHeartbeats 8000000 in
theorem k_X5_possibleOf0 {G : ac_G} {Y : ac_Y} {mm : ac_M} {d w a : Nat} (hd : 1 ≤ d) (hW : ac_isW Y w) (ha : ¬ (1 ≤ a ∧ a ≤ 10)) (ha2 : a < 1000) : ac_C G yX5_possibleOf cX5_possibleOf 2 (some .int) d 0 0 Y mm [(2, (w : Int)), (0, (a : Int))] (ac_R Y [(0, 0)] (fun m => m = mm)) := by
  obtain ⟨⟨kw, -⟩, -⟩ := hW
  refine ac_met (on := (RX5, "possibleOf")) rfl rfl (Nat.le_of_ble_eq_true rfl) (ls := [(2, (w : Int)), (0, (a : Int))]) rfl ?_
  refine ac_iload_n (q := 1) dX5_possibleOf_0 rfl rfl ?_
  refine ac_iconst (q := 2) dX5_possibleOf_1 rfl ?_
  refine ac_icmp_lt (q := 5) (tgt := 20) dX5_possibleOf_2 rfl rfl ⟨by omega, by omega⟩ ⟨by omega, by omega⟩ (fun h2 => ?_) (fun h2 => ?_)
  · refine ac_iconst (q := 21) dX5_possibleOf_20 rfl ?_
    refine ac_ireturn dX5_possibleOf_21 rfl (Nat.zero_le _) (Nat.zero_le _) ?_
    exact ⟨rfl, rfl, rfl⟩
  · refine ac_iload_n (q := 6) dX5_possibleOf_5 rfl rfl ?_
    refine ac_bipush (q := 8) dX5_possibleOf_6 rfl (by decide) ?_
    refine ac_icmp_gt (q := 11) (tgt := 20) dX5_possibleOf_8 rfl rfl ⟨by omega, by omega⟩ ⟨by omega, by omega⟩ (fun h8 => ?_) (fun h8 => ?_)
    · refine ac_iconst (q := 21) dX5_possibleOf_20 rfl ?_
      refine ac_ireturn dX5_possibleOf_21 rfl (Nat.zero_le _) (Nat.zero_le _) ?_
      exact ⟨rfl, rfl, rfl⟩
    · exfalso; omega

set_option maxHeartbeats 8000000 in
theorem k_X6_stands {G : ac_G} {Y : ac_Y} {mm : ac_M} {d x : Nat} {s : List Nat} {T : ac_Tk} {hs : List ac_Tk} {s0 s1 : Option ac_Tk} {obs : List ac_Ob} {ch : Int} {T' : ac_Tk} {q : Nat} (hd : 22 ≤ d) (hA : ac_isA Y x) (hR : ac_RA mm x s T hs s0 s1 obs ch) (rT2 : ac_RTk mm (x + 11) T') (hok2 : ac_okS T') (hq : q < 10000) : ac_C G yX6_stands cX6_stands 5 (some .boolean) d 0 0 Y mm [(2, (x : Int)), (0, (q : Int))] (ac_R Y [(0, ac_b ((ac_std T' q).1 = true))] (fun m => ac_RA m x s T hs s0 s1 obs ch ∧ ac_RTk m (x + 11) (ac_std T' q).2 ∧ ac_fA mm m x)) := by
  have hA9 := hA
  obtain ⟨⟨kx, -⟩, hX, ⟨hT0, hT1, hT2, hT3⟩, ⟨ka, -, -, hS0, hS1⟩, hH, hW⟩ := hA
  have ktx := hX.1
  have kn0 := hT0.1
  have kn1 := hT1.1
  have kn2 := hT2.1
  have kn3 := hT3.1
  have kh := hH.1
  obtain ⟨⟨kw, -⟩, ⟨k14, k15, k16, k17⟩, hWS, hWC, hWT⟩ := id hW
  have kws := hWS.1
  have kwc := hWC.1
  have hR9 := hR
  obtain ⟨⟨p, rX⟩, rT, ⟨rs0, rs1⟩, rH, rS, ⟨E0, rC⟩, rc⟩ := hR
  obtain ⟨⟨⟨hn1, hn2⟩, ⟨hkk1, hkk2⟩, ⟨hE4, hE2⟩, hp0, hpr, hc0⟩, t3, t4, t5, t6, tE, tp, tcb, tc⟩ := id rT
  have hLn := ac_Lt_len T hn2
  obtain ⟨⟨⟨un1, un2⟩, ⟨uk1, uk2⟩, uE, up0, upr, uc0⟩, u3, u4, u5, u6, uEE, upp, ucb, uc⟩ := id rT2
  have hLn2 := ac_Lt_len T' un2
  have hl99 : q % 1000 / 10 < 100 := by omega
  have hl10 : q % 1000 % 10 < 10 := by omega
  generalize ea : q % 1000 / 10 = a at *
  generalize ec : q % 1000 % 10 = c at *
  have hee : q % 1000 < 1000 := Nat.mod_lt _ (by decide)
  generalize ee : q % 1000 = e at *
  refine ac_met (on := (RX6, "stands")) rfl rfl (Nat.le_of_ble_eq_true rfl) (ls := [(2, (x : Int)), (0, (q : Int)), (3, 0), (3, 0), (3, 0)]) rfl ?_
  refine ac_iload_n (q := 1) dX6_stands_0 rfl rfl ?_
  refine ac_sipush (q := 4) dX6_stands_1 rfl (by decide) ?_
  refine ac_irem (q := 5) dX6_stands_4 rfl ⟨by omega, by omega⟩ ⟨by omega, by omega⟩ (by omega) (by omega) ?_
  refine ac_top (w' := (0, (e : Int))) (congrArg (fun z => ((0 : Nat), z)) (by rw [← ee, Int.ofNat_tmod]; rfl)) ?_
  refine ac_istore_n (q := 6) (j := 2) rfl dX6_stands_5 rfl (Nat.le_of_ble_eq_true rfl) rfl rfl ?_
  simp only [List.set_cons_succ, List.set_cons_zero]
  refine ac_iload_n (q := 7) dX6_stands_6 rfl rfl ?_
  refine ac_bipush (q := 9) dX6_stands_7 rfl (by decide) ?_
  refine ac_idiv (q := 10) dX6_stands_9 rfl ⟨by omega, by omega⟩ ⟨by omega, by omega⟩ (by omega) (by omega) ?_
  refine ac_top (w' := (0, (a : Int))) (congrArg (fun z => ((0 : Nat), z)) (by rw [← ea, Int.ofNat_tdiv]; rfl)) ?_
  refine ac_istore_n (q := 11) (j := 3) rfl dX6_stands_10 rfl (Nat.le_of_ble_eq_true rfl) rfl rfl ?_
  simp only [List.set_cons_succ, List.set_cons_zero]
  refine ac_iload_n (q := 12) dX6_stands_11 rfl rfl ?_
  refine ac_bipush (q := 14) dX6_stands_12 rfl (by decide) ?_
  refine ac_irem (q := 15) dX6_stands_14 rfl ⟨by omega, by omega⟩ ⟨by omega, by omega⟩ (by omega) (by omega) ?_
  refine ac_top (w' := (0, (c : Int))) (congrArg (fun z => ((0 : Nat), z)) (by rw [← ec, Int.ofNat_tmod]; rfl)) ?_
  refine ac_istore (q := 17) dX6_stands_15 rfl (Nat.le_of_ble_eq_true rfl) rfl rfl ?_
  simp only [List.set_cons_succ, List.set_cons_zero]
  refine ac_iload_n (q := 18) dX6_stands_17 rfl rfl ?_
  refine ac_sipush (q := 21) dX6_stands_18 rfl (by decide) ?_
  refine ac_idiv (q := 22) dX6_stands_21 rfl ⟨by omega, by omega⟩ ⟨by omega, by omega⟩ (by omega) (by omega) ?_
  refine ac_top (w' := (0, ((q / 1000 : Nat) : Int))) (congrArg (fun z => ((0 : Nat), z)) (by rw [Int.ofNat_tdiv]; rfl)) ?_
  by_cases hsw : ((q / 1000 : Nat) : Int) < 1 ∨ 7 < ((q / 1000 : Nat) : Int)
  · refine ac_tabOut (tgt := 273) dX6_stands_22 ⟨by omega, by omega⟩ hsw rfl ?_
    have hstd := ac_std_8 (T := T') (d := q) (by omega)
    rw [hstd]
    refine ac_iconst (q := 274) dX6_stands_273 rfl ?_
    refine ac_zreturn dX6_stands_274 rfl (by first | exact ac_b01 | omega) (Nat.zero_le _) (Nat.zero_le _) ?_
    exact ⟨ac_bf (by simp), rfl, hR9, rT2, ac_fA_r mm x⟩
  · rcases (show ((q / 1000 : Nat) : Int) = 1 ∨ ((q / 1000 : Nat) : Int) = 2 ∨ ((q / 1000 : Nat) : Int) = 3 ∨ ((q / 1000 : Nat) : Int) = 4 ∨ ((q / 1000 : Nat) : Int) = 5 ∨ ((q / 1000 : Nat) : Int) = 6 ∨ ((q / 1000 : Nat) : Int) = 7 by omega) with hsv | hsv | hsv | hsv | hsv | hsv | hsv
    · rw [hsv]; refine ac_tabIn (off := 42) (tgt := 64) dX6_stands_22 ⟨by decide, by decide⟩ (by decide) (by decide) rfl rfl ?_
      have hk : q / 1000 = 1 := by omega
      have hstd := ac_std_1 (T := T') hk
      simp only [ee, ea, ec] at hstd
      rw [hstd]
      refine ac_aload_n (q := 65) dX6_stands_64 rfl rfl ?_
      refine ac_aload_n (q := 66) dX6_stands_65 rfl rfl ?_
      refine ac_get (q := 69) dX6_stands_66 fl_X6_26 (by assumption) rfl (ac_rdr rfl hA9.1.2.2.2.2.1) ?_
      refine ac_iload_n (q := 70) dX6_stands_69 rfl rfl ?_
      refine ac_iload (q := 72) dX6_stands_70 rfl rfl ?_
      refine ac_cv (q := 75) (k_X6_refusalOfPaint (u := x + 11) (a := (a : Int)) (c := (c : Int)) (d := d - 1) (by omega) hA9 (Or.inr rfl) rT2 hok2 rS rC ⟨by omega, by omega⟩ ⟨by omega, by omega⟩) ml_X6_144 (by assumption) dX6_stands_72 rfl rfl rfl (by omega) (Nat.le_of_ble_eq_true rfl) (Nat.zero_le _) (Nat.zero_le _) (fun m1 h1 => ?_)
      obtain ⟨gs1, gc1, f1⟩ := h1
      have A1 := ac_RA_w hR9 gs1 gc1 (fun k' z => f1 k' (by omega))
      have hrng := ac_rfp_in T' (a : Int) (c : Int)
      have rT3 : ac_RTk m1 (x + 11) T' := ac_RTk_keep rT2 (f1 _ (by omega)) (f1 _ (by omega)) (f1 _ (by omega)) (f1 _ (by omega))
      refine ac_if_eq (q := 78) (tgt := 80) dX6_stands_75 rfl rfl ⟨by omega, by omega⟩ (fun h75 => ?_) (fun h75 => ?_)
      · have hpt : (1 ≤ (a : Int) ∧ (a : Int) ≤ (T'.1 : Int)) ∧ (0 ≤ (c : Int) ∧ (c : Int) < (T'.2.1 : Int)) ∧ ac_pt T' a c = true := by
          have h75' := h75
          unfold ac_rfp at h75'
          by_cases q1 : 1 ≤ (a : Int) ∧ (a : Int) ≤ (T'.1 : Int)
          · rw [if_neg (fun q => q q1)] at h75'
            by_cases q2 : 0 ≤ (c : Int) ∧ (c : Int) < (T'.2.1 : Int)
            · rw [if_neg (fun q => q q2)] at h75'
              by_cases q3 : ac_pt T' (a : Int).toNat (c : Int).toNat = true
              · exact ⟨q1, q2, q3⟩
              · rw [if_neg q3] at h75'; exact absurd h75' (by decide)
            · rw [if_pos q2] at h75'; exact absurd h75' (by decide)
          · rw [if_pos q1] at h75'; exact absurd h75' (by decide)
        obtain ⟨⟨p1, p2⟩, ⟨p3, p4⟩, hpt⟩ := hpt
        obtain ⟨l, hl⟩ : ∃ l, T'.2.2.2.2 = some l := by
          unfold ac_pt at hpt
          cases hc : T'.2.2.2.2 with
          | some l => exact ⟨l, rfl⟩
          | none => rw [hc] at hpt; cases hpt
        refine ac_aload_n (q := 81) dX6_stands_80 rfl rfl ?_
        refine ac_get (q := 84) dX6_stands_81 fl_X6_26 (by assumption) rfl (ac_rdr rfl hA9.1.2.2.2.2.1) ?_
        refine ac_iload_n (q := 85) dX6_stands_84 rfl rfl ?_
        refine ac_iload (q := 87) dX6_stands_85 rfl rfl ?_
        refine ac_cv (q := 90) (k_X3_repaint (t := x + 11) (x := a) (c := c) (l := l) (d := d - 1) (by omega) hT2 rT3 ⟨by omega, by omega⟩ (by omega) hl) ml_X6_148 (by assumption) dX6_stands_87 rfl rfl rfl (by omega) (Nat.le_of_ble_eq_true rfl) (Nat.zero_le _) (Nat.zero_le _) (fun m2 h2 => ?_)
        obtain ⟨g2, f2⟩ := h2
        have hcd : ac_colD T' = l := by unfold ac_colD; rw [hl]; rfl
        have g2' : ac_RTk m2 (x + 11) (ac_t_paint T' (a : Int) (c : Int)) := by unfold ac_t_paint; rw [hcd]; exact g2
        have A2 := ac_RA_w A1 (ac_RS_keep gs1 (f2 _ (by omega)) (f2 _ (by omega)) (f2 _ (by omega))) (gc1.elim fun E1 z => ⟨E1, ac_RC_keep z (f2 _ (by omega)) (f2 _ (by omega)) (f2 _ (by omega))⟩) (fun k' z => f2 k' (by omega))
        refine ac_iconst (q := 91) dX6_stands_90 rfl ?_
        refine ac_zreturn dX6_stands_91 rfl (by first | exact ac_b01 | omega) (Nat.zero_le _) (Nat.zero_le _) ?_
        rw [if_pos h75]; exact ⟨ac_bt (by rw [decide_eq_true_eq]; exact h75), rfl, A2, g2', fun k' z => by rw [f2 k' (by omega), f1 k' (by omega)]⟩
      · refine ac_iconst (q := 79) dX6_stands_78 rfl ?_
        refine ac_zreturn dX6_stands_79 rfl (by first | exact ac_b01 | omega) (Nat.zero_le _) (Nat.zero_le _) ?_
        rw [if_neg h75]; exact ⟨ac_bf (by rw [decide_eq_true_eq]; exact h75), rfl, A1, rT3, fun k' z => f1 k' (by omega)⟩
    · rw [hsv]; refine ac_tabIn (off := 70) (tgt := 92) dX6_stands_22 ⟨by decide, by decide⟩ (by decide) (by decide) rfl rfl ?_
      have hk : q / 1000 = 2 := by omega
      have hstd := ac_std_2 (T := T') hk
      simp only [ee, ea, ec] at hstd
      rw [hstd]
      refine ac_aload_n (q := 93) dX6_stands_92 rfl rfl ?_
      refine ac_get (q := 96) dX6_stands_93 fl_X6_26 (by assumption) rfl (ac_rdr rfl hA9.1.2.2.2.2.1) ?_
      refine ac_iload_n (q := 97) dX6_stands_96 rfl rfl ?_
      refine ac_iload (q := 99) dX6_stands_97 rfl rfl ?_
      refine ac_csp (q := 102) (k_X6_refusalOfPin (u := x + 11) (a := (a : Int)) (c := (c : Int)) (d := d - 1) (by omega) hT2 rT2 ⟨by omega, by omega⟩ ⟨by omega, by omega⟩) ml_X6_170 dX6_stands_99 rfl rfl rfl (by omega) (Nat.le_of_ble_eq_true rfl) (Nat.zero_le _) (Nat.zero_le _) ?_
      have hrng := ac_rfn_in T' (a : Int) (c : Int)
      refine ac_if_eq (q := 105) (tgt := 107) dX6_stands_102 rfl rfl ⟨by omega, by omega⟩ (fun h102 => ?_) (fun h102 => ?_)
      · refine ac_aload_n (q := 108) dX6_stands_107 rfl rfl ?_
        refine ac_get (q := 111) dX6_stands_108 fl_X6_26 (by assumption) rfl (ac_rdr rfl hA9.1.2.2.2.2.1) ?_
        refine ac_iload_n (q := 112) dX6_stands_111 rfl rfl ?_
        refine ac_iload (q := 114) dX6_stands_112 rfl rfl ?_
        refine ac_cv (q := 117) (k_X3_setPin (t := x + 11) (x := a) (c := (c : Int)) (d := d - 1) (by omega) hT2 rT2 (by have := ac_rfn_has h102; omega) ⟨by omega, by omega⟩) ml_X6_173 (by assumption) dX6_stands_114 rfl rfl rfl (by omega) (Nat.le_of_ble_eq_true rfl) (Nat.zero_le _) (Nat.zero_le _) (fun m2 h2 => ?_)
        obtain ⟨g2, f2⟩ := h2
        have A2 := ac_RA_w hR9 (ac_RS_keep rS (f2 _ (by omega)) (f2 _ (by omega)) (f2 _ (by omega))) ⟨E0, ac_RC_keep rC (f2 _ (by omega)) (f2 _ (by omega)) (f2 _ (by omega))⟩ (fun k' z => f2 k' (by omega))
        refine ac_aload_n (q := 118) dX6_stands_117 rfl rfl ?_
        refine ac_aload_n (q := 119) dX6_stands_118 rfl rfl ?_
        refine ac_get (q := 122) dX6_stands_119 fl_X6_26 (by assumption) rfl (ac_rdr rfl hA9.1.2.2.2.2.1) ?_
        obtain ⟨Es, rCs⟩ := A2.2.2.2.2.2.1
        refine ac_cv (q := 125) (k_X6_settle (u := x + 11) (T := (T'.1, T'.2.1, T'.2.2.1, ac_sp T'.2.2.2.1 a (if 0 ≤ (c : Int) ∧ (c : Int) < (T'.2.1 : Int) then (c : Int) else -1), T'.2.2.2.2)) (d := d - 1) (by omega) hA9 (Or.inr rfl) g2 A2.2.2.2.2.1 rCs) ml_X6_54 (by assumption) dX6_stands_122 rfl rfl rfl (by omega) (Nat.le_of_ble_eq_true rfl) (Nat.zero_le _) (Nat.zero_le _) (fun m3 h3 => ?_)
        obtain ⟨g3, gs3, gc3, f3⟩ := h3
        have A3 := ac_RA_w A2 gs3 gc3 (fun k' z => f3 k' (by omega) (by omega))
        refine ac_pop (q := 126) dX6_stands_125 rfl (show (0 : Nat) ≠ 1 by decide) ?_
        refine ac_iconst (q := 127) dX6_stands_126 rfl ?_
        refine ac_zreturn dX6_stands_127 rfl (by first | exact ac_b01 | omega) (Nat.zero_le _) (Nat.zero_le _) ?_
        rw [if_pos h102]; exact ⟨ac_bt (by rw [decide_eq_true_eq]; exact h102), rfl, A3, g3, fun k' z => by rw [f3 k' (by omega) (by omega), f2 k' (by omega)]⟩
      · refine ac_iconst (q := 106) dX6_stands_105 rfl ?_
        refine ac_zreturn dX6_stands_106 rfl (by first | exact ac_b01 | omega) (Nat.zero_le _) (Nat.zero_le _) ?_
        rw [if_neg h102]; exact ⟨ac_bf (by rw [decide_eq_true_eq]; exact h102), rfl, hR9, rT2, ac_fA_r mm x⟩
    · rw [hsv]; refine ac_tabIn (off := 106) (tgt := 128) dX6_stands_22 ⟨by decide, by decide⟩ (by decide) (by decide) rfl rfl ?_
      have hk : q / 1000 = 3 := by omega
      have hstd := ac_std_3 (T := T') hk
      simp only [ee] at hstd
      rw [hstd]
      refine ac_iload_n (q := 129) dX6_stands_128 rfl rfl ?_
      refine ac_csp (q := 132) (k_X6_reachable (d := d - 1) (by omega) ⟨by omega, by omega⟩) ml_X6_154 dX6_stands_129 rfl rfl rfl (by omega) (Nat.le_of_ble_eq_true rfl) (Nat.zero_le _) (Nat.zero_le _) ?_
      refine ac_bif_ne (q := 135) (tgt := 137) dX6_stands_132 rfl rfl (fun h132 => ?_) (fun h132 => ?_)
      · refine ac_aload_n (q := 138) dX6_stands_137 rfl rfl ?_
        refine ac_get (q := 141) dX6_stands_138 fl_X6_26 (by assumption) rfl (ac_rdr rfl hA9.1.2.2.2.2.1) ?_
        refine ac_iload_n (q := 142) dX6_stands_141 rfl rfl ?_
        refine ac_cv (q := 145) (k_X3_resize (t := x + 11) (n' := e) (d := d - 1) (by omega) hT2 rT2 ⟨by omega, by omega⟩) ml_X6_157 (by assumption) dX6_stands_142 rfl rfl rfl (by omega) (Nat.le_of_ble_eq_true rfl) (Nat.zero_le _) (Nat.zero_le _) (fun m2 h2 => ?_)
        obtain ⟨g2, f2⟩ := h2
        have A2 := ac_RA_w hR9 (ac_RS_keep rS (f2 _ (by omega)) (f2 _ (by omega)) (f2 _ (by omega))) ⟨E0, ac_RC_keep rC (f2 _ (by omega)) (f2 _ (by omega)) (f2 _ (by omega))⟩ (fun k' z => f2 k' (by omega))
        refine ac_aload_n (q := 146) dX6_stands_145 rfl rfl ?_
        refine ac_aload_n (q := 147) dX6_stands_146 rfl rfl ?_
        refine ac_get (q := 150) dX6_stands_147 fl_X6_26 (by assumption) rfl (ac_rdr rfl hA9.1.2.2.2.2.1) ?_
        obtain ⟨Es, rCs⟩ := A2.2.2.2.2.2.1
        refine ac_cv (q := 153) (k_X6_settle (u := x + 11) (T := (e, T'.2.1, T'.2.2.1, ac_cut T'.2.2.2.1 e, if e = T'.1 then T'.2.2.2.2 else none)) (d := d - 1) (by omega) hA9 (Or.inr rfl) g2 A2.2.2.2.2.1 rCs) ml_X6_54 (by assumption) dX6_stands_150 rfl rfl rfl (by omega) (Nat.le_of_ble_eq_true rfl) (Nat.zero_le _) (Nat.zero_le _) (fun m3 h3 => ?_)
        obtain ⟨g3, gs3, gc3, f3⟩ := h3
        have A3 := ac_RA_w A2 gs3 gc3 (fun k' z => f3 k' (by omega) (by omega))
        refine ac_pop (q := 154) dX6_stands_153 rfl (show (0 : Nat) ≠ 1 by decide) ?_
        refine ac_iconst (q := 155) dX6_stands_154 rfl ?_
        refine ac_zreturn dX6_stands_155 rfl (by first | exact ac_b01 | omega) (Nat.zero_le _) (Nat.zero_le _) ?_
        have hyes : 1 ≤ e ∧ e ≤ 10 := by omega
        rw [if_pos hyes]; exact ⟨ac_bt (by rw [decide_eq_true_eq]; exact hyes), rfl, A3, g3, fun k' z => by rw [f3 k' (by omega) (by omega), f2 k' (by omega)]⟩
      · refine ac_iconst (q := 136) dX6_stands_135 rfl ?_
        refine ac_zreturn dX6_stands_136 rfl (by first | exact ac_b01 | omega) (Nat.zero_le _) (Nat.zero_le _) ?_
        have hno : ¬ (1 ≤ e ∧ e ≤ 10) := by omega
        rw [if_neg hno]; exact ⟨ac_bf (by rw [decide_eq_true_eq]; exact hno), rfl, hR9, rT2, ac_fA_r mm x⟩
    · rw [hsv]; refine ac_tabIn (off := 134) (tgt := 156) dX6_stands_22 ⟨by decide, by decide⟩ (by decide) (by decide) rfl rfl ?_
      have hk : q / 1000 = 4 := by omega
      have hstd := ac_std_4 (T := T') hk
      simp only [ee] at hstd
      rw [hstd]
      refine ac_aload_n (q := 157) dX6_stands_156 rfl rfl ?_
      refine ac_get (q := 160) dX6_stands_157 fl_X6_46 (by assumption) rfl (ac_rdr rfl hA9.1.2.2.2.2.2.2.2.2) ?_
      refine ac_aload_n (q := 161) dX6_stands_160 rfl rfl ?_
      refine ac_get (q := 164) dX6_stands_161 fl_X6_26 (by assumption) rfl (ac_rdr rfl hA9.1.2.2.2.2.1) ?_
      refine ac_iconst (q := 165) dX6_stands_164 rfl ?_
      refine ac_cv (q := 168) (k_X5_survey (d := d - 1) (w := x + 86) (t := x + 11) (wanted := 0) (by omega) hW ⟨by decide, by decide⟩ rC rS hT2 rT2 (by omega)) ml_X6_113 (by assumption) dX6_stands_165 rfl rfl rfl (by omega) (Nat.le_of_ble_eq_true rfl) (Nat.zero_le _) (Nat.zero_le _) (fun m1 h1 => ?_)
      obtain ⟨w1, R1, f1⟩ := h1
      have R1 : ac_RW m1 (x + 86) T'.2.2.2.2 obs 0 (ac_Lt T') (ac_cb (ac_Lt T')) (ac_dead (ac_may T'.2.1 T'.2.2.1 T'.2.2.2.1) T'.1 []) (ac_deep (ac_may T'.2.1 T'.2.2.1 T'.2.2.2.1) T'.1 []) := R1
      have A1 := ac_RA_w hR9 w1.2.2 ⟨_, w1.2.1⟩ (fun k' a => f1 k' (by omega))
      have rT3 : ac_RTk m1 (x + 11) T' := ac_RTk_keep rT2 (f1 _ (by omega)) (f1 _ (by omega)) (f1 _ (by omega)) (f1 _ (by omega))
      refine ac_aload_n (q := 169) dX6_stands_168 rfl rfl ?_
      refine ac_get (q := 172) dX6_stands_169 fl_X6_46 (by assumption) rfl (ac_rdr rfl hA9.1.2.2.2.2.2.2.2.2) ?_
      refine ac_get (q := 175) dX6_stands_172 fl_X6_123 kw rfl (ac_rdi rfl R1.1.2.1) ?_
      refine ac_iload_n (q := 176) dX6_stands_175 rfl rfl ?_
      refine ac_icmp_ne (q := 179) (tgt := 183) dX6_stands_176 rfl rfl ⟨by omega, by omega⟩ ⟨by omega, by omega⟩ (fun h176 => ?_) (fun h176 => ?_)
      · refine ac_iconst (q := 184) dX6_stands_183 rfl ?_
        refine ac_zreturn dX6_stands_184 rfl (by first | exact ac_b01 | omega) (Nat.zero_le _) (Nat.zero_le _) ?_
        first
          | exact ⟨ac_bt (by rw [decide_eq_true_eq]; omega), rfl, A1, rT3, fun k' z => f1 k' (by omega)⟩
          | exact ⟨ac_bf (by rw [decide_eq_true_eq]; omega), rfl, A1, rT3, fun k' z => f1 k' (by omega)⟩
      · refine ac_iconst (q := 180) dX6_stands_179 rfl ?_
        refine ac_goto (q := 184) dX6_stands_180 rfl ?_
        refine ac_zreturn dX6_stands_184 rfl (by first | exact ac_b01 | omega) (Nat.zero_le _) (Nat.zero_le _) ?_
        first
          | exact ⟨ac_bt (by rw [decide_eq_true_eq]; omega), rfl, A1, rT3, fun k' z => f1 k' (by omega)⟩
          | exact ⟨ac_bf (by rw [decide_eq_true_eq]; omega), rfl, A1, rT3, fun k' z => f1 k' (by omega)⟩
    · rw [hsv]; refine ac_tabIn (off := 163) (tgt := 185) dX6_stands_22 ⟨by decide, by decide⟩ (by decide) (by decide) rfl rfl ?_
      have hk : q / 1000 = 5 := by omega
      have hstd := ac_std_5 (T := T') hk
      simp only [ee, ea, ec] at hstd
      rw [hstd]
      refine ac_aload_n (q := 186) dX6_stands_185 rfl rfl ?_
      refine ac_get (q := 189) dX6_stands_186 fl_X6_46 (by assumption) rfl (ac_rdr rfl hA9.1.2.2.2.2.2.2.2.2) ?_
      refine ac_aload_n (q := 190) dX6_stands_189 rfl rfl ?_
      refine ac_get (q := 193) dX6_stands_190 fl_X6_26 (by assumption) rfl (ac_rdr rfl hA9.1.2.2.2.2.1) ?_
      refine ac_iconst (q := 194) dX6_stands_193 rfl ?_
      refine ac_cv (q := 197) (k_X5_survey (d := d - 1) (w := x + 86) (t := x + 11) (wanted := 0) (by omega) hW ⟨by decide, by decide⟩ rC rS hT2 rT2 (by omega)) ml_X6_113 (by assumption) dX6_stands_194 rfl rfl rfl (by omega) (Nat.le_of_ble_eq_true rfl) (Nat.zero_le _) (Nat.zero_le _) (fun m1 h1 => ?_)
      obtain ⟨w1, R1, f1⟩ := h1
      have R1 : ac_RW m1 (x + 86) T'.2.2.2.2 obs 0 (ac_Lt T') (ac_cb (ac_Lt T')) (ac_dead (ac_may T'.2.1 T'.2.2.1 T'.2.2.2.1) T'.1 []) (ac_deep (ac_may T'.2.1 T'.2.2.1 T'.2.2.2.1) T'.1 []) := R1
      have A1 := ac_RA_w hR9 w1.2.2 ⟨_, w1.2.1⟩ (fun k' a => f1 k' (by omega))
      have rT3 : ac_RTk m1 (x + 11) T' := ac_RTk_keep rT2 (f1 _ (by omega)) (f1 _ (by omega)) (f1 _ (by omega)) (f1 _ (by omega))
      have hcb : ac_cb (ac_Lt T') a < 2048 := Nat.lt_trans (ac_cb_lt (fun l hl z hz => by have := ((ac_Lt_mem uk2).mp hl).2.1 z hz; omega)) (by decide)
      have hp2 : 2 ^ c < 2048 := Nat.lt_of_le_of_lt (Nat.pow_le_pow_right (by decide) (show c ≤ 9 by omega)) (by decide)
      have hps : ac_poss T' a < 2048 := by
        unfold ac_poss; split
        · exact hcb
        · decide
      refine ac_aload_n (q := 198) dX6_stands_197 rfl rfl ?_
      refine ac_get (q := 201) dX6_stands_198 fl_X6_46 (by assumption) rfl (ac_rdr rfl hA9.1.2.2.2.2.2.2.2.2) ?_
      refine ac_iload_n (q := 202) dX6_stands_201 rfl rfl ?_
      have hcall : ac_C G yX5_possibleOf cX5_possibleOf 2 (some .int) (d - 1) 0 0 Y m1 [(2, ((x + 86 : Nat) : Int)), (0, (a : Int))] (ac_R Y [(0, ((ac_poss T' a : Nat) : Int))] (fun m => m = m1)) := by
        unfold ac_poss
        by_cases ha : 1 ≤ a ∧ a ≤ 10
        · rw [if_pos ha]; exact k_X5_possibleOf (by omega) hW (R1.2.2 a (by omega) (by omega)) ha
        · rw [if_neg ha]; exact k_X5_possibleOf0 (by omega) hW ha (by omega)
      refine ac_cvp (q := 205) (hcall) ml_X6_117 (by assumption) dX6_stands_202 rfl rfl rfl (by omega) (Nat.le_of_ble_eq_true rfl) (Nat.zero_le _) (Nat.zero_le _) ?_
      refine ac_iconst (q := 206) dX6_stands_205 rfl ?_
      refine ac_iload (q := 208) dX6_stands_206 rfl rfl ?_
      refine ac_ishl1 (q := 209) (k := c) dX6_stands_208 rfl (by omega) ?_
      refine ac_icmp_ne (q := 212) (tgt := 216) dX6_stands_209 rfl rfl (ac_nin hps) (ac_nin hp2) (fun h209 => ?_) (fun h209 => ?_)
      · refine ac_iconst (q := 217) dX6_stands_216 rfl ?_
        refine ac_zreturn dX6_stands_217 rfl (by first | exact ac_b01 | omega) (Nat.zero_le _) (Nat.zero_le _) ?_
        first
          | exact ⟨ac_bt (by rw [decide_eq_true_eq]; exact Int.ofNat.inj h209), rfl, A1, rT3, fun k' z => f1 k' (by omega)⟩
          | exact ⟨ac_bf (by rw [decide_eq_true_eq]; exact fun z => h209 (by rw [z])), rfl, A1, rT3, fun k' z => f1 k' (by omega)⟩
      · refine ac_iconst (q := 213) dX6_stands_212 rfl ?_
        refine ac_goto (q := 217) dX6_stands_213 rfl ?_
        refine ac_zreturn dX6_stands_217 rfl (by first | exact ac_b01 | omega) (Nat.zero_le _) (Nat.zero_le _) ?_
        first
          | exact ⟨ac_bt (by rw [decide_eq_true_eq]; exact Int.ofNat.inj h209), rfl, A1, rT3, fun k' z => f1 k' (by omega)⟩
          | exact ⟨ac_bf (by rw [decide_eq_true_eq]; exact fun z => h209 (by rw [z])), rfl, A1, rT3, fun k' z => f1 k' (by omega)⟩
    · rw [hsv]; refine ac_tabIn (off := 196) (tgt := 218) dX6_stands_22 ⟨by decide, by decide⟩ (by decide) (by decide) rfl rfl ?_
      have hk : q / 1000 = 6 := by omega
      have hstd : ac_std T' q = (decide (e < T'.2.2.1.length) && @decide (ac_reg (ac_eqn T' ((e : Nat) : Int))) (ac_regd _), T') := by rw [← ee]; exact ac_std_6 hk
      rw [hstd]
      refine ac_aload_n (q := 219) dX6_stands_218 rfl rfl ?_
      refine ac_get (q := 222) dX6_stands_219 fl_X6_26 (by assumption) rfl (ac_rdr rfl hA9.1.2.2.2.2.1) ?_
      refine ac_iload_n (q := 223) dX6_stands_222 rfl rfl ?_
      refine ac_cvp (q := 226) (k_X3_hasEquation (t := x + 11) (d := d - 1) (by omega) hT2 rT2 ⟨by omega, by omega⟩) ml_X6_83 (by assumption) dX6_stands_223 rfl rfl rfl (by omega) (Nat.le_of_ble_eq_true rfl) (Nat.zero_le _) (Nat.zero_le _) ?_
      refine ac_bif_eq (q := 229) (tgt := 244) dX6_stands_226 rfl rfl (fun h226 => ?_) (fun h226 => ?_)
      · refine ac_iconst (q := 245) dX6_stands_244 rfl ?_
        refine ac_zreturn dX6_stands_245 rfl (by first | exact ac_b01 | omega) (Nat.zero_le _) (Nat.zero_le _) ?_
        first
          | exact ⟨ac_bf (by rw [Bool.and_eq_true, decide_eq_true_eq]; intro z; omega), rfl, hR9, rT2, ac_fA_r mm x⟩
          | exact ⟨ac_bf (by rw [Bool.and_eq_true]; intro z; exact h237 ((@decide_eq_true_eq _ (ac_regd _)).mp z.2)), rfl, hR9, rT2, ac_fA_r mm x⟩
          | exact ⟨ac_bt (by rw [Bool.and_eq_true, decide_eq_true_eq]; exact ⟨by omega, (@decide_eq_true_eq _ (ac_regd _)).mpr h237⟩), rfl, hR9, rT2, ac_fA_r mm x⟩
      · refine ac_aload_n (q := 230) dX6_stands_229 rfl rfl ?_
        refine ac_get (q := 233) dX6_stands_230 fl_X6_26 (by assumption) rfl (ac_rdr rfl hA9.1.2.2.2.2.1) ?_
        refine ac_iload_n (q := 234) dX6_stands_233 rfl rfl ?_
        have hqe := ac_eqn_get (T := T') (e := (e : Int)) ⟨by omega, by omega⟩
        simp only [Int.toNat_natCast] at hqe
        refine ac_cvp (q := 237) (k_X3_regular (t := x + 11) (q := ac_eqn T' (e : Int)) (d := d - 1) (by omega) hT2 rT2 hqe) ml_X6_90 (by assumption) dX6_stands_234 rfl rfl rfl (by omega) (Nat.le_of_ble_eq_true rfl) (Nat.zero_le _) (Nat.zero_le _) ?_
        letI := ac_regd (ac_eqn T' (e : Int))
        refine ac_bif_eq (q := 240) (tgt := 244) dX6_stands_237 rfl rfl (fun h237 => ?_) (fun h237 => ?_)
        · refine ac_iconst (q := 245) dX6_stands_244 rfl ?_
          refine ac_zreturn dX6_stands_245 rfl (by first | exact ac_b01 | omega) (Nat.zero_le _) (Nat.zero_le _) ?_
          first
            | exact ⟨ac_bf (by rw [Bool.and_eq_true, decide_eq_true_eq]; intro z; omega), rfl, hR9, rT2, ac_fA_r mm x⟩
            | exact ⟨ac_bf (by rw [Bool.and_eq_true]; intro z; exact h237 ((@decide_eq_true_eq _ (ac_regd _)).mp z.2)), rfl, hR9, rT2, ac_fA_r mm x⟩
            | exact ⟨ac_bt (by rw [Bool.and_eq_true, decide_eq_true_eq]; exact ⟨by omega, (@decide_eq_true_eq _ (ac_regd _)).mpr h237⟩), rfl, hR9, rT2, ac_fA_r mm x⟩
        · refine ac_iconst (q := 241) dX6_stands_240 rfl ?_
          refine ac_goto (q := 245) dX6_stands_241 rfl ?_
          refine ac_zreturn dX6_stands_245 rfl (by first | exact ac_b01 | omega) (Nat.zero_le _) (Nat.zero_le _) ?_
          first
            | exact ⟨ac_bf (by rw [Bool.and_eq_true, decide_eq_true_eq]; intro z; omega), rfl, hR9, rT2, ac_fA_r mm x⟩
            | exact ⟨ac_bf (by rw [Bool.and_eq_true]; intro z; exact h237 ((@decide_eq_true_eq _ (ac_regd _)).mp z.2)), rfl, hR9, rT2, ac_fA_r mm x⟩
            | exact ⟨ac_bt (by rw [Bool.and_eq_true, decide_eq_true_eq]; exact ⟨by omega, (@decide_eq_true_eq _ (ac_regd _)).mpr h237⟩), rfl, hR9, rT2, ac_fA_r mm x⟩
    · rw [hsv]; refine ac_tabIn (off := 224) (tgt := 246) dX6_stands_22 ⟨by decide, by decide⟩ (by decide) (by decide) rfl rfl ?_
      have hk : q / 1000 = 7 := by omega
      have hstd := ac_std_7 (T := T') hk
      simp only [ee] at hstd
      rw [hstd]
      refine ac_aload_n (q := 247) dX6_stands_246 rfl rfl ?_
      refine ac_aload_n (q := 248) dX6_stands_247 rfl rfl ?_
      refine ac_get (q := 251) dX6_stands_248 fl_X6_26 (by assumption) rfl (ac_rdr rfl hA9.1.2.2.2.2.1) ?_
      refine ac_cv (q := 254) (k_X6_limit (u := x + 11) (d := d - 1) (by omega) hA9 (Or.inr rfl) rT2 rS rC) ml_X6_183 (by assumption) dX6_stands_251 rfl rfl rfl (by omega) (Nat.le_of_ble_eq_true rfl) (Nat.zero_le _) (Nat.zero_le _) (fun m1 h1 => ?_)
      obtain ⟨gs1, gc1, f1⟩ := h1
      have A1 := ac_RA_w hR9 gs1 gc1 (fun k' z => f1 k' (by omega) (by omega))
      have rT3 : ac_RTk m1 (x + 11) T' := ac_RTk_keep rT2 (f1 _ (by omega) (by omega)) (f1 _ (by omega) (by omega)) (f1 _ (by omega) (by omega)) (f1 _ (by omega) (by omega))
      have hlim := ac_lim_in (ac_may T'.2.1 T'.2.2.1 (fun _ => -1))
      refine ac_iload_n (q := 255) dX6_stands_254 rfl rfl ?_
      refine ac_if_ne (q := 258) (tgt := 263) dX6_stands_255 rfl rfl ⟨by omega, by omega⟩ (fun h255 => ?_) (fun h255 => ?_)
      · refine ac_iload_n (q := 264) dX6_stands_263 rfl rfl ?_
        refine ac_icmp_ne (q := 267) (tgt := 271) dX6_stands_264 rfl rfl ⟨by omega, by omega⟩ ⟨by omega, by omega⟩ (fun h264 => ?_) (fun h264 => ?_)
        · refine ac_iconst (q := 272) dX6_stands_271 rfl ?_
          refine ac_zreturn dX6_stands_272 rfl (by first | exact ac_b01 | omega) (Nat.zero_le _) (Nat.zero_le _) ?_
          have hlt : ac_limT T' = ac_lim (ac_may T'.2.1 T'.2.2.1 (fun _ => -1)) := rfl
          first
            | exact ⟨ac_bt (by rw [decide_eq_true_eq, hlt]; first | (rw [if_pos (by omega)]; exact h264) | (rw [if_neg (by omega)]; exact h264)), rfl, A1, rT3, fun k' z => f1 k' (by omega) (by omega)⟩
            | exact ⟨ac_bf (by rw [decide_eq_true_eq, hlt]; first | (rw [if_pos (by omega)]; exact h264) | (rw [if_neg (by omega)]; exact h264)), rfl, A1, rT3, fun k' z => f1 k' (by omega) (by omega)⟩
        · refine ac_iconst (q := 268) dX6_stands_267 rfl ?_
          refine ac_goto (q := 272) dX6_stands_268 rfl ?_
          refine ac_zreturn dX6_stands_272 rfl (by first | exact ac_b01 | omega) (Nat.zero_le _) (Nat.zero_le _) ?_
          have hlt : ac_limT T' = ac_lim (ac_may T'.2.1 T'.2.2.1 (fun _ => -1)) := rfl
          first
            | exact ⟨ac_bt (by rw [decide_eq_true_eq, hlt]; first | (rw [if_pos (by omega)]; exact h264) | (rw [if_neg (by omega)]; exact h264)), rfl, A1, rT3, fun k' z => f1 k' (by omega) (by omega)⟩
            | exact ⟨ac_bf (by rw [decide_eq_true_eq, hlt]; first | (rw [if_pos (by omega)]; exact h264) | (rw [if_neg (by omega)]; exact h264)), rfl, A1, rT3, fun k' z => f1 k' (by omega) (by omega)⟩
      · refine ac_bipush (q := 260) dX6_stands_258 rfl (by decide) ?_
        refine ac_goto (q := 264) dX6_stands_260 rfl ?_
        refine ac_icmp_ne (q := 267) (tgt := 271) dX6_stands_264 rfl rfl ⟨by omega, by omega⟩ ⟨by omega, by omega⟩ (fun h264 => ?_) (fun h264 => ?_)
        · refine ac_iconst (q := 272) dX6_stands_271 rfl ?_
          refine ac_zreturn dX6_stands_272 rfl (by first | exact ac_b01 | omega) (Nat.zero_le _) (Nat.zero_le _) ?_
          have hlt : ac_limT T' = ac_lim (ac_may T'.2.1 T'.2.2.1 (fun _ => -1)) := rfl
          first
            | exact ⟨ac_bt (by rw [decide_eq_true_eq, hlt]; first | (rw [if_pos (by omega)]; exact h264) | (rw [if_neg (by omega)]; exact h264)), rfl, A1, rT3, fun k' z => f1 k' (by omega) (by omega)⟩
            | exact ⟨ac_bf (by rw [decide_eq_true_eq, hlt]; first | (rw [if_pos (by omega)]; exact h264) | (rw [if_neg (by omega)]; exact h264)), rfl, A1, rT3, fun k' z => f1 k' (by omega) (by omega)⟩
        · refine ac_iconst (q := 268) dX6_stands_267 rfl ?_
          refine ac_goto (q := 272) dX6_stands_268 rfl ?_
          refine ac_zreturn dX6_stands_272 rfl (by first | exact ac_b01 | omega) (Nat.zero_le _) (Nat.zero_le _) ?_
          have hlt : ac_limT T' = ac_lim (ac_may T'.2.1 T'.2.2.1 (fun _ => -1)) := rfl
          first
            | exact ⟨ac_bt (by rw [decide_eq_true_eq, hlt]; first | (rw [if_pos (by omega)]; exact h264) | (rw [if_neg (by omega)]; exact h264)), rfl, A1, rT3, fun k' z => f1 k' (by omega) (by omega)⟩
            | exact ⟨ac_bf (by rw [decide_eq_true_eq, hlt]; first | (rw [if_pos (by omega)]; exact h264) | (rw [if_neg (by omega)]; exact h264)), rfl, A1, rT3, fun k' z => f1 k' (by omega) (by omega)⟩

set_option maxHeartbeats 8000000 in
theorem k_X6_judge {G : ac_G} {Y : ac_Y} {mm : ac_M} {d x : Nat} {s : List Nat} {T : ac_Tk} {hs : List ac_Tk} {s0 s1 : Option ac_Tk} {obs : List ac_Ob} {ch : Int} {a v : Int} (hd : 30 ≤ d) (hA : ac_isA Y x) (hR : ac_RA mm x s T hs s0 s1 obs ch) (hok : ac_okS T) (ha : ac_in a) (hv : ac_il v) : ac_C G yX6_judge cX6_judge 5 (some .int) d 0 0 Y mm [(2, (x : Int)), (0, a), (1, v)] (ac_R Y [(0, ac_an_judge T a v)] (fun m => ac_RA m x s T hs s0 s1 obs ch ∧ ac_fA mm m x)) := by
  have hA9 := hA
  obtain ⟨⟨kx, -⟩, hX, ⟨hT0, hT1, hT2, hT3⟩, ⟨ka, -, -, hS0, hS1⟩, hH, hW⟩ := hA
  have ktx := hX.1
  have kn0 := hT0.1
  have kn1 := hT1.1
  have kn2 := hT2.1
  have kn3 := hT3.1
  have kh := hH.1
  obtain ⟨⟨kw, -⟩, ⟨k14, k15, k16, k17⟩, hWS, hWC, hWT⟩ := id hW
  have kws := hWS.1
  have kwc := hWC.1
  have hR9 := hR
  obtain ⟨⟨p, rX⟩, rT, ⟨rs0, rs1⟩, rH, rS, ⟨E0, rC⟩, rc⟩ := hR
  obtain ⟨⟨⟨hn1, hn2⟩, ⟨hkk1, hkk2⟩, ⟨hE4, hE2⟩, hp0, hpr, hc0⟩, t3, t4, t5, t6, tE, tp, tcb, tc⟩ := id rT
  have hLn := ac_Lt_len T hn2
  obtain ⟨ha1, ha2⟩ := ha
  obtain ⟨hv1, hv2⟩ := hv
  refine ac_met (on := (RX6, "judge")) rfl rfl (Nat.le_of_ble_eq_true rfl) (ls := [(2, (x : Int)), (0, a), (1, v), (3, 0), (3, 0)]) rfl ?_
  refine ac_iload_n (q := 1) dX6_judge_0 rfl rfl ?_
  refine ac_iconst (q := 2) dX6_judge_1 rfl ?_
  refine ac_icmp_lt (q := 5) (tgt := 26) dX6_judge_2 rfl rfl ⟨by omega, by omega⟩ ⟨by omega, by omega⟩ (fun h2 => ?_) (fun h2 => ?_)
  · refine ac_bipush (q := 28) dX6_judge_26 rfl (by decide) ?_
    refine ac_ireturn dX6_judge_28 rfl (Nat.zero_le _) (Nat.zero_le _) ?_
    have hans : ac_an_judge T a v = -2 := by
      unfold ac_an_judge
      first
        | exact if_pos (fun z => by have := z.1; omega)
        | exact if_pos (fun z => by have := z.2.1; omega)
    rw [hans]; exact ⟨rfl, rfl, hR9, ac_fA_r mm x⟩
  · refine ac_iload_n (q := 6) dX6_judge_5 rfl rfl ?_
    refine ac_iconst (q := 7) dX6_judge_6 rfl ?_
    refine ac_icmp_gt (q := 10) (tgt := 26) dX6_judge_7 rfl rfl ⟨by omega, by omega⟩ ⟨by omega, by omega⟩ (fun h7 => ?_) (fun h7 => ?_)
    · refine ac_bipush (q := 28) dX6_judge_26 rfl (by decide) ?_
      refine ac_ireturn dX6_judge_28 rfl (Nat.zero_le _) (Nat.zero_le _) ?_
      have hans : ac_an_judge T a v = -2 := by
        unfold ac_an_judge
        first
          | exact if_pos (fun z => by have := z.1; omega)
          | exact if_pos (fun z => by have := z.2.1; omega)
      rw [hans]; exact ⟨rfl, rfl, hR9, ac_fA_r mm x⟩
    · refine ac_lload_n (q := 11) dX6_judge_10 rfl rfl ?_
      refine ac_lconst (q := 12) (v := 0) dX6_judge_11 rfl (by decide) ?_
      refine ac_lcmp (q := 13) dX6_judge_12 rfl ⟨by omega, by omega⟩ ⟨by omega, by omega⟩ (fun v12 hv12 => ?_)
      refine ac_if_lt (q := 16) (tgt := 26) dX6_judge_13 rfl rfl ⟨by omega, by omega⟩ (fun h13 => ?_) (fun h13 => ?_)
      · refine ac_bipush (q := 28) dX6_judge_26 rfl (by decide) ?_
        refine ac_ireturn dX6_judge_28 rfl (Nat.zero_le _) (Nat.zero_le _) ?_
        have hans : ac_an_judge T a v = -2 := by
          unfold ac_an_judge
          first
            | exact if_pos (fun z => by have := z.1; omega)
            | exact if_pos (fun z => by have := z.2.1; omega)
        rw [hans]; exact ⟨rfl, rfl, hR9, ac_fA_r mm x⟩
      · refine ac_lload_n (q := 17) dX6_judge_16 rfl rfl ?_
        refine ac_iload_n (q := 18) dX6_judge_17 rfl rfl ?_
        obtain ⟨n, rfl⟩ := Int.eq_ofNat_of_zero_le (a := a) (by omega)
        obtain ⟨q, rfl⟩ := Int.eq_ofNat_of_zero_le (a := v) (by omega)
        have hqd : q / 10000 ^ n ≤ q := Nat.div_le_self _ _
        refine ac_csp (q := 21) (k_X6_cutDoings (q := q) (c := n) (d := d - 1) (by omega) (by omega) (by omega)) ml_X6_217 dX6_judge_18 rfl rfl rfl (by omega) (Nat.le_of_ble_eq_true rfl) (Nat.zero_le _) (Nat.zero_le _) ?_
        refine ac_lconst (q := 22) (v := 0) dX6_judge_21 rfl (by decide) ?_
        refine ac_lcmp (q := 23) dX6_judge_22 rfl (ac_nil (Nat.lt_of_le_of_lt hqd (by omega))) ⟨by omega, by omega⟩ (fun v22 hv22 => ?_)
        refine ac_if_eq (q := 26) (tgt := 29) dX6_judge_23 rfl rfl ⟨by omega, by omega⟩ (fun h23 => ?_) (fun h23 => ?_)
        · refine ac_aload_n (q := 30) dX6_judge_29 rfl rfl ?_
          refine ac_get (q := 33) dX6_judge_30 fl_X6_26 (by assumption) rfl (ac_rdr rfl hA9.1.2.2.2.2.1) ?_
          refine ac_aload_n (q := 34) dX6_judge_33 rfl rfl ?_
          refine ac_get (q := 37) dX6_judge_34 fl_X6_19 (by assumption) rfl (ac_rdr rfl hA9.1.2.2.1) ?_
          refine ac_cv (q := 40) (k_X3_copy (t := x + 11) (o := x + 3) (d := d - 1) (by omega) hT2 hT0 (by omega) rT) ml_X6_69 (by assumption) dX6_judge_37 rfl rfl rfl (by omega) (Nat.le_of_ble_eq_true rfl) (Nat.zero_le _) (Nat.zero_le _) (fun m1 h1 => ?_)
          obtain ⟨g1, f1⟩ := h1
          have A1 := ac_RA_w hR9 (ac_RS_keep rS (f1 _ (by omega)) (f1 _ (by omega)) (f1 _ (by omega))) ⟨E0, ac_RC_keep rC (f1 _ (by omega)) (f1 _ (by omega)) (f1 _ (by omega))⟩ (fun k' z => f1 k' (by omega))
          have hq0 : q / 10000 ^ n = 0 := by
            have : ((q / 10000 ^ n : Nat) : Int) = 0 := by omega
            exact Int.ofNat.inj this
          have hans : ac_an_judge T (n : Int) (q : Int) = ac_jd q n T 0 := by
            unfold ac_an_judge
            rw [if_neg (fun z => z ⟨⟨by omega, by omega⟩, by omega, by rw [Int.toNat_natCast, Int.toNat_natCast]; exact hq0⟩), Int.toNat_natCast, Int.toNat_natCast]
          refine ac_iconst (q := 41) dX6_judge_40 rfl ?_
          refine ac_istore (q := 43) dX6_judge_41 rfl (Nat.le_of_ble_eq_true rfl) rfl rfl ?_
          simp only [List.set_cons_succ, List.set_cons_zero]
          have loop : ∀ (f i : Nat) (T' : ac_Tk) (m : ac_M), i + f = n → ac_RA m x s T hs s0 s1 obs ch → ac_RTk m (x + 11) T' → ac_okS T' → ac_fA mm m x → ac_jd q n T 0 = ac_jd q f T' i → ac_V G (RX6, "judge") cX6_judge 5 (some .int) d 0 0 (ac_R Y [(0, ac_an_judge T ((n : Nat) : Int) ((q : Nat) : Int))] (fun m => ac_RA m x s T hs s0 s1 obs ch ∧ ac_fA mm m x)) 0 0 Y m 43 [(2, (x : Int)), (0, ((n : Nat) : Int)), (1, ((q : Nat) : Int)), (3, 0), (0, (i : Int))] [] := by
            intro f
            induction f with
            | zero =>
              intro i T' m hi A rTm hokm fm he
              obtain rfl : i = n := by omega
              rw [hans, he, ac_jd]
              refine ac_iload (q := 45) dX6_judge_43 rfl rfl ?_
              refine ac_iload_n (q := 46) dX6_judge_45 rfl rfl ?_
              refine ac_icmp_ge (q := 49) (tgt := 80) dX6_judge_46 rfl rfl ⟨by omega, by omega⟩ ⟨by omega, by omega⟩ (fun h46 => ?_) (fun h46 => ?_)
              · refine ac_bipush (q := 82) dX6_judge_80 rfl (by decide) ?_
                refine ac_ireturn dX6_judge_82 rfl (Nat.zero_le _) (Nat.zero_le _) ?_
                exact ⟨rfl, rfl, A, fm⟩
              · exfalso; omega
            | succ f ih =>
              intro i T' m hi A rTm hokm fm he
              have ei : ((i : Nat) : Int) + 1 = ((i + 1 : Nat) : Int) := rfl
              have hle : q / 10000 ^ f ≤ q := Nat.div_le_self _ _
              have hml : q / 10000 ^ f % 10000 < 10000 := Nat.mod_lt _ (by decide)
              rw [ac_jd] at he
              refine ac_iload (q := 45) dX6_judge_43 rfl rfl ?_
              refine ac_iload_n (q := 46) dX6_judge_45 rfl rfl ?_
              refine ac_icmp_ge (q := 49) (tgt := 80) dX6_judge_46 rfl rfl ⟨by omega, by omega⟩ ⟨by omega, by omega⟩ (fun h46 => ?_) (fun h46 => ?_)
              · exfalso; omega
              · refine ac_aload_n (q := 50) dX6_judge_49 rfl rfl ?_
                refine ac_lload_n (q := 51) dX6_judge_50 rfl rfl ?_
                refine ac_iload_n (q := 52) dX6_judge_51 rfl rfl ?_
                refine ac_iconst (q := 53) dX6_judge_52 rfl ?_
                refine ac_isub (q := 54) dX6_judge_53 rfl ?_
                refine ac_iload (q := 56) dX6_judge_54 rfl rfl ?_
                refine ac_isub (q := 57) dX6_judge_56 rfl ?_
                refine ac_top (w' := (0, (f : Int))) (congrArg (fun z => ((0 : Nat), z)) (by omega)) ?_
                refine ac_csp (q := 60) (k_X6_cutDoings (q := q) (c := f) (d := d - 1) (by omega) (by omega) (by omega)) ml_X6_217 dX6_judge_57 rfl rfl rfl (by omega) (Nat.le_of_ble_eq_true rfl) (Nat.zero_le _) (Nat.zero_le _) ?_
                refine ac_ldc2_w (q := 63) (v := 10000) dX6_judge_60 rfl ct_X6_221 ?_
                refine ac_lrem (q := 64) dX6_judge_63 rfl (ac_nil (Nat.lt_of_le_of_lt hle (by omega))) ⟨by omega, by omega⟩ (by omega) ?_
                refine ac_top (w' := (1, ((q / 10000 ^ f % 10000 : Nat) : Int))) (congrArg (fun z => ((1 : Nat), z)) (by rw [Int.ofNat_tmod]; rfl)) ?_
                refine ac_l2i (q := 65) dX6_judge_64 rfl ?_
                refine ac_cv (q := 68) (k_X6_stands (T' := T') (q := q / 10000 ^ f % 10000) (d := d - 1) (by omega) hA9 A rTm hokm hml) ml_X6_223 (by assumption) dX6_judge_65 rfl rfl rfl (by omega) (Nat.le_of_ble_eq_true rfl) (Nat.zero_le _) (Nat.zero_le _) (fun m2 h2 => ?_)
                obtain ⟨A2, rT2, f2⟩ := h2
                have F2 : ac_fA mm m2 x := ac_fA_t fm f2
                have ok2 := ac_std_ok (d := q / 10000 ^ f % 10000) hokm
                refine ac_bif_ne (q := 71) (tgt := 74) dX6_judge_68 rfl rfl (fun h68 => ?_) (fun h68 => ?_)
                · rw [if_pos h68] at he
                  refine ac_iinc (q := 77) dX6_judge_74 rfl (Nat.le_of_ble_eq_true rfl) rfl rfl rfl rfl ?_
                  simp only [List.set_cons_succ, List.set_cons_zero]
                  refine ac_goto (q := 43) dX6_judge_77 rfl ?_
                  exact ac_ls (by rw [ei]) (ih (i + 1) _ m2 (by omega) A2 rT2 ok2 F2 he)
                · rw [if_neg h68] at he
                  refine ac_iload (q := 73) dX6_judge_71 rfl rfl ?_
                  refine ac_ireturn dX6_judge_73 rfl (Nat.zero_le _) (Nat.zero_le _) ?_
                  rw [hans, he]; exact ⟨rfl, rfl, A2, F2⟩
          exact loop n 0 T m1 (by omega) A1 g1 hok (fun k' z => f1 k' (by omega)) rfl
        · refine ac_bipush (q := 28) dX6_judge_26 rfl (by decide) ?_
          refine ac_ireturn dX6_judge_28 rfl (Nat.zero_le _) (Nat.zero_le _) ?_
          have hans : ac_an_judge T (n : Int) (q : Int) = -2 := by
            unfold ac_an_judge
            refine if_pos (fun z => ?_)
            have hz := z.2.2
            rw [Int.toNat_natCast, Int.toNat_natCast] at hz
            rw [hz] at hv22
            omega
          rw [hans]; exact ⟨rfl, rfl, hR9, ac_fA_r mm x⟩
