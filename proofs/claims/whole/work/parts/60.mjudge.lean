theorem ac_cb_out {T : ac_Tk} (hk : T.2.1 ≤ 3) {a : Nat} (h : T.1 < a) : ac_cb (ac_Lt T) a = 0 := by
  have key : ∀ L : List (List Nat), (∀ l ∈ L, l.length = T.1) → ac_cb L a = 0 := by
    intro L
    induction L with
    | nil => intro _; rfl
    | cons l L ih =>
      intro hL
      rw [ac_cb, ih (fun z hz => hL z (List.mem_cons_of_mem _ hz)), List.getElem?_eq_none (by have := hL l (List.mem_cons_self ..); omega)]; rfl
  exact key _ (fun l hl => ((ac_Lt_mem hk).mp hl).1)
theorem ac_cb_k {T : ac_Tk} (hk : T.2.1 ≤ 3) (a : Nat) : ac_cb (ac_Lt T) a < 2 ^ T.2.1 := by
  have key : ∀ L : List (List Nat), (∀ l ∈ L, ∀ c ∈ l, c < T.2.1) → ac_cb L a < 2 ^ T.2.1 := by
    intro L
    induction L with
    | nil => intro _; exact Nat.two_pow_pos _
    | cons l L ih =>
      intro hL
      rw [ac_cb]
      refine Nat.or_lt_two_pow ?_ (ih fun z hz => hL z (List.mem_cons_of_mem _ hz))
      cases hx : l[a - 1]? with
      | none => exact Nat.two_pow_pos _
      | some c => exact Nat.pow_lt_pow_of_lt (by decide) (hL l (List.mem_cons_self ..) c (List.mem_of_getElem? hx))
  exact key _ (fun l hl => ((ac_Lt_mem hk).mp hl).2.1)
theorem ac_poss_no {T : ac_Tk} (hk : T.2.1 ≤ 3) {a c : Nat} (h : ¬ ((1 ≤ a ∧ a ≤ T.1) ∧ c < T.2.1)) : ¬ ac_poss T a = 2 ^ c := by
  intro hp
  unfold ac_poss at hp
  have h2 := Nat.two_pow_pos c
  by_cases h1 : 1 ≤ a ∧ a ≤ 10
  · rw [if_pos h1] at hp
    by_cases h3 : a ≤ T.1
    · have h4 := ac_cb_k hk a (T := T)
      have h5 : 2 ^ T.2.1 ≤ 2 ^ c := Nat.pow_le_pow_right (by decide) (by omega)
      omega
    · rw [ac_cb_out hk (by omega)] at hp; omega
  · rw [if_neg h1] at hp; omega
theorem ac_lim_in2 (A : List Nat → Nat → Bool) : ac_lim A = -9 ∨ (1 ≤ ac_lim A ∧ ac_lim A ≤ 10) := by
  unfold ac_lim; split <;> omega
theorem ac_std_k {T : ac_Tk} {d : Nat} : (ac_std T d).2.2.1 = T.2.1 := by
  unfold ac_std
  repeat' split
  all_goals first
    | rfl
    | exact ac_stl_same.2.1

set_option maxHeartbeats 8000000 in
theorem k_X7_does {G : ac_G} {Y : ac_Y} {mm : ac_M} {d x : Nat} {s : List Nat} {T : ac_Tk} {hs : List ac_Tk} {s0 s1 : Option ac_Tk} {obs : List ac_Ob} {ch : Int} {T' : ac_Tk} {q : Nat} (hd : 14 ≤ d) (hM : ac_isM Y x) (hR : ac_RM mm x s T hs s0 s1 obs ch) (tP : ac_RP mm (x + 4) T') (hkk' : T'.2.1 = T.2.1) (hq : q < 10000) : ac_C G yX7_does cX7_does 8 (some .boolean) d 0 0 Y mm [(2, (x : Int)), (0, ((q / 1000 : Nat) : Int)), (0, ((q / 100 % 10 : Nat) : Int)), (0, ((q / 10 % 10 : Nat) : Int)), (0, ((q % 10 : Nat) : Int))] (ac_R Y [(0, ac_b ((ac_std T' q).1 = true))] (fun m => ac_RM m x s T hs s0 s1 obs ch ∧ ac_RP m (x + 4) (ac_std T' q).2 ∧ ac_fM mm m x)) := by
  have hM9 := hM
  obtain ⟨kx, k1, k2, k3, k4, k5, k6, k7, k8, k9, k10, k11, k12, k13, k14, k15, k16⟩ := hM.2
  obtain ⟨⟨⟨hn1, hn2⟩, ⟨hk2, hk3⟩, hE, hp0, hpr, hc0⟩, p0, p1, pE, pp, p28, pcb, pcl⟩ := id tP
  have hE4 := hE.1
  have q4 : mm x 4 = (T'.2.1 : Int) := by rw [hkk']; exact hR.2.1.1
  have hLn := ac_Lt_len T' hn2
  have ea : 10 * (q / 100 % 10) + q / 10 % 10 = q % 1000 / 10 := by omega
  have ec : q % 1000 % 10 = q % 10 := by omega
  have ee : q % 1000 = 100 * (q / 100 % 10) + 10 * (q / 10 % 10) + q % 10 := by omega
  have hnum : q % 1000 / 10 < 100 := by omega
  generalize hav : q / 100 % 10 = a at *
  generalize hbv : q / 10 % 10 = b at *
  generalize hcv : q % 10 = c at *
  generalize hzv : q % 1000 / 10 = z at *
  generalize hev : q % 1000 = e at *
  have ha9 : a ≤ 9 := by omega
  have hb9 : b ≤ 9 := by omega
  have hc9 : c ≤ 9 := by omega
  refine ac_met (on := (RX7, "does")) rfl rfl (Nat.le_of_ble_eq_true rfl) (ls := [(2, (x : Int)), (0, ((q / 1000 : Nat) : Int)), (0, (a : Int)), (0, (b : Int)), (0, (c : Int)), (3, 0), (3, 0), (3, 0)]) rfl ?_
  refine ac_bipush (q := 2) dX7_does_0 rfl (by decide) ?_
  refine ac_iload_n (q := 3) dX7_does_2 rfl rfl ?_
  refine ac_imul (q := 4) dX7_does_3 rfl ?_
  refine ac_iload_n (q := 5) dX7_does_4 rfl rfl ?_
  refine ac_iadd (q := 6) dX7_does_5 rfl ?_
  refine ac_top (w' := (0, ((z : Nat) : Int))) (congrArg (fun z : Int => ((0 : Nat), z)) (by omega)) ?_
  refine ac_istore (q := 8) dX7_does_6 rfl (Nat.le_of_ble_eq_true rfl) rfl rfl ?_
  simp only [List.set_cons_succ, List.set_cons_zero]
  refine ac_iload (q := 10) dX7_does_8 rfl rfl ?_
  refine ac_i2l (q := 11) dX7_does_10 rfl ⟨by omega, by omega⟩ ?_
  refine ac_lconst (q := 12) (v := 1) dX7_does_11 rfl (by decide) ?_
  refine ac_aload_n (q := 13) dX7_does_12 rfl rfl ?_
  refine ac_get (q := 16) dX7_does_13 fl_X7_23 (by assumption) rfl (ac_rdr rfl hM9.1.2.2.2.1) ?_
  refine ac_iconst (q := 17) dX7_does_16 rfl ?_
  refine ac_ialoadN (q := 18) (j := 0) (v := (T'.1 : Int)) dX7_does_17 k4 (by decide) (by decide) rfl p0 ?_
  refine ac_i2l (q := 19) dX7_does_18 rfl ⟨by omega, by omega⟩ ?_
  refine ac_csp (q := 22) (k_X7_in (d := d - 1) (by omega) ⟨by omega, by omega⟩ ⟨by omega, by omega⟩ ⟨by omega, by omega⟩) ml_X7_72 dX7_does_19 rfl rfl rfl (by omega) (Nat.le_of_ble_eq_true rfl) (Nat.zero_le _) (Nat.zero_le _) ?_
  refine ac_istore (q := 24) dX7_does_22 rfl (Nat.le_of_ble_eq_true rfl) rfl rfl ?_
  simp only [List.set_cons_succ, List.set_cons_zero]
  refine ac_iload_n (q := 25) dX7_does_24 rfl rfl ?_
  by_cases hsw : ((q / 1000 : Nat) : Int) < 1 ∨ 7 < ((q / 1000 : Nat) : Int)
  · refine ac_tabOut (tgt := 347) dX7_does_25 ⟨by omega, by omega⟩ hsw rfl ?_
    have hstd := ac_std_8 (T := T') (d := q) (by omega)
    rw [hstd]
    refine ac_iconst (q := 348) dX7_does_347 rfl ?_
    refine ac_zreturn dX7_does_348 rfl (by first | exact ac_b01 | omega) (Nat.zero_le _) (Nat.zero_le _) ?_
    exact ⟨ac_bf (by simp), rfl, hR, tP, ac_fM_r mm x⟩
  · rcases (show ((q / 1000 : Nat) : Int) = 1 ∨ ((q / 1000 : Nat) : Int) = 2 ∨ ((q / 1000 : Nat) : Int) = 3 ∨ ((q / 1000 : Nat) : Int) = 4 ∨ ((q / 1000 : Nat) : Int) = 5 ∨ ((q / 1000 : Nat) : Int) = 6 ∨ ((q / 1000 : Nat) : Int) = 7 by omega) with hsv | hsv | hsv | hsv | hsv | hsv | hsv
    · rw [hsv]; refine ac_tabIn (off := 43) (tgt := 68) dX7_does_25 ⟨by decide, by decide⟩ (by decide) (by decide) rfl rfl ?_
      have hk9 : q / 1000 = 1 := by omega
      have hstd := ac_std_1 (T := T') (d := q) hk9
      simp only [hev, hzv, ec] at hstd
      rw [hstd]
      refine ac_iload (q := 70) dX7_does_68 rfl rfl ?_
      refine ac_bif_eq (q := 73) (tgt := 101) dX7_does_70 rfl rfl (fun h70 => ?_) (fun h70 => ?_)
      · refine ac_iconst (q := 102) dX7_does_101 rfl ?_
        refine ac_zreturn dX7_does_102 rfl (by first | exact ac_b01 | omega) (Nat.zero_le _) (Nat.zero_le _) ?_
        have hrf : ac_rfp T' (z : Int) (c : Int) = if ¬ (1 ≤ (z : Int) ∧ (z : Int) ≤ (T'.1 : Int)) then -1 else if ¬ (0 ≤ (c : Int) ∧ (c : Int) < (T'.2.1 : Int)) then -2 else if ac_pt T' z c = true then 0 else -3 := rfl
        first
          | (have h0 : ac_rfp T' (z : Int) (c : Int) = 0 := by rw [hrf, if_neg (by omega), if_neg (by omega), if_pos h94]
             rw [if_pos h0]
             rw [if_pos h94] at g1
             exact ⟨ac_bt (by rw [decide_eq_true_eq]; exact h0), rfl, A1, g1, F1⟩)
          | (have h0 : ¬ ac_rfp T' (z : Int) (c : Int) = 0 := by rw [hrf, if_neg (by omega), if_neg (by omega), if_neg h94]; decide
             rw [if_neg h0]
             rw [if_neg h94] at g1
             exact ⟨ac_bf (by rw [decide_eq_true_eq]; exact h0), rfl, A1, g1, F1⟩)
          | (have h0 : ¬ ac_rfp T' (z : Int) (c : Int) = 0 := by
               rw [hrf]
               first
                 | (rw [if_pos (by omega)]; decide)
                 | (rw [if_neg (by omega), if_pos (by omega)]; decide)
             rw [if_neg h0]
             exact ⟨ac_bf (by rw [decide_eq_true_eq]; exact h0), rfl, hR, tP, ac_fM_r mm x⟩)
      · refine ac_iload (q := 75) dX7_does_73 rfl rfl ?_
        refine ac_aload_n (q := 76) dX7_does_75 rfl rfl ?_
        refine ac_get (q := 79) dX7_does_76 fl_X7_13 kx rfl (ac_rdi rfl q4) ?_
        refine ac_icmp_ge (q := 82) (tgt := 101) dX7_does_79 rfl rfl ⟨by omega, by omega⟩ ⟨by omega, by omega⟩ (fun h79 => ?_) (fun h79 => ?_)
        · refine ac_iconst (q := 102) dX7_does_101 rfl ?_
          refine ac_zreturn dX7_does_102 rfl (by first | exact ac_b01 | omega) (Nat.zero_le _) (Nat.zero_le _) ?_
          have hrf : ac_rfp T' (z : Int) (c : Int) = if ¬ (1 ≤ (z : Int) ∧ (z : Int) ≤ (T'.1 : Int)) then -1 else if ¬ (0 ≤ (c : Int) ∧ (c : Int) < (T'.2.1 : Int)) then -2 else if ac_pt T' z c = true then 0 else -3 := rfl
          first
            | (have h0 : ac_rfp T' (z : Int) (c : Int) = 0 := by rw [hrf, if_neg (by omega), if_neg (by omega), if_pos h94]
               rw [if_pos h0]
               rw [if_pos h94] at g1
               exact ⟨ac_bt (by rw [decide_eq_true_eq]; exact h0), rfl, A1, g1, F1⟩)
            | (have h0 : ¬ ac_rfp T' (z : Int) (c : Int) = 0 := by rw [hrf, if_neg (by omega), if_neg (by omega), if_neg h94]; decide
               rw [if_neg h0]
               rw [if_neg h94] at g1
               exact ⟨ac_bf (by rw [decide_eq_true_eq]; exact h0), rfl, A1, g1, F1⟩)
            | (have h0 : ¬ ac_rfp T' (z : Int) (c : Int) = 0 := by
                 rw [hrf]
                 first
                   | (rw [if_pos (by omega)]; decide)
                   | (rw [if_neg (by omega), if_pos (by omega)]; decide)
               rw [if_neg h0]
               exact ⟨ac_bf (by rw [decide_eq_true_eq]; exact h0), rfl, hR, tP, ac_fM_r mm x⟩)
        · refine ac_aload_n (q := 83) dX7_does_82 rfl rfl ?_
          refine ac_aload_n (q := 84) dX7_does_83 rfl rfl ?_
          refine ac_get (q := 87) dX7_does_84 fl_X7_23 (by assumption) rfl (ac_rdr rfl hM9.1.2.2.2.1) ?_
          refine ac_iload (q := 89) dX7_does_87 rfl rfl ?_
          refine ac_iload (q := 91) dX7_does_89 rfl rfl ?_
          refine ac_cv (q := 94) (k_X7_paintOn (r := x + 4) (T := T') (a := z) (c := c) (d := d - 1) (by omega) hM9 (Or.inr rfl) tP q4 ⟨by omega, by omega⟩ (by omega)) ml_X7_211 (by assumption) dX7_does_91 rfl rfl rfl (by omega) (Nat.le_of_ble_eq_true rfl) (Nat.zero_le _) (Nat.zero_le _) (fun m1 h1 => ?_)
          obtain ⟨g1, e1⟩ := h1
          have A1 := ac_RM_e hR (fun k' hk' => e1.1 k' (by omega) (by omega) (by omega)) (fun j hj => e1.2 j (by omega))
          have F1 : ac_fM mm m1 x := ac_fEr_fM (Or.inr rfl) e1
          refine ac_bif_eq (q := 97) (tgt := 101) dX7_does_94 rfl rfl (fun h94 => ?_) (fun h94 => ?_)
          · refine ac_iconst (q := 102) dX7_does_101 rfl ?_
            refine ac_zreturn dX7_does_102 rfl (by first | exact ac_b01 | omega) (Nat.zero_le _) (Nat.zero_le _) ?_
            have hrf : ac_rfp T' (z : Int) (c : Int) = if ¬ (1 ≤ (z : Int) ∧ (z : Int) ≤ (T'.1 : Int)) then -1 else if ¬ (0 ≤ (c : Int) ∧ (c : Int) < (T'.2.1 : Int)) then -2 else if ac_pt T' z c = true then 0 else -3 := rfl
            first
              | (have h0 : ac_rfp T' (z : Int) (c : Int) = 0 := by rw [hrf, if_neg (by omega), if_neg (by omega), if_pos h94]
                 rw [if_pos h0]
                 rw [if_pos h94] at g1
                 exact ⟨ac_bt (by rw [decide_eq_true_eq]; exact h0), rfl, A1, g1, F1⟩)
              | (have h0 : ¬ ac_rfp T' (z : Int) (c : Int) = 0 := by rw [hrf, if_neg (by omega), if_neg (by omega), if_neg h94]; decide
                 rw [if_neg h0]
                 rw [if_neg h94] at g1
                 exact ⟨ac_bf (by rw [decide_eq_true_eq]; exact h0), rfl, A1, g1, F1⟩)
              | (have h0 : ¬ ac_rfp T' (z : Int) (c : Int) = 0 := by
                   rw [hrf]
                   first
                     | (rw [if_pos (by omega)]; decide)
                     | (rw [if_neg (by omega), if_pos (by omega)]; decide)
                 rw [if_neg h0]
                 exact ⟨ac_bf (by rw [decide_eq_true_eq]; exact h0), rfl, hR, tP, ac_fM_r mm x⟩)
          · refine ac_iconst (q := 98) dX7_does_97 rfl ?_
            refine ac_goto (q := 102) dX7_does_98 rfl ?_
            refine ac_zreturn dX7_does_102 rfl (by first | exact ac_b01 | omega) (Nat.zero_le _) (Nat.zero_le _) ?_
            have hrf : ac_rfp T' (z : Int) (c : Int) = if ¬ (1 ≤ (z : Int) ∧ (z : Int) ≤ (T'.1 : Int)) then -1 else if ¬ (0 ≤ (c : Int) ∧ (c : Int) < (T'.2.1 : Int)) then -2 else if ac_pt T' z c = true then 0 else -3 := rfl
            first
              | (have h0 : ac_rfp T' (z : Int) (c : Int) = 0 := by rw [hrf, if_neg (by omega), if_neg (by omega), if_pos h94]
                 rw [if_pos h0]
                 rw [if_pos h94] at g1
                 exact ⟨ac_bt (by rw [decide_eq_true_eq]; exact h0), rfl, A1, g1, F1⟩)
              | (have h0 : ¬ ac_rfp T' (z : Int) (c : Int) = 0 := by rw [hrf, if_neg (by omega), if_neg (by omega), if_neg h94]; decide
                 rw [if_neg h0]
                 rw [if_neg h94] at g1
                 exact ⟨ac_bf (by rw [decide_eq_true_eq]; exact h0), rfl, A1, g1, F1⟩)
              | (have h0 : ¬ ac_rfp T' (z : Int) (c : Int) = 0 := by
                   rw [hrf]
                   first
                     | (rw [if_pos (by omega)]; decide)
                     | (rw [if_neg (by omega), if_pos (by omega)]; decide)
                 rw [if_neg h0]
                 exact ⟨ac_bf (by rw [decide_eq_true_eq]; exact h0), rfl, hR, tP, ac_fM_r mm x⟩)
    · rw [hsv]; refine ac_tabIn (off := 78) (tgt := 103) dX7_does_25 ⟨by decide, by decide⟩ (by decide) (by decide) rfl rfl ?_
      have hk9 : q / 1000 = 2 := by omega
      have hstd := ac_std_2 (T := T') (d := q) hk9
      simp only [hev, hzv, ec] at hstd
      rw [hstd]
      refine ac_iload (q := 105) dX7_does_103 rfl rfl ?_
      refine ac_bif_eq (q := 108) (tgt := 124) dX7_does_105 rfl rfl (fun h105 => ?_) (fun h105 => ?_)
      · refine ac_iconst (q := 125) dX7_does_124 rfl ?_
        refine ac_zreturn dX7_does_125 rfl (by first | exact ac_b01 | omega) (Nat.zero_le _) (Nat.zero_le _) ?_
        have hrf : ac_rfn T' (z : Int) (c : Int) = if ¬ (1 ≤ (z : Int) ∧ (z : Int) ≤ (T'.1 : Int)) then -1 else if (0 ≤ (c : Int) ∧ (c : Int) < (T'.2.1 : Int)) ∨ (c : Int) = 9 then 0 else -2 := rfl
        have h0 : ¬ ac_rfn T' (z : Int) (c : Int) = 0 := by
          rw [hrf]
          first
            | (rw [if_pos (by omega)]; decide)
            | (rw [if_neg (by omega), if_neg (by omega)]; decide)
        rw [if_neg h0]
        exact ⟨ac_bf (by rw [decide_eq_true_eq]; exact h0), rfl, hR, tP, ac_fM_r mm x⟩
      · refine ac_iload (q := 110) dX7_does_108 rfl rfl ?_
        refine ac_aload_n (q := 111) dX7_does_110 rfl rfl ?_
        refine ac_get (q := 114) dX7_does_111 fl_X7_13 kx rfl (ac_rdi rfl q4) ?_
        refine ac_icmp_lt (q := 117) (tgt := 126) dX7_does_114 rfl rfl ⟨by omega, by omega⟩ ⟨by omega, by omega⟩ (fun h114 => ?_) (fun h114 => ?_)
        · refine ac_aload_n (q := 127) dX7_does_126 rfl rfl ?_
          refine ac_get (q := 130) dX7_does_127 fl_X7_23 (by assumption) rfl (ac_rdr rfl hM9.1.2.2.2.1) ?_
          refine ac_bipush (q := 132) dX7_does_130 rfl (by decide) ?_
          refine ac_iload (q := 134) dX7_does_132 rfl rfl ?_
          refine ac_iadd (q := 135) dX7_does_134 rfl ?_
          refine ac_iconst (q := 136) dX7_does_135 rfl ?_
          refine ac_isub (q := 137) dX7_does_136 rfl ?_
          refine ac_top (w' := (0, ((17 + z : Nat) : Int))) (congrArg (fun z : Int => ((0 : Nat), z)) (by omega)) ?_
          refine ac_iload (q := 139) dX7_does_137 rfl rfl ?_
          refine ac_bipush (q := 141) dX7_does_139 rfl (by decide) ?_
          refine ac_icmp_ne (q := 144) (tgt := 148) dX7_does_141 rfl rfl ⟨by omega, by omega⟩ ⟨by omega, by omega⟩ (fun h141 => ?_) (fun h141 => ?_)
          · refine ac_iload (q := 150) dX7_does_148 rfl rfl ?_
            refine ac_iconst (q := 151) dX7_does_150 rfl ?_
            refine ac_iadd (q := 152) dX7_does_151 rfl ?_
            refine ac_iastoreN (q := 153) (j := 17 + z) dX7_does_152 k4 (by decide) (by omega) rfl ?_
            have hP3 : ac_RP (ac_up mm (x + 4) (17 + z) ((c : Int) + 1)) (x + 4) (T'.1, T'.2.1, T'.2.2.1, ac_sp T'.2.2.2.1 z (if 0 ≤ (c : Int) ∧ (c : Int) < (T'.2.1 : Int) then (c : Int) else -1), T'.2.2.2.2) := ac_RP_pin tP ⟨by omega, by omega⟩ (fun j => by
              have hv : (if 0 ≤ (c : Int) ∧ (c : Int) < (T'.2.1 : Int) then (c : Int) else -1) + 1 = (c : Int) + 1 := by split <;> omega
              rw [hv]; unfold ac_up; simp)
            have hf3 : ∀ k', k' ≠ x + 4 → ac_up mm (x + 4) (17 + z) ((c : Int) + 1) k' = mm k' := fun k' h => by funext j; rw [ac_up_k h]
            generalize ac_up mm (x + 4) (17 + z) ((c : Int) + 1) = m3 at *
            refine ac_aload_n (q := 154) dX7_does_153 rfl rfl ?_
            refine ac_aload_n (q := 155) dX7_does_154 rfl rfl ?_
            refine ac_get (q := 158) dX7_does_155 fl_X7_23 (by assumption) rfl (ac_rdr rfl hM9.1.2.2.2.1) ?_
            refine ac_cv (q := 161) (k_X7_settleOn (r := x + 4) (T := (T'.1, T'.2.1, T'.2.2.1, ac_sp T'.2.2.2.1 z (if 0 ≤ (c : Int) ∧ (c : Int) < (T'.2.1 : Int) then (c : Int) else -1), T'.2.2.2.2)) (d := d - 1) (by omega) hM9 (Or.inr rfl) hP3 (by rw [hf3 x (by omega)]; exact q4)) ml_X7_111 (by assumption) dX7_does_158 rfl rfl rfl (by omega) (Nat.le_of_ble_eq_true rfl) (Nat.zero_le _) (Nat.zero_le _) (fun m2 h2 => ?_)
            obtain ⟨g2, e2⟩ := h2
            have A2 := ac_RM_e (m := m2) hR (fun k' hk' => by rw [e2.1 k' (by omega) (by omega) (by omega), hf3 k' (by omega)]) (fun j hj => by rw [e2.2 j (by omega), hf3 x (by omega)])
            have F2 : ac_fM mm m2 x := fun k' hk' => by rw [e2.1 k' (by omega) (by omega) (by omega), hf3 k' (by omega)]
            refine ac_iconst (q := 162) dX7_does_161 rfl ?_
            refine ac_zreturn dX7_does_162 rfl (by first | exact ac_b01 | omega) (Nat.zero_le _) (Nat.zero_le _) ?_
            have hrf : ac_rfn T' (z : Int) (c : Int) = if ¬ (1 ≤ (z : Int) ∧ (z : Int) ≤ (T'.1 : Int)) then -1 else if (0 ≤ (c : Int) ∧ (c : Int) < (T'.2.1 : Int)) ∨ (c : Int) = 9 then 0 else -2 := rfl
            have h0 : ac_rfn T' (z : Int) (c : Int) = 0 := by rw [hrf, if_neg (by omega), if_pos (by omega)]
            rw [if_pos h0]
            exact ⟨ac_bt (by rw [decide_eq_true_eq]; exact h0), rfl, A2, g2, F2⟩
          · refine ac_iconst (q := 145) dX7_does_144 rfl ?_
            refine ac_goto (q := 152) dX7_does_145 rfl ?_
            refine ac_iastoreN (q := 153) (j := 17 + z) dX7_does_152 k4 (by decide) (by omega) rfl ?_
            have hP3 : ac_RP (ac_up mm (x + 4) (17 + z) (0)) (x + 4) (T'.1, T'.2.1, T'.2.2.1, ac_sp T'.2.2.2.1 z (if 0 ≤ (c : Int) ∧ (c : Int) < (T'.2.1 : Int) then (c : Int) else -1), T'.2.2.2.2) := ac_RP_pin tP ⟨by omega, by omega⟩ (fun j => by
              have hv : (if 0 ≤ (c : Int) ∧ (c : Int) < (T'.2.1 : Int) then (c : Int) else -1) + 1 = 0 := by split <;> omega
              rw [hv]; unfold ac_up; simp)
            have hf3 : ∀ k', k' ≠ x + 4 → ac_up mm (x + 4) (17 + z) (0) k' = mm k' := fun k' h => by funext j; rw [ac_up_k h]
            generalize ac_up mm (x + 4) (17 + z) (0) = m3 at *
            refine ac_aload_n (q := 154) dX7_does_153 rfl rfl ?_
            refine ac_aload_n (q := 155) dX7_does_154 rfl rfl ?_
            refine ac_get (q := 158) dX7_does_155 fl_X7_23 (by assumption) rfl (ac_rdr rfl hM9.1.2.2.2.1) ?_
            refine ac_cv (q := 161) (k_X7_settleOn (r := x + 4) (T := (T'.1, T'.2.1, T'.2.2.1, ac_sp T'.2.2.2.1 z (if 0 ≤ (c : Int) ∧ (c : Int) < (T'.2.1 : Int) then (c : Int) else -1), T'.2.2.2.2)) (d := d - 1) (by omega) hM9 (Or.inr rfl) hP3 (by rw [hf3 x (by omega)]; exact q4)) ml_X7_111 (by assumption) dX7_does_158 rfl rfl rfl (by omega) (Nat.le_of_ble_eq_true rfl) (Nat.zero_le _) (Nat.zero_le _) (fun m2 h2 => ?_)
            obtain ⟨g2, e2⟩ := h2
            have A2 := ac_RM_e (m := m2) hR (fun k' hk' => by rw [e2.1 k' (by omega) (by omega) (by omega), hf3 k' (by omega)]) (fun j hj => by rw [e2.2 j (by omega), hf3 x (by omega)])
            have F2 : ac_fM mm m2 x := fun k' hk' => by rw [e2.1 k' (by omega) (by omega) (by omega), hf3 k' (by omega)]
            refine ac_iconst (q := 162) dX7_does_161 rfl ?_
            refine ac_zreturn dX7_does_162 rfl (by first | exact ac_b01 | omega) (Nat.zero_le _) (Nat.zero_le _) ?_
            have hrf : ac_rfn T' (z : Int) (c : Int) = if ¬ (1 ≤ (z : Int) ∧ (z : Int) ≤ (T'.1 : Int)) then -1 else if (0 ≤ (c : Int) ∧ (c : Int) < (T'.2.1 : Int)) ∨ (c : Int) = 9 then 0 else -2 := rfl
            have h0 : ac_rfn T' (z : Int) (c : Int) = 0 := by rw [hrf, if_neg (by omega), if_pos (by omega)]
            rw [if_pos h0]
            exact ⟨ac_bt (by rw [decide_eq_true_eq]; exact h0), rfl, A2, g2, F2⟩
        · refine ac_iload (q := 119) dX7_does_117 rfl rfl ?_
          refine ac_bipush (q := 121) dX7_does_119 rfl (by decide) ?_
          refine ac_icmp_eq (q := 124) (tgt := 126) dX7_does_121 rfl rfl ⟨by omega, by omega⟩ ⟨by omega, by omega⟩ (fun h121 => ?_) (fun h121 => ?_)
          · refine ac_aload_n (q := 127) dX7_does_126 rfl rfl ?_
            refine ac_get (q := 130) dX7_does_127 fl_X7_23 (by assumption) rfl (ac_rdr rfl hM9.1.2.2.2.1) ?_
            refine ac_bipush (q := 132) dX7_does_130 rfl (by decide) ?_
            refine ac_iload (q := 134) dX7_does_132 rfl rfl ?_
            refine ac_iadd (q := 135) dX7_does_134 rfl ?_
            refine ac_iconst (q := 136) dX7_does_135 rfl ?_
            refine ac_isub (q := 137) dX7_does_136 rfl ?_
            refine ac_top (w' := (0, ((17 + z : Nat) : Int))) (congrArg (fun z : Int => ((0 : Nat), z)) (by omega)) ?_
            refine ac_iload (q := 139) dX7_does_137 rfl rfl ?_
            refine ac_bipush (q := 141) dX7_does_139 rfl (by decide) ?_
            refine ac_icmp_ne (q := 144) (tgt := 148) dX7_does_141 rfl rfl ⟨by omega, by omega⟩ ⟨by omega, by omega⟩ (fun h141 => ?_) (fun h141 => ?_)
            · refine ac_iload (q := 150) dX7_does_148 rfl rfl ?_
              refine ac_iconst (q := 151) dX7_does_150 rfl ?_
              refine ac_iadd (q := 152) dX7_does_151 rfl ?_
              refine ac_iastoreN (q := 153) (j := 17 + z) dX7_does_152 k4 (by decide) (by omega) rfl ?_
              have hP3 : ac_RP (ac_up mm (x + 4) (17 + z) ((c : Int) + 1)) (x + 4) (T'.1, T'.2.1, T'.2.2.1, ac_sp T'.2.2.2.1 z (if 0 ≤ (c : Int) ∧ (c : Int) < (T'.2.1 : Int) then (c : Int) else -1), T'.2.2.2.2) := ac_RP_pin tP ⟨by omega, by omega⟩ (fun j => by
                have hv : (if 0 ≤ (c : Int) ∧ (c : Int) < (T'.2.1 : Int) then (c : Int) else -1) + 1 = (c : Int) + 1 := by split <;> omega
                rw [hv]; unfold ac_up; simp)
              have hf3 : ∀ k', k' ≠ x + 4 → ac_up mm (x + 4) (17 + z) ((c : Int) + 1) k' = mm k' := fun k' h => by funext j; rw [ac_up_k h]
              generalize ac_up mm (x + 4) (17 + z) ((c : Int) + 1) = m3 at *
              refine ac_aload_n (q := 154) dX7_does_153 rfl rfl ?_
              refine ac_aload_n (q := 155) dX7_does_154 rfl rfl ?_
              refine ac_get (q := 158) dX7_does_155 fl_X7_23 (by assumption) rfl (ac_rdr rfl hM9.1.2.2.2.1) ?_
              refine ac_cv (q := 161) (k_X7_settleOn (r := x + 4) (T := (T'.1, T'.2.1, T'.2.2.1, ac_sp T'.2.2.2.1 z (if 0 ≤ (c : Int) ∧ (c : Int) < (T'.2.1 : Int) then (c : Int) else -1), T'.2.2.2.2)) (d := d - 1) (by omega) hM9 (Or.inr rfl) hP3 (by rw [hf3 x (by omega)]; exact q4)) ml_X7_111 (by assumption) dX7_does_158 rfl rfl rfl (by omega) (Nat.le_of_ble_eq_true rfl) (Nat.zero_le _) (Nat.zero_le _) (fun m2 h2 => ?_)
              obtain ⟨g2, e2⟩ := h2
              have A2 := ac_RM_e (m := m2) hR (fun k' hk' => by rw [e2.1 k' (by omega) (by omega) (by omega), hf3 k' (by omega)]) (fun j hj => by rw [e2.2 j (by omega), hf3 x (by omega)])
              have F2 : ac_fM mm m2 x := fun k' hk' => by rw [e2.1 k' (by omega) (by omega) (by omega), hf3 k' (by omega)]
              refine ac_iconst (q := 162) dX7_does_161 rfl ?_
              refine ac_zreturn dX7_does_162 rfl (by first | exact ac_b01 | omega) (Nat.zero_le _) (Nat.zero_le _) ?_
              have hrf : ac_rfn T' (z : Int) (c : Int) = if ¬ (1 ≤ (z : Int) ∧ (z : Int) ≤ (T'.1 : Int)) then -1 else if (0 ≤ (c : Int) ∧ (c : Int) < (T'.2.1 : Int)) ∨ (c : Int) = 9 then 0 else -2 := rfl
              have h0 : ac_rfn T' (z : Int) (c : Int) = 0 := by rw [hrf, if_neg (by omega), if_pos (by omega)]
              rw [if_pos h0]
              exact ⟨ac_bt (by rw [decide_eq_true_eq]; exact h0), rfl, A2, g2, F2⟩
            · refine ac_iconst (q := 145) dX7_does_144 rfl ?_
              refine ac_goto (q := 152) dX7_does_145 rfl ?_
              refine ac_iastoreN (q := 153) (j := 17 + z) dX7_does_152 k4 (by decide) (by omega) rfl ?_
              have hP3 : ac_RP (ac_up mm (x + 4) (17 + z) (0)) (x + 4) (T'.1, T'.2.1, T'.2.2.1, ac_sp T'.2.2.2.1 z (if 0 ≤ (c : Int) ∧ (c : Int) < (T'.2.1 : Int) then (c : Int) else -1), T'.2.2.2.2) := ac_RP_pin tP ⟨by omega, by omega⟩ (fun j => by
                have hv : (if 0 ≤ (c : Int) ∧ (c : Int) < (T'.2.1 : Int) then (c : Int) else -1) + 1 = 0 := by split <;> omega
                rw [hv]; unfold ac_up; simp)
              have hf3 : ∀ k', k' ≠ x + 4 → ac_up mm (x + 4) (17 + z) (0) k' = mm k' := fun k' h => by funext j; rw [ac_up_k h]
              generalize ac_up mm (x + 4) (17 + z) (0) = m3 at *
              refine ac_aload_n (q := 154) dX7_does_153 rfl rfl ?_
              refine ac_aload_n (q := 155) dX7_does_154 rfl rfl ?_
              refine ac_get (q := 158) dX7_does_155 fl_X7_23 (by assumption) rfl (ac_rdr rfl hM9.1.2.2.2.1) ?_
              refine ac_cv (q := 161) (k_X7_settleOn (r := x + 4) (T := (T'.1, T'.2.1, T'.2.2.1, ac_sp T'.2.2.2.1 z (if 0 ≤ (c : Int) ∧ (c : Int) < (T'.2.1 : Int) then (c : Int) else -1), T'.2.2.2.2)) (d := d - 1) (by omega) hM9 (Or.inr rfl) hP3 (by rw [hf3 x (by omega)]; exact q4)) ml_X7_111 (by assumption) dX7_does_158 rfl rfl rfl (by omega) (Nat.le_of_ble_eq_true rfl) (Nat.zero_le _) (Nat.zero_le _) (fun m2 h2 => ?_)
              obtain ⟨g2, e2⟩ := h2
              have A2 := ac_RM_e (m := m2) hR (fun k' hk' => by rw [e2.1 k' (by omega) (by omega) (by omega), hf3 k' (by omega)]) (fun j hj => by rw [e2.2 j (by omega), hf3 x (by omega)])
              have F2 : ac_fM mm m2 x := fun k' hk' => by rw [e2.1 k' (by omega) (by omega) (by omega), hf3 k' (by omega)]
              refine ac_iconst (q := 162) dX7_does_161 rfl ?_
              refine ac_zreturn dX7_does_162 rfl (by first | exact ac_b01 | omega) (Nat.zero_le _) (Nat.zero_le _) ?_
              have hrf : ac_rfn T' (z : Int) (c : Int) = if ¬ (1 ≤ (z : Int) ∧ (z : Int) ≤ (T'.1 : Int)) then -1 else if (0 ≤ (c : Int) ∧ (c : Int) < (T'.2.1 : Int)) ∨ (c : Int) = 9 then 0 else -2 := rfl
              have h0 : ac_rfn T' (z : Int) (c : Int) = 0 := by rw [hrf, if_neg (by omega), if_pos (by omega)]
              rw [if_pos h0]
              exact ⟨ac_bt (by rw [decide_eq_true_eq]; exact h0), rfl, A2, g2, F2⟩
          · refine ac_iconst (q := 125) dX7_does_124 rfl ?_
            refine ac_zreturn dX7_does_125 rfl (by first | exact ac_b01 | omega) (Nat.zero_le _) (Nat.zero_le _) ?_
            have hrf : ac_rfn T' (z : Int) (c : Int) = if ¬ (1 ≤ (z : Int) ∧ (z : Int) ≤ (T'.1 : Int)) then -1 else if (0 ≤ (c : Int) ∧ (c : Int) < (T'.2.1 : Int)) ∨ (c : Int) = 9 then 0 else -2 := rfl
            have h0 : ¬ ac_rfn T' (z : Int) (c : Int) = 0 := by
              rw [hrf]
              first
                | (rw [if_pos (by omega)]; decide)
                | (rw [if_neg (by omega), if_neg (by omega)]; decide)
            rw [if_neg h0]
            exact ⟨ac_bf (by rw [decide_eq_true_eq]; exact h0), rfl, hR, tP, ac_fM_r mm x⟩
    · rw [hsv]; refine ac_tabIn (off := 138) (tgt := 163) dX7_does_25 ⟨by decide, by decide⟩ (by decide) (by decide) rfl rfl ?_
      have hk9 : q / 1000 = 3 := by omega
      have hstd := ac_std_3 (T := T') (d := q) hk9
      simp only [hev] at hstd
      rw [hstd]
      refine ac_iload_n (q := 164) dX7_does_163 rfl rfl ?_
      refine ac_if_ne (q := 167) (tgt := 185) dX7_does_164 rfl rfl ⟨by omega, by omega⟩ (fun h164 => ?_) (fun h164 => ?_)
      · refine ac_iconst (q := 186) dX7_does_185 rfl ?_
        refine ac_zreturn dX7_does_186 rfl (by first | exact ac_b01 | omega) (Nat.zero_le _) (Nat.zero_le _) ?_
        have hno : ¬ (1 ≤ e ∧ e ≤ 10) := by omega
        rw [if_neg hno]; exact ⟨ac_bf (by rw [decide_eq_true_eq]; exact hno), rfl, hR, tP, ac_fM_r mm x⟩
      · refine ac_bipush (q := 169) dX7_does_167 rfl (by decide) ?_
        refine ac_iload_n (q := 170) dX7_does_169 rfl rfl ?_
        refine ac_imul (q := 171) dX7_does_170 rfl ?_
        refine ac_iload (q := 173) dX7_does_171 rfl rfl ?_
        refine ac_iadd (q := 174) dX7_does_173 rfl ?_
        refine ac_top (w' := (0, ((e : Nat) : Int))) (congrArg (fun z : Int => ((0 : Nat), z)) (by omega)) ?_
        refine ac_i2l (q := 175) dX7_does_174 rfl ⟨by omega, by omega⟩ ?_
        refine ac_lconst (q := 176) (v := 1) dX7_does_175 rfl (by decide) ?_
        refine ac_ldc2_w (q := 179) (v := 10) dX7_does_176 rfl ct_X7_215 ?_
        refine ac_csp (q := 182) (k_X7_in (d := d - 1) (by omega) ⟨by omega, by omega⟩ ⟨by omega, by omega⟩ ⟨by omega, by omega⟩) ml_X7_72 dX7_does_179 rfl rfl rfl (by omega) (Nat.le_of_ble_eq_true rfl) (Nat.zero_le _) (Nat.zero_le _) ?_
        refine ac_bif_ne (q := 185) (tgt := 187) dX7_does_182 rfl rfl (fun h182 => ?_) (fun h182 => ?_)
        · refine ac_aload_n (q := 188) dX7_does_187 rfl rfl ?_
          refine ac_aload_n (q := 189) dX7_does_188 rfl rfl ?_
          refine ac_get (q := 192) dX7_does_189 fl_X7_23 (by assumption) rfl (ac_rdr rfl hM9.1.2.2.2.1) ?_
          refine ac_bipush (q := 194) dX7_does_192 rfl (by decide) ?_
          refine ac_iload_n (q := 195) dX7_does_194 rfl rfl ?_
          refine ac_imul (q := 196) dX7_does_195 rfl ?_
          refine ac_iload (q := 198) dX7_does_196 rfl rfl ?_
          refine ac_iadd (q := 199) dX7_does_198 rfl ?_
          refine ac_top (w' := (0, ((e : Nat) : Int))) (congrArg (fun z : Int => ((0 : Nat), z)) (by omega)) ?_
          refine ac_cv (q := 202) (k_X7_reachOn (r := x + 4) (T := T') (n := e) (d := d - 1) (by omega) hM9 (Or.inr rfl) tP q4 ⟨by omega, by omega⟩) ml_X7_217 (by assumption) dX7_does_199 rfl rfl rfl (by omega) (Nat.le_of_ble_eq_true rfl) (Nat.zero_le _) (Nat.zero_le _) (fun m1 h1 => ?_)
          obtain ⟨g1, e1⟩ := h1
          have A1 := ac_RM_e hR (fun k' hk' => e1.1 k' (by omega) (by omega) (by omega)) (fun j hj => e1.2 j (by omega))
          have F1 : ac_fM mm m1 x := ac_fEr_fM (Or.inr rfl) e1
          refine ac_iconst (q := 203) dX7_does_202 rfl ?_
          refine ac_zreturn dX7_does_203 rfl (by first | exact ac_b01 | omega) (Nat.zero_le _) (Nat.zero_le _) ?_
          have hyes : 1 ≤ e ∧ e ≤ 10 := by omega
          rw [if_pos hyes]; exact ⟨ac_bt (by rw [decide_eq_true_eq]; exact hyes), rfl, A1, g1, F1⟩
        · refine ac_iconst (q := 186) dX7_does_185 rfl ?_
          refine ac_zreturn dX7_does_186 rfl (by first | exact ac_b01 | omega) (Nat.zero_le _) (Nat.zero_le _) ?_
          have hno : ¬ (1 ≤ e ∧ e ≤ 10) := by omega
          rw [if_neg hno]; exact ⟨ac_bf (by rw [decide_eq_true_eq]; exact hno), rfl, hR, tP, ac_fM_r mm x⟩
    · rw [hsv]; refine ac_tabIn (off := 179) (tgt := 204) dX7_does_25 ⟨by decide, by decide⟩ (by decide) (by decide) rfl rfl ?_
      have hk9 : q / 1000 = 4 := by omega
      have hstd := ac_std_4 (T := T') (d := q) hk9
      simp only [hev] at hstd
      rw [hstd]
      refine ac_aload_n (q := 205) dX7_does_204 rfl rfl ?_
      refine ac_aload_n (q := 206) dX7_does_205 rfl rfl ?_
      refine ac_get (q := 209) dX7_does_206 fl_X7_23 (by assumption) rfl (ac_rdr rfl hM9.1.2.2.2.1) ?_
      refine ac_cv (q := 212) (k_X7_manyOf (r := x + 4) (T := T') (d := d - 1) (by omega) hM9 (Or.inr rfl) tP q4) ml_X7_118 (by assumption) dX7_does_209 rfl rfl rfl (by omega) (Nat.le_of_ble_eq_true rfl) (Nat.zero_le _) (Nat.zero_le _) (fun m1 h1 => ?_)
      have A1 := ac_RM_fE hR h1
      have F1 := ac_fE_fM h1
      have tP1 := ac_RP_fE (Or.inr rfl) tP h1
      refine ac_bipush (q := 214) dX7_does_212 rfl (by decide) ?_
      refine ac_iload_n (q := 215) dX7_does_214 rfl rfl ?_
      refine ac_imul (q := 216) dX7_does_215 rfl ?_
      refine ac_bipush (q := 218) dX7_does_216 rfl (by decide) ?_
      refine ac_iload_n (q := 219) dX7_does_218 rfl rfl ?_
      refine ac_imul (q := 220) dX7_does_219 rfl ?_
      refine ac_iadd (q := 221) dX7_does_220 rfl ?_
      refine ac_iload (q := 223) dX7_does_221 rfl rfl ?_
      refine ac_iadd (q := 224) dX7_does_223 rfl ?_
      refine ac_top (w' := (0, ((e : Nat) : Int))) (congrArg (fun z : Int => ((0 : Nat), z)) (by omega)) ?_
      refine ac_icmp_ne (q := 227) (tgt := 231) dX7_does_224 rfl rfl ⟨by omega, by omega⟩ ⟨by omega, by omega⟩ (fun h224 => ?_) (fun h224 => ?_)
      · refine ac_iconst (q := 232) dX7_does_231 rfl ?_
        refine ac_zreturn dX7_does_232 rfl (by first | exact ac_b01 | omega) (Nat.zero_le _) (Nat.zero_le _) ?_
        first
          | exact ⟨ac_bt (by rw [decide_eq_true_eq]; omega), rfl, A1, tP1, F1⟩
          | exact ⟨ac_bf (by rw [decide_eq_true_eq]; omega), rfl, A1, tP1, F1⟩
      · refine ac_iconst (q := 228) dX7_does_227 rfl ?_
        refine ac_goto (q := 232) dX7_does_228 rfl ?_
        refine ac_zreturn dX7_does_232 rfl (by first | exact ac_b01 | omega) (Nat.zero_le _) (Nat.zero_le _) ?_
        first
          | exact ⟨ac_bt (by rw [decide_eq_true_eq]; omega), rfl, A1, tP1, F1⟩
          | exact ⟨ac_bf (by rw [decide_eq_true_eq]; omega), rfl, A1, tP1, F1⟩
    · rw [hsv]; refine ac_tabIn (off := 208) (tgt := 233) dX7_does_25 ⟨by decide, by decide⟩ (by decide) (by decide) rfl rfl ?_
      have hk9 : q / 1000 = 5 := by omega
      have hstd := ac_std_5 (T := T') (d := q) hk9
      simp only [hev, hzv, ec] at hstd
      rw [hstd]
      refine ac_iload (q := 235) dX7_does_233 rfl rfl ?_
      refine ac_bif_eq (q := 238) (tgt := 268) dX7_does_235 rfl rfl (fun h235 => ?_) (fun h235 => ?_)
      · refine ac_iconst (q := 269) dX7_does_268 rfl ?_
        refine ac_zreturn dX7_does_269 rfl (by first | exact ac_b01 | omega) (Nat.zero_le _) (Nat.zero_le _) ?_
        first
          | exact ⟨ac_bt (by rw [decide_eq_true_eq, hps]; exact Int.ofNat.inj h261), rfl, A1, tP1, F1⟩
          | exact ⟨ac_bf (by rw [decide_eq_true_eq, hps]; exact fun y => h261 (by rw [y])), rfl, A1, tP1, F1⟩
          | exact ⟨ac_bf (by rw [decide_eq_true_eq]; exact ac_poss_no hk3 (by omega)), rfl, hR, tP, ac_fM_r mm x⟩
      · refine ac_iload (q := 240) dX7_does_238 rfl rfl ?_
        refine ac_aload_n (q := 241) dX7_does_240 rfl rfl ?_
        refine ac_get (q := 244) dX7_does_241 fl_X7_13 kx rfl (ac_rdi rfl q4) ?_
        refine ac_icmp_ge (q := 247) (tgt := 268) dX7_does_244 rfl rfl ⟨by omega, by omega⟩ ⟨by omega, by omega⟩ (fun h244 => ?_) (fun h244 => ?_)
        · refine ac_iconst (q := 269) dX7_does_268 rfl ?_
          refine ac_zreturn dX7_does_269 rfl (by first | exact ac_b01 | omega) (Nat.zero_le _) (Nat.zero_le _) ?_
          first
            | exact ⟨ac_bt (by rw [decide_eq_true_eq, hps]; exact Int.ofNat.inj h261), rfl, A1, tP1, F1⟩
            | exact ⟨ac_bf (by rw [decide_eq_true_eq, hps]; exact fun y => h261 (by rw [y])), rfl, A1, tP1, F1⟩
            | exact ⟨ac_bf (by rw [decide_eq_true_eq]; exact ac_poss_no hk3 (by omega)), rfl, hR, tP, ac_fM_r mm x⟩
        · refine ac_aload_n (q := 248) dX7_does_247 rfl rfl ?_
          refine ac_aload_n (q := 249) dX7_does_248 rfl rfl ?_
          refine ac_get (q := 252) dX7_does_249 fl_X7_23 (by assumption) rfl (ac_rdr rfl hM9.1.2.2.2.1) ?_
          refine ac_iload (q := 254) dX7_does_252 rfl rfl ?_
          refine ac_cv (q := 257) (k_X7_mayBe (r := x + 4) (T := T') (a := z) (d := d - 1) (by omega) hM9 (Or.inr rfl) tP q4 ⟨by omega, by omega⟩) ml_X7_198 (by assumption) dX7_does_254 rfl rfl rfl (by omega) (Nat.le_of_ble_eq_true rfl) (Nat.zero_le _) (Nat.zero_le _) (fun m1 h1 => ?_)
          have A1 := ac_RM_fE hR h1
          have F1 := ac_fE_fM h1
          have tP1 := ac_RP_fE (Or.inr rfl) tP h1
          have hcb := ac_cb_k hk3 z (T := T')
          have h2k : 2 ^ T'.2.1 ≤ 8 := Nat.pow_le_pow_right (n := 2) (by decide) hk3
          have hp2 : 2 ^ c < 2048 := Nat.lt_of_le_of_lt (Nat.pow_le_pow_right (by decide) (show c ≤ 9 by omega)) (by decide)
          have hps : ac_poss T' z = ac_cb (ac_Lt T') z := by unfold ac_poss; rw [if_pos ⟨by omega, by omega⟩]
          refine ac_iconst (q := 258) dX7_does_257 rfl ?_
          refine ac_iload (q := 260) dX7_does_258 rfl rfl ?_
          refine ac_ishl1 (q := 261) (k := c) dX7_does_260 rfl (by omega) ?_
          refine ac_icmp_ne (q := 264) (tgt := 268) dX7_does_261 rfl rfl (ac_nin (by omega)) (ac_nin hp2) (fun h261 => ?_) (fun h261 => ?_)
          · refine ac_iconst (q := 269) dX7_does_268 rfl ?_
            refine ac_zreturn dX7_does_269 rfl (by first | exact ac_b01 | omega) (Nat.zero_le _) (Nat.zero_le _) ?_
            first
              | exact ⟨ac_bt (by rw [decide_eq_true_eq, hps]; exact Int.ofNat.inj h261), rfl, A1, tP1, F1⟩
              | exact ⟨ac_bf (by rw [decide_eq_true_eq, hps]; exact fun y => h261 (by rw [y])), rfl, A1, tP1, F1⟩
              | exact ⟨ac_bf (by rw [decide_eq_true_eq]; exact ac_poss_no hk3 (by omega)), rfl, hR, tP, ac_fM_r mm x⟩
          · refine ac_iconst (q := 265) dX7_does_264 rfl ?_
            refine ac_goto (q := 269) dX7_does_265 rfl ?_
            refine ac_zreturn dX7_does_269 rfl (by first | exact ac_b01 | omega) (Nat.zero_le _) (Nat.zero_le _) ?_
            first
              | exact ⟨ac_bt (by rw [decide_eq_true_eq, hps]; exact Int.ofNat.inj h261), rfl, A1, tP1, F1⟩
              | exact ⟨ac_bf (by rw [decide_eq_true_eq, hps]; exact fun y => h261 (by rw [y])), rfl, A1, tP1, F1⟩
              | exact ⟨ac_bf (by rw [decide_eq_true_eq]; exact ac_poss_no hk3 (by omega)), rfl, hR, tP, ac_fM_r mm x⟩
    · rw [hsv]; refine ac_tabIn (off := 245) (tgt := 270) dX7_does_25 ⟨by decide, by decide⟩ (by decide) (by decide) rfl rfl ?_
      have hk9 : q / 1000 = 6 := by omega
      have hstd : ac_std T' q = (decide (e < T'.2.2.1.length) && @decide (ac_reg (ac_eqn T' ((e : Nat) : Int))) (ac_regd _), T') := by rw [← hev]; exact ac_std_6 hk9
      rw [hstd]
      refine ac_iload (q := 272) dX7_does_270 rfl rfl ?_
      refine ac_if_ne (q := 275) (tgt := 302) dX7_does_272 rfl rfl ⟨by omega, by omega⟩ (fun h272 => ?_) (fun h272 => ?_)
      · refine ac_iconst (q := 303) dX7_does_302 rfl ?_
        refine ac_zreturn dX7_does_303 rfl (by first | exact ac_b01 | omega) (Nat.zero_le _) (Nat.zero_le _) ?_
        first
          | exact ⟨ac_bf (by rw [Bool.and_eq_true, decide_eq_true_eq]; intro y; omega), rfl, hR, tP, ac_fM_r mm x⟩
          | (have hec : e = c := by omega
             subst hec
             first
               | exact ⟨ac_bf (by rw [Bool.and_eq_true]; intro y; exact h295 ((@decide_eq_true_eq _ (ac_regd _)).mp y.2)), rfl, hR, tP, ac_fM_r mm x⟩
               | exact ⟨ac_bt (by rw [Bool.and_eq_true, decide_eq_true_eq]; exact ⟨by omega, (@decide_eq_true_eq _ (ac_regd _)).mpr h295⟩), rfl, hR, tP, ac_fM_r mm x⟩)
      · refine ac_iload (q := 277) dX7_does_275 rfl rfl ?_
        refine ac_aload_n (q := 278) dX7_does_277 rfl rfl ?_
        refine ac_get (q := 281) dX7_does_278 fl_X7_23 (by assumption) rfl (ac_rdr rfl hM9.1.2.2.2.1) ?_
        refine ac_iconst (q := 282) dX7_does_281 rfl ?_
        refine ac_ialoadN (q := 283) (j := 1) (v := (T'.2.2.1.length : Int)) dX7_does_282 k4 (by decide) (by decide) rfl p1 ?_
        refine ac_icmp_ge (q := 286) (tgt := 302) dX7_does_283 rfl rfl ⟨by omega, by omega⟩ ⟨by omega, by omega⟩ (fun h283 => ?_) (fun h283 => ?_)
        · refine ac_iconst (q := 303) dX7_does_302 rfl ?_
          refine ac_zreturn dX7_does_303 rfl (by first | exact ac_b01 | omega) (Nat.zero_le _) (Nat.zero_le _) ?_
          first
            | exact ⟨ac_bf (by rw [Bool.and_eq_true, decide_eq_true_eq]; intro y; omega), rfl, hR, tP, ac_fM_r mm x⟩
            | (have hec : e = c := by omega
               subst hec
               first
                 | exact ⟨ac_bf (by rw [Bool.and_eq_true]; intro y; exact h295 ((@decide_eq_true_eq _ (ac_regd _)).mp y.2)), rfl, hR, tP, ac_fM_r mm x⟩
                 | exact ⟨ac_bt (by rw [Bool.and_eq_true, decide_eq_true_eq]; exact ⟨by omega, (@decide_eq_true_eq _ (ac_regd _)).mpr h295⟩), rfl, hR, tP, ac_fM_r mm x⟩)
        · refine ac_aload_n (q := 287) dX7_does_286 rfl rfl ?_
          refine ac_get (q := 290) dX7_does_287 fl_X7_23 (by assumption) rfl (ac_rdr rfl hM9.1.2.2.2.1) ?_
          refine ac_iload (q := 292) dX7_does_290 rfl rfl ?_
          have hqe := ac_eqn_get (T := T') (e := (c : Int)) ⟨by omega, by omega⟩
          simp only [Int.toNat_natCast] at hqe
          refine ac_csp (q := 295) (k_X7_isRegular (r := x + 4) (q := ac_eqn T' (c : Int)) (d := d - 1) (by omega) k4 pE hE hqe) ml_X7_188 dX7_does_292 rfl rfl rfl (by omega) (Nat.le_of_ble_eq_true rfl) (Nat.zero_le _) (Nat.zero_le _) ?_
          letI := ac_regd (ac_eqn T' (c : Int))
          refine ac_bif_eq (q := 298) (tgt := 302) dX7_does_295 rfl rfl (fun h295 => ?_) (fun h295 => ?_)
          · refine ac_iconst (q := 303) dX7_does_302 rfl ?_
            refine ac_zreturn dX7_does_303 rfl (by first | exact ac_b01 | omega) (Nat.zero_le _) (Nat.zero_le _) ?_
            first
              | exact ⟨ac_bf (by rw [Bool.and_eq_true, decide_eq_true_eq]; intro y; omega), rfl, hR, tP, ac_fM_r mm x⟩
              | (have hec : e = c := by omega
                 subst hec
                 first
                   | exact ⟨ac_bf (by rw [Bool.and_eq_true]; intro y; exact h295 ((@decide_eq_true_eq _ (ac_regd _)).mp y.2)), rfl, hR, tP, ac_fM_r mm x⟩
                   | exact ⟨ac_bt (by rw [Bool.and_eq_true, decide_eq_true_eq]; exact ⟨by omega, (@decide_eq_true_eq _ (ac_regd _)).mpr h295⟩), rfl, hR, tP, ac_fM_r mm x⟩)
          · refine ac_iconst (q := 299) dX7_does_298 rfl ?_
            refine ac_goto (q := 303) dX7_does_299 rfl ?_
            refine ac_zreturn dX7_does_303 rfl (by first | exact ac_b01 | omega) (Nat.zero_le _) (Nat.zero_le _) ?_
            first
              | exact ⟨ac_bf (by rw [Bool.and_eq_true, decide_eq_true_eq]; intro y; omega), rfl, hR, tP, ac_fM_r mm x⟩
              | (have hec : e = c := by omega
                 subst hec
                 first
                   | exact ⟨ac_bf (by rw [Bool.and_eq_true]; intro y; exact h295 ((@decide_eq_true_eq _ (ac_regd _)).mp y.2)), rfl, hR, tP, ac_fM_r mm x⟩
                   | exact ⟨ac_bt (by rw [Bool.and_eq_true, decide_eq_true_eq]; exact ⟨by omega, (@decide_eq_true_eq _ (ac_regd _)).mpr h295⟩), rfl, hR, tP, ac_fM_r mm x⟩)
    · rw [hsv]; refine ac_tabIn (off := 279) (tgt := 304) dX7_does_25 ⟨by decide, by decide⟩ (by decide) (by decide) rfl rfl ?_
      have hk9 : q / 1000 = 7 := by omega
      have hstd := ac_std_7 (T := T') (d := q) hk9
      simp only [hev] at hstd
      rw [hstd]
      refine ac_aload_n (q := 305) dX7_does_304 rfl rfl ?_
      refine ac_aload_n (q := 306) dX7_does_305 rfl rfl ?_
      refine ac_get (q := 309) dX7_does_306 fl_X7_23 (by assumption) rfl (ac_rdr rfl hM9.1.2.2.2.1) ?_
      refine ac_cv (q := 312) (k_X7_least (r := x + 4) (T := T') (d := d - 1) (by omega) hM9 (Or.inr rfl) tP q4) ml_X7_228 (by assumption) dX7_does_309 rfl rfl rfl (by omega) (Nat.le_of_ble_eq_true rfl) (Nat.zero_le _) (Nat.zero_le _) (fun m1 h1 => ?_)
      have A1 := ac_RM_fE hR h1
      have F1 := ac_fE_fM h1
      have tP1 := ac_RP_fE (Or.inr rfl) tP h1
      have hlim := ac_lim_in2 (ac_may T'.2.1 T'.2.2.1 (fun _ => -1))
      have hlt : ac_limT T' = ac_lim (ac_may T'.2.1 T'.2.2.1 (fun _ => -1)) := rfl
      rw [← hlt] at hlim
      refine ac_istore (q := 314) dX7_does_312 rfl (Nat.le_of_ble_eq_true rfl) rfl rfl ?_
      simp only [List.set_cons_succ, List.set_cons_zero]
      refine ac_iload_n (q := 315) dX7_does_314 rfl rfl ?_
      refine ac_if_ne (q := 318) (tgt := 345) dX7_does_315 rfl rfl ⟨by omega, by omega⟩ (fun h315 => ?_) (fun h315 => ?_)
      · refine ac_iconst (q := 346) dX7_does_345 rfl ?_
        refine ac_zreturn dX7_does_346 rfl (by first | exact ac_b01 | omega) (Nat.zero_le _) (Nat.zero_le _) ?_
        first
          | exact ⟨ac_bt (by rw [decide_eq_true_eq]; split <;> omega), rfl, A1, tP1, F1⟩
          | exact ⟨ac_bf (by rw [decide_eq_true_eq]; split <;> omega), rfl, A1, tP1, F1⟩
      · refine ac_bipush (q := 320) dX7_does_318 rfl (by decide) ?_
        refine ac_iload_n (q := 321) dX7_does_320 rfl rfl ?_
        refine ac_imul (q := 322) dX7_does_321 rfl ?_
        refine ac_iload (q := 324) dX7_does_322 rfl rfl ?_
        refine ac_iadd (q := 325) dX7_does_324 rfl ?_
        refine ac_top (w' := (0, ((e : Nat) : Int))) (congrArg (fun z : Int => ((0 : Nat), z)) (by omega)) ?_
        refine ac_iload (q := 327) dX7_does_325 rfl rfl ?_
        refine ac_bipush (q := 329) dX7_does_327 rfl (by decide) ?_
        refine ac_icmp_ne (q := 332) (tgt := 336) dX7_does_329 rfl rfl ⟨by omega, by omega⟩ ⟨by omega, by omega⟩ (fun h329 => ?_) (fun h329 => ?_)
        · refine ac_iload (q := 338) dX7_does_336 rfl rfl ?_
          refine ac_icmp_ne (q := 341) (tgt := 345) dX7_does_338 rfl rfl ⟨by omega, by omega⟩ ⟨by omega, by omega⟩ (fun h338 => ?_) (fun h338 => ?_)
          · refine ac_iconst (q := 346) dX7_does_345 rfl ?_
            refine ac_zreturn dX7_does_346 rfl (by first | exact ac_b01 | omega) (Nat.zero_le _) (Nat.zero_le _) ?_
            first
              | exact ⟨ac_bt (by rw [decide_eq_true_eq]; split <;> omega), rfl, A1, tP1, F1⟩
              | exact ⟨ac_bf (by rw [decide_eq_true_eq]; split <;> omega), rfl, A1, tP1, F1⟩
          · refine ac_iconst (q := 342) dX7_does_341 rfl ?_
            refine ac_goto (q := 346) dX7_does_342 rfl ?_
            refine ac_zreturn dX7_does_346 rfl (by first | exact ac_b01 | omega) (Nat.zero_le _) (Nat.zero_le _) ?_
            first
              | exact ⟨ac_bt (by rw [decide_eq_true_eq]; split <;> omega), rfl, A1, tP1, F1⟩
              | exact ⟨ac_bf (by rw [decide_eq_true_eq]; split <;> omega), rfl, A1, tP1, F1⟩
        · refine ac_iconst (q := 333) dX7_does_332 rfl ?_
          refine ac_goto (q := 338) dX7_does_333 rfl ?_
          refine ac_icmp_ne (q := 341) (tgt := 345) dX7_does_338 rfl rfl ⟨by omega, by omega⟩ ⟨by omega, by omega⟩ (fun h338 => ?_) (fun h338 => ?_)
          · refine ac_iconst (q := 346) dX7_does_345 rfl ?_
            refine ac_zreturn dX7_does_346 rfl (by first | exact ac_b01 | omega) (Nat.zero_le _) (Nat.zero_le _) ?_
            first
              | exact ⟨ac_bt (by rw [decide_eq_true_eq]; split <;> omega), rfl, A1, tP1, F1⟩
              | exact ⟨ac_bf (by rw [decide_eq_true_eq]; split <;> omega), rfl, A1, tP1, F1⟩
          · refine ac_iconst (q := 342) dX7_does_341 rfl ?_
            refine ac_goto (q := 346) dX7_does_342 rfl ?_
            refine ac_zreturn dX7_does_346 rfl (by first | exact ac_b01 | omega) (Nat.zero_le _) (Nat.zero_le _) ?_
            first
              | exact ⟨ac_bt (by rw [decide_eq_true_eq]; split <;> omega), rfl, A1, tP1, F1⟩
              | exact ⟨ac_bf (by rw [decide_eq_true_eq]; split <;> omega), rfl, A1, tP1, F1⟩

set_option maxHeartbeats 8000000 in
theorem k_X7_judge {G : ac_G} {Y : ac_Y} {mm : ac_M} {d x : Nat} {s : List Nat} {T : ac_Tk} {hs : List ac_Tk} {s0 s1 : Option ac_Tk} {obs : List ac_Ob} {ch : Int} {a v : Int} (hd : 30 ≤ d) (hM : ac_isM Y x) (hR : ac_RM mm x s T hs s0 s1 obs ch) (ha : ac_in a) (hv : ac_il v) : ac_C G yX7_judge cX7_judge 6 (some .int) d 0 0 Y mm [(2, (x : Int)), (0, a), (1, v)] (ac_R Y [(0, ac_an_judge T a v)] (fun m => ac_RM m x s T hs s0 s1 obs ch ∧ ac_fM mm m x)) := by
  have hM9 := hM
  obtain ⟨kx, k1, k2, k3, k4, k5, k6, k7, k8, k9, k10, k11, k12, k13, k14, k15, k16⟩ := hM.2
  obtain ⟨-, ⟨hkk, hPg⟩, -⟩ := id hR
  obtain ⟨⟨⟨hn1, hn2⟩, ⟨hk2, hk3⟩, hE, hp0, hpr, hc0⟩, -⟩ := id hPg
  have hE4 := hE.1
  have hLn := ac_Lt_len T hn2
  obtain ⟨ha1, ha2⟩ := ha
  obtain ⟨hv1, hv2⟩ := hv
  refine ac_met (on := (RX7, "judge")) rfl rfl (Nat.le_of_ble_eq_true rfl) (ls := [(2, (x : Int)), (0, a), (1, v), (3, 0), (3, 0), (3, 0)]) rfl ?_
  refine ac_aload_n (q := 1) dX7_judge_0 rfl rfl ?_
  refine ac_iconst (q := 2) dX7_judge_1 rfl ?_
  refine ac_put (q := 5) dX7_judge_2 fl_X7_67 (by assumption) rfl rfl ?_
  have A0 := ac_up0_RM hR
  have F0 : ac_fM mm (ac_up mm x 0 0) x := ac_up0_fM
  generalize ac_up mm x 0 0 = m0 at *
  obtain ⟨q4, qP⟩ := A0.2.1
  obtain ⟨-, p0, p1, pE, pp, p28, pcb, pcl⟩ := id qP
  refine ac_iload_n (q := 6) dX7_judge_5 rfl rfl ?_
  refine ac_i2l (q := 7) dX7_judge_6 rfl ⟨by omega, by omega⟩ ?_
  refine ac_lconst (q := 8) (v := 1) dX7_judge_7 rfl (by decide) ?_
  refine ac_ldc2_w (q := 11) (v := 4) dX7_judge_8 rfl ct_X7_82 ?_
  refine ac_csp (q := 14) (k_X7_in (d := d - 1) (by omega) ⟨by omega, by omega⟩ ⟨by omega, by omega⟩ ⟨by omega, by omega⟩) ml_X7_72 dX7_judge_11 rfl rfl rfl (by omega) (Nat.le_of_ble_eq_true rfl) (Nat.zero_le _) (Nat.zero_le _) ?_
  refine ac_bif_eq (q := 17) (tgt := 34) dX7_judge_14 rfl rfl (fun h14 => ?_) (fun h14 => ?_)
  · refine ac_bipush (q := 36) dX7_judge_34 rfl (by decide) ?_
    refine ac_ireturn dX7_judge_36 rfl (Nat.zero_le _) (Nat.zero_le _) ?_
    have hno : ¬ ((1 ≤ a ∧ a ≤ 4) ∧ 0 ≤ v ∧ v.toNat / 10000 ^ a.toNat = 0) := fun z => h14 z.1
    have hans : ac_an_judge T a v = -2 := if_pos hno
    rw [hans]; exact ⟨rfl, rfl, A0, F0⟩
  · refine ac_lload_n (q := 18) dX7_judge_17 rfl rfl ?_
    refine ac_lconst (q := 19) (v := 0) dX7_judge_18 rfl (by decide) ?_
    refine ac_ldc2_w (q := 22) (v := 10000) dX7_judge_19 rfl ct_X7_243 ?_
    refine ac_iload_n (q := 23) dX7_judge_22 rfl rfl ?_
    obtain ⟨n, rfl⟩ := Int.eq_ofNat_of_zero_le (a := a) (by omega)
    have hp4 : 10000 ^ n ≤ 10000 ^ 4 := Nat.pow_le_pow_right (by decide) (by omega)
    have hp42 : (10000 : Nat) ^ 4 = 10000000000000000 := by decide
    have hp40 : 0 < 10000 ^ n := Nat.pow_pos (by decide)
    refine ac_csp (q := 26) (k_X7_longPower (a := 10000) (e := n) (d := d - 1) (by omega) (by omega)) ml_X7_245 dX7_judge_23 rfl rfl rfl (by omega) (Nat.le_of_ble_eq_true rfl) (Nat.zero_le _) (Nat.zero_le _) ?_
    generalize hpn : 10000 ^ n = pn at *
    refine ac_lconst (q := 27) (v := 1) dX7_judge_26 rfl (by decide) ?_
    refine ac_lsub (q := 28) dX7_judge_27 rfl ?_
    refine ac_csp (q := 31) (k_X7_in (d := d - 1) (by omega) ⟨by omega, by omega⟩ ⟨by omega, by omega⟩ ⟨by omega, by omega⟩) ml_X7_72 dX7_judge_28 rfl rfl rfl (by omega) (Nat.le_of_ble_eq_true rfl) (Nat.zero_le _) (Nat.zero_le _) ?_
    refine ac_bif_ne (q := 34) (tgt := 37) dX7_judge_31 rfl rfl (fun h31 => ?_) (fun h31 => ?_)
    · obtain ⟨q, rfl⟩ := Int.eq_ofNat_of_zero_le (a := v) (by omega)
      have hq0 : q / 10000 ^ n = 0 := by rw [hpn]; exact Nat.div_eq_of_lt (by omega)
      have hans : ac_an_judge T (n : Int) (q : Int) = ac_jd q n T 0 := by
        unfold ac_an_judge
        rw [if_neg (fun z => z ⟨⟨by omega, by omega⟩, by omega, by rw [Int.toNat_natCast, Int.toNat_natCast]; exact hq0⟩), Int.toNat_natCast, Int.toNat_natCast]
      refine ac_aload_n (q := 38) dX7_judge_37 rfl rfl ?_
      refine ac_cv (q := 41) (k_X7_layTrial (d := d - 1) (by omega) hM9 A0) ml_X7_208 (by assumption) dX7_judge_38 rfl rfl rfl (by omega) (Nat.le_of_ble_eq_true rfl) (Nat.zero_le _) (Nat.zero_le _) (fun m1 h1 => ?_)
      obtain ⟨A1, tP1, x1, f1⟩ := h1
      have F1 : ac_fM mm m1 x := ac_fM_t F0 (fun k' hk' => f1 k' (by omega))
      refine ac_iconst (q := 42) dX7_judge_41 rfl ?_
      refine ac_istore (q := 44) dX7_judge_42 rfl (Nat.le_of_ble_eq_true rfl) rfl rfl ?_
      simp only [List.set_cons_succ, List.set_cons_zero]
      have loop : ∀ (f i : Nat) (T' : ac_Tk) (m : ac_M) (zz : Nat × Int), zz.1 ≠ 1 → i + f = n → ac_RM m x s T hs s0 s1 obs ch → ac_RP m (x + 4) T' → T'.2.1 = T.2.1 → ac_fM mm m x → ac_jd q n T 0 = ac_jd q f T' i → ac_V G (RX7, "judge") cX7_judge 6 (some .int) d 0 0 (ac_R Y [(0, ac_an_judge T ((n : Nat) : Int) ((q : Nat) : Int))] (fun m => ac_RM m x s T hs s0 s1 obs ch ∧ ac_fM mm m x)) 0 0 Y m 44 [(2, (x : Int)), (0, ((n : Nat) : Int)), (1, ((q : Nat) : Int)), (3, 0), (0, (i : Int)), zz] [] := by
        intro f
        induction f with
        | zero =>
          intro i T' m zz hzz hi A tPm hkm fm he
          obtain ⟨z1, z2⟩ := zz
          obtain rfl : i = n := by omega
          rw [hans, he, ac_jd]
          refine ac_iload (q := 46) dX7_judge_44 rfl rfl ?_
          refine ac_iload_n (q := 47) dX7_judge_46 rfl rfl ?_
          refine ac_icmp_ge (q := 50) (tgt := 114) dX7_judge_47 rfl rfl ⟨by omega, by omega⟩ ⟨by omega, by omega⟩ (fun h47 => ?_) (fun h47 => ?_)
          · refine ac_bipush (q := 116) dX7_judge_114 rfl (by decide) ?_
            refine ac_ireturn dX7_judge_116 rfl (Nat.zero_le _) (Nat.zero_le _) ?_
            exact ⟨rfl, rfl, A, fm⟩
          · exfalso; omega
        | succ f ih =>
          intro i T' m zz hzz hi A tPm hkm fm he
          obtain ⟨z1, z2⟩ := zz
          simp only at hzz
          have ei : ((i : Nat) : Int) + 1 = ((i + 1 : Nat) : Int) := rfl
          have hle : q / 10000 ^ f ≤ q := Nat.div_le_self _ _
          have hml : q / 10000 ^ f % 10000 < 10000 := Nat.mod_lt _ (by decide)
          have hpf : 10000 ^ f ≤ 10000 ^ 3 := Nat.pow_le_pow_right (by decide) (by omega)
          have hpf2 : (10000 : Nat) ^ 3 = 1000000000000 := by decide
          have hpf0 : 0 < 10000 ^ f := Nat.pow_pos (by decide)
          rw [ac_jd] at he
          generalize hw : q / 10000 ^ f % 10000 = w at *
          refine ac_iload (q := 46) dX7_judge_44 rfl rfl ?_
          refine ac_iload_n (q := 47) dX7_judge_46 rfl rfl ?_
          refine ac_icmp_ge (q := 50) (tgt := 114) dX7_judge_47 rfl rfl ⟨by omega, by omega⟩ ⟨by omega, by omega⟩ (fun h47 => ?_) (fun h47 => ?_)
          · exfalso; omega
          · refine ac_lload_n (q := 51) dX7_judge_50 rfl rfl ?_
            refine ac_ldc2_w (q := 54) (v := 10000) dX7_judge_51 rfl ct_X7_243 ?_
            refine ac_iload_n (q := 55) dX7_judge_54 rfl rfl ?_
            refine ac_iconst (q := 56) dX7_judge_55 rfl ?_
            refine ac_isub (q := 57) dX7_judge_56 rfl ?_
            refine ac_iload (q := 59) dX7_judge_57 rfl rfl ?_
            refine ac_isub (q := 60) dX7_judge_59 rfl ?_
            refine ac_top (w' := (0, (f : Int))) (congrArg (fun z => ((0 : Nat), z)) (by omega)) ?_
            refine ac_csp (q := 63) (k_X7_longPower (a := 10000) (e := f) (d := d - 1) (by omega) (by omega)) ml_X7_245 dX7_judge_60 rfl rfl rfl (by omega) (Nat.le_of_ble_eq_true rfl) (Nat.zero_le _) (Nat.zero_le _) ?_
            refine ac_ldiv (q := 64) dX7_judge_63 rfl ⟨by omega, by omega⟩ (ac_nil (by omega)) (by intro h; have := Int.ofNat.inj h; omega) ?_
            refine ac_top (w' := (1, ((q / 10000 ^ f : Nat) : Int))) (congrArg (fun z => ((1 : Nat), z)) (by rw [Int.ofNat_tdiv])) ?_
            refine ac_ldc2_w (q := 67) (v := 10000) dX7_judge_64 rfl ct_X7_243 ?_
            refine ac_lrem (q := 68) dX7_judge_67 rfl (ac_nil (Nat.lt_of_le_of_lt hle (by omega))) ⟨by omega, by omega⟩ (by omega) ?_
            refine ac_top (w' := (1, ((w : Nat) : Int))) (congrArg (fun z => ((1 : Nat), z)) (by rw [← hw, Int.ofNat_tmod]; rfl)) ?_
            refine ac_l2i (q := 69) dX7_judge_68 rfl ?_
            refine ac_istore (q := 71) dX7_judge_69 rfl (Nat.le_of_ble_eq_true rfl) rfl rfl ?_
            simp only [List.set_cons_succ, List.set_cons_zero]
            refine ac_aload_n (q := 72) dX7_judge_71 rfl rfl ?_
            refine ac_iload (q := 74) dX7_judge_72 rfl rfl ?_
            refine ac_sipush (q := 77) dX7_judge_74 rfl (by decide) ?_
            refine ac_idiv (q := 78) dX7_judge_77 rfl ⟨by omega, by omega⟩ ⟨by omega, by omega⟩ (by omega) (by omega) ?_
            refine ac_top (w' := (0, ((w / 1000 : Nat) : Int))) (congrArg (fun z => ((0 : Nat), z)) (by rw [Int.ofNat_tdiv]; rfl)) ?_
            refine ac_iload (q := 80) dX7_judge_78 rfl rfl ?_
            refine ac_bipush (q := 82) dX7_judge_80 rfl (by decide) ?_
            refine ac_idiv (q := 83) dX7_judge_82 rfl ⟨by omega, by omega⟩ ⟨by omega, by omega⟩ (by omega) (by omega) ?_
            refine ac_top (w' := (0, ((w / 100 : Nat) : Int))) (congrArg (fun z => ((0 : Nat), z)) (by rw [Int.ofNat_tdiv]; rfl)) ?_
            refine ac_bipush (q := 85) dX7_judge_83 rfl (by decide) ?_
            refine ac_irem (q := 86) dX7_judge_85 rfl ⟨by omega, by omega⟩ ⟨by omega, by omega⟩ (by omega) (by omega) ?_
            refine ac_top (w' := (0, ((w / 100 % 10 : Nat) : Int))) (congrArg (fun z => ((0 : Nat), z)) (by rw [Int.ofNat_tmod]; rfl)) ?_
            refine ac_iload (q := 88) dX7_judge_86 rfl rfl ?_
            refine ac_bipush (q := 90) dX7_judge_88 rfl (by decide) ?_
            refine ac_idiv (q := 91) dX7_judge_90 rfl ⟨by omega, by omega⟩ ⟨by omega, by omega⟩ (by omega) (by omega) ?_
            refine ac_top (w' := (0, ((w / 10 : Nat) : Int))) (congrArg (fun z => ((0 : Nat), z)) (by rw [Int.ofNat_tdiv]; rfl)) ?_
            refine ac_bipush (q := 93) dX7_judge_91 rfl (by decide) ?_
            refine ac_irem (q := 94) dX7_judge_93 rfl ⟨by omega, by omega⟩ ⟨by omega, by omega⟩ (by omega) (by omega) ?_
            refine ac_top (w' := (0, ((w / 10 % 10 : Nat) : Int))) (congrArg (fun z => ((0 : Nat), z)) (by rw [Int.ofNat_tmod]; rfl)) ?_
            refine ac_iload (q := 96) dX7_judge_94 rfl rfl ?_
            refine ac_bipush (q := 98) dX7_judge_96 rfl (by decide) ?_
            refine ac_irem (q := 99) dX7_judge_98 rfl ⟨by omega, by omega⟩ ⟨by omega, by omega⟩ (by omega) (by omega) ?_
            refine ac_top (w' := (0, ((w % 10 : Nat) : Int))) (congrArg (fun z => ((0 : Nat), z)) (by rw [Int.ofNat_tmod]; rfl)) ?_
            refine ac_cv (q := 102) (k_X7_does (T' := T') (q := w) (d := d - 1) (by omega) hM9 A tPm hkm (by omega)) ml_X7_249 (by assumption) dX7_judge_99 rfl rfl rfl (by omega) (Nat.le_of_ble_eq_true rfl) (Nat.zero_le _) (Nat.zero_le _) (fun m2 h2 => ?_)
            obtain ⟨A2, tP2, f2⟩ := h2
            have F2 : ac_fM mm m2 x := ac_fM_t fm f2
            refine ac_bif_ne (q := 105) (tgt := 108) dX7_judge_102 rfl rfl (fun h102 => ?_) (fun h102 => ?_)
            · rw [if_pos h102] at he
              refine ac_iinc (q := 111) dX7_judge_108 rfl (Nat.le_of_ble_eq_true rfl) rfl rfl rfl rfl ?_
              simp only [List.set_cons_succ, List.set_cons_zero]
              refine ac_goto (q := 44) dX7_judge_111 rfl ?_
              exact ac_ls (by rw [ei]) (ih (i + 1) _ m2 (0, (w : Int)) (show (0 : Nat) ≠ 1 by decide) (by omega) A2 tP2 (by rw [ac_std_k]; exact hkm) F2 he)
            · rw [if_neg h102] at he
              refine ac_iload (q := 107) dX7_judge_105 rfl rfl ?_
              refine ac_ireturn dX7_judge_107 rfl (Nat.zero_le _) (Nat.zero_le _) ?_
              rw [hans, he]; exact ⟨rfl, rfl, A2, F2⟩
      exact loop n 0 T m1 (3, 0) (show (3 : Nat) ≠ 1 by decide) (by omega) A1 tP1 rfl F1 rfl
    · refine ac_bipush (q := 36) dX7_judge_34 rfl (by decide) ?_
      refine ac_ireturn dX7_judge_36 rfl (Nat.zero_le _) (Nat.zero_le _) ?_
      have hno : ¬ ((1 ≤ (n : Int) ∧ (n : Int) ≤ 4) ∧ 0 ≤ v ∧ v.toNat / 10000 ^ (n : Int).toNat = 0) := fun z => by
        obtain ⟨-, z2, z3⟩ := z
        rw [Int.toNat_natCast, hpn] at z3
        rcases (Nat.div_eq_zero_iff.mp z3) with z4 | z4
        · omega
        · omega
      have hans : ac_an_judge T (n : Int) v = -2 := if_pos hno
      rw [hans]; exact ⟨rfl, rfl, A0, F0⟩
