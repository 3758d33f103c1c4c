theorem ac_nil {x : Nat} (h : x < 9223372036854775808) : ac_il (x : Int) := ⟨by omega, by omega⟩

set_option maxHeartbeats 8000000 in
theorem k_X6_draw {G : ac_G} {Y : ac_Y} {mm : ac_M} {d x : Nat} {s : List Nat} {T : ac_Tk} {hs : List ac_Tk} {s0 s1 : Option ac_Tk} {obs : List ac_Ob} {ch : Int} {l : List Nat} (hd : 20 ≤ d) (hA : ac_isA Y x) (hR : ac_RA mm x s T hs s0 s1 obs ch) (hW0 : ac_W0 mm (x + 86) T.1 T.2.1 T.2.2.1 T.2.2.2.1 T.2.2.2.2 obs) (hcl : ac_cl mm (x + 100) l) (hln : l.length + 1 ≤ T.1) : ac_C G yX6_draw cX6_draw 5 (some .boolean) d 0 0 Y mm [(2, (x : Int)), (0, ((l.length + 1 : Nat) : Int))] (ac_R Y [(0, ac_b ((ac_drw ((ac_may T.2.1 T.2.2.1 T.2.2.2.1) l) T.2.1 (ac_lv (ac_lcg ch)) T.2.1 0).isSome = true))] (fun m => ac_RA m x s T hs s0 s1 obs (ac_lcg ch) ∧ ac_W0 m (x + 86) T.1 T.2.1 T.2.2.1 T.2.2.2.1 T.2.2.2.2 obs ∧ ac_cl m (x + 100) ((ac_drw ((ac_may T.2.1 T.2.2.1 T.2.2.2.1) l) T.2.1 (ac_lv (ac_lcg ch)) T.2.1 0).elim l (fun c => l ++ [c])) ∧ ac_fA mm m x)) := by
  have hA9 := hA
  obtain ⟨⟨kx, -⟩, hX, ⟨hT0, hT1, hT2, hT3⟩, ⟨ka, -, -, hS0, hS1⟩, hH, hW⟩ := hA
  have ktx := hX.1
  have kn0 := hT0.1
  have kn1 := hT1.1
  have kn2 := hT2.1
  have kn3 := hT3.1
  have kh := hH.1
  obtain ⟨⟨kw, -⟩, ⟨k14, k15, k16, k17⟩, hWS, hWC, hWT⟩ := id hW
  have kws := hWS.1
  have kwc := hWC.1
  have hR9 := hR
  obtain ⟨⟨p, rX⟩, rT, ⟨rs0, rs1⟩, rH, rS, ⟨E0, rC⟩, rc⟩ := hR
  obtain ⟨⟨⟨hn1, hn2⟩, ⟨hkk1, hkk2⟩, ⟨hE4, hE2⟩, hp0, hpr, hc0⟩, t3, t4, t5, t6, tE, tp, tcb, tc⟩ := id rT
  have hLn := ac_Lt_len T hn2
  refine ac_met (on := (RX6, "draw")) rfl rfl (Nat.le_of_ble_eq_true rfl) (ls := [(2, (x : Int)), (0, ((l.length + 1 : Nat) : Int)), (3, 0), (3, 0), (3, 0)]) rfl ?_
  refine ac_aload_n (q := 1) dX6_draw_0 rfl rfl ?_
  refine ac_aload_n (q := 2) dX6_draw_1 rfl rfl ?_
  refine ac_get (q := 5) dX6_draw_2 fl_X6_266 kx rfl (w := (1, ch)) (by show (1, mm x 8) = _; rw [rc]) ?_
  refine ac_ldc2_w (q := 8) (v := 6364136223846793005) dX6_draw_5 rfl ct_X6_292 ?_
  refine ac_lmul (q := 9) dX6_draw_8 rfl ?_
  refine ac_ldc2_w (q := 12) (v := 1442695040888963407) dX6_draw_9 rfl ct_X6_294 ?_
  refine ac_ladd (q := 13) dX6_draw_12 rfl ?_
  refine ac_tv (w' := (1, ac_lcg ch)) (ac_nrm_v _) ?_
  refine ac_putL (q := 16) dX6_draw_13 fl_X6_266 (by assumption) rfl rfl ?_
  have A1 : ac_RA (ac_up mm x 8 (ac_lcg ch)) x s T hs s0 s1 obs (ac_lcg ch) := ac_RA_c hR9 ac_up_s (fun k' a => by funext j; exact ac_up_k a)
  have F1 : ac_fA mm (ac_up mm x 8 (ac_lcg ch)) x := fun k' a => by funext j; exact ac_up_k (by omega)
  have W1 : ac_W0 (ac_up mm x 8 (ac_lcg ch)) (x + 86) T.1 T.2.1 T.2.2.1 T.2.2.2.1 T.2.2.2.2 obs := ac_W0_keep hW0 (fun k' a1 a2 => by funext j; exact ac_up_k (by omega))
  have cl1 : ac_cl (ac_up mm x 8 (ac_lcg ch)) (x + 100) l := ac_cl_keep hcl (by funext j; exact ac_up_k (by omega))
  generalize ac_up mm x 8 (ac_lcg ch) = m1 at *
  have e4 : m1 (x + 3) 4 = (T.2.1 : Int) := A1.2.1.2.2.1
  refine ac_aload_n (q := 17) dX6_draw_16 rfl rfl ?_
  refine ac_get (q := 20) dX6_draw_17 fl_X6_266 kx rfl (w := (1, ac_lcg ch)) (by show (1, m1 x 8) = _; rw [A1.2.2.2.2.2.2]) ?_
  refine ac_bipush (q := 22) dX6_draw_20 rfl (by decide) ?_
  refine ac_lushr33 (q := 23) dX6_draw_22 rfl ?_
  refine ac_l2i (q := 24) dX6_draw_23 rfl ?_
  refine ac_top (w' := (0, ((ac_lv (ac_lcg ch) : Nat) : Int))) (congrArg (fun z : Int => ((0 : Nat), z)) (by unfold ac_lv; omega)) ?_
  refine ac_istore_n (q := 25) (j := 2) rfl dX6_draw_24 rfl (Nat.le_of_ble_eq_true rfl) rfl rfl ?_
  simp only [List.set_cons_succ, List.set_cons_zero]
  refine ac_aload_n (q := 26) dX6_draw_25 rfl rfl ?_
  refine ac_get (q := 29) dX6_draw_26 fl_X6_19 (by assumption) rfl (ac_rdr rfl hA9.1.2.2.1) ?_
  refine ac_get (q := 32) dX6_draw_29 fl_X6_202 kn0 rfl (ac_rdi rfl e4) ?_
  refine ac_istore_n (q := 33) (j := 3) rfl dX6_draw_32 rfl (Nat.le_of_ble_eq_true rfl) rfl rfl ?_
  simp only [List.set_cons_succ, List.set_cons_zero]
  refine ac_iconst (q := 34) dX6_draw_33 rfl ?_
  refine ac_istore (q := 36) dX6_draw_34 rfl (Nat.le_of_ble_eq_true rfl) rfl rfl ?_
  simp only [List.set_cons_succ, List.set_cons_zero]
  have loop : ∀ (r i : Nat) (m : ac_M), i + r = T.2.1 → ac_RA m x s T hs s0 s1 obs (ac_lcg ch) → ac_W0 m (x + 86) T.1 T.2.1 T.2.2.1 T.2.2.2.1 T.2.2.2.2 obs → ac_cl m (x + 100) l → ac_fA mm m x → (ac_drw ((ac_may T.2.1 T.2.2.1 T.2.2.2.1) l) T.2.1 (ac_lv (ac_lcg ch)) T.2.1 0) = ac_drw ((ac_may T.2.1 T.2.2.1 T.2.2.2.1) l) T.2.1 (ac_lv (ac_lcg ch)) r i → ac_V G (RX6, "draw") cX6_draw 5 (some .boolean) d 0 0 (ac_R Y [(0, ac_b ((ac_drw ((ac_may T.2.1 T.2.2.1 T.2.2.2.1) l) T.2.1 (ac_lv (ac_lcg ch)) T.2.1 0).isSome = true))] (fun m => ac_RA m x s T hs s0 s1 obs (ac_lcg ch) ∧ ac_W0 m (x + 86) T.1 T.2.1 T.2.2.1 T.2.2.2.1 T.2.2.2.2 obs ∧ ac_cl m (x + 100) ((ac_drw ((ac_may T.2.1 T.2.2.1 T.2.2.2.1) l) T.2.1 (ac_lv (ac_lcg ch)) T.2.1 0).elim l (fun c => l ++ [c])) ∧ ac_fA mm m x)) 0 0 Y m 36 [(2, (x : Int)), (0, ((l.length + 1 : Nat) : Int)), (0, ((ac_lv (ac_lcg ch) : Nat) : Int)), (0, (T.2.1 : Int)), (0, (i : Int))] [] := by
    intro r
    induction r with
    | zero =>
      intro i m hi A hWm hclm fm he
      obtain rfl : i = T.2.1 := by omega
      rw [he]
      refine ac_iload (q := 38) dX6_draw_36 rfl rfl ?_
      refine ac_iload_n (q := 39) dX6_draw_38 rfl rfl ?_
      refine ac_icmp_ge (q := 42) (tgt := 69) dX6_draw_39 rfl rfl ⟨by omega, by omega⟩ ⟨by omega, by omega⟩ (fun h39 => ?_) (fun h39 => ?_)
      · refine ac_iconst (q := 70) dX6_draw_69 rfl ?_
        refine ac_zreturn dX6_draw_70 rfl (by first | exact ac_b01 | omega) (Nat.zero_le _) (Nat.zero_le _) ?_
        exact ⟨ac_l0 (by simp [ac_drw]), rfl, A, hWm, hclm, fm⟩
      · exfalso; omega
    | succ r ih =>
      intro i m hi A hWm hclm fm he
      have ei : ((i : Nat) : Int) + 1 = ((i + 1 : Nat) : Int) := rfl
      have hvl := ac_lv_lt (ac_lcg ch)
      have hml := Nat.mod_lt (ac_lv (ac_lcg ch)) (show T.2.1 > 0 by omega)
      have hml2 := Nat.mod_lt (ac_lv (ac_lcg ch) % T.2.1 + i) (show T.2.1 > 0 by omega)
      rw [ac_drw] at he
      refine ac_iload (q := 38) dX6_draw_36 rfl rfl ?_
      refine ac_iload_n (q := 39) dX6_draw_38 rfl rfl ?_
      refine ac_icmp_ge (q := 42) (tgt := 69) dX6_draw_39 rfl rfl ⟨by omega, by omega⟩ ⟨by omega, by omega⟩ (fun h39 => ?_) (fun h39 => ?_)
      · exfalso; omega
      · refine ac_aload_n (q := 43) dX6_draw_42 rfl rfl ?_
        refine ac_get (q := 46) dX6_draw_43 fl_X6_46 (by assumption) rfl (ac_rdr rfl hA9.1.2.2.2.2.2.2.2.2) ?_
        refine ac_iload_n (q := 47) dX6_draw_46 rfl rfl ?_
        refine ac_iload_n (q := 48) dX6_draw_47 rfl rfl ?_
        refine ac_iload_n (q := 49) dX6_draw_48 rfl rfl ?_
        refine ac_irem (q := 50) dX6_draw_49 rfl ⟨by omega, by omega⟩ ⟨by omega, by omega⟩ (by omega) (by omega) ?_
        refine ac_top (w' := (0, ((ac_lv (ac_lcg ch) % T.2.1 : Nat) : Int))) (congrArg (fun z => ((0 : Nat), z)) (by rw [Int.ofNat_tmod])) ?_
        refine ac_iload (q := 52) dX6_draw_50 rfl rfl ?_
        refine ac_iadd (q := 53) dX6_draw_52 rfl ?_
        refine ac_top (w' := (0, ((ac_lv (ac_lcg ch) % T.2.1 + i : Nat) : Int))) rfl ?_
        refine ac_iload_n (q := 54) dX6_draw_53 rfl rfl ?_
        refine ac_irem (q := 55) dX6_draw_54 rfl ⟨by omega, by omega⟩ ⟨by omega, by omega⟩ (by omega) (by omega) ?_
        refine ac_top (w' := (0, ((((ac_lv (ac_lcg ch) % T.2.1 + i) % T.2.1) : Nat) : Int))) (congrArg (fun z => ((0 : Nat), z)) (by rw [Int.ofNat_tmod])) ?_
        refine ac_cv (q := 58) (k_X5_put (w := x + 86) (x := l.length + 1) (c := ((ac_lv (ac_lcg ch) % T.2.1 + i) % T.2.1)) (l := l) (d := d - 1) (by omega) hW hWm hclm rfl hln (by omega)) ml_X6_296 (by assumption) dX6_draw_55 rfl rfl rfl (by omega) (Nat.le_of_ble_eq_true rfl) (Nat.zero_le _) (Nat.zero_le _) (fun m2 h2 => ?_)
        obtain ⟨cl2, f2⟩ := h2
        have W2 : ac_W0 m2 (x + 86) T.1 T.2.1 T.2.2.1 T.2.2.2.1 T.2.2.2.2 obs := ac_W0_keep hWm (fun k' a1 a2 => f2 k' (by omega))
        have A2 := ac_RA_w A W2.2.2 ⟨_, W2.2.1⟩ (fun k' a => f2 k' (by omega))
        have F2 : ac_fA mm m2 x := fun k' a => (f2 k' (by omega)).trans (fm k' a)
        refine ac_bif_eq (q := 61) (tgt := 63) dX6_draw_58 rfl rfl (fun h58 => ?_) (fun h58 => ?_)
        · rw [if_neg h58] at cl2 he
          refine ac_iinc (q := 66) dX6_draw_63 rfl (Nat.le_of_ble_eq_true rfl) rfl rfl rfl rfl ?_
          simp only [List.set_cons_succ, List.set_cons_zero]
          refine ac_goto (q := 36) dX6_draw_66 rfl ?_
          exact ac_ls (by rw [ei]) (ih (i + 1) m2 (by omega) A2 W2 cl2 F2 he)
        · rw [if_pos h58] at cl2 he
          refine ac_iconst (q := 62) dX6_draw_61 rfl ?_
          refine ac_zreturn dX6_draw_62 rfl (by first | exact ac_b01 | omega) (Nat.zero_le _) (Nat.zero_le _) ?_
          rw [he]; exact ⟨ac_l1 rfl, rfl, A2, W2, cl2, F2⟩
  exact loop T.2.1 0 m1 (by omega) A1 W1 cl1 F1 rfl

set_option maxHeartbeats 8000000 in
theorem k_X6_drawAll {G : ac_G} {Y : ac_Y} {mm : ac_M} {d x : Nat} {s : List Nat} {T : ac_Tk} {hs : List ac_Tk} {s0 s1 : Option ac_Tk} {obs : List ac_Ob} {ch : Int} (hd : 22 ≤ d) (hA : ac_isA Y x) (hR : ac_RA mm x s T hs s0 s1 obs ch)  : ac_C G yX6_drawAll cX6_drawAll 2 (some .int) d 0 0 Y mm [(2, (x : Int))] (ac_R Y [(0, (((ac_dra (ac_may T.2.1 T.2.2.1 T.2.2.2.1) T.2.1 T.1 [] ch).1 : Nat) : Int))] (fun m => ac_RA m x s T hs s0 s1 obs (ac_dra (ac_may T.2.1 T.2.2.1 T.2.2.2.1) T.2.1 T.1 [] ch).2 ∧ ac_fA mm m x)) := by
  have hA9 := hA
  obtain ⟨⟨kx, -⟩, hX, ⟨hT0, hT1, hT2, hT3⟩, ⟨ka, -, -, hS0, hS1⟩, hH, hW⟩ := hA
  have ktx := hX.1
  have kn0 := hT0.1
  have kn1 := hT1.1
  have kn2 := hT2.1
  have kn3 := hT3.1
  have kh := hH.1
  obtain ⟨⟨kw, -⟩, ⟨k14, k15, k16, k17⟩, hWS, hWC, hWT⟩ := id hW
  have kws := hWS.1
  have kwc := hWC.1
  have hR9 := hR
  obtain ⟨⟨p, rX⟩, rT, ⟨rs0, rs1⟩, rH, rS, ⟨E0, rC⟩, rc⟩ := hR
  obtain ⟨⟨⟨hn1, hn2⟩, ⟨hkk1, hkk2⟩, ⟨hE4, hE2⟩, hp0, hpr, hc0⟩, t3, t4, t5, t6, tE, tp, tcb, tc⟩ := id rT
  have hLn := ac_Lt_len T hn2
  refine ac_met (on := (RX6, "drawAll")) rfl rfl (Nat.le_of_ble_eq_true rfl) (ls := [(2, (x : Int)), (3, 0)]) rfl ?_
  refine ac_aload_n (q := 1) dX6_drawAll_0 rfl rfl ?_
  refine ac_get (q := 4) dX6_drawAll_1 fl_X6_46 (by assumption) rfl (ac_rdr rfl hA9.1.2.2.2.2.2.2.2.2) ?_
  refine ac_aload_n (q := 5) dX6_drawAll_4 rfl rfl ?_
  refine ac_get (q := 8) dX6_drawAll_5 fl_X6_19 (by assumption) rfl (ac_rdr rfl hA9.1.2.2.1) ?_
  refine ac_cv (q := 11) (k_X5_begin (w := x + 86) (t := x + 3) (d := d - 1) (by omega) hW rC rS hT0 rT (by omega)) ml_X6_199 (by assumption) dX6_drawAll_8 rfl rfl rfl (by omega) (Nat.le_of_ble_eq_true rfl) (Nat.zero_le _) (Nat.zero_le _) (fun m1 h1 => ?_)
  obtain ⟨w1, cl1, f1⟩ := h1
  have A1 := ac_RA_w hR9 w1.2.2 ⟨_, w1.2.1⟩ (fun k' a => f1 k' (by omega))
  refine ac_iconst (q := 12) dX6_drawAll_11 rfl ?_
  refine ac_istore_n (q := 13) (j := 1) rfl dX6_drawAll_12 rfl (Nat.le_of_ble_eq_true rfl) rfl rfl ?_
  simp only [List.set_cons_succ, List.set_cons_zero]
  have loop : ∀ (r : Nat) (l : List Nat) (c : Int) (m : ac_M), l.length + r = T.1 → ac_RA m x s T hs s0 s1 obs c → ac_W0 m (x + 86) T.1 T.2.1 T.2.2.1 T.2.2.2.1 T.2.2.2.2 obs → ac_cl m (x + 100) l → ac_fA mm m x → (ac_dra (ac_may T.2.1 T.2.2.1 T.2.2.2.1) T.2.1 T.1 [] ch) = ac_dra (ac_may T.2.1 T.2.2.1 T.2.2.2.1) T.2.1 r l c → ac_V G (RX6, "drawAll") cX6_drawAll 2 (some .int) d 0 0 (ac_R Y [(0, (((ac_dra (ac_may T.2.1 T.2.2.1 T.2.2.2.1) T.2.1 T.1 [] ch).1 : Nat) : Int))] (fun m => ac_RA m x s T hs s0 s1 obs (ac_dra (ac_may T.2.1 T.2.2.1 T.2.2.2.1) T.2.1 T.1 [] ch).2 ∧ ac_fA mm m x)) 0 0 Y m 13 [(2, (x : Int)), (0, ((l.length + 1 : Nat) : Int))] [] := by
    intro r
    induction r with
    | zero =>
      intro l c m hl A hWm hclm fm he
      have e3 : m (x + 3) 3 = (T.1 : Int) := A.2.1.2.1
      rw [he, ac_dra]
      refine ac_iload_n (q := 14) dX6_drawAll_13 rfl rfl ?_
      refine ac_aload_n (q := 15) dX6_drawAll_14 rfl rfl ?_
      refine ac_get (q := 18) dX6_drawAll_15 fl_X6_19 (by assumption) rfl (ac_rdr rfl hA9.1.2.2.1) ?_
      refine ac_get (q := 21) dX6_drawAll_18 fl_X6_141 kn0 rfl (ac_rdi rfl e3) ?_
      refine ac_icmp_gt (q := 24) (tgt := 42) dX6_drawAll_21 rfl rfl ⟨by omega, by omega⟩ ⟨by omega, by omega⟩ (fun h21 => ?_) (fun h21 => ?_)
      · refine ac_aload_n (q := 43) dX6_drawAll_42 rfl rfl ?_
        refine ac_get (q := 46) dX6_drawAll_43 fl_X6_19 (by assumption) rfl (ac_rdr rfl hA9.1.2.2.1) ?_
        refine ac_get (q := 49) dX6_drawAll_46 fl_X6_141 kn0 rfl (ac_rdi rfl e3) ?_
        refine ac_ireturn dX6_drawAll_49 rfl (Nat.zero_le _) (Nat.zero_le _) ?_
        exact ⟨by rw [show l.length = T.1 by omega], rfl, A, fm⟩
      · exfalso; omega
    | succ r ih =>
      intro l c m hl A hWm hclm fm he
      have e3 : m (x + 3) 3 = (T.1 : Int) := A.2.1.2.1
      rw [ac_dra] at he
      refine ac_iload_n (q := 14) dX6_drawAll_13 rfl rfl ?_
      refine ac_aload_n (q := 15) dX6_drawAll_14 rfl rfl ?_
      refine ac_get (q := 18) dX6_drawAll_15 fl_X6_19 (by assumption) rfl (ac_rdr rfl hA9.1.2.2.1) ?_
      refine ac_get (q := 21) dX6_drawAll_18 fl_X6_141 kn0 rfl (ac_rdi rfl e3) ?_
      refine ac_icmp_gt (q := 24) (tgt := 42) dX6_drawAll_21 rfl rfl ⟨by omega, by omega⟩ ⟨by omega, by omega⟩ (fun h21 => ?_) (fun h21 => ?_)
      · exfalso; omega
      · refine ac_aload_n (q := 25) dX6_drawAll_24 rfl rfl ?_
        refine ac_iload_n (q := 26) dX6_drawAll_25 rfl rfl ?_
        refine ac_cv (q := 29) (k_X6_draw (l := l) (d := d - 1) (by omega) hA9 A hWm hclm (by omega)) ml_X6_289 (by assumption) dX6_drawAll_26 rfl rfl rfl (by omega) (Nat.le_of_ble_eq_true rfl) (Nat.zero_le _) (Nat.zero_le _) (fun m2 h2 => ?_)
        obtain ⟨A2, W2, cl2, f2⟩ := h2
        have F2 : ac_fA mm m2 x := ac_fA_t fm f2
        generalize ac_drw ((ac_may T.2.1 T.2.2.1 T.2.2.2.1) l) T.2.1 (ac_lv (ac_lcg c)) T.2.1 0 = o at *
        refine ac_bif_ne (q := 32) (tgt := 36) dX6_drawAll_29 rfl rfl (fun h29 => ?_) (fun h29 => ?_)
        · refine ac_iinc (q := 39) dX6_drawAll_36 rfl (Nat.le_of_ble_eq_true rfl) rfl rfl rfl rfl ?_
          simp only [List.set_cons_succ, List.set_cons_zero]
          refine ac_goto (q := 13) dX6_drawAll_39 rfl ?_
          cases o with
          | none => exact absurd h29 (by simp)
          | some z =>
            simp only at he
            have hlz : (l ++ [z]).length = l.length + 1 := by rw [List.length_append]; rfl
            exact ac_ls (by rw [hlz]; rfl) (ih (l ++ [z]) (ac_lcg c) m2 (by omega) A2 W2 cl2 F2 he)
        · refine ac_iload_n (q := 33) dX6_drawAll_32 rfl rfl ?_
          refine ac_iconst (q := 34) dX6_drawAll_33 rfl ?_
          refine ac_isub (q := 35) dX6_drawAll_34 rfl ?_
          refine ac_ireturn dX6_drawAll_35 rfl (Nat.zero_le _) (Nat.zero_le _) ?_
          cases o with
          | some z => exact absurd rfl h29
          | none =>
            simp only at he
            rw [he]
            exact ⟨congrArg (fun z : Int => [((0 : Nat), z)]) (by show ((l.length + 1 : Nat) : Int) - 1 = (l.length : Int); omega), rfl, A2, F2⟩
  exact loop T.1 [] ch m1 (by simp) A1 w1 cl1 (fun k' a => f1 k' (by omega)) rfl

set_option maxHeartbeats 8000000 in
theorem k_X6_drawn {G : ac_G} {Y : ac_Y} {mm : ac_M} {d x : Nat} {s : List Nat} {T : ac_Tk} {hs : List ac_Tk} {s0 s1 : Option ac_Tk} {obs : List ac_Ob} {ch : Int} {v : Int} (hd : 30 ≤ d) (hA : ac_isA Y x) (hR : ac_RA mm x s T hs s0 s1 obs ch) (hv : ac_in v) : ac_C G yX6_drawn cX6_drawn 4 (some .int) d 0 0 Y mm [(2, (x : Int)), (0, v)] (ac_R Y [(0, (if 1 ≤ v ∧ v ≤ 9 then (((ac_dn T v.toNat ch).1 : Nat) : Int) else -2))] (fun m => ac_RA m x s T hs s0 s1 obs (if 1 ≤ v ∧ v ≤ 9 then (ac_dn T v.toNat ch).2 else ch) ∧ ac_fA mm m x)) := by
  have hA9 := hA
  obtain ⟨⟨kx, -⟩, hX, ⟨hT0, hT1, hT2, hT3⟩, ⟨ka, -, -, hS0, hS1⟩, hH, hW⟩ := hA
  have ktx := hX.1
  have kn0 := hT0.1
  have kn1 := hT1.1
  have kn2 := hT2.1
  have kn3 := hT3.1
  have kh := hH.1
  obtain ⟨⟨kw, -⟩, ⟨k14, k15, k16, k17⟩, hWS, hWC, hWT⟩ := id hW
  have kws := hWS.1
  have kwc := hWC.1
  have hR9 := hR
  obtain ⟨⟨p, rX⟩, rT, ⟨rs0, rs1⟩, rH, rS, ⟨E0, rC⟩, rc⟩ := hR
  obtain ⟨⟨⟨hn1, hn2⟩, ⟨hkk1, hkk2⟩, ⟨hE4, hE2⟩, hp0, hpr, hc0⟩, t3, t4, t5, t6, tE, tp, tcb, tc⟩ := id rT
  have hLn := ac_Lt_len T hn2
  obtain ⟨hv1, hv2⟩ := hv
  refine ac_met (on := (RX6, "drawn")) rfl rfl (Nat.le_of_ble_eq_true rfl) (ls := [(2, (x : Int)), (0, v), (3, 0), (3, 0)]) rfl ?_
  refine ac_iload_n (q := 1) dX6_drawn_0 rfl rfl ?_
  refine ac_iconst (q := 2) dX6_drawn_1 rfl ?_
  refine ac_icmp_lt (q := 5) (tgt := 11) dX6_drawn_2 rfl rfl ⟨by omega, by omega⟩ ⟨by omega, by omega⟩ (fun h2 => ?_) (fun h2 => ?_)
  · refine ac_bipush (q := 13) dX6_drawn_11 rfl (by decide) ?_
    refine ac_ireturn dX6_drawn_13 rfl (Nat.zero_le _) (Nat.zero_le _) ?_
    have hno : ¬ (1 ≤ v ∧ v ≤ 9) := by omega
    rw [if_neg hno, if_neg hno]; exact ⟨rfl, rfl, hR9, ac_fA_r mm x⟩
  · refine ac_iload_n (q := 6) dX6_drawn_5 rfl rfl ?_
    refine ac_bipush (q := 8) dX6_drawn_6 rfl (by decide) ?_
    refine ac_icmp_le (q := 11) (tgt := 14) dX6_drawn_8 rfl rfl ⟨by omega, by omega⟩ ⟨by omega, by omega⟩ (fun h8 => ?_) (fun h8 => ?_)
    · have hyes : 1 ≤ v ∧ v ≤ 9 := by omega
      obtain ⟨v, rfl⟩ := Int.eq_ofNat_of_zero_le (a := v) (by omega)
      refine ac_iconst (q := 15) dX6_drawn_14 rfl ?_
      refine ac_istore_n (q := 16) (j := 2) rfl dX6_drawn_15 rfl (Nat.le_of_ble_eq_true rfl) rfl rfl ?_
      simp only [List.set_cons_succ, List.set_cons_zero]
      refine ac_iconst (q := 17) dX6_drawn_16 rfl ?_
      refine ac_istore_n (q := 18) (j := 3) rfl dX6_drawn_17 rfl (Nat.le_of_ble_eq_true rfl) rfl rfl ?_
      simp only [List.set_cons_succ, List.set_cons_zero]
      have loop : ∀ (r i : Nat) (m : ac_M), i + r = v → ac_RA m x s T hs s0 s1 obs (ac_dn T i ch).2 → ac_fA mm m x → ac_V G (RX6, "drawn") cX6_drawn 4 (some .int) d 0 0 (ac_R Y [(0, (if 1 ≤ (v : Int) ∧ (v : Int) ≤ 9 then (((ac_dn T (v : Int).toNat ch).1 : Nat) : Int) else -2))] (fun m => ac_RA m x s T hs s0 s1 obs (if 1 ≤ (v : Int) ∧ (v : Int) ≤ 9 then (ac_dn T (v : Int).toNat ch).2 else ch) ∧ ac_fA mm m x)) 0 0 Y m 18 [(2, (x : Int)), (0, (v : Int)), (0, (((ac_dn T i ch).1 : Nat) : Int)), (0, (i : Int))] [] := by
        intro r
        induction r with
        | zero =>
          intro i m hi A fm
          obtain rfl : i = v := by omega
          refine ac_iload_n (q := 19) dX6_drawn_18 rfl rfl ?_
          refine ac_iload_n (q := 20) dX6_drawn_19 rfl rfl ?_
          refine ac_icmp_ge (q := 23) (tgt := 36) dX6_drawn_20 rfl rfl ⟨by omega, by omega⟩ ⟨by omega, by omega⟩ (fun h20 => ?_) (fun h20 => ?_)
          · refine ac_iload_n (q := 37) dX6_drawn_36 rfl rfl ?_
            refine ac_ireturn dX6_drawn_37 rfl (Nat.zero_le _) (Nat.zero_le _) ?_
            simp only [Int.toNat_natCast]
            rw [if_pos hyes, if_pos hyes]; exact ⟨rfl, rfl, A, fm⟩
          · exfalso; omega
        | succ r ih =>
          intro i m hi A fm
          have ei : ((i : Nat) : Int) + 1 = ((i + 1 : Nat) : Int) := rfl
          refine ac_iload_n (q := 19) dX6_drawn_18 rfl rfl ?_
          refine ac_iload_n (q := 20) dX6_drawn_19 rfl rfl ?_
          refine ac_icmp_ge (q := 23) (tgt := 36) dX6_drawn_20 rfl rfl ⟨by omega, by omega⟩ ⟨by omega, by omega⟩ (fun h20 => ?_) (fun h20 => ?_)
          · exfalso; omega
          · refine ac_iload_n (q := 24) dX6_drawn_23 rfl rfl ?_
            refine ac_aload_n (q := 25) dX6_drawn_24 rfl rfl ?_
            refine ac_cv (q := 28) (k_X6_drawAll (d := d - 1) (by omega) hA9 A) ml_X6_270 (by assumption) dX6_drawn_25 rfl rfl rfl (by omega) (Nat.le_of_ble_eq_true rfl) (Nat.zero_le _) (Nat.zero_le _) (fun m2 h2 => ?_)
            obtain ⟨A2, f2⟩ := h2
            have hs := ih (i + 1) m2 (by omega) A2 (ac_fA_t fm f2)
            refine ac_iadd (q := 29) dX6_drawn_28 rfl ?_
            refine ac_istore_n (q := 30) (j := 2) rfl dX6_drawn_29 rfl (Nat.le_of_ble_eq_true rfl) rfl rfl ?_
            simp only [List.set_cons_succ, List.set_cons_zero]
            refine ac_iinc (q := 33) dX6_drawn_30 rfl (Nat.le_of_ble_eq_true rfl) rfl rfl rfl rfl ?_
            simp only [List.set_cons_succ, List.set_cons_zero]
            refine ac_goto (q := 18) dX6_drawn_33 rfl ?_
            exact ac_ls (by rw [ei]; rfl) hs
      exact loop v 0 mm (by omega) hR9 (ac_fA_r mm x)
    · refine ac_bipush (q := 13) dX6_drawn_11 rfl (by decide) ?_
      refine ac_ireturn dX6_drawn_13 rfl (Nat.zero_le _) (Nat.zero_le _) ?_
      have hno : ¬ (1 ≤ v ∧ v ≤ 9) := by omega
      rw [if_neg hno, if_neg hno]; exact ⟨rfl, rfl, hR9, ac_fA_r mm x⟩

set_option maxHeartbeats 8000000 in
theorem k_X6_cutDoings {G : ac_G} {Y : ac_Y} {mm : ac_M} {d q c : Nat} (hd : 1 ≤ d) (hq : q < 9223372036854775808) (hc : c ≤ 10) : ac_C G yX6_cutDoings cX6_cutDoings 6 (some .long) d 0 0 Y mm [(1, (q : Int)), (0, (c : Int))] (ac_R Y [(1, ((q / 10000 ^ c : Nat) : Int))] (fun m => m = mm)) := by
  have loop : ∀ (r i : Nat), i + r = c → ac_V G (RX6, "cutDoings") cX6_cutDoings 6 (some .long) d 0 0 (ac_R Y [(1, ((q / 10000 ^ c : Nat) : Int))] (fun m => m = mm)) 0 0 Y mm 5 [(1, (q : Int)), (3, 0), (0, (c : Int)), (1, ((q / 10000 ^ i : Nat) : Int)), (3, 0), (0, (i : Int))] [] := by
    intro r
    induction r with
    | zero =>
      intro i hi
      obtain rfl : i = c := by omega
      refine ac_iload (q := 7) dX6_cutDoings_5 rfl rfl ?_
      refine ac_iload_n (q := 8) dX6_cutDoings_7 rfl rfl ?_
      refine ac_icmp_ge (q := 11) (tgt := 23) dX6_cutDoings_8 rfl rfl ⟨by omega, by omega⟩ ⟨by omega, by omega⟩ (fun h8 => ?_) (fun h8 => ?_)
      · refine ac_lload_n (q := 24) dX6_cutDoings_23 rfl rfl ?_
        refine ac_lreturn dX6_cutDoings_24 rfl (Nat.zero_le _) (Nat.zero_le _) ?_
        exact ⟨rfl, rfl, rfl⟩
      · exfalso; omega
    | succ r ih =>
      intro i hi
      have ei : ((i : Nat) : Int) + 1 = ((i + 1 : Nat) : Int) := rfl
      have hle : q / 10000 ^ i ≤ q := Nat.div_le_self _ _
      have hs := ih (i + 1) (by omega)
      refine ac_iload (q := 7) dX6_cutDoings_5 rfl rfl ?_
      refine ac_iload_n (q := 8) dX6_cutDoings_7 rfl rfl ?_
      refine ac_icmp_ge (q := 11) (tgt := 23) dX6_cutDoings_8 rfl rfl ⟨by omega, by omega⟩ ⟨by omega, by omega⟩ (fun h8 => ?_) (fun h8 => ?_)
      · exfalso; omega
      · refine ac_lload_n (q := 12) dX6_cutDoings_11 rfl rfl ?_
        refine ac_ldc2_w (q := 15) (v := 10000) dX6_cutDoings_12 rfl ct_X6_221 ?_
        refine ac_ldiv (q := 16) dX6_cutDoings_15 rfl (ac_nil (Nat.lt_of_le_of_lt hle hq)) ⟨by omega, by omega⟩ (by omega) ?_
        refine ac_top (w' := (1, ((q / 10000 ^ (i + 1) : Nat) : Int))) (congrArg (fun z => ((1 : Nat), z)) (by rw [Nat.pow_succ, ← Nat.div_div_eq_div_mul, Int.ofNat_tdiv]; rfl)) ?_
        refine ac_lstore_n (q := 17) (j := 3) rfl dX6_cutDoings_16 rfl (Nat.le_of_ble_eq_true rfl) rfl rfl ?_
        simp only [List.set_cons_succ, List.set_cons_zero]
        refine ac_iinc (q := 20) dX6_cutDoings_17 rfl (Nat.le_of_ble_eq_true rfl) rfl rfl rfl rfl ?_
        simp only [List.set_cons_succ, List.set_cons_zero]
        refine ac_goto (q := 5) dX6_cutDoings_20 rfl ?_
        exact ac_ls (by rw [ei]) hs
  refine ac_met (on := (RX6, "cutDoings")) rfl rfl (Nat.le_of_ble_eq_true rfl) (ls := [(1, (q : Int)), (3, 0), (0, (c : Int)), (3, 0), (3, 0), (3, 0)]) rfl ?_
  refine ac_lload_n (q := 1) dX6_cutDoings_0 rfl rfl ?_
  refine ac_lstore_n (q := 2) (j := 3) rfl dX6_cutDoings_1 rfl (Nat.le_of_ble_eq_true rfl) rfl rfl ?_
  simp only [List.set_cons_succ, List.set_cons_zero]
  refine ac_iconst (q := 3) dX6_cutDoings_2 rfl ?_
  refine ac_istore (q := 5) dX6_cutDoings_3 rfl (Nat.le_of_ble_eq_true rfl) rfl rfl ?_
  simp only [List.set_cons_succ, List.set_cons_zero]
  exact ac_ls (by rw [Nat.pow_zero, Nat.div_one]; rfl) (loop c 0 (by omega))
