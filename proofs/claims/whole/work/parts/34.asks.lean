def ac_frc (L : List (List Nat)) : Nat → Nat
  | 0 => 0
  | x + 1 => ac_frc L x ||| (if ac_bits (ac_cb L (x + 1)) = 1 then 2 ^ (x + 1) else 0)
def ac_pcx (T : ac_Tk) (x : Nat) : Nat → Nat := ac_sm (fun c => if ac_pt T x c = true then 1 else 0)
def ac_pca (T : ac_Tk) : Nat → Nat := ac_sm (fun i => ac_pcx T (i + 1) T.2.1)
def ac_onA (E : List ac_Eq) (l : List Nat) : Nat → Nat
  | 0 => 0
  | c + 1 => ac_onA E l c ||| (if ac_br E (ac_set (l ++ [c]) c) = 0 then 2 ^ c else 0)
def ac_an_on (T : ac_Tk) : Int := if T.1 < 10 then T.2.2.2.2.elim (-3) (fun l => (ac_onA T.2.2.1 l T.2.1 : Int)) else -3
def ac_knd (T : ac_Tk) : Nat := ac_grp T.2.1 T.2.2.1 T.2.2.2.1 T.1 [] 0 (if T.2.1 = 2 then 5 else 63)
def ac_ded (T : ac_Tk) : Nat := ac_dead (ac_may T.2.1 T.2.2.1 T.2.2.2.1) T.1 []
def ac_limT (T : ac_Tk) : Int := ac_lim (ac_may T.2.1 T.2.2.1 (fun _ => -1))
def ac_an_ask (T : ac_Tk) (w : Int) : Int := if w = 0 then ((ac_Lt T).length : Int) else if w = 1 then ac_rk T.2.2.2.2 (ac_Lt T) else if w = 2 then ac_limT T else if w = 3 then (ac_frc (ac_Lt T) T.1 : Int) else if w = 4 then (ac_pca T T.1 : Int) else if w = 5 then (ac_knd T : Int) else if w = 6 then (ac_ded T : Int) else -2
def ac_an_count (s : List Nat) (T : ac_Tk) (hs : List ac_Tk) (obs : List ac_Ob) (w : Int) : Int := if w = 0 then (s.length : Int) else if w = 1 then (T.1 : Int) else if w = 2 then (T.2.1 : Int) else if w = 3 then (T.2.2.1.length : Int) else if w = 4 then (ac_pins T.2.2.2.1 T.1 : Int) else if w = 5 then (hs.length : Int) else if w = 6 then (obs.length : Int) else -2
def ac_seeok (a b e : Int) : Prop := ((1 ≤ a ∧ a ≤ 10) ∧ (1 ≤ b ∧ b ≤ 10)) ∧ a ≠ b ∧ (0 ≤ e ∧ e ≤ 1)
def ac_seeokd (a b e : Int) : Decidable (ac_seeok a b e) := by unfold ac_seeok; infer_instance

set_option maxHeartbeats 8000000 in
theorem k_X6_keep {G : ac_G} {Y : ac_Y} {mm : ac_M} {d x : Nat} {s : List Nat} {T : ac_Tk} {hs : List ac_Tk} {s0 s1 : Option ac_Tk} {obs : List ac_Ob} {ch : Int} {i : Int} (hd : 30 ≤ d) (hA : ac_isA Y x) (hR : ac_RA mm x s T hs s0 s1 obs ch) (hi : ac_in i) : ac_C G yX6_keep cX6_keep 3 (some .int) d 0 0 Y mm [(2, (x : Int)), (0, i)] (ac_R Y [(0, (if i = 0 ∨ i = 1 then (T.1 : Int) else -1))] (fun m => ac_RA m x s T hs (if i = 0 then some T else s0) (if i = 1 then some T else s1) obs ch ∧ ac_fA mm m x)) := by
  have hA9 := hA
  obtain ⟨⟨kx, -⟩, hX, ⟨hT0, hT1, hT2, hT3⟩, ⟨ka, -, -, hS0, hS1⟩, hH, hW⟩ := hA
  have ktx := hX.1
  have kn0 := hT0.1
  have kn1 := hT1.1
  have kn2 := hT2.1
  have kn3 := hT3.1
  have kh := hH.1
  obtain ⟨⟨kw, -⟩, ⟨k14, k15, k16, k17⟩, hWS, hWC, hWT⟩ := id hW
  have kws := hWS.1
  have kwc := hWC.1
  have hR9 := hR
  obtain ⟨⟨p, rX⟩, rT, ⟨rs0, rs1⟩, rH, rS, ⟨E0, rC⟩, rc⟩ := hR
  obtain ⟨⟨⟨hn1, hn2⟩, ⟨hkk1, hkk2⟩, ⟨hE4, hE2⟩, hp0, hpr, hc0⟩, t3, t4, t5, t6, tE, tp, tcb, tc⟩ := id rT
  have hLn := ac_Lt_len T hn2
  obtain ⟨hi1, hi2⟩ := hi
  have ks0 := hS0.1
  have ks1 := hS1.1
  refine ac_met (on := (RX6, "keep")) rfl rfl (Nat.le_of_ble_eq_true rfl) (ls := [(2, (x : Int)), (0, i), (3, 0)]) rfl ?_
  refine ac_aload_n (q := 1) dX6_keep_0 rfl rfl ?_
  refine ac_iload_n (q := 2) dX6_keep_1 rfl rfl ?_
  refine ac_cvp (q := 5) (k_X6_slotAt (i := i) (d := d - 1) (by omega) hA9 ⟨by omega, by omega⟩) ml_X6_76 (by assumption) dX6_keep_2 rfl rfl rfl (by omega) (Nat.le_of_ble_eq_true rfl) (Nat.zero_le _) (Nat.zero_le _) ?_
  by_cases h0 : i = 0
  · subst h0
    refine ac_top (w' := (2, ((x + 20 : Nat) : Int))) rfl ?_
    refine ac_astore_n (q := 6) (j := 2) rfl dX6_keep_5 rfl (Nat.le_of_ble_eq_true rfl) rfl rfl ?_
    simp only [List.set_cons_succ, List.set_cons_zero]
    refine ac_aload_n (q := 7) dX6_keep_6 rfl rfl ?_
    refine ac_ifnonnull_t (q := 12) dX6_keep_7 rfl (by omega) ?_
    refine ac_aload_n (q := 13) dX6_keep_12 rfl rfl ?_
    refine ac_aload_n (q := 14) dX6_keep_13 rfl rfl ?_
    refine ac_get (q := 17) dX6_keep_14 fl_X6_19 (by assumption) rfl (ac_rdr rfl hA9.1.2.2.1) ?_
    refine ac_cv (q := 20) (k_X3_copy (t := x + 20) (o := x + 3) (d := d - 1) (by omega) hS0 hT0 (by omega) rT) ml_X6_69 (by assumption) dX6_keep_17 rfl rfl rfl (by omega) (Nat.le_of_ble_eq_true rfl) (Nat.zero_le _) (Nat.zero_le _) (fun m1 h1 => ?_)
    obtain ⟨g1, f1⟩ := h1
    have A1 := ac_RA_s (s0' := some T) (s1' := s1) hR9 ⟨fun h => (by cases h), fun T' h => by cases h; exact g1⟩ (ac_sl_keep rs1 (f1 _ (by omega)) (f1 _ (by omega)) (f1 _ (by omega)) (f1 _ (by omega))) (fun k' a => f1 k' (by omega))
    have e3 : m1 (x + 3) 3 = (T.1 : Int) := A1.2.1.2.1
    refine ac_aload_n (q := 21) dX6_keep_20 rfl rfl ?_
    refine ac_get (q := 24) dX6_keep_21 fl_X6_19 (by assumption) rfl (ac_rdr rfl hA9.1.2.2.1) ?_
    refine ac_get (q := 27) dX6_keep_24 fl_X6_141 kn0 rfl (ac_rdi rfl e3) ?_
    refine ac_ireturn dX6_keep_27 rfl (Nat.zero_le _) (Nat.zero_le _) ?_
    exact ⟨rfl, rfl, A1, fun k' a => f1 k' (by omega)⟩
  by_cases h1 : i = 1
  · subst h1
    refine ac_top (w' := (2, ((x + 24 : Nat) : Int))) rfl ?_
    refine ac_astore_n (q := 6) (j := 2) rfl dX6_keep_5 rfl (Nat.le_of_ble_eq_true rfl) rfl rfl ?_
    simp only [List.set_cons_succ, List.set_cons_zero]
    refine ac_aload_n (q := 7) dX6_keep_6 rfl rfl ?_
    refine ac_ifnonnull_t (q := 12) dX6_keep_7 rfl (by omega) ?_
    refine ac_aload_n (q := 13) dX6_keep_12 rfl rfl ?_
    refine ac_aload_n (q := 14) dX6_keep_13 rfl rfl ?_
    refine ac_get (q := 17) dX6_keep_14 fl_X6_19 (by assumption) rfl (ac_rdr rfl hA9.1.2.2.1) ?_
    refine ac_cv (q := 20) (k_X3_copy (t := x + 24) (o := x + 3) (d := d - 1) (by omega) hS1 hT0 (by omega) rT) ml_X6_69 (by assumption) dX6_keep_17 rfl rfl rfl (by omega) (Nat.le_of_ble_eq_true rfl) (Nat.zero_le _) (Nat.zero_le _) (fun m1 h1 => ?_)
    obtain ⟨g1, f1⟩ := h1
    have A1 := ac_RA_s (s0' := s0) (s1' := some T) hR9 (ac_sl_keep rs0 (f1 _ (by omega)) (f1 _ (by omega)) (f1 _ (by omega)) (f1 _ (by omega))) ⟨fun h => (by cases h), fun T' h => by cases h; exact g1⟩ (fun k' a => f1 k' (by omega))
    have e3 : m1 (x + 3) 3 = (T.1 : Int) := A1.2.1.2.1
    refine ac_aload_n (q := 21) dX6_keep_20 rfl rfl ?_
    refine ac_get (q := 24) dX6_keep_21 fl_X6_19 (by assumption) rfl (ac_rdr rfl hA9.1.2.2.1) ?_
    refine ac_get (q := 27) dX6_keep_24 fl_X6_141 kn0 rfl (ac_rdi rfl e3) ?_
    refine ac_ireturn dX6_keep_27 rfl (Nat.zero_le _) (Nat.zero_le _) ?_
    exact ⟨rfl, rfl, A1, fun k' a => f1 k' (by omega)⟩
  refine ac_top (w' := (2, 0)) (by rw [if_neg h0, if_neg h1]; rfl) ?_
  refine ac_astore_n (q := 6) (j := 2) rfl dX6_keep_5 rfl (Nat.le_of_ble_eq_true rfl) rfl rfl ?_
  simp only [List.set_cons_succ, List.set_cons_zero]
  refine ac_aload_n (q := 7) dX6_keep_6 rfl rfl ?_
  refine ac_ifnonnull_f (q := 10) dX6_keep_7 rfl ?_
  refine ac_iconst (q := 11) dX6_keep_10 rfl ?_
  refine ac_ireturn dX6_keep_11 rfl (Nat.zero_le _) (Nat.zero_le _) ?_
  rw [if_neg (show ¬ (i = 0 ∨ i = 1) by omega), if_neg h0, if_neg h1]; exact ⟨rfl, rfl, hR9, ac_fA_r mm x⟩

set_option maxHeartbeats 8000000 in
theorem k_X6_again0n {G : ac_G} {Y : ac_Y} {mm : ac_M} {d x : Nat} {s : List Nat} {T : ac_Tk} {hs : List ac_Tk} {s1 : Option ac_Tk} {obs : List ac_Ob} {ch : Int} (hd : 30 ≤ d) (hA : ac_isA Y x) (hR : ac_RA mm x s T hs none s1 obs ch)  : ac_C G yX6_again cX6_again 3 (some .int) d 0 0 Y mm [(2, (x : Int)), (0, 0)] (ac_R Y [(0, -3)] (fun m => ac_RA m x s T hs none s1 obs ch ∧ ac_fA mm m x)) := by
  have hA9 := hA
  obtain ⟨⟨kx, -⟩, hX, ⟨hT0, hT1, hT2, hT3⟩, ⟨ka, -, -, hS0, hS1⟩, hH, hW⟩ := hA
  have ktx := hX.1
  have kn0 := hT0.1
  have kn1 := hT1.1
  have kn2 := hT2.1
  have kn3 := hT3.1
  have kh := hH.1
  obtain ⟨⟨kw, -⟩, ⟨k14, k15, k16, k17⟩, hWS, hWC, hWT⟩ := id hW
  have kws := hWS.1
  have kwc := hWC.1
  have hR9 := hR
  obtain ⟨⟨p, rX⟩, rT, ⟨rs0, rs1⟩, rH, rS, ⟨E0, rC⟩, rc⟩ := hR
  obtain ⟨⟨⟨hn1, hn2⟩, ⟨hkk1, hkk2⟩, ⟨hE4, hE2⟩, hp0, hpr, hc0⟩, t3, t4, t5, t6, tE, tp, tcb, tc⟩ := id rT
  have hLn := ac_Lt_len T hn2
  refine ac_met (on := (RX6, "again")) rfl rfl (Nat.le_of_ble_eq_true rfl) (ls := [(2, (x : Int)), (0, 0), (3, 0)]) rfl ?_
  have e3 : mm (x + 20) 3 = 0 := rs0.1 rfl
  have ksk := hS0.1
  refine ac_aload_n (q := 1) dX6_again_0 rfl rfl ?_
  refine ac_iload_n (q := 2) dX6_again_1 rfl rfl ?_
  refine ac_cvp (q := 5) (k_X6_slotAt (i := 0) (d := d - 1) (by omega) hA9 ⟨by decide, by decide⟩) ml_X6_76 (by assumption) dX6_again_2 rfl rfl rfl (by omega) (Nat.le_of_ble_eq_true rfl) (Nat.zero_le _) (Nat.zero_le _) ?_
  refine ac_top (w' := (2, ((x + 20 : Nat) : Int))) rfl ?_
  refine ac_astore_n (q := 6) (j := 2) rfl dX6_again_5 rfl (Nat.le_of_ble_eq_true rfl) rfl rfl ?_
  simp only [List.set_cons_succ, List.set_cons_zero]
  refine ac_aload_n (q := 7) dX6_again_6 rfl rfl ?_
  refine ac_ifnonnull_t (q := 12) dX6_again_7 rfl (by omega) ?_
  refine ac_aload_n (q := 13) dX6_again_12 rfl rfl ?_
  refine ac_get (q := 16) dX6_again_13 fl_X6_141 ksk rfl (ac_rdi rfl e3) ?_
  refine ac_if_ne (q := 19) (tgt := 22) dX6_again_16 rfl rfl ⟨by omega, by omega⟩ (fun h16 => ?_) (fun h16 => ?_)
  · exfalso; omega
  · refine ac_bipush (q := 21) dX6_again_19 rfl (by decide) ?_
    refine ac_ireturn dX6_again_21 rfl (Nat.zero_le _) (Nat.zero_le _) ?_
    exact ⟨rfl, rfl, hR9, ac_fA_r mm x⟩

set_option maxHeartbeats 8000000 in
theorem k_X6_again0s {G : ac_G} {Y : ac_Y} {mm : ac_M} {d x : Nat} {s : List Nat} {T : ac_Tk} {hs : List ac_Tk} {s1 : Option ac_Tk} {obs : List ac_Ob} {ch : Int} {T1 : ac_Tk} (hd : 30 ≤ d) (hA : ac_isA Y x) (hR : ac_RA mm x s T hs (some T1) s1 obs ch)  : ac_C G yX6_again cX6_again 3 (some .int) d 0 0 Y mm [(2, (x : Int)), (0, 0)] (ac_R Y [(0, (T1.1 : Int))] (fun m => ac_RA m x s T1 [] (some T1) s1 obs ch ∧ ac_fA mm m x)) := by
  have hA9 := hA
  obtain ⟨⟨kx, -⟩, hX, ⟨hT0, hT1, hT2, hT3⟩, ⟨ka, -, -, hS0, hS1⟩, hH, hW⟩ := hA
  have ktx := hX.1
  have kn0 := hT0.1
  have kn1 := hT1.1
  have kn2 := hT2.1
  have kn3 := hT3.1
  have kh := hH.1
  obtain ⟨⟨kw, -⟩, ⟨k14, k15, k16, k17⟩, hWS, hWC, hWT⟩ := id hW
  have kws := hWS.1
  have kwc := hWC.1
  have hR9 := hR
  obtain ⟨⟨p, rX⟩, rT, ⟨rs0, rs1⟩, rH, rS, ⟨E0, rC⟩, rc⟩ := hR
  obtain ⟨⟨⟨hn1, hn2⟩, ⟨hkk1, hkk2⟩, ⟨hE4, hE2⟩, hp0, hpr, hc0⟩, t3, t4, t5, t6, tE, tp, tcb, tc⟩ := id rT
  have hLn := ac_Lt_len T hn2
  refine ac_met (on := (RX6, "again")) rfl rfl (Nat.le_of_ble_eq_true rfl) (ls := [(2, (x : Int)), (0, 0), (3, 0)]) rfl ?_
  have rk := rs0.2 T1 rfl
  have e3 : mm (x + 20) 3 = (T1.1 : Int) := rk.2.1
  have hn1 : 1 ≤ T1.1 ∧ T1.1 ≤ 10 := rk.1.1
  have ksk := hS0.1
  refine ac_aload_n (q := 1) dX6_again_0 rfl rfl ?_
  refine ac_iload_n (q := 2) dX6_again_1 rfl rfl ?_
  refine ac_cvp (q := 5) (k_X6_slotAt (i := 0) (d := d - 1) (by omega) hA9 ⟨by decide, by decide⟩) ml_X6_76 (by assumption) dX6_again_2 rfl rfl rfl (by omega) (Nat.le_of_ble_eq_true rfl) (Nat.zero_le _) (Nat.zero_le _) ?_
  refine ac_top (w' := (2, ((x + 20 : Nat) : Int))) rfl ?_
  refine ac_astore_n (q := 6) (j := 2) rfl dX6_again_5 rfl (Nat.le_of_ble_eq_true rfl) rfl rfl ?_
  simp only [List.set_cons_succ, List.set_cons_zero]
  refine ac_aload_n (q := 7) dX6_again_6 rfl rfl ?_
  refine ac_ifnonnull_t (q := 12) dX6_again_7 rfl (by omega) ?_
  refine ac_aload_n (q := 13) dX6_again_12 rfl rfl ?_
  refine ac_get (q := 16) dX6_again_13 fl_X6_141 ksk rfl (ac_rdi rfl e3) ?_
  refine ac_if_ne (q := 19) (tgt := 22) dX6_again_16 rfl rfl ⟨by omega, by omega⟩ (fun h16 => ?_) (fun h16 => ?_)
  · refine ac_aload_n (q := 23) dX6_again_22 rfl rfl ?_
    refine ac_get (q := 26) dX6_again_23 fl_X6_19 (by assumption) rfl (ac_rdr rfl hA9.1.2.2.1) ?_
    refine ac_aload_n (q := 27) dX6_again_26 rfl rfl ?_
    refine ac_cv (q := 30) (k_X3_copy (t := x + 3) (o := x + 20) (d := d - 1) (by omega) hT0 hS0 (by omega) rk) ml_X6_69 (by assumption) dX6_again_27 rfl rfl rfl (by omega) (Nat.le_of_ble_eq_true rfl) (Nat.zero_le _) (Nat.zero_le _) (fun m1 h1 => ?_)
    obtain ⟨g1, f1⟩ := h1
    have A1 := ac_RA_t hR9 g1 f1
    refine ac_aload_n (q := 31) dX6_again_30 rfl rfl ?_
    refine ac_get (q := 34) dX6_again_31 fl_X6_39 (by assumption) rfl (ac_rdr rfl hA9.1.2.2.2.2.2.2.2.1) ?_
    refine ac_cv (q := 37) (k_X1_forget (h := x + 28) (d := d - 1) (by omega) hH A1.2.2.2.1) ml_X6_73 (by assumption) dX6_again_34 rfl rfl rfl (by omega) (Nat.le_of_ble_eq_true rfl) (Nat.zero_le _) (Nat.zero_le _) (fun m2 h2 => ?_)
    obtain ⟨g2, f2⟩ := h2
    have A2 := ac_RA_h A1 g2 (fun k' a => f2 k' (by omega))
    have e4 : m2 (x + 3) 3 = (T1.1 : Int) := A2.2.1.2.1
    refine ac_aload_n (q := 38) dX6_again_37 rfl rfl ?_
    refine ac_get (q := 41) dX6_again_38 fl_X6_19 (by assumption) rfl (ac_rdr rfl hA9.1.2.2.1) ?_
    refine ac_get (q := 44) dX6_again_41 fl_X6_141 kn0 rfl (ac_rdi rfl e4) ?_
    refine ac_ireturn dX6_again_44 rfl (Nat.zero_le _) (Nat.zero_le _) ?_
    exact ⟨rfl, rfl, A2, fun k' a => by rw [f2 k' (by omega), f1 k' (by omega)]⟩
  · exfalso; omega

set_option maxHeartbeats 8000000 in
theorem k_X6_again1n {G : ac_G} {Y : ac_Y} {mm : ac_M} {d x : Nat} {s : List Nat} {T : ac_Tk} {hs : List ac_Tk} {s0 : Option ac_Tk} {obs : List ac_Ob} {ch : Int} (hd : 30 ≤ d) (hA : ac_isA Y x) (hR : ac_RA mm x s T hs s0 none obs ch)  : ac_C G yX6_again cX6_again 3 (some .int) d 0 0 Y mm [(2, (x : Int)), (0, 1)] (ac_R Y [(0, -3)] (fun m => ac_RA m x s T hs s0 none obs ch ∧ ac_fA mm m x)) := by
  have hA9 := hA
  obtain ⟨⟨kx, -⟩, hX, ⟨hT0, hT1, hT2, hT3⟩, ⟨ka, -, -, hS0, hS1⟩, hH, hW⟩ := hA
  have ktx := hX.1
  have kn0 := hT0.1
  have kn1 := hT1.1
  have kn2 := hT2.1
  have kn3 := hT3.1
  have kh := hH.1
  obtain ⟨⟨kw, -⟩, ⟨k14, k15, k16, k17⟩, hWS, hWC, hWT⟩ := id hW
  have kws := hWS.1
  have kwc := hWC.1
  have hR9 := hR
  obtain ⟨⟨p, rX⟩, rT, ⟨rs0, rs1⟩, rH, rS, ⟨E0, rC⟩, rc⟩ := hR
  obtain ⟨⟨⟨hn1, hn2⟩, ⟨hkk1, hkk2⟩, ⟨hE4, hE2⟩, hp0, hpr, hc0⟩, t3, t4, t5, t6, tE, tp, tcb, tc⟩ := id rT
  have hLn := ac_Lt_len T hn2
  refine ac_met (on := (RX6, "again")) rfl rfl (Nat.le_of_ble_eq_true rfl) (ls := [(2, (x : Int)), (0, 1), (3, 0)]) rfl ?_
  have e3 : mm (x + 24) 3 = 0 := rs1.1 rfl
  have ksk := hS1.1
  refine ac_aload_n (q := 1) dX6_again_0 rfl rfl ?_
  refine ac_iload_n (q := 2) dX6_again_1 rfl rfl ?_
  refine ac_cvp (q := 5) (k_X6_slotAt (i := 1) (d := d - 1) (by omega) hA9 ⟨by decide, by decide⟩) ml_X6_76 (by assumption) dX6_again_2 rfl rfl rfl (by omega) (Nat.le_of_ble_eq_true rfl) (Nat.zero_le _) (Nat.zero_le _) ?_
  refine ac_top (w' := (2, ((x + 24 : Nat) : Int))) rfl ?_
  refine ac_astore_n (q := 6) (j := 2) rfl dX6_again_5 rfl (Nat.le_of_ble_eq_true rfl) rfl rfl ?_
  simp only [List.set_cons_succ, List.set_cons_zero]
  refine ac_aload_n (q := 7) dX6_again_6 rfl rfl ?_
  refine ac_ifnonnull_t (q := 12) dX6_again_7 rfl (by omega) ?_
  refine ac_aload_n (q := 13) dX6_again_12 rfl rfl ?_
  refine ac_get (q := 16) dX6_again_13 fl_X6_141 ksk rfl (ac_rdi rfl e3) ?_
  refine ac_if_ne (q := 19) (tgt := 22) dX6_again_16 rfl rfl ⟨by omega, by omega⟩ (fun h16 => ?_) (fun h16 => ?_)
  · exfalso; omega
  · refine ac_bipush (q := 21) dX6_again_19 rfl (by decide) ?_
    refine ac_ireturn dX6_again_21 rfl (Nat.zero_le _) (Nat.zero_le _) ?_
    exact ⟨rfl, rfl, hR9, ac_fA_r mm x⟩

set_option maxHeartbeats 8000000 in
theorem k_X6_again1s {G : ac_G} {Y : ac_Y} {mm : ac_M} {d x : Nat} {s : List Nat} {T : ac_Tk} {hs : List ac_Tk} {s0 : Option ac_Tk} {obs : List ac_Ob} {ch : Int} {T1 : ac_Tk} (hd : 30 ≤ d) (hA : ac_isA Y x) (hR : ac_RA mm x s T hs s0 (some T1) obs ch)  : ac_C G yX6_again cX6_again 3 (some .int) d 0 0 Y mm [(2, (x : Int)), (0, 1)] (ac_R Y [(0, (T1.1 : Int))] (fun m => ac_RA m x s T1 [] s0 (some T1) obs ch ∧ ac_fA mm m x)) := by
  have hA9 := hA
  obtain ⟨⟨kx, -⟩, hX, ⟨hT0, hT1, hT2, hT3⟩, ⟨ka, -, -, hS0, hS1⟩, hH, hW⟩ := hA
  have ktx := hX.1
  have kn0 := hT0.1
  have kn1 := hT1.1
  have kn2 := hT2.1
  have kn3 := hT3.1
  have kh := hH.1
  obtain ⟨⟨kw, -⟩, ⟨k14, k15, k16, k17⟩, hWS, hWC, hWT⟩ := id hW
  have kws := hWS.1
  have kwc := hWC.1
  have hR9 := hR
  obtain ⟨⟨p, rX⟩, rT, ⟨rs0, rs1⟩, rH, rS, ⟨E0, rC⟩, rc⟩ := hR
  obtain ⟨⟨⟨hn1, hn2⟩, ⟨hkk1, hkk2⟩, ⟨hE4, hE2⟩, hp0, hpr, hc0⟩, t3, t4, t5, t6, tE, tp, tcb, tc⟩ := id rT
  have hLn := ac_Lt_len T hn2
  refine ac_met (on := (RX6, "again")) rfl rfl (Nat.le_of_ble_eq_true rfl) (ls := [(2, (x : Int)), (0, 1), (3, 0)]) rfl ?_
  have rk := rs1.2 T1 rfl
  have e3 : mm (x + 24) 3 = (T1.1 : Int) := rk.2.1
  have hn1 : 1 ≤ T1.1 ∧ T1.1 ≤ 10 := rk.1.1
  have ksk := hS1.1
  refine ac_aload_n (q := 1) dX6_again_0 rfl rfl ?_
  refine ac_iload_n (q := 2) dX6_again_1 rfl rfl ?_
  refine ac_cvp (q := 5) (k_X6_slotAt (i := 1) (d := d - 1) (by omega) hA9 ⟨by decide, by decide⟩) ml_X6_76 (by assumption) dX6_again_2 rfl rfl rfl (by omega) (Nat.le_of_ble_eq_true rfl) (Nat.zero_le _) (Nat.zero_le _) ?_
  refine ac_top (w' := (2, ((x + 24 : Nat) : Int))) rfl ?_
  refine ac_astore_n (q := 6) (j := 2) rfl dX6_again_5 rfl (Nat.le_of_ble_eq_true rfl) rfl rfl ?_
  simp only [List.set_cons_succ, List.set_cons_zero]
  refine ac_aload_n (q := 7) dX6_again_6 rfl rfl ?_
  refine ac_ifnonnull_t (q := 12) dX6_again_7 rfl (by omega) ?_
  refine ac_aload_n (q := 13) dX6_again_12 rfl rfl ?_
  refine ac_get (q := 16) dX6_again_13 fl_X6_141 ksk rfl (ac_rdi rfl e3) ?_
  refine ac_if_ne (q := 19) (tgt := 22) dX6_again_16 rfl rfl ⟨by omega, by omega⟩ (fun h16 => ?_) (fun h16 => ?_)
  · refine ac_aload_n (q := 23) dX6_again_22 rfl rfl ?_
    refine ac_get (q := 26) dX6_again_23 fl_X6_19 (by assumption) rfl (ac_rdr rfl hA9.1.2.2.1) ?_
    refine ac_aload_n (q := 27) dX6_again_26 rfl rfl ?_
    refine ac_cv (q := 30) (k_X3_copy (t := x + 3) (o := x + 24) (d := d - 1) (by omega) hT0 hS1 (by omega) rk) ml_X6_69 (by assumption) dX6_again_27 rfl rfl rfl (by omega) (Nat.le_of_ble_eq_true rfl) (Nat.zero_le _) (Nat.zero_le _) (fun m1 h1 => ?_)
    obtain ⟨g1, f1⟩ := h1
    have A1 := ac_RA_t hR9 g1 f1
    refine ac_aload_n (q := 31) dX6_again_30 rfl rfl ?_
    refine ac_get (q := 34) dX6_again_31 fl_X6_39 (by assumption) rfl (ac_rdr rfl hA9.1.2.2.2.2.2.2.2.1) ?_
    refine ac_cv (q := 37) (k_X1_forget (h := x + 28) (d := d - 1) (by omega) hH A1.2.2.2.1) ml_X6_73 (by assumption) dX6_again_34 rfl rfl rfl (by omega) (Nat.le_of_ble_eq_true rfl) (Nat.zero_le _) (Nat.zero_le _) (fun m2 h2 => ?_)
    obtain ⟨g2, f2⟩ := h2
    have A2 := ac_RA_h A1 g2 (fun k' a => f2 k' (by omega))
    have e4 : m2 (x + 3) 3 = (T1.1 : Int) := A2.2.1.2.1
    refine ac_aload_n (q := 38) dX6_again_37 rfl rfl ?_
    refine ac_get (q := 41) dX6_again_38 fl_X6_19 (by assumption) rfl (ac_rdr rfl hA9.1.2.2.1) ?_
    refine ac_get (q := 44) dX6_again_41 fl_X6_141 kn0 rfl (ac_rdi rfl e4) ?_
    refine ac_ireturn dX6_again_44 rfl (Nat.zero_le _) (Nat.zero_le _) ?_
    exact ⟨rfl, rfl, A2, fun k' a => by rw [f2 k' (by omega), f1 k' (by omega)]⟩
  · exfalso; omega

set_option maxHeartbeats 8000000 in
theorem k_X6_againu {G : ac_G} {Y : ac_Y} {mm : ac_M} {d x : Nat} {s : List Nat} {T : ac_Tk} {hs : List ac_Tk} {s0 s1 : Option ac_Tk} {obs : List ac_Ob} {ch : Int} (hd : 30 ≤ d) (hA : ac_isA Y x) (hR : ac_RA mm x s T hs s0 s1 obs ch) {i : Int} (hi : ac_in i) (h01 : ¬ (i = 0 ∨ i = 1)) : ac_C G yX6_again cX6_again 3 (some .int) d 0 0 Y mm [(2, (x : Int)), (0, i)] (ac_R Y [(0, -1)] (fun m => ac_RA m x s T hs s0 s1 obs ch ∧ ac_fA mm m x)) := by
  have hA9 := hA
  obtain ⟨⟨kx, -⟩, hX, ⟨hT0, hT1, hT2, hT3⟩, ⟨ka, -, -, hS0, hS1⟩, hH, hW⟩ := hA
  have ktx := hX.1
  have kn0 := hT0.1
  have kn1 := hT1.1
  have kn2 := hT2.1
  have kn3 := hT3.1
  have kh := hH.1
  obtain ⟨⟨kw, -⟩, ⟨k14, k15, k16, k17⟩, hWS, hWC, hWT⟩ := id hW
  have kws := hWS.1
  have kwc := hWC.1
  have hR9 := hR
  obtain ⟨⟨p, rX⟩, rT, ⟨rs0, rs1⟩, rH, rS, ⟨E0, rC⟩, rc⟩ := hR
  obtain ⟨⟨⟨hn1, hn2⟩, ⟨hkk1, hkk2⟩, ⟨hE4, hE2⟩, hp0, hpr, hc0⟩, t3, t4, t5, t6, tE, tp, tcb, tc⟩ := id rT
  have hLn := ac_Lt_len T hn2
  obtain ⟨hi1, hi2⟩ := hi
  refine ac_met (on := (RX6, "again")) rfl rfl (Nat.le_of_ble_eq_true rfl) (ls := [(2, (x : Int)), (0, i), (3, 0)]) rfl ?_
  refine ac_aload_n (q := 1) dX6_again_0 rfl rfl ?_
  refine ac_iload_n (q := 2) dX6_again_1 rfl rfl ?_
  refine ac_cvp (q := 5) (k_X6_slotAt (i := i) (d := d - 1) (by omega) hA9 ⟨by omega, by omega⟩) ml_X6_76 (by assumption) dX6_again_2 rfl rfl rfl (by omega) (Nat.le_of_ble_eq_true rfl) (Nat.zero_le _) (Nat.zero_le _) ?_
  refine ac_top (w' := (2, 0)) (by rw [if_neg (fun q => h01 (Or.inl q)), if_neg (fun q => h01 (Or.inr q))]; rfl) ?_
  refine ac_astore_n (q := 6) (j := 2) rfl dX6_again_5 rfl (Nat.le_of_ble_eq_true rfl) rfl rfl ?_
  simp only [List.set_cons_succ, List.set_cons_zero]
  refine ac_aload_n (q := 7) dX6_again_6 rfl rfl ?_
  refine ac_ifnonnull_f (q := 10) dX6_again_7 rfl ?_
  refine ac_iconst (q := 11) dX6_again_10 rfl ?_
  refine ac_ireturn dX6_again_11 rfl (Nat.zero_le _) (Nat.zero_le _) ?_
  exact ⟨rfl, rfl, hR9, ac_fA_r mm x⟩

set_option maxHeartbeats 8000000 in
theorem k_X6_count {G : ac_G} {Y : ac_Y} {mm : ac_M} {d x : Nat} {s : List Nat} {T : ac_Tk} {hs : List ac_Tk} {s0 s1 : Option ac_Tk} {obs : List ac_Ob} {ch : Int} {w : Int} (hd : 30 ≤ d) (hA : ac_isA Y x) (hR : ac_RA mm x s T hs s0 s1 obs ch) (hw : ac_in w) : ac_C G yX6_count cX6_count 2 (some .int) d 0 0 Y mm [(2, (x : Int)), (0, w)] (ac_R Y [(0, ac_an_count s T hs obs w)] (fun m => ac_RA m x s T hs s0 s1 obs ch ∧ ac_fA mm m x)) := by
  have hA9 := hA
  obtain ⟨⟨kx, -⟩, hX, ⟨hT0, hT1, hT2, hT3⟩, ⟨ka, -, -, hS0, hS1⟩, hH, hW⟩ := hA
  have ktx := hX.1
  have kn0 := hT0.1
  have kn1 := hT1.1
  have kn2 := hT2.1
  have kn3 := hT3.1
  have kh := hH.1
  obtain ⟨⟨kw, -⟩, ⟨k14, k15, k16, k17⟩, hWS, hWC, hWT⟩ := id hW
  have kws := hWS.1
  have kwc := hWC.1
  have hR9 := hR
  obtain ⟨⟨p, rX⟩, rT, ⟨rs0, rs1⟩, rH, rS, ⟨E0, rC⟩, rc⟩ := hR
  obtain ⟨⟨⟨hn1, hn2⟩, ⟨hkk1, hkk2⟩, ⟨hE4, hE2⟩, hp0, hpr, hc0⟩, t3, t4, t5, t6, tE, tp, tcb, tc⟩ := id rT
  have hLn := ac_Lt_len T hn2
  obtain ⟨hw1, hw2⟩ := hw
  have qx := rX.2.1
  have qh := rH.2.1
  have qs := rS.2.1
  unfold ac_an_count
  refine ac_met (on := (RX6, "count")) rfl rfl (Nat.le_of_ble_eq_true rfl) (ls := [(2, (x : Int)), (0, w)]) rfl ?_
  refine ac_iload_n (q := 1) dX6_count_0 rfl rfl ?_
  by_cases hsw : w < 0 ∨ 6 < w
  · refine ac_tabOut (tgt := 103) dX6_count_1 ⟨by omega, by omega⟩ hsw rfl ?_
    refine ac_bipush (q := 105) dX6_count_103 rfl (by decide) ?_
    refine ac_ireturn dX6_count_105 rfl (Nat.zero_le _) (Nat.zero_le _) ?_
    rw [if_neg (by omega), if_neg (by omega), if_neg (by omega), if_neg (by omega), if_neg (by omega), if_neg (by omega), if_neg (by omega)]; exact ⟨rfl, rfl, hR9, ac_fA_r mm x⟩
  · rcases (show w = 0 ∨ w = 1 ∨ w = 2 ∨ w = 3 ∨ w = 4 ∨ w = 5 ∨ w = 6 by omega) with rfl | rfl | rfl | rfl | rfl | rfl | rfl
    · refine ac_tabIn (off := 43) (tgt := 44) dX6_count_1 ⟨by decide, by decide⟩ (by decide) (by decide) rfl rfl ?_
      refine ac_aload_n (q := 45) dX6_count_44 rfl rfl ?_
      refine ac_get (q := 48) dX6_count_45 fl_X6_10 (by assumption) rfl (ac_rdr rfl hA9.1.2.1) ?_
      refine ac_get (q := 51) dX6_count_48 fl_X6_62 ktx rfl (ac_rdi rfl qx) ?_
      refine ac_ireturn dX6_count_51 rfl (Nat.zero_le _) (Nat.zero_le _) ?_
      rw [if_pos rfl]; exact ⟨rfl, rfl, hR9, ac_fA_r mm x⟩
    · refine ac_tabIn (off := 51) (tgt := 52) dX6_count_1 ⟨by decide, by decide⟩ (by decide) (by decide) rfl rfl ?_
      refine ac_aload_n (q := 53) dX6_count_52 rfl rfl ?_
      refine ac_get (q := 56) dX6_count_53 fl_X6_19 (by assumption) rfl (ac_rdr rfl hA9.1.2.2.1) ?_
      refine ac_get (q := 59) dX6_count_56 fl_X6_141 kn0 rfl (ac_rdi rfl t3) ?_
      refine ac_ireturn dX6_count_59 rfl (Nat.zero_le _) (Nat.zero_le _) ?_
      rw [if_neg (by decide), if_pos rfl]; exact ⟨rfl, rfl, hR9, ac_fA_r mm x⟩
    · refine ac_tabIn (off := 59) (tgt := 60) dX6_count_1 ⟨by decide, by decide⟩ (by decide) (by decide) rfl rfl ?_
      refine ac_aload_n (q := 61) dX6_count_60 rfl rfl ?_
      refine ac_get (q := 64) dX6_count_61 fl_X6_19 (by assumption) rfl (ac_rdr rfl hA9.1.2.2.1) ?_
      refine ac_get (q := 67) dX6_count_64 fl_X6_202 kn0 rfl (ac_rdi rfl t4) ?_
      refine ac_ireturn dX6_count_67 rfl (Nat.zero_le _) (Nat.zero_le _) ?_
      rw [if_neg (by decide), if_neg (by decide), if_pos rfl]; exact ⟨rfl, rfl, hR9, ac_fA_r mm x⟩
    · refine ac_tabIn (off := 67) (tgt := 68) dX6_count_1 ⟨by decide, by decide⟩ (by decide) (by decide) rfl rfl ?_
      refine ac_aload_n (q := 69) dX6_count_68 rfl rfl ?_
      refine ac_get (q := 72) dX6_count_69 fl_X6_19 (by assumption) rfl (ac_rdr rfl hA9.1.2.2.1) ?_
      refine ac_get (q := 75) dX6_count_72 fl_X6_164 kn0 rfl (ac_rdi rfl t5) ?_
      refine ac_ireturn dX6_count_75 rfl (Nat.zero_le _) (Nat.zero_le _) ?_
      rw [if_neg (by decide), if_neg (by decide), if_neg (by decide), if_pos rfl]; exact ⟨rfl, rfl, hR9, ac_fA_r mm x⟩
    · refine ac_tabIn (off := 75) (tgt := 76) dX6_count_1 ⟨by decide, by decide⟩ (by decide) (by decide) rfl rfl ?_
      refine ac_aload_n (q := 77) dX6_count_76 rfl rfl ?_
      refine ac_get (q := 80) dX6_count_77 fl_X6_19 (by assumption) rfl (ac_rdr rfl hA9.1.2.2.1) ?_
      refine ac_cvp (q := 83) (k_X3_pinned (t := x + 3) (d := d - 1) (by omega) hT0 rT) ml_X6_273 (by assumption) dX6_count_80 rfl rfl rfl (by omega) (Nat.le_of_ble_eq_true rfl) (Nat.zero_le _) (Nat.zero_le _) ?_
      refine ac_ireturn dX6_count_83 rfl (Nat.zero_le _) (Nat.zero_le _) ?_
      rw [if_neg (by decide), if_neg (by decide), if_neg (by decide), if_neg (by decide), if_pos rfl]; exact ⟨rfl, rfl, hR9, ac_fA_r mm x⟩
    · refine ac_tabIn (off := 83) (tgt := 84) dX6_count_1 ⟨by decide, by decide⟩ (by decide) (by decide) rfl rfl ?_
      refine ac_aload_n (q := 85) dX6_count_84 rfl rfl ?_
      refine ac_get (q := 88) dX6_count_85 fl_X6_39 (by assumption) rfl (ac_rdr rfl hA9.1.2.2.2.2.2.2.2.1) ?_
      refine ac_get (q := 91) dX6_count_88 fl_X6_180 kh rfl (ac_rdi rfl qh) ?_
      refine ac_ireturn dX6_count_91 rfl (Nat.zero_le _) (Nat.zero_le _) ?_
      rw [if_neg (by decide), if_neg (by decide), if_neg (by decide), if_neg (by decide), if_neg (by decide), if_pos rfl]; exact ⟨rfl, rfl, hR9, ac_fA_r mm x⟩
    · refine ac_tabIn (off := 91) (tgt := 92) dX6_count_1 ⟨by decide, by decide⟩ (by decide) (by decide) rfl rfl ?_
      refine ac_aload_n (q := 93) dX6_count_92 rfl rfl ?_
      refine ac_get (q := 96) dX6_count_93 fl_X6_46 (by assumption) rfl (ac_rdr rfl hA9.1.2.2.2.2.2.2.2.2) ?_
      refine ac_get (q := 99) dX6_count_96 fl_X6_226 (by assumption) rfl (ac_rdr rfl hW.1.2.1) ?_
      refine ac_get (q := 102) dX6_count_99 fl_X6_236 kws rfl (ac_rdi rfl qs) ?_
      refine ac_ireturn dX6_count_102 rfl (Nat.zero_le _) (Nat.zero_le _) ?_
      rw [if_neg (by decide), if_neg (by decide), if_neg (by decide), if_neg (by decide), if_neg (by decide), if_neg (by decide), if_pos rfl]; exact ⟨rfl, rfl, hR9, ac_fA_r mm x⟩

set_option maxHeartbeats 8000000 in
theorem k_X6_see {G : ac_G} {Y : ac_Y} {mm : ac_M} {d x : Nat} {s : List Nat} {T : ac_Tk} {hs : List ac_Tk} {s0 s1 : Option ac_Tk} {obs : List ac_Ob} {ch : Int} {a b e : Int} (hd : 30 ≤ d) (hA : ac_isA Y x) (hR : ac_RA mm x s T hs s0 s1 obs ch) (ha : ac_in a) (hb : ac_in b) (he : ac_in e) : ac_C G yX6_see cX6_see 4 (some .int) d 0 0 Y mm [(2, (x : Int)), (0, a), (0, b), (0, e)] (ac_R Y [(0, (@ite _ (ac_seeok a b e) (ac_seeokd a b e) (if obs.length < 6 then (obs.length : Int) + 1 else -4) (-2)))] (fun m => ac_RA m x s T hs s0 s1 (@ite _ (ac_seeok a b e) (ac_seeokd a b e) (if obs.length < 6 then obs ++ [(a.toNat, b.toNat, e.toNat)] else obs) obs) ch ∧ ac_fA mm m x)) := by
  have hA9 := hA
  obtain ⟨⟨kx, -⟩, hX, ⟨hT0, hT1, hT2, hT3⟩, ⟨ka, -, -, hS0, hS1⟩, hH, hW⟩ := hA
  have ktx := hX.1
  have kn0 := hT0.1
  have kn1 := hT1.1
  have kn2 := hT2.1
  have kn3 := hT3.1
  have kh := hH.1
  obtain ⟨⟨kw, -⟩, ⟨k14, k15, k16, k17⟩, hWS, hWC, hWT⟩ := id hW
  have kws := hWS.1
  have kwc := hWC.1
  have hR9 := hR
  obtain ⟨⟨p, rX⟩, rT, ⟨rs0, rs1⟩, rH, rS, ⟨E0, rC⟩, rc⟩ := hR
  obtain ⟨⟨⟨hn1, hn2⟩, ⟨hkk1, hkk2⟩, ⟨hE4, hE2⟩, hp0, hpr, hc0⟩, t3, t4, t5, t6, tE, tp, tcb, tc⟩ := id rT
  have hLn := ac_Lt_len T hn2
  obtain ⟨ha1, ha2⟩ := ha
  obtain ⟨hb1, hb2⟩ := hb
  obtain ⟨he1, he2⟩ := he
  have ho6 := rS.1.1
  refine ac_met (on := (RX6, "see")) rfl rfl (Nat.le_of_ble_eq_true rfl) (ls := [(2, (x : Int)), (0, a), (0, b), (0, e)]) rfl ?_
  refine ac_iload_n (q := 1) dX6_see_0 rfl rfl ?_
  refine ac_iconst (q := 2) dX6_see_1 rfl ?_
  refine ac_icmp_lt (q := 5) (tgt := 36) dX6_see_2 rfl rfl ⟨by omega, by omega⟩ ⟨by omega, by omega⟩ (fun h2 => ?_) (fun h2 => ?_)
  · refine ac_bipush (q := 38) dX6_see_36 rfl (by decide) ?_
    refine ac_ireturn dX6_see_38 rfl (Nat.zero_le _) (Nat.zero_le _) ?_
    have hno : ¬ ac_seeok a b e := fun q => by unfold ac_seeok at q; omega
    rw [if_neg hno, if_neg hno]; exact ⟨rfl, rfl, hR9, ac_fA_r mm x⟩
  · refine ac_iload_n (q := 6) dX6_see_5 rfl rfl ?_
    refine ac_bipush (q := 8) dX6_see_6 rfl (by decide) ?_
    refine ac_icmp_gt (q := 11) (tgt := 36) dX6_see_8 rfl rfl ⟨by omega, by omega⟩ ⟨by omega, by omega⟩ (fun h8 => ?_) (fun h8 => ?_)
    · refine ac_bipush (q := 38) dX6_see_36 rfl (by decide) ?_
      refine ac_ireturn dX6_see_38 rfl (Nat.zero_le _) (Nat.zero_le _) ?_
      have hno : ¬ ac_seeok a b e := fun q => by unfold ac_seeok at q; omega
      rw [if_neg hno, if_neg hno]; exact ⟨rfl, rfl, hR9, ac_fA_r mm x⟩
    · refine ac_iload_n (q := 12) dX6_see_11 rfl rfl ?_
      refine ac_iconst (q := 13) dX6_see_12 rfl ?_
      refine ac_icmp_lt (q := 16) (tgt := 36) dX6_see_13 rfl rfl ⟨by omega, by omega⟩ ⟨by omega, by omega⟩ (fun h13 => ?_) (fun h13 => ?_)
      · refine ac_bipush (q := 38) dX6_see_36 rfl (by decide) ?_
        refine ac_ireturn dX6_see_38 rfl (Nat.zero_le _) (Nat.zero_le _) ?_
        have hno : ¬ ac_seeok a b e := fun q => by unfold ac_seeok at q; omega
        rw [if_neg hno, if_neg hno]; exact ⟨rfl, rfl, hR9, ac_fA_r mm x⟩
      · refine ac_iload_n (q := 17) dX6_see_16 rfl rfl ?_
        refine ac_bipush (q := 19) dX6_see_17 rfl (by decide) ?_
        refine ac_icmp_gt (q := 22) (tgt := 36) dX6_see_19 rfl rfl ⟨by omega, by omega⟩ ⟨by omega, by omega⟩ (fun h19 => ?_) (fun h19 => ?_)
        · refine ac_bipush (q := 38) dX6_see_36 rfl (by decide) ?_
          refine ac_ireturn dX6_see_38 rfl (Nat.zero_le _) (Nat.zero_le _) ?_
          have hno : ¬ ac_seeok a b e := fun q => by unfold ac_seeok at q; omega
          rw [if_neg hno, if_neg hno]; exact ⟨rfl, rfl, hR9, ac_fA_r mm x⟩
        · refine ac_iload_n (q := 23) dX6_see_22 rfl rfl ?_
          refine ac_iload_n (q := 24) dX6_see_23 rfl rfl ?_
          refine ac_icmp_eq (q := 27) (tgt := 36) dX6_see_24 rfl rfl ⟨by omega, by omega⟩ ⟨by omega, by omega⟩ (fun h24 => ?_) (fun h24 => ?_)
          · refine ac_bipush (q := 38) dX6_see_36 rfl (by decide) ?_
            refine ac_ireturn dX6_see_38 rfl (Nat.zero_le _) (Nat.zero_le _) ?_
            have hno : ¬ ac_seeok a b e := fun q => by unfold ac_seeok at q; omega
            rw [if_neg hno, if_neg hno]; exact ⟨rfl, rfl, hR9, ac_fA_r mm x⟩
          · refine ac_iload_n (q := 28) dX6_see_27 rfl rfl ?_
            refine ac_if_lt (q := 31) (tgt := 36) dX6_see_28 rfl rfl ⟨by omega, by omega⟩ (fun h28 => ?_) (fun h28 => ?_)
            · refine ac_bipush (q := 38) dX6_see_36 rfl (by decide) ?_
              refine ac_ireturn dX6_see_38 rfl (Nat.zero_le _) (Nat.zero_le _) ?_
              have hno : ¬ ac_seeok a b e := fun q => by unfold ac_seeok at q; omega
              rw [if_neg hno, if_neg hno]; exact ⟨rfl, rfl, hR9, ac_fA_r mm x⟩
            · refine ac_iload_n (q := 32) dX6_see_31 rfl rfl ?_
              refine ac_iconst (q := 33) dX6_see_32 rfl ?_
              refine ac_icmp_le (q := 36) (tgt := 39) dX6_see_33 rfl rfl ⟨by omega, by omega⟩ ⟨by omega, by omega⟩ (fun h33 => ?_) (fun h33 => ?_)
              · have hyes : ac_seeok a b e := ⟨⟨⟨by omega, by omega⟩, ⟨by omega, by omega⟩⟩, by omega, by omega, by omega⟩
                rw [if_pos hyes, if_pos hyes]
                obtain ⟨a, rfl⟩ := Int.eq_ofNat_of_zero_le (a := a) (by omega)
                obtain ⟨b, rfl⟩ := Int.eq_ofNat_of_zero_le (a := b) (by omega)
                obtain ⟨e, rfl⟩ := Int.eq_ofNat_of_zero_le (a := e) (by omega)
                simp only [Int.toNat_natCast]
                refine ac_aload_n (q := 40) dX6_see_39 rfl rfl ?_
                refine ac_get (q := 43) dX6_see_40 fl_X6_46 (by assumption) rfl (ac_rdr rfl hA9.1.2.2.2.2.2.2.2.2) ?_
                refine ac_get (q := 46) dX6_see_43 fl_X6_226 (by assumption) rfl (ac_rdr rfl hW.1.2.1) ?_
                refine ac_iconst (q := 47) dX6_see_46 rfl ?_
                refine ac_iload_n (q := 48) dX6_see_47 rfl rfl ?_
                refine ac_ishl1 (q := 49) (k := a) dX6_see_48 rfl (by omega) ?_
                refine ac_iconst (q := 50) dX6_see_49 rfl ?_
                refine ac_iload_n (q := 51) dX6_see_50 rfl rfl ?_
                refine ac_ishl1 (q := 52) (k := b) dX6_see_51 rfl (by omega) ?_
                refine ac_ior (q := 53) dX6_see_52 rfl ?_
                refine ac_iload_n (q := 54) dX6_see_53 rfl rfl ?_
                refine ac_iconst (q := 55) dX6_see_54 rfl ?_
                refine ac_icmp_ne (q := 58) (tgt := 62) dX6_see_55 rfl rfl ⟨by omega, by omega⟩ ⟨by omega, by omega⟩ (fun h55 => ?_) (fun h55 => ?_)
                · refine ac_iconst (q := 63) dX6_see_62 rfl ?_
                  refine ac_top (w' := (0, ((e : Nat) : Int))) (congrArg (fun z : Int => ((0 : Nat), z)) (by omega)) ?_
                  refine ac_cv (q := 66) (k_X2_note (s := x + 86 + 1) (a := a) (b := b) (w := e) (d := d - 1) (by omega) hWS rS ⟨show 1 ≤ a ∧ a ≤ 10 by omega, show 1 ≤ b ∧ b ≤ 10 by omega, show a ≠ b by omega, show e = 0 ∨ e = 1 by omega⟩) ml_X6_230 (by assumption) dX6_see_63 rfl rfl rfl (by omega) (Nat.le_of_ble_eq_true rfl) (Nat.zero_le _) (Nat.zero_le _) (fun m1 h1 => ?_)
                  obtain ⟨g1, f1⟩ := h1
                  have A1 := ac_RA_w hR9 g1 ⟨E0, ac_RC_keep rC (f1 _ (by omega)) (f1 _ (by omega)) (f1 _ (by omega))⟩ (fun k' a => f1 k' (by omega))
                  have q2 := g1.2.1
                  refine ac_bif_eq (q := 69) (tgt := 82) dX6_see_66 rfl rfl (fun h66 => ?_) (fun h66 => ?_)
                  · refine ac_bipush (q := 84) dX6_see_82 rfl (by decide) ?_
                    refine ac_ireturn dX6_see_84 rfl (Nat.zero_le _) (Nat.zero_le _) ?_
                    first
                      | (simp only [if_pos h66] at A1 ⊢; exact ⟨by rw [List.length_append]; rfl, rfl, A1, fun k' a => f1 k' (by omega)⟩)
                      | (simp only [if_neg h66] at A1 ⊢; exact ⟨rfl, rfl, A1, fun k' a => f1 k' (by omega)⟩)
                  · refine ac_aload_n (q := 70) dX6_see_69 rfl rfl ?_
                    refine ac_get (q := 73) dX6_see_70 fl_X6_46 (by assumption) rfl (ac_rdr rfl hA9.1.2.2.2.2.2.2.2.2) ?_
                    refine ac_get (q := 76) dX6_see_73 fl_X6_226 (by assumption) rfl (ac_rdr rfl hW.1.2.1) ?_
                    refine ac_get (q := 79) dX6_see_76 fl_X6_236 kws rfl (ac_rdi rfl q2) ?_
                    refine ac_goto (q := 84) dX6_see_79 rfl ?_
                    refine ac_ireturn dX6_see_84 rfl (Nat.zero_le _) (Nat.zero_le _) ?_
                    first
                      | (simp only [if_pos h66] at A1 ⊢; exact ⟨by rw [List.length_append]; rfl, rfl, A1, fun k' a => f1 k' (by omega)⟩)
                      | (simp only [if_neg h66] at A1 ⊢; exact ⟨rfl, rfl, A1, fun k' a => f1 k' (by omega)⟩)
                · refine ac_iconst (q := 59) dX6_see_58 rfl ?_
                  refine ac_goto (q := 63) dX6_see_59 rfl ?_
                  refine ac_top (w' := (0, ((e : Nat) : Int))) (congrArg (fun z : Int => ((0 : Nat), z)) (by omega)) ?_
                  refine ac_cv (q := 66) (k_X2_note (s := x + 86 + 1) (a := a) (b := b) (w := e) (d := d - 1) (by omega) hWS rS ⟨show 1 ≤ a ∧ a ≤ 10 by omega, show 1 ≤ b ∧ b ≤ 10 by omega, show a ≠ b by omega, show e = 0 ∨ e = 1 by omega⟩) ml_X6_230 (by assumption) dX6_see_63 rfl rfl rfl (by omega) (Nat.le_of_ble_eq_true rfl) (Nat.zero_le _) (Nat.zero_le _) (fun m1 h1 => ?_)
                  obtain ⟨g1, f1⟩ := h1
                  have A1 := ac_RA_w hR9 g1 ⟨E0, ac_RC_keep rC (f1 _ (by omega)) (f1 _ (by omega)) (f1 _ (by omega))⟩ (fun k' a => f1 k' (by omega))
                  have q2 := g1.2.1
                  refine ac_bif_eq (q := 69) (tgt := 82) dX6_see_66 rfl rfl (fun h66 => ?_) (fun h66 => ?_)
                  · refine ac_bipush (q := 84) dX6_see_82 rfl (by decide) ?_
                    refine ac_ireturn dX6_see_84 rfl (Nat.zero_le _) (Nat.zero_le _) ?_
                    first
                      | (simp only [if_pos h66] at A1 ⊢; exact ⟨by rw [List.length_append]; rfl, rfl, A1, fun k' a => f1 k' (by omega)⟩)
                      | (simp only [if_neg h66] at A1 ⊢; exact ⟨rfl, rfl, A1, fun k' a => f1 k' (by omega)⟩)
                  · refine ac_aload_n (q := 70) dX6_see_69 rfl rfl ?_
                    refine ac_get (q := 73) dX6_see_70 fl_X6_46 (by assumption) rfl (ac_rdr rfl hA9.1.2.2.2.2.2.2.2.2) ?_
                    refine ac_get (q := 76) dX6_see_73 fl_X6_226 (by assumption) rfl (ac_rdr rfl hW.1.2.1) ?_
                    refine ac_get (q := 79) dX6_see_76 fl_X6_236 kws rfl (ac_rdi rfl q2) ?_
                    refine ac_goto (q := 84) dX6_see_79 rfl ?_
                    refine ac_ireturn dX6_see_84 rfl (Nat.zero_le _) (Nat.zero_le _) ?_
                    first
                      | (simp only [if_pos h66] at A1 ⊢; exact ⟨by rw [List.length_append]; rfl, rfl, A1, fun k' a => f1 k' (by omega)⟩)
                      | (simp only [if_neg h66] at A1 ⊢; exact ⟨rfl, rfl, A1, fun k' a => f1 k' (by omega)⟩)
              · refine ac_bipush (q := 38) dX6_see_36 rfl (by decide) ?_
                refine ac_ireturn dX6_see_38 rfl (Nat.zero_le _) (Nat.zero_le _) ?_
                have hno : ¬ ac_seeok a b e := fun q => by unfold ac_seeok at q; omega
                rw [if_neg hno, if_neg hno]; exact ⟨rfl, rfl, hR9, ac_fA_r mm x⟩

set_option maxHeartbeats 8000000 in
theorem k_X6_unsee {G : ac_G} {Y : ac_Y} {mm : ac_M} {d x : Nat} {s : List Nat} {T : ac_Tk} {hs : List ac_Tk} {s0 s1 : Option ac_Tk} {obs : List ac_Ob} {ch : Int} (hd : 30 ≤ d) (hA : ac_isA Y x) (hR : ac_RA mm x s T hs s0 s1 obs ch)  : ac_C G yX6_unsee cX6_unsee 2 (some .int) d 0 0 Y mm [(2, (x : Int))] (ac_R Y [(0, (obs.length : Int))] (fun m => ac_RA m x s T hs s0 s1 [] ch ∧ ac_fA mm m x)) := by
  have hA9 := hA
  obtain ⟨⟨kx, -⟩, hX, ⟨hT0, hT1, hT2, hT3⟩, ⟨ka, -, -, hS0, hS1⟩, hH, hW⟩ := hA
  have ktx := hX.1
  have kn0 := hT0.1
  have kn1 := hT1.1
  have kn2 := hT2.1
  have kn3 := hT3.1
  have kh := hH.1
  obtain ⟨⟨kw, -⟩, ⟨k14, k15, k16, k17⟩, hWS, hWC, hWT⟩ := id hW
  have kws := hWS.1
  have kwc := hWC.1
  have hR9 := hR
  obtain ⟨⟨p, rX⟩, rT, ⟨rs0, rs1⟩, rH, rS, ⟨E0, rC⟩, rc⟩ := hR
  obtain ⟨⟨⟨hn1, hn2⟩, ⟨hkk1, hkk2⟩, ⟨hE4, hE2⟩, hp0, hpr, hc0⟩, t3, t4, t5, t6, tE, tp, tcb, tc⟩ := id rT
  have hLn := ac_Lt_len T hn2
  have q2 := rS.2.1
  refine ac_met (on := (RX6, "unsee")) rfl rfl (Nat.le_of_ble_eq_true rfl) (ls := [(2, (x : Int)), (3, 0)]) rfl ?_
  refine ac_aload_n (q := 1) dX6_unsee_0 rfl rfl ?_
  refine ac_get (q := 4) dX6_unsee_1 fl_X6_46 (by assumption) rfl (ac_rdr rfl hA9.1.2.2.2.2.2.2.2.2) ?_
  refine ac_get (q := 7) dX6_unsee_4 fl_X6_226 (by assumption) rfl (ac_rdr rfl hW.1.2.1) ?_
  refine ac_get (q := 10) dX6_unsee_7 fl_X6_236 kws rfl (ac_rdi rfl q2) ?_
  refine ac_istore_n (q := 11) (j := 1) rfl dX6_unsee_10 rfl (Nat.le_of_ble_eq_true rfl) rfl rfl ?_
  simp only [List.set_cons_succ, List.set_cons_zero]
  refine ac_aload_n (q := 12) dX6_unsee_11 rfl rfl ?_
  refine ac_get (q := 15) dX6_unsee_12 fl_X6_46 (by assumption) rfl (ac_rdr rfl hA9.1.2.2.2.2.2.2.2.2) ?_
  refine ac_get (q := 18) dX6_unsee_15 fl_X6_226 (by assumption) rfl (ac_rdr rfl hW.1.2.1) ?_
  refine ac_iconst (q := 19) dX6_unsee_18 rfl ?_
  refine ac_put (q := 22) dX6_unsee_19 fl_X6_236 (by assumption) rfl rfl ?_
  refine ac_iload_n (q := 23) dX6_unsee_22 rfl rfl ?_
  refine ac_ireturn dX6_unsee_23 rfl (Nat.zero_le _) (Nat.zero_le _) ?_
  exact ⟨rfl, rfl, ac_RA_w hR9 ⟨⟨by simp, fun o h => (by cases h)⟩, ac_up_s, fun i o h => by simp at h⟩ ⟨E0, ac_RC_keep rC (by funext j; exact ac_up_k (by omega)) (by funext j; exact ac_up_k (by omega)) (by funext j; exact ac_up_k (by omega))⟩ (fun k' a => by funext j; exact ac_up_k (by omega)), fun k' a => by funext j; exact ac_up_k (by omega)⟩

set_option maxHeartbeats 8000000 in
theorem k_X6_which {G : ac_G} {Y : ac_Y} {mm : ac_M} {d x : Nat} {s : List Nat} {T : ac_Tk} {hs : List ac_Tk} {s0 s1 : Option ac_Tk} {obs : List ac_Ob} {ch : Int} {w : Int} (hd : 30 ≤ d) (hA : ac_isA Y x) (hR : ac_RA mm x s T hs s0 s1 obs ch) (hw : ac_in w) : ac_C G yX6_which cX6_which 2 (some .int) d 0 0 Y mm [(2, (x : Int)), (0, w)] (ac_R Y [(0, (if w = 0 then ((ac_Lt T).countP (ac_ag obs) : Int) else if w = 1 then ac_low obs (ac_Lt T) else -2))] (fun m => ac_RA m x s T hs s0 s1 obs ch ∧ ac_fA mm m x)) := by
  have hA9 := hA
  obtain ⟨⟨kx, -⟩, hX, ⟨hT0, hT1, hT2, hT3⟩, ⟨ka, -, -, hS0, hS1⟩, hH, hW⟩ := hA
  have ktx := hX.1
  have kn0 := hT0.1
  have kn1 := hT1.1
  have kn2 := hT2.1
  have kn3 := hT3.1
  have kh := hH.1
  obtain ⟨⟨kw, -⟩, ⟨k14, k15, k16, k17⟩, hWS, hWC, hWT⟩ := id hW
  have kws := hWS.1
  have kwc := hWC.1
  have hR9 := hR
  obtain ⟨⟨p, rX⟩, rT, ⟨rs0, rs1⟩, rH, rS, ⟨E0, rC⟩, rc⟩ := hR
  obtain ⟨⟨⟨hn1, hn2⟩, ⟨hkk1, hkk2⟩, ⟨hE4, hE2⟩, hp0, hpr, hc0⟩, t3, t4, t5, t6, tE, tp, tcb, tc⟩ := id rT
  have hLn := ac_Lt_len T hn2
  obtain ⟨hw1, hw2⟩ := hw
  refine ac_met (on := (RX6, "which")) rfl rfl (Nat.le_of_ble_eq_true rfl) (ls := [(2, (x : Int)), (0, w)]) rfl ?_
  refine ac_iload_n (q := 1) dX6_which_0 rfl rfl ?_
  refine ac_if_lt (q := 4) (tgt := 9) dX6_which_1 rfl rfl ⟨by omega, by omega⟩ (fun h1 => ?_) (fun h1 => ?_)
  · refine ac_bipush (q := 11) dX6_which_9 rfl (by decide) ?_
    refine ac_ireturn dX6_which_11 rfl (Nat.zero_le _) (Nat.zero_le _) ?_
    rw [if_neg (by omega), if_neg (by omega)]; exact ⟨rfl, rfl, hR9, ac_fA_r mm x⟩
  · refine ac_iload_n (q := 5) dX6_which_4 rfl rfl ?_
    refine ac_iconst (q := 6) dX6_which_5 rfl ?_
    refine ac_icmp_le (q := 9) (tgt := 12) dX6_which_6 rfl rfl ⟨by omega, by omega⟩ ⟨by omega, by omega⟩ (fun h6 => ?_) (fun h6 => ?_)
    · refine ac_aload_n (q := 13) dX6_which_12 rfl rfl ?_
      refine ac_get (q := 16) dX6_which_13 fl_X6_46 (by assumption) rfl (ac_rdr rfl hA9.1.2.2.2.2.2.2.2.2) ?_
      refine ac_aload_n (q := 17) dX6_which_16 rfl rfl ?_
      refine ac_get (q := 20) dX6_which_17 fl_X6_19 (by assumption) rfl (ac_rdr rfl hA9.1.2.2.1) ?_
      refine ac_iconst (q := 21) dX6_which_20 rfl ?_
      refine ac_cv (q := 24) (k_X5_survey (d := d - 1) (w := x + 86) (t := x + 3) (wanted := 0) (by omega) hW ⟨by decide, by decide⟩ rC rS hT0 rT (by omega)) ml_X6_113 (by assumption) dX6_which_21 rfl rfl rfl (by omega) (Nat.le_of_ble_eq_true rfl) (Nat.zero_le _) (Nat.zero_le _) (fun m1 h1 => ?_)
      obtain ⟨w1, R1, f1⟩ := h1
      have R1 : ac_RW m1 (x + 86) T.2.2.2.2 obs 0 (ac_Lt T) (ac_cb (ac_Lt T)) (ac_dead (ac_may T.2.1 T.2.2.1 T.2.2.2.1) T.1 []) (ac_deep (ac_may T.2.1 T.2.2.1 T.2.2.2.1) T.1 []) := R1
      have A1 := ac_RA_w hR9 w1.2.2 ⟨_, w1.2.1⟩ (fun k' a => f1 k' (by omega))
      refine ac_iload_n (q := 25) dX6_which_24 rfl rfl ?_
      refine ac_if_ne (q := 28) (tgt := 38) dX6_which_25 rfl rfl ⟨by omega, by omega⟩ (fun h25 => ?_) (fun h25 => ?_)
      · refine ac_aload_n (q := 39) dX6_which_38 rfl rfl ?_
        refine ac_get (q := 42) dX6_which_39 fl_X6_46 (by assumption) rfl (ac_rdr rfl hA9.1.2.2.2.2.2.2.2.2) ?_
        refine ac_get (q := 45) dX6_which_42 fl_X6_240 kw rfl (ac_rdi rfl R1.1.2.2.2.2.2.2) ?_
        refine ac_ireturn dX6_which_45 rfl (Nat.zero_le _) (Nat.zero_le _) ?_
        first
          | (rw [if_pos (by omega)]; exact ⟨rfl, rfl, A1, fun k' a => f1 k' (by omega)⟩)
          | (rw [if_neg (by omega), if_pos (by omega)]; exact ⟨rfl, rfl, A1, fun k' a => f1 k' (by omega)⟩)
      · refine ac_aload_n (q := 29) dX6_which_28 rfl rfl ?_
        refine ac_get (q := 32) dX6_which_29 fl_X6_46 (by assumption) rfl (ac_rdr rfl hA9.1.2.2.2.2.2.2.2.2) ?_
        refine ac_get (q := 35) dX6_which_32 fl_X6_237 kw rfl (ac_rdi rfl R1.1.2.2.2.2.2.1) ?_
        refine ac_goto (q := 45) dX6_which_35 rfl ?_
        refine ac_ireturn dX6_which_45 rfl (Nat.zero_le _) (Nat.zero_le _) ?_
        first
          | (rw [if_pos (by omega)]; exact ⟨rfl, rfl, A1, fun k' a => f1 k' (by omega)⟩)
          | (rw [if_neg (by omega), if_pos (by omega)]; exact ⟨rfl, rfl, A1, fun k' a => f1 k' (by omega)⟩)
    · refine ac_bipush (q := 11) dX6_which_9 rfl (by decide) ?_
      refine ac_ireturn dX6_which_11 rfl (Nat.zero_le _) (Nat.zero_le _) ?_
      rw [if_neg (by omega), if_neg (by omega)]; exact ⟨rfl, rfl, hR9, ac_fA_r mm x⟩

set_option maxHeartbeats 8000000 in
theorem k_X6_seed {G : ac_G} {Y : ac_Y} {mm : ac_M} {d x : Nat} {s : List Nat} {T : ac_Tk} {hs : List ac_Tk} {s0 s1 : Option ac_Tk} {obs : List ac_Ob} {ch : Int} {v : Int} (hd : 30 ≤ d) (hA : ac_isA Y x) (hR : ac_RA mm x s T hs s0 s1 obs ch)  : ac_C G yX6_seed cX6_seed 5 (some .long) d 0 0 Y mm [(2, (x : Int)), (1, v)] (ac_R Y [(1, ch)] (fun m => ac_RA m x s T hs s0 s1 obs v ∧ ac_fA mm m x)) := by
  have hA9 := hA
  obtain ⟨⟨kx, -⟩, hX, ⟨hT0, hT1, hT2, hT3⟩, ⟨ka, -, -, hS0, hS1⟩, hH, hW⟩ := hA
  have ktx := hX.1
  have kn0 := hT0.1
  have kn1 := hT1.1
  have kn2 := hT2.1
  have kn3 := hT3.1
  have kh := hH.1
  obtain ⟨⟨kw, -⟩, ⟨k14, k15, k16, k17⟩, hWS, hWC, hWT⟩ := id hW
  have kws := hWS.1
  have kwc := hWC.1
  have hR9 := hR
  obtain ⟨⟨p, rX⟩, rT, ⟨rs0, rs1⟩, rH, rS, ⟨E0, rC⟩, rc⟩ := hR
  obtain ⟨⟨⟨hn1, hn2⟩, ⟨hkk1, hkk2⟩, ⟨hE4, hE2⟩, hp0, hpr, hc0⟩, t3, t4, t5, t6, tE, tp, tcb, tc⟩ := id rT
  have hLn := ac_Lt_len T hn2
  refine ac_met (on := (RX6, "seed")) rfl rfl (Nat.le_of_ble_eq_true rfl) (ls := [(2, (x : Int)), (1, v), (3, 0), (3, 0), (3, 0)]) rfl ?_
  refine ac_aload_n (q := 1) dX6_seed_0 rfl rfl ?_
  refine ac_get (q := 4) dX6_seed_1 fl_X6_266 kx rfl (w := (1, ch)) (by show (1, mm x 8) = _; rw [rc]) ?_
  refine ac_lstore_n (q := 5) (j := 3) rfl dX6_seed_4 rfl (Nat.le_of_ble_eq_true rfl) rfl rfl ?_
  simp only [List.set_cons_succ, List.set_cons_zero]
  refine ac_aload_n (q := 6) dX6_seed_5 rfl rfl ?_
  refine ac_lload_n (q := 7) dX6_seed_6 rfl rfl ?_
  refine ac_putL (q := 10) dX6_seed_7 fl_X6_266 (by assumption) rfl rfl ?_
  refine ac_lload_n (q := 11) dX6_seed_10 rfl rfl ?_
  refine ac_lreturn dX6_seed_11 rfl (Nat.zero_le _) (Nat.zero_le _) ?_
  exact ⟨rfl, rfl, ac_RA_c hR9 ac_up_s (fun k' a => by funext j; exact ac_up_k a), fun k' a => by funext j; exact ac_up_k (by omega)⟩

set_option maxHeartbeats 8000000 in
theorem k_X6_forcedNumbers {G : ac_G} {Y : ac_Y} {mm : ac_M} {d x : Nat} {s : List Nat} {T : ac_Tk} {hs : List ac_Tk} {s0 s1 : Option ac_Tk} {obs : List ac_Ob} {ch : Int} (hd : 25 ≤ d) (hA : ac_isA Y x) (hR : ac_RA mm x s T hs s0 s1 obs ch)  : ac_C G yX6_forcedNumbers cX6_forcedNumbers 3 (some .int) d 0 0 Y mm [(2, (x : Int))] (ac_R Y [(0, (ac_frc (ac_Lt T) T.1 : Int))] (fun m => ac_RA m x s T hs s0 s1 obs ch ∧ ac_fA mm m x)) := by
  have hA9 := hA
  obtain ⟨⟨kx, -⟩, hX, ⟨hT0, hT1, hT2, hT3⟩, ⟨ka, -, -, hS0, hS1⟩, hH, hW⟩ := hA
  have ktx := hX.1
  have kn0 := hT0.1
  have kn1 := hT1.1
  have kn2 := hT2.1
  have kn3 := hT3.1
  have kh := hH.1
  obtain ⟨⟨kw, -⟩, ⟨k14, k15, k16, k17⟩, hWS, hWC, hWT⟩ := id hW
  have kws := hWS.1
  have kwc := hWC.1
  have hR9 := hR
  obtain ⟨⟨p, rX⟩, rT, ⟨rs0, rs1⟩, rH, rS, ⟨E0, rC⟩, rc⟩ := hR
  obtain ⟨⟨⟨hn1, hn2⟩, ⟨hkk1, hkk2⟩, ⟨hE4, hE2⟩, hp0, hpr, hc0⟩, t3, t4, t5, t6, tE, tp, tcb, tc⟩ := id rT
  have hLn := ac_Lt_len T hn2
  refine ac_met (on := (RX6, "forcedNumbers")) rfl rfl (Nat.le_of_ble_eq_true rfl) (ls := [(2, (x : Int)), (3, 0), (3, 0)]) rfl ?_
  refine ac_aload_n (q := 1) dX6_forcedNumbers_0 rfl rfl ?_
  refine ac_get (q := 4) dX6_forcedNumbers_1 fl_X6_46 (by assumption) rfl (ac_rdr rfl hA9.1.2.2.2.2.2.2.2.2) ?_
  refine ac_aload_n (q := 5) dX6_forcedNumbers_4 rfl rfl ?_
  refine ac_get (q := 8) dX6_forcedNumbers_5 fl_X6_19 (by assumption) rfl (ac_rdr rfl hA9.1.2.2.1) ?_
  refine ac_iconst (q := 9) dX6_forcedNumbers_8 rfl ?_
  refine ac_cv (q := 12) (k_X5_survey (d := d - 1) (w := x + 86) (t := x + 3) (wanted := 0) (by omega) hW ⟨by decide, by decide⟩ rC rS hT0 rT (by omega)) ml_X6_113 (by assumption) dX6_forcedNumbers_9 rfl rfl rfl (by omega) (Nat.le_of_ble_eq_true rfl) (Nat.zero_le _) (Nat.zero_le _) (fun m1 h1 => ?_)
  obtain ⟨w1, R1, f1⟩ := h1
  have R1 : ac_RW m1 (x + 86) T.2.2.2.2 obs 0 (ac_Lt T) (ac_cb (ac_Lt T)) (ac_dead (ac_may T.2.1 T.2.2.1 T.2.2.2.1) T.1 []) (ac_deep (ac_may T.2.1 T.2.2.1 T.2.2.2.1) T.1 []) := R1
  have A1 := ac_RA_w hR9 w1.2.2 ⟨_, w1.2.1⟩ (fun k' a => f1 k' (by omega))
  refine ac_iconst (q := 13) dX6_forcedNumbers_12 rfl ?_
  refine ac_istore_n (q := 14) (j := 1) rfl dX6_forcedNumbers_13 rfl (Nat.le_of_ble_eq_true rfl) rfl rfl ?_
  simp only [List.set_cons_succ, List.set_cons_zero]
  refine ac_iconst (q := 15) dX6_forcedNumbers_14 rfl ?_
  refine ac_istore_n (q := 16) (j := 2) rfl dX6_forcedNumbers_15 rfl (Nat.le_of_ble_eq_true rfl) rfl rfl ?_
  simp only [List.set_cons_succ, List.set_cons_zero]
  have e3 : m1 (x + 3) 3 = (T.1 : Int) := A1.2.1.2.1
  have hcb : ∀ y, ac_cb (ac_Lt T) y < 2048 := fun y => Nat.lt_trans (ac_cb_lt (fun l hl c hc => by have := ((ac_Lt_mem hkk2).mp hl).2.1 c hc; omega)) (by decide)
  have loop : ∀ (r i : Nat), i + r = T.1 → ac_V G (RX6, "forcedNumbers") cX6_forcedNumbers 3 (some .int) d 0 0 (ac_R Y [(0, (ac_frc (ac_Lt T) T.1 : Int))] (fun m => ac_RA m x s T hs s0 s1 obs ch ∧ ac_fA mm m x)) 0 0 Y m1 16 [(2, (x : Int)), (0, ((ac_frc (ac_Lt T) i : Nat) : Int)), (0, ((i + 1 : Nat) : Int))] [] := by
    intro r
    induction r with
    | zero =>
      intro i hi
      obtain rfl : i = T.1 := by omega
      refine ac_iload_n (q := 17) dX6_forcedNumbers_16 rfl rfl ?_
      refine ac_aload_n (q := 18) dX6_forcedNumbers_17 rfl rfl ?_
      refine ac_get (q := 21) dX6_forcedNumbers_18 fl_X6_19 (by assumption) rfl (ac_rdr rfl hA9.1.2.2.1) ?_
      refine ac_get (q := 24) dX6_forcedNumbers_21 fl_X6_141 kn0 rfl (ac_rdi rfl e3) ?_
      refine ac_icmp_gt (q := 27) (tgt := 50) dX6_forcedNumbers_24 rfl rfl ⟨by omega, by omega⟩ ⟨by omega, by omega⟩ (fun h24 => ?_) (fun h24 => ?_)
      · refine ac_iload_n (q := 51) dX6_forcedNumbers_50 rfl rfl ?_
        refine ac_ireturn dX6_forcedNumbers_51 rfl (Nat.zero_le _) (Nat.zero_le _) ?_
        exact ⟨rfl, rfl, A1, fun k' a => f1 k' (by omega)⟩
      · exfalso; omega
    | succ r ih =>
      intro i hi
      have ei : ((i + 1 : Nat) : Int) + 1 = ((i + 1 + 1 : Nat) : Int) := rfl
      have hs := ih (i + 1) (by omega)
      rw [ac_frc] at hs
      refine ac_iload_n (q := 17) dX6_forcedNumbers_16 rfl rfl ?_
      refine ac_aload_n (q := 18) dX6_forcedNumbers_17 rfl rfl ?_
      refine ac_get (q := 21) dX6_forcedNumbers_18 fl_X6_19 (by assumption) rfl (ac_rdr rfl hA9.1.2.2.1) ?_
      refine ac_get (q := 24) dX6_forcedNumbers_21 fl_X6_141 kn0 rfl (ac_rdi rfl e3) ?_
      refine ac_icmp_gt (q := 27) (tgt := 50) dX6_forcedNumbers_24 rfl rfl ⟨by omega, by omega⟩ ⟨by omega, by omega⟩ (fun h24 => ?_) (fun h24 => ?_)
      · exfalso; omega
      · refine ac_aload_n (q := 28) dX6_forcedNumbers_27 rfl rfl ?_
        refine ac_get (q := 31) dX6_forcedNumbers_28 fl_X6_46 (by assumption) rfl (ac_rdr rfl hA9.1.2.2.2.2.2.2.2.2) ?_
        refine ac_iload_n (q := 32) dX6_forcedNumbers_31 rfl rfl ?_
        refine ac_cvp (q := 35) (k_X5_forces (w := x + 86) (p := ac_cb (ac_Lt T) (i + 1)) (d := d - 1) (by omega) hW (R1.2.2 (i + 1) (by omega) (by omega)) ⟨by omega, by omega⟩ (hcb _)) ml_X6_120 (by assumption) dX6_forcedNumbers_32 rfl rfl rfl (by omega) (Nat.le_of_ble_eq_true rfl) (Nat.zero_le _) (Nat.zero_le _) ?_
        refine ac_bif_eq (q := 38) (tgt := 44) dX6_forcedNumbers_35 rfl rfl (fun h35 => ?_) (fun h35 => ?_)
        · rw [if_neg h35, Nat.or_zero] at hs
          refine ac_iinc (q := 47) dX6_forcedNumbers_44 rfl (Nat.le_of_ble_eq_true rfl) rfl rfl rfl rfl ?_
          simp only [List.set_cons_succ, List.set_cons_zero]
          refine ac_goto (q := 16) dX6_forcedNumbers_47 rfl ?_
          exact ac_ls (by rw [ei]) hs
        · rw [if_pos h35] at hs
          refine ac_iload_n (q := 39) dX6_forcedNumbers_38 rfl rfl ?_
          refine ac_iconst (q := 40) dX6_forcedNumbers_39 rfl ?_
          refine ac_iload_n (q := 41) dX6_forcedNumbers_40 rfl rfl ?_
          refine ac_ishl1 (q := 42) (k := i + 1) dX6_forcedNumbers_41 rfl (by omega) ?_
          refine ac_ior (q := 43) dX6_forcedNumbers_42 rfl ?_
          refine ac_istore_n (q := 44) (j := 1) rfl dX6_forcedNumbers_43 rfl (Nat.le_of_ble_eq_true rfl) rfl rfl ?_
          simp only [List.set_cons_succ, List.set_cons_zero]
          refine ac_iinc (q := 47) dX6_forcedNumbers_44 rfl (Nat.le_of_ble_eq_true rfl) rfl rfl rfl rfl ?_
          simp only [List.set_cons_succ, List.set_cons_zero]
          refine ac_goto (q := 16) dX6_forcedNumbers_47 rfl ?_
          exact ac_ls (by rw [ei]) hs
  exact loop T.1 0 (by omega)

theorem ac_pcx_le (T : ac_Tk) (x : Nat) : ∀ c, ac_pcx T x c ≤ c
  | 0 => Nat.le_refl _
  | c + 1 => by
    have := ac_pcx_le T x c
    show ac_pcx T x c + (if ac_pt T x c = true then 1 else 0) ≤ _
    split <;> omega
theorem ac_pca_le (T : ac_Tk) (hk : T.2.1 ≤ 3) : ∀ m, ac_pca T m ≤ 3 * m
  | 0 => Nat.le_refl _
  | m + 1 => by
    have h1 := ac_pca_le T hk m
    have h2 := ac_pcx_le T (m + 1) T.2.1
    show ac_pca T m + ac_pcx T (m + 1) T.2.1 ≤ _
    omega

set_option maxHeartbeats 8000000 in
theorem k_X6_paintable {G : ac_G} {Y : ac_Y} {mm : ac_M} {d x : Nat} {s : List Nat} {T : ac_Tk} {hs : List ac_Tk} {s0 s1 : Option ac_Tk} {obs : List ac_Ob} {ch : Int} (hd : 25 ≤ d) (hA : ac_isA Y x) (hR : ac_RA mm x s T hs s0 s1 obs ch) (hok : ac_okS T) : ac_C G yX6_paintable cX6_paintable 4 (some .int) d 0 0 Y mm [(2, (x : Int))] (ac_R Y [(0, (ac_pca T T.1 : Int))] (fun m => ac_RA m x s T hs s0 s1 obs ch ∧ ac_fA mm m x)) := by
  have hA9 := hA
  obtain ⟨⟨kx, -⟩, hX, ⟨hT0, hT1, hT2, hT3⟩, ⟨ka, -, -, hS0, hS1⟩, hH, hW⟩ := hA
  have ktx := hX.1
  have kn0 := hT0.1
  have kn1 := hT1.1
  have kn2 := hT2.1
  have kn3 := hT3.1
  have kh := hH.1
  obtain ⟨⟨kw, -⟩, ⟨k14, k15, k16, k17⟩, hWS, hWC, hWT⟩ := id hW
  have kws := hWS.1
  have kwc := hWC.1
  have hR9 := hR
  obtain ⟨⟨p, rX⟩, rT, ⟨rs0, rs1⟩, rH, rS, ⟨E0, rC⟩, rc⟩ := hR
  obtain ⟨⟨⟨hn1, hn2⟩, ⟨hkk1, hkk2⟩, ⟨hE4, hE2⟩, hp0, hpr, hc0⟩, t3, t4, t5, t6, tE, tp, tcb, tc⟩ := id rT
  have hLn := ac_Lt_len T hn2
  have inner : ∀ (r i j q : Nat) (m : ac_M), j + r = T.2.1 → i + 1 ≤ T.1 → q ≤ 100 → ac_RA m x s T hs s0 s1 obs ch → ac_fA mm m x → (∀ m, ac_RA m x s T hs s0 s1 obs ch → ac_fA mm m x → ac_V G (RX6, "paintable") cX6_paintable 4 (some .int) d 0 0 (ac_R Y [(0, (ac_pca T T.1 : Int))] (fun m => ac_RA m x s T hs s0 s1 obs ch ∧ ac_fA mm m x)) 0 0 Y m 50 [(2, (x : Int)), (0, ((q + ac_pcx T (i + 1) T.2.1 : Nat) : Int)), (0, ((i + 1 : Nat) : Int)), (3, 0)] []) → ac_V G (RX6, "paintable") cX6_paintable 4 (some .int) d 0 0 (ac_R Y [(0, (ac_pca T T.1 : Int))] (fun m => ac_RA m x s T hs s0 s1 obs ch ∧ ac_fA mm m x)) 0 0 Y m 17 [(2, (x : Int)), (0, ((q + ac_pcx T (i + 1) j : Nat) : Int)), (0, ((i + 1 : Nat) : Int)), (0, (j : Int))] [] := by
    intro r
    induction r with
    | zero =>
      intro i j q m hj hi hq A f hK
      obtain rfl : j = T.2.1 := by omega
      have e4 : m (x + 3) 4 = (T.2.1 : Int) := A.2.1.2.2.1
      refine ac_iload_n (q := 18) dX6_paintable_17 rfl rfl ?_
      refine ac_aload_n (q := 19) dX6_paintable_18 rfl rfl ?_
      refine ac_get (q := 22) dX6_paintable_19 fl_X6_19 (by assumption) rfl (ac_rdr rfl hA9.1.2.2.1) ?_
      refine ac_get (q := 25) dX6_paintable_22 fl_X6_202 kn0 rfl (ac_rdi rfl e4) ?_
      refine ac_icmp_ge (q := 28) (tgt := 50) dX6_paintable_25 rfl rfl ⟨by omega, by omega⟩ ⟨by omega, by omega⟩ (fun h25 => ?_) (fun h25 => ?_)
      · refine ac_drop [(2, (x : Int)), (0, ((q + ac_pcx T (i + 1) T.2.1 : Nat) : Int)), (0, ((i + 1 : Nat) : Int)), (3, 0)] (by repeat (first | exact trivial | refine ⟨Or.inl rfl, ?_⟩ | refine ⟨Or.inr rfl, ?_⟩)) ?_
        exact hK m A f
      · exfalso; omega
    | succ r ih =>
      intro i j q m hj hi hq A f hK
      have ej : ((j : Nat) : Int) + 1 = ((j + 1 : Nat) : Int) := rfl
      have e4 : m (x + 3) 4 = (T.2.1 : Int) := A.2.1.2.2.1
      obtain ⟨Ez, rCz⟩ := A.2.2.2.2.2.1
      have hs := fun m => ih i (j + 1) q m (by omega) hi hq
      have hS : ac_pcx T (i + 1) (j + 1) = ac_pcx T (i + 1) j + if ac_pt T (i + 1) j = true then 1 else 0 := rfl
      have hv : ac_rfp T ((i + 1 : Nat) : Int) (j : Int) = if ac_pt T (i + 1) j = true then 0 else -3 := by
        unfold ac_rfp; rw [if_neg (by omega), if_neg (by omega), Int.toNat_natCast, Int.toNat_natCast]
      refine ac_iload_n (q := 18) dX6_paintable_17 rfl rfl ?_
      refine ac_aload_n (q := 19) dX6_paintable_18 rfl rfl ?_
      refine ac_get (q := 22) dX6_paintable_19 fl_X6_19 (by assumption) rfl (ac_rdr rfl hA9.1.2.2.1) ?_
      refine ac_get (q := 25) dX6_paintable_22 fl_X6_202 kn0 rfl (ac_rdi rfl e4) ?_
      refine ac_icmp_ge (q := 28) (tgt := 50) dX6_paintable_25 rfl rfl ⟨by omega, by omega⟩ ⟨by omega, by omega⟩ (fun h25 => ?_) (fun h25 => ?_)
      · exfalso; omega
      · refine ac_aload_n (q := 29) dX6_paintable_28 rfl rfl ?_
        refine ac_aload_n (q := 30) dX6_paintable_29 rfl rfl ?_
        refine ac_get (q := 33) dX6_paintable_30 fl_X6_19 (by assumption) rfl (ac_rdr rfl hA9.1.2.2.1) ?_
        refine ac_iload_n (q := 34) dX6_paintable_33 rfl rfl ?_
        refine ac_iload_n (q := 35) dX6_paintable_34 rfl rfl ?_
        refine ac_cv (q := 38) (k_X6_refusalOfPaint (u := x + 3) (d := d - 1) (by omega) hA9 (Or.inl rfl) A.2.1 hok A.2.2.2.2.1 rCz ⟨by omega, by omega⟩ ⟨by omega, by omega⟩) ml_X6_144 (by assumption) dX6_paintable_35 rfl rfl rfl (by omega) (Nat.le_of_ble_eq_true rfl) (Nat.zero_le _) (Nat.zero_le _) (fun m1 h1 => ?_)
        obtain ⟨gs1, gc1, f1⟩ := h1
        have A1 := ac_RA_w A gs1 gc1 (fun k' a => f1 k' (by omega))
        have fA1 : ac_fA mm m1 x := fun k' a => (f1 k' (by omega)).trans (f k' a)
        have hs := hs m1 A1 fA1 hK
        rw [hv]
        refine ac_if_ne (q := 41) (tgt := 44) dX6_paintable_38 rfl rfl (by split <;> exact ⟨by decide, by decide⟩) (fun h38 => ?_) (fun h38 => ?_)
        · have hp : ¬ ac_pt T (i + 1) j = true := fun z => h38 (by rw [if_pos z])
          rw [if_neg hp, Nat.add_zero] at hS
          rw [hS] at hs
          refine ac_iinc (q := 47) dX6_paintable_44 rfl (Nat.le_of_ble_eq_true rfl) rfl rfl rfl rfl ?_
          simp only [List.set_cons_succ, List.set_cons_zero]
          refine ac_goto (q := 17) dX6_paintable_47 rfl ?_
          exact ac_ls (by rw [ej]; rfl) hs
        · have hp : ac_pt T (i + 1) j = true := Decidable.byContradiction fun z => by rw [if_neg z] at h38; exact absurd h38 (by decide)
          rw [if_pos hp] at hS
          rw [hS] at hs
          refine ac_iinc (q := 44) dX6_paintable_41 rfl (Nat.le_of_ble_eq_true rfl) rfl rfl rfl rfl ?_
          simp only [List.set_cons_succ, List.set_cons_zero]
          refine ac_iinc (q := 47) dX6_paintable_44 rfl (Nat.le_of_ble_eq_true rfl) rfl rfl rfl rfl ?_
          simp only [List.set_cons_succ, List.set_cons_zero]
          refine ac_goto (q := 17) dX6_paintable_47 rfl ?_
          exact ac_ls (by rw [ej]; rfl) hs
  have outer : ∀ (r i : Nat) (m : ac_M), i + r = T.1 → ac_RA m x s T hs s0 s1 obs ch → ac_fA mm m x → ac_V G (RX6, "paintable") cX6_paintable 4 (some .int) d 0 0 (ac_R Y [(0, (ac_pca T T.1 : Int))] (fun m => ac_RA m x s T hs s0 s1 obs ch ∧ ac_fA mm m x)) 0 0 Y m 4 [(2, (x : Int)), (0, ((ac_pca T i : Nat) : Int)), (0, ((i + 1 : Nat) : Int)), (3, 0)] [] := by
    intro r
    induction r with
    | zero =>
      intro i m hi A f
      obtain rfl : i = T.1 := by omega
      have e3 : m (x + 3) 3 = (T.1 : Int) := A.2.1.2.1
      refine ac_iload_n (q := 5) dX6_paintable_4 rfl rfl ?_
      refine ac_aload_n (q := 6) dX6_paintable_5 rfl rfl ?_
      refine ac_get (q := 9) dX6_paintable_6 fl_X6_19 (by assumption) rfl (ac_rdr rfl hA9.1.2.2.1) ?_
      refine ac_get (q := 12) dX6_paintable_9 fl_X6_141 kn0 rfl (ac_rdi rfl e3) ?_
      refine ac_icmp_gt (q := 15) (tgt := 56) dX6_paintable_12 rfl rfl ⟨by omega, by omega⟩ ⟨by omega, by omega⟩ (fun h12 => ?_) (fun h12 => ?_)
      · refine ac_iload_n (q := 57) dX6_paintable_56 rfl rfl ?_
        refine ac_ireturn dX6_paintable_57 rfl (Nat.zero_le _) (Nat.zero_le _) ?_
        exact ⟨rfl, rfl, A, f⟩
      · exfalso; omega
    | succ r ih =>
      intro i m hi A f
      have e3 : m (x + 3) 3 = (T.1 : Int) := A.2.1.2.1
      have ei : ((i + 1 : Nat) : Int) + 1 = ((i + 1 + 1 : Nat) : Int) := rfl
      have hple := ac_pca_le T hkk2 i
      refine ac_iload_n (q := 5) dX6_paintable_4 rfl rfl ?_
      refine ac_aload_n (q := 6) dX6_paintable_5 rfl rfl ?_
      refine ac_get (q := 9) dX6_paintable_6 fl_X6_19 (by assumption) rfl (ac_rdr rfl hA9.1.2.2.1) ?_
      refine ac_get (q := 12) dX6_paintable_9 fl_X6_141 kn0 rfl (ac_rdi rfl e3) ?_
      refine ac_icmp_gt (q := 15) (tgt := 56) dX6_paintable_12 rfl rfl ⟨by omega, by omega⟩ ⟨by omega, by omega⟩ (fun h12 => ?_) (fun h12 => ?_)
      · exfalso; omega
      · refine ac_iconst (q := 16) dX6_paintable_15 rfl ?_
        refine ac_istore_n (q := 17) (j := 3) rfl dX6_paintable_16 rfl (Nat.le_of_ble_eq_true rfl) rfl rfl ?_
        simp only [List.set_cons_succ, List.set_cons_zero]
        refine inner T.2.1 i 0 (ac_pca T i) m (by omega) (by omega) (by omega) A f (fun m1 A1 f1 => ?_)
        refine ac_iinc (q := 53) dX6_paintable_50 rfl (Nat.le_of_ble_eq_true rfl) rfl rfl rfl rfl ?_
        simp only [List.set_cons_succ, List.set_cons_zero]
        refine ac_goto (q := 4) dX6_paintable_53 rfl ?_
        exact ac_ls (by rw [ei]; rfl) (ih (i + 1) m1 (by omega) A1 f1)
  refine ac_met (on := (RX6, "paintable")) rfl rfl (Nat.le_of_ble_eq_true rfl) (ls := [(2, (x : Int)), (3, 0), (3, 0), (3, 0)]) rfl ?_
  refine ac_iconst (q := 1) dX6_paintable_0 rfl ?_
  refine ac_istore_n (q := 2) (j := 1) rfl dX6_paintable_1 rfl (Nat.le_of_ble_eq_true rfl) rfl rfl ?_
  simp only [List.set_cons_succ, List.set_cons_zero]
  refine ac_iconst (q := 3) dX6_paintable_2 rfl ?_
  refine ac_istore_n (q := 4) (j := 2) rfl dX6_paintable_3 rfl (Nat.le_of_ble_eq_true rfl) rfl rfl ?_
  simp only [List.set_cons_succ, List.set_cons_zero]
  exact outer T.1 0 mm (by omega) hR9 (ac_fA_r mm x)

set_option maxHeartbeats 8000000 in
theorem k_X6_ask {G : ac_G} {Y : ac_Y} {mm : ac_M} {d x : Nat} {s : List Nat} {T : ac_Tk} {hs : List ac_Tk} {s0 s1 : Option ac_Tk} {obs : List ac_Ob} {ch : Int} {w : Int} (hd : 30 ≤ d) (hA : ac_isA Y x) (hR : ac_RA mm x s T hs s0 s1 obs ch) (hok : ac_okS T) (hw : ac_in w) : ac_C G yX6_ask cX6_ask 2 (some .int) d 0 0 Y mm [(2, (x : Int)), (0, w)] (ac_R Y [(0, ac_an_ask T w)] (fun m => ac_RA m x s T hs s0 s1 obs ch ∧ ac_fA mm m x)) := by
  have hA9 := hA
  obtain ⟨⟨kx, -⟩, hX, ⟨hT0, hT1, hT2, hT3⟩, ⟨ka, -, -, hS0, hS1⟩, hH, hW⟩ := hA
  have ktx := hX.1
  have kn0 := hT0.1
  have kn1 := hT1.1
  have kn2 := hT2.1
  have kn3 := hT3.1
  have kh := hH.1
  obtain ⟨⟨kw, -⟩, ⟨k14, k15, k16, k17⟩, hWS, hWC, hWT⟩ := id hW
  have kws := hWS.1
  have kwc := hWC.1
  have hR9 := hR
  obtain ⟨⟨p, rX⟩, rT, ⟨rs0, rs1⟩, rH, rS, ⟨E0, rC⟩, rc⟩ := hR
  obtain ⟨⟨⟨hn1, hn2⟩, ⟨hkk1, hkk2⟩, ⟨hE4, hE2⟩, hp0, hpr, hc0⟩, t3, t4, t5, t6, tE, tp, tcb, tc⟩ := id rT
  have hLn := ac_Lt_len T hn2
  obtain ⟨hw1, hw2⟩ := hw
  unfold ac_an_ask
  refine ac_met (on := (RX6, "ask")) rfl rfl (Nat.le_of_ble_eq_true rfl) (ls := [(2, (x : Int)), (0, w)]) rfl ?_
  refine ac_iload_n (q := 1) dX6_ask_0 rfl rfl ?_
  by_cases hsw : w < 0 ∨ 6 < w
  · refine ac_tabOut (tgt := 135) dX6_ask_1 ⟨by omega, by omega⟩ hsw rfl ?_
    refine ac_bipush (q := 137) dX6_ask_135 rfl (by decide) ?_
    refine ac_ireturn dX6_ask_137 rfl (Nat.zero_le _) (Nat.zero_le _) ?_
    rw [if_neg (by omega), if_neg (by omega), if_neg (by omega), if_neg (by omega), if_neg (by omega), if_neg (by omega), if_neg (by omega)]; exact ⟨rfl, rfl, hR9, ac_fA_r mm x⟩
  · rcases (show w = 0 ∨ w = 1 ∨ w = 2 ∨ w = 3 ∨ w = 4 ∨ w = 5 ∨ w = 6 by omega) with rfl | rfl | rfl | rfl | rfl | rfl | rfl
    · refine ac_tabIn (off := 43) (tgt := 44) dX6_ask_1 ⟨by decide, by decide⟩ (by decide) (by decide) rfl rfl ?_
      refine ac_aload_n (q := 45) dX6_ask_44 rfl rfl ?_
      refine ac_get (q := 48) dX6_ask_45 fl_X6_46 (by assumption) rfl (ac_rdr rfl hA9.1.2.2.2.2.2.2.2.2) ?_
      refine ac_aload_n (q := 49) dX6_ask_48 rfl rfl ?_
      refine ac_get (q := 52) dX6_ask_49 fl_X6_19 (by assumption) rfl (ac_rdr rfl hA9.1.2.2.1) ?_
      refine ac_iconst (q := 53) dX6_ask_52 rfl ?_
      refine ac_cv (q := 56) (k_X5_survey (d := d - 1) (w := x + 86) (t := x + 3) (wanted := 0) (by omega) hW ⟨by decide, by decide⟩ rC rS hT0 rT (by omega)) ml_X6_113 (by assumption) dX6_ask_53 rfl rfl rfl (by omega) (Nat.le_of_ble_eq_true rfl) (Nat.zero_le _) (Nat.zero_le _) (fun m1 h1 => ?_)
      obtain ⟨w1, R1, f1⟩ := h1
      have R1 : ac_RW m1 (x + 86) T.2.2.2.2 obs 0 (ac_Lt T) (ac_cb (ac_Lt T)) (ac_dead (ac_may T.2.1 T.2.2.1 T.2.2.2.1) T.1 []) (ac_deep (ac_may T.2.1 T.2.2.1 T.2.2.2.1) T.1 []) := R1
      have A1 := ac_RA_w hR9 w1.2.2 ⟨_, w1.2.1⟩ (fun k' a => f1 k' (by omega))
      refine ac_aload_n (q := 57) dX6_ask_56 rfl rfl ?_
      refine ac_get (q := 60) dX6_ask_57 fl_X6_46 (by assumption) rfl (ac_rdr rfl hA9.1.2.2.2.2.2.2.2.2) ?_
      refine ac_get (q := 63) dX6_ask_60 fl_X6_123 kw rfl (ac_rdi rfl R1.1.2.1) ?_
      refine ac_ireturn dX6_ask_63 rfl (Nat.zero_le _) (Nat.zero_le _) ?_
      rw [if_pos rfl]; exact ⟨rfl, rfl, A1, fun k' a => f1 k' (by omega)⟩
    · refine ac_tabIn (off := 63) (tgt := 64) dX6_ask_1 ⟨by decide, by decide⟩ (by decide) (by decide) rfl rfl ?_
      refine ac_aload_n (q := 65) dX6_ask_64 rfl rfl ?_
      refine ac_get (q := 68) dX6_ask_65 fl_X6_46 (by assumption) rfl (ac_rdr rfl hA9.1.2.2.2.2.2.2.2.2) ?_
      refine ac_aload_n (q := 69) dX6_ask_68 rfl rfl ?_
      refine ac_get (q := 72) dX6_ask_69 fl_X6_19 (by assumption) rfl (ac_rdr rfl hA9.1.2.2.1) ?_
      refine ac_iconst (q := 73) dX6_ask_72 rfl ?_
      refine ac_cv (q := 76) (k_X5_survey (d := d - 1) (w := x + 86) (t := x + 3) (wanted := 0) (by omega) hW ⟨by decide, by decide⟩ rC rS hT0 rT (by omega)) ml_X6_113 (by assumption) dX6_ask_73 rfl rfl rfl (by omega) (Nat.le_of_ble_eq_true rfl) (Nat.zero_le _) (Nat.zero_le _) (fun m1 h1 => ?_)
      obtain ⟨w1, R1, f1⟩ := h1
      have R1 : ac_RW m1 (x + 86) T.2.2.2.2 obs 0 (ac_Lt T) (ac_cb (ac_Lt T)) (ac_dead (ac_may T.2.1 T.2.2.1 T.2.2.2.1) T.1 []) (ac_deep (ac_may T.2.1 T.2.2.1 T.2.2.2.1) T.1 []) := R1
      have A1 := ac_RA_w hR9 w1.2.2 ⟨_, w1.2.1⟩ (fun k' a => f1 k' (by omega))
      refine ac_aload_n (q := 77) dX6_ask_76 rfl rfl ?_
      refine ac_get (q := 80) dX6_ask_77 fl_X6_46 (by assumption) rfl (ac_rdr rfl hA9.1.2.2.2.2.2.2.2.2) ?_
      refine ac_get (q := 83) dX6_ask_80 fl_X6_151 kw rfl (ac_rdi rfl R1.1.2.2.1) ?_
      refine ac_ireturn dX6_ask_83 rfl (Nat.zero_le _) (Nat.zero_le _) ?_
      rw [if_neg (by decide), if_pos rfl]; exact ⟨rfl, rfl, A1, fun k' a => f1 k' (by omega)⟩
    · refine ac_tabIn (off := 83) (tgt := 84) dX6_ask_1 ⟨by decide, by decide⟩ (by decide) (by decide) rfl rfl ?_
      refine ac_aload_n (q := 85) dX6_ask_84 rfl rfl ?_
      refine ac_aload_n (q := 86) dX6_ask_85 rfl rfl ?_
      refine ac_get (q := 89) dX6_ask_86 fl_X6_19 (by assumption) rfl (ac_rdr rfl hA9.1.2.2.1) ?_
      refine ac_cv (q := 92) (k_X6_limit (u := x + 3) (d := d - 1) (by omega) hA9 (Or.inl rfl) rT rS rC) ml_X6_183 (by assumption) dX6_ask_89 rfl rfl rfl (by omega) (Nat.le_of_ble_eq_true rfl) (Nat.zero_le _) (Nat.zero_le _) (fun m1 h1 => ?_)
      obtain ⟨gs1, gc1, f1⟩ := h1
      have A1 := ac_RA_w hR9 gs1 gc1 (fun k' a => f1 k' (by omega) (by omega))
      refine ac_ireturn dX6_ask_92 rfl (Nat.zero_le _) (Nat.zero_le _) ?_
      rw [if_neg (by decide), if_neg (by decide), if_pos rfl]; exact ⟨rfl, rfl, A1, fun k' a => f1 k' (by omega) (by omega)⟩
    · refine ac_tabIn (off := 92) (tgt := 93) dX6_ask_1 ⟨by decide, by decide⟩ (by decide) (by decide) rfl rfl ?_
      refine ac_aload_n (q := 94) dX6_ask_93 rfl rfl ?_
      refine ac_cv (q := 97) (k_X6_forcedNumbers (d := d - 1) (by omega) hA9 hR9) ml_X6_186 (by assumption) dX6_ask_94 rfl rfl rfl (by omega) (Nat.le_of_ble_eq_true rfl) (Nat.zero_le _) (Nat.zero_le _) (fun m1 h1 => ?_)
      obtain ⟨A1, f1⟩ := h1
      refine ac_ireturn dX6_ask_97 rfl (Nat.zero_le _) (Nat.zero_le _) ?_
      rw [if_neg (by decide), if_neg (by decide), if_neg (by decide), if_pos rfl]; exact ⟨rfl, rfl, A1, f1⟩
    · refine ac_tabIn (off := 97) (tgt := 98) dX6_ask_1 ⟨by decide, by decide⟩ (by decide) (by decide) rfl rfl ?_
      refine ac_aload_n (q := 99) dX6_ask_98 rfl rfl ?_
      refine ac_cv (q := 102) (k_X6_paintable (d := d - 1) (by omega) hA9 hR9 hok) ml_X6_190 (by assumption) dX6_ask_99 rfl rfl rfl (by omega) (Nat.le_of_ble_eq_true rfl) (Nat.zero_le _) (Nat.zero_le _) (fun m1 h1 => ?_)
      obtain ⟨A1, f1⟩ := h1
      refine ac_ireturn dX6_ask_102 rfl (Nat.zero_le _) (Nat.zero_le _) ?_
      rw [if_neg (by decide), if_neg (by decide), if_neg (by decide), if_neg (by decide), if_pos rfl]; exact ⟨rfl, rfl, A1, f1⟩
    · refine ac_tabIn (off := 102) (tgt := 103) dX6_ask_1 ⟨by decide, by decide⟩ (by decide) (by decide) rfl rfl ?_
      refine ac_aload_n (q := 104) dX6_ask_103 rfl rfl ?_
      refine ac_get (q := 107) dX6_ask_104 fl_X6_46 (by assumption) rfl (ac_rdr rfl hA9.1.2.2.2.2.2.2.2.2) ?_
      refine ac_aload_n (q := 108) dX6_ask_107 rfl rfl ?_
      refine ac_get (q := 111) dX6_ask_108 fl_X6_19 (by assumption) rfl (ac_rdr rfl hA9.1.2.2.1) ?_
      refine ac_cv (q := 114) (k_X5_countKinds (w := x + 86) (t := x + 3) (d := d - 1) (by omega) hW rC rS hT0 rT (by omega)) ml_X6_193 (by assumption) dX6_ask_111 rfl rfl rfl (by omega) (Nat.le_of_ble_eq_true rfl) (Nat.zero_le _) (Nat.zero_le _) (fun m1 h1 => ?_)
      obtain ⟨w1, f1⟩ := h1
      have A1 := ac_RA_w hR9 w1.2.2 ⟨_, w1.2.1⟩ (fun k' a => f1 k' (by omega))
      refine ac_ireturn dX6_ask_114 rfl (Nat.zero_le _) (Nat.zero_le _) ?_
      rw [if_neg (by decide), if_neg (by decide), if_neg (by decide), if_neg (by decide), if_neg (by decide), if_pos rfl]; exact ⟨rfl, rfl, A1, fun k' a => f1 k' (by omega)⟩
    · refine ac_tabIn (off := 114) (tgt := 115) dX6_ask_1 ⟨by decide, by decide⟩ (by decide) (by decide) rfl rfl ?_
      refine ac_aload_n (q := 116) dX6_ask_115 rfl rfl ?_
      refine ac_get (q := 119) dX6_ask_116 fl_X6_46 (by assumption) rfl (ac_rdr rfl hA9.1.2.2.2.2.2.2.2.2) ?_
      refine ac_aload_n (q := 120) dX6_ask_119 rfl rfl ?_
      refine ac_get (q := 123) dX6_ask_120 fl_X6_19 (by assumption) rfl (ac_rdr rfl hA9.1.2.2.1) ?_
      refine ac_iconst (q := 124) dX6_ask_123 rfl ?_
      refine ac_cv (q := 127) (k_X5_survey (d := d - 1) (w := x + 86) (t := x + 3) (wanted := 0) (by omega) hW ⟨by decide, by decide⟩ rC rS hT0 rT (by omega)) ml_X6_113 (by assumption) dX6_ask_124 rfl rfl rfl (by omega) (Nat.le_of_ble_eq_true rfl) (Nat.zero_le _) (Nat.zero_le _) (fun m1 h1 => ?_)
      obtain ⟨w1, R1, f1⟩ := h1
      have R1 : ac_RW m1 (x + 86) T.2.2.2.2 obs 0 (ac_Lt T) (ac_cb (ac_Lt T)) (ac_dead (ac_may T.2.1 T.2.2.1 T.2.2.2.1) T.1 []) (ac_deep (ac_may T.2.1 T.2.2.1 T.2.2.2.1) T.1 []) := R1
      have A1 := ac_RA_w hR9 w1.2.2 ⟨_, w1.2.1⟩ (fun k' a => f1 k' (by omega))
      refine ac_aload_n (q := 128) dX6_ask_127 rfl rfl ?_
      refine ac_get (q := 131) dX6_ask_128 fl_X6_46 (by assumption) rfl (ac_rdr rfl hA9.1.2.2.2.2.2.2.2.2) ?_
      refine ac_get (q := 134) dX6_ask_131 fl_X6_196 kw rfl (ac_rdi rfl R1.1.2.2.2.1) ?_
      refine ac_ireturn dX6_ask_134 rfl (Nat.zero_le _) (Nat.zero_le _) ?_
      rw [if_neg (by decide), if_neg (by decide), if_neg (by decide), if_neg (by decide), if_neg (by decide), if_neg (by decide), if_pos rfl]; exact ⟨rfl, rfl, A1, fun k' a => f1 k' (by omega)⟩

set_option maxHeartbeats 8000000 in
theorem k_X6_on {G : ac_G} {Y : ac_Y} {mm : ac_M} {d x : Nat} {s : List Nat} {T : ac_Tk} {hs : List ac_Tk} {s0 s1 : Option ac_Tk} {obs : List ac_Ob} {ch : Int} (hd : 30 ≤ d) (hA : ac_isA Y x) (hR : ac_RA mm x s T hs s0 s1 obs ch)  : ac_C G yX6_on cX6_on 4 (some .int) d 0 0 Y mm [(2, (x : Int))] (ac_R Y [(0, ac_an_on T)] (fun m => ac_RA m x s T hs s0 s1 obs ch ∧ ac_fA mm m x)) := by
  have hA9 := hA
  obtain ⟨⟨kx, -⟩, hX, ⟨hT0, hT1, hT2, hT3⟩, ⟨ka, -, -, hS0, hS1⟩, hH, hW⟩ := hA
  have ktx := hX.1
  have kn0 := hT0.1
  have kn1 := hT1.1
  have kn2 := hT2.1
  have kn3 := hT3.1
  have kh := hH.1
  obtain ⟨⟨kw, -⟩, ⟨k14, k15, k16, k17⟩, hWS, hWC, hWT⟩ := id hW
  have kws := hWS.1
  have kwc := hWC.1
  have hR9 := hR
  obtain ⟨⟨p, rX⟩, rT, ⟨rs0, rs1⟩, rH, rS, ⟨E0, rC⟩, rc⟩ := hR
  obtain ⟨⟨⟨hn1, hn2⟩, ⟨hkk1, hkk2⟩, ⟨hE4, hE2⟩, hp0, hpr, hc0⟩, t3, t4, t5, t6, tE, tp, tcb, tc⟩ := id rT
  have hLn := ac_Lt_len T hn2
  have t6b : mm (x + 3) 6 = ac_b (T.2.2.2.2.isSome = true) := t6
  refine ac_met (on := (RX6, "on")) rfl rfl (Nat.le_of_ble_eq_true rfl) (ls := [(2, (x : Int)), (3, 0), (3, 0), (3, 0)]) rfl ?_
  refine ac_aload_n (q := 1) dX6_on_0 rfl rfl ?_
  refine ac_get (q := 4) dX6_on_1 fl_X6_19 (by assumption) rfl (ac_rdr rfl hA9.1.2.2.1) ?_
  refine ac_get (q := 7) dX6_on_4 fl_X6_141 kn0 rfl (ac_rdi rfl t3) ?_
  refine ac_bipush (q := 9) dX6_on_7 rfl (by decide) ?_
  refine ac_icmp_ge (q := 12) (tgt := 22) dX6_on_9 rfl rfl ⟨by omega, by omega⟩ ⟨by omega, by omega⟩ (fun h9 => ?_) (fun h9 => ?_)
  · refine ac_bipush (q := 24) dX6_on_22 rfl (by decide) ?_
    refine ac_ireturn dX6_on_24 rfl (Nat.zero_le _) (Nat.zero_le _) ?_
    have hans : ac_an_on T = -3 := by
      unfold ac_an_on
      first
        | rw [if_neg (by omega)]
        | (rw [if_pos (by omega)]
           cases hc : T.2.2.2.2 with
           | none => rfl
           | some l => rw [hc] at h19; exact absurd rfl h19)
    rw [hans]; exact ⟨rfl, rfl, hR9, ac_fA_r mm x⟩
  · refine ac_aload_n (q := 13) dX6_on_12 rfl rfl ?_
    refine ac_get (q := 16) dX6_on_13 fl_X6_19 (by assumption) rfl (ac_rdr rfl hA9.1.2.2.1) ?_
    refine ac_get (q := 19) dX6_on_16 fl_X6_103 kn0 rfl (ac_rdz rfl t6b) ?_
    refine ac_bif_ne (q := 22) (tgt := 25) dX6_on_19 rfl rfl (fun h19 => ?_) (fun h19 => ?_)
    · refine ac_aload_n (q := 26) dX6_on_25 rfl rfl ?_
      refine ac_get (q := 29) dX6_on_26 fl_X6_46 (by assumption) rfl (ac_rdr rfl hA9.1.2.2.2.2.2.2.2.2) ?_
      refine ac_aload_n (q := 30) dX6_on_29 rfl rfl ?_
      refine ac_get (q := 33) dX6_on_30 fl_X6_19 (by assumption) rfl (ac_rdr rfl hA9.1.2.2.1) ?_
      refine ac_cv (q := 36) (k_X5_begin (w := x + 86) (t := x + 3) (d := d - 1) (by omega) hW rC rS hT0 rT (by omega)) ml_X6_199 (by assumption) dX6_on_33 rfl rfl rfl (by omega) (Nat.le_of_ble_eq_true rfl) (Nat.zero_le _) (Nat.zero_le _) (fun m1 h1 => ?_)
      obtain ⟨w1, -, f1⟩ := h1
      have A1 := ac_RA_w hR9 w1.2.2 ⟨_, w1.2.1⟩ (fun k' a => f1 k' (by omega))
      have e3 : m1 (x + 3) 3 = (T.1 : Int) := A1.2.1.2.1
      have e4 : m1 (x + 3) 4 = (T.2.1 : Int) := A1.2.1.2.2.1
      have tc1 := A1.2.1.2.2.2.2.2.2.2.2
      obtain ⟨l, hl⟩ := Option.isSome_iff_exists.mp h19
      obtain ⟨hl1, hl2⟩ := hc0 l hl
      have hans : ac_an_on T = (ac_onA T.2.2.1 l T.2.1 : Int) := by unfold ac_an_on; rw [if_pos (by omega), hl]; rfl
      refine ac_iconst (q := 37) dX6_on_36 rfl ?_
      refine ac_aload_n (q := 38) dX6_on_37 rfl rfl ?_
      refine ac_get (q := 41) dX6_on_38 fl_X6_19 (by assumption) rfl (ac_rdr rfl hA9.1.2.2.1) ?_
      refine ac_get (q := 44) dX6_on_41 fl_X6_141 kn0 rfl (ac_rdi rfl e3) ?_
      refine ac_iconst (q := 45) dX6_on_44 rfl ?_
      refine ac_iadd (q := 46) dX6_on_45 rfl ?_
      refine ac_top (w' := (0, ((T.1 + 1 : Nat) : Int))) rfl ?_
      refine ac_ishl1 (q := 47) (k := T.1 + 1) dX6_on_46 rfl (by omega) ?_
      refine ac_istore_n (q := 48) (j := 1) rfl dX6_on_47 rfl (Nat.le_of_ble_eq_true rfl) rfl rfl ?_
      simp only [List.set_cons_succ, List.set_cons_zero]
      refine ac_iconst (q := 49) dX6_on_48 rfl ?_
      refine ac_istore_n (q := 50) (j := 2) rfl dX6_on_49 rfl (Nat.le_of_ble_eq_true rfl) rfl rfl ?_
      simp only [List.set_cons_succ, List.set_cons_zero]
      refine ac_iconst (q := 51) dX6_on_50 rfl ?_
      refine ac_istore_n (q := 52) (j := 3) rfl dX6_on_51 rfl (Nat.le_of_ble_eq_true rfl) rfl rfl ?_
      simp only [List.set_cons_succ, List.set_cons_zero]
      have loop : ∀ (r c : Nat), c + r = T.2.1 → ac_V G (RX6, "on") cX6_on 4 (some .int) d 0 0 (ac_R Y [(0, ac_an_on T)] (fun m => ac_RA m x s T hs s0 s1 obs ch ∧ ac_fA mm m x)) 0 0 Y m1 52 [(2, (x : Int)), (0, ((2 ^ (T.1 + 1) : Nat) : Int)), (0, ((ac_onA T.2.2.1 l c : Nat) : Int)), (0, ((c : Nat) : Int))] [] := by
        intro r
        induction r with
        | zero =>
          intro c hc
          obtain rfl : c = T.2.1 := by omega
          refine ac_iload_n (q := 53) dX6_on_52 rfl rfl ?_
          refine ac_aload_n (q := 54) dX6_on_53 rfl rfl ?_
          refine ac_get (q := 57) dX6_on_54 fl_X6_19 (by assumption) rfl (ac_rdr rfl hA9.1.2.2.1) ?_
          refine ac_get (q := 60) dX6_on_57 fl_X6_202 kn0 rfl (ac_rdi rfl e4) ?_
          refine ac_icmp_ge (q := 63) (tgt := 98) dX6_on_60 rfl rfl ⟨by omega, by omega⟩ ⟨by omega, by omega⟩ (fun h60 => ?_) (fun h60 => ?_)
          · refine ac_iload_n (q := 99) dX6_on_98 rfl rfl ?_
            refine ac_ireturn dX6_on_99 rfl (Nat.zero_le _) (Nat.zero_le _) ?_
            rw [hans]; exact ⟨rfl, rfl, A1, fun k' a => f1 k' (by omega)⟩
          · exfalso; omega
        | succ r ih =>
          intro c hc
          have ec : ((c : Nat) : Int) + 1 = ((c + 1 : Nat) : Int) := rfl
          have hs := ih (c + 1) (by omega)
          rw [ac_onA] at hs
          have hbl := ac_br_lt (E := T.2.2.1) (ac_set (l ++ [c]) c) hE4
          have htc := tc1 l hl c (by omega)
          refine ac_iload_n (q := 53) dX6_on_52 rfl rfl ?_
          refine ac_aload_n (q := 54) dX6_on_53 rfl rfl ?_
          refine ac_get (q := 57) dX6_on_54 fl_X6_19 (by assumption) rfl (ac_rdr rfl hA9.1.2.2.1) ?_
          refine ac_get (q := 60) dX6_on_57 fl_X6_202 kn0 rfl (ac_rdi rfl e4) ?_
          refine ac_icmp_ge (q := 63) (tgt := 98) dX6_on_60 rfl rfl ⟨by omega, by omega⟩ ⟨by omega, by omega⟩ (fun h60 => ?_) (fun h60 => ?_)
          · exfalso; omega
          · refine ac_aload_n (q := 64) dX6_on_63 rfl rfl ?_
            refine ac_get (q := 67) dX6_on_64 fl_X6_46 (by assumption) rfl (ac_rdr rfl hA9.1.2.2.2.2.2.2.2.2) ?_
            refine ac_get (q := 70) dX6_on_67 fl_X6_205 (by assumption) rfl (ac_rdr rfl hW.1.2.2.1) ?_
            refine ac_aload_n (q := 71) dX6_on_70 rfl rfl ?_
            refine ac_get (q := 74) dX6_on_71 fl_X6_19 (by assumption) rfl (ac_rdr rfl hA9.1.2.2.1) ?_
            refine ac_iload_n (q := 75) dX6_on_74 rfl rfl ?_
            refine ac_cvp (q := 78) (k_X3_classOf (t := x + 3) (c := (c : Int)) (d := d - 1) (by omega) hT0 A1.2.1 ⟨by omega, by omega⟩) ml_X6_209 (by assumption) dX6_on_75 rfl rfl rfl (by omega) (Nat.le_of_ble_eq_true rfl) (Nat.zero_le _) (Nat.zero_le _) ?_
            refine ac_top (w' := (0, ((ac_set l c : Nat) : Int))) (by rw [if_pos (by omega), Int.toNat_natCast, htc]) ?_
            refine ac_iload_n (q := 79) dX6_on_78 rfl rfl ?_
            refine ac_ior (q := 80) dX6_on_79 rfl ?_
            refine ac_top (w' := (0, ((ac_set (l ++ [c]) c : Nat) : Int))) (by rw [← hl1, ac_set_up]) ?_
            refine ac_cvp (q := 83) (k_X0_in (c := x + 86 + 4) (d := d - 1) (S := ac_set (l ++ [c]) c) (by omega) hWC w1.2.1 (ac_set_lt c (by rw [List.length_append, List.length_singleton]; omega)) (ac_set_0 _ _)) ml_X6_212 (by assumption) dX6_on_80 rfl rfl rfl (by omega) (Nat.le_of_ble_eq_true rfl) (Nat.zero_le _) (Nat.zero_le _) ?_
            refine ac_if_ne (q := 86) (tgt := 92) dX6_on_83 rfl rfl ⟨by omega, by omega⟩ (fun h83 => ?_) (fun h83 => ?_)
            · rw [if_neg (by omega), Nat.or_zero] at hs
              refine ac_iinc (q := 95) dX6_on_92 rfl (Nat.le_of_ble_eq_true rfl) rfl rfl rfl rfl ?_
              simp only [List.set_cons_succ, List.set_cons_zero]
              refine ac_goto (q := 52) dX6_on_95 rfl ?_
              exact ac_ls (by rw [ec]) hs
            · rw [if_pos (by omega)] at hs
              refine ac_iload_n (q := 87) dX6_on_86 rfl rfl ?_
              refine ac_iconst (q := 88) dX6_on_87 rfl ?_
              refine ac_iload_n (q := 89) dX6_on_88 rfl rfl ?_
              refine ac_ishl1 (q := 90) (k := c) dX6_on_89 rfl (by omega) ?_
              refine ac_ior (q := 91) dX6_on_90 rfl ?_
              refine ac_istore_n (q := 92) (j := 2) rfl dX6_on_91 rfl (Nat.le_of_ble_eq_true rfl) rfl rfl ?_
              simp only [List.set_cons_succ, List.set_cons_zero]
              refine ac_iinc (q := 95) dX6_on_92 rfl (Nat.le_of_ble_eq_true rfl) rfl rfl rfl rfl ?_
              simp only [List.set_cons_succ, List.set_cons_zero]
              refine ac_goto (q := 52) dX6_on_95 rfl ?_
              exact ac_ls (by rw [ec]) hs
      exact loop T.2.1 0 (by omega)
    · refine ac_bipush (q := 24) dX6_on_22 rfl (by decide) ?_
      refine ac_ireturn dX6_on_24 rfl (Nat.zero_le _) (Nat.zero_le _) ?_
      have hans : ac_an_on T = -3 := by
        unfold ac_an_on
        first
          | rw [if_neg (by omega)]
          | (rw [if_pos (by omega)]
             cases hc : T.2.2.2.2 with
             | none => rfl
             | some l => rw [hc] at h19; exact absurd rfl h19)
      rw [hans]; exact ⟨rfl, rfl, hR9, ac_fA_r mm x⟩
