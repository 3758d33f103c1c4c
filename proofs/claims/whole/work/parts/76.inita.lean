/-! the two objects of the law -/
theorem ac_kp_w {w x : Nat} {Y Y' : ac_Y} {mm mm' : ac_M} (h : ac_kp w Y mm Y' mm') (hw : Y.1 < w) : ac_kp x Y mm Y' mm' := ⟨h.1, h.2.1, fun k hk _ => h.2.2.1 k hk (by omega), h.2.2.2⟩
/-- the row of slots -/
def ac_isL (Y : ac_Y) (a : Nat) : Prop := Y.2.1 a = (3, 2) ∧ Y.2.2 a 0 = a + 1 ∧ Y.2.2 a 1 = a + 5 ∧ ac_isT Y (a + 1) ∧ ac_isT Y (a + 5)
theorem ac_isL_e {Y Y' : ac_Y} {t : Nat} (h : ac_isL Y t) (e : ac_eqY Y Y' t (t + 8)) : ac_isL Y' t := by
  obtain ⟨e0, f0⟩ := e t (by omega) (by omega)
  obtain ⟨h1, h2, h3, h4, h5⟩ := h
  exact ⟨by rw [e0]; exact h1, by rw [f0]; exact h2, by rw [f0]; exact h3, ac_isT_e h4 fun k a b => e k (by omega) (by omega), ac_isT_e h5 fun k a b => e k (by omega) (by omega)⟩
theorem ac_isA_e {Y Y' : ac_Y} {x : Nat} (h : ac_isA Y x) (e : ac_eqY Y Y' x (x + 103)) : ac_isA Y' x := by
  obtain ⟨e0, f0⟩ := e x (by omega) (by omega)
  obtain ⟨h1, h2, ⟨h3, h4, h5, h6⟩, h7, h8, h9⟩ := h
  exact ⟨by rw [e0, f0]; exact h1, ac_isX_e h2 fun k a b => e k (by omega) (by omega), ⟨ac_isT_e h3 fun k a b => e k (by omega) (by omega), ac_isT_e h4 fun k a b => e k (by omega) (by omega), ac_isT_e h5 fun k a b => e k (by omega) (by omega), ac_isT_e h6 fun k a b => e k (by omega) (by omega)⟩, ac_isL_e (t := x + 19) h7 fun k a b => e k (by omega) (by omega), ac_isH_e h8 fun k a b => e k (by omega) (by omega), ac_isW_e h9 fun k a b => e k (by omega) (by omega)⟩
theorem ac_st0 {z : Nat} {Y : ac_Y} {mm : ac_M} {k j v : Nat} : ∃ Y' : ac_Y, Y' = (Y.1, Y.2.1, ac_upR Y.2.2 k j v) ∧ Y'.1 = Y.1 ∧ ac_kp k Y mm Y' mm ∧ Y'.2.2 k j = v ∧ ∀ i, i ≠ j → Y'.2.2 k i = Y.2.2 k i :=
  ⟨_, rfl, rfl, ac_kp_p, ac_upR_s, fun i h => ac_upR_j h⟩
section AcSlots
variable {G : ac_G} {cc : ByteArray} {nL : Nat} {ret : Option FieldType} {d mc ms : Nat} {P : ac_P} {ck cn : Nat} {Y : ac_Y} {mm : ac_M} {pc q : Nat} {ls st : List (Nat × Int)}
set_option maxHeartbeats 8000000 in
theorem ac_mkL {z x : Nat} (hd : 2 ≤ d) (hk : Y.2.1 x = (0, 6)) (hxz : x ≤ z) (hz : Y.1 = z) (h1x : 1 ≤ x) (hmc : ck + 9 ≤ mc) (hms : cn + 76 ≤ ms)
    (kk : ∀ Y' m', ac_kp x Y mm Y' m' → Y'.1 = z + 1 + 8 → ac_isL Y' (z + 1) → Y'.2.2 x 5 = z + 1 → (∀ i, i ≠ 5 → Y'.2.2 x i = Y.2.2 x i) → ac_V G (RX6, "<init>") cX6_init 1 none d mc ms P (ck + 9) (cn + 76) Y' m' 87 ls []) : ac_V G (RX6, "<init>") cX6_init 1 none d mc ms P ck cn Y mm 60 ls [(2, (x : Int))] := by
  subst hz
  refine ac_iconst (q := 61) dX6_init_60 rfl ?_
  refine ac_newT (n := 2) (q := 64) dX6_init_61 nlr_X6_16 (by decide) rfl (by omega) (by omega) ?_
  have gn : ac_kp (Y.1 + 1) Y mm (ac_nY Y (3, 2)) (ac_nM Y mm) := ac_kp_n
  have kn : (ac_nY Y (3, 2)).2.1 (Y.1 + 1) = (3, 2) := ac_nY_k
  have en : (ac_nY Y (3, 2)).1 = Y.1 + 1 := rfl
  generalize ac_nY Y (3, 2) = Yn at *
  generalize ac_nM Y mm = mn at *
  refine ac_dup (q := 65) dX6_init_64 rfl (show (2 : Nat) ≠ 1 by decide) ?_
  refine ac_iconst (q := 66) dX6_init_65 rfl ?_
  refine ac_mk (z := Y.1 + 1) (ci := 3) (mc' := 3) (ms' := 30) (ck' := ck + 1 + 1 + 3) (cn' := cn + 2 + 7 + 30) (d' := d - 1) (q := 73) (lay := ac_isT) (k_X3_init (z := Y.1 + 1 + 1) (by omega) (by omega)) nl_X6_16 ml_X6_18 dX6_init_66 dX6_init_69 dX6_init_70 rfl en (by omega) (Nat.le_of_ble_eq_true rfl) rfl rfl (by omega) (by omega) (fun Ya ma ga ea ka la => ?_)
  have gA : ac_kp (Y.1 + 1) Yn mn Ya ma := ac_kp_w ga (by omega)
  have kna := (gA.2.1 _ (by omega)).trans kn
  refine ac_aastore (q := 74) dX6_init_73 kna (by decide) ⟨by omega, by omega⟩ ka rfl ?_
  obtain ⟨Yb, hb, eb, gb, rb, ob⟩ := ac_st0 (z := 0) (Y := Ya) (mm := ma) (k := Y.1 + 1) (j := (0 : Int).toNat) (v := Y.1 + 1 + 1)
  rw [← hb]
  have lb : ac_isT Yb (Y.1 + 1 + 1) := ac_isT_e la (ac_kp_e gb (by omega) (Or.inl (by omega)))
  refine ac_dup (q := 75) dX6_init_74 rfl (show (2 : Nat) ≠ 1 by decide) ?_
  refine ac_iconst (q := 76) dX6_init_75 rfl ?_
  refine ac_mk (z := Y.1 + 5) (ci := 3) (mc' := 3) (ms' := 30) (ck' := ck + 9) (cn' := cn + 76) (d' := d - 1) (q := 83) (lay := ac_isT) (k_X3_init (z := Y.1 + 5 + 1) (by omega) (by omega)) nl_X6_16 ml_X6_18 dX6_init_76 dX6_init_79 dX6_init_80 rfl (by omega) (by omega) (Nat.le_of_ble_eq_true rfl) (by omega) (by show cn + 2 + 7 + 30 + 7 + 30 = cn + 76; omega) (by omega) (by omega) (fun Yc mc0 gc ec kc lc => ?_)
  have gC : ac_kp (Y.1 + 1) Yb ma Yc mc0 := ac_kp_w gc (by omega)
  have knc := (gC.2.1 (Y.1 + 1) (by omega)).trans ((gb.2.1 (Y.1 + 1) (by omega)).trans kna)
  have rc : Yc.2.2 (Y.1 + 1) 0 = Y.1 + 1 + 1 := by rw [gc.2.2.1 (Y.1 + 1) (by omega) (by omega)]; exact rb
  have lbc : ac_isT Yc (Y.1 + 1 + 1) := ac_isT_e lb (ac_kp_e gc (by omega) (Or.inr (by omega)))
  refine ac_aastore (q := 84) dX6_init_83 knc (by decide) ⟨by omega, by omega⟩ kc rfl ?_
  obtain ⟨Yd, hd2, ed, gd, rd, od⟩ := ac_st0 (z := 0) (Y := Yc) (mm := mc0) (k := Y.1 + 1) (j := (1 : Int).toNat) (v := Y.1 + 5 + 1)
  rw [← hd2]
  have g0 : ac_kp (Y.1 + 1) Y mm Yd mc0 := ac_kp_t (ac_kp_t (ac_kp_t (ac_kp_t gn gA) gb) gC) gd
  have gx : ac_kp x Y mm Yd mc0 := ac_kp_w g0 (by omega)
  have lL : ac_isL Yd (Y.1 + 1) := ⟨(gd.2.1 _ (by omega)).trans knc, (od 0 (by decide)).trans rc, rd, ac_isT_e lbc (ac_kp_e gd (by omega) (Or.inl (by omega))), ac_isT_e lc (ac_kp_e gd (by omega) (Or.inl (by omega)))⟩
  refine ac_pF (cx := 6) (j := 5) (q := 87) dX6_init_84 fl_X6_32 rfl ((gx.2.1 x hxz).trans hk) rfl rfl (fun Ye ee ge re oe => ?_)
  refine kk Ye mc0 (ac_kp_t gx (ge mc0)) (by omega) (ac_isL_e lL (ac_kp_e (ge mc0) (by omega) (Or.inl (by omega)))) re (fun i h => (oe i h).trans ?_)
  rw [g0.2.2.1 x hxz (by omega)]
end AcSlots
/-- the first task -/
def ac_T0 : ac_Tk := (1, 2, [], fun _ => -1, some [0])
theorem ac_T0_stl : ac_stl (1, 2, [], fun _ => -1, none) = ac_T0 := by
  have h : ac_Lt (1, 2, [], fun _ => -1, none) = [[0], [1]] := by decide
  unfold ac_stl
  rw [if_pos (ac_rk_no (fun l h => by cases h)), h]; rfl

set_option maxHeartbeats 16000000 in
theorem k_X6_init {G : ac_G} {d z : Nat} (hd : 20 ≤ d) (h1z : 1 ≤ z) : ∀ (Y : ac_Y) (mm : ac_M), Y.1 = z → Y.2.1 z = (0, 6) → mm z = (fun _ => 0) → ac_C G yX6_init cX6_init 1 none d 103 3009 Y mm [(2, (z : Int))] (fun r Y' m' => r = [] ∧ Y'.1 = z + 103 ∧ ac_isA Y' z ∧ ac_RA m' z [] ac_T0 [] none none [] 0) := by
  intro Y mm hz hk hm
  have G0 : ac_kp z Y mm Y mm := ac_kp_r
  refine ac_met (on := (RX6, "<init>")) rfl rfl (Nat.le_of_ble_eq_true rfl) (ls := [(2, (z : Int))]) rfl ?_
  refine ac_aload_n (q := 1) dX6_init_0 rfl rfl ?_
  refine ac_objInit (q := 4) dX6_init_1 ml_X6_1 ob_m ob_c (by omega) rfl (by omega) (by decide) ?_
  refine ac_aload_n (q := 5) dX6_init_4 rfl rfl ?_
  refine ac_mkF (z := z) (x := z) (ci := 4) (cx := 6) (j := 0) (mc' := 1) (ms' := 60) (ck' := 2) (cn' := 63) (d' := d - 1) (q := 15) (lay := ac_isX) (k_X4_init (z := z + 1) (by omega) (by omega)) (fun Y1 Y2 e l => ac_isX_e l e) nl_X6_7 ml_X6_9 fl_X6_10 rfl hk (by omega) rfl dX6_init_5 dX6_init_8 dX6_init_9 dX6_init_12 rfl hz (by omega) (by decide) rfl rfl (Nat.le_of_ble_eq_true rfl) (Nat.le_of_ble_eq_true rfl) (fun Y1 m1 g1 e1 l1 r1 o1 => ?_)
  replace hk := (g1.2.1 z (by omega)).trans hk
  replace G0 := ac_kp_t G0 g1
  replace r1 : ac_ri Y1 z 0 (z + 1) := r1
  clear o1 g1
  refine ac_aload_n (q := 16) dX6_init_15 rfl rfl ?_
  refine ac_mkF (z := z + 2) (x := z) (ci := 3) (cx := 6) (j := 1) (mc' := 3) (ms' := 30) (ck' := 6) (cn' := 100) (d' := d - 1) (q := 26) (lay := ac_isT) (k_X3_init (z := z + 2 + 1) (by omega) (by omega)) (fun Y1 Y2 e l => ac_isT_e l e) nl_X6_16 ml_X6_18 fl_X6_19 rfl hk (by omega) rfl dX6_init_16 dX6_init_19 dX6_init_20 dX6_init_23 rfl e1 (by omega) (by decide) rfl rfl (Nat.le_of_ble_eq_true rfl) (Nat.le_of_ble_eq_true rfl) (fun Y2 m2 g2 e2 l2 r2 o2 => ?_)
  replace hk := (g2.2.1 z (by omega)).trans hk
  replace r1 : ac_ri Y2 z 0 (z + 1) := (o2 0 (by decide)).trans r1
  replace l1 := ac_isX_e l1 (ac_kp_e g2 (by omega) (Or.inl (by omega)))
  replace G0 := ac_kp_t G0 g2
  replace r2 : ac_ri Y2 z 1 (z + 3) := r2
  clear o2 g2 e1
  refine ac_aload_n (q := 27) dX6_init_26 rfl rfl ?_
  refine ac_mkF (z := z + 6) (x := z) (ci := 3) (cx := 6) (j := 2) (mc' := 3) (ms' := 30) (ck' := 10) (cn' := 137) (d' := d - 1) (q := 37) (lay := ac_isT) (k_X3_init (z := z + 6 + 1) (by omega) (by omega)) (fun Y1 Y2 e l => ac_isT_e l e) nl_X6_16 ml_X6_18 fl_X6_23 rfl hk (by omega) rfl dX6_init_27 dX6_init_30 dX6_init_31 dX6_init_34 rfl e2 (by omega) (by decide) rfl rfl (Nat.le_of_ble_eq_true rfl) (Nat.le_of_ble_eq_true rfl) (fun Y3 m3 g3 e3 l3 r3 o3 => ?_)
  replace hk := (g3.2.1 z (by omega)).trans hk
  replace r1 : ac_ri Y3 z 0 (z + 1) := (o3 0 (by decide)).trans r1
  replace r2 : ac_ri Y3 z 1 (z + 3) := (o3 1 (by decide)).trans r2
  replace l1 := ac_isX_e l1 (ac_kp_e g3 (by omega) (Or.inl (by omega)))
  replace l2 := ac_isT_e l2 (ac_kp_e g3 (by omega) (Or.inl (by omega)))
  replace G0 := ac_kp_t G0 g3
  replace r3 : ac_ri Y3 z 2 (z + 7) := r3
  clear o3 g3 e2
  refine ac_aload_n (q := 38) dX6_init_37 rfl rfl ?_
  refine ac_mkF (z := z + 10) (x := z) (ci := 3) (cx := 6) (j := 3) (mc' := 3) (ms' := 30) (ck' := 14) (cn' := 174) (d' := d - 1) (q := 48) (lay := ac_isT) (k_X3_init (z := z + 10 + 1) (by omega) (by omega)) (fun Y1 Y2 e l => ac_isT_e l e) nl_X6_16 ml_X6_18 fl_X6_26 rfl hk (by omega) rfl dX6_init_38 dX6_init_41 dX6_init_42 dX6_init_45 rfl e3 (by omega) (by decide) rfl rfl (Nat.le_of_ble_eq_true rfl) (Nat.le_of_ble_eq_true rfl) (fun Y4 m4 g4 e4 l4 r4 o4 => ?_)
  replace hk := (g4.2.1 z (by omega)).trans hk
  replace r1 : ac_ri Y4 z 0 (z + 1) := (o4 0 (by decide)).trans r1
  replace r2 : ac_ri Y4 z 1 (z + 3) := (o4 1 (by decide)).trans r2
  replace r3 : ac_ri Y4 z 2 (z + 7) := (o4 2 (by decide)).trans r3
  replace l1 := ac_isX_e l1 (ac_kp_e g4 (by omega) (Or.inl (by omega)))
  replace l2 := ac_isT_e l2 (ac_kp_e g4 (by omega) (Or.inl (by omega)))
  replace l3 := ac_isT_e l3 (ac_kp_e g4 (by omega) (Or.inl (by omega)))
  replace G0 := ac_kp_t G0 g4
  replace r4 : ac_ri Y4 z 3 (z + 11) := r4
  clear o4 g4 e3
  refine ac_aload_n (q := 49) dX6_init_48 rfl rfl ?_
  refine ac_mkF (z := z + 14) (x := z) (ci := 3) (cx := 6) (j := 4) (mc' := 3) (ms' := 30) (ck' := 18) (cn' := 211) (d' := d - 1) (q := 59) (lay := ac_isT) (k_X3_init (z := z + 14 + 1) (by omega) (by omega)) (fun Y1 Y2 e l => ac_isT_e l e) nl_X6_16 ml_X6_18 fl_X6_29 rfl hk (by omega) rfl dX6_init_49 dX6_init_52 dX6_init_53 dX6_init_56 rfl e4 (by omega) (by decide) rfl rfl (Nat.le_of_ble_eq_true rfl) (Nat.le_of_ble_eq_true rfl) (fun Y5 m5 g5 e5 l5 r5 o5 => ?_)
  replace hk := (g5.2.1 z (by omega)).trans hk
  replace r1 : ac_ri Y5 z 0 (z + 1) := (o5 0 (by decide)).trans r1
  replace r2 : ac_ri Y5 z 1 (z + 3) := (o5 1 (by decide)).trans r2
  replace r3 : ac_ri Y5 z 2 (z + 7) := (o5 2 (by decide)).trans r3
  replace r4 : ac_ri Y5 z 3 (z + 11) := (o5 3 (by decide)).trans r4
  replace l1 := ac_isX_e l1 (ac_kp_e g5 (by omega) (Or.inl (by omega)))
  replace l2 := ac_isT_e l2 (ac_kp_e g5 (by omega) (Or.inl (by omega)))
  replace l3 := ac_isT_e l3 (ac_kp_e g5 (by omega) (Or.inl (by omega)))
  replace l4 := ac_isT_e l4 (ac_kp_e g5 (by omega) (Or.inl (by omega)))
  replace G0 := ac_kp_t G0 g5
  replace r5 : ac_ri Y5 z 4 (z + 15) := r5
  clear o5 g5 e4
  refine ac_aload_n (q := 60) dX6_init_59 rfl rfl ?_
  refine ac_mkL (z := z + 18) (x := z) (by omega) hk (by omega) e5 h1z (Nat.le_of_ble_eq_true rfl) (Nat.le_of_ble_eq_true rfl) (fun Y6 m6 g6 e6 l6 r6 o6 => ?_)
  replace hk := (g6.2.1 z (by omega)).trans hk
  replace r1 : ac_ri Y6 z 0 (z + 1) := (o6 0 (by decide)).trans r1
  replace r2 : ac_ri Y6 z 1 (z + 3) := (o6 1 (by decide)).trans r2
  replace r3 : ac_ri Y6 z 2 (z + 7) := (o6 2 (by decide)).trans r3
  replace r4 : ac_ri Y6 z 3 (z + 11) := (o6 3 (by decide)).trans r4
  replace r5 : ac_ri Y6 z 4 (z + 15) := (o6 4 (by decide)).trans r5
  replace l1 := ac_isX_e l1 (ac_kp_e g6 (by omega) (Or.inl (by omega)))
  replace l2 := ac_isT_e l2 (ac_kp_e g6 (by omega) (Or.inl (by omega)))
  replace l3 := ac_isT_e l3 (ac_kp_e g6 (by omega) (Or.inl (by omega)))
  replace l4 := ac_isT_e l4 (ac_kp_e g6 (by omega) (Or.inl (by omega)))
  replace l5 := ac_isT_e l5 (ac_kp_e g6 (by omega) (Or.inl (by omega)))
  replace G0 := ac_kp_t G0 g6
  replace r6 : ac_ri Y6 z 5 (z + 19) := r6
  clear o6 g6 e5
  refine ac_aload_n (q := 88) dX6_init_87 rfl rfl ?_
  refine ac_mkF (z := z + 27) (x := z) (ci := 1) (cx := 6) (j := 6) (mc' := 57) (ms' := 532) (ck' := 85) (cn' := 822) (d' := d - 1) (q := 98) (lay := ac_isH) (k_X1_init (z := z + 27 + 1) (by omega) (by omega)) (fun Y1 Y2 e l => ac_isH_e l e) nl_X6_36 ml_X6_38 fl_X6_39 rfl hk (by omega) rfl dX6_init_88 dX6_init_91 dX6_init_92 dX6_init_95 rfl e6 (by omega) (by decide) rfl rfl (Nat.le_of_ble_eq_true rfl) (Nat.le_of_ble_eq_true rfl) (fun Y7 m7 g7 e7 l7 r7 o7 => ?_)
  replace hk := (g7.2.1 z (by omega)).trans hk
  replace r1 : ac_ri Y7 z 0 (z + 1) := (o7 0 (by decide)).trans r1
  replace r2 : ac_ri Y7 z 1 (z + 3) := (o7 1 (by decide)).trans r2
  replace r3 : ac_ri Y7 z 2 (z + 7) := (o7 2 (by decide)).trans r3
  replace r4 : ac_ri Y7 z 3 (z + 11) := (o7 3 (by decide)).trans r4
  replace r5 : ac_ri Y7 z 4 (z + 15) := (o7 4 (by decide)).trans r5
  replace r6 : ac_ri Y7 z 5 (z + 19) := (o7 5 (by decide)).trans r6
  replace l1 := ac_isX_e l1 (ac_kp_e g7 (by omega) (Or.inl (by omega)))
  replace l2 := ac_isT_e l2 (ac_kp_e g7 (by omega) (Or.inl (by omega)))
  replace l3 := ac_isT_e l3 (ac_kp_e g7 (by omega) (Or.inl (by omega)))
  replace l4 := ac_isT_e l4 (ac_kp_e g7 (by omega) (Or.inl (by omega)))
  replace l5 := ac_isT_e l5 (ac_kp_e g7 (by omega) (Or.inl (by omega)))
  replace l6 := ac_isL_e l6 (ac_kp_e g7 (by omega) (Or.inl (by omega)))
  replace G0 := ac_kp_t G0 g7
  replace r7 : ac_ri Y7 z 6 (z + 28) := r7
  clear o7 g7 e6
  refine ac_aload_n (q := 99) dX6_init_98 rfl rfl ?_
  refine ac_mkF (z := z + 85) (x := z) (ci := 5) (cx := 6) (j := 7) (mc' := 17) (ms' := 2172) (ck' := 103) (cn' := 3009) (d' := d - 1) (q := 109) (lay := ac_isW) (k_X5_init (z := z + 85 + 1) (by omega) (by omega)) (fun Y1 Y2 e l => ac_isW_e l e) nl_X6_43 ml_X6_45 fl_X6_46 rfl hk (by omega) rfl dX6_init_99 dX6_init_102 dX6_init_103 dX6_init_106 rfl e7 (by omega) (by decide) rfl rfl (Nat.le_of_ble_eq_true rfl) (Nat.le_of_ble_eq_true rfl) (fun Y8 m8 g8 e8 l8 r8 o8 => ?_)
  replace hk := (g8.2.1 z (by omega)).trans hk
  replace r1 : ac_ri Y8 z 0 (z + 1) := (o8 0 (by decide)).trans r1
  replace r2 : ac_ri Y8 z 1 (z + 3) := (o8 1 (by decide)).trans r2
  replace r3 : ac_ri Y8 z 2 (z + 7) := (o8 2 (by decide)).trans r3
  replace r4 : ac_ri Y8 z 3 (z + 11) := (o8 3 (by decide)).trans r4
  replace r5 : ac_ri Y8 z 4 (z + 15) := (o8 4 (by decide)).trans r5
  replace r6 : ac_ri Y8 z 5 (z + 19) := (o8 5 (by decide)).trans r6
  replace r7 : ac_ri Y8 z 6 (z + 28) := (o8 6 (by decide)).trans r7
  replace l1 := ac_isX_e l1 (ac_kp_e g8 (by omega) (Or.inl (by omega)))
  replace l2 := ac_isT_e l2 (ac_kp_e g8 (by omega) (Or.inl (by omega)))
  replace l3 := ac_isT_e l3 (ac_kp_e g8 (by omega) (Or.inl (by omega)))
  replace l4 := ac_isT_e l4 (ac_kp_e g8 (by omega) (Or.inl (by omega)))
  replace l5 := ac_isT_e l5 (ac_kp_e g8 (by omega) (Or.inl (by omega)))
  replace l6 := ac_isL_e l6 (ac_kp_e g8 (by omega) (Or.inl (by omega)))
  replace l7 := ac_isH_e l7 (ac_kp_e g8 (by omega) (Or.inl (by omega)))
  replace G0 := ac_kp_t G0 g8
  replace r8 : ac_ri Y8 z 7 (z + 86) := r8
  clear o8 g8 e7
  have hA : ac_isA Y8 z := ⟨⟨hk, r1, r2, r3, r4, r5, r6, r7, r8⟩, l1, ⟨l2, l3, l4, l5⟩, l6, l7, l8⟩
  have hz0 : ∀ k, z < k → k ≤ z + 103 → m8 k = fun _ => 0 := fun k a b => G0.2.2.2.2 k (by omega) (by omega)
  have hzz : m8 z = fun _ => 0 := (G0.2.2.2.1 z (by omega)).trans hm
  refine ac_aload_n (q := 110) dX6_init_109 rfl rfl ?_
  refine ac_get (q := 113) dX6_init_110 fl_X6_19 hk rfl (ac_rdr rfl r2) ?_
  refine ac_iconst (q := 114) dX6_init_113 rfl ?_
  refine ac_iconst (q := 115) dX6_init_114 rfl ?_
  refine ac_cv (q := 118) (k_X3_start (t := z + 3) (n := 1) (k := 2) (d := d - 1) (by omega) l2 (by decide) (by decide)) ml_X6_50 l2.1 dX6_init_115 rfl rfl rfl (by omega) (Nat.le_of_ble_eq_true rfl) (Nat.le_refl _) (Nat.le_refl _) (fun ma ha => ?_)
  obtain ⟨ra, fa⟩ := ha
  have hza : ∀ k, z < k → k ≤ z + 103 → (k < z + 3 ∨ z + 6 < k) → ma k = fun _ => 0 := fun k a b c => (fa k (by omega)).trans (hz0 k a b)
  have hzza : ma z = fun _ => 0 := (fa z (by omega)).trans hzz
  have rS : ac_RS ma (z + 87) [] := ⟨⟨by decide, fun o h => by cases h⟩, by rw [hza _ (by omega) (by omega) (by omega)]; rfl, fun i o h => by simp at h⟩
  have rC : ac_RC ma (z + 90) [] := ⟨⟨by decide, fun q h => by cases h⟩, by rw [hza _ (by omega) (by omega) (by omega)]; rfl, fun e q h => by simp at h, fun S _ _ => by rw [hza _ (by omega) (by omega) (by omega)]; rfl⟩
  refine ac_aload_n (q := 119) dX6_init_118 rfl rfl ?_
  refine ac_aload_n (q := 120) dX6_init_119 rfl rfl ?_
  refine ac_get (q := 123) dX6_init_120 fl_X6_19 hk rfl (ac_rdr rfl r2) ?_
  refine ac_cv (q := 126) (k_X6_settle (x := z) (u := z + 3) (T := (1, 2, [], fun _ => -1, none)) (d := d - 1) (by omega) hA (Or.inl rfl) ra rS rC) ml_X6_54 hk dX6_init_123 rfl rfl rfl (by omega) (Nat.le_of_ble_eq_true rfl) (Nat.le_refl _) (Nat.le_refl _) (fun mb hb => ?_)
  rw [ac_T0_stl] at hb
  obtain ⟨b1, b2, ⟨E1, b3⟩, b4⟩ := hb
  refine ac_pop (q := 127) dX6_init_126 rfl (show (0 : Nat) ≠ 1 by decide) ?_
  refine ac_return dX6_init_127 rfl (Nat.le_refl _) (Nat.le_refl _) ?_
  have hzb : ∀ k, z < k → k ≤ z + 103 → (k < z + 3 ∨ z + 6 < k) → k < z + 86 → mb k = fun _ => 0 := fun k a b c e => (b4 k (by omega) (by omega)).trans (hza k a b c)
  have hzzb : mb z = fun _ => 0 := (b4 z (by omega) (by omega)).trans hzza
  refine ⟨rfl, by omega, hA, ⟨0, ⟨⟨by decide, fun v h => by cases h⟩, ?_, ?_, fun i h => by simp at h⟩⟩, b1, ⟨⟨fun _ => ?_, fun T h => by cases h⟩, ⟨fun _ => ?_, fun T h => by cases h⟩⟩, ⟨by decide, ?_, 0, by decide, ?_, fun i T h => by simp at h⟩, b2, ⟨E1, b3⟩, ?_⟩
  · rw [hzb _ (by omega) (by omega) (by omega) (by omega)]; rfl
  · rw [hzb _ (by omega) (by omega) (by omega) (by omega)]; rfl
  · rw [hzb _ (by omega) (by omega) (by omega) (by omega)]
  · rw [hzb _ (by omega) (by omega) (by omega) (by omega)]
  · rw [hzb _ (by omega) (by omega) (by omega) (by omega)]; rfl
  · rw [hzb _ (by omega) (by omega) (by omega) (by omega)]; rfl
  · rw [hzzb]

set_option maxHeartbeats 16000000 in
theorem k_X7_init {G : ac_G} {d z : Nat} (hd : 2 ≤ d) (h1z : 1 ≤ z) : ∀ (Y : ac_Y) (mm : ac_M), Y.1 = z → Y.2.1 z = (0, 7) → mm z = (fun _ => 0) → ac_C G yX7_init cX7_init 1 none d 16 60308 Y mm [(2, (z : Int))] (fun r Y' m' => r = [] ∧ Y'.1 = z + 16 ∧ ac_isM Y' z ∧ ac_RM m' z [] ac_T0 [] none none [] 0 ∧ ∀ k, k < z → Y'.2.1 k = Y.2.1 k ∧ Y'.2.2 k = Y.2.2 k ∧ m' k = mm k) := by
  intro Y mm hz hk hm
  have G0 : ac_kp z Y mm Y mm := ac_kp_r
  refine ac_met (on := (RX7, "<init>")) rfl rfl (Nat.le_of_ble_eq_true rfl) (ls := [(2, (z : Int))]) rfl ?_
  refine ac_aload_n (q := 1) dX7_init_0 rfl rfl ?_
  refine ac_objInit (q := 4) dX7_init_1 ml_X7_1 ob_m ob_c (by omega) rfl (by omega) (by decide) ?_
  refine ac_aload_n (q := 5) dX7_init_4 rfl rfl ?_
  refine ac_bipush (q := 7) dX7_init_5 rfl (by decide) ?_
  refine ac_mkI (n := 60) (z := z) (x := z) (cx := 7) (j := 1) (ck' := 1) (cn' := 60) (q := 12) ar_int fl_X7_7 rfl hk (by omega) rfl dX7_init_7 dX7_init_9 rfl hz (by decide) rfl rfl (Nat.le_of_ble_eq_true rfl) (Nat.le_of_ble_eq_true rfl) (fun Y1 m1 g1 e1 k1 r1 o1 => ?_)
  replace hk := (g1.2.1 z (by omega)).trans hk
  replace G0 := ac_kp_t G0 g1
  replace r1 : ac_ri Y1 z 1 (z + 1) := r1
  clear o1 g1
  have GA := G0
  have eA := e1
  refine ac_aload_n (q := 13) dX7_init_12 rfl rfl ?_
  refine ac_iconst (q := 14) dX7_init_13 rfl ?_
  refine ac_put (q := 17) dX7_init_14 fl_X7_13 hk rfl rfl ?_
  have G0 : ac_kp z Y1 (ac_up m1 z 4 2) Y1 (ac_up m1 z 4 2) := ac_kp_r
  refine ac_aload_n (q := 18) dX7_init_17 rfl rfl ?_
  refine ac_bipush (q := 20) dX7_init_18 rfl (by decide) ?_
  refine ac_mkI (n := 39) (z := z + 1) (x := z) (cx := 7) (j := 6) (ck' := 2) (cn' := 99) (q := 25) ar_int fl_X7_17 rfl hk (by omega) rfl dX7_init_20 dX7_init_22 rfl e1 (by decide) rfl rfl (Nat.le_of_ble_eq_true rfl) (Nat.le_of_ble_eq_true rfl) (fun Y2 m2 g2 e2 k2 r2 o2 => ?_)
  replace hk := (g2.2.1 z (by omega)).trans hk
  replace k1 := (g2.2.1 (z + 1) (by omega)).trans k1
  replace r1 : ac_ri Y2 z 1 (z + 1) := (o2 1 (by decide)).trans r1
  replace G0 := ac_kp_t G0 g2
  replace r2 : ac_ri Y2 z 6 (z + 2) := r2
  clear o2 g2 e1
  refine ac_aload_n (q := 26) dX7_init_25 rfl rfl ?_
  refine ac_bipush (q := 28) dX7_init_26 rfl (by decide) ?_
  refine ac_mkI (n := 39) (z := z + 2) (x := z) (cx := 7) (j := 7) (ck' := 3) (cn' := 138) (q := 33) ar_int fl_X7_20 rfl hk (by omega) rfl dX7_init_28 dX7_init_30 rfl e2 (by decide) rfl rfl (Nat.le_of_ble_eq_true rfl) (Nat.le_of_ble_eq_true rfl) (fun Y3 m3 g3 e3 k3 r3 o3 => ?_)
  replace hk := (g3.2.1 z (by omega)).trans hk
  replace k1 := (g3.2.1 (z + 1) (by omega)).trans k1
  replace k2 := (g3.2.1 (z + 2) (by omega)).trans k2
  replace r1 : ac_ri Y3 z 1 (z + 1) := (o3 1 (by decide)).trans r1
  replace r2 : ac_ri Y3 z 6 (z + 2) := (o3 6 (by decide)).trans r2
  replace G0 := ac_kp_t G0 g3
  replace r3 : ac_ri Y3 z 7 (z + 3) := r3
  clear o3 g3 e2
  refine ac_aload_n (q := 34) dX7_init_33 rfl rfl ?_
  refine ac_bipush (q := 36) dX7_init_34 rfl (by decide) ?_
  refine ac_mkI (n := 39) (z := z + 3) (x := z) (cx := 7) (j := 8) (ck' := 4) (cn' := 177) (q := 41) ar_int fl_X7_23 rfl hk (by omega) rfl dX7_init_36 dX7_init_38 rfl e3 (by decide) rfl rfl (Nat.le_of_ble_eq_true rfl) (Nat.le_of_ble_eq_true rfl) (fun Y4 m4 g4 e4 k4 r4 o4 => ?_)
  replace hk := (g4.2.1 z (by omega)).trans hk
  replace k1 := (g4.2.1 (z + 1) (by omega)).trans k1
  replace k2 := (g4.2.1 (z + 2) (by omega)).trans k2
  replace k3 := (g4.2.1 (z + 3) (by omega)).trans k3
  replace r1 : ac_ri Y4 z 1 (z + 1) := (o4 1 (by decide)).trans r1
  replace r2 : ac_ri Y4 z 6 (z + 2) := (o4 6 (by decide)).trans r2
  replace r3 : ac_ri Y4 z 7 (z + 3) := (o4 7 (by decide)).trans r3
  replace G0 := ac_kp_t G0 g4
  replace r4 : ac_ri Y4 z 8 (z + 4) := r4
  clear o4 g4 e3
  refine ac_aload_n (q := 42) dX7_init_41 rfl rfl ?_
  refine ac_sipush (q := 45) dX7_init_42 rfl (by decide) ?_
  refine ac_mkI (n := 546) (z := z + 4) (x := z) (cx := 7) (j := 9) (ck' := 5) (cn' := 723) (q := 50) ar_int fl_X7_26 rfl hk (by omega) rfl dX7_init_45 dX7_init_47 rfl e4 (by decide) rfl rfl (Nat.le_of_ble_eq_true rfl) (Nat.le_of_ble_eq_true rfl) (fun Y5 m5 g5 e5 k5 r5 o5 => ?_)
  replace hk := (g5.2.1 z (by omega)).trans hk
  replace k1 := (g5.2.1 (z + 1) (by omega)).trans k1
  replace k2 := (g5.2.1 (z + 2) (by omega)).trans k2
  replace k3 := (g5.2.1 (z + 3) (by omega)).trans k3
  replace k4 := (g5.2.1 (z + 4) (by omega)).trans k4
  replace r1 : ac_ri Y5 z 1 (z + 1) := (o5 1 (by decide)).trans r1
  replace r2 : ac_ri Y5 z 6 (z + 2) := (o5 6 (by decide)).trans r2
  replace r3 : ac_ri Y5 z 7 (z + 3) := (o5 7 (by decide)).trans r3
  replace r4 : ac_ri Y5 z 8 (z + 4) := (o5 8 (by decide)).trans r4
  replace G0 := ac_kp_t G0 g5
  replace r5 : ac_ri Y5 z 9 (z + 5) := r5
  clear o5 g5 e4
  refine ac_aload_n (q := 51) dX7_init_50 rfl rfl ?_
  refine ac_bipush (q := 53) dX7_init_51 rfl (by decide) ?_
  refine ac_mkI (n := 78) (z := z + 5) (x := z) (cx := 7) (j := 11) (ck' := 6) (cn' := 801) (q := 58) ar_int fl_X7_29 rfl hk (by omega) rfl dX7_init_53 dX7_init_55 rfl e5 (by decide) rfl rfl (Nat.le_of_ble_eq_true rfl) (Nat.le_of_ble_eq_true rfl) (fun Y6 m6 g6 e6 k6 r6 o6 => ?_)
  replace hk := (g6.2.1 z (by omega)).trans hk
  replace k1 := (g6.2.1 (z + 1) (by omega)).trans k1
  replace k2 := (g6.2.1 (z + 2) (by omega)).trans k2
  replace k3 := (g6.2.1 (z + 3) (by omega)).trans k3
  replace k4 := (g6.2.1 (z + 4) (by omega)).trans k4
  replace k5 := (g6.2.1 (z + 5) (by omega)).trans k5
  replace r1 : ac_ri Y6 z 1 (z + 1) := (o6 1 (by decide)).trans r1
  replace r2 : ac_ri Y6 z 6 (z + 2) := (o6 6 (by decide)).trans r2
  replace r3 : ac_ri Y6 z 7 (z + 3) := (o6 7 (by decide)).trans r3
  replace r4 : ac_ri Y6 z 8 (z + 4) := (o6 8 (by decide)).trans r4
  replace r5 : ac_ri Y6 z 9 (z + 5) := (o6 9 (by decide)).trans r5
  replace G0 := ac_kp_t G0 g6
  replace r6 : ac_ri Y6 z 11 (z + 6) := r6
  clear o6 g6 e5
  refine ac_aload_n (q := 59) dX7_init_58 rfl rfl ?_
  refine ac_iconst (q := 60) dX7_init_59 rfl ?_
  refine ac_mkZ (n := 2) (z := z + 6) (x := z) (cx := 7) (j := 12) (ck' := 7) (cn' := 803) (q := 65) ar_boolean fl_X7_32 rfl hk (by omega) rfl dX7_init_60 dX7_init_62 rfl e6 (by decide) rfl rfl (Nat.le_of_ble_eq_true rfl) (Nat.le_of_ble_eq_true rfl) (fun Y7 m7 g7 e7 k7 r7 o7 => ?_)
  replace hk := (g7.2.1 z (by omega)).trans hk
  replace k1 := (g7.2.1 (z + 1) (by omega)).trans k1
  replace k2 := (g7.2.1 (z + 2) (by omega)).trans k2
  replace k3 := (g7.2.1 (z + 3) (by omega)).trans k3
  replace k4 := (g7.2.1 (z + 4) (by omega)).trans k4
  replace k5 := (g7.2.1 (z + 5) (by omega)).trans k5
  replace k6 := (g7.2.1 (z + 6) (by omega)).trans k6
  replace r1 : ac_ri Y7 z 1 (z + 1) := (o7 1 (by decide)).trans r1
  replace r2 : ac_ri Y7 z 6 (z + 2) := (o7 6 (by decide)).trans r2
  replace r3 : ac_ri Y7 z 7 (z + 3) := (o7 7 (by decide)).trans r3
  replace r4 : ac_ri Y7 z 8 (z + 4) := (o7 8 (by decide)).trans r4
  replace r5 : ac_ri Y7 z 9 (z + 5) := (o7 9 (by decide)).trans r5
  replace r6 : ac_ri Y7 z 11 (z + 6) := (o7 11 (by decide)).trans r6
  replace G0 := ac_kp_t G0 g7
  replace r7 : ac_ri Y7 z 12 (z + 7) := r7
  clear o7 g7 e6
  refine ac_aload_n (q := 66) dX7_init_65 rfl rfl ?_
  refine ac_bipush (q := 68) dX7_init_66 rfl (by decide) ?_
  refine ac_mkI (n := 6) (z := z + 7) (x := z) (cx := 7) (j := 14) (ck' := 8) (cn' := 809) (q := 73) ar_int fl_X7_36 rfl hk (by omega) rfl dX7_init_68 dX7_init_70 rfl e7 (by decide) rfl rfl (Nat.le_of_ble_eq_true rfl) (Nat.le_of_ble_eq_true rfl) (fun Y8 m8 g8 e8 k8 r8 o8 => ?_)
  replace hk := (g8.2.1 z (by omega)).trans hk
  replace k1 := (g8.2.1 (z + 1) (by omega)).trans k1
  replace k2 := (g8.2.1 (z + 2) (by omega)).trans k2
  replace k3 := (g8.2.1 (z + 3) (by omega)).trans k3
  replace k4 := (g8.2.1 (z + 4) (by omega)).trans k4
  replace k5 := (g8.2.1 (z + 5) (by omega)).trans k5
  replace k6 := (g8.2.1 (z + 6) (by omega)).trans k6
  replace k7 := (g8.2.1 (z + 7) (by omega)).trans k7
  replace r1 : ac_ri Y8 z 1 (z + 1) := (o8 1 (by decide)).trans r1
  replace r2 : ac_ri Y8 z 6 (z + 2) := (o8 6 (by decide)).trans r2
  replace r3 : ac_ri Y8 z 7 (z + 3) := (o8 7 (by decide)).trans r3
  replace r4 : ac_ri Y8 z 8 (z + 4) := (o8 8 (by decide)).trans r4
  replace r5 : ac_ri Y8 z 9 (z + 5) := (o8 9 (by decide)).trans r5
  replace r6 : ac_ri Y8 z 11 (z + 6) := (o8 11 (by decide)).trans r6
  replace r7 : ac_ri Y8 z 12 (z + 7) := (o8 12 (by decide)).trans r7
  replace G0 := ac_kp_t G0 g8
  replace r8 : ac_ri Y8 z 14 (z + 8) := r8
  clear o8 g8 e7
  refine ac_aload_n (q := 74) dX7_init_73 rfl rfl ?_
  refine ac_bipush (q := 76) dX7_init_74 rfl (by decide) ?_
  refine ac_mkI (n := 6) (z := z + 8) (x := z) (cx := 7) (j := 15) (ck' := 9) (cn' := 815) (q := 81) ar_int fl_X7_39 rfl hk (by omega) rfl dX7_init_76 dX7_init_78 rfl e8 (by decide) rfl rfl (Nat.le_of_ble_eq_true rfl) (Nat.le_of_ble_eq_true rfl) (fun Y9 m9 g9 e9 k9 r9 o9 => ?_)
  replace hk := (g9.2.1 z (by omega)).trans hk
  replace k1 := (g9.2.1 (z + 1) (by omega)).trans k1
  replace k2 := (g9.2.1 (z + 2) (by omega)).trans k2
  replace k3 := (g9.2.1 (z + 3) (by omega)).trans k3
  replace k4 := (g9.2.1 (z + 4) (by omega)).trans k4
  replace k5 := (g9.2.1 (z + 5) (by omega)).trans k5
  replace k6 := (g9.2.1 (z + 6) (by omega)).trans k6
  replace k7 := (g9.2.1 (z + 7) (by omega)).trans k7
  replace k8 := (g9.2.1 (z + 8) (by omega)).trans k8
  replace r1 : ac_ri Y9 z 1 (z + 1) := (o9 1 (by decide)).trans r1
  replace r2 : ac_ri Y9 z 6 (z + 2) := (o9 6 (by decide)).trans r2
  replace r3 : ac_ri Y9 z 7 (z + 3) := (o9 7 (by decide)).trans r3
  replace r4 : ac_ri Y9 z 8 (z + 4) := (o9 8 (by decide)).trans r4
  replace r5 : ac_ri Y9 z 9 (z + 5) := (o9 9 (by decide)).trans r5
  replace r6 : ac_ri Y9 z 11 (z + 6) := (o9 11 (by decide)).trans r6
  replace r7 : ac_ri Y9 z 12 (z + 7) := (o9 12 (by decide)).trans r7
  replace r8 : ac_ri Y9 z 14 (z + 8) := (o9 14 (by decide)).trans r8
  replace G0 := ac_kp_t G0 g9
  replace r9 : ac_ri Y9 z 15 (z + 9) := r9
  clear o9 g9 e8
  refine ac_aload_n (q := 82) dX7_init_81 rfl rfl ?_
  refine ac_bipush (q := 84) dX7_init_82 rfl (by decide) ?_
  refine ac_mkI (n := 6) (z := z + 9) (x := z) (cx := 7) (j := 16) (ck' := 10) (cn' := 821) (q := 89) ar_int fl_X7_42 rfl hk (by omega) rfl dX7_init_84 dX7_init_86 rfl e9 (by decide) rfl rfl (Nat.le_of_ble_eq_true rfl) (Nat.le_of_ble_eq_true rfl) (fun Y10 m10 g10 e10 k10 r10 o10 => ?_)
  replace hk := (g10.2.1 z (by omega)).trans hk
  replace k1 := (g10.2.1 (z + 1) (by omega)).trans k1
  replace k2 := (g10.2.1 (z + 2) (by omega)).trans k2
  replace k3 := (g10.2.1 (z + 3) (by omega)).trans k3
  replace k4 := (g10.2.1 (z + 4) (by omega)).trans k4
  replace k5 := (g10.2.1 (z + 5) (by omega)).trans k5
  replace k6 := (g10.2.1 (z + 6) (by omega)).trans k6
  replace k7 := (g10.2.1 (z + 7) (by omega)).trans k7
  replace k8 := (g10.2.1 (z + 8) (by omega)).trans k8
  replace k9 := (g10.2.1 (z + 9) (by omega)).trans k9
  replace r1 : ac_ri Y10 z 1 (z + 1) := (o10 1 (by decide)).trans r1
  replace r2 : ac_ri Y10 z 6 (z + 2) := (o10 6 (by decide)).trans r2
  replace r3 : ac_ri Y10 z 7 (z + 3) := (o10 7 (by decide)).trans r3
  replace r4 : ac_ri Y10 z 8 (z + 4) := (o10 8 (by decide)).trans r4
  replace r5 : ac_ri Y10 z 9 (z + 5) := (o10 9 (by decide)).trans r5
  replace r6 : ac_ri Y10 z 11 (z + 6) := (o10 11 (by decide)).trans r6
  replace r7 : ac_ri Y10 z 12 (z + 7) := (o10 12 (by decide)).trans r7
  replace r8 : ac_ri Y10 z 14 (z + 8) := (o10 14 (by decide)).trans r8
  replace r9 : ac_ri Y10 z 15 (z + 9) := (o10 15 (by decide)).trans r9
  replace G0 := ac_kp_t G0 g10
  replace r10 : ac_ri Y10 z 16 (z + 10) := r10
  clear o10 g10 e9
  refine ac_aload_n (q := 90) dX7_init_89 rfl rfl ?_
  refine ac_sipush (q := 93) dX7_init_90 rfl (by decide) ?_
  refine ac_mkI (n := 400) (z := z + 10) (x := z) (cx := 7) (j := 18) (ck' := 11) (cn' := 1221) (q := 98) ar_int fl_X7_45 rfl hk (by omega) rfl dX7_init_93 dX7_init_95 rfl e10 (by decide) rfl rfl (Nat.le_of_ble_eq_true rfl) (Nat.le_of_ble_eq_true rfl) (fun Y11 m11 g11 e11 k11 r11 o11 => ?_)
  replace hk := (g11.2.1 z (by omega)).trans hk
  replace k1 := (g11.2.1 (z + 1) (by omega)).trans k1
  replace k2 := (g11.2.1 (z + 2) (by omega)).trans k2
  replace k3 := (g11.2.1 (z + 3) (by omega)).trans k3
  replace k4 := (g11.2.1 (z + 4) (by omega)).trans k4
  replace k5 := (g11.2.1 (z + 5) (by omega)).trans k5
  replace k6 := (g11.2.1 (z + 6) (by omega)).trans k6
  replace k7 := (g11.2.1 (z + 7) (by omega)).trans k7
  replace k8 := (g11.2.1 (z + 8) (by omega)).trans k8
  replace k9 := (g11.2.1 (z + 9) (by omega)).trans k9
  replace k10 := (g11.2.1 (z + 10) (by omega)).trans k10
  replace r1 : ac_ri Y11 z 1 (z + 1) := (o11 1 (by decide)).trans r1
  replace r2 : ac_ri Y11 z 6 (z + 2) := (o11 6 (by decide)).trans r2
  replace r3 : ac_ri Y11 z 7 (z + 3) := (o11 7 (by decide)).trans r3
  replace r4 : ac_ri Y11 z 8 (z + 4) := (o11 8 (by decide)).trans r4
  replace r5 : ac_ri Y11 z 9 (z + 5) := (o11 9 (by decide)).trans r5
  replace r6 : ac_ri Y11 z 11 (z + 6) := (o11 11 (by decide)).trans r6
  replace r7 : ac_ri Y11 z 12 (z + 7) := (o11 12 (by decide)).trans r7
  replace r8 : ac_ri Y11 z 14 (z + 8) := (o11 14 (by decide)).trans r8
  replace r9 : ac_ri Y11 z 15 (z + 9) := (o11 15 (by decide)).trans r9
  replace r10 : ac_ri Y11 z 16 (z + 10) := (o11 16 (by decide)).trans r10
  replace G0 := ac_kp_t G0 g11
  replace r11 : ac_ri Y11 z 18 (z + 11) := r11
  clear o11 g11 e10
  refine ac_aload_n (q := 99) dX7_init_98 rfl rfl ?_
  refine ac_bipush (q := 101) dX7_init_99 rfl (by decide) ?_
  refine ac_mkI (n := 12) (z := z + 11) (x := z) (cx := 7) (j := 19) (ck' := 12) (cn' := 1233) (q := 106) ar_int fl_X7_48 rfl hk (by omega) rfl dX7_init_101 dX7_init_103 rfl e11 (by decide) rfl rfl (Nat.le_of_ble_eq_true rfl) (Nat.le_of_ble_eq_true rfl) (fun Y12 m12 g12 e12 k12 r12 o12 => ?_)
  replace hk := (g12.2.1 z (by omega)).trans hk
  replace k1 := (g12.2.1 (z + 1) (by omega)).trans k1
  replace k2 := (g12.2.1 (z + 2) (by omega)).trans k2
  replace k3 := (g12.2.1 (z + 3) (by omega)).trans k3
  replace k4 := (g12.2.1 (z + 4) (by omega)).trans k4
  replace k5 := (g12.2.1 (z + 5) (by omega)).trans k5
  replace k6 := (g12.2.1 (z + 6) (by omega)).trans k6
  replace k7 := (g12.2.1 (z + 7) (by omega)).trans k7
  replace k8 := (g12.2.1 (z + 8) (by omega)).trans k8
  replace k9 := (g12.2.1 (z + 9) (by omega)).trans k9
  replace k10 := (g12.2.1 (z + 10) (by omega)).trans k10
  replace k11 := (g12.2.1 (z + 11) (by omega)).trans k11
  replace r1 : ac_ri Y12 z 1 (z + 1) := (o12 1 (by decide)).trans r1
  replace r2 : ac_ri Y12 z 6 (z + 2) := (o12 6 (by decide)).trans r2
  replace r3 : ac_ri Y12 z 7 (z + 3) := (o12 7 (by decide)).trans r3
  replace r4 : ac_ri Y12 z 8 (z + 4) := (o12 8 (by decide)).trans r4
  replace r5 : ac_ri Y12 z 9 (z + 5) := (o12 9 (by decide)).trans r5
  replace r6 : ac_ri Y12 z 11 (z + 6) := (o12 11 (by decide)).trans r6
  replace r7 : ac_ri Y12 z 12 (z + 7) := (o12 12 (by decide)).trans r7
  replace r8 : ac_ri Y12 z 14 (z + 8) := (o12 14 (by decide)).trans r8
  replace r9 : ac_ri Y12 z 15 (z + 9) := (o12 15 (by decide)).trans r9
  replace r10 : ac_ri Y12 z 16 (z + 10) := (o12 16 (by decide)).trans r10
  replace r11 : ac_ri Y12 z 18 (z + 11) := (o12 18 (by decide)).trans r11
  replace G0 := ac_kp_t G0 g12
  replace r12 : ac_ri Y12 z 19 (z + 12) := r12
  clear o12 g12 e11
  refine ac_aload_n (q := 107) dX7_init_106 rfl rfl ?_
  refine ac_bipush (q := 109) dX7_init_107 rfl (by decide) ?_
  refine ac_mkI (n := 11) (z := z + 12) (x := z) (cx := 7) (j := 20) (ck' := 13) (cn' := 1244) (q := 114) ar_int fl_X7_51 rfl hk (by omega) rfl dX7_init_109 dX7_init_111 rfl e12 (by decide) rfl rfl (Nat.le_of_ble_eq_true rfl) (Nat.le_of_ble_eq_true rfl) (fun Y13 m13 g13 e13 k13 r13 o13 => ?_)
  replace hk := (g13.2.1 z (by omega)).trans hk
  replace k1 := (g13.2.1 (z + 1) (by omega)).trans k1
  replace k2 := (g13.2.1 (z + 2) (by omega)).trans k2
  replace k3 := (g13.2.1 (z + 3) (by omega)).trans k3
  replace k4 := (g13.2.1 (z + 4) (by omega)).trans k4
  replace k5 := (g13.2.1 (z + 5) (by omega)).trans k5
  replace k6 := (g13.2.1 (z + 6) (by omega)).trans k6
  replace k7 := (g13.2.1 (z + 7) (by omega)).trans k7
  replace k8 := (g13.2.1 (z + 8) (by omega)).trans k8
  replace k9 := (g13.2.1 (z + 9) (by omega)).trans k9
  replace k10 := (g13.2.1 (z + 10) (by omega)).trans k10
  replace k11 := (g13.2.1 (z + 11) (by omega)).trans k11
  replace k12 := (g13.2.1 (z + 12) (by omega)).trans k12
  replace r1 : ac_ri Y13 z 1 (z + 1) := (o13 1 (by decide)).trans r1
  replace r2 : ac_ri Y13 z 6 (z + 2) := (o13 6 (by decide)).trans r2
  replace r3 : ac_ri Y13 z 7 (z + 3) := (o13 7 (by decide)).trans r3
  replace r4 : ac_ri Y13 z 8 (z + 4) := (o13 8 (by decide)).trans r4
  replace r5 : ac_ri Y13 z 9 (z + 5) := (o13 9 (by decide)).trans r5
  replace r6 : ac_ri Y13 z 11 (z + 6) := (o13 11 (by decide)).trans r6
  replace r7 : ac_ri Y13 z 12 (z + 7) := (o13 12 (by decide)).trans r7
  replace r8 : ac_ri Y13 z 14 (z + 8) := (o13 14 (by decide)).trans r8
  replace r9 : ac_ri Y13 z 15 (z + 9) := (o13 15 (by decide)).trans r9
  replace r10 : ac_ri Y13 z 16 (z + 10) := (o13 16 (by decide)).trans r10
  replace r11 : ac_ri Y13 z 18 (z + 11) := (o13 18 (by decide)).trans r11
  replace r12 : ac_ri Y13 z 19 (z + 12) := (o13 19 (by decide)).trans r12
  replace G0 := ac_kp_t G0 g13
  replace r13 : ac_ri Y13 z 20 (z + 13) := r13
  clear o13 g13 e12
  refine ac_aload_n (q := 115) dX7_init_114 rfl rfl ?_
  refine ac_iconst (q := 116) dX7_init_115 rfl ?_
  refine ac_mkI (n := 3) (z := z + 13) (x := z) (cx := 7) (j := 21) (ck' := 14) (cn' := 1247) (q := 121) ar_int fl_X7_54 rfl hk (by omega) rfl dX7_init_116 dX7_init_118 rfl e13 (by decide) rfl rfl (Nat.le_of_ble_eq_true rfl) (Nat.le_of_ble_eq_true rfl) (fun Y14 m14 g14 e14 k14 r14 o14 => ?_)
  replace hk := (g14.2.1 z (by omega)).trans hk
  replace k1 := (g14.2.1 (z + 1) (by omega)).trans k1
  replace k2 := (g14.2.1 (z + 2) (by omega)).trans k2
  replace k3 := (g14.2.1 (z + 3) (by omega)).trans k3
  replace k4 := (g14.2.1 (z + 4) (by omega)).trans k4
  replace k5 := (g14.2.1 (z + 5) (by omega)).trans k5
  replace k6 := (g14.2.1 (z + 6) (by omega)).trans k6
  replace k7 := (g14.2.1 (z + 7) (by omega)).trans k7
  replace k8 := (g14.2.1 (z + 8) (by omega)).trans k8
  replace k9 := (g14.2.1 (z + 9) (by omega)).trans k9
  replace k10 := (g14.2.1 (z + 10) (by omega)).trans k10
  replace k11 := (g14.2.1 (z + 11) (by omega)).trans k11
  replace k12 := (g14.2.1 (z + 12) (by omega)).trans k12
  replace k13 := (g14.2.1 (z + 13) (by omega)).trans k13
  replace r1 : ac_ri Y14 z 1 (z + 1) := (o14 1 (by decide)).trans r1
  replace r2 : ac_ri Y14 z 6 (z + 2) := (o14 6 (by decide)).trans r2
  replace r3 : ac_ri Y14 z 7 (z + 3) := (o14 7 (by decide)).trans r3
  replace r4 : ac_ri Y14 z 8 (z + 4) := (o14 8 (by decide)).trans r4
  replace r5 : ac_ri Y14 z 9 (z + 5) := (o14 9 (by decide)).trans r5
  replace r6 : ac_ri Y14 z 11 (z + 6) := (o14 11 (by decide)).trans r6
  replace r7 : ac_ri Y14 z 12 (z + 7) := (o14 12 (by decide)).trans r7
  replace r8 : ac_ri Y14 z 14 (z + 8) := (o14 14 (by decide)).trans r8
  replace r9 : ac_ri Y14 z 15 (z + 9) := (o14 15 (by decide)).trans r9
  replace r10 : ac_ri Y14 z 16 (z + 10) := (o14 16 (by decide)).trans r10
  replace r11 : ac_ri Y14 z 18 (z + 11) := (o14 18 (by decide)).trans r11
  replace r12 : ac_ri Y14 z 19 (z + 12) := (o14 19 (by decide)).trans r12
  replace r13 : ac_ri Y14 z 20 (z + 13) := (o14 20 (by decide)).trans r13
  replace G0 := ac_kp_t G0 g14
  replace r14 : ac_ri Y14 z 21 (z + 14) := r14
  clear o14 g14 e13
  have GB := G0
  have eB := e14
  refine ac_aload_n (q := 122) dX7_init_121 rfl rfl ?_
  refine ac_aload_n (q := 123) dX7_init_122 rfl rfl ?_
  refine ac_get (q := 126) dX7_init_123 fl_X7_20 hk rfl (ac_rdr rfl r3) ?_
  refine ac_putR (q := 129) dX7_init_126 fl_X7_57 hk rfl rfl ?_
  have G0 : ac_kp z Y14 (ac_up m14 z 25 ((z + 3 : Nat) : Int)) Y14 (ac_up m14 z 25 ((z + 3 : Nat) : Int)) := ac_kp_r
  refine ac_aload_n (q := 130) dX7_init_129 rfl rfl ?_
  refine ac_ldc (q := 132) (v := 59049) dX7_init_130 rfl ct_X7_60 ?_
  refine ac_mkZ (n := 59049) (z := z + 14) (x := z) (cx := 7) (j := 26) (ck' := 15) (cn' := 60296) (q := 137) ar_boolean fl_X7_61 rfl hk (by omega) rfl dX7_init_132 dX7_init_134 rfl e14 (by decide) rfl rfl (Nat.le_of_ble_eq_true rfl) (Nat.le_of_ble_eq_true rfl) (fun Y15 m15 g15 e15 k15 r15 o15 => ?_)
  replace hk := (g15.2.1 z (by omega)).trans hk
  replace k1 := (g15.2.1 (z + 1) (by omega)).trans k1
  replace k2 := (g15.2.1 (z + 2) (by omega)).trans k2
  replace k3 := (g15.2.1 (z + 3) (by omega)).trans k3
  replace k4 := (g15.2.1 (z + 4) (by omega)).trans k4
  replace k5 := (g15.2.1 (z + 5) (by omega)).trans k5
  replace k6 := (g15.2.1 (z + 6) (by omega)).trans k6
  replace k7 := (g15.2.1 (z + 7) (by omega)).trans k7
  replace k8 := (g15.2.1 (z + 8) (by omega)).trans k8
  replace k9 := (g15.2.1 (z + 9) (by omega)).trans k9
  replace k10 := (g15.2.1 (z + 10) (by omega)).trans k10
  replace k11 := (g15.2.1 (z + 11) (by omega)).trans k11
  replace k12 := (g15.2.1 (z + 12) (by omega)).trans k12
  replace k13 := (g15.2.1 (z + 13) (by omega)).trans k13
  replace k14 := (g15.2.1 (z + 14) (by omega)).trans k14
  replace r1 : ac_ri Y15 z 1 (z + 1) := (o15 1 (by decide)).trans r1
  replace r2 : ac_ri Y15 z 6 (z + 2) := (o15 6 (by decide)).trans r2
  replace r3 : ac_ri Y15 z 7 (z + 3) := (o15 7 (by decide)).trans r3
  replace r4 : ac_ri Y15 z 8 (z + 4) := (o15 8 (by decide)).trans r4
  replace r5 : ac_ri Y15 z 9 (z + 5) := (o15 9 (by decide)).trans r5
  replace r6 : ac_ri Y15 z 11 (z + 6) := (o15 11 (by decide)).trans r6
  replace r7 : ac_ri Y15 z 12 (z + 7) := (o15 12 (by decide)).trans r7
  replace r8 : ac_ri Y15 z 14 (z + 8) := (o15 14 (by decide)).trans r8
  replace r9 : ac_ri Y15 z 15 (z + 9) := (o15 15 (by decide)).trans r9
  replace r10 : ac_ri Y15 z 16 (z + 10) := (o15 16 (by decide)).trans r10
  replace r11 : ac_ri Y15 z 18 (z + 11) := (o15 18 (by decide)).trans r11
  replace r12 : ac_ri Y15 z 19 (z + 12) := (o15 19 (by decide)).trans r12
  replace r13 : ac_ri Y15 z 20 (z + 13) := (o15 20 (by decide)).trans r13
  replace r14 : ac_ri Y15 z 21 (z + 14) := (o15 21 (by decide)).trans r14
  replace G0 := ac_kp_t G0 g15
  replace r15 : ac_ri Y15 z 26 (z + 15) := r15
  clear o15 g15 e14
  refine ac_aload_n (q := 138) dX7_init_137 rfl rfl ?_
  refine ac_bipush (q := 140) dX7_init_138 rfl (by decide) ?_
  refine ac_mkZ (n := 12) (z := z + 15) (x := z) (cx := 7) (j := 27) (ck' := 16) (cn' := 60308) (q := 145) ar_boolean fl_X7_64 rfl hk (by omega) rfl dX7_init_140 dX7_init_142 rfl e15 (by decide) rfl rfl (Nat.le_of_ble_eq_true rfl) (Nat.le_of_ble_eq_true rfl) (fun Y16 m16 g16 e16 k16 r16 o16 => ?_)
  replace hk := (g16.2.1 z (by omega)).trans hk
  replace k1 := (g16.2.1 (z + 1) (by omega)).trans k1
  replace k2 := (g16.2.1 (z + 2) (by omega)).trans k2
  replace k3 := (g16.2.1 (z + 3) (by omega)).trans k3
  replace k4 := (g16.2.1 (z + 4) (by omega)).trans k4
  replace k5 := (g16.2.1 (z + 5) (by omega)).trans k5
  replace k6 := (g16.2.1 (z + 6) (by omega)).trans k6
  replace k7 := (g16.2.1 (z + 7) (by omega)).trans k7
  replace k8 := (g16.2.1 (z + 8) (by omega)).trans k8
  replace k9 := (g16.2.1 (z + 9) (by omega)).trans k9
  replace k10 := (g16.2.1 (z + 10) (by omega)).trans k10
  replace k11 := (g16.2.1 (z + 11) (by omega)).trans k11
  replace k12 := (g16.2.1 (z + 12) (by omega)).trans k12
  replace k13 := (g16.2.1 (z + 13) (by omega)).trans k13
  replace k14 := (g16.2.1 (z + 14) (by omega)).trans k14
  replace k15 := (g16.2.1 (z + 15) (by omega)).trans k15
  replace r1 : ac_ri Y16 z 1 (z + 1) := (o16 1 (by decide)).trans r1
  replace r2 : ac_ri Y16 z 6 (z + 2) := (o16 6 (by decide)).trans r2
  replace r3 : ac_ri Y16 z 7 (z + 3) := (o16 7 (by decide)).trans r3
  replace r4 : ac_ri Y16 z 8 (z + 4) := (o16 8 (by decide)).trans r4
  replace r5 : ac_ri Y16 z 9 (z + 5) := (o16 9 (by decide)).trans r5
  replace r6 : ac_ri Y16 z 11 (z + 6) := (o16 11 (by decide)).trans r6
  replace r7 : ac_ri Y16 z 12 (z + 7) := (o16 12 (by decide)).trans r7
  replace r8 : ac_ri Y16 z 14 (z + 8) := (o16 14 (by decide)).trans r8
  replace r9 : ac_ri Y16 z 15 (z + 9) := (o16 15 (by decide)).trans r9
  replace r10 : ac_ri Y16 z 16 (z + 10) := (o16 16 (by decide)).trans r10
  replace r11 : ac_ri Y16 z 18 (z + 11) := (o16 18 (by decide)).trans r11
  replace r12 : ac_ri Y16 z 19 (z + 12) := (o16 19 (by decide)).trans r12
  replace r13 : ac_ri Y16 z 20 (z + 13) := (o16 20 (by decide)).trans r13
  replace r14 : ac_ri Y16 z 21 (z + 14) := (o16 21 (by decide)).trans r14
  replace r15 : ac_ri Y16 z 26 (z + 15) := (o16 26 (by decide)).trans r15
  replace G0 := ac_kp_t G0 g16
  replace r16 : ac_ri Y16 z 27 (z + 16) := r16
  clear o16 g16 e15
  refine ac_aload_n (q := 146) dX7_init_145 rfl rfl ?_
  refine ac_get (q := 149) dX7_init_146 fl_X7_20 hk rfl (ac_rdr rfl r3) ?_
  refine ac_iconst (q := 150) dX7_init_149 rfl ?_
  refine ac_iconst (q := 151) dX7_init_150 rfl ?_
  refine ac_iastoreN (q := 152) (j := 0) dX7_init_151 k3 (by decide) (by decide) rfl ?_
  refine ac_aload_n (q := 153) dX7_init_152 rfl rfl ?_
  refine ac_get (q := 156) dX7_init_153 fl_X7_20 hk rfl (ac_rdr rfl r3) ?_
  refine ac_bipush (q := 158) dX7_init_156 rfl (by decide) ?_
  refine ac_iconst (q := 159) dX7_init_158 rfl ?_
  refine ac_iastoreN (q := 160) (j := 28) dX7_init_159 k3 (by decide) (by decide) rfl ?_
  refine ac_return dX7_init_160 rfl (Nat.le_refl _) (Nat.le_refl _) ?_
  have hM : ac_isM Y16 z := ⟨⟨r1, r2, r3, r4, r5, r6, r7, r8, r9, r10, r11, r12, r13, r14, r15, r16⟩, hk, k1, k2, k3, k4, k5, k6, k7, k8, k9, k10, k11, k12, k13, k14, k15, k16⟩
  have zz : ∀ k, z < k → k ≤ z + 16 → m16 k = fun _ => 0 := fun k a b => by
    by_cases h1 : k ≤ z + 14
    · rw [G0.2.2.2.1 k (by omega)]
      have e1 : ac_up m14 z 25 ((z + 3 : Nat) : Int) k = m14 k := by funext j; exact ac_up_k (by omega)
      rw [e1]
      by_cases h2 : k ≤ z + 1
      · rw [GB.2.2.2.1 k (by omega)]
        have e2 : ac_up m1 z 4 2 k = m1 k := by funext j; exact ac_up_k (by omega)
        rw [e2]
        exact GA.2.2.2.2 k (by omega) (by omega)
      · exact GB.2.2.2.2 k (by omega) (by omega)
    · exact G0.2.2.2.2 k (by omega) (by omega)
  have zx : ∀ j, j ≠ 25 → m16 z j = if j = 4 then 2 else 0 := fun j hj => by
    rw [G0.2.2.2.1 z (by omega), ac_up_j hj, GB.2.2.2.1 z (by omega)]
    by_cases h4 : j = 4
    · rw [h4, ac_up_s]; rfl
    · rw [ac_up_j h4, GA.2.2.2.1 z (by omega), hm, if_neg h4]
  have lo : ∀ k, k < z → m16 k = mm k := fun k hk2 => by
    have e1 : ac_up m14 z 25 ((z + 3 : Nat) : Int) k = m14 k := by funext j; exact ac_up_k (by omega)
    have e2 : ac_up m1 z 4 2 k = m1 k := by funext j; exact ac_up_k (by omega)
    rw [G0.2.2.2.1 k (by omega), e1, GB.2.2.2.1 k (by omega), e2, GA.2.2.2.1 k (by omega)]
  have loK : ∀ k, k < z → Y16.2.1 k = Y.2.1 k ∧ Y16.2.2 k = Y.2.2 k := fun k hk2 => ⟨(G0.2.1 k (by omega)).trans ((GB.2.1 k (by omega)).trans (GA.2.1 k (by omega))), (G0.2.2.1 k (by omega) (by omega)).trans ((GB.2.2.1 k (by omega) (by omega)).trans (GA.2.2.1 k (by omega) (by omega)))⟩
  have up2 : ∀ k, k ≠ z + 3 → ac_up (ac_up m16 (z + 3) 0 1) (z + 3) 28 1 k = m16 k := fun k hk2 => by funext j; rw [ac_up_k hk2, ac_up_k hk2]
  have pg : ∀ j, ac_up (ac_up m16 (z + 3) 0 1) (z + 3) 28 1 (z + 3) j = if j = 28 then 1 else if j = 0 then 1 else 0 := fun j => by
    by_cases h1 : j = 28
    · rw [h1, ac_up_s, if_pos rfl]
    · rw [ac_up_j h1, if_neg h1]
      by_cases h2 : j = 0
      · rw [h2, ac_up_s, if_pos rfl]
      · rw [ac_up_j h2, if_neg h2, zz _ (by omega) (by omega)]
  refine ⟨rfl, by omega, hM, ⟨⟨⟨by decide, fun v h => by cases h⟩, ?_, fun i h => by simp at h⟩, ⟨?_, ?_⟩, ⟨by decide, ?_, fun i T h => by simp at h⟩, ⟨⟨?_, ?_⟩, fun T h => (by cases h), fun T h => (by cases h)⟩, ⟨⟨by decide, fun o h => by cases h⟩, ?_, fun i o h => by simp at h⟩, ?_⟩, fun k hk2 => ⟨(loK k hk2).1, (loK k hk2).2, (up2 k (by omega)).trans (lo k hk2)⟩⟩
  · rw [up2 z (by omega), zx 2 (by decide)]; rfl
  · rw [up2 z (by omega), zx 4 (by decide)]; rfl
  · refine ⟨⟨by decide, by decide, ⟨by decide, fun q h => by cases h⟩, fun _ _ => rfl, fun _ => ⟨by show (-1 : Int) ≤ -1; decide, by show (-1 : Int) < 2; decide⟩, fun l hl => ?_⟩, ?_, ?_, fun e q h => by simp [ac_T0] at h, fun i a b => ?_, ?_, fun i a => ?_, fun l hl i c hc => ?_⟩
    · cases hl; exact ⟨rfl, fun c hc => by rw [List.mem_singleton.mp hc]; decide⟩
    · rw [pg]; rfl
    · rw [pg]; rfl
    · rw [pg, if_neg (by omega), if_neg (by omega)]; rfl
    · rw [pg]; rfl
    · rw [pg, if_neg (by omega), if_neg (by omega)]; exact ⟨by decide, by decide⟩
    · cases hl
      rw [pg, if_neg (by omega), if_neg (by omega)]
      cases i with
      | zero => cases hc; rfl
      | succ i => simp at hc
  · rw [up2 z (by omega), zx 10 (by decide)]; rfl
  · rw [up2 _ (by omega), zz _ (by omega) (by omega)]; rfl
  · rw [up2 _ (by omega), zz _ (by omega) (by omega)]; rfl
  · rw [up2 z (by omega), zx 13 (by decide)]; rfl
  · rw [up2 z (by omega), zx 17 (by decide)]; rfl
