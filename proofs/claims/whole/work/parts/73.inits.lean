/-! making objects: what a step keeps -/
/-- the cells up to Y.1 are as they were, but what x refers to; the new ones hold zeros -/
def ac_gr (x : Nat) (Y : ac_Y) (mm : ac_M) (Y' : ac_Y) (mm' : ac_M) : Prop := Y.1 ≤ Y'.1 ∧ (∀ k, k ≤ Y.1 → Y'.2.1 k = Y.2.1 k) ∧ (∀ k, k ≤ Y.1 → k ≠ x → Y'.2.2 k = Y.2.2 k) ∧ (∀ k, k ≤ Y.1 → mm' k = mm k) ∧ ∀ k, Y.1 < k → k ≤ Y'.1 → mm' k = fun _ => 0
theorem ac_gr_r {x : Nat} {Y : ac_Y} {mm : ac_M} : ac_gr x Y mm Y mm := ⟨Nat.le_refl _, fun _ _ => rfl, fun _ _ _ => rfl, fun _ _ => rfl, fun k a b => by omega⟩
theorem ac_gr_t {x : Nat} {Ya Yb Yc : ac_Y} {ma mb mc : ac_M} (h : ac_gr x Ya ma Yb mb) (h2 : ac_gr x Yb mb Yc mc) : ac_gr x Ya ma Yc mc := by
  obtain ⟨a1, a2, a3, a4, a5⟩ := h
  obtain ⟨b1, b2, b3, b4, b5⟩ := h2
  refine ⟨by omega, fun k hk => (b2 k (by omega)).trans (a2 k hk), fun k hk hx => (b3 k (by omega) hx).trans (a3 k hk hx), fun k hk => (b4 k (by omega)).trans (a4 k hk), fun k h1 h2 => ?_⟩
  by_cases hk : k ≤ Yb.1
  · rw [b4 k hk]; exact a5 k h1 hk
  · exact b5 k (by omega) h2
/-- a new cell -/
theorem ac_gr_n {x : Nat} {Y : ac_Y} {mm : ac_M} {w : Nat × Nat} : ac_gr x Y mm (ac_nY Y w) (ac_nM Y mm) := by
  refine ⟨Nat.le_succ _, fun k hk => if_neg (by omega), fun k hk _ => ?_, fun k hk => ?_, fun k h1 h2 => ?_⟩
  · funext j; exact if_neg (by omega)
  · funext j; exact if_neg (by omega)
  · have h2 : k ≤ Y.1 + 1 := h2
    funext j; exact if_pos (by omega)
theorem ac_nY_k {Y : ac_Y} {w : Nat × Nat} : (ac_nY Y w).2.1 (Y.1 + 1) = w := if_pos rfl
theorem ac_upR_k {rf : Nat → Nat → Nat} {k j v k' : Nat} (h : k' ≠ k) : ac_upR rf k j v k' = rf k' := by
  funext i; exact if_neg (fun q => h q.1)
theorem ac_upR_j {rf : Nat → Nat → Nat} {k j v j' : Nat} (h : j' ≠ j) : ac_upR rf k j v k j' = rf k j' := if_neg (fun q => h q.2)
theorem ac_upR_s {rf : Nat → Nat → Nat} {k j v : Nat} : ac_upR rf k j v k j = v := if_pos ⟨rfl, rfl⟩
/-- a reference of x is written -/
theorem ac_gr_p {x j v : Nat} {Y : ac_Y} {mm : ac_M} : ac_gr x Y mm (Y.1, Y.2.1, ac_upR Y.2.2 x j v) mm :=
  ⟨Nat.le_refl _, fun _ _ => rfl, fun k _ hx => ac_upR_k hx, fun _ _ => rfl, fun k a b => by have b : k ≤ Y.1 := b; omega⟩
/-- two layouts are the same from a to b -/
def ac_eqY (Y Y' : ac_Y) (a b : Nat) : Prop := ∀ k, a ≤ k → k ≤ b → Y'.2.1 k = Y.2.1 k ∧ Y'.2.2 k = Y.2.2 k
theorem ac_gr_e {x a b : Nat} {Y Y' : ac_Y} {mm mm' : ac_M} (h : ac_gr x Y mm Y' mm') (hb : b ≤ Y.1) (hx : x < a ∨ b < x) : ac_eqY Y Y' a b :=
  fun k h1 h2 => ⟨h.2.1 k (by omega), h.2.2.1 k (by omega) (by omega)⟩
theorem ac_isT_e {Y Y' : ac_Y} {t : Nat} (h : ac_isT Y t) (e : ac_eqY Y Y' t (t + 3)) : ac_isT Y' t := by
  obtain ⟨e0, f0⟩ := e t (by omega) (by omega)
  unfold ac_isT at *
  rw [e0, f0, (e (t + 1) (by omega) (by omega)).1, (e (t + 2) (by omega) (by omega)).1, (e (t + 3) (by omega) (by omega)).1]; exact h
theorem ac_isX_e {Y Y' : ac_Y} {t : Nat} (h : ac_isX Y t) (e : ac_eqY Y Y' t (t + 1)) : ac_isX Y' t := by
  obtain ⟨e0, f0⟩ := e t (by omega) (by omega)
  unfold ac_isX at *
  rw [e0, f0, (e (t + 1) (by omega) (by omega)).1]; exact h
theorem ac_isS_e {Y Y' : ac_Y} {t : Nat} (h : ac_isS Y t) (e : ac_eqY Y Y' t (t + 2)) : ac_isS Y' t := by
  obtain ⟨e0, f0⟩ := e t (by omega) (by omega)
  unfold ac_isS at *
  rw [e0, f0, (e (t + 1) (by omega) (by omega)).1, (e (t + 2) (by omega) (by omega)).1]; exact h
theorem ac_isC_e {Y Y' : ac_Y} {t : Nat} (h : ac_isC Y t) (e : ac_eqY Y Y' t (t + 5)) : ac_isC Y' t := by
  obtain ⟨e0, f0⟩ := e t (by omega) (by omega)
  obtain ⟨h1, h2, h3, h4, h5⟩ := h
  refine ⟨by rw [e0]; exact h1, by rw [(e (t + 1) (by omega) (by omega)).1]; exact h2, by rw [f0]; exact h3, by rw [f0]; exact h4, ac_isT_e h5 fun k a b => e k (by omega) (by omega)⟩
theorem ac_isH_e {Y Y' : ac_Y} {t : Nat} (h : ac_isH Y t) (e : ac_eqY Y Y' t (t + 57)) : ac_isH Y' t := by
  obtain ⟨e0, f0⟩ := e t (by omega) (by omega)
  obtain ⟨e1, f1⟩ := e (t + 1) (by omega) (by omega)
  obtain ⟨h1, h2, h3, h4⟩ := h
  refine ⟨by rw [e0]; exact h1, by rw [f0]; exact h2, by rw [e1]; exact h3, fun i hi => ?_⟩
  obtain ⟨q1, q2⟩ := h4 i hi
  exact ⟨by rw [f1]; exact q1, ac_isT_e q2 fun k a b => e k (by omega) (by omega)⟩
theorem ac_isW_e {Y Y' : ac_Y} {t : Nat} (h : ac_isW Y t) (e : ac_eqY Y Y' t (t + 17)) : ac_isW Y' t := by
  obtain ⟨e0, f0⟩ := e t (by omega) (by omega)
  obtain ⟨h1, ⟨h2, h3, h4, h5⟩, h6, h7, h8⟩ := h
  refine ⟨by rw [e0, f0]; exact h1, ⟨by rw [(e _ (by omega) (by omega)).1]; exact h2, by rw [(e _ (by omega) (by omega)).1]; exact h3, by rw [(e _ (by omega) (by omega)).1]; exact h4, by rw [(e _ (by omega) (by omega)).1]; exact h5⟩, ac_isS_e h6 fun k a b => e k (by omega) (by omega), ac_isC_e h7 fun k a b => e k (by omega) (by omega), ac_isT_e h8 fun k a b => e k (by omega) (by omega)⟩
section AcMk
variable {G : ac_G} {on : String × String} {cc : ByteArray} {nL : Nat} {ret : Option FieldType} {d mc ms : Nat} {P : ac_P} {ck cn : Nat} {Y : ac_Y} {mm : ac_M} {pc q : Nat} {ls st : List (Nat × Int)}
variable {y : MethodName} {cc' : ByteArray} {nL' d' mc' ms' ci : Nat}
/-- what a constructor of an object z, the last cell, leaves -/
def ac_ci (Y : ac_Y) (mm : ac_M) (z n : Nat) (lay : ac_Y → Nat → Prop) : ac_P := fun r Y' mm' => r = [] ∧ ac_gr z Y mm Y' mm' ∧ Y'.1 = z + n ∧ lay Y' z
/-- new, dup, <init>() -/
theorem ac_mk {idxN idxC z ck' cn' : Nat} {lay : ac_Y → Nat → Prop} (hC : ∀ (Y : ac_Y) (mm : ac_M), Y.1 = z + 1 → Y.2.1 (z + 1) = (0, ci) → ac_C G y cc' nL' none d' mc' ms' Y mm [(2, ((z + 1 : Nat) : Int))] (ac_ci Y mm (z + 1) mc' lay))
    (hN : ac_NL on.1 idxN ci) (hM : ac_ML 2 on.1 idxC ci y cc' nL' none 0) (h1 : decode cc pc = .ok (.new idxN, 3)) (h2 : decode cc (pc + 3) = .ok (.dup, 1)) (h3 : decode cc (pc + 4) = .ok (.invokespecial idxC, 3)) (hq : pc + 7 = q) (hz : Y.1 = z) (hd : d' + 1 ≤ d) (hsw : ac_sw ((2, ((z + 1 : Nat) : Int)) :: st) ≤ 8) (ec : ck + 1 + mc' = ck') (en : cn + ac_N ci + ms' = cn') (hmc : ck' ≤ mc) (hms : cn' ≤ ms)
    (kk : ∀ Y' m', ac_gr (z + 1) Y mm Y' m' → Y'.1 = z + 1 + mc' → Y'.2.1 (z + 1) = (0, ci) → lay Y' (z + 1) → ac_V G on cc nL ret d mc ms P ck' cn' Y' m' q ls ((2, ((z + 1 : Nat) : Int)) :: st)) : ac_V G on cc nL ret d mc ms P ck cn Y mm pc ls st := by
  subst hz; subst hq; subst ec; subst en
  refine ac_new h1 hN rfl (by omega) (by omega) ?_
  refine ac_dup (q := pc + 4) h2 rfl (show (2 : Nat) ≠ 1 by decide) ?_
  have hk : (ac_nY Y (0, ci)).2.1 (Y.1 + 1) = (0, ci) := ac_nY_k
  refine ac_invokespecial (as := []) (hC _ _ rfl hk) hM (by omega) h3 rfl rfl rfl hd hsw hmc hms (fun r Y' m' h => h.2.2.1) (fun r Y' m' h => ?_)
  obtain ⟨rfl, g, e, l⟩ := h
  exact kk Y' m' (ac_gr_t ac_gr_n g) e ((g.2.1 _ (Nat.le_refl _)).trans hk) l
/-- a final field of x is written -/
theorem ac_pF {idx j x v cx : Nat} (hdg : decode cc pc = .ok (.putfield idx, 3)) (hf : ac_FL true on.1 idx cx j) (hi : on.2 = "<init>") (hk : Y.2.1 x = (0, cx)) (ht : ac_ty cx j = 2) (hq : pc + 3 = q)
    (kk : ∀ Y', Y'.1 = Y.1 → (∀ m : ac_M, ac_gr x Y m Y' m) → Y'.2.2 x j = v → (∀ i, i ≠ j → Y'.2.2 x i = Y.2.2 x i) → ac_V G on cc nL ret d mc ms P ck cn Y' mm q ls st) : ac_V G on cc nL ret d mc ms P ck cn Y mm pc ls ((2, (v : Int)) :: (2, (x : Int)) :: st) :=
  ac_putF hdg hf hi hk ht hq (kk _ rfl (fun m => ac_gr_p) ac_upR_s (fun i h => ac_upR_j h))
/-- new, dup, <init>(), putfield of x -/
theorem ac_mkF {idxN idxC idxF z ck' cn' x j cx : Nat} {lay : ac_Y → Nat → Prop} (hC : ∀ (Y : ac_Y) (mm : ac_M), Y.1 = z + 1 → Y.2.1 (z + 1) = (0, ci) → ac_C G y cc' nL' none d' mc' ms' Y mm [(2, ((z + 1 : Nat) : Int))] (ac_ci Y mm (z + 1) mc' lay))
    (hlay : ∀ Y1 Y2, ac_eqY Y1 Y2 (z + 1) (z + 1 + mc') → lay Y1 (z + 1) → lay Y2 (z + 1))
    (hN : ac_NL on.1 idxN ci) (hM : ac_ML 2 on.1 idxC ci y cc' nL' none 0) (hF : ac_FL true on.1 idxF cx j) (hi : on.2 = "<init>") (hk : Y.2.1 x = (0, cx)) (hxz : x ≤ z) (ht : ac_ty cx j = 2) (h1 : decode cc pc = .ok (.new idxN, 3)) (h2 : decode cc (pc + 3) = .ok (.dup, 1)) (h3 : decode cc (pc + 4) = .ok (.invokespecial idxC, 3)) (h4 : decode cc (pc + 7) = .ok (.putfield idxF, 3)) (hq : pc + 10 = q) (hz : Y.1 = z) (hd : d' + 1 ≤ d) (hsw : ac_sw st ≤ 6) (ec : ck + 1 + mc' = ck') (en : cn + ac_N ci + ms' = cn') (hmc : ck' ≤ mc) (hms : cn' ≤ ms)
    (kk : ∀ Y' m', ac_gr x Y mm Y' m' → Y'.1 = z + 1 + mc' → lay Y' (z + 1) → Y'.2.2 x j = z + 1 → (∀ i, i ≠ j → Y'.2.2 x i = Y.2.2 x i) → ac_V G on cc nL ret d mc ms P ck' cn' Y' m' q ls st) : ac_V G on cc nL ret d mc ms P ck cn Y mm pc ls ((2, (x : Int)) :: st) := by
  subst hq
  refine ac_mk hC hN hM h1 h2 h3 rfl hz hd ?_ ec en hmc hms (fun Y1 m1 g1 e1 k1 l1 => ?_)
  · show 1 + (1 + ac_sw st) ≤ 8
    omega
  subst hz
  have hg : ac_gr x Y mm Y1 m1 := ⟨g1.1, g1.2.1, fun k hk _ => g1.2.2.1 k hk (by omega), g1.2.2.2⟩
  refine ac_pF h4 hF hi ((g1.2.1 x hxz).trans hk) ht rfl (fun Y2 e2 g2 r2 o2 => ?_)
  refine kk Y2 m1 (ac_gr_t hg (g2 m1)) (e2.trans e1) (hlay Y1 Y2 (ac_gr_e (g2 m1) (by omega) (Or.inl (by omega))) l1) r2 (fun i h => (o2 i h).trans ?_)
  rw [g1.2.2.1 x hxz (by omega)]
/-- a new row of ints, a final field of x -/
theorem ac_mkI {idxF z n ck' cn' x j cx : Nat} (hA : Cond.arrayClass .int ∈ ac_T) (hF : ac_FL true on.1 idxF cx j) (hi : on.2 = "<init>") (hk : Y.2.1 x = (0, cx)) (hxz : x ≤ z) (ht : ac_ty cx j = 2) (h1 : decode cc pc = .ok (.newarray .int, 2)) (h4 : decode cc (pc + 2) = .ok (.putfield idxF, 3)) (hq : pc + 5 = q) (hz : Y.1 = z) (hn : n < 100000000) (ec : ck + 1 = ck') (en : cn + n = cn') (hmc : ck' ≤ mc) (hms : cn' ≤ ms)
    (kk : ∀ Y' m', ac_gr x Y mm Y' m' → Y'.1 = z + 1 → Y'.2.1 (z + 1) = (1, n) → Y'.2.2 x j = z + 1 → (∀ i, i ≠ j → Y'.2.2 x i = Y.2.2 x i) → ac_V G on cc nL ret d mc ms P ck' cn' Y' m' q ls st) : ac_V G on cc nL ret d mc ms P ck cn Y mm pc ls ((0, (n : Int)) :: (2, (x : Int)) :: st) := by
  subst hz; subst hq; subst ec; subst en
  refine ac_newI h1 hA hn rfl hmc hms ?_
  have hg : ac_gr x Y mm (ac_nY Y (1, n)) (ac_nM Y mm) := ac_gr_n
  refine ac_pF h4 hF hi ((hg.2.1 x hxz).trans hk) ht rfl (fun Y2 e2 g2 r2 o2 => ?_)
  refine kk Y2 _ (ac_gr_t hg (g2 _)) e2 (((g2 mm).2.1 _ (Nat.le_refl _)).trans ac_nY_k) r2 (fun i h => (o2 i h).trans ?_)
  show (if x = Y.1 + 1 then 0 else Y.2.2 x i) = _
  rw [if_neg (by omega)]
theorem ac_mkZ {idxF z n ck' cn' x j cx : Nat} (hA : Cond.arrayClass .boolean ∈ ac_T) (hF : ac_FL true on.1 idxF cx j) (hi : on.2 = "<init>") (hk : Y.2.1 x = (0, cx)) (hxz : x ≤ z) (ht : ac_ty cx j = 2) (h1 : decode cc pc = .ok (.newarray .boolean, 2)) (h4 : decode cc (pc + 2) = .ok (.putfield idxF, 3)) (hq : pc + 5 = q) (hz : Y.1 = z) (hn : n < 100000000) (ec : ck + 1 = ck') (en : cn + n = cn') (hmc : ck' ≤ mc) (hms : cn' ≤ ms)
    (kk : ∀ Y' m', ac_gr x Y mm Y' m' → Y'.1 = z + 1 → Y'.2.1 (z + 1) = (2, n) → Y'.2.2 x j = z + 1 → (∀ i, i ≠ j → Y'.2.2 x i = Y.2.2 x i) → ac_V G on cc nL ret d mc ms P ck' cn' Y' m' q ls st) : ac_V G on cc nL ret d mc ms P ck cn Y mm pc ls ((0, (n : Int)) :: (2, (x : Int)) :: st) := by
  subst hz; subst hq; subst ec; subst en
  refine ac_newZ h1 hA hn rfl hmc hms ?_
  have hg : ac_gr x Y mm (ac_nY Y (2, n)) (ac_nM Y mm) := ac_gr_n
  refine ac_pF h4 hF hi ((hg.2.1 x hxz).trans hk) ht rfl (fun Y2 e2 g2 r2 o2 => ?_)
  refine kk Y2 _ (ac_gr_t hg (g2 _)) e2 (((g2 mm).2.1 _ (Nat.le_refl _)).trans ac_nY_k) r2 (fun i h => (o2 i h).trans ?_)
  show (if x = Y.1 + 1 then 0 else Y.2.2 x i) = _
  rw [if_neg (by omega)]
end AcMk

set_option maxHeartbeats 8000000 in
theorem k_X3_init {G : ac_G} {d z : Nat} (hd : 1 ≤ d) (h1z : 1 ≤ z) : ∀ (Y : ac_Y) (mm : ac_M), Y.1 = z → Y.2.1 z = (0, 3) → ac_C G yX3_init cX3_init 1 none d 3 30 Y mm [(2, (z : Int))] (ac_ci Y mm z 3 ac_isT) := by
  intro Y mm hz hk
  have G0 : ac_gr z Y mm Y mm := ac_gr_r
  refine ac_met (on := (RX3, "<init>")) rfl rfl (Nat.le_of_ble_eq_true rfl) (ls := [(2, (z : Int))]) rfl ?_
  refine ac_aload_n (q := 1) dX3_init_0 rfl rfl ?_
  refine ac_objInit (q := 4) dX3_init_1 ml_X3_3 ob_m ob_c (by omega) rfl (by omega) (by decide) ?_
  refine ac_aload_n (q := 5) dX3_init_4 rfl rfl ?_
  refine ac_bipush (q := 7) dX3_init_5 rfl (by decide) ?_
  refine ac_mkI (n := 16) (z := z) (x := z) (cx := 3) (j := 0) (ck' := 1) (cn' := 16) (q := 12) ar_int fl_X3_11 rfl hk (by omega) rfl dX3_init_7 dX3_init_9 rfl hz (by decide) rfl rfl (Nat.le_of_ble_eq_true rfl) (Nat.le_of_ble_eq_true rfl) (fun Y1 m1 g1 e1 k1 r1 o1 => ?_)
  have hk := (g1.2.1 z (by omega)).trans hk
  have G0 := ac_gr_t G0 g1
  refine ac_aload_n (q := 13) dX3_init_12 rfl rfl ?_
  refine ac_bipush (q := 15) dX3_init_13 rfl (by decide) ?_
  refine ac_mkI (n := 11) (z := z + 1) (x := z) (cx := 3) (j := 1) (ck' := 2) (cn' := 27) (q := 20) ar_int fl_X3_15 rfl hk (by omega) rfl dX3_init_15 dX3_init_17 rfl e1 (by decide) rfl rfl (Nat.le_of_ble_eq_true rfl) (Nat.le_of_ble_eq_true rfl) (fun Y2 m2 g2 e2 k2 r2 o2 => ?_)
  have hk := (g2.2.1 z (by omega)).trans hk
  have k1 := (g2.2.1 (z + 1) (by omega)).trans k1
  have r1 := (o2 0 (by decide)).trans r1
  have G0 := ac_gr_t G0 g2
  refine ac_aload_n (q := 21) dX3_init_20 rfl rfl ?_
  refine ac_iconst (q := 22) dX3_init_21 rfl ?_
  refine ac_mkI (n := 3) (z := z + 2) (x := z) (cx := 3) (j := 2) (ck' := 3) (cn' := 30) (q := 27) ar_int fl_X3_18 rfl hk (by omega) rfl dX3_init_22 dX3_init_24 rfl e2 (by decide) rfl rfl (Nat.le_of_ble_eq_true rfl) (Nat.le_of_ble_eq_true rfl) (fun Y3 m3 g3 e3 k3 r3 o3 => ?_)
  have hk := (g3.2.1 z (by omega)).trans hk
  have k1 := (g3.2.1 (z + 1) (by omega)).trans k1
  have k2 := (g3.2.1 (z + 2) (by omega)).trans k2
  have r1 := (o3 0 (by decide)).trans r1
  have r2 := (o3 1 (by decide)).trans r2
  have G0 := ac_gr_t G0 g3
  refine ac_return dX3_init_27 rfl (Nat.le_refl _) (Nat.le_refl _) ?_
  exact ⟨rfl, G0, e3, hk, k1, k2, k3, r1, r2, r3⟩

set_option maxHeartbeats 8000000 in
theorem k_X4_init {G : ac_G} {d z : Nat} (hd : 1 ≤ d) (h1z : 1 ≤ z) : ∀ (Y : ac_Y) (mm : ac_M), Y.1 = z → Y.2.1 z = (0, 4) → ac_C G yX4_init cX4_init 1 none d 1 60 Y mm [(2, (z : Int))] (ac_ci Y mm z 1 ac_isX) := by
  intro Y mm hz hk
  have G0 : ac_gr z Y mm Y mm := ac_gr_r
  refine ac_met (on := (RX4, "<init>")) rfl rfl (Nat.le_of_ble_eq_true rfl) (ls := [(2, (z : Int))]) rfl ?_
  refine ac_aload_n (q := 1) dX4_init_0 rfl rfl ?_
  refine ac_objInit (q := 4) dX4_init_1 ml_X4_3 ob_m ob_c (by omega) rfl (by omega) (by decide) ?_
  refine ac_aload_n (q := 5) dX4_init_4 rfl rfl ?_
  refine ac_bipush (q := 7) dX4_init_5 rfl (by decide) ?_
  refine ac_mkI (n := 60) (z := z) (x := z) (cx := 4) (j := 0) (ck' := 1) (cn' := 60) (q := 12) ar_int fl_X4_11 rfl hk (by omega) rfl dX4_init_7 dX4_init_9 rfl hz (by decide) rfl rfl (Nat.le_of_ble_eq_true rfl) (Nat.le_of_ble_eq_true rfl) (fun Y1 m1 g1 e1 k1 r1 o1 => ?_)
  have hk := (g1.2.1 z (by omega)).trans hk
  have G0 := ac_gr_t G0 g1
  refine ac_return dX4_init_12 rfl (Nat.le_refl _) (Nat.le_refl _) ?_
  exact ⟨rfl, G0, e1, hk, k1, r1⟩

set_option maxHeartbeats 8000000 in
theorem k_X2_init {G : ac_G} {d z : Nat} (hd : 1 ≤ d) (h1z : 1 ≤ z) : ∀ (Y : ac_Y) (mm : ac_M), Y.1 = z → Y.2.1 z = (0, 2) → ac_C G yX2_init cX2_init 1 none d 2 12 Y mm [(2, (z : Int))] (ac_ci Y mm z 2 ac_isS) := by
  intro Y mm hz hk
  have G0 : ac_gr z Y mm Y mm := ac_gr_r
  refine ac_met (on := (RX2, "<init>")) rfl rfl (Nat.le_of_ble_eq_true rfl) (ls := [(2, (z : Int))]) rfl ?_
  refine ac_aload_n (q := 1) dX2_init_0 rfl rfl ?_
  refine ac_objInit (q := 4) dX2_init_1 ml_X2_1 ob_m ob_c (by omega) rfl (by omega) (by decide) ?_
  refine ac_aload_n (q := 5) dX2_init_4 rfl rfl ?_
  refine ac_bipush (q := 7) dX2_init_5 rfl (by decide) ?_
  refine ac_mkI (n := 6) (z := z) (x := z) (cx := 2) (j := 0) (ck' := 1) (cn' := 6) (q := 12) ar_int fl_X2_9 rfl hk (by omega) rfl dX2_init_7 dX2_init_9 rfl hz (by decide) rfl rfl (Nat.le_of_ble_eq_true rfl) (Nat.le_of_ble_eq_true rfl) (fun Y1 m1 g1 e1 k1 r1 o1 => ?_)
  have hk := (g1.2.1 z (by omega)).trans hk
  have G0 := ac_gr_t G0 g1
  refine ac_aload_n (q := 13) dX2_init_12 rfl rfl ?_
  refine ac_bipush (q := 15) dX2_init_13 rfl (by decide) ?_
  refine ac_mkZ (n := 6) (z := z + 1) (x := z) (cx := 2) (j := 1) (ck' := 2) (cn' := 12) (q := 20) ar_boolean fl_X2_13 rfl hk (by omega) rfl dX2_init_15 dX2_init_17 rfl e1 (by decide) rfl rfl (Nat.le_of_ble_eq_true rfl) (Nat.le_of_ble_eq_true rfl) (fun Y2 m2 g2 e2 k2 r2 o2 => ?_)
  have hk := (g2.2.1 z (by omega)).trans hk
  have k1 := (g2.2.1 (z + 1) (by omega)).trans k1
  have r1 := (o2 0 (by decide)).trans r1
  have G0 := ac_gr_t G0 g2
  refine ac_return dX2_init_20 rfl (Nat.le_refl _) (Nat.le_refl _) ?_
  exact ⟨rfl, G0, e2, hk, k1, k2, r1, r2⟩

set_option maxHeartbeats 8000000 in
theorem k_X0_init {G : ac_G} {d z : Nat} (hd : 2 ≤ d) (h1z : 1 ≤ z) : ∀ (Y : ac_Y) (mm : ac_M), Y.1 = z → Y.2.1 z = (0, 0) → ac_C G yX0_init cX0_init 1 none d 5 2085 Y mm [(2, (z : Int))] (ac_ci Y mm z 5 ac_isC) := by
  intro Y mm hz hk
  have G0 : ac_gr z Y mm Y mm := ac_gr_r
  refine ac_met (on := (RX0, "<init>")) rfl rfl (Nat.le_of_ble_eq_true rfl) (ls := [(2, (z : Int))]) rfl ?_
  refine ac_aload_n (q := 1) dX0_init_0 rfl rfl ?_
  refine ac_objInit (q := 4) dX0_init_1 ml_X0_3 ob_m ob_c (by omega) rfl (by omega) (by decide) ?_
  refine ac_aload_n (q := 5) dX0_init_4 rfl rfl ?_
  refine ac_sipush (q := 8) dX0_init_5 rfl (by decide) ?_
  refine ac_mkI (n := 2048) (z := z) (x := z) (cx := 0) (j := 0) (ck' := 1) (cn' := 2048) (q := 13) ar_int fl_X0_11 rfl hk (by omega) rfl dX0_init_8 dX0_init_10 rfl hz (by decide) rfl rfl (Nat.le_of_ble_eq_true rfl) (Nat.le_of_ble_eq_true rfl) (fun Y1 m1 g1 e1 k1 r1 o1 => ?_)
  have hk := (g1.2.1 z (by omega)).trans hk
  have G0 := ac_gr_t G0 g1
  refine ac_aload_n (q := 14) dX0_init_13 rfl rfl ?_
  refine ac_mkF (z := z + 1) (x := z) (ci := 3) (cx := 0) (j := 1) (mc' := 3) (ms' := 30) (ck' := 5) (cn' := 2085) (d' := d - 1) (q := 24) (lay := ac_isT) (k_X3_init (z := z + 1 + 1) (by omega) (by omega)) (fun Y1 Y2 e l => ac_isT_e l e) nl_X0_15 ml_X0_17 fl_X0_18 rfl hk (by omega) rfl dX0_init_14 dX0_init_17 dX0_init_18 dX0_init_21 rfl e1 (by omega) (by decide) rfl rfl (Nat.le_of_ble_eq_true rfl) (Nat.le_of_ble_eq_true rfl) (fun Y2 m2 g2 e2 l2 r2 o2 => ?_)
  have hk := (g2.2.1 z (by omega)).trans hk
  have k1 := (g2.2.1 (z + 1) (by omega)).trans k1
  have r1 := (o2 0 (by decide)).trans r1
  have G0 := ac_gr_t G0 g2
  refine ac_return dX0_init_24 rfl (Nat.le_refl _) (Nat.le_refl _) ?_
  exact ⟨rfl, G0, e2, hk, k1, r1, r2, l2⟩

set_option maxHeartbeats 8000000 in
theorem k_X1_init {G : ac_G} {d z : Nat} (hd : 2 ≤ d) (h1z : 1 ≤ z) : ∀ (Y : ac_Y) (mm : ac_M), Y.1 = z → Y.2.1 z = (0, 1) → ac_C G yX1_init cX1_init 2 none d 57 532 Y mm [(2, (z : Int))] (ac_ci Y mm z 57 ac_isH) := by
  intro Y mm hz hk
  have G0 : ac_gr z Y mm Y mm := ac_gr_r
  refine ac_met (on := (RX1, "<init>")) rfl rfl (Nat.le_of_ble_eq_true rfl) (ls := [(2, (z : Int)), (3, 0)]) rfl ?_
  have loop : ∀ (r c : Nat) (Ya : ac_Y) (ma : ac_M), c + r = 14 → Ya.1 = z + 1 + 4 * c → Ya.2.1 z = (0, 1) → Ya.2.1 (z + 1) = (3, 14) → Ya.2.2 z 0 = z + 1 → (∀ i, i < c → Ya.2.2 (z + 1) i = z + 2 + 4 * i ∧ ac_isT Ya (z + 2 + 4 * i)) → ac_gr z Y mm Ya ma → ac_V G (RX1, "<init>") cX1_init 2 none d 57 532 (ac_ci Y mm z 57 ac_isH) (1 + 4 * c) (14 + 37 * c) Ya ma 15 [(2, (z : Int)), (0, (c : Int))] [] := by
    intro r
    induction r with
    | zero =>
      intro c Ya ma hcr ea ka k1 r0 hl hg
      refine ac_iload_n (q := 16) dX1_init_15 rfl rfl ?_
      refine ac_bipush (q := 18) dX1_init_16 rfl (by decide) ?_
      refine ac_icmp_ge (q := 21) (tgt := 40) dX1_init_18 rfl rfl ⟨by omega, by omega⟩ ⟨by omega, by omega⟩ (fun h18 => ?_) (fun h18 => ?_)
      · refine ac_return dX1_init_40 rfl (by omega) (by omega) ?_
        exact ⟨rfl, hg, by omega, ka, r0, k1, fun i hi => hl i (by omega)⟩
      · exfalso; omega
    | succ r ih =>
      intro c Ya ma hcr ea ka k1 r0 hl hg
      refine ac_iload_n (q := 16) dX1_init_15 rfl rfl ?_
      refine ac_bipush (q := 18) dX1_init_16 rfl (by decide) ?_
      refine ac_icmp_ge (q := 21) (tgt := 40) dX1_init_18 rfl rfl ⟨by omega, by omega⟩ ⟨by omega, by omega⟩ (fun h18 => ?_) (fun h18 => ?_)
      · exfalso; omega
      · refine ac_aload_n (q := 22) dX1_init_21 rfl rfl ?_
        refine ac_get (q := 25) dX1_init_22 fl_X1_11 ka rfl (ac_rdr rfl r0) ?_
        refine ac_iload_n (q := 26) dX1_init_25 rfl rfl ?_
        refine ac_mk (z := z + 1 + 4 * c) (ci := 3) (mc' := 3) (ms' := 30) (ck' := 1 + 4 * (c + 1)) (cn' := 14 + 37 * (c + 1)) (d' := d - 1) (q := 33) (lay := ac_isT) (k_X3_init (z := z + 1 + 4 * c + 1) (by omega) (by omega)) nl_X1_9 ml_X1_15 dX1_init_26 dX1_init_29 dX1_init_30 rfl ea (by omega) (by decide) (by omega) (by show 14 + 37 * c + 7 + 30 = 14 + 37 * (c + 1); omega) (by omega) (by omega) (fun Yb mb g e kb l => ?_)
        refine ac_aastore (q := 34) dX1_init_33 ((g.2.1 _ (by omega)).trans k1) (by decide) ⟨by omega, by omega⟩ kb rfl ?_
        refine ac_iinc (q := 37) (v := ((c + 1 : Nat) : Int)) dX1_init_34 rfl (Nat.le_of_ble_eq_true rfl) rfl rfl rfl rfl ?_
        simp only [List.set_cons_succ, List.set_cons_zero]
        refine ac_goto (q := 15) dX1_init_37 rfl ?_
        have g0 : ac_gr z Y mm Yb mb := ⟨by have := hg.1; have := g.1; omega, fun k a => by have := hg.1; exact (g.2.1 k (by omega)).trans (hg.2.1 k a), fun k a b => by have := hg.1; exact (g.2.2.1 k (by omega) (by omega)).trans (hg.2.2.1 k a b), fun k a => by have := hg.1; exact (g.2.2.2.1 k (by omega)).trans (hg.2.2.2.1 k a), fun k a b => by
          by_cases hk2 : k ≤ Ya.1
          · exact (g.2.2.2.1 k hk2).trans (hg.2.2.2.2 k a hk2)
          · exact g.2.2.2.2 k (by omega) b⟩
        refine ih (c + 1) (Yb.1, Yb.2.1, ac_upR Yb.2.2 (z + 1) (c : Int).toNat (z + 1 + 4 * c + 1)) mb (by omega) (by show Yb.1 = _; omega) ((g.2.1 _ (by omega)).trans ka) ((g.2.1 _ (by omega)).trans k1) ?_ (fun i hi => ?_) ⟨g0.1, g0.2.1, fun k a b => (ac_upR_k (by omega)).trans (g0.2.2.1 k a b), g0.2.2.2⟩
        · show ac_upR Yb.2.2 (z + 1) (c : Int).toNat (z + 1 + 4 * c + 1) z 0 = z + 1
          rw [ac_upR_k (by omega), g.2.2.1 z (by omega) (by omega)]; exact r0
        · have hE : ∀ t, z + 1 < t → ac_isT Yb t → ac_isT (Yb.1, Yb.2.1, ac_upR Yb.2.2 (z + 1) (c : Int).toNat (z + 1 + 4 * c + 1)) t := fun t ht h => ac_isT_e h (fun k a b => ⟨rfl, ac_upR_k (by omega)⟩)
          rw [Int.toNat_natCast] at *
          by_cases hic : i = c
          · rw [hic]
            refine ⟨?_, hE _ (by omega) (by rw [show z + 2 + 4 * c = z + 1 + 4 * c + 1 by omega]; exact l)⟩
            show ac_upR Yb.2.2 (z + 1) c (z + 1 + 4 * c + 1) (z + 1) c = _
            rw [ac_upR_s]; omega
          · obtain ⟨q1, q2⟩ := hl i (by omega)
            refine ⟨?_, hE _ (by omega) (ac_isT_e q2 (ac_gr_e g (by omega) (Or.inr (by omega))))⟩
            show ac_upR Yb.2.2 (z + 1) c (z + 1 + 4 * c + 1) (z + 1) i = _
            rw [ac_upR_j hic, g.2.2.1 _ (by omega) (by omega)]; exact q1
  refine ac_aload_n (q := 1) dX1_init_0 rfl rfl ?_
  refine ac_objInit (q := 4) dX1_init_1 ml_X1_1 ob_m ob_c (by omega) rfl (by omega) (by decide) ?_
  refine ac_aload_n (q := 5) dX1_init_4 rfl rfl ?_
  refine ac_bipush (q := 7) dX1_init_5 rfl (by decide) ?_
  refine ac_newT (n := 14) (q := 10) dX1_init_7 nlr_X1_9 (by decide) rfl (by omega) (by omega) ?_
  have gn : ac_gr z Y mm (ac_nY Y (3, 14)) (ac_nM Y mm) := ac_gr_n
  have kn : (ac_nY Y (3, 14)).2.1 (Y.1 + 1) = (3, 14) := ac_nY_k
  have en : (ac_nY Y (3, 14)).1 = Y.1 + 1 := rfl
  generalize ac_nY Y (3, 14) = Yn at *
  generalize ac_nM Y mm = mn at *
  refine ac_pF (cx := 1) (j := 0) (q := 13) dX1_init_10 fl_X1_11 rfl ((gn.2.1 _ (by omega)).trans hk) rfl rfl (fun Yp ep gp rp op => ?_)
  refine ac_iconst (q := 14) dX1_init_13 rfl ?_
  refine ac_istore_n (q := 15) (j := 1) rfl dX1_init_14 rfl (Nat.le_of_ble_eq_true rfl) rfl rfl ?_
  simp only [List.set_cons_succ, List.set_cons_zero]
  exact loop 14 0 Yp mn (by omega) (by omega) (((gp mn).2.1 _ (by omega)).trans ((gn.2.1 _ (by omega)).trans hk)) (((gp mn).2.1 _ (by omega)).trans (by rw [← hz]; exact kn)) (by rw [rp, hz]) (fun i hi => by omega) (ac_gr_t gn (gp mn))

set_option maxHeartbeats 8000000 in
theorem k_X5_init {G : ac_G} {d z : Nat} (hd : 3 ≤ d) (h1z : 1 ≤ z) : ∀ (Y : ac_Y) (mm : ac_M), Y.1 = z → Y.2.1 z = (0, 5) → ac_C G yX5_init cX5_init 1 none d 17 2172 Y mm [(2, (z : Int))] (ac_ci Y mm z 17 ac_isW) := by
  intro Y mm hz hk
  have G0 : ac_gr z Y mm Y mm := ac_gr_r
  refine ac_met (on := (RX5, "<init>")) rfl rfl (Nat.le_of_ble_eq_true rfl) (ls := [(2, (z : Int))]) rfl ?_
  refine ac_aload_n (q := 1) dX5_init_0 rfl rfl ?_
  refine ac_objInit (q := 4) dX5_init_1 ml_X5_3 ob_m ob_c (by omega) rfl (by omega) (by decide) ?_
  refine ac_aload_n (q := 5) dX5_init_4 rfl rfl ?_
  refine ac_mkF (z := z) (x := z) (ci := 2) (cx := 5) (j := 0) (mc' := 2) (ms' := 12) (ck' := 3) (cn' := 15) (d' := d - 1) (q := 15) (lay := ac_isS) (k_X2_init (z := z + 1) (by omega) (by omega)) (fun Y1 Y2 e l => ac_isS_e l e) nl_X5_9 ml_X5_11 fl_X5_12 rfl hk (by omega) rfl dX5_init_5 dX5_init_8 dX5_init_9 dX5_init_12 rfl hz (by omega) (by decide) rfl rfl (Nat.le_of_ble_eq_true rfl) (Nat.le_of_ble_eq_true rfl) (fun Y1 m1 g1 e1 l1 r1 o1 => ?_)
  have hk := (g1.2.1 z (by omega)).trans hk
  have G0 := ac_gr_t G0 g1
  refine ac_aload_n (q := 16) dX5_init_15 rfl rfl ?_
  refine ac_mkF (z := z + 3) (x := z) (ci := 0) (cx := 5) (j := 1) (mc' := 5) (ms' := 2085) (ck' := 9) (cn' := 2102) (d' := d - 1) (q := 26) (lay := ac_isC) (k_X0_init (z := z + 3 + 1) (by omega) (by omega)) (fun Y1 Y2 e l => ac_isC_e l e) nl_X5_18 ml_X5_20 fl_X5_21 rfl hk (by omega) rfl dX5_init_16 dX5_init_19 dX5_init_20 dX5_init_23 rfl e1 (by omega) (by decide) rfl rfl (Nat.le_of_ble_eq_true rfl) (Nat.le_of_ble_eq_true rfl) (fun Y2 m2 g2 e2 l2 r2 o2 => ?_)
  have hk := (g2.2.1 z (by omega)).trans hk
  have r1 := (o2 0 (by decide)).trans r1
  have l1 := ac_isS_e l1 (ac_gr_e g2 (by omega) (Or.inl (by omega)))
  have G0 := ac_gr_t G0 g2
  refine ac_aload_n (q := 27) dX5_init_26 rfl rfl ?_
  refine ac_mkF (z := z + 9) (x := z) (ci := 3) (cx := 5) (j := 2) (mc' := 3) (ms' := 30) (ck' := 13) (cn' := 2139) (d' := d - 1) (q := 37) (lay := ac_isT) (k_X3_init (z := z + 9 + 1) (by omega) (by omega)) (fun Y1 Y2 e l => ac_isT_e l e) nl_X5_25 ml_X5_27 fl_X5_28 rfl hk (by omega) rfl dX5_init_27 dX5_init_30 dX5_init_31 dX5_init_34 rfl e2 (by omega) (by decide) rfl rfl (Nat.le_of_ble_eq_true rfl) (Nat.le_of_ble_eq_true rfl) (fun Y3 m3 g3 e3 l3 r3 o3 => ?_)
  have hk := (g3.2.1 z (by omega)).trans hk
  have r1 := (o3 0 (by decide)).trans r1
  have r2 := (o3 1 (by decide)).trans r2
  have l1 := ac_isS_e l1 (ac_gr_e g3 (by omega) (Or.inl (by omega)))
  have l2 := ac_isC_e l2 (ac_gr_e g3 (by omega) (Or.inl (by omega)))
  have G0 := ac_gr_t G0 g3
  refine ac_aload_n (q := 38) dX5_init_37 rfl rfl ?_
  refine ac_iconst (q := 39) dX5_init_38 rfl ?_
  refine ac_mkI (n := 3) (z := z + 13) (x := z) (cx := 5) (j := 3) (ck' := 14) (cn' := 2142) (q := 44) ar_int fl_X5_32 rfl hk (by omega) rfl dX5_init_39 dX5_init_41 rfl e3 (by decide) rfl rfl (Nat.le_of_ble_eq_true rfl) (Nat.le_of_ble_eq_true rfl) (fun Y4 m4 g4 e4 k4 r4 o4 => ?_)
  have hk := (g4.2.1 z (by omega)).trans hk
  have r1 := (o4 0 (by decide)).trans r1
  have r2 := (o4 1 (by decide)).trans r2
  have r3 := (o4 2 (by decide)).trans r3
  have l1 := ac_isS_e l1 (ac_gr_e g4 (by omega) (Or.inl (by omega)))
  have l2 := ac_isC_e l2 (ac_gr_e g4 (by omega) (Or.inl (by omega)))
  have l3 := ac_isT_e l3 (ac_gr_e g4 (by omega) (Or.inl (by omega)))
  have G0 := ac_gr_t G0 g4
  refine ac_aload_n (q := 45) dX5_init_44 rfl rfl ?_
  refine ac_iconst (q := 46) dX5_init_45 rfl ?_
  refine ac_mkI (n := 3) (z := z + 14) (x := z) (cx := 5) (j := 4) (ck' := 15) (cn' := 2145) (q := 51) ar_int fl_X5_36 rfl hk (by omega) rfl dX5_init_46 dX5_init_48 rfl e4 (by decide) rfl rfl (Nat.le_of_ble_eq_true rfl) (Nat.le_of_ble_eq_true rfl) (fun Y5 m5 g5 e5 k5 r5 o5 => ?_)
  have hk := (g5.2.1 z (by omega)).trans hk
  have k4 := (g5.2.1 (z + 14) (by omega)).trans k4
  have r1 := (o5 0 (by decide)).trans r1
  have r2 := (o5 1 (by decide)).trans r2
  have r3 := (o5 2 (by decide)).trans r3
  have r4 := (o5 3 (by decide)).trans r4
  have l1 := ac_isS_e l1 (ac_gr_e g5 (by omega) (Or.inl (by omega)))
  have l2 := ac_isC_e l2 (ac_gr_e g5 (by omega) (Or.inl (by omega)))
  have l3 := ac_isT_e l3 (ac_gr_e g5 (by omega) (Or.inl (by omega)))
  have G0 := ac_gr_t G0 g5
  refine ac_aload_n (q := 52) dX5_init_51 rfl rfl ?_
  refine ac_bipush (q := 54) dX5_init_52 rfl (by decide) ?_
  refine ac_mkI (n := 11) (z := z + 15) (x := z) (cx := 5) (j := 5) (ck' := 16) (cn' := 2156) (q := 59) ar_int fl_X5_39 rfl hk (by omega) rfl dX5_init_54 dX5_init_56 rfl e5 (by decide) rfl rfl (Nat.le_of_ble_eq_true rfl) (Nat.le_of_ble_eq_true rfl) (fun Y6 m6 g6 e6 k6 r6 o6 => ?_)
  have hk := (g6.2.1 z (by omega)).trans hk
  have k4 := (g6.2.1 (z + 14) (by omega)).trans k4
  have k5 := (g6.2.1 (z + 15) (by omega)).trans k5
  have r1 := (o6 0 (by decide)).trans r1
  have r2 := (o6 1 (by decide)).trans r2
  have r3 := (o6 2 (by decide)).trans r3
  have r4 := (o6 3 (by decide)).trans r4
  have r5 := (o6 4 (by decide)).trans r5
  have l1 := ac_isS_e l1 (ac_gr_e g6 (by omega) (Or.inl (by omega)))
  have l2 := ac_isC_e l2 (ac_gr_e g6 (by omega) (Or.inl (by omega)))
  have l3 := ac_isT_e l3 (ac_gr_e g6 (by omega) (Or.inl (by omega)))
  have G0 := ac_gr_t G0 g6
  refine ac_aload_n (q := 60) dX5_init_59 rfl rfl ?_
  refine ac_bipush (q := 62) dX5_init_60 rfl (by decide) ?_
  refine ac_mkI (n := 16) (z := z + 16) (x := z) (cx := 5) (j := 6) (ck' := 17) (cn' := 2172) (q := 67) ar_int fl_X5_42 rfl hk (by omega) rfl dX5_init_62 dX5_init_64 rfl e6 (by decide) rfl rfl (Nat.le_of_ble_eq_true rfl) (Nat.le_of_ble_eq_true rfl) (fun Y7 m7 g7 e7 k7 r7 o7 => ?_)
  have hk := (g7.2.1 z (by omega)).trans hk
  have k4 := (g7.2.1 (z + 14) (by omega)).trans k4
  have k5 := (g7.2.1 (z + 15) (by omega)).trans k5
  have k6 := (g7.2.1 (z + 16) (by omega)).trans k6
  have r1 := (o7 0 (by decide)).trans r1
  have r2 := (o7 1 (by decide)).trans r2
  have r3 := (o7 2 (by decide)).trans r3
  have r4 := (o7 3 (by decide)).trans r4
  have r5 := (o7 4 (by decide)).trans r5
  have r6 := (o7 5 (by decide)).trans r6
  have l1 := ac_isS_e l1 (ac_gr_e g7 (by omega) (Or.inl (by omega)))
  have l2 := ac_isC_e l2 (ac_gr_e g7 (by omega) (Or.inl (by omega)))
  have l3 := ac_isT_e l3 (ac_gr_e g7 (by omega) (Or.inl (by omega)))
  have G0 := ac_gr_t G0 g7
  refine ac_return dX5_init_67 rfl (Nat.le_refl _) (Nat.le_refl _) ?_
  exact ⟨rfl, G0, e7, ⟨hk, r1, r2, r3, r4, r5, r6, r7⟩, ⟨k4, k5, k6, k7⟩, l1, l2, l3⟩
