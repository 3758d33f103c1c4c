/-! making objects: what a step keeps -/
/-- the cells up to Y.1 are as they were, but what x refers to; the new ones hold zeros -/
def ac_kp (x : Nat) (Y : ac_Y) (mm : ac_M) (Y' : ac_Y) (mm' : ac_M) : Prop := Y.1 ≤ Y'.1 ∧ (∀ k, k ≤ Y.1 → Y'.2.1 k = Y.2.1 k) ∧ (∀ k, k ≤ Y.1 → k ≠ x → Y'.2.2 k = Y.2.2 k) ∧ (∀ k, k ≤ Y.1 → mm' k = mm k) ∧ ∀ k, Y.1 < k → k ≤ Y'.1 → mm' k = fun _ => 0
theorem ac_kp_r {x : Nat} {Y : ac_Y} {mm : ac_M} : ac_kp x Y mm Y mm := ⟨Nat.le_refl _, fun _ _ => rfl, fun _ _ _ => rfl, fun _ _ => rfl, fun k a b => by omega⟩
theorem ac_kp_t {x : Nat} {Ya Yb Yc : ac_Y} {ma mb mc : ac_M} (h : ac_kp x Ya ma Yb mb) (h2 : ac_kp x Yb mb Yc mc) : ac_kp x Ya ma Yc mc := by
  obtain ⟨a1, a2, a3, a4, a5⟩ := h
  obtain ⟨b1, b2, b3, b4, b5⟩ := h2
  refine ⟨by omega, fun k hk => (b2 k (by omega)).trans (a2 k hk), fun k hk hx => (b3 k (by omega) hx).trans (a3 k hk hx), fun k hk => (b4 k (by omega)).trans (a4 k hk), fun k h1 h2 => ?_⟩
  by_cases hk : k ≤ Yb.1
  · rw [b4 k hk]; exact a5 k h1 hk
  · exact b5 k (by omega) h2
/-- a new cell -/
theorem ac_kp_n {x : Nat} {Y : ac_Y} {mm : ac_M} {w : Nat × Nat} : ac_kp x Y mm (ac_nY Y w) (ac_nM Y mm) := by
  refine ⟨Nat.le_succ _, fun k hk => if_neg (by omega), fun k hk _ => ?_, fun k hk => ?_, fun k h1 h2 => ?_⟩
  · funext j; exact if_neg (by omega)
  · funext j; exact if_neg (by omega)
  · have h2 : k ≤ Y.1 + 1 := h2
    funext j; exact if_pos (by omega)
theorem ac_nY_k {Y : ac_Y} {w : Nat × Nat} : (ac_nY Y w).2.1 (Y.1 + 1) = w := if_pos rfl
theorem ac_upR_k {rf : Nat → Nat → Nat} {k j v k' : Nat} (h : k' ≠ k) : ac_upR rf k j v k' = rf k' := by
  funext i; exact if_neg (fun q => h q.1)
theorem ac_upR_j {rf : Nat → Nat → Nat} {k j v j' : Nat} (h : j' ≠ j) : ac_upR rf k j v k j' = rf k j' := if_neg (fun q => h q.2)
theorem ac_upR_s {rf : Nat → Nat → Nat} {k j v : Nat} : ac_upR rf k j v k j = v := if_pos ⟨rfl, rfl⟩
/-- a reference of x is written -/
theorem ac_kp_p {x j v : Nat} {Y : ac_Y} {mm : ac_M} : ac_kp x Y mm (Y.1, Y.2.1, ac_upR Y.2.2 x j v) mm :=
  ⟨Nat.le_refl _, fun _ _ => rfl, fun k _ hx => ac_upR_k hx, fun _ _ => rfl, fun k a b => by have b : k ≤ Y.1 := b; omega⟩
/-- what x refers to -/
def ac_ri (Y : ac_Y) (x j v : Nat) : Prop := Y.2.2 x j = v
/-- two layouts are the same from a to b -/
def ac_eqY (Y Y' : ac_Y) (a b : Nat) : Prop := ∀ k, a ≤ k → k ≤ b → Y'.2.1 k = Y.2.1 k ∧ Y'.2.2 k = Y.2.2 k
theorem ac_kp_e {x a b : Nat} {Y Y' : ac_Y} {mm mm' : ac_M} (h : ac_kp x Y mm Y' mm') (hb : b ≤ Y.1) (hx : x < a ∨ b < x) : ac_eqY Y Y' a b :=
  fun k h1 h2 => ⟨h.2.1 k (by omega), h.2.2.1 k (by omega) (by omega)⟩
theorem ac_isT_e {Y Y' : ac_Y} {t : Nat} (h : ac_isT Y t) (e : ac_eqY Y Y' t (t + 3)) : ac_isT Y' t := by
  obtain ⟨e0, f0⟩ := e t (by omega) (by omega)
  unfold ac_isT at *
  rw [e0, f0, (e (t + 1) (by omega) (by omega)).1, (e (t + 2) (by omega) (by omega)).1, (e (t + 3) (by omega) (by omega)).1]; exact h
theorem ac_isX_e {Y Y' : ac_Y} {t : Nat} (h : ac_isX Y t) (e : ac_eqY Y Y' t (t + 1)) : ac_isX Y' t := by
  obtain ⟨e0, f0⟩ := e t (by omega) (by omega)
  unfold ac_isX at *
  rw [e0, f0, (e (t + 1) (by omega) (by omega)).1]; exact h
theorem ac_isS_e {Y Y' : ac_Y} {t : Nat} (h : ac_isS Y t) (e : ac_eqY Y Y' t (t + 2)) : ac_isS Y' t := by
  obtain ⟨e0, f0⟩ := e t (by omega) (by omega)
  unfold ac_isS at *
  rw [e0, f0, (e (t + 1) (by omega) (by omega)).1, (e (t + 2) (by omega) (by omega)).1]; exact h
theorem ac_isC_e {Y Y' : ac_Y} {t : Nat} (h : ac_isC Y t) (e : ac_eqY Y Y' t (t + 5)) : ac_isC Y' t := by
  obtain ⟨e0, f0⟩ := e t (by omega) (by omega)
  obtain ⟨h1, h2, h3, h4, h5⟩ := h
  refine ⟨by rw [e0]; exact h1, by rw [(e (t + 1) (by omega) (by omega)).1]; exact h2, by rw [f0]; exact h3, by rw [f0]; exact h4, ac_isT_e h5 fun k a b => e k (by omega) (by omega)⟩
theorem ac_isH_e {Y Y' : ac_Y} {t : Nat} (h : ac_isH Y t) (e : ac_eqY Y Y' t (t + 57)) : ac_isH Y' t := by
  obtain ⟨e0, f0⟩ := e t (by omega) (by omega)
  obtain ⟨e1, f1⟩ := e (t + 1) (by omega) (by omega)
  obtain ⟨h1, h2, h3, h4⟩ := h
  refine ⟨by rw [e0]; exact h1, by rw [f0]; exact h2, by rw [e1]; exact h3, fun i hi => ?_⟩
  obtain ⟨q1, q2⟩ := h4 i hi
  exact ⟨by rw [f1]; exact q1, ac_isT_e q2 fun k a b => e k (by omega) (by omega)⟩
theorem ac_isW_e {Y Y' : ac_Y} {t : Nat} (h : ac_isW Y t) (e : ac_eqY Y Y' t (t + 17)) : ac_isW Y' t := by
  obtain ⟨e0, f0⟩ := e t (by omega) (by omega)
  obtain ⟨h1, ⟨h2, h3, h4, h5⟩, h6, h7, h8⟩ := h
  refine ⟨by rw [e0, f0]; exact h1, ⟨by rw [(e _ (by omega) (by omega)).1]; exact h2, by rw [(e _ (by omega) (by omega)).1]; exact h3, by rw [(e _ (by omega) (by omega)).1]; exact h4, by rw [(e _ (by omega) (by omega)).1]; exact h5⟩, ac_isS_e h6 fun k a b => e k (by omega) (by omega), ac_isC_e h7 fun k a b => e k (by omega) (by omega), ac_isT_e h8 fun k a b => e k (by omega) (by omega)⟩
section AcMk
variable {G : ac_G} {on : String × String} {cc : ByteArray} {nL : Nat} {ret : Option FieldType} {d mc ms : Nat} {P : ac_P} {ck cn : Nat} {Y : ac_Y} {mm : ac_M} {pc q : Nat} {ls st : List (Nat × Int)}
variable {y : MethodName} {cc' : ByteArray} {nL' d' mc' ms' ci : Nat}
/-- what a constructor of an object z, the last cell, leaves -/
def ac_ci (Y : ac_Y) (mm : ac_M) (z n : Nat) (lay : ac_Y → Nat → Prop) : ac_P := fun r Y' mm' => r = [] ∧ ac_kp z Y mm Y' mm' ∧ Y'.1 = z + n ∧ lay Y' z
/-- new, dup, <init>() -/
theorem ac_mk {idxN idxC z ck' cn' : Nat} {lay : ac_Y → Nat → Prop} (hC : ∀ (Y : ac_Y) (mm : ac_M), Y.1 = z + 1 → Y.2.1 (z + 1) = (0, ci) → ac_C G y cc' nL' none d' mc' ms' Y mm [(2, ((z + 1 : Nat) : Int))] (ac_ci Y mm (z + 1) mc' lay))
    (hN : ac_NL on.1 idxN ci) (hM : ac_ML 2 on.1 idxC ci y cc' nL' none 0) (h1 : decode cc pc = .ok (.new idxN, 3)) (h2 : decode cc (pc + 3) = .ok (.dup, 1)) (h3 : decode cc (pc + 4) = .ok (.invokespecial idxC, 3)) (hq : pc + 7 = q) (hz : Y.1 = z) (hd : d' + 1 ≤ d) (hsw : ac_sw ((2, ((z + 1 : Nat) : Int)) :: st) ≤ 8) (ec : ck + 1 + mc' = ck') (en : cn + ac_N ci + ms' = cn') (hmc : ck' ≤ mc) (hms : cn' ≤ ms)
    (kk : ∀ Y' m', ac_kp (z + 1) Y mm Y' m' → Y'.1 = z + 1 + mc' → Y'.2.1 (z + 1) = (0, ci) → lay Y' (z + 1) → ac_V G on cc nL ret d mc ms P ck' cn' Y' m' q ls ((2, ((z + 1 : Nat) : Int)) :: st)) : ac_V G on cc nL ret d mc ms P ck cn Y mm pc ls st := by
  subst hz; subst hq; subst ec; subst en
  refine ac_new h1 hN rfl (by omega) (by omega) ?_
  refine ac_dup (q := pc + 4) h2 rfl (show (2 : Nat) ≠ 1 by decide) ?_
  have hk : (ac_nY Y (0, ci)).2.1 (Y.1 + 1) = (0, ci) := ac_nY_k
  refine ac_invokespecial (as := []) (hC _ _ rfl hk) hM (by omega) h3 rfl rfl rfl hd hsw hmc hms (fun r Y' m' h => h.2.2.1) (fun r Y' m' h => ?_)
  obtain ⟨rfl, g, e, l⟩ := h
  exact kk Y' m' (ac_kp_t ac_kp_n g) e ((g.2.1 _ (Nat.le_refl _)).trans hk) l
/-- a final field of x is written -/
theorem ac_pF {idx j x v cx : Nat} (hdg : decode cc pc = .ok (.putfield idx, 3)) (hf : ac_FL true on.1 idx cx j) (hi : on.2 = "<init>") (hk : Y.2.1 x = (0, cx)) (ht : ac_ty cx j = 2) (hq : pc + 3 = q)
    (kk : ∀ Y', Y'.1 = Y.1 → (∀ m : ac_M, ac_kp x Y m Y' m) → Y'.2.2 x j = v → (∀ i, i ≠ j → Y'.2.2 x i = Y.2.2 x i) → ac_V G on cc nL ret d mc ms P ck cn Y' mm q ls st) : ac_V G on cc nL ret d mc ms P ck cn Y mm pc ls ((2, (v : Int)) :: (2, (x : Int)) :: st) :=
  ac_putF hdg hf hi hk ht hq (kk _ rfl (fun m => ac_kp_p) ac_upR_s (fun i h => ac_upR_j h))
/-- new, dup, <init>(), putfield of x -/
theorem ac_mkF {idxN idxC idxF z ck' cn' x j cx : Nat} {lay : ac_Y → Nat → Prop} (hC : ∀ (Y : ac_Y) (mm : ac_M), Y.1 = z + 1 → Y.2.1 (z + 1) = (0, ci) → ac_C G y cc' nL' none d' mc' ms' Y mm [(2, ((z + 1 : Nat) : Int))] (ac_ci Y mm (z + 1) mc' lay))
    (hlay : ∀ Y1 Y2, ac_eqY Y1 Y2 (z + 1) (z + 1 + mc') → lay Y1 (z + 1) → lay Y2 (z + 1))
    (hN : ac_NL on.1 idxN ci) (hM : ac_ML 2 on.1 idxC ci y cc' nL' none 0) (hF : ac_FL true on.1 idxF cx j) (hi : on.2 = "<init>") (hk : Y.2.1 x = (0, cx)) (hxz : x ≤ z) (ht : ac_ty cx j = 2) (h1 : decode cc pc = .ok (.new idxN, 3)) (h2 : decode cc (pc + 3) = .ok (.dup, 1)) (h3 : decode cc (pc + 4) = .ok (.invokespecial idxC, 3)) (h4 : decode cc (pc + 7) = .ok (.putfield idxF, 3)) (hq : pc + 10 = q) (hz : Y.1 = z) (hd : d' + 1 ≤ d) (hsw : ac_sw st ≤ 6) (ec : ck + 1 + mc' = ck') (en : cn + ac_N ci + ms' = cn') (hmc : ck' ≤ mc) (hms : cn' ≤ ms)
    (kk : ∀ Y' m', ac_kp x Y mm Y' m' → Y'.1 = z + 1 + mc' → lay Y' (z + 1) → Y'.2.2 x j = z + 1 → (∀ i, i ≠ j → Y'.2.2 x i = Y.2.2 x i) → ac_V G on cc nL ret d mc ms P ck' cn' Y' m' q ls st) : ac_V G on cc nL ret d mc ms P ck cn Y mm pc ls ((2, (x : Int)) :: st) := by
  subst hq
  refine ac_mk hC hN hM h1 h2 h3 rfl hz hd ?_ ec en hmc hms (fun Y1 m1 g1 e1 k1 l1 => ?_)
  · show 1 + (1 + ac_sw st) ≤ 8
    omega
  subst hz
  have hg : ac_kp x Y mm Y1 m1 := ⟨g1.1, g1.2.1, fun k hk _ => g1.2.2.1 k hk (by omega), g1.2.2.2⟩
  refine ac_pF h4 hF hi ((g1.2.1 x hxz).trans hk) ht rfl (fun Y2 e2 g2 r2 o2 => ?_)
  refine kk Y2 m1 (ac_kp_t hg (g2 m1)) (e2.trans e1) (hlay Y1 Y2 (ac_kp_e (g2 m1) (by omega) (Or.inl (by omega))) l1) r2 (fun i h => (o2 i h).trans ?_)
  rw [g1.2.2.1 x hxz (by omega)]
/-- a new row of ints, a final field of x -/
theorem ac_mkI {idxF z n ck' cn' x j cx : Nat} (hA : Cond.arrayClass .int ∈ ac_T) (hF : ac_FL true on.1 idxF cx j) (hi : on.2 = "<init>") (hk : Y.2.1 x = (0, cx)) (hxz : x ≤ z) (ht : ac_ty cx j = 2) (h1 : decode cc pc = .ok (.newarray .int, 2)) (h4 : decode cc (pc + 2) = .ok (.putfield idxF, 3)) (hq : pc + 5 = q) (hz : Y.1 = z) (hn : n < 100000000) (ec : ck + 1 = ck') (en : cn + n = cn') (hmc : ck' ≤ mc) (hms : cn' ≤ ms)
    (kk : ∀ Y' m', ac_kp x Y mm Y' m' → Y'.1 = z + 1 → Y'.2.1 (z + 1) = (1, n) → Y'.2.2 x j = z + 1 → (∀ i, i ≠ j → Y'.2.2 x i = Y.2.2 x i) → ac_V G on cc nL ret d mc ms P ck' cn' Y' m' q ls st) : ac_V G on cc nL ret d mc ms P ck cn Y mm pc ls ((0, (n : Int)) :: (2, (x : Int)) :: st) := by
  subst hz; subst hq; subst ec; subst en
  refine ac_newI h1 hA hn rfl hmc hms ?_
  have hg : ac_kp x Y mm (ac_nY Y (1, n)) (ac_nM Y mm) := ac_kp_n
  refine ac_pF h4 hF hi ((hg.2.1 x hxz).trans hk) ht rfl (fun Y2 e2 g2 r2 o2 => ?_)
  refine kk Y2 _ (ac_kp_t hg (g2 _)) e2 (((g2 mm).2.1 _ (Nat.le_refl _)).trans ac_nY_k) r2 (fun i h => (o2 i h).trans ?_)
  show (if x = Y.1 + 1 then 0 else Y.2.2 x i) = _
  rw [if_neg (by omega)]
theorem ac_mkZ {idxF z n ck' cn' x j cx : Nat} (hA : Cond.arrayClass .boolean ∈ ac_T) (hF : ac_FL true on.1 idxF cx j) (hi : on.2 = "<init>") (hk : Y.2.1 x = (0, cx)) (hxz : x ≤ z) (ht : ac_ty cx j = 2) (h1 : decode cc pc = .ok (.newarray .boolean, 2)) (h4 : decode cc (pc + 2) = .ok (.putfield idxF, 3)) (hq : pc + 5 = q) (hz : Y.1 = z) (hn : n < 100000000) (ec : ck + 1 = ck') (en : cn + n = cn') (hmc : ck' ≤ mc) (hms : cn' ≤ ms)
    (kk : ∀ Y' m', ac_kp x Y mm Y' m' → Y'.1 = z + 1 → Y'.2.1 (z + 1) = (2, n) → Y'.2.2 x j = z + 1 → (∀ i, i ≠ j → Y'.2.2 x i = Y.2.2 x i) → ac_V G on cc nL ret d mc ms P ck' cn' Y' m' q ls st) : ac_V G on cc nL ret d mc ms P ck cn Y mm pc ls ((0, (n : Int)) :: (2, (x : Int)) :: st) := by
  subst hz; subst hq; subst ec; subst en
  refine ac_newZ h1 hA hn rfl hmc hms ?_
  have hg : ac_kp x Y mm (ac_nY Y (2, n)) (ac_nM Y mm) := ac_kp_n
  refine ac_pF h4 hF hi ((hg.2.1 x hxz).trans hk) ht rfl (fun Y2 e2 g2 r2 o2 => ?_)
  refine kk Y2 _ (ac_kp_t hg (g2 _)) e2 (((g2 mm).2.1 _ (Nat.le_refl _)).trans ac_nY_k) r2 (fun i h => (o2 i h).trans ?_)
  show (if x = Y.1 + 1 then 0 else Y.2.2 x i) = _
  rw [if_neg (by omega)]
end AcMk

set_option maxHeartbeats 8000000 in
theorem k_X3_init {G : ac_G} {d z : Nat} (hd : 1 ≤ d) (h1z : 1 ≤ z) : ∀ (Y : ac_Y) (mm : ac_M), Y.1 = z → Y.2.1 z = (0, 3) → ac_C G yX3_init cX3_init 1 none d 3 30 Y mm [(2, (z : Int))] (ac_ci Y mm z 3 ac_isT) := by
  intro Y mm hz hk
  have G0 : ac_kp z Y mm Y mm := ac_kp_r
  refine ac_met (on := (RX3, "<init>")) rfl rfl (Nat.le_of_ble_eq_true rfl) (ls := [(2, (z : Int))]) rfl ?_
  refine ac_aload_n (q := 1) dX3_init_0 rfl rfl ?_
  refine ac_objInit (q := 4) dX3_init_1 ml_X3_3 ob_m ob_c (by omega) rfl (by omega) (by decide) ?_
  refine ac_aload_n (q := 5) dX3_init_4 rfl rfl ?_
  refine ac_bipush (q := 7) dX3_init_5 rfl (by decide) ?_
  refine ac_mkI (n := 16) (z := z) (x := z) (cx := 3) (j := 0) (ck' := 1) (cn' := 16) (q := 12) ar_int fl_X3_11 rfl hk (by omega) rfl dX3_init_7 dX3_init_9 rfl hz (by decide) rfl rfl (Nat.le_of_ble_eq_true rfl) (Nat.le_of_ble_eq_true rfl) (fun Y1 m1 g1 e1 k1 r1 o1 => ?_)
  replace hk := (g1.2.1 z (by omega)).trans hk
  replace G0 := ac_kp_t G0 g1
  replace r1 : ac_ri Y1 z 0 (z + 1) := r1
  clear o1 g1
  refine ac_aload_n (q := 13) dX3_init_12 rfl rfl ?_
  refine ac_bipush (q := 15) dX3_init_13 rfl (by decide) ?_
  refine ac_mkI (n := 11) (z := z + 1) (x := z) (cx := 3) (j := 1) (ck' := 2) (cn' := 27) (q := 20) ar_int fl_X3_15 rfl hk (by omega) rfl dX3_init_15 dX3_init_17 rfl e1 (by decide) rfl rfl (Nat.le_of_ble_eq_true rfl) (Nat.le_of_ble_eq_true rfl) (fun Y2 m2 g2 e2 k2 r2 o2 => ?_)
  replace hk := (g2.2.1 z (by omega)).trans hk
  replace k1 := (g2.2.1 (z + 1) (by omega)).trans k1
  replace r1 : ac_ri Y2 z 0 (z + 1) := (o2 0 (by decide)).trans r1
  replace G0 := ac_kp_t G0 g2
  replace r2 : ac_ri Y2 z 1 (z + 2) := r2
  clear o2 g2 e1
  refine ac_aload_n (q := 21) dX3_init_20 rfl rfl ?_
  refine ac_iconst (q := 22) dX3_init_21 rfl ?_
  refine ac_mkI (n := 3) (z := z + 2) (x := z) (cx := 3) (j := 2) (ck' := 3) (cn' := 30) (q := 27) ar_int fl_X3_18 rfl hk (by omega) rfl dX3_init_22 dX3_init_24 rfl e2 (by decide) rfl rfl (Nat.le_of_ble_eq_true rfl) (Nat.le_of_ble_eq_true rfl) (fun Y3 m3 g3 e3 k3 r3 o3 => ?_)
  replace hk := (g3.2.1 z (by omega)).trans hk
  replace k1 := (g3.2.1 (z + 1) (by omega)).trans k1
  replace k2 := (g3.2.1 (z + 2) (by omega)).trans k2
  replace r1 : ac_ri Y3 z 0 (z + 1) := (o3 0 (by decide)).trans r1
  replace r2 : ac_ri Y3 z 1 (z + 2) := (o3 1 (by decide)).trans r2
  replace G0 := ac_kp_t G0 g3
  replace r3 : ac_ri Y3 z 2 (z + 3) := r3
  clear o3 g3 e2
  refine ac_return dX3_init_27 rfl (Nat.le_refl _) (Nat.le_refl _) ?_
  exact ⟨rfl, G0, e3, hk, k1, k2, k3, r1, r2, r3⟩

set_option maxHeartbeats 8000000 in
theorem k_X4_init {G : ac_G} {d z : Nat} (hd : 1 ≤ d) (h1z : 1 ≤ z) : ∀ (Y : ac_Y) (mm : ac_M), Y.1 = z → Y.2.1 z = (0, 4) → ac_C G yX4_init cX4_init 1 none d 1 60 Y mm [(2, (z : Int))] (ac_ci Y mm z 1 ac_isX) := by
  intro Y mm hz hk
  have G0 : ac_kp z Y mm Y mm := ac_kp_r
  refine ac_met (on := (RX4, "<init>")) rfl rfl (Nat.le_of_ble_eq_true rfl) (ls := [(2, (z : Int))]) rfl ?_
  refine ac_aload_n (q := 1) dX4_init_0 rfl rfl ?_
  refine ac_objInit (q := 4) dX4_init_1 ml_X4_3 ob_m ob_c (by omega) rfl (by omega) (by decide) ?_
  refine ac_aload_n (q := 5) dX4_init_4 rfl rfl ?_
  refine ac_bipush (q := 7) dX4_init_5 rfl (by decide) ?_
  refine ac_mkI (n := 60) (z := z) (x := z) (cx := 4) (j := 0) (ck' := 1) (cn' := 60) (q := 12) ar_int fl_X4_11 rfl hk (by omega) rfl dX4_init_7 dX4_init_9 rfl hz (by decide) rfl rfl (Nat.le_of_ble_eq_true rfl) (Nat.le_of_ble_eq_true rfl) (fun Y1 m1 g1 e1 k1 r1 o1 => ?_)
  replace hk := (g1.2.1 z (by omega)).trans hk
  replace G0 := ac_kp_t G0 g1
  replace r1 : ac_ri Y1 z 0 (z + 1) := r1
  clear o1 g1
  refine ac_return dX4_init_12 rfl (Nat.le_refl _) (Nat.le_refl _) ?_
  exact ⟨rfl, G0, e1, hk, k1, r1⟩

set_option maxHeartbeats 8000000 in
theorem k_X2_init {G : ac_G} {d z : Nat} (hd : 1 ≤ d) (h1z : 1 ≤ z) : ∀ (Y : ac_Y) (mm : ac_M), Y.1 = z → Y.2.1 z = (0, 2) → ac_C G yX2_init cX2_init 1 none d 2 12 Y mm [(2, (z : Int))] (ac_ci Y mm z 2 ac_isS) := by
  intro Y mm hz hk
  have G0 : ac_kp z Y mm Y mm := ac_kp_r
  refine ac_met (on := (RX2, "<init>")) rfl rfl (Nat.le_of_ble_eq_true rfl) (ls := [(2, (z : Int))]) rfl ?_
  refine ac_aload_n (q := 1) dX2_init_0 rfl rfl ?_
  refine ac_objInit (q := 4) dX2_init_1 ml_X2_1 ob_m ob_c (by omega) rfl (by omega) (by decide) ?_
  refine ac_aload_n (q := 5) dX2_init_4 rfl rfl ?_
  refine ac_bipush (q := 7) dX2_init_5 rfl (by decide) ?_
  refine ac_mkI (n := 6) (z := z) (x := z) (cx := 2) (j := 0) (ck' := 1) (cn' := 6) (q := 12) ar_int fl_X2_9 rfl hk (by omega) rfl dX2_init_7 dX2_init_9 rfl hz (by decide) rfl rfl (Nat.le_of_ble_eq_true rfl) (Nat.le_of_ble_eq_true rfl) (fun Y1 m1 g1 e1 k1 r1 o1 => ?_)
  replace hk := (g1.2.1 z (by omega)).trans hk
  replace G0 := ac_kp_t G0 g1
  replace r1 : ac_ri Y1 z 0 (z + 1) := r1
  clear o1 g1
  refine ac_aload_n (q := 13) dX2_init_12 rfl rfl ?_
  refine ac_bipush (q := 15) dX2_init_13 rfl (by decide) ?_
  refine ac_mkZ (n := 6) (z := z + 1) (x := z) (cx := 2) (j := 1) (ck' := 2) (cn' := 12) (q := 20) ar_boolean fl_X2_13 rfl hk (by omega) rfl dX2_init_15 dX2_init_17 rfl e1 (by decide) rfl rfl (Nat.le_of_ble_eq_true rfl) (Nat.le_of_ble_eq_true rfl) (fun Y2 m2 g2 e2 k2 r2 o2 => ?_)
  replace hk := (g2.2.1 z (by omega)).trans hk
  replace k1 := (g2.2.1 (z + 1) (by omega)).trans k1
  replace r1 : ac_ri Y2 z 0 (z + 1) := (o2 0 (by decide)).trans r1
  replace G0 := ac_kp_t G0 g2
  replace r2 : ac_ri Y2 z 1 (z + 2) := r2
  clear o2 g2 e1
  refine ac_return dX2_init_20 rfl (Nat.le_refl _) (Nat.le_refl _) ?_
  exact ⟨rfl, G0, e2, hk, k1, k2, r1, r2⟩

set_option maxHeartbeats 8000000 in
theorem k_X0_init {G : ac_G} {d z : Nat} (hd : 2 ≤ d) (h1z : 1 ≤ z) : ∀ (Y : ac_Y) (mm : ac_M), Y.1 = z → Y.2.1 z = (0, 0) → ac_C G yX0_init cX0_init 1 none d 5 2085 Y mm [(2, (z : Int))] (ac_ci Y mm z 5 ac_isC) := by
  intro Y mm hz hk
  have G0 : ac_kp z Y mm Y mm := ac_kp_r
  refine ac_met (on := (RX0, "<init>")) rfl rfl (Nat.le_of_ble_eq_true rfl) (ls := [(2, (z : Int))]) rfl ?_
  refine ac_aload_n (q := 1) dX0_init_0 rfl rfl ?_
  refine ac_objInit (q := 4) dX0_init_1 ml_X0_3 ob_m ob_c (by omega) rfl (by omega) (by decide) ?_
  refine ac_aload_n (q := 5) dX0_init_4 rfl rfl ?_
  refine ac_sipush (q := 8) dX0_init_5 rfl (by decide) ?_
  refine ac_mkI (n := 2048) (z := z) (x := z) (cx := 0) (j := 0) (ck' := 1) (cn' := 2048) (q := 13) ar_int fl_X0_11 rfl hk (by omega) rfl dX0_init_8 dX0_init_10 rfl hz (by decide) rfl rfl (Nat.le_of_ble_eq_true rfl) (Nat.le_of_ble_eq_true rfl) (fun Y1 m1 g1 e1 k1 r1 o1 => ?_)
  replace hk := (g1.2.1 z (by omega)).trans hk
  replace G0 := ac_kp_t G0 g1
  replace r1 : ac_ri Y1 z 0 (z + 1) := r1
  clear o1 g1
  refine ac_aload_n (q := 14) dX0_init_13 rfl rfl ?_
  refine ac_mkF (z := z + 1) (x := z) (ci := 3) (cx := 0) (j := 1) (mc' := 3) (ms' := 30) (ck' := 5) (cn' := 2085) (d' := d - 1) (q := 24) (lay := ac_isT) (k_X3_init (z := z + 1 + 1) (by omega) (by omega)) (fun Y1 Y2 e l => ac_isT_e l e) nl_X0_15 ml_X0_17 fl_X0_18 rfl hk (by omega) rfl dX0_init_14 dX0_init_17 dX0_init_18 dX0_init_21 rfl e1 (by omega) (by decide) rfl rfl (Nat.le_of_ble_eq_true rfl) (Nat.le_of_ble_eq_true rfl) (fun Y2 m2 g2 e2 l2 r2 o2 => ?_)
  replace hk := (g2.2.1 z (by omega)).trans hk
  replace k1 := (g2.2.1 (z + 1) (by omega)).trans k1
  replace r1 : ac_ri Y2 z 0 (z + 1) := (o2 0 (by decide)).trans r1
  replace G0 := ac_kp_t G0 g2
  replace r2 : ac_ri Y2 z 1 (z + 2) := r2
  clear o2 g2 e1
  refine ac_return dX0_init_24 rfl (Nat.le_refl _) (Nat.le_refl _) ?_
  exact ⟨rfl, G0, e2, hk, k1, r1, r2, l2⟩
