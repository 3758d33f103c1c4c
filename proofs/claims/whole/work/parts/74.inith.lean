set_option maxHeartbeats 8000000 in
theorem k_X1_init {G : ac_G} {d z : Nat} (hd : 2 ≤ d) (h1z : 1 ≤ z) : ∀ (Y : ac_Y) (mm : ac_M), Y.1 = z → Y.2.1 z = (0, 1) → ac_C G yX1_init cX1_init 2 none d 57 532 Y mm [(2, (z : Int))] (ac_ci Y mm z 57 ac_isH) := by
  intro Y mm hz hk
  have G0 : ac_kp z Y mm Y mm := ac_kp_r
  refine ac_met (on := (RX1, "<init>")) rfl rfl (Nat.le_of_ble_eq_true rfl) (ls := [(2, (z : Int)), (3, 0)]) rfl ?_
  have loop : ∀ (r c : Nat) (Ya : ac_Y) (ma : ac_M), c + r = 14 → Ya.1 = z + 1 + 4 * c → Ya.2.1 z = (0, 1) → Ya.2.1 (z + 1) = (3, 14) → Ya.2.2 z 0 = z + 1 → (∀ i, i < c → Ya.2.2 (z + 1) i = z + 2 + 4 * i ∧ ac_isT Ya (z + 2 + 4 * i)) → ac_kp z Y mm Ya ma → ac_V G (RX1, "<init>") cX1_init 2 none d 57 532 (ac_ci Y mm z 57 ac_isH) (1 + 4 * c) (14 + 37 * c) Ya ma 15 [(2, (z : Int)), (0, (c : Int))] [] := by
    intro r
    induction r with
    | zero =>
      intro c Ya ma hcr ea ka k1 r0 hl hg
      refine ac_iload_n (q := 16) dX1_init_15 rfl rfl ?_
      refine ac_bipush (q := 18) dX1_init_16 rfl (by decide) ?_
      refine ac_icmp_ge (q := 21) (tgt := 40) dX1_init_18 rfl rfl ⟨by omega, by omega⟩ ⟨by omega, by omega⟩ (fun h18 => ?_) (fun h18 => ?_)
      · refine ac_return dX1_init_40 rfl (by omega) (by omega) ?_
        exact ⟨rfl, hg, by omega, ka, r0, k1, fun i hi => hl i (by omega)⟩
      · exfalso; omega
    | succ r ih =>
      intro c Ya ma hcr ea ka k1 r0 hl hg
      refine ac_iload_n (q := 16) dX1_init_15 rfl rfl ?_
      refine ac_bipush (q := 18) dX1_init_16 rfl (by decide) ?_
      refine ac_icmp_ge (q := 21) (tgt := 40) dX1_init_18 rfl rfl ⟨by omega, by omega⟩ ⟨by omega, by omega⟩ (fun h18 => ?_) (fun h18 => ?_)
      · exfalso; omega
      · refine ac_aload_n (q := 22) dX1_init_21 rfl rfl ?_
        refine ac_get (q := 25) dX1_init_22 fl_X1_11 ka rfl (ac_rdr rfl r0) ?_
        refine ac_iload_n (q := 26) dX1_init_25 rfl rfl ?_
        refine ac_mk (z := z + 1 + 4 * c) (ci := 3) (mc' := 3) (ms' := 30) (ck' := 1 + 4 * (c + 1)) (cn' := 14 + 37 * (c + 1)) (d' := d - 1) (q := 33) (lay := ac_isT) (k_X3_init (z := z + 1 + 4 * c + 1) (by omega) (by omega)) nl_X1_9 ml_X1_15 dX1_init_26 dX1_init_29 dX1_init_30 rfl ea (by omega) (Nat.le_of_ble_eq_true rfl) (by omega) (by show 14 + 37 * c + 7 + 30 = 14 + 37 * (c + 1); omega) (by omega) (by omega) (fun Yb mb g e kb l => ?_)
        refine ac_aastore (q := 34) dX1_init_33 ((g.2.1 _ (by omega)).trans k1) (by decide) ⟨by omega, by omega⟩ kb rfl ?_
        refine ac_iinc (q := 37) (v := ((c + 1 : Nat) : Int)) dX1_init_34 rfl (Nat.le_of_ble_eq_true rfl) rfl rfl rfl rfl ?_
        simp only [List.set_cons_succ, List.set_cons_zero]
        refine ac_goto (q := 15) dX1_init_37 rfl ?_
        have g0 : ac_kp z Y mm Yb mb := ⟨by have := hg.1; have := g.1; omega, fun k a => by have := hg.1; exact (g.2.1 k (by omega)).trans (hg.2.1 k a), fun k a b => by have := hg.1; exact (g.2.2.1 k (by omega) (by omega)).trans (hg.2.2.1 k a b), fun k a => by have := hg.1; exact (g.2.2.2.1 k (by omega)).trans (hg.2.2.2.1 k a), fun k a b => by
          by_cases hk2 : k ≤ Ya.1
          · exact (g.2.2.2.1 k hk2).trans (hg.2.2.2.2 k a hk2)
          · exact g.2.2.2.2 k (by omega) b⟩
        refine ih (c + 1) (Yb.1, Yb.2.1, ac_upR Yb.2.2 (z + 1) (c : Int).toNat (z + 1 + 4 * c + 1)) mb (by omega) (by show Yb.1 = _; omega) ((g.2.1 _ (by omega)).trans ka) ((g.2.1 _ (by omega)).trans k1) ?_ (fun i hi => ?_) ⟨g0.1, g0.2.1, fun k a b => (ac_upR_k (by omega)).trans (g0.2.2.1 k a b), g0.2.2.2⟩
        · show ac_upR Yb.2.2 (z + 1) (c : Int).toNat (z + 1 + 4 * c + 1) z 0 = z + 1
          rw [ac_upR_k (by omega), g.2.2.1 z (by omega) (by omega)]; exact r0
        · have hE : ∀ t, z + 1 < t → ac_isT Yb t → ac_isT (Yb.1, Yb.2.1, ac_upR Yb.2.2 (z + 1) (c : Int).toNat (z + 1 + 4 * c + 1)) t := fun t ht h => ac_isT_e h (fun k a b => ⟨rfl, ac_upR_k (by omega)⟩)
          rw [Int.toNat_natCast] at *
          by_cases hic : i = c
          · rw [hic]
            refine ⟨?_, hE _ (by omega) (by rw [show z + 2 + 4 * c = z + 1 + 4 * c + 1 by omega]; exact l)⟩
            show ac_upR Yb.2.2 (z + 1) c (z + 1 + 4 * c + 1) (z + 1) c = _
            rw [ac_upR_s]; omega
          · obtain ⟨q1, q2⟩ := hl i (by omega)
            refine ⟨?_, hE _ (by omega) (ac_isT_e q2 (ac_kp_e g (by omega) (Or.inr (by omega))))⟩
            show ac_upR Yb.2.2 (z + 1) c (z + 1 + 4 * c + 1) (z + 1) i = _
            rw [ac_upR_j hic, g.2.2.1 _ (by omega) (by omega)]; exact q1
  refine ac_aload_n (q := 1) dX1_init_0 rfl rfl ?_
  refine ac_objInit (q := 4) dX1_init_1 ml_X1_1 ob_m ob_c (by omega) rfl (by omega) (by decide) ?_
  refine ac_aload_n (q := 5) dX1_init_4 rfl rfl ?_
  refine ac_bipush (q := 7) dX1_init_5 rfl (by decide) ?_
  refine ac_newT (n := 14) (q := 10) dX1_init_7 nlr_X1_9 (by decide) rfl (by omega) (by omega) ?_
  have gn : ac_kp z Y mm (ac_nY Y (3, 14)) (ac_nM Y mm) := ac_kp_n
  have kn : (ac_nY Y (3, 14)).2.1 (Y.1 + 1) = (3, 14) := ac_nY_k
  have en : (ac_nY Y (3, 14)).1 = Y.1 + 1 := rfl
  generalize ac_nY Y (3, 14) = Yn at *
  generalize ac_nM Y mm = mn at *
  refine ac_pF (cx := 1) (j := 0) (q := 13) dX1_init_10 fl_X1_11 rfl ((gn.2.1 _ (by omega)).trans hk) rfl rfl (fun Yp ep gp rp op => ?_)
  refine ac_iconst (q := 14) dX1_init_13 rfl ?_
  refine ac_istore_n (q := 15) (j := 1) rfl dX1_init_14 rfl (Nat.le_of_ble_eq_true rfl) rfl rfl ?_
  simp only [List.set_cons_succ, List.set_cons_zero]
  exact loop 14 0 Yp mn (by omega) (by omega) (((gp mn).2.1 _ (by omega)).trans ((gn.2.1 _ (by omega)).trans hk)) (((gp mn).2.1 _ (by omega)).trans (by rw [← hz]; exact kn)) (by rw [rp, hz]) (fun i hi => by omega) (ac_kp_t gn (gp mn))
