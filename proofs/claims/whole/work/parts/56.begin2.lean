set_option maxHeartbeats 8000000 in
theorem k_X7_begin2 {G : ac_G} {Y : ac_Y} {mm : ac_M} {d x : Nat} {r S n : Nat} {T : ac_Tk} {pz : Int} {pn : Nat → Int} (hd : 4 ≤ d) (hM : ac_isM Y x) (hr : r = x + 3 ∨ r = x + 4) (rP : ac_RP mm r T) (hk : mm x 4 = (T.2.1 : Int)) (hS : S < 2048) (hn : 1 ≤ n ∧ n ≤ 10) (hpz : (pz = 0 ∧ pn = fun _ => -1) ∨ (pz = 1 ∧ pn = T.2.2.2.1)) : ac_C G yX7_begin cX7_begin 6 none d 0 0 Y mm [(2, (x : Int)), (2, (r : Int)), (0, (S : Int)), (0, (n : Int)), (0, pz)] (ac_R Y [] (fun m => ac_EN m x S T.2.1 n T.2.2.1 pn ∧ (ac_cl m (x + 14) [] ∧ m x 24 = 0) ∧ ac_fE mm m x)) := by
  have hM9 := hM
  obtain ⟨kx, k1, k2, k3, k4, k5, k6, k7, k8, k9, k10, k11, k12, k13, k14, k15, k16⟩ := hM.2
  obtain ⟨⟨-, hk2, hE, -, hpr, -⟩, p0, p1, pE, pp, -⟩ := id rP
  have hpz01 : pz = 0 ∨ pz = 1 := hpz.elim (fun q => Or.inl q.1) (fun q => Or.inr q.1)
  have f0 : ∀ k', k' ≠ x → ac_up mm x 25 (r : Int) k' = mm k' := fun k' h => by funext j; exact ac_up_k h
  have hrx : r ≠ x := by omega
  have pE1 : ac_E (ac_up mm x 25 (r : Int)) r 2 T.2.2.1 := by unfold ac_E; rw [f0 r hrx]; exact pE
  have p11 : ac_up mm x 25 (r : Int) r 1 = (T.2.2.1.length : Int) := by rw [f0 r hrx]; exact p1
  refine ac_met (on := (RX7, "begin")) rfl rfl (Nat.le_of_ble_eq_true rfl) (ls := [(2, (x : Int)), (2, (r : Int)), (0, (S : Int)), (0, (n : Int)), (0, pz), (3, 0)]) rfl ?_
  refine ac_aload_n (q := 1) dX7_begin_0 rfl rfl ?_
  refine ac_aload_n (q := 2) dX7_begin_1 rfl rfl ?_
  refine ac_putR (q := 5) dX7_begin_2 fl_X7_57 (by assumption) rfl rfl ?_
  refine ac_aload_n (q := 6) dX7_begin_5 rfl rfl ?_
  refine ac_aload_n (q := 7) dX7_begin_6 rfl rfl ?_
  refine ac_iload_n (q := 8) dX7_begin_7 rfl rfl ?_
  refine ac_cv (q := 11) (k_X7_laySets (r := r) (S := S) (E := T.2.2.1) (d := d - 1) (by omega) hM9 hr pE1 hE p11 hS) ml_X7_138 (by assumption) dX7_begin_8 rfl rfl rfl (by omega) (Nat.le_of_ble_eq_true rfl) (Nat.zero_le _) (Nat.zero_le _) (fun m1 h1 => ?_)
  obtain ⟨hst, f1⟩ := h1
  refine ac_aload_n (q := 12) dX7_begin_11 rfl rfl ?_
  refine ac_iload_n (q := 13) dX7_begin_12 rfl rfl ?_
  refine ac_put (q := 16) dX7_begin_13 fl_X7_142 (by assumption) rfl rfl ?_
  refine ac_aload_n (q := 17) dX7_begin_16 rfl rfl ?_
  refine ac_iload (q := 19) dX7_begin_17 rfl rfl ?_
  refine ac_putZ (q := 22) dX7_begin_19 fl_X7_134 (by assumption) rfl (by first | exact ac_b01 | omega) rfl ?_
  refine ac_aload_n (q := 23) dX7_begin_22 rfl rfl ?_
  refine ac_iconst (q := 24) dX7_begin_23 rfl ?_
  refine ac_putZ (q := 27) dX7_begin_24 fl_X7_145 (by assumption) rfl (by first | exact ac_b01 | omega) rfl ?_
  refine ac_iconst (q := 28) dX7_begin_27 rfl ?_
  refine ac_istore (q := 30) dX7_begin_28 rfl (Nat.le_of_ble_eq_true rfl) rfl rfl ?_
  simp only [List.set_cons_succ, List.set_cons_zero]
  refine ac_iload (q := 32) dX7_begin_30 rfl rfl ?_
  refine ac_iconst (q := 33) dX7_begin_32 rfl ?_
  refine ac_icmp_ge (q := 36) (tgt := 50) dX7_begin_33 rfl rfl ⟨by omega, by omega⟩ ⟨by omega, by omega⟩ (fun h33 => ?_) (fun h33 => ?_)
  · exact absurd h33 (by decide)
  · refine ac_aload_n (q := 37) dX7_begin_36 rfl rfl ?_
    refine ac_get (q := 40) dX7_begin_37 fl_X7_54 (by assumption) rfl (ac_rdr rfl hM9.1.2.2.2.2.2.2.2.2.2.2.2.2.2.1) ?_
    refine ac_iload (q := 42) dX7_begin_40 rfl rfl ?_
    refine ac_iconst (q := 43) dX7_begin_42 rfl ?_
    refine ac_iastoreN (q := 44) (j := 0) dX7_begin_43 (by assumption) (by decide) (by decide) rfl ?_
    refine ac_iinc (q := 47) (v := 1) dX7_begin_44 rfl (Nat.le_of_ble_eq_true rfl) rfl rfl rfl rfl ?_
    simp only [List.set_cons_succ, List.set_cons_zero]
    refine ac_goto (q := 30) dX7_begin_47 rfl ?_
    refine ac_iload (q := 32) dX7_begin_30 rfl rfl ?_
    refine ac_iconst (q := 33) dX7_begin_32 rfl ?_
    refine ac_icmp_ge (q := 36) (tgt := 50) dX7_begin_33 rfl rfl ⟨by omega, by omega⟩ ⟨by omega, by omega⟩ (fun h33 => ?_) (fun h33 => ?_)
    · exact absurd h33 (by decide)
    · refine ac_aload_n (q := 37) dX7_begin_36 rfl rfl ?_
      refine ac_get (q := 40) dX7_begin_37 fl_X7_54 (by assumption) rfl (ac_rdr rfl hM9.1.2.2.2.2.2.2.2.2.2.2.2.2.2.1) ?_
      refine ac_iload (q := 42) dX7_begin_40 rfl rfl ?_
      refine ac_iconst (q := 43) dX7_begin_42 rfl ?_
      refine ac_iastoreN (q := 44) (j := 1) dX7_begin_43 (by assumption) (by decide) (by decide) rfl ?_
      refine ac_iinc (q := 47) (v := 2) dX7_begin_44 rfl (Nat.le_of_ble_eq_true rfl) rfl rfl rfl rfl ?_
      simp only [List.set_cons_succ, List.set_cons_zero]
      refine ac_goto (q := 30) dX7_begin_47 rfl ?_
      refine ac_iload (q := 32) dX7_begin_30 rfl rfl ?_
      refine ac_iconst (q := 33) dX7_begin_32 rfl ?_
      refine ac_icmp_ge (q := 36) (tgt := 50) dX7_begin_33 rfl rfl ⟨by omega, by omega⟩ ⟨by omega, by omega⟩ (fun h33 => ?_) (fun h33 => ?_)
      · exact absurd h33 (by decide)
      · refine ac_aload_n (q := 37) dX7_begin_36 rfl rfl ?_
        refine ac_get (q := 40) dX7_begin_37 fl_X7_54 (by assumption) rfl (ac_rdr rfl hM9.1.2.2.2.2.2.2.2.2.2.2.2.2.2.1) ?_
        refine ac_iload (q := 42) dX7_begin_40 rfl rfl ?_
        refine ac_iconst (q := 43) dX7_begin_42 rfl ?_
        refine ac_iastoreN (q := 44) (j := 2) dX7_begin_43 (by assumption) (by decide) (by decide) rfl ?_
        refine ac_iinc (q := 47) (v := 3) dX7_begin_44 rfl (Nat.le_of_ble_eq_true rfl) rfl rfl rfl rfl ?_
        simp only [List.set_cons_succ, List.set_cons_zero]
        refine ac_goto (q := 30) dX7_begin_47 rfl ?_
        refine ac_iload (q := 32) dX7_begin_30 rfl rfl ?_
        refine ac_iconst (q := 33) dX7_begin_32 rfl ?_
        refine ac_icmp_ge (q := 36) (tgt := 50) dX7_begin_33 rfl rfl ⟨by omega, by omega⟩ ⟨by omega, by omega⟩ (fun h33 => ?_) (fun h33 => ?_)
        · refine ac_return dX7_begin_50 rfl (Nat.zero_le _) (Nat.zero_le _) ?_
          have hof : ∀ c, c < 3 → ac_up (ac_up (ac_up (ac_up (ac_up (ac_up m1 x 22 (n : Int)) x 23 pz) x 24 0) (x + 14) 0 0) (x + 14) 1 0) (x + 14) 2 0 (x + 14) c = 0 := by
            intro c hc
            rcases (show c = 0 ∨ c = 1 ∨ c = 2 by omega) with rfl | rfl | rfl <;> simp [ac_up]
          have hx : ∀ j, ac_up (ac_up (ac_up (ac_up (ac_up (ac_up m1 x 22 (n : Int)) x 23 pz) x 24 0) (x + 14) 0 0) (x + 14) 1 0) (x + 14) 2 0 x j = if j = 24 then 0 else if j = 23 then pz else if j = 22 then (n : Int) else if j = 25 then (r : Int) else mm x j := by
            intro j
            rw [ac_up_k (by omega), ac_up_k (by omega), ac_up_k (by omega)]
            have := congrFun (f1 x (by omega) (by omega)) j
            simp only [ac_up] at this ⊢
            by_cases h1 : j = 24 <;> by_cases h2 : j = 23 <;> by_cases h3 : j = 22 <;> by_cases h4 : j = 25 <;> simp [h1, h2, h3, h4] at this ⊢ <;> first | exact this | omega
          have hother : ∀ k', k' ≠ x → k' ≠ x + 14 → ac_up (ac_up (ac_up (ac_up (ac_up (ac_up m1 x 22 (n : Int)) x 23 pz) x 24 0) (x + 14) 0 0) (x + 14) 1 0) (x + 14) 2 0 k' = m1 k' := by
            intro k' h1 h2
            funext j
            rw [ac_up_k h2, ac_up_k h2, ac_up_k h2, ac_up_k h1, ac_up_k h1, ac_up_k h1]
          generalize ac_up (ac_up (ac_up (ac_up (ac_up (ac_up m1 x 22 (n : Int)) x 23 pz) x 24 0) (x + 14) 0 0) (x + 14) 1 0) (x + 14) 2 0 = m2 at *
          have hmr : m2 r = mm r := by rw [hother r (by omega) (by omega), f1 r (by omega) (by omega), f0 r hrx]
          refine ⟨rfl, rfl, ⟨⟨hn, hk2, hE, ?_⟩, by rw [hx]; exact hk, by rw [hx]; rfl, ⟨fun u h1 h2 => by rw [hother _ (by omega) (by omega)]; exact hst.1 u h1 h2, fun j Q hj => by rw [hother _ (by omega) (by omega)]; exact hst.2 j Q hj⟩, r, by rw [hx]; rfl, hr, ?_, fun i h1 h2 => ?_⟩, ⟨fun c hc => ?_, by rw [hx]; rfl⟩, fun k' h1 h2 => ?_, fun j hj => ?_⟩
          · rcases hpz with ⟨-, q⟩ | ⟨-, q⟩
            · intro i; rw [q]; show (-1 : Int) ≤ -1 ∧ (-1 : Int) < (T.2.1 : Int); omega
            · rw [q]; exact hpr
          · rcases hpz with ⟨q1, q2⟩ | ⟨q1, q2⟩
            · exact Or.inl ⟨by rw [hx]; exact q1, q2⟩
            · refine Or.inr ⟨by rw [hx]; exact q1, fun i h1 h2 => ?_⟩
              rw [hmr, q2]; exact pp i h1 h2
          · rw [hmr, pp i h1 h2]; have := hpr i; omega
          · rw [hof c hc]
            have : ac_set [] c = 0 := rfl
            rw [this]; rfl
          · rw [hother k' h1 (by omega), f1 k' (by omega) (by omega), f0 k' h1]
          · rw [hx, if_neg (by omega), if_neg (by omega), if_neg (by omega), if_neg (by omega)]
        · exact absurd h33 (by decide)

set_option maxHeartbeats 8000000 in
theorem k_X7_beginAll2 {G : ac_G} {Y : ac_Y} {mm : ac_M} {d x : Nat} {r : Nat} {T : ac_Tk} (hd : 5 ≤ d) (hM : ac_isM Y x) (hr : r = x + 3 ∨ r = x + 4) (rP : ac_RP mm r T) (hk : mm x 4 = (T.2.1 : Int)) : ac_C G yX7_beginAll cX7_beginAll 2 none d 0 0 Y mm [(2, (x : Int)), (2, (r : Int))] (ac_R Y [] (fun m => ac_EN m x (2 ^ T.2.2.1.length - 1) T.2.1 T.1 T.2.2.1 T.2.2.2.1 ∧ (ac_cl m (x + 14) [] ∧ m x 24 = 0) ∧ ac_fE mm m x)) := by
  have hM9 := hM
  obtain ⟨kx, k1, k2, k3, k4, k5, k6, k7, k8, k9, k10, k11, k12, k13, k14, k15, k16⟩ := hM.2
  obtain ⟨⟨hn, hk2, hE, -, hpr, -⟩, p0, p1, pE, pp, -⟩ := id rP
  have kr : Y.2.1 r = (1, 39) := by rcases hr with e | e <;> rw [e] <;> assumption
  have h2l : 2 ^ T.2.2.1.length ≤ 16 := Nat.pow_le_pow_right (n := 2) (by decide) hE.1
  refine ac_met (on := (RX7, "beginAll")) rfl rfl (Nat.le_of_ble_eq_true rfl) (ls := [(2, (x : Int)), (2, (r : Int))]) rfl ?_
  refine ac_aload_n (q := 1) dX7_beginAll_0 rfl rfl ?_
  refine ac_aload_n (q := 2) dX7_beginAll_1 rfl rfl ?_
  refine ac_aload_n (q := 3) dX7_beginAll_2 rfl rfl ?_
  refine ac_csp (q := 6) (k_X7_all (r := r) (z := T.2.2.1.length) (d := d - 1) (by omega) kr p1 hE.1) ml_X7_157 dX7_beginAll_3 rfl rfl rfl (by omega) (Nat.le_of_ble_eq_true rfl) (Nat.zero_le _) (Nat.zero_le _) ?_
  refine ac_aload_n (q := 7) dX7_beginAll_6 rfl rfl ?_
  refine ac_iconst (q := 8) dX7_beginAll_7 rfl ?_
  refine ac_ialoadN (q := 9) (j := 0) (v := (T.1 : Int)) dX7_beginAll_8 kr (by decide) (by decide) rfl p0 ?_
  refine ac_iconst (q := 10) dX7_beginAll_9 rfl ?_
  refine ac_cv (q := 13) (k_X7_begin2 (r := r) (S := 2 ^ T.2.2.1.length - 1) (n := T.1) (T := T) (pz := 1) (pn := T.2.2.2.1) (d := d - 1) (by omega) hM9 hr rP hk (by omega) hn (Or.inr ⟨rfl, rfl⟩)) ml_X7_160 (by assumption) dX7_beginAll_10 rfl rfl rfl (by omega) (Nat.le_of_ble_eq_true rfl) (Nat.zero_le _) (Nat.zero_le _) (fun m1 h1 => ?_)
  refine ac_return dX7_beginAll_13 rfl (Nat.zero_le _) (Nat.zero_le _) ?_
  exact ⟨rfl, rfl, h1⟩

