theorem ac_cp_k {mm : ac_M} {a b n k : Nat} (h : k ≠ b) {j : Nat} : ac_cp mm a b n k j = mm k j := if_neg (fun q => h q.1)
theorem ac_cp_at {mm : ac_M} {a b n j : Nat} (h : j < n) : ac_cp mm a b n b j = mm a j := if_pos ⟨rfl, h⟩
theorem ac_bits_le (x : Nat) : ac_bits x ≤ 12 := by
  unfold ac_bits
  exact Nat.le_trans List.countP_le_length (by simp)
set_option maxHeartbeats 4000000 in
theorem k_X5_begin {G : ac_G} {Y : ac_Y} {mm : ac_M} {d w n k : Nat} {E : List ac_Eq} {pin : Nat → Int} {col : Option (List Nat)} {obs : List ac_Ob} (hd : 4 ≤ d) (hW : ac_isW Y w) {t : Nat} {E0 : List ac_Eq} (hRC : ac_RC mm (w + 4) E0) (hRS : ac_RS mm (w + 1) obs) (hT9 : ac_isT Y t) (hRT : ac_RT mm t n k E pin col) (hwt : t + 4 ≤ w ∨ w + 18 ≤ t) : ac_C G yX5_begin cX5_begin 2 none d 0 0 Y mm [(2, (w : Int)), (2, (t : Int))] (ac_R Y [] (fun m => ac_W0 m w n k E pin col obs ∧ ac_cl m (w + 14) [] ∧ ∀ k', (k' < w + 5 ∨ w + 14 < k') → m k' = mm k')) := by
  have hW9 := hW
  obtain ⟨⟨kw, rw0, rw1, rw2, rw3, rw4, rw5, rw6⟩, ⟨k14, k15, k16, k17⟩, hS, hC, hT⟩ := hW
  have kt0 := hT.1
  have kc0 := hC.1
  have ks0 := hS.1
  refine ac_met (on := (RX5, "begin")) rfl rfl (Nat.le_of_ble_eq_true rfl) (ls := [(2, (w : Int)), (2, (t : Int))]) rfl ?_
  refine ac_aload_n (q := 1) dX5_begin_0 rfl rfl ?_
  refine ac_get (q := 4) dX5_begin_1 fl_X5_28 (by assumption) rfl (ac_rdr rfl (by assumption)) ?_
  refine ac_aload_n (q := 5) dX5_begin_4 rfl rfl ?_
  refine ac_cv (q := 8) (k_X3_copy (d := d - 1) (t := w + 10) (o := t) (by omega) hT hT9 (by omega) hRT) ml_X5_45 (by assumption) dX5_begin_5 rfl rfl rfl (by omega) (Nat.le_of_ble_eq_true rfl) (Nat.zero_le _) (Nat.zero_le _) (fun m1 h1 => ?_)
  obtain ⟨g1, f1⟩ := h1
  refine ac_aload_n (q := 9) dX5_begin_8 rfl rfl ?_
  refine ac_get (q := 12) dX5_begin_9 fl_X5_21 (by assumption) rfl (ac_rdr rfl (by assumption)) ?_
  refine ac_aload_n (q := 13) dX5_begin_12 rfl rfl ?_
  refine ac_get (q := 16) dX5_begin_13 fl_X5_28 (by assumption) rfl (ac_rdr rfl (by assumption)) ?_
  refine ac_cv (q := 19) (k_X0_fit (d := d - 1) (c := w + 4) (t := w + 10) (by omega) hC (ac_RC_keep hRC (f1 _ (by omega)) (f1 _ (by omega)) (f1 _ (by omega))) hT g1 (by omega)) ml_X5_49 (by assumption) dX5_begin_16 rfl rfl rfl (by omega) (Nat.le_of_ble_eq_true rfl) (Nat.zero_le _) (Nat.zero_le _) (fun m2 h2 => ?_)
  obtain ⟨g2, f2⟩ := h2
  refine ac_aload_n (q := 20) dX5_begin_19 rfl rfl ?_
  refine ac_get (q := 23) dX5_begin_20 fl_X5_32 (by assumption) rfl (ac_rdr rfl (by assumption)) ?_
  refine ac_iconst (q := 24) dX5_begin_23 rfl ?_
  refine ac_cs (q := 27) (k_fill (d := d - 1) (by omega) k14 (by decide)) ml_X5_52 dX5_begin_24 rfl rfl rfl (by omega) (Nat.le_of_ble_eq_true rfl) (Nat.zero_le _) (Nat.zero_le _) (fun m3 h3 => ?_)
  subst h3
  refine ac_return dX5_begin_27 rfl (Nat.zero_le _) (Nat.zero_le _) ?_
  have f3 : ∀ k', k' ≠ w + 14 → ac_fl m2 (w + 14) 3 0 k' = m2 k' := fun k' hk' => by funext j; exact if_neg (fun q => hk' q.1)
  refine ⟨rfl, rfl, ⟨ac_RT_keep g1 ?_ ?_ ?_ ?_, ac_RC_keep g2 ?_ ?_ ?_, ac_RS_keep hRS ?_ ?_ ?_⟩, ?_, fun k' hk' => ?_⟩
  · rw [f3 _ (by omega), f2 _ (by omega)]
  · rw [f3 _ (by omega), f2 _ (by omega)]
  · rw [f3 _ (by omega), f2 _ (by omega)]
  · rw [f3 _ (by omega), f2 _ (by omega)]
  · rw [f3 _ (by omega)]
  · rw [f3 _ (by omega)]
  · rw [f3 _ (by omega)]
  · rw [f3 _ (by omega), f2 _ (by omega), f1 _ (by omega)]
  · rw [f3 _ (by omega), f2 _ (by omega), f1 _ (by omega)]
  · rw [f3 _ (by omega), f2 _ (by omega), f1 _ (by omega)]
  · intro c hc; exact if_pos ⟨rfl, hc⟩
  · rw [f3 _ (by omega), f2 _ (by omega), f1 _ (by omega)]

set_option maxHeartbeats 4000000 in
theorem k_X5_put {G : ac_G} {Y : ac_Y} {mm : ac_M} {d w n k : Nat} {E : List ac_Eq} {pin : Nat → Int} {col : Option (List Nat)} {obs : List ac_Ob} (hd : 2 ≤ d) (hW : ac_isW Y w) (h0 : ac_W0 mm w n k E pin col obs) {x c : Nat} {l : List Nat} (hcl : ac_cl mm (w + 14) l) (hx : x = l.length + 1) (hxn : x ≤ n) (hc : c < 100) : ac_C G yX5_put cX5_put 4 (some .boolean) d 0 0 Y mm [(2, (w : Int)), (0, (x : Int)), (0, (c : Int))] (ac_R Y [(0, ac_b (ac_may k E pin l c = true))] (fun m => ac_cl m (w + 14) (if ac_may k E pin l c = true then l ++ [c] else l) ∧ ∀ k', k' ≠ w + 14 → m k' = mm k')) := by
  have hW9 := hW
  obtain ⟨⟨kw, rw0, rw1, rw2, rw3, rw4, rw5, rw6⟩, ⟨k14, k15, k16, k17⟩, hS, hC, hT⟩ := hW
  have kt0 := hT.1
  have kc0 := hC.1
  have ks0 := hS.1
  have h09 := h0
  obtain ⟨hRT, hRC, hRS⟩ := h0
  obtain ⟨⟨⟨hn1, hn2⟩, ⟨hkk1, hkk2⟩, hE, hp0, hpr, hc0⟩, t3, t4, t5, t6, tE, tp, tcb, tc⟩ := id hRT
  subst hx
  have hbl := ac_br_lt (E := E) (ac_set (l ++ [c]) c) hE.1
  refine ac_met (on := (RX5, "put")) rfl rfl (Nat.le_of_ble_eq_true rfl) (ls := [(2, (w : Int)), (0, ((l.length + 1 : Nat) : Int)), (0, (c : Int)), (3, 0)]) rfl ?_
  refine ac_aload_n (q := 1) dX5_put_0 rfl rfl ?_
  refine ac_get (q := 4) dX5_put_1 fl_X5_28 (by assumption) rfl (ac_rdr rfl (by assumption)) ?_
  refine ac_iload_n (q := 5) dX5_put_4 rfl rfl ?_
  refine ac_iload_n (q := 6) dX5_put_5 rfl rfl ?_
  refine ac_cvp (q := 9) (k_X3_allows (t := w + 10) (d := d - 1) (by omega) hT hRT ⟨by omega, by omega⟩ ⟨by omega, by omega⟩) ml_X5_133 (by assumption) dX5_put_6 rfl rfl rfl (by omega) (Nat.le_of_ble_eq_true rfl) (Nat.zero_le _) (Nat.zero_le _) ?_
  refine ac_bif_eq (q := 12) (tgt := 21) dX5_put_9 rfl rfl (fun h9 => ?_) (fun h9 => ?_)
  · refine ac_iconst (q := 22) dX5_put_21 rfl ?_
    refine ac_zreturn dX5_put_22 rfl (by first | exact ac_b01 | omega) (Nat.zero_le _) (Nat.zero_le _) ?_
    have hno : ¬ ac_may k E pin l c = true := fun h => by
      obtain ⟨a1, a2, -⟩ := ac_may_iff.mp h
      exact h9 ⟨by omega, by omega, a2⟩
    exact ⟨ac_l0 hno, rfl, by rw [if_neg hno]; exact hcl, fun _ _ => rfl⟩
  · refine ac_iload_n (q := 13) dX5_put_12 rfl rfl ?_
    refine ac_if_lt (q := 16) (tgt := 21) dX5_put_13 rfl rfl ⟨by omega, by omega⟩ (fun h13 => ?_) (fun h13 => ?_)
    · exfalso; omega
    · refine ac_iload_n (q := 17) dX5_put_16 rfl rfl ?_
      refine ac_iconst (q := 18) dX5_put_17 rfl ?_
      refine ac_icmp_lt (q := 21) (tgt := 23) dX5_put_18 rfl rfl ⟨by omega, by omega⟩ ⟨by omega, by omega⟩ (fun h18 => ?_) (fun h18 => ?_)
      · refine ac_aload_n (q := 24) dX5_put_23 rfl rfl ?_
        refine ac_get (q := 27) dX5_put_24 fl_X5_32 (by assumption) rfl (ac_rdr rfl (by assumption)) ?_
        refine ac_iload_n (q := 28) dX5_put_27 rfl rfl ?_
        refine ac_ialoadN (q := 29) (j := c) (v := (ac_set l c : Int)) dX5_put_28 k14 (by decide) (by omega) rfl (hcl c (by omega)) ?_
        refine ac_iconst (q := 30) dX5_put_29 rfl ?_
        refine ac_iload_n (q := 31) dX5_put_30 rfl rfl ?_
        refine ac_ishl1 (q := 32) (k := l.length + 1) dX5_put_31 rfl (by omega) ?_
        refine ac_ior (q := 33) dX5_put_32 rfl ?_
        refine ac_top (w' := (0, ((ac_set (l ++ [c]) c : Nat) : Int))) (by rw [ac_set_up]) ?_
        refine ac_istore_n (q := 34) (j := 3) rfl dX5_put_33 rfl (Nat.le_of_ble_eq_true rfl) rfl rfl ?_
        simp only [List.set_cons_succ, List.set_cons_zero]
        refine ac_aload_n (q := 35) dX5_put_34 rfl rfl ?_
        refine ac_get (q := 38) dX5_put_35 fl_X5_21 (by assumption) rfl (ac_rdr rfl (by assumption)) ?_
        refine ac_iload_n (q := 39) dX5_put_38 rfl rfl ?_
        refine ac_cvp (q := 42) (k_X0_in (c := w + 4) (d := d - 1) (S := ac_set (l ++ [c]) c) (by omega) hC hRC (ac_set_lt c (by rw [List.length_append]; simp; omega)) (ac_set_0 _ _)) ml_X5_136 (by assumption) dX5_put_39 rfl rfl rfl (by omega) (Nat.le_of_ble_eq_true rfl) (Nat.zero_le _) (Nat.zero_le _) ?_
        refine ac_if_eq (q := 45) (tgt := 47) dX5_put_42 rfl rfl ⟨by omega, by omega⟩ (fun h42 => ?_) (fun h42 => ?_)
        · refine ac_aload_n (q := 48) dX5_put_47 rfl rfl ?_
          refine ac_get (q := 51) dX5_put_48 fl_X5_32 (by assumption) rfl (ac_rdr rfl (by assumption)) ?_
          refine ac_iload_n (q := 52) dX5_put_51 rfl rfl ?_
          refine ac_iload_n (q := 53) dX5_put_52 rfl rfl ?_
          refine ac_iastoreN (q := 54) (j := c) dX5_put_53 k14 (by decide) (by omega) rfl ?_
          refine ac_iconst (q := 55) dX5_put_54 rfl ?_
          refine ac_zreturn dX5_put_55 rfl (by first | exact ac_b01 | omega) (Nat.zero_le _) (Nat.zero_le _) ?_
          have hyes : ac_may k E pin l c = true := ac_may_iff.mpr ⟨by omega, h9.2.2, by omega⟩
          refine ⟨ac_l1 hyes, rfl, by rw [if_pos hyes]; exact ac_cl_lay hcl (fun j => by simp [ac_up]), ?_⟩
          intro k' hk'; funext j; simp only [ac_up]; rw [if_neg (by omega)]
        · refine ac_iconst (q := 46) dX5_put_45 rfl ?_
          refine ac_zreturn dX5_put_46 rfl (by first | exact ac_b01 | omega) (Nat.zero_le _) (Nat.zero_le _) ?_
          have hno : ¬ ac_may k E pin l c = true := fun h => by
            obtain ⟨-, -, a3⟩ := ac_may_iff.mp h
            rw [a3] at h42; exact h42 rfl
          exact ⟨ac_l0 hno, rfl, by rw [if_neg hno]; exact hcl, fun _ _ => rfl⟩
      · exfalso; omega

set_option maxHeartbeats 4000000 in
theorem k_X5_with {G : ac_G} {Y : ac_Y} {mm : ac_M} {d w : Nat} (hd : 1 ≤ d) (hW : ac_isW Y w) {x c : Nat} {l : List Nat} (hcl : ac_cl mm (w + 14) l) (hx : x = l.length + 1) (hx2 : x ≤ 10) (hc : c < 3) : ac_C G yX5_with cX5_with 3 (some .int) d 0 0 Y mm [(2, (w : Int)), (0, (x : Int)), (0, (c : Int))] (ac_R Y [(0, (ac_set (l ++ [c]) c : Int))] (fun m => m = mm)) := by
  have hW9 := hW
  obtain ⟨⟨kw, rw0, rw1, rw2, rw3, rw4, rw5, rw6⟩, ⟨k14, k15, k16, k17⟩, hS, hC, hT⟩ := hW
  have kt0 := hT.1
  have kc0 := hC.1
  have ks0 := hS.1
  subst hx
  refine ac_met (on := (RX5, "with")) rfl rfl (Nat.le_of_ble_eq_true rfl) (ls := [(2, (w : Int)), (0, ((l.length + 1 : Nat) : Int)), (0, (c : Int))]) rfl ?_
  refine ac_iload_n (q := 1) dX5_with_0 rfl rfl ?_
  refine ac_if_lt (q := 4) (tgt := 22) dX5_with_1 rfl rfl ⟨by omega, by omega⟩ (fun h1 => ?_) (fun h1 => ?_)
  · exfalso; omega
  · refine ac_iload_n (q := 5) dX5_with_4 rfl rfl ?_
    refine ac_iconst (q := 6) dX5_with_5 rfl ?_
    refine ac_icmp_ge (q := 9) (tgt := 22) dX5_with_6 rfl rfl ⟨by omega, by omega⟩ ⟨by omega, by omega⟩ (fun h6 => ?_) (fun h6 => ?_)
    · exfalso; omega
    · refine ac_aload_n (q := 10) dX5_with_9 rfl rfl ?_
      refine ac_get (q := 13) dX5_with_10 fl_X5_32 (by assumption) rfl (ac_rdr rfl (by assumption)) ?_
      refine ac_iload_n (q := 14) dX5_with_13 rfl rfl ?_
      refine ac_ialoadN (q := 15) (j := c) (v := (ac_set l c : Int)) dX5_with_14 k14 (by decide) (by omega) rfl (hcl c (by omega)) ?_
      refine ac_iconst (q := 16) dX5_with_15 rfl ?_
      refine ac_iload_n (q := 17) dX5_with_16 rfl rfl ?_
      refine ac_ishl1 (q := 18) (k := l.length + 1) dX5_with_17 rfl (by omega) ?_
      refine ac_ior (q := 19) dX5_with_18 rfl ?_
      refine ac_top (w' := (0, ((ac_set (l ++ [c]) c : Nat) : Int))) (by rw [ac_set_up]) ?_
      refine ac_goto (q := 23) dX5_with_19 rfl ?_
      refine ac_ireturn dX5_with_23 rfl (Nat.zero_le _) (Nat.zero_le _) ?_
      exact ⟨rfl, rfl, rfl⟩

set_option maxHeartbeats 4000000 in
theorem k_X5_lay {G : ac_G} {Y : ac_Y} {mm : ac_M} {d w : Nat} (hd : 1 ≤ d) (hW : ac_isW Y w) {x c : Nat} {l : List Nat} (hcl : ac_cl mm (w + 14) l) (hx : x = l.length + 1) (hx2 : x ≤ 10) (hc : c < 3) : ac_C G yX5_lay cX5_lay 3 none d 0 0 Y mm [(2, (w : Int)), (0, (x : Int)), (0, (c : Int))] (ac_R Y [] (fun m => ac_cl m (w + 14) (l ++ [c]) ∧ ∀ k', k' ≠ w + 14 → m k' = mm k')) := by
  have hW9 := hW
  obtain ⟨⟨kw, rw0, rw1, rw2, rw3, rw4, rw5, rw6⟩, ⟨k14, k15, k16, k17⟩, hS, hC, hT⟩ := hW
  have kt0 := hT.1
  have kc0 := hC.1
  have ks0 := hS.1
  subst hx
  refine ac_met (on := (RX5, "lay")) rfl rfl (Nat.le_of_ble_eq_true rfl) (ls := [(2, (w : Int)), (0, ((l.length + 1 : Nat) : Int)), (0, (c : Int))]) rfl ?_
  refine ac_iload_n (q := 1) dX5_lay_0 rfl rfl ?_
  refine ac_if_lt (q := 4) (tgt := 21) dX5_lay_1 rfl rfl ⟨by omega, by omega⟩ (fun h1 => ?_) (fun h1 => ?_)
  · exfalso; omega
  · refine ac_iload_n (q := 5) dX5_lay_4 rfl rfl ?_
    refine ac_iconst (q := 6) dX5_lay_5 rfl ?_
    refine ac_icmp_ge (q := 9) (tgt := 21) dX5_lay_6 rfl rfl ⟨by omega, by omega⟩ ⟨by omega, by omega⟩ (fun h6 => ?_) (fun h6 => ?_)
    · exfalso; omega
    · refine ac_aload_n (q := 10) dX5_lay_9 rfl rfl ?_
      refine ac_get (q := 13) dX5_lay_10 fl_X5_32 (by assumption) rfl (ac_rdr rfl (by assumption)) ?_
      refine ac_iload_n (q := 14) dX5_lay_13 rfl rfl ?_
      refine ac_dup2_11 (q := 15) dX5_lay_14 rfl (show (0 : Nat) ≠ 1 by decide) (show (2 : Nat) ≠ 1 by decide) ?_
      refine ac_ialoadN (q := 16) (j := c) (v := (ac_set l c : Int)) dX5_lay_15 k14 (by decide) (by omega) rfl (hcl c (by omega)) ?_
      refine ac_iconst (q := 17) dX5_lay_16 rfl ?_
      refine ac_iload_n (q := 18) dX5_lay_17 rfl rfl ?_
      refine ac_ishl1 (q := 19) (k := l.length + 1) dX5_lay_18 rfl (by omega) ?_
      refine ac_ior (q := 20) dX5_lay_19 rfl ?_
      refine ac_top (w' := (0, ((ac_set (l ++ [c]) c : Nat) : Int))) (by rw [ac_set_up]) ?_
      refine ac_iastoreN (q := 21) (j := c) dX5_lay_20 k14 (by decide) (by omega) rfl ?_
      refine ac_return dX5_lay_21 rfl (Nat.zero_le _) (Nat.zero_le _) ?_
      refine ⟨rfl, rfl, ac_cl_lay hcl (fun j => by simp [ac_up]), ?_⟩
      intro k' hk'; funext j; simp only [ac_up]; rw [if_neg (by omega)]

set_option maxHeartbeats 4000000 in
theorem k_X5_lift {G : ac_G} {Y : ac_Y} {mm : ac_M} {d w : Nat} (hd : 1 ≤ d) (hW : ac_isW Y w) {x c : Nat} {l : List Nat} (hcl : ac_cl mm (w + 14) (l ++ [c])) (hx : x = l.length + 1) (hx2 : x ≤ 10) (hc : c < 3) : ac_C G yX5_lift cX5_lift 3 none d 0 0 Y mm [(2, (w : Int)), (0, (x : Int)), (0, (c : Int))] (ac_R Y [] (fun m => ac_cl m (w + 14) l ∧ ∀ k', k' ≠ w + 14 → m k' = mm k')) := by
  have hW9 := hW
  obtain ⟨⟨kw, rw0, rw1, rw2, rw3, rw4, rw5, rw6⟩, ⟨k14, k15, k16, k17⟩, hS, hC, hT⟩ := hW
  have kt0 := hT.1
  have kc0 := hC.1
  have ks0 := hS.1
  subst hx
  refine ac_met (on := (RX5, "lift")) rfl rfl (Nat.le_of_ble_eq_true rfl) (ls := [(2, (w : Int)), (0, ((l.length + 1 : Nat) : Int)), (0, (c : Int))]) rfl ?_
  refine ac_iload_n (q := 1) dX5_lift_0 rfl rfl ?_
  refine ac_if_lt (q := 4) (tgt := 23) dX5_lift_1 rfl rfl ⟨by omega, by omega⟩ (fun h1 => ?_) (fun h1 => ?_)
  · exfalso; omega
  · refine ac_iload_n (q := 5) dX5_lift_4 rfl rfl ?_
    refine ac_iconst (q := 6) dX5_lift_5 rfl ?_
    refine ac_icmp_ge (q := 9) (tgt := 23) dX5_lift_6 rfl rfl ⟨by omega, by omega⟩ ⟨by omega, by omega⟩ (fun h6 => ?_) (fun h6 => ?_)
    · exfalso; omega
    · refine ac_aload_n (q := 10) dX5_lift_9 rfl rfl ?_
      refine ac_get (q := 13) dX5_lift_10 fl_X5_32 (by assumption) rfl (ac_rdr rfl (by assumption)) ?_
      refine ac_iload_n (q := 14) dX5_lift_13 rfl rfl ?_
      refine ac_dup2_11 (q := 15) dX5_lift_14 rfl (show (0 : Nat) ≠ 1 by decide) (show (2 : Nat) ≠ 1 by decide) ?_
      refine ac_ialoadN (q := 16) (j := c) (v := (ac_set (l ++ [c]) c : Int)) dX5_lift_15 k14 (by decide) (by omega) rfl (hcl c (by omega)) ?_
      refine ac_iconst (q := 17) dX5_lift_16 rfl ?_
      refine ac_iload_n (q := 18) dX5_lift_17 rfl rfl ?_
      refine ac_ishl1 (q := 19) (k := l.length + 1) dX5_lift_18 rfl (by omega) ?_
      refine ac_iconst (q := 20) dX5_lift_19 rfl ?_
      refine ac_ixor (q := 21) dX5_lift_20 rfl ?_
      refine ac_iandn (q := 22) dX5_lift_21 rfl ?_
      refine ac_top (w' := (0, ((ac_set l c : Nat) : Int))) (by rw [ac_set_dn]) ?_
      refine ac_iastoreN (q := 23) (j := c) dX5_lift_22 k14 (by decide) (by omega) rfl ?_
      refine ac_return dX5_lift_23 rfl (Nat.zero_le _) (Nat.zero_le _) ?_
      refine ⟨rfl, rfl, ac_cl_lift hcl (fun j => by simp [ac_up]), ?_⟩
      intro k' hk'; funext j; simp only [ac_up]; rw [if_neg (by omega)]

set_option maxHeartbeats 4000000 in
theorem k_X5_allow0 {G : ac_G} {Y : ac_Y} {mm : ac_M} {d w : Nat} (hd : 1 ≤ d) (hW : ac_isW Y w) {x c p : Nat} (hp : mm (w + 16) x = (p : Int)) (hx : 1 ≤ x ∧ x ≤ 10) (hc : c < 3) : ac_C G yX5_allow cX5_allow 4 none d 0 0 Y mm [(2, (w : Int)), (0, (x : Int)), (0, (c : Int)), (0, 0)] (ac_R Y [] (fun m => m = mm)) := by
  have hW9 := hW
  obtain ⟨⟨kw, rw0, rw1, rw2, rw3, rw4, rw5, rw6⟩, ⟨k14, k15, k16, k17⟩, hS, hC, hT⟩ := hW
  have kt0 := hT.1
  have kc0 := hC.1
  have ks0 := hS.1
  refine ac_met (on := (RX5, "allow")) rfl rfl (Nat.le_of_ble_eq_true rfl) (ls := [(2, (w : Int)), (0, (x : Int)), (0, (c : Int)), (0, 0)]) rfl ?_
  refine ac_iload_n (q := 1) dX5_allow_0 rfl rfl ?_
  refine ac_if_eq (q := 4) (tgt := 27) dX5_allow_1 rfl rfl ⟨by omega, by omega⟩ (fun h1 => ?_) (fun h1 => ?_)
  · refine ac_return dX5_allow_27 rfl (Nat.zero_le _) (Nat.zero_le _) ?_
    exact ⟨rfl, rfl, rfl⟩
  · exact absurd h1 (by decide)

set_option maxHeartbeats 4000000 in
theorem k_X5_allow1 {G : ac_G} {Y : ac_Y} {mm : ac_M} {d w : Nat} (hd : 1 ≤ d) (hW : ac_isW Y w) {x c p : Nat} (hp : mm (w + 16) x = (p : Int)) (hx : 1 ≤ x ∧ x ≤ 10) (hc : c < 3) : ac_C G yX5_allow cX5_allow 4 none d 0 0 Y mm [(2, (w : Int)), (0, (x : Int)), (0, (c : Int)), (0, 1)] (ac_R Y [] (fun m => m = ac_up mm (w + 16) x ((p ||| 2 ^ c : Nat) : Int))) := by
  have hW9 := hW
  obtain ⟨⟨kw, rw0, rw1, rw2, rw3, rw4, rw5, rw6⟩, ⟨k14, k15, k16, k17⟩, hS, hC, hT⟩ := hW
  have kt0 := hT.1
  have kc0 := hC.1
  have ks0 := hS.1
  refine ac_met (on := (RX5, "allow")) rfl rfl (Nat.le_of_ble_eq_true rfl) (ls := [(2, (w : Int)), (0, (x : Int)), (0, (c : Int)), (0, 1)]) rfl ?_
  refine ac_iload_n (q := 1) dX5_allow_0 rfl rfl ?_
  refine ac_if_eq (q := 4) (tgt := 27) dX5_allow_1 rfl rfl ⟨by omega, by omega⟩ (fun h1 => ?_) (fun h1 => ?_)
  · exact absurd h1 (by decide)
  · refine ac_iload_n (q := 5) dX5_allow_4 rfl rfl ?_
    refine ac_iconst (q := 6) dX5_allow_5 rfl ?_
    refine ac_icmp_lt (q := 9) (tgt := 27) dX5_allow_6 rfl rfl ⟨by omega, by omega⟩ ⟨by omega, by omega⟩ (fun h6 => ?_) (fun h6 => ?_)
    · exfalso; omega
    · refine ac_iload_n (q := 10) dX5_allow_9 rfl rfl ?_
      refine ac_bipush (q := 12) dX5_allow_10 rfl (by decide) ?_
      refine ac_icmp_gt (q := 15) (tgt := 27) dX5_allow_12 rfl rfl ⟨by omega, by omega⟩ ⟨by omega, by omega⟩ (fun h12 => ?_) (fun h12 => ?_)
      · exfalso; omega
      · refine ac_aload_n (q := 16) dX5_allow_15 rfl rfl ?_
        refine ac_get (q := 19) dX5_allow_16 fl_X5_39 (by assumption) rfl (ac_rdr rfl (by assumption)) ?_
        refine ac_iload_n (q := 20) dX5_allow_19 rfl rfl ?_
        refine ac_dup2_11 (q := 21) dX5_allow_20 rfl (show (0 : Nat) ≠ 1 by decide) (show (2 : Nat) ≠ 1 by decide) ?_
        refine ac_ialoadN (q := 22) (j := x) (v := (p : Int)) dX5_allow_21 k16 (by decide) (by omega) rfl hp ?_
        refine ac_iconst (q := 23) dX5_allow_22 rfl ?_
        refine ac_iload_n (q := 24) dX5_allow_23 rfl rfl ?_
        refine ac_ishl1 (q := 25) (k := c) dX5_allow_24 rfl (by omega) ?_
        refine ac_ior (q := 26) dX5_allow_25 rfl ?_
        refine ac_iastoreN (q := 27) (j := x) dX5_allow_26 k16 (by decide) (by omega) rfl ?_
        refine ac_return dX5_allow_27 rfl (Nat.zero_le _) (Nat.zero_le _) ?_
        exact ⟨rfl, rfl, rfl⟩

set_option maxHeartbeats 4000000 in
theorem k_X5_possibleOf {G : ac_G} {Y : ac_Y} {mm : ac_M} {d w : Nat} (hd : 1 ≤ d) (hW : ac_isW Y w) {x p : Nat} (hp : mm (w + 16) x = (p : Int)) (hx : 1 ≤ x ∧ x ≤ 10) : ac_C G yX5_possibleOf cX5_possibleOf 2 (some .int) d 0 0 Y mm [(2, (w : Int)), (0, (x : Int))] (ac_R Y [(0, (p : Int))] (fun m => m = mm)) := by
  have hW9 := hW
  obtain ⟨⟨kw, rw0, rw1, rw2, rw3, rw4, rw5, rw6⟩, ⟨k14, k15, k16, k17⟩, hS, hC, hT⟩ := hW
  have kt0 := hT.1
  have kc0 := hC.1
  have ks0 := hS.1
  refine ac_met (on := (RX5, "possibleOf")) rfl rfl (Nat.le_of_ble_eq_true rfl) (ls := [(2, (w : Int)), (0, (x : Int))]) rfl ?_
  refine ac_iload_n (q := 1) dX5_possibleOf_0 rfl rfl ?_
  refine ac_iconst (q := 2) dX5_possibleOf_1 rfl ?_
  refine ac_icmp_lt (q := 5) (tgt := 20) dX5_possibleOf_2 rfl rfl ⟨by omega, by omega⟩ ⟨by omega, by omega⟩ (fun h2 => ?_) (fun h2 => ?_)
  · exfalso; omega
  · refine ac_iload_n (q := 6) dX5_possibleOf_5 rfl rfl ?_
    refine ac_bipush (q := 8) dX5_possibleOf_6 rfl (by decide) ?_
    refine ac_icmp_gt (q := 11) (tgt := 20) dX5_possibleOf_8 rfl rfl ⟨by omega, by omega⟩ ⟨by omega, by omega⟩ (fun h8 => ?_) (fun h8 => ?_)
    · exfalso; omega
    · refine ac_aload_n (q := 12) dX5_possibleOf_11 rfl rfl ?_
      refine ac_get (q := 15) dX5_possibleOf_12 fl_X5_39 (by assumption) rfl (ac_rdr rfl (by assumption)) ?_
      refine ac_iload_n (q := 16) dX5_possibleOf_15 rfl rfl ?_
      refine ac_ialoadN (q := 17) (j := x) (v := (p : Int)) dX5_possibleOf_16 k16 (by decide) (by omega) rfl hp ?_
      refine ac_goto (q := 21) dX5_possibleOf_17 rfl ?_
      refine ac_ireturn dX5_possibleOf_21 rfl (Nat.zero_le _) (Nat.zero_le _) ?_
      exact ⟨rfl, rfl, rfl⟩

set_option maxHeartbeats 4000000 in
theorem k_X5_forces {G : ac_G} {Y : ac_Y} {mm : ac_M} {d w : Nat} (hd : 2 ≤ d) (hW : ac_isW Y w) {x p : Nat} (hp : mm (w + 16) x = (p : Int)) (hx : 1 ≤ x ∧ x ≤ 10) (hp8 : p < 2048) : ac_C G yX5_forces cX5_forces 2 (some .boolean) d 0 0 Y mm [(2, (w : Int)), (0, (x : Int))] (ac_R Y [(0, ac_b (ac_bits p = 1))] (fun m => m = mm)) := by
  have hW9 := hW
  obtain ⟨⟨kw, rw0, rw1, rw2, rw3, rw4, rw5, rw6⟩, ⟨k14, k15, k16, k17⟩, hS, hC, hT⟩ := hW
  have kt0 := hT.1
  have kc0 := hC.1
  have ks0 := hS.1
  have hb12 := ac_bits_le p
  refine ac_met (on := (RX5, "forces")) rfl rfl (Nat.le_of_ble_eq_true rfl) (ls := [(2, (w : Int)), (0, (x : Int))]) rfl ?_
  refine ac_aload_n (q := 1) dX5_forces_0 rfl rfl ?_
  refine ac_iload_n (q := 2) dX5_forces_1 rfl rfl ?_
  refine ac_cvp (q := 5) (k_X5_possibleOf (d := d - 1) (by omega) hW9 hp hx) ml_X5_140 (by assumption) dX5_forces_2 rfl rfl rfl (by omega) (Nat.le_of_ble_eq_true rfl) (Nat.zero_le _) (Nat.zero_le _) ?_
  refine ac_csp (q := 8) (k_bits (d := d - 1) (by omega) hp8) ml_X5_143 dX5_forces_5 rfl rfl rfl (by omega) (Nat.le_of_ble_eq_true rfl) (Nat.zero_le _) (Nat.zero_le _) ?_
  refine ac_iconst (q := 9) dX5_forces_8 rfl ?_
  refine ac_icmp_ne (q := 12) (tgt := 16) dX5_forces_9 rfl rfl ⟨by omega, by omega⟩ ⟨by omega, by omega⟩ (fun h9 => ?_) (fun h9 => ?_)
  · refine ac_iconst (q := 17) dX5_forces_16 rfl ?_
    refine ac_zreturn dX5_forces_17 rfl (by first | exact ac_b01 | omega) (Nat.zero_le _) (Nat.zero_le _) ?_
    first | exact ⟨ac_l1 (by omega), rfl, rfl⟩ | exact ⟨ac_l0 (by omega), rfl, rfl⟩
  · refine ac_iconst (q := 13) dX5_forces_12 rfl ?_
    refine ac_goto (q := 17) dX5_forces_13 rfl ?_
    refine ac_zreturn dX5_forces_17 rfl (by first | exact ac_b01 | omega) (Nat.zero_le _) (Nat.zero_le _) ?_
    first | exact ⟨ac_l1 (by omega), rfl, rfl⟩ | exact ⟨ac_l0 (by omega), rfl, rfl⟩

set_option maxHeartbeats 4000000 in
theorem k_X5_arrive {G : ac_G} {Y : ac_Y} {mm : ac_M} {d w n k : Nat} {E : List ac_Eq} {pin : Nat → Int} {col : Option (List Nat)} {obs : List ac_Ob} (hd : 2 ≤ d) (hW : ac_isW Y w) (h0 : ac_W0 mm w n k E pin col obs) {l : List Nat} {wanted : Int} {done : List (List Nat)} {P : Nat → Nat} {dead deep : Nat} (hcl : ac_cl mm (w + 14) l) (hl : l.length = n) (hlk : ∀ c ∈ l, c < k) (hR : ac_RW mm w col obs wanted done P dead deep) (hB : done.length < 100000) (hwt : ac_in wanted) : ac_C G yX5_arrive cX5_arrive 1 none d 0 0 Y mm [(2, (w : Int))] (ac_R Y [] (fun m => ac_RW m w col obs wanted (done ++ [l]) P dead deep ∧ ac_cl m (w + 14) l ∧ ∀ k', k' ≠ w → k' ≠ w + 15 → m k' = mm k')) := by
  have hW9 := hW
  obtain ⟨⟨kw, rw0, rw1, rw2, rw3, rw4, rw5, rw6⟩, ⟨k14, k15, k16, k17⟩, hS, hC, hT⟩ := hW
  have kt0 := hT.1
  have kc0 := hC.1
  have ks0 := hS.1
  have h09 := h0
  obtain ⟨hRT, hRC, hRS⟩ := h0
  obtain ⟨⟨⟨hn1, hn2⟩, ⟨hkk1, hkk2⟩, hE, hp0, hpr, hc0⟩, t3, t4, t5, t6, tE, tp, tcb, tc⟩ := id hRT
  refine ac_met (on := (RX5, "arrive")) rfl rfl (Nat.le_of_ble_eq_true rfl) (ls := [(2, (w : Int))]) rfl ?_
  have p110 : ∀ m : ac_M, (∀ k', k' ≠ w → k' ≠ w + 15 → m k' = mm k') → m w 7 = wanted → m w 8 = (done.length : Int) → m w 9 = ac_rk col (done ++ [l]) → m w 10 = (dead : Int) → m w 11 = (deep : Int) → m w 12 = ((done ++ [l]).countP (ac_ag obs) : Int) → m w 13 = ac_low obs (done ++ [l]) → (∀ (x : Nat) (l0 : List Nat), wanted = (x : Int) → (done ++ [l])[x]? = some l0 → ac_cl m (w + 15) l0) → ac_V G (RX5, "arrive") cX5_arrive 1 none d 0 0 (ac_R Y [] (fun m => ac_RW m w col obs wanted (done ++ [l]) P dead deep ∧ ac_cl m (w + 14) l ∧ ∀ k', k' ≠ w → k' ≠ w + 15 → m k' = mm k')) 0 0 Y m 110 [(2, (w : Int))] [] := by
    intro m hf q7 q8 q9 q10 q11 q12 q13 hch
    refine ac_aload_n (q := 111) dX5_arrive_110 rfl rfl ?_
    refine ac_dup (q := 112) dX5_arrive_111 rfl (show (2 : Nat) ≠ 1 by decide) ?_
    refine ac_get (q := 115) dX5_arrive_112 fl_X5_65 (by assumption) rfl rfl ?_
    refine ac_iconst (q := 116) dX5_arrive_115 rfl ?_
    refine ac_iadd (q := 117) dX5_arrive_116 rfl ?_
    refine ac_put (q := 120) dX5_arrive_117 fl_X5_65 (by assumption) rfl rfl ?_
    refine ac_return dX5_arrive_120 rfl (Nat.zero_le _) (Nat.zero_le _) ?_
    refine ⟨rfl, rfl, ⟨⟨(by simpa [ac_up] using q7), by simp [ac_up, q8], (by simpa [ac_up] using q9), (by simpa [ac_up] using q10), (by simpa [ac_up] using q11), (by simpa [ac_up] using q12), (by simpa [ac_up] using q13)⟩, fun x l0 h1 h2 => ac_cl_keep (hch x l0 h1 h2) (by funext j; simp [ac_up]), fun x h1 h2 => ?_⟩, fun j hj => ?_, fun k' h1 h2 => ?_⟩
    · rw [ac_up_k (by omega), hf _ (by omega) (by omega)]; exact hR.2.2 x h1 h2
    · rw [ac_up_k (by omega), hf _ (by omega) (by omega)]; exact hcl j hj
    · rw [← hf k' h1 h2]; funext j; exact ac_up_k h1
  have p57 : ∀ m : ac_M, (∀ k', k' ≠ w → k' ≠ w + 15 → m k' = mm k') → m w 7 = wanted → m w 8 = (done.length : Int) → m w 9 = ac_rk col (done ++ [l]) → m w 10 = (dead : Int) → m w 11 = (deep : Int) → m w 12 = (done.countP (ac_ag obs) : Int) → m w 13 = ac_low obs done → (∀ (x : Nat) (l0 : List Nat), wanted = (x : Int) → (done ++ [l])[x]? = some l0 → ac_cl m (w + 15) l0) → ac_V G (RX5, "arrive") cX5_arrive 1 none d 0 0 (ac_R Y [] (fun m => ac_RW m w col obs wanted (done ++ [l]) P dead deep ∧ ac_cl m (w + 14) l ∧ ∀ k', k' ≠ w → k' ≠ w + 15 → m k' = mm k')) 0 0 Y m 57 [(2, (w : Int))] [] := by
    intro m hf q7 q8 q9 q10 q11 q12 q13 hch
    have hlow := ac_low_snoc (obs := obs) (l := l) (L := done)
    have hcnt : (done ++ [l]).countP (ac_ag obs) = done.countP (ac_ag obs) + if ac_ag obs l = true then 1 else 0 := by rw [List.countP_append]; by_cases hz : ac_ag obs l = true <;> simp [hz]
    have hcle := List.countP_le_length (p := ac_ag obs) (l := done)
    have hRS2 : ac_RS m (w + 1) obs := ac_RS_keep hRS (hf _ (by omega) (by omega)) (hf _ (by omega) (by omega)) (hf _ (by omega) (by omega))
    have hcl2 : ac_cl m (w + 14) l := ac_cl_keep hcl (hf _ (by omega) (by omega))
    have e3 : m (w + 10) 3 = (n : Int) := by rw [hf _ (by omega) (by omega)]; exact t3
    refine ac_aload_n (q := 58) dX5_arrive_57 rfl rfl ?_
    refine ac_get (q := 61) dX5_arrive_58 fl_X5_12 (by assumption) rfl (ac_rdr rfl (by assumption)) ?_
    refine ac_aload_n (q := 62) dX5_arrive_61 rfl rfl ?_
    refine ac_get (q := 65) dX5_arrive_62 fl_X5_32 (by assumption) rfl (ac_rdr rfl (by assumption)) ?_
    refine ac_aload_n (q := 66) dX5_arrive_65 rfl rfl ?_
    refine ac_get (q := 69) dX5_arrive_66 fl_X5_28 (by assumption) rfl (ac_rdr rfl (by assumption)) ?_
    refine ac_get (q := 72) dX5_arrive_69 fl_X5_126 kt0 rfl (ac_rdi rfl e3) ?_
    refine ac_cvp (q := 75) (k_X2_agree (s := w + 1) (d := d - 1) (by omega) hS hRS2 k14 hcl2 hl hn2 (fun c hc => Nat.lt_of_lt_of_le (hlk c hc) hkk2)) ml_X5_129 (by assumption) dX5_arrive_72 rfl rfl rfl (by omega) (Nat.le_of_ble_eq_true rfl) (Nat.zero_le _) (Nat.zero_le _) ?_
    refine ac_bif_eq (q := 78) (tgt := 110) dX5_arrive_75 rfl rfl (fun h75 => ?_) (fun h75 => ?_)
    · rw [if_neg h75] at hlow hcnt
      exact p110 m hf q7 q8 q9 q10 q11 (by rw [q12, hcnt]; rfl) (by rw [q13, hlow]) hch
    · refine ac_aload_n (q := 79) dX5_arrive_78 rfl rfl ?_
      refine ac_aload_n (q := 80) dX5_arrive_79 rfl rfl ?_
      refine ac_get (q := 83) dX5_arrive_80 fl_X5_77 (by assumption) rfl rfl ?_
      refine ac_if_ne (q := 86) (tgt := 93) dX5_arrive_83 rfl rfl ⟨by omega, by omega⟩ (fun h83 => ?_) (fun h83 => ?_)
      · rw [if_pos h75, if_neg (by omega)] at hlow
        rw [if_pos h75] at hcnt
        refine ac_aload_n (q := 94) dX5_arrive_93 rfl rfl ?_
        refine ac_get (q := 97) dX5_arrive_94 fl_X5_80 (by assumption) rfl rfl ?_
        refine ac_put (q := 100) dX5_arrive_97 fl_X5_80 (by assumption) rfl rfl ?_
        refine ac_aload_n (q := 101) dX5_arrive_100 rfl rfl ?_
        refine ac_dup (q := 102) dX5_arrive_101 rfl (show (2 : Nat) ≠ 1 by decide) ?_
        refine ac_get (q := 105) dX5_arrive_102 fl_X5_77 (by assumption) rfl rfl ?_
        refine ac_iconst (q := 106) dX5_arrive_105 rfl ?_
        refine ac_iadd (q := 107) dX5_arrive_106 rfl ?_
        refine ac_put (q := 110) dX5_arrive_107 fl_X5_77 (by assumption) rfl rfl ?_
        exact p110 _ (fun k' h1 h2 => by rw [← hf k' h1 h2]; funext j; simp only [ac_up]; repeat rw [if_neg (fun q => h1 q.1)]) (by simpa [ac_up] using q7) (by simpa [ac_up] using q8) (by simpa [ac_up] using q9) (by simpa [ac_up] using q10) (by simpa [ac_up] using q11) (by rw [hcnt]; simp [ac_up, q12]) (by rw [hlow]; simp [ac_up, q8, q13]) (fun x l0 h1 h2 => ac_cl_keep (hch x l0 h1 h2) (by funext j; simp [ac_up]))
      · rw [if_pos h75, if_pos (by omega)] at hlow
        rw [if_pos h75] at hcnt
        refine ac_aload_n (q := 87) dX5_arrive_86 rfl rfl ?_
        refine ac_get (q := 90) dX5_arrive_87 fl_X5_65 (by assumption) rfl rfl ?_
        refine ac_goto (q := 97) dX5_arrive_90 rfl ?_
        refine ac_put (q := 100) dX5_arrive_97 fl_X5_80 (by assumption) rfl rfl ?_
        refine ac_aload_n (q := 101) dX5_arrive_100 rfl rfl ?_
        refine ac_dup (q := 102) dX5_arrive_101 rfl (show (2 : Nat) ≠ 1 by decide) ?_
        refine ac_get (q := 105) dX5_arrive_102 fl_X5_77 (by assumption) rfl rfl ?_
        refine ac_iconst (q := 106) dX5_arrive_105 rfl ?_
        refine ac_iadd (q := 107) dX5_arrive_106 rfl ?_
        refine ac_put (q := 110) dX5_arrive_107 fl_X5_77 (by assumption) rfl rfl ?_
        exact p110 _ (fun k' h1 h2 => by rw [← hf k' h1 h2]; funext j; simp only [ac_up]; repeat rw [if_neg (fun q => h1 q.1)]) (by simpa [ac_up] using q7) (by simpa [ac_up] using q8) (by simpa [ac_up] using q9) (by simpa [ac_up] using q10) (by simpa [ac_up] using q11) (by rw [hcnt]; simp [ac_up, q12]) (by rw [hlow]; simp [ac_up, q8, q13]) (fun x l0 h1 h2 => ac_cl_keep (hch x l0 h1 h2) (by funext j; simp [ac_up]))
  have p25 : ∀ m : ac_M, (∀ k', k' ≠ w → k' ≠ w + 15 → m k' = mm k') → m w 7 = wanted → m w 8 = (done.length : Int) → m w 9 = ac_rk col done → m w 10 = (dead : Int) → m w 11 = (deep : Int) → m w 12 = (done.countP (ac_ag obs) : Int) → m w 13 = ac_low obs done → (∀ (x : Nat) (l0 : List Nat), wanted = (x : Int) → (done ++ [l])[x]? = some l0 → ac_cl m (w + 15) l0) → ac_V G (RX5, "arrive") cX5_arrive 1 none d 0 0 (ac_R Y [] (fun m => ac_RW m w col obs wanted (done ++ [l]) P dead deep ∧ ac_cl m (w + 14) l ∧ ∀ k', k' ≠ w → k' ≠ w + 15 → m k' = mm k')) 0 0 Y m 25 [(2, (w : Int))] [] := by
    intro m hf q7 q8 q9 q10 q11 q12 q13 hch
    have hrk := ac_rk_snoc (col := col) (l := l) (L := done)
    have e6 : m (w + 10) 6 = ac_b (col.isSome = true) := by rw [hf _ (by omega) (by omega)]; exact t6
    have hRT2 : ac_RT m (w + 10) n k E pin col := ac_RT_keep hRT (hf _ (by omega) (by omega)) (hf _ (by omega) (by omega)) (hf _ (by omega) (by omega)) (hf _ (by omega) (by omega))
    have hcl2 : ac_cl m (w + 14) l := ac_cl_keep hcl (hf _ (by omega) (by omega))
    refine ac_aload_n (q := 26) dX5_arrive_25 rfl rfl ?_
    refine ac_get (q := 29) dX5_arrive_26 fl_X5_28 (by assumption) rfl (ac_rdr rfl (by assumption)) ?_
    refine ac_get (q := 32) dX5_arrive_29 fl_X5_118 kt0 rfl (ac_rdz rfl e6) ?_
    refine ac_bif_eq (q := 35) (tgt := 57) dX5_arrive_32 rfl rfl (fun h32 => ?_) (fun h32 => ?_)
    · have hne : ¬ col = some l := fun hz => h32 (by rw [hz]; rfl)
      rw [if_neg hne] at hrk
      exact p57 m hf q7 q8 (by rw [q9, hrk]) q10 q11 q12 q13 hch
    · refine ac_aload_n (q := 36) dX5_arrive_35 rfl rfl ?_
      refine ac_get (q := 39) dX5_arrive_36 fl_X5_28 (by assumption) rfl (ac_rdr rfl (by assumption)) ?_
      refine ac_aload_n (q := 40) dX5_arrive_39 rfl rfl ?_
      refine ac_get (q := 43) dX5_arrive_40 fl_X5_32 (by assumption) rfl (ac_rdr rfl (by assumption)) ?_
      refine ac_cvp (q := 46) (k_X3_hasClasses (t := w + 10) (d := d - 1) (by omega) hT hRT2 k14 (fun c hc => by rw [hcl2 c hc]; have := ac_set_lt (l := l) c (by omega); omega)) ml_X5_122 (by assumption) dX5_arrive_43 rfl rfl rfl (by omega) (Nat.le_of_ble_eq_true rfl) (Nat.zero_le _) (Nat.zero_le _) ?_
      refine ac_bif_eq (q := 49) (tgt := 57) dX5_arrive_46 rfl rfl (fun h46 => ?_) (fun h46 => ?_)
      · have hne : ¬ col = some l := fun hz => h46 (by
          obtain ⟨-, -, -, -, -, -, -, -, tc2⟩ := hRT2
          have z := tc2 l hz
          exact ⟨by rw [z 0 (by decide), hcl2 0 (by decide)], by rw [z 1 (by decide), hcl2 1 (by decide)], by rw [z 2 (by decide), hcl2 2 (by decide)]⟩)
        rw [if_neg hne] at hrk
        exact p57 m hf q7 q8 (by rw [q9, hrk]) q10 q11 q12 q13 hch
      · have hyes : col = some l := by
          obtain ⟨l2, hl2⟩ := Option.isSome_iff_exists.mp h32
          obtain ⟨c1, c2⟩ := hc0 l2 hl2
          obtain ⟨-, -, -, -, -, -, -, -, tc2⟩ := hRT2
          have z := tc2 l2 hl2
          obtain ⟨a0, a1, a2⟩ := h46
          rw [z 0 (by decide), hcl2 0 (by decide)] at a0
          rw [z 1 (by decide), hcl2 1 (by decide)] at a1
          rw [z 2 (by decide), hcl2 2 (by decide)] at a2
          rw [hl2, ac_set_inj (l := l2) (l' := l) (by omega) (fun c hc => Nat.lt_of_lt_of_le (c2 c hc) hkk2) (fun c hc => by rcases (show c = 0 ∨ c = 1 ∨ c = 2 by omega) with rfl | rfl | rfl <;> omega)]
        rw [if_pos hyes] at hrk
        refine ac_aload_n (q := 50) dX5_arrive_49 rfl rfl ?_
        refine ac_aload_n (q := 51) dX5_arrive_50 rfl rfl ?_
        refine ac_get (q := 54) dX5_arrive_51 fl_X5_65 (by assumption) rfl rfl ?_
        refine ac_put (q := 57) dX5_arrive_54 fl_X5_68 (by assumption) rfl rfl ?_
        exact p57 _ (fun k' h1 h2 => by rw [← hf k' h1 h2]; funext j; simp only [ac_up]; repeat rw [if_neg (fun q => h1 q.1)]) (by simpa [ac_up] using q7) (by simpa [ac_up] using q8) (by rw [hrk]; simp [ac_up, q8]) (by simpa [ac_up] using q10) (by simpa [ac_up] using q11) (by simpa [ac_up] using q12) (by simpa [ac_up] using q13) (fun x l0 h1 h2 => ac_cl_keep (hch x l0 h1 h2) (by funext j; simp [ac_up]))
  obtain ⟨⟨q7, q8, q9, q10, q11, q12, q13⟩, hch, hP⟩ := id hR
  obtain ⟨hw1, hw2⟩ := hwt
  refine ac_aload_n (q := 1) dX5_arrive_0 rfl rfl ?_
  refine ac_get (q := 4) dX5_arrive_1 fl_X5_65 (by assumption) rfl rfl ?_
  refine ac_aload_n (q := 5) dX5_arrive_4 rfl rfl ?_
  refine ac_get (q := 8) dX5_arrive_5 fl_X5_61 (by assumption) rfl rfl ?_
  refine ac_icmp_ne (q := 11) (tgt := 25) dX5_arrive_8 rfl rfl ⟨by omega, by omega⟩ ⟨by omega, by omega⟩ (fun h8 => ?_) (fun h8 => ?_)
  · first
      | (refine p25 _ (fun k' h1 h2 => ?_) ?_ ?_ ?_ ?_ ?_ ?_ ?_ ?_
         · funext j; exact if_neg (fun q => h2 q.1)
         · rw [ac_cp_k (by omega)]; exact q7
         · rw [ac_cp_k (by omega)]; exact q8
         · rw [ac_cp_k (by omega)]; exact q9
         · rw [ac_cp_k (by omega)]; exact q10
         · rw [ac_cp_k (by omega)]; exact q11
         · rw [ac_cp_k (by omega)]; exact q12
         · rw [ac_cp_k (by omega)]; exact q13
         · intro x l0 h1 h2 c hc
           rw [List.getElem?_append_right (by omega), show x - done.length = 0 by omega] at h2
           cases h2
           rw [ac_cp_at hc]; exact hcl c hc)
      | (refine p25 _ (fun _ _ _ => rfl) q7 q8 q9 q10 q11 q12 q13 (fun x l0 h1 h2 => ?_)
         by_cases hx : x < done.length
         · rw [List.getElem?_append_left hx] at h2; exact hch x l0 h1 h2
         · rw [List.getElem?_append_right (by omega)] at h2
           by_cases hx2 : x - done.length = 0
           · omega
           · rw [List.getElem?_eq_none (by simp; omega)] at h2; cases h2)
  · refine ac_aload_n (q := 12) dX5_arrive_11 rfl rfl ?_
    refine ac_get (q := 15) dX5_arrive_12 fl_X5_32 (by assumption) rfl (ac_rdr rfl (by assumption)) ?_
    refine ac_iconst (q := 16) dX5_arrive_15 rfl ?_
    refine ac_aload_n (q := 17) dX5_arrive_16 rfl rfl ?_
    refine ac_get (q := 20) dX5_arrive_17 fl_X5_36 (by assumption) rfl (ac_rdr rfl (by assumption)) ?_
    refine ac_iconst (q := 21) dX5_arrive_20 rfl ?_
    refine ac_iconst (q := 22) dX5_arrive_21 rfl ?_
    refine ac_copy (q := 25) (n := 3) dX5_arrive_22 ml_X5_112 cp_n cp_s cp_i (by assumption) (by assumption) (by decide) (by decide) (by decide) rfl (by omega) (Nat.le_of_ble_eq_true rfl) ?_
    first
      | (refine p25 _ (fun k' h1 h2 => ?_) ?_ ?_ ?_ ?_ ?_ ?_ ?_ ?_
         · funext j; exact if_neg (fun q => h2 q.1)
         · rw [ac_cp_k (by omega)]; exact q7
         · rw [ac_cp_k (by omega)]; exact q8
         · rw [ac_cp_k (by omega)]; exact q9
         · rw [ac_cp_k (by omega)]; exact q10
         · rw [ac_cp_k (by omega)]; exact q11
         · rw [ac_cp_k (by omega)]; exact q12
         · rw [ac_cp_k (by omega)]; exact q13
         · intro x l0 h1 h2 c hc
           rw [List.getElem?_append_right (by omega), show x - done.length = 0 by omega] at h2
           cases h2
           rw [ac_cp_at hc]; exact hcl c hc)
      | (refine p25 _ (fun _ _ _ => rfl) q7 q8 q9 q10 q11 q12 q13 (fun x l0 h1 h2 => ?_)
         by_cases hx : x < done.length
         · rw [List.getElem?_append_left hx] at h2; exact hch x l0 h1 h2
         · rw [List.getElem?_append_right (by omega)] at h2
           by_cases hx2 : x - done.length = 0
           · omega
           · rw [List.getElem?_eq_none (by simp; omega)] at h2; cases h2)
