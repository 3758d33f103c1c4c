set_option maxHeartbeats 8000000 in
theorem k_X6_refusalOfPaint {G : ac_G} {Y : ac_Y} {mm : ac_M} {d x : Nat} {u : Nat} {T : ac_Tk} {E0 : List ac_Eq} {obs : List ac_Ob} {a c : Int} (hd : 8 ≤ d) (hA : ac_isA Y x) (hu : u = x + 3 ∨ u = x + 11) (rT : ac_RTk mm u T) (hok : ac_okS T) (rS : ac_RS mm (x + 87) obs) (rC : ac_RC mm (x + 90) E0) (ha : ac_in a) (hc : ac_in c) : ac_C G yX6_refusalOfPaint cX6_refusalOfPaint 4 (some .int) d 0 0 Y mm [(2, (x : Int)), (2, (u : Int)), (0, a), (0, c)] (ac_R Y [(0, ac_rfp T a c)] (fun m => ac_RS m (x + 87) obs ∧ (∃ E0, ac_RC m (x + 90) E0) ∧ ∀ k', (k' < x + 86 ∨ x + 103 < k') → m k' = mm k')) := by
  have hA9 := hA
  obtain ⟨⟨kx, -⟩, hX, ⟨hT0, hT1, hT2, hT3⟩, ⟨ka, -, -, hS0, hS1⟩, hH, hW⟩ := hA
  have ktx := hX.1
  have kn0 := hT0.1
  have kn1 := hT1.1
  have kn2 := hT2.1
  have kn3 := hT3.1
  have kh := hH.1
  obtain ⟨⟨kw, -⟩, ⟨k14, k15, k16, k17⟩, hWS, hWC, hWT⟩ := id hW
  have kws := hWS.1
  have kwc := hWC.1
  have hTu : ac_isT Y u := by rcases hu with h | h <;> rw [h] <;> assumption
  have ku := hTu.1
  obtain ⟨⟨⟨hn1, hn2⟩, ⟨hkk1, hkk2⟩, hE, hp0, hpr, hc0⟩, t3, t4, t5, t6, tE, tp, tcb, tc⟩ := id rT
  have t6b : mm u 6 = ac_b (T.2.2.2.2.isSome = true) := t6
  obtain ⟨ha1, ha2⟩ := ha
  obtain ⟨hc1, hc2⟩ := hc
  unfold ac_rfp
  refine ac_met (on := (RX6, "refusalOfPaint")) rfl rfl (Nat.le_of_ble_eq_true rfl) (ls := [(2, (x : Int)), (2, (u : Int)), (0, a), (0, c)]) rfl ?_
  refine ac_aload_n (q := 1) dX6_refusalOfPaint_0 rfl rfl ?_
  refine ac_iload_n (q := 2) dX6_refusalOfPaint_1 rfl rfl ?_
  refine ac_cvp (q := 5) (k_X3_has (t := u) (d := d - 1) (by omega) hTu rT ⟨by omega, by omega⟩) ml_X6_100 (by assumption) dX6_refusalOfPaint_2 rfl rfl rfl (by omega) (Nat.le_of_ble_eq_true rfl) (Nat.zero_le _) (Nat.zero_le _) ?_
  refine ac_bif_ne (q := 8) (tgt := 10) dX6_refusalOfPaint_5 rfl rfl (fun h5 => ?_) (fun h5 => ?_)
  · refine ac_aload_n (q := 11) dX6_refusalOfPaint_10 rfl rfl ?_
    refine ac_iload_n (q := 12) dX6_refusalOfPaint_11 rfl rfl ?_
    refine ac_cvp (q := 15) (k_X3_hasColour (t := u) (d := d - 1) (by omega) hTu rT ⟨by omega, by omega⟩) ml_X6_276 (by assumption) dX6_refusalOfPaint_12 rfl rfl rfl (by omega) (Nat.le_of_ble_eq_true rfl) (Nat.zero_le _) (Nat.zero_le _) ?_
    refine ac_bif_ne (q := 18) (tgt := 21) dX6_refusalOfPaint_15 rfl rfl (fun h15 => ?_) (fun h15 => ?_)
    · obtain ⟨a, rfl⟩ := Int.eq_ofNat_of_zero_le (a := a) (by omega)
      obtain ⟨c, rfl⟩ := Int.eq_ofNat_of_zero_le (a := c) (by omega)
      simp only [Int.toNat_natCast]
      refine ac_aload_n (q := 22) dX6_refusalOfPaint_21 rfl rfl ?_
      refine ac_get (q := 25) dX6_refusalOfPaint_22 fl_X6_103 ku rfl (ac_rdz rfl t6b) ?_
      refine ac_bif_eq (q := 28) (tgt := 46) dX6_refusalOfPaint_25 rfl rfl (fun h25 => ?_) (fun h25 => ?_)
      · refine ac_bipush (q := 48) dX6_refusalOfPaint_46 rfl (by decide) ?_
        refine ac_ireturn dX6_refusalOfPaint_48 rfl (Nat.zero_le _) (Nat.zero_le _) ?_
        have hno : ¬ ac_pt T a c = true := by
          first
            | (rw [hpt, Bool.and_eq_true, decide_eq_true_eq, decide_eq_true_eq]; intro q
               first
                 | exact q.1 (by omega)
                 | exact h43 ⟨by omega, by omega, (hiff.mp q.2).1⟩)
            | (unfold ac_pt
               cases hcol : T.2.2.2.2 with
               | none => simp
               | some l => rw [hcol] at h25; exact absurd rfl h25)
        rw [if_neg (by omega), if_neg (by omega), if_neg hno]; exact ⟨rfl, rfl, rS, ⟨_, rC⟩, fun _ _ => rfl⟩
      · obtain ⟨l, hl⟩ := Option.isSome_iff_exists.mp h25
        have hlL := hok.2.1 l hl
        obtain ⟨hl1, hl2⟩ := hc0 l hl
        have hiff := ac_pt_iff (x := a) (c := c) hkk2 hlL (by omega) ⟨by omega, by omega⟩
        have hgd : l.getD (a - 1) 0 < 3 := by
          have hd : l[a - 1]? = some (l.getD (a - 1) 0) := by rw [List.getD_eq_getElem?_getD, List.getElem?_eq_getElem (by omega)]; rfl
          have := hl2 _ (List.mem_of_getElem? hd); omega
        have hpt : ac_pt T a c = (decide (l.getD (a - 1) 0 ≠ c) && decide (l.set (a - 1) c ∈ ac_Lt T)) := by unfold ac_pt; rw [hl]
        have hlt : ac_set l c ||| 2 ^ a < 2048 := Nat.or_lt_two_pow (n := 11) (ac_set_lt c (by omega)) (Nat.pow_lt_pow_of_lt (by decide) (by omega))
        have hb0 : (ac_set l c ||| 2 ^ a).testBit 0 = false := by
          rw [Nat.testBit_or, ac_set_0, Nat.testBit_two_pow, decide_eq_false (by omega)]; rfl
        have hbl := ac_br_lt (E := T.2.2.1) (ac_set l c ||| 2 ^ a) hE.1
        refine ac_aload_n (q := 29) dX6_refusalOfPaint_28 rfl rfl ?_
        refine ac_iload_n (q := 30) dX6_refusalOfPaint_29 rfl rfl ?_
        refine ac_cvp (q := 33) (k_X3_colourOf (t := u) (d := d - 1) (x := a) (l := l) (by omega) hTu rT ⟨by omega, by omega⟩ hl) ml_X6_107 (by assumption) dX6_refusalOfPaint_30 rfl rfl rfl (by omega) (Nat.le_of_ble_eq_true rfl) (Nat.zero_le _) (Nat.zero_le _) ?_
        refine ac_iload_n (q := 34) dX6_refusalOfPaint_33 rfl rfl ?_
        refine ac_icmp_eq (q := 37) (tgt := 46) dX6_refusalOfPaint_34 rfl rfl ⟨by omega, by omega⟩ ⟨by omega, by omega⟩ (fun h34 => ?_) (fun h34 => ?_)
        · refine ac_bipush (q := 48) dX6_refusalOfPaint_46 rfl (by decide) ?_
          refine ac_ireturn dX6_refusalOfPaint_48 rfl (Nat.zero_le _) (Nat.zero_le _) ?_
          have hno : ¬ ac_pt T a c = true := by
            first
              | (rw [hpt, Bool.and_eq_true, decide_eq_true_eq, decide_eq_true_eq]; intro q
                 first
                   | exact q.1 (by omega)
                   | exact h43 ⟨by omega, by omega, (hiff.mp q.2).1⟩)
              | (unfold ac_pt
                 cases hcol : T.2.2.2.2 with
                 | none => simp
                 | some l => rw [hcol] at h25; exact absurd rfl h25)
          rw [if_neg (by omega), if_neg (by omega), if_neg hno]; exact ⟨rfl, rfl, rS, ⟨_, rC⟩, fun _ _ => rfl⟩
        · refine ac_aload_n (q := 38) dX6_refusalOfPaint_37 rfl rfl ?_
          refine ac_iload_n (q := 39) dX6_refusalOfPaint_38 rfl rfl ?_
          refine ac_iload_n (q := 40) dX6_refusalOfPaint_39 rfl rfl ?_
          refine ac_cvp (q := 43) (k_X3_allows (t := u) (d := d - 1) (x := (a : Int)) (c := (c : Int)) (by omega) hTu rT ⟨by omega, by omega⟩ ⟨by omega, by omega⟩) ml_X6_279 (by assumption) dX6_refusalOfPaint_40 rfl rfl rfl (by omega) (Nat.le_of_ble_eq_true rfl) (Nat.zero_le _) (Nat.zero_le _) ?_
          simp only [Int.toNat_natCast]
          refine ac_bif_ne (q := 46) (tgt := 49) dX6_refusalOfPaint_43 rfl rfl (fun h43 => ?_) (fun h43 => ?_)
          · refine ac_aload_n (q := 50) dX6_refusalOfPaint_49 rfl rfl ?_
            refine ac_get (q := 53) dX6_refusalOfPaint_50 fl_X6_46 (by assumption) rfl (ac_rdr rfl hA9.1.2.2.2.2.2.2.2.2) ?_
            refine ac_aload_n (q := 54) dX6_refusalOfPaint_53 rfl rfl ?_
            refine ac_cv (q := 57) (k_X5_begin (w := x + 86) (t := u) (d := d - 1) (by omega) hW rC rS hTu rT (by omega)) ml_X6_199 (by assumption) dX6_refusalOfPaint_54 rfl rfl rfl (by omega) (Nat.le_of_ble_eq_true rfl) (Nat.zero_le _) (Nat.zero_le _) (fun m1 h1 => ?_)
            obtain ⟨w1, -, f1⟩ := h1
            have rT1 : ac_RTk m1 u T := ac_RTk_keep rT (f1 _ (by omega)) (f1 _ (by omega)) (f1 _ (by omega)) (f1 _ (by omega))
            have tc1 := rT1.2.2.2.2.2.2.2.2 l hl c (by omega)
            refine ac_aload_n (q := 58) dX6_refusalOfPaint_57 rfl rfl ?_
            refine ac_get (q := 61) dX6_refusalOfPaint_58 fl_X6_46 (by assumption) rfl (ac_rdr rfl hA9.1.2.2.2.2.2.2.2.2) ?_
            refine ac_get (q := 64) dX6_refusalOfPaint_61 fl_X6_205 (by assumption) rfl (ac_rdr rfl hW.1.2.2.1) ?_
            refine ac_aload_n (q := 65) dX6_refusalOfPaint_64 rfl rfl ?_
            refine ac_iload_n (q := 66) dX6_refusalOfPaint_65 rfl rfl ?_
            refine ac_cvp (q := 69) (k_X3_classOf (t := u) (d := d - 1) (c := (c : Int)) (by omega) hTu rT1 ⟨by omega, by omega⟩) ml_X6_209 (by assumption) dX6_refusalOfPaint_66 rfl rfl rfl (by omega) (Nat.le_of_ble_eq_true rfl) (Nat.zero_le _) (Nat.zero_le _) ?_
            refine ac_top (w' := (0, ((ac_set l c : Nat) : Int))) (by rw [if_pos (by omega), Int.toNat_natCast, tc1]) ?_
            refine ac_iconst (q := 70) dX6_refusalOfPaint_69 rfl ?_
            refine ac_iload_n (q := 71) dX6_refusalOfPaint_70 rfl rfl ?_
            refine ac_ishl1 (q := 72) (k := a) dX6_refusalOfPaint_71 rfl (by omega) ?_
            refine ac_ior (q := 73) dX6_refusalOfPaint_72 rfl ?_
            refine ac_cvp (q := 76) (k_X0_in (c := x + 90) (d := d - 1) (S := ac_set l c ||| 2 ^ a) (by omega) hWC w1.2.1 hlt hb0) ml_X6_212 (by assumption) dX6_refusalOfPaint_73 rfl rfl rfl (by omega) (Nat.le_of_ble_eq_true rfl) (Nat.zero_le _) (Nat.zero_le _) ?_
            refine ac_if_ne (q := 79) (tgt := 83) dX6_refusalOfPaint_76 rfl rfl ⟨by omega, by omega⟩ (fun h76 => ?_) (fun h76 => ?_)
            · refine ac_bipush (q := 85) dX6_refusalOfPaint_83 rfl (by decide) ?_
              refine ac_ireturn dX6_refusalOfPaint_85 rfl (Nat.zero_le _) (Nat.zero_le _) ?_
              first
                | (have hyes : ac_pt T a c = true := by
                     rw [hpt, Bool.and_eq_true, decide_eq_true_eq, decide_eq_true_eq]
                     exact ⟨by omega, hiff.mpr ⟨h43.2.2, by omega⟩⟩
                   rw [if_neg (by omega), if_neg (by omega), if_pos hyes]; exact ⟨rfl, rfl, w1.2.2, ⟨_, w1.2.1⟩, fun k' a => f1 k' (by omega)⟩)
                | (have hno : ¬ ac_pt T a c = true := by
                     rw [hpt, Bool.and_eq_true, decide_eq_true_eq, decide_eq_true_eq]; intro q
                     exact h76 (by rw [(hiff.mp q.2).2]; rfl)
                   rw [if_neg (by omega), if_neg (by omega), if_neg hno]; exact ⟨rfl, rfl, w1.2.2, ⟨_, w1.2.1⟩, fun k' a => f1 k' (by omega)⟩)
            · refine ac_iconst (q := 80) dX6_refusalOfPaint_79 rfl ?_
              refine ac_goto (q := 85) dX6_refusalOfPaint_80 rfl ?_
              refine ac_ireturn dX6_refusalOfPaint_85 rfl (Nat.zero_le _) (Nat.zero_le _) ?_
              first
                | (have hyes : ac_pt T a c = true := by
                     rw [hpt, Bool.and_eq_true, decide_eq_true_eq, decide_eq_true_eq]
                     exact ⟨by omega, hiff.mpr ⟨h43.2.2, by omega⟩⟩
                   rw [if_neg (by omega), if_neg (by omega), if_pos hyes]; exact ⟨rfl, rfl, w1.2.2, ⟨_, w1.2.1⟩, fun k' a => f1 k' (by omega)⟩)
                | (have hno : ¬ ac_pt T a c = true := by
                     rw [hpt, Bool.and_eq_true, decide_eq_true_eq, decide_eq_true_eq]; intro q
                     exact h76 (by rw [(hiff.mp q.2).2]; rfl)
                   rw [if_neg (by omega), if_neg (by omega), if_neg hno]; exact ⟨rfl, rfl, w1.2.2, ⟨_, w1.2.1⟩, fun k' a => f1 k' (by omega)⟩)
          · refine ac_bipush (q := 48) dX6_refusalOfPaint_46 rfl (by decide) ?_
            refine ac_ireturn dX6_refusalOfPaint_48 rfl (Nat.zero_le _) (Nat.zero_le _) ?_
            have hno : ¬ ac_pt T a c = true := by
              first
                | (rw [hpt, Bool.and_eq_true, decide_eq_true_eq, decide_eq_true_eq]; intro q
                   first
                     | exact q.1 (by omega)
                     | exact h43 ⟨by omega, by omega, (hiff.mp q.2).1⟩)
                | (unfold ac_pt
                   cases hcol : T.2.2.2.2 with
                   | none => simp
                   | some l => rw [hcol] at h25; exact absurd rfl h25)
            rw [if_neg (by omega), if_neg (by omega), if_neg hno]; exact ⟨rfl, rfl, rS, ⟨_, rC⟩, fun _ _ => rfl⟩
    · refine ac_bipush (q := 20) dX6_refusalOfPaint_18 rfl (by decide) ?_
      refine ac_ireturn dX6_refusalOfPaint_20 rfl (Nat.zero_le _) (Nat.zero_le _) ?_
      rw [if_neg (by omega), if_pos (by omega)]; exact ⟨rfl, rfl, rS, ⟨_, rC⟩, fun _ _ => rfl⟩
  · refine ac_iconst (q := 9) dX6_refusalOfPaint_8 rfl ?_
    refine ac_ireturn dX6_refusalOfPaint_9 rfl (Nat.zero_le _) (Nat.zero_le _) ?_
    rw [if_pos (by omega)]; exact ⟨rfl, rfl, rS, ⟨_, rC⟩, fun _ _ => rfl⟩
