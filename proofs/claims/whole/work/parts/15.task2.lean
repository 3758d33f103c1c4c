set_option maxHeartbeats 4000000 in
theorem k_X3_recolour {G : ac_G} {Y : ac_Y} {mm : ac_M} {d t n k : Nat} {E : List ac_Eq} {pin : Nat → Int} {col : Option (List Nat)} (hd : 1 ≤ d) (hT : ac_isT Y t) (hR : ac_RT mm t n k E pin col) {r : Nat} {col' : Option (List Nat)} (hkr : Y.2.1 r = (1, 3)) (hrt : r < t ∨ t + 3 < r) (hs : ∀ l, col' = some l → l.length = n ∧ (∀ c ∈ l, c < k) ∧ ∀ c, c < 3 → mm r c = (ac_set l c : Int)) : ac_C G yX3_recolour cX3_recolour 4 none d 0 0 Y mm [(2, (t : Int)), (2, (r : Int)), (0, (if col'.isSome then 1 else 0))] (ac_R Y [] (fun m => ac_RT m t n k E pin col' ∧ ac_fr mm m t)) := by
  have hT9 := hT
  have hR9 := hR
  obtain ⟨hk0, hk1, hk2, hk3, hr0, hr1, hr2⟩ := hT
  obtain ⟨⟨⟨hn1, hn2⟩, ⟨hkk1, hkk2⟩, ⟨hE1, hE2⟩, hp0, hpr, hc0⟩, r3, r4, r5, r6, rE, rp, rcb, rc⟩ := hR
  refine ac_met (on := (RX3, "recolour")) rfl rfl (Nat.le_of_ble_eq_true rfl) (ls := [(2, (t : Int)), (2, (r : Int)), (0, (if col'.isSome then 1 else 0)), (3, 0)]) rfl ?_
  cases col' with
  | none =>
    rw [show ((if (none : Option (List Nat)).isSome then 1 else 0 : Int)) = 0 from rfl]
    refine ac_aload_n (q := 1) dX3_recolour_0 rfl rfl ?_
    refine ac_iload_n (q := 2) dX3_recolour_1 rfl rfl ?_
    refine ac_putZ (q := 5) dX3_recolour_2 fl_X3_31 (by assumption) rfl (by first | exact ac_b01 | omega) rfl ?_
    refine ac_iconst (q := 6) dX3_recolour_5 rfl ?_
    refine ac_istore_n (q := 7) (j := 3) rfl dX3_recolour_6 rfl (Nat.le_of_ble_eq_true rfl) rfl rfl ?_
    simp only [List.set_cons_succ, List.set_cons_zero]
    refine ac_iload_n (q := 8) dX3_recolour_7 rfl rfl ?_
    refine ac_iconst (q := 9) dX3_recolour_8 rfl ?_
    refine ac_icmp_ge (q := 12) (tgt := 41) dX3_recolour_9 rfl rfl ⟨by omega, by omega⟩ ⟨by omega, by omega⟩ (fun h9 => ?_) (fun h9 => ?_)
    · exact absurd h9 (by decide)
    · refine ac_iload_n (q := 13) dX3_recolour_12 rfl rfl ?_
      refine ac_aload_n (q := 14) dX3_recolour_13 rfl rfl ?_
      refine ac_alen (q := 15) dX3_recolour_14 (by assumption) (by decide) rfl ?_
      refine ac_icmp_ge (q := 18) (tgt := 41) dX3_recolour_15 rfl rfl ⟨by omega, by omega⟩ ⟨by omega, by omega⟩ (fun h15 => ?_) (fun h15 => ?_)
      · exfalso; omega
      · refine ac_aload_n (q := 19) dX3_recolour_18 rfl rfl ?_
        refine ac_get (q := 22) dX3_recolour_19 fl_X3_18 (by assumption) rfl (ac_rdr rfl (by assumption)) ?_
        refine ac_iload_n (q := 23) dX3_recolour_22 rfl rfl ?_
        refine ac_iload_n (q := 24) dX3_recolour_23 rfl rfl ?_
        refine ac_if_eq (q := 27) (tgt := 33) dX3_recolour_24 rfl rfl ⟨by omega, by omega⟩ (fun h24 => ?_) (fun h24 => ?_)
        · refine ac_iconst (q := 34) dX3_recolour_33 rfl ?_
          refine ac_iastoreN (q := 35) (j := 0) dX3_recolour_34 (by assumption) (by decide) (by decide) rfl ?_
          refine ac_iinc (q := 38) (v := 1) dX3_recolour_35 rfl (Nat.le_of_ble_eq_true rfl) rfl rfl rfl rfl ?_
          simp only [List.set_cons_succ, List.set_cons_zero]
          refine ac_goto (q := 7) dX3_recolour_38 rfl ?_
          refine ac_iload_n (q := 8) dX3_recolour_7 rfl rfl ?_
          refine ac_iconst (q := 9) dX3_recolour_8 rfl ?_
          refine ac_icmp_ge (q := 12) (tgt := 41) dX3_recolour_9 rfl rfl ⟨by omega, by omega⟩ ⟨by omega, by omega⟩ (fun h9 => ?_) (fun h9 => ?_)
          · exact absurd h9 (by decide)
          · refine ac_iload_n (q := 13) dX3_recolour_12 rfl rfl ?_
            refine ac_aload_n (q := 14) dX3_recolour_13 rfl rfl ?_
            refine ac_alen (q := 15) dX3_recolour_14 (by assumption) (by decide) rfl ?_
            refine ac_icmp_ge (q := 18) (tgt := 41) dX3_recolour_15 rfl rfl ⟨by omega, by omega⟩ ⟨by omega, by omega⟩ (fun h15 => ?_) (fun h15 => ?_)
            · exfalso; omega
            · refine ac_aload_n (q := 19) dX3_recolour_18 rfl rfl ?_
              refine ac_get (q := 22) dX3_recolour_19 fl_X3_18 (by assumption) rfl (ac_rdr rfl (by assumption)) ?_
              refine ac_iload_n (q := 23) dX3_recolour_22 rfl rfl ?_
              refine ac_iload_n (q := 24) dX3_recolour_23 rfl rfl ?_
              refine ac_if_eq (q := 27) (tgt := 33) dX3_recolour_24 rfl rfl ⟨by omega, by omega⟩ (fun h24 => ?_) (fun h24 => ?_)
              · refine ac_iconst (q := 34) dX3_recolour_33 rfl ?_
                refine ac_iastoreN (q := 35) (j := 1) dX3_recolour_34 (by assumption) (by decide) (by decide) rfl ?_
                refine ac_iinc (q := 38) (v := 2) dX3_recolour_35 rfl (Nat.le_of_ble_eq_true rfl) rfl rfl rfl rfl ?_
                simp only [List.set_cons_succ, List.set_cons_zero]
                refine ac_goto (q := 7) dX3_recolour_38 rfl ?_
                refine ac_iload_n (q := 8) dX3_recolour_7 rfl rfl ?_
                refine ac_iconst (q := 9) dX3_recolour_8 rfl ?_
                refine ac_icmp_ge (q := 12) (tgt := 41) dX3_recolour_9 rfl rfl ⟨by omega, by omega⟩ ⟨by omega, by omega⟩ (fun h9 => ?_) (fun h9 => ?_)
                · exact absurd h9 (by decide)
                · refine ac_iload_n (q := 13) dX3_recolour_12 rfl rfl ?_
                  refine ac_aload_n (q := 14) dX3_recolour_13 rfl rfl ?_
                  refine ac_alen (q := 15) dX3_recolour_14 (by assumption) (by decide) rfl ?_
                  refine ac_icmp_ge (q := 18) (tgt := 41) dX3_recolour_15 rfl rfl ⟨by omega, by omega⟩ ⟨by omega, by omega⟩ (fun h15 => ?_) (fun h15 => ?_)
                  · exfalso; omega
                  · refine ac_aload_n (q := 19) dX3_recolour_18 rfl rfl ?_
                    refine ac_get (q := 22) dX3_recolour_19 fl_X3_18 (by assumption) rfl (ac_rdr rfl (by assumption)) ?_
                    refine ac_iload_n (q := 23) dX3_recolour_22 rfl rfl ?_
                    refine ac_iload_n (q := 24) dX3_recolour_23 rfl rfl ?_
                    refine ac_if_eq (q := 27) (tgt := 33) dX3_recolour_24 rfl rfl ⟨by omega, by omega⟩ (fun h24 => ?_) (fun h24 => ?_)
                    · refine ac_iconst (q := 34) dX3_recolour_33 rfl ?_
                      refine ac_iastoreN (q := 35) (j := 2) dX3_recolour_34 (by assumption) (by decide) (by decide) rfl ?_
                      refine ac_iinc (q := 38) (v := 3) dX3_recolour_35 rfl (Nat.le_of_ble_eq_true rfl) rfl rfl rfl rfl ?_
                      simp only [List.set_cons_succ, List.set_cons_zero]
                      refine ac_goto (q := 7) dX3_recolour_38 rfl ?_
                      refine ac_iload_n (q := 8) dX3_recolour_7 rfl rfl ?_
                      refine ac_iconst (q := 9) dX3_recolour_8 rfl ?_
                      refine ac_icmp_ge (q := 12) (tgt := 41) dX3_recolour_9 rfl rfl ⟨by omega, by omega⟩ ⟨by omega, by omega⟩ (fun h9 => ?_) (fun h9 => ?_)
                      · refine ac_return dX3_recolour_41 rfl (Nat.zero_le _) (Nat.zero_le _) ?_
                        refine ⟨rfl, rfl, ac_RT_colour hR9 ?_ ?_ ?_ ?_ ?_ ?_ ?_, ?_⟩
                        · intro l hl; cases hl
                        · intro j hj; simp [ac_up, hj]
                        · simp [ac_up]
                        · funext j; simp [ac_up]
                        · funext j; simp [ac_up]
                        · intro c hc
                          rcases (show c = 0 ∨ c = 1 ∨ c = 2 by omega) with rfl | rfl | rfl <;> simp [ac_up] <;> omega
                        · intro l hl; cases hl
                        · intro k' hk'; funext j; simp only [ac_up]; repeat rw [if_neg (by omega)]
                      · exact absurd h9 (by decide)
                    · exact absurd h24 (by decide)
              · exact absurd h24 (by decide)
        · exact absurd h24 (by decide)
  | some l =>
    obtain ⟨hs0, hs1, hs2⟩ := hs l rfl
    have z0 := ac_set_lt (l := l) 0 (by omega)
    have z1 := ac_set_lt (l := l) 1 (by omega)
    have z2 := ac_set_lt (l := l) 2 (by omega)
    rw [show ((if (some l).isSome then 1 else 0 : Int)) = 1 from rfl]
    refine ac_aload_n (q := 1) dX3_recolour_0 rfl rfl ?_
    refine ac_iload_n (q := 2) dX3_recolour_1 rfl rfl ?_
    refine ac_putZ (q := 5) dX3_recolour_2 fl_X3_31 (by assumption) rfl (by first | exact ac_b01 | omega) rfl ?_
    refine ac_iconst (q := 6) dX3_recolour_5 rfl ?_
    refine ac_istore_n (q := 7) (j := 3) rfl dX3_recolour_6 rfl (Nat.le_of_ble_eq_true rfl) rfl rfl ?_
    simp only [List.set_cons_succ, List.set_cons_zero]
    refine ac_iload_n (q := 8) dX3_recolour_7 rfl rfl ?_
    refine ac_iconst (q := 9) dX3_recolour_8 rfl ?_
    refine ac_icmp_ge (q := 12) (tgt := 41) dX3_recolour_9 rfl rfl ⟨by omega, by omega⟩ ⟨by omega, by omega⟩ (fun h9 => ?_) (fun h9 => ?_)
    · exact absurd h9 (by decide)
    · refine ac_iload_n (q := 13) dX3_recolour_12 rfl rfl ?_
      refine ac_aload_n (q := 14) dX3_recolour_13 rfl rfl ?_
      refine ac_alen (q := 15) dX3_recolour_14 (by assumption) (by decide) rfl ?_
      refine ac_icmp_ge (q := 18) (tgt := 41) dX3_recolour_15 rfl rfl ⟨by omega, by omega⟩ ⟨by omega, by omega⟩ (fun h15 => ?_) (fun h15 => ?_)
      · exfalso; omega
      · refine ac_aload_n (q := 19) dX3_recolour_18 rfl rfl ?_
        refine ac_get (q := 22) dX3_recolour_19 fl_X3_18 (by assumption) rfl (ac_rdr rfl (by assumption)) ?_
        refine ac_iload_n (q := 23) dX3_recolour_22 rfl rfl ?_
        refine ac_iload_n (q := 24) dX3_recolour_23 rfl rfl ?_
        refine ac_if_eq (q := 27) (tgt := 33) dX3_recolour_24 rfl rfl ⟨by omega, by omega⟩ (fun h24 => ?_) (fun h24 => ?_)
        · exact absurd h24 (by decide)
        · refine ac_aload_n (q := 28) dX3_recolour_27 rfl rfl ?_
          refine ac_iload_n (q := 29) dX3_recolour_28 rfl rfl ?_
          refine ac_ialoadN (q := 30) (j := 0) (v := (ac_set l 0 : Int)) dX3_recolour_29 hkr (by decide) (by decide) rfl (by (repeat rw [ac_up_k (by omega)]); exact hs2 _ (by decide)) ?_
          refine ac_goto (q := 34) dX3_recolour_30 rfl ?_
          refine ac_iastoreN (q := 35) (j := 0) dX3_recolour_34 (by assumption) (by decide) (by decide) rfl ?_
          refine ac_iinc (q := 38) (v := 1) dX3_recolour_35 rfl (Nat.le_of_ble_eq_true rfl) rfl rfl rfl rfl ?_
          simp only [List.set_cons_succ, List.set_cons_zero]
          refine ac_goto (q := 7) dX3_recolour_38 rfl ?_
          refine ac_iload_n (q := 8) dX3_recolour_7 rfl rfl ?_
          refine ac_iconst (q := 9) dX3_recolour_8 rfl ?_
          refine ac_icmp_ge (q := 12) (tgt := 41) dX3_recolour_9 rfl rfl ⟨by omega, by omega⟩ ⟨by omega, by omega⟩ (fun h9 => ?_) (fun h9 => ?_)
          · exact absurd h9 (by decide)
          · refine ac_iload_n (q := 13) dX3_recolour_12 rfl rfl ?_
            refine ac_aload_n (q := 14) dX3_recolour_13 rfl rfl ?_
            refine ac_alen (q := 15) dX3_recolour_14 (by assumption) (by decide) rfl ?_
            refine ac_icmp_ge (q := 18) (tgt := 41) dX3_recolour_15 rfl rfl ⟨by omega, by omega⟩ ⟨by omega, by omega⟩ (fun h15 => ?_) (fun h15 => ?_)
            · exfalso; omega
            · refine ac_aload_n (q := 19) dX3_recolour_18 rfl rfl ?_
              refine ac_get (q := 22) dX3_recolour_19 fl_X3_18 (by assumption) rfl (ac_rdr rfl (by assumption)) ?_
              refine ac_iload_n (q := 23) dX3_recolour_22 rfl rfl ?_
              refine ac_iload_n (q := 24) dX3_recolour_23 rfl rfl ?_
              refine ac_if_eq (q := 27) (tgt := 33) dX3_recolour_24 rfl rfl ⟨by omega, by omega⟩ (fun h24 => ?_) (fun h24 => ?_)
              · exact absurd h24 (by decide)
              · refine ac_aload_n (q := 28) dX3_recolour_27 rfl rfl ?_
                refine ac_iload_n (q := 29) dX3_recolour_28 rfl rfl ?_
                refine ac_ialoadN (q := 30) (j := 1) (v := (ac_set l 1 : Int)) dX3_recolour_29 hkr (by decide) (by decide) rfl (by (repeat rw [ac_up_k (by omega)]); exact hs2 _ (by decide)) ?_
                refine ac_goto (q := 34) dX3_recolour_30 rfl ?_
                refine ac_iastoreN (q := 35) (j := 1) dX3_recolour_34 (by assumption) (by decide) (by decide) rfl ?_
                refine ac_iinc (q := 38) (v := 2) dX3_recolour_35 rfl (Nat.le_of_ble_eq_true rfl) rfl rfl rfl rfl ?_
                simp only [List.set_cons_succ, List.set_cons_zero]
                refine ac_goto (q := 7) dX3_recolour_38 rfl ?_
                refine ac_iload_n (q := 8) dX3_recolour_7 rfl rfl ?_
                refine ac_iconst (q := 9) dX3_recolour_8 rfl ?_
                refine ac_icmp_ge (q := 12) (tgt := 41) dX3_recolour_9 rfl rfl ⟨by omega, by omega⟩ ⟨by omega, by omega⟩ (fun h9 => ?_) (fun h9 => ?_)
                · exact absurd h9 (by decide)
                · refine ac_iload_n (q := 13) dX3_recolour_12 rfl rfl ?_
                  refine ac_aload_n (q := 14) dX3_recolour_13 rfl rfl ?_
                  refine ac_alen (q := 15) dX3_recolour_14 (by assumption) (by decide) rfl ?_
                  refine ac_icmp_ge (q := 18) (tgt := 41) dX3_recolour_15 rfl rfl ⟨by omega, by omega⟩ ⟨by omega, by omega⟩ (fun h15 => ?_) (fun h15 => ?_)
                  · exfalso; omega
                  · refine ac_aload_n (q := 19) dX3_recolour_18 rfl rfl ?_
                    refine ac_get (q := 22) dX3_recolour_19 fl_X3_18 (by assumption) rfl (ac_rdr rfl (by assumption)) ?_
                    refine ac_iload_n (q := 23) dX3_recolour_22 rfl rfl ?_
                    refine ac_iload_n (q := 24) dX3_recolour_23 rfl rfl ?_
                    refine ac_if_eq (q := 27) (tgt := 33) dX3_recolour_24 rfl rfl ⟨by omega, by omega⟩ (fun h24 => ?_) (fun h24 => ?_)
                    · exact absurd h24 (by decide)
                    · refine ac_aload_n (q := 28) dX3_recolour_27 rfl rfl ?_
                      refine ac_iload_n (q := 29) dX3_recolour_28 rfl rfl ?_
                      refine ac_ialoadN (q := 30) (j := 2) (v := (ac_set l 2 : Int)) dX3_recolour_29 hkr (by decide) (by decide) rfl (by (repeat rw [ac_up_k (by omega)]); exact hs2 _ (by decide)) ?_
                      refine ac_goto (q := 34) dX3_recolour_30 rfl ?_
                      refine ac_iastoreN (q := 35) (j := 2) dX3_recolour_34 (by assumption) (by decide) (by decide) rfl ?_
                      refine ac_iinc (q := 38) (v := 3) dX3_recolour_35 rfl (Nat.le_of_ble_eq_true rfl) rfl rfl rfl rfl ?_
                      simp only [List.set_cons_succ, List.set_cons_zero]
                      refine ac_goto (q := 7) dX3_recolour_38 rfl ?_
                      refine ac_iload_n (q := 8) dX3_recolour_7 rfl rfl ?_
                      refine ac_iconst (q := 9) dX3_recolour_8 rfl ?_
                      refine ac_icmp_ge (q := 12) (tgt := 41) dX3_recolour_9 rfl rfl ⟨by omega, by omega⟩ ⟨by omega, by omega⟩ (fun h9 => ?_) (fun h9 => ?_)
                      · refine ac_return dX3_recolour_41 rfl (Nat.zero_le _) (Nat.zero_le _) ?_
                        refine ⟨rfl, rfl, ac_RT_colour hR9 ?_ ?_ ?_ ?_ ?_ ?_ ?_, ?_⟩
                        · intro l2 hl2; cases hl2; exact ⟨hs0, hs1⟩
                        · intro j hj; simp [ac_up, hj]
                        · simp [ac_up]
                        · funext j; simp [ac_up]
                        · funext j; simp [ac_up]
                        · intro c hc
                          rcases (show c = 0 ∨ c = 1 ∨ c = 2 by omega) with rfl | rfl | rfl <;> simp [ac_up] <;> omega
                        · intro l2 hl2 c hc; cases hl2
                          rcases (show c = 0 ∨ c = 1 ∨ c = 2 by omega) with rfl | rfl | rfl <;> simp [ac_up]
                        · intro k' hk'; funext j; simp only [ac_up]; repeat rw [if_neg (by omega)]
                      · exact absurd h9 (by decide)

set_option maxHeartbeats 4000000 in
theorem k_X3_hasClasses {G : ac_G} {Y : ac_Y} {mm : ac_M} {d t n k : Nat} {E : List ac_Eq} {pin : Nat → Int} {col : Option (List Nat)} (hd : 1 ≤ d) (hT : ac_isT Y t) (hR : ac_RT mm t n k E pin col) {r : Nat} (hkr : Y.2.1 r = (1, 3)) (hr : ∀ c, c < 3 → 0 ≤ mm r c ∧ mm r c < 2048) : ac_C G yX3_hasClasses cX3_hasClasses 3 (some .boolean) d 0 0 Y mm [(2, (t : Int)), (2, (r : Int))] (ac_R Y [(0, ac_b (mm (t + 3) 0 = mm r 0 ∧ mm (t + 3) 1 = mm r 1 ∧ mm (t + 3) 2 = mm r 2))] (fun m => m = mm)) := by
  have hT9 := hT
  have hR9 := hR
  obtain ⟨hk0, hk1, hk2, hk3, hr0, hr1, hr2⟩ := hT
  obtain ⟨⟨⟨hn1, hn2⟩, ⟨hkk1, hkk2⟩, ⟨hE1, hE2⟩, hp0, hpr, hc0⟩, r3, r4, r5, r6, rE, rp, rcb, rc⟩ := hR
  obtain ⟨a0, a1⟩ := rcb 0 (by decide)
  obtain ⟨a2, a3⟩ := rcb 1 (by decide)
  obtain ⟨a4, a5⟩ := rcb 2 (by decide)
  obtain ⟨b0, b1⟩ := hr 0 (by decide)
  obtain ⟨b2, b3⟩ := hr 1 (by decide)
  obtain ⟨b4, b5⟩ := hr 2 (by decide)
  refine ac_met (on := (RX3, "hasClasses")) rfl rfl (Nat.le_of_ble_eq_true rfl) (ls := [(2, (t : Int)), (2, (r : Int)), (3, 0)]) rfl ?_
  refine ac_iconst (q := 1) dX3_hasClasses_0 rfl ?_
  refine ac_istore_n (q := 2) (j := 2) rfl dX3_hasClasses_1 rfl (Nat.le_of_ble_eq_true rfl) rfl rfl ?_
  simp only [List.set_cons_succ, List.set_cons_zero]
  refine ac_iload_n (q := 3) dX3_hasClasses_2 rfl rfl ?_
  refine ac_iconst (q := 4) dX3_hasClasses_3 rfl ?_
  refine ac_icmp_ge (q := 7) (tgt := 33) dX3_hasClasses_4 rfl rfl ⟨by omega, by omega⟩ ⟨by omega, by omega⟩ (fun h4 => ?_) (fun h4 => ?_)
  · exact absurd h4 (by decide)
  · refine ac_iload_n (q := 8) dX3_hasClasses_7 rfl rfl ?_
    refine ac_aload_n (q := 9) dX3_hasClasses_8 rfl rfl ?_
    refine ac_alen (q := 10) dX3_hasClasses_9 (by assumption) (by decide) rfl ?_
    refine ac_icmp_ge (q := 13) (tgt := 33) dX3_hasClasses_10 rfl rfl ⟨by omega, by omega⟩ ⟨by omega, by omega⟩ (fun h10 => ?_) (fun h10 => ?_)
    · exfalso; omega
    · refine ac_aload_n (q := 14) dX3_hasClasses_13 rfl rfl ?_
      refine ac_get (q := 17) dX3_hasClasses_14 fl_X3_18 (by assumption) rfl (ac_rdr rfl (by assumption)) ?_
      refine ac_iload_n (q := 18) dX3_hasClasses_17 rfl rfl ?_
      refine ac_ialoadN (q := 19) (j := 0) dX3_hasClasses_18 (by assumption) (by decide) (by decide) rfl rfl ?_
      refine ac_aload_n (q := 20) dX3_hasClasses_19 rfl rfl ?_
      refine ac_iload_n (q := 21) dX3_hasClasses_20 rfl rfl ?_
      refine ac_ialoadN (q := 22) (j := 0) dX3_hasClasses_21 (by assumption) (by decide) (by decide) rfl rfl ?_
      refine ac_icmp_eq (q := 25) (tgt := 27) dX3_hasClasses_22 rfl rfl ⟨by omega, by omega⟩ ⟨by omega, by omega⟩ (fun h22 => ?_) (fun h22 => ?_)
      · refine ac_iinc (q := 30) (v := 1) dX3_hasClasses_27 rfl (Nat.le_of_ble_eq_true rfl) rfl rfl rfl rfl ?_
        simp only [List.set_cons_succ, List.set_cons_zero]
        refine ac_goto (q := 2) dX3_hasClasses_30 rfl ?_
        refine ac_iload_n (q := 3) dX3_hasClasses_2 rfl rfl ?_
        refine ac_iconst (q := 4) dX3_hasClasses_3 rfl ?_
        refine ac_icmp_ge (q := 7) (tgt := 33) dX3_hasClasses_4 rfl rfl ⟨by omega, by omega⟩ ⟨by omega, by omega⟩ (fun h4 => ?_) (fun h4 => ?_)
        · exact absurd h4 (by decide)
        · refine ac_iload_n (q := 8) dX3_hasClasses_7 rfl rfl ?_
          refine ac_aload_n (q := 9) dX3_hasClasses_8 rfl rfl ?_
          refine ac_alen (q := 10) dX3_hasClasses_9 (by assumption) (by decide) rfl ?_
          refine ac_icmp_ge (q := 13) (tgt := 33) dX3_hasClasses_10 rfl rfl ⟨by omega, by omega⟩ ⟨by omega, by omega⟩ (fun h10 => ?_) (fun h10 => ?_)
          · exfalso; omega
          · refine ac_aload_n (q := 14) dX3_hasClasses_13 rfl rfl ?_
            refine ac_get (q := 17) dX3_hasClasses_14 fl_X3_18 (by assumption) rfl (ac_rdr rfl (by assumption)) ?_
            refine ac_iload_n (q := 18) dX3_hasClasses_17 rfl rfl ?_
            refine ac_ialoadN (q := 19) (j := 1) dX3_hasClasses_18 (by assumption) (by decide) (by decide) rfl rfl ?_
            refine ac_aload_n (q := 20) dX3_hasClasses_19 rfl rfl ?_
            refine ac_iload_n (q := 21) dX3_hasClasses_20 rfl rfl ?_
            refine ac_ialoadN (q := 22) (j := 1) dX3_hasClasses_21 (by assumption) (by decide) (by decide) rfl rfl ?_
            refine ac_icmp_eq (q := 25) (tgt := 27) dX3_hasClasses_22 rfl rfl ⟨by omega, by omega⟩ ⟨by omega, by omega⟩ (fun h22 => ?_) (fun h22 => ?_)
            · refine ac_iinc (q := 30) (v := 2) dX3_hasClasses_27 rfl (Nat.le_of_ble_eq_true rfl) rfl rfl rfl rfl ?_
              simp only [List.set_cons_succ, List.set_cons_zero]
              refine ac_goto (q := 2) dX3_hasClasses_30 rfl ?_
              refine ac_iload_n (q := 3) dX3_hasClasses_2 rfl rfl ?_
              refine ac_iconst (q := 4) dX3_hasClasses_3 rfl ?_
              refine ac_icmp_ge (q := 7) (tgt := 33) dX3_hasClasses_4 rfl rfl ⟨by omega, by omega⟩ ⟨by omega, by omega⟩ (fun h4 => ?_) (fun h4 => ?_)
              · exact absurd h4 (by decide)
              · refine ac_iload_n (q := 8) dX3_hasClasses_7 rfl rfl ?_
                refine ac_aload_n (q := 9) dX3_hasClasses_8 rfl rfl ?_
                refine ac_alen (q := 10) dX3_hasClasses_9 (by assumption) (by decide) rfl ?_
                refine ac_icmp_ge (q := 13) (tgt := 33) dX3_hasClasses_10 rfl rfl ⟨by omega, by omega⟩ ⟨by omega, by omega⟩ (fun h10 => ?_) (fun h10 => ?_)
                · exfalso; omega
                · refine ac_aload_n (q := 14) dX3_hasClasses_13 rfl rfl ?_
                  refine ac_get (q := 17) dX3_hasClasses_14 fl_X3_18 (by assumption) rfl (ac_rdr rfl (by assumption)) ?_
                  refine ac_iload_n (q := 18) dX3_hasClasses_17 rfl rfl ?_
                  refine ac_ialoadN (q := 19) (j := 2) dX3_hasClasses_18 (by assumption) (by decide) (by decide) rfl rfl ?_
                  refine ac_aload_n (q := 20) dX3_hasClasses_19 rfl rfl ?_
                  refine ac_iload_n (q := 21) dX3_hasClasses_20 rfl rfl ?_
                  refine ac_ialoadN (q := 22) (j := 2) dX3_hasClasses_21 (by assumption) (by decide) (by decide) rfl rfl ?_
                  refine ac_icmp_eq (q := 25) (tgt := 27) dX3_hasClasses_22 rfl rfl ⟨by omega, by omega⟩ ⟨by omega, by omega⟩ (fun h22 => ?_) (fun h22 => ?_)
                  · refine ac_iinc (q := 30) (v := 3) dX3_hasClasses_27 rfl (Nat.le_of_ble_eq_true rfl) rfl rfl rfl rfl ?_
                    simp only [List.set_cons_succ, List.set_cons_zero]
                    refine ac_goto (q := 2) dX3_hasClasses_30 rfl ?_
                    refine ac_iload_n (q := 3) dX3_hasClasses_2 rfl rfl ?_
                    refine ac_iconst (q := 4) dX3_hasClasses_3 rfl ?_
                    refine ac_icmp_ge (q := 7) (tgt := 33) dX3_hasClasses_4 rfl rfl ⟨by omega, by omega⟩ ⟨by omega, by omega⟩ (fun h4 => ?_) (fun h4 => ?_)
                    · refine ac_iconst (q := 34) dX3_hasClasses_33 rfl ?_
                      refine ac_zreturn dX3_hasClasses_34 rfl (by first | exact ac_b01 | omega) (Nat.zero_le _) (Nat.zero_le _) ?_
                      first | exact ⟨ac_l1 (by omega), rfl, rfl⟩ | exact ⟨ac_l0 (by omega), rfl, rfl⟩
                    · exact absurd h4 (by decide)
                  · refine ac_iconst (q := 26) dX3_hasClasses_25 rfl ?_
                    refine ac_zreturn dX3_hasClasses_26 rfl (by first | exact ac_b01 | omega) (Nat.zero_le _) (Nat.zero_le _) ?_
                    first | exact ⟨ac_l1 (by omega), rfl, rfl⟩ | exact ⟨ac_l0 (by omega), rfl, rfl⟩
            · refine ac_iconst (q := 26) dX3_hasClasses_25 rfl ?_
              refine ac_zreturn dX3_hasClasses_26 rfl (by first | exact ac_b01 | omega) (Nat.zero_le _) (Nat.zero_le _) ?_
              first | exact ⟨ac_l1 (by omega), rfl, rfl⟩ | exact ⟨ac_l0 (by omega), rfl, rfl⟩
      · refine ac_iconst (q := 26) dX3_hasClasses_25 rfl ?_
        refine ac_zreturn dX3_hasClasses_26 rfl (by first | exact ac_b01 | omega) (Nat.zero_le _) (Nat.zero_le _) ?_
        first | exact ⟨ac_l1 (by omega), rfl, rfl⟩ | exact ⟨ac_l0 (by omega), rfl, rfl⟩

set_option maxHeartbeats 4000000 in
theorem k_X3_alike {G : ac_G} {Y : ac_Y} {mm : ac_M} {d t n k : Nat} {E : List ac_Eq} {pin : Nat → Int} {col : Option (List Nat)} (hd : 2 ≤ d) (hT : ac_isT Y t) (hR : ac_RT mm t n k E pin col) {r : Nat} {l l' : List Nat} (hkr : Y.2.1 r = (1, 3)) (hl : col = some l) (hr : ∀ c, c < 3 → mm r c = (ac_set l' c : Int)) : ac_C G yX3_alike cX3_alike 4 (some .int) d 0 0 Y mm [(2, (t : Int)), (2, (r : Int))] (ac_R Y [(0, ((ac_bits (ac_set l 0 &&& ac_set l' 0) + ac_bits (ac_set l 1 &&& ac_set l' 1) + ac_bits (ac_set l 2 &&& ac_set l' 2) : Nat) : Int))] (fun m => m = mm)) := by
  have hT9 := hT
  have hR9 := hR
  obtain ⟨hk0, hk1, hk2, hk3, hr0, hr1, hr2⟩ := hT
  obtain ⟨⟨⟨hn1, hn2⟩, ⟨hkk1, hkk2⟩, ⟨hE1, hE2⟩, hp0, hpr, hc0⟩, r3, r4, r5, r6, rE, rp, rcb, rc⟩ := hR
  obtain ⟨hl1, hl2⟩ := hc0 l hl
  have hlt : ∀ c, ac_set l c &&& ac_set l' c < 2048 := fun c => Nat.lt_of_le_of_lt Nat.and_le_left (ac_set_lt c (by omega))
  refine ac_met (on := (RX3, "alike")) rfl rfl (Nat.le_of_ble_eq_true rfl) (ls := [(2, (t : Int)), (2, (r : Int)), (3, 0), (3, 0)]) rfl ?_
  refine ac_iconst (q := 1) dX3_alike_0 rfl ?_
  refine ac_istore_n (q := 2) (j := 2) rfl dX3_alike_1 rfl (Nat.le_of_ble_eq_true rfl) rfl rfl ?_
  simp only [List.set_cons_succ, List.set_cons_zero]
  refine ac_iconst (q := 3) dX3_alike_2 rfl ?_
  refine ac_istore_n (q := 4) (j := 3) rfl dX3_alike_3 rfl (Nat.le_of_ble_eq_true rfl) rfl rfl ?_
  simp only [List.set_cons_succ, List.set_cons_zero]
  refine ac_iload_n (q := 5) dX3_alike_4 rfl rfl ?_
  refine ac_iconst (q := 6) dX3_alike_5 rfl ?_
  refine ac_icmp_ge (q := 9) (tgt := 37) dX3_alike_6 rfl rfl ⟨by omega, by omega⟩ ⟨by omega, by omega⟩ (fun h6 => ?_) (fun h6 => ?_)
  · exact absurd h6 (by decide)
  · refine ac_iload_n (q := 10) dX3_alike_9 rfl rfl ?_
    refine ac_aload_n (q := 11) dX3_alike_10 rfl rfl ?_
    refine ac_alen (q := 12) dX3_alike_11 (by assumption) (by decide) rfl ?_
    refine ac_icmp_ge (q := 15) (tgt := 37) dX3_alike_12 rfl rfl ⟨by omega, by omega⟩ ⟨by omega, by omega⟩ (fun h12 => ?_) (fun h12 => ?_)
    · exfalso; omega
    · refine ac_iload_n (q := 16) dX3_alike_15 rfl rfl ?_
      refine ac_aload_n (q := 17) dX3_alike_16 rfl rfl ?_
      refine ac_get (q := 20) dX3_alike_17 fl_X3_18 (by assumption) rfl (ac_rdr rfl (by assumption)) ?_
      refine ac_iload_n (q := 21) dX3_alike_20 rfl rfl ?_
      refine ac_ialoadN (q := 22) (j := 0) (v := (ac_set l 0 : Int)) dX3_alike_21 (by assumption) (by decide) (by decide) rfl (rc l hl _ (by decide)) ?_
      refine ac_aload_n (q := 23) dX3_alike_22 rfl rfl ?_
      refine ac_iload_n (q := 24) dX3_alike_23 rfl rfl ?_
      refine ac_ialoadN (q := 25) (j := 0) (v := (ac_set l' 0 : Int)) dX3_alike_24 hkr (by decide) (by decide) rfl (hr _ (by decide)) ?_
      refine ac_iand (q := 26) dX3_alike_25 rfl ?_
      refine ac_csp (q := 29) (k_bits (d := d - 1) (by omega) (hlt _)) ml_X3_79 dX3_alike_26 rfl rfl rfl (by omega) (Nat.le_of_ble_eq_true rfl) (Nat.zero_le _) (Nat.zero_le _) ?_
      refine ac_iadd (q := 30) dX3_alike_29 rfl ?_
      refine ac_istore_n (q := 31) (j := 2) rfl dX3_alike_30 rfl (Nat.le_of_ble_eq_true rfl) rfl rfl ?_
      simp only [List.set_cons_succ, List.set_cons_zero]
      refine ac_iinc (q := 34) (v := 1) dX3_alike_31 rfl (Nat.le_of_ble_eq_true rfl) rfl rfl rfl rfl ?_
      simp only [List.set_cons_succ, List.set_cons_zero]
      refine ac_goto (q := 4) dX3_alike_34 rfl ?_
      refine ac_iload_n (q := 5) dX3_alike_4 rfl rfl ?_
      refine ac_iconst (q := 6) dX3_alike_5 rfl ?_
      refine ac_icmp_ge (q := 9) (tgt := 37) dX3_alike_6 rfl rfl ⟨by omega, by omega⟩ ⟨by omega, by omega⟩ (fun h6 => ?_) (fun h6 => ?_)
      · exact absurd h6 (by decide)
      · refine ac_iload_n (q := 10) dX3_alike_9 rfl rfl ?_
        refine ac_aload_n (q := 11) dX3_alike_10 rfl rfl ?_
        refine ac_alen (q := 12) dX3_alike_11 (by assumption) (by decide) rfl ?_
        refine ac_icmp_ge (q := 15) (tgt := 37) dX3_alike_12 rfl rfl ⟨by omega, by omega⟩ ⟨by omega, by omega⟩ (fun h12 => ?_) (fun h12 => ?_)
        · exfalso; omega
        · refine ac_iload_n (q := 16) dX3_alike_15 rfl rfl ?_
          refine ac_aload_n (q := 17) dX3_alike_16 rfl rfl ?_
          refine ac_get (q := 20) dX3_alike_17 fl_X3_18 (by assumption) rfl (ac_rdr rfl (by assumption)) ?_
          refine ac_iload_n (q := 21) dX3_alike_20 rfl rfl ?_
          refine ac_ialoadN (q := 22) (j := 1) (v := (ac_set l 1 : Int)) dX3_alike_21 (by assumption) (by decide) (by decide) rfl (rc l hl _ (by decide)) ?_
          refine ac_aload_n (q := 23) dX3_alike_22 rfl rfl ?_
          refine ac_iload_n (q := 24) dX3_alike_23 rfl rfl ?_
          refine ac_ialoadN (q := 25) (j := 1) (v := (ac_set l' 1 : Int)) dX3_alike_24 hkr (by decide) (by decide) rfl (hr _ (by decide)) ?_
          refine ac_iand (q := 26) dX3_alike_25 rfl ?_
          refine ac_csp (q := 29) (k_bits (d := d - 1) (by omega) (hlt _)) ml_X3_79 dX3_alike_26 rfl rfl rfl (by omega) (Nat.le_of_ble_eq_true rfl) (Nat.zero_le _) (Nat.zero_le _) ?_
          refine ac_iadd (q := 30) dX3_alike_29 rfl ?_
          refine ac_istore_n (q := 31) (j := 2) rfl dX3_alike_30 rfl (Nat.le_of_ble_eq_true rfl) rfl rfl ?_
          simp only [List.set_cons_succ, List.set_cons_zero]
          refine ac_iinc (q := 34) (v := 2) dX3_alike_31 rfl (Nat.le_of_ble_eq_true rfl) rfl rfl rfl rfl ?_
          simp only [List.set_cons_succ, List.set_cons_zero]
          refine ac_goto (q := 4) dX3_alike_34 rfl ?_
          refine ac_iload_n (q := 5) dX3_alike_4 rfl rfl ?_
          refine ac_iconst (q := 6) dX3_alike_5 rfl ?_
          refine ac_icmp_ge (q := 9) (tgt := 37) dX3_alike_6 rfl rfl ⟨by omega, by omega⟩ ⟨by omega, by omega⟩ (fun h6 => ?_) (fun h6 => ?_)
          · exact absurd h6 (by decide)
          · refine ac_iload_n (q := 10) dX3_alike_9 rfl rfl ?_
            refine ac_aload_n (q := 11) dX3_alike_10 rfl rfl ?_
            refine ac_alen (q := 12) dX3_alike_11 (by assumption) (by decide) rfl ?_
            refine ac_icmp_ge (q := 15) (tgt := 37) dX3_alike_12 rfl rfl ⟨by omega, by omega⟩ ⟨by omega, by omega⟩ (fun h12 => ?_) (fun h12 => ?_)
            · exfalso; omega
            · refine ac_iload_n (q := 16) dX3_alike_15 rfl rfl ?_
              refine ac_aload_n (q := 17) dX3_alike_16 rfl rfl ?_
              refine ac_get (q := 20) dX3_alike_17 fl_X3_18 (by assumption) rfl (ac_rdr rfl (by assumption)) ?_
              refine ac_iload_n (q := 21) dX3_alike_20 rfl rfl ?_
              refine ac_ialoadN (q := 22) (j := 2) (v := (ac_set l 2 : Int)) dX3_alike_21 (by assumption) (by decide) (by decide) rfl (rc l hl _ (by decide)) ?_
              refine ac_aload_n (q := 23) dX3_alike_22 rfl rfl ?_
              refine ac_iload_n (q := 24) dX3_alike_23 rfl rfl ?_
              refine ac_ialoadN (q := 25) (j := 2) (v := (ac_set l' 2 : Int)) dX3_alike_24 hkr (by decide) (by decide) rfl (hr _ (by decide)) ?_
              refine ac_iand (q := 26) dX3_alike_25 rfl ?_
              refine ac_csp (q := 29) (k_bits (d := d - 1) (by omega) (hlt _)) ml_X3_79 dX3_alike_26 rfl rfl rfl (by omega) (Nat.le_of_ble_eq_true rfl) (Nat.zero_le _) (Nat.zero_le _) ?_
              refine ac_iadd (q := 30) dX3_alike_29 rfl ?_
              refine ac_istore_n (q := 31) (j := 2) rfl dX3_alike_30 rfl (Nat.le_of_ble_eq_true rfl) rfl rfl ?_
              simp only [List.set_cons_succ, List.set_cons_zero]
              refine ac_iinc (q := 34) (v := 3) dX3_alike_31 rfl (Nat.le_of_ble_eq_true rfl) rfl rfl rfl rfl ?_
              simp only [List.set_cons_succ, List.set_cons_zero]
              refine ac_goto (q := 4) dX3_alike_34 rfl ?_
              refine ac_iload_n (q := 5) dX3_alike_4 rfl rfl ?_
              refine ac_iconst (q := 6) dX3_alike_5 rfl ?_
              refine ac_icmp_ge (q := 9) (tgt := 37) dX3_alike_6 rfl rfl ⟨by omega, by omega⟩ ⟨by omega, by omega⟩ (fun h6 => ?_) (fun h6 => ?_)
              · refine ac_iload_n (q := 38) dX3_alike_37 rfl rfl ?_
                refine ac_ireturn dX3_alike_38 rfl (Nat.zero_le _) (Nat.zero_le _) ?_
                exact ⟨congrArg (fun z : Int => [((0 : Nat), z)]) (by omega), rfl, rfl⟩
              · exact absurd h6 (by decide)
