theorem ac_ago_out {l : List Nat} {o : ac_Ob} (h : ¬ (o.1 ≤ l.length ∧ o.2.1 ≤ l.length)) : ac_ago l o = true := by
  unfold ac_ago; simp [h]
theorem ac_ago_in {l : List Nat} {o : ac_Ob} (h1 : o.1 ≤ l.length) (h2 : o.2.1 ≤ l.length) : ac_ago l o = true ↔ ((l[o.1 - 1]? = l[o.2.1 - 1]?) ↔ o.2.2 = 1) := by
  unfold ac_ago
  have h : decide (o.1 ≤ l.length ∧ o.2.1 ≤ l.length) = true := decide_eq_true ⟨h1, h2⟩
  rw [h, Bool.not_true, Bool.false_or, beq_iff_eq, Bool.eq_iff_iff, decide_eq_true_eq, decide_eq_true_eq]
theorem ac_ag_drop {obs : List ac_Ob} {i : Nat} {o : ac_Ob} {l : List Nat} (h : obs[i]? = some o) : ac_ag (obs.drop i) l = (ac_ago l o && ac_ag (obs.drop (i + 1)) l) := by
  obtain ⟨hi, rfl⟩ := List.getElem?_eq_some_iff.mp h
  rw [List.drop_eq_getElem_cons hi]; rfl
theorem ac_RS_add {mm mm' : ac_M} {s : Nat} {obs : List ac_Ob} {a b w : Nat} (h : ac_RS mm s obs) (ho : ac_oko (a, b, w)) (hl : obs.length < 6) (h0 : mm' s 2 = (obs.length : Int) + 1) (h1 : ∀ j, mm' (s + 1) j = if j = obs.length then ((2 ^ a ||| 2 ^ b : Nat) : Int) else mm (s + 1) j) (h2 : ∀ j, mm' (s + 2) j = if j = obs.length then (w : Int) else mm (s + 2) j) : ac_RS mm' s (obs ++ [(a, b, w)]) := by
  obtain ⟨⟨g1, g2⟩, g3, g4⟩ := h
  refine ⟨⟨by rw [List.length_append]; simp; omega, fun o hq => ?_⟩, by rw [h0, List.length_append]; simp, fun i o hq => ?_⟩
  · rcases List.mem_append.mp hq with hq | hq
    · exact g2 o hq
    · rw [List.mem_singleton.mp hq]; exact ho
  · rw [h1, h2]
    by_cases hi : i < obs.length
    · rw [List.getElem?_append_left hi] at hq
      rw [if_neg (by omega), if_neg (by omega)]
      exact g4 i o hq
    · have he : i = obs.length := by
        have := (List.getElem?_eq_some_iff.mp hq).1
        rw [List.length_append] at this
        simp at this; omega
      subst he
      rw [List.getElem?_append_right (Nat.le_refl _), Nat.sub_self] at hq
      cases hq
      rw [if_pos rfl, if_pos rfl]
      exact ⟨rfl, rfl⟩
theorem ac_nin {x : Nat} (h : x < 2048) : ac_in (x : Int) := ⟨by omega, by omega⟩

set_option maxHeartbeats 4000000 in
theorem k_X2_note {G : ac_G} {Y : ac_Y} {mm : ac_M} {d s : Nat} {obs : List ac_Ob} (hd : 1 ≤ d) (hS : ac_isS Y s) (hR : ac_RS mm s obs) {a b w : Nat} (ho : ac_oko (a, b, w)) : ac_C G yX2_note cX2_note 3 (some .boolean) d 0 0 Y mm [(2, (s : Int)), (0, ((2 ^ a ||| 2 ^ b : Nat) : Int)), (0, (w : Int))] (ac_R Y [(0, ac_b (obs.length < 6))] (fun m => ac_RS m s (if obs.length < 6 then obs ++ [(a, b, w)] else obs) ∧ ∀ k, (k < s ∨ s + 2 < k) → m k = mm k)) := by
  obtain ⟨ks0, ks1, ks2, rs0, rs1⟩ := hS
  have hR9 := hR
  obtain ⟨⟨ho1, ho2⟩, r2, rp⟩ := hR
  have hw := ho.2.2.2
  simp only at hw
  refine ac_met (on := (RX2, "note")) rfl rfl (Nat.le_of_ble_eq_true rfl) (ls := [(2, (s : Int)), (0, ((2 ^ a ||| 2 ^ b : Nat) : Int)), (0, (w : Int))]) rfl ?_
  refine ac_aload_n (q := 1) dX2_note_0 rfl rfl ?_
  refine ac_get (q := 4) dX2_note_1 fl_X2_17 ks0 rfl (ac_rdi rfl r2) ?_
  refine ac_if_lt (q := 7) (tgt := 16) dX2_note_4 rfl rfl ⟨by omega, by omega⟩ (fun h4 => ?_) (fun h4 => ?_)
  · exfalso; omega
  · refine ac_aload_n (q := 8) dX2_note_7 rfl rfl ?_
    refine ac_get (q := 11) dX2_note_8 fl_X2_17 ks0 rfl (ac_rdi rfl r2) ?_
    refine ac_bipush (q := 13) dX2_note_11 rfl (by decide) ?_
    refine ac_icmp_lt (q := 16) (tgt := 18) dX2_note_13 rfl rfl ⟨by omega, by omega⟩ ⟨by omega, by omega⟩ (fun h13 => ?_) (fun h13 => ?_)
    · refine ac_aload_n (q := 19) dX2_note_18 rfl rfl ?_
      refine ac_get (q := 22) dX2_note_19 fl_X2_9 (by assumption) rfl (ac_rdr rfl (by assumption)) ?_
      refine ac_aload_n (q := 23) dX2_note_22 rfl rfl ?_
      refine ac_get (q := 26) dX2_note_23 fl_X2_17 ks0 rfl (ac_rdi rfl r2) ?_
      refine ac_iload_n (q := 27) dX2_note_26 rfl rfl ?_
      refine ac_iastoreN (q := 28) (j := obs.length) dX2_note_27 ks1 (by decide) (by omega) rfl ?_
      refine ac_aload_n (q := 29) dX2_note_28 rfl rfl ?_
      refine ac_get (q := 32) dX2_note_29 fl_X2_13 (by assumption) rfl (ac_rdr rfl (by assumption)) ?_
      refine ac_aload_n (q := 33) dX2_note_32 rfl rfl ?_
      refine ac_get (q := 36) dX2_note_33 fl_X2_17 ks0 rfl (ac_rdi (v := (obs.length : Int)) rfl (by rw [ac_up_k (by omega)]; exact r2)) ?_
      refine ac_iload_n (q := 37) dX2_note_36 rfl rfl ?_
      refine ac_bastoreN (q := 38) (j := obs.length) dX2_note_37 ks2 (by decide) (by omega) (by omega) rfl ?_
      refine ac_aload_n (q := 39) dX2_note_38 rfl rfl ?_
      refine ac_dup (q := 40) dX2_note_39 rfl (show (2 : Nat) ≠ 1 by decide) ?_
      refine ac_get (q := 43) dX2_note_40 fl_X2_17 ks0 rfl (ac_rdi (v := (obs.length : Int)) rfl (by rw [ac_up_k (by omega), ac_up_k (by omega)]; exact r2)) ?_
      refine ac_iconst (q := 44) dX2_note_43 rfl ?_
      refine ac_iadd (q := 45) dX2_note_44 rfl ?_
      refine ac_put (q := 48) dX2_note_45 fl_X2_17 (by assumption) rfl rfl ?_
      refine ac_iconst (q := 49) dX2_note_48 rfl ?_
      refine ac_zreturn dX2_note_49 rfl (by first | exact ac_b01 | omega) (Nat.zero_le _) (Nat.zero_le _) ?_
      refine ⟨ac_l1 (by omega), rfl, ?_, ?_⟩
      · rw [if_pos (by omega)]
        exact ac_RS_add hR9 ho (by omega) (by simp [ac_up]) (by intro j; simp [ac_up]) (by intro j; simp [ac_up])
      · intro k' hk'; funext j; simp only [ac_up]; repeat rw [if_neg (by omega)]
    · refine ac_iconst (q := 17) dX2_note_16 rfl ?_
      refine ac_zreturn dX2_note_17 rfl (by first | exact ac_b01 | omega) (Nat.zero_le _) (Nat.zero_le _) ?_
      exact ⟨ac_l0 (by omega), rfl, by rw [if_neg (by omega)]; exact ⟨hR9, fun _ _ => rfl⟩⟩

set_option maxHeartbeats 4000000 in
theorem k_X2_agree {G : ac_G} {Y : ac_Y} {mm : ac_M} {d s : Nat} {obs : List ac_Ob} (hd : 1 ≤ d) (hS : ac_isS Y s) (hR : ac_RS mm s obs) {r n : Nat} {l : List Nat} (hkr : Y.2.1 r = (1, 3)) (hr : ∀ c, c < 3 → mm r c = (ac_set l c : Int)) (hln : l.length = n) (hn : n ≤ 10) (hl3 : ∀ c ∈ l, c < 3) : ac_C G yX2_agree cX2_agree 10 (some .boolean) d 0 0 Y mm [(2, (s : Int)), (2, (r : Int)), (0, (n : Int))] (ac_R Y [(0, ac_b (ac_ag obs l = true))] (fun m => m = mm)) := by
  obtain ⟨ks0, ks1, ks2, rs0, rs1⟩ := hS
  have hR9 := hR
  obtain ⟨⟨ho1, ho2⟩, r2, rp⟩ := hR
  refine ac_met (on := (RX2, "agree")) rfl rfl (Nat.le_of_ble_eq_true rfl) (ls := [(2, (s : Int)), (2, (r : Int)), (0, (n : Int)), (3, 0), (3, 0), (3, 0), (3, 0), (3, 0), (3, 0), (3, 0)]) rfl ?_
  have loop : ∀ (f i : Nat), i + f = obs.length → ac_ag obs l = ac_ag (obs.drop i) l → ac_V G (RX2, "agree") cX2_agree 10 (some .boolean) d 0 0 (ac_R Y [(0, ac_b (ac_ag obs l = true))] (fun m => m = mm)) 0 0 Y mm 2 [(2, (s : Int)), (2, (r : Int)), (0, (n : Int)), (0, (i : Int)), (3, 0), (3, 0), (3, 0), (3, 0), (3, 0), (3, 0)] [] := by
    intro f
    induction f with
    | zero =>
      intro i hi hg
      refine ac_iload_n (q := 3) dX2_agree_2 rfl rfl ?_
      refine ac_aload_n (q := 4) dX2_agree_3 rfl rfl ?_
      refine ac_get (q := 7) dX2_agree_4 fl_X2_17 ks0 rfl (ac_rdi rfl r2) ?_
      refine ac_icmp_ge (q := 10) (tgt := 124) dX2_agree_7 rfl rfl ⟨by omega, by omega⟩ ⟨by omega, by omega⟩ (fun h7 => ?_) (fun h7 => ?_)
      · refine ac_iconst (q := 125) dX2_agree_124 rfl ?_
        refine ac_zreturn dX2_agree_125 rfl (by first | exact ac_b01 | omega) (Nat.zero_le _) (Nat.zero_le _) ?_
        exact ⟨ac_l1 (by rw [hg, List.drop_eq_nil_of_le (by omega)]; rfl), rfl, rfl⟩
      · exfalso; omega
    | succ f ih =>
      intro i hi hg
      obtain ⟨o, hoi⟩ : ∃ o, obs[i]? = some o := ⟨_, List.getElem?_eq_getElem (by omega)⟩
      obtain ⟨hp1, hp2⟩ := rp i o hoi
      obtain ⟨⟨oa1, oa2⟩, ⟨ob1, ob2⟩, oab, ow⟩ := ho2 o (List.mem_of_getElem? hoi)
      have hpair := ac_pair_lt oa2 ob2
      have hhi := @ac_pair_hi o.1 o.2.1 n
      have hq := fun c => @ac_pair_set l o.1 o.2.1 c oa1 ob1
      generalize 2 ^ o.1 ||| 2 ^ o.2.1 = p at *
      rw [ac_ag_drop hoi] at hg
      have hsame := fun h1 h2 => @ac_same3 l o.1 o.2.1 hl3 ⟨oa1, h1⟩ ⟨ob1, h2⟩
      have hand : ∀ c, ac_set l c &&& p < 2048 := fun c => Nat.lt_of_le_of_lt Nat.and_le_right hpair
      have hdv : p / 2 ^ (n + 1) < 2048 := Nat.lt_of_le_of_lt (Nat.div_le_self _ _) hpair
      have ei : ((i : Nat) : Int) + 1 = ((i + 1 : Nat) : Int) := rfl
      refine ac_iload_n (q := 3) dX2_agree_2 rfl rfl ?_
      refine ac_aload_n (q := 4) dX2_agree_3 rfl rfl ?_
      refine ac_get (q := 7) dX2_agree_4 fl_X2_17 ks0 rfl (ac_rdi rfl r2) ?_
      refine ac_icmp_ge (q := 10) (tgt := 124) dX2_agree_7 rfl rfl ⟨by omega, by omega⟩ ⟨by omega, by omega⟩ (fun h7 => ?_) (fun h7 => ?_)
      · exfalso; omega
      · refine ac_iload_n (q := 11) dX2_agree_10 rfl rfl ?_
        refine ac_bipush (q := 13) dX2_agree_11 rfl (by decide) ?_
        refine ac_icmp_ge (q := 16) (tgt := 124) dX2_agree_13 rfl rfl ⟨by omega, by omega⟩ ⟨by omega, by omega⟩ (fun h13 => ?_) (fun h13 => ?_)
        · exfalso; omega
        · refine ac_aload_n (q := 17) dX2_agree_16 rfl rfl ?_
          refine ac_get (q := 20) dX2_agree_17 fl_X2_9 (by assumption) rfl (ac_rdr rfl (by assumption)) ?_
          refine ac_iload_n (q := 21) dX2_agree_20 rfl rfl ?_
          refine ac_ialoadN (q := 22) (j := i) (v := ((p : Nat) : Int)) dX2_agree_21 ks1 (by decide) (by omega) rfl hp1 ?_
          refine ac_iload_n (q := 23) dX2_agree_22 rfl rfl ?_
          refine ac_iconst (q := 24) dX2_agree_23 rfl ?_
          refine ac_iadd (q := 25) dX2_agree_24 rfl ?_
          refine ac_top (w' := (0, ((n + 1 : Nat) : Int))) rfl ?_
          refine ac_ishrN (q := 26) (k := n + 1) dX2_agree_25 rfl (by omega) (by omega) ?_
          refine ac_if_eq (q := 29) (tgt := 33) dX2_agree_26 rfl rfl (ac_nin hdv) (fun h26 => ?_) (fun h26 => ?_)
          · have hab : o.1 ≤ l.length ∧ o.2.1 ≤ l.length := by rw [hln]; exact hhi.mp (Int.ofNat.inj h26)
            refine ac_iconst (q := 34) dX2_agree_33 rfl ?_
            refine ac_istore (q := 36) dX2_agree_34 rfl (Nat.le_of_ble_eq_true rfl) rfl rfl ?_
            simp only [List.set_cons_succ, List.set_cons_zero]
            refine ac_iconst (q := 37) dX2_agree_36 rfl ?_
            refine ac_istore (q := 39) dX2_agree_37 rfl (Nat.le_of_ble_eq_true rfl) rfl rfl ?_
            simp only [List.set_cons_succ, List.set_cons_zero]
            refine ac_aload_n (q := 40) dX2_agree_39 rfl rfl ?_
            refine ac_astore (q := 42) dX2_agree_40 rfl (Nat.le_of_ble_eq_true rfl) rfl rfl ?_
            simp only [List.set_cons_succ, List.set_cons_zero]
            refine ac_aload (q := 44) dX2_agree_42 rfl rfl ?_
            refine ac_alen (q := 45) dX2_agree_44 (by assumption) (by decide) rfl ?_
            refine ac_istore (q := 47) dX2_agree_45 rfl (Nat.le_of_ble_eq_true rfl) rfl rfl ?_
            simp only [List.set_cons_succ, List.set_cons_zero]
            refine ac_iconst (q := 48) dX2_agree_47 rfl ?_
            refine ac_istore (q := 50) dX2_agree_48 rfl (Nat.le_of_ble_eq_true rfl) rfl rfl ?_
            simp only [List.set_cons_succ, List.set_cons_zero]
            refine ac_iload (q := 52) dX2_agree_50 rfl rfl ?_
            refine ac_iload (q := 54) dX2_agree_52 rfl rfl ?_
            refine ac_icmp_ge (q := 57) (tgt := 100) dX2_agree_54 rfl rfl ⟨by omega, by omega⟩ ⟨by omega, by omega⟩ (fun h54 => ?_) (fun h54 => ?_)
            · exact absurd h54 (by decide)
            · refine ac_aload (q := 59) dX2_agree_57 rfl rfl ?_
              refine ac_iload (q := 61) dX2_agree_59 rfl rfl ?_
              refine ac_ialoadN (q := 62) (j := 0) (v := ((ac_set l 0 : Nat) : Int)) dX2_agree_61 hkr (by decide) (by decide) rfl (hr _ (by decide)) ?_
              refine ac_istore (q := 64) dX2_agree_62 rfl (Nat.le_of_ble_eq_true rfl) rfl rfl ?_
              simp only [List.set_cons_succ, List.set_cons_zero]
              refine ac_iload (q := 66) dX2_agree_64 rfl rfl ?_
              refine ac_if_ne (q := 69) (tgt := 87) dX2_agree_66 rfl rfl ⟨by omega, by omega⟩ (fun h66 => ?_) (fun h66 => ?_)
              · exact absurd h66 (by decide)
              · refine ac_iload (q := 71) dX2_agree_69 rfl rfl ?_
                refine ac_aload_n (q := 72) dX2_agree_71 rfl rfl ?_
                refine ac_get (q := 75) dX2_agree_72 fl_X2_9 (by assumption) rfl (ac_rdr rfl (by assumption)) ?_
                refine ac_iload_n (q := 76) dX2_agree_75 rfl rfl ?_
                refine ac_ialoadN (q := 77) (j := i) (v := ((p : Nat) : Int)) dX2_agree_76 ks1 (by decide) (by omega) rfl hp1 ?_
                refine ac_iand (q := 78) dX2_agree_77 rfl ?_
                refine ac_aload_n (q := 79) dX2_agree_78 rfl rfl ?_
                refine ac_get (q := 82) dX2_agree_79 fl_X2_9 (by assumption) rfl (ac_rdr rfl (by assumption)) ?_
                refine ac_iload_n (q := 83) dX2_agree_82 rfl rfl ?_
                refine ac_ialoadN (q := 84) (j := i) (v := ((p : Nat) : Int)) dX2_agree_83 ks1 (by decide) (by omega) rfl hp1 ?_
                refine ac_icmp_ne (q := 87) (tgt := 91) dX2_agree_84 rfl rfl (ac_nin (hand _)) (ac_nin hpair) (fun h84 => ?_) (fun h84 => ?_)
                · have g0 := fun z => h84 ((hq 0).mpr z)
                  refine ac_iconst (q := 92) dX2_agree_91 rfl ?_
                  refine ac_istore (q := 94) dX2_agree_92 rfl (Nat.le_of_ble_eq_true rfl) rfl rfl ?_
                  simp only [List.set_cons_succ, List.set_cons_zero]
                  refine ac_iinc (q := 97) (v := 1) dX2_agree_94 rfl (Nat.le_of_ble_eq_true rfl) rfl rfl rfl rfl ?_
                  simp only [List.set_cons_succ, List.set_cons_zero]
                  refine ac_goto (q := 50) dX2_agree_97 rfl ?_
                  refine ac_iload (q := 52) dX2_agree_50 rfl rfl ?_
                  refine ac_iload (q := 54) dX2_agree_52 rfl rfl ?_
                  refine ac_icmp_ge (q := 57) (tgt := 100) dX2_agree_54 rfl rfl ⟨by omega, by omega⟩ ⟨by omega, by omega⟩ (fun h54 => ?_) (fun h54 => ?_)
                  · exact absurd h54 (by decide)
                  · refine ac_aload (q := 59) dX2_agree_57 rfl rfl ?_
                    refine ac_iload (q := 61) dX2_agree_59 rfl rfl ?_
                    refine ac_ialoadN (q := 62) (j := 1) (v := ((ac_set l 1 : Nat) : Int)) dX2_agree_61 hkr (by decide) (by decide) rfl (hr _ (by decide)) ?_
                    refine ac_istore (q := 64) dX2_agree_62 rfl (Nat.le_of_ble_eq_true rfl) rfl rfl ?_
                    simp only [List.set_cons_succ, List.set_cons_zero]
                    refine ac_iload (q := 66) dX2_agree_64 rfl rfl ?_
                    refine ac_if_ne (q := 69) (tgt := 87) dX2_agree_66 rfl rfl ⟨by omega, by omega⟩ (fun h66 => ?_) (fun h66 => ?_)
                    · exact absurd h66 (by decide)
                    · refine ac_iload (q := 71) dX2_agree_69 rfl rfl ?_
                      refine ac_aload_n (q := 72) dX2_agree_71 rfl rfl ?_
                      refine ac_get (q := 75) dX2_agree_72 fl_X2_9 (by assumption) rfl (ac_rdr rfl (by assumption)) ?_
                      refine ac_iload_n (q := 76) dX2_agree_75 rfl rfl ?_
                      refine ac_ialoadN (q := 77) (j := i) (v := ((p : Nat) : Int)) dX2_agree_76 ks1 (by decide) (by omega) rfl hp1 ?_
                      refine ac_iand (q := 78) dX2_agree_77 rfl ?_
                      refine ac_aload_n (q := 79) dX2_agree_78 rfl rfl ?_
                      refine ac_get (q := 82) dX2_agree_79 fl_X2_9 (by assumption) rfl (ac_rdr rfl (by assumption)) ?_
                      refine ac_iload_n (q := 83) dX2_agree_82 rfl rfl ?_
                      refine ac_ialoadN (q := 84) (j := i) (v := ((p : Nat) : Int)) dX2_agree_83 ks1 (by decide) (by omega) rfl hp1 ?_
                      refine ac_icmp_ne (q := 87) (tgt := 91) dX2_agree_84 rfl rfl (ac_nin (hand _)) (ac_nin hpair) (fun h84 => ?_) (fun h84 => ?_)
                      · have g1 := fun z => h84 ((hq 1).mpr z)
                        refine ac_iconst (q := 92) dX2_agree_91 rfl ?_
                        refine ac_istore (q := 94) dX2_agree_92 rfl (Nat.le_of_ble_eq_true rfl) rfl rfl ?_
                        simp only [List.set_cons_succ, List.set_cons_zero]
                        refine ac_iinc (q := 97) (v := 2) dX2_agree_94 rfl (Nat.le_of_ble_eq_true rfl) rfl rfl rfl rfl ?_
                        simp only [List.set_cons_succ, List.set_cons_zero]
                        refine ac_goto (q := 50) dX2_agree_97 rfl ?_
                        refine ac_iload (q := 52) dX2_agree_50 rfl rfl ?_
                        refine ac_iload (q := 54) dX2_agree_52 rfl rfl ?_
                        refine ac_icmp_ge (q := 57) (tgt := 100) dX2_agree_54 rfl rfl ⟨by omega, by omega⟩ ⟨by omega, by omega⟩ (fun h54 => ?_) (fun h54 => ?_)
                        · exact absurd h54 (by decide)
                        · refine ac_aload (q := 59) dX2_agree_57 rfl rfl ?_
                          refine ac_iload (q := 61) dX2_agree_59 rfl rfl ?_
                          refine ac_ialoadN (q := 62) (j := 2) (v := ((ac_set l 2 : Nat) : Int)) dX2_agree_61 hkr (by decide) (by decide) rfl (hr _ (by decide)) ?_
                          refine ac_istore (q := 64) dX2_agree_62 rfl (Nat.le_of_ble_eq_true rfl) rfl rfl ?_
                          simp only [List.set_cons_succ, List.set_cons_zero]
                          refine ac_iload (q := 66) dX2_agree_64 rfl rfl ?_
                          refine ac_if_ne (q := 69) (tgt := 87) dX2_agree_66 rfl rfl ⟨by omega, by omega⟩ (fun h66 => ?_) (fun h66 => ?_)
                          · exact absurd h66 (by decide)
                          · refine ac_iload (q := 71) dX2_agree_69 rfl rfl ?_
                            refine ac_aload_n (q := 72) dX2_agree_71 rfl rfl ?_
                            refine ac_get (q := 75) dX2_agree_72 fl_X2_9 (by assumption) rfl (ac_rdr rfl (by assumption)) ?_
                            refine ac_iload_n (q := 76) dX2_agree_75 rfl rfl ?_
                            refine ac_ialoadN (q := 77) (j := i) (v := ((p : Nat) : Int)) dX2_agree_76 ks1 (by decide) (by omega) rfl hp1 ?_
                            refine ac_iand (q := 78) dX2_agree_77 rfl ?_
                            refine ac_aload_n (q := 79) dX2_agree_78 rfl rfl ?_
                            refine ac_get (q := 82) dX2_agree_79 fl_X2_9 (by assumption) rfl (ac_rdr rfl (by assumption)) ?_
                            refine ac_iload_n (q := 83) dX2_agree_82 rfl rfl ?_
                            refine ac_ialoadN (q := 84) (j := i) (v := ((p : Nat) : Int)) dX2_agree_83 ks1 (by decide) (by omega) rfl hp1 ?_
                            refine ac_icmp_ne (q := 87) (tgt := 91) dX2_agree_84 rfl rfl (ac_nin (hand _)) (ac_nin hpair) (fun h84 => ?_) (fun h84 => ?_)
                            · have g2 := fun z => h84 ((hq 2).mpr z)
                              refine ac_iconst (q := 92) dX2_agree_91 rfl ?_
                              refine ac_istore (q := 94) dX2_agree_92 rfl (Nat.le_of_ble_eq_true rfl) rfl rfl ?_
                              simp only [List.set_cons_succ, List.set_cons_zero]
                              refine ac_iinc (q := 97) (v := 3) dX2_agree_94 rfl (Nat.le_of_ble_eq_true rfl) rfl rfl rfl rfl ?_
                              simp only [List.set_cons_succ, List.set_cons_zero]
                              refine ac_goto (q := 50) dX2_agree_97 rfl ?_
                              refine ac_iload (q := 52) dX2_agree_50 rfl rfl ?_
                              refine ac_iload (q := 54) dX2_agree_52 rfl rfl ?_
                              refine ac_icmp_ge (q := 57) (tgt := 100) dX2_agree_54 rfl rfl ⟨by omega, by omega⟩ ⟨by omega, by omega⟩ (fun h54 => ?_) (fun h54 => ?_)
                              · refine ac_iload (q := 102) dX2_agree_100 rfl rfl ?_
                                refine ac_if_ne (q := 105) (tgt := 118) dX2_agree_102 rfl rfl ⟨by omega, by omega⟩ (fun h102 => ?_) (fun h102 => ?_)
                                · exact absurd h102 (by decide)
                                · refine ac_iload (q := 107) dX2_agree_105 rfl rfl ?_
                                  refine ac_aload_n (q := 108) dX2_agree_107 rfl rfl ?_
                                  refine ac_get (q := 111) dX2_agree_108 fl_X2_13 (by assumption) rfl (ac_rdr rfl (by assumption)) ?_
                                  refine ac_iload_n (q := 112) dX2_agree_111 rfl rfl ?_
                                  refine ac_baloadN (q := 113) (j := i) (v := (o.2.2 : Int)) dX2_agree_112 ks2 (by decide) (by omega) rfl hp2 ?_
                                  refine ac_icmp_eq (q := 116) (tgt := 118) dX2_agree_113 rfl rfl ⟨by omega, by omega⟩ ⟨by omega, by omega⟩ (fun h113 => ?_) (fun h113 => ?_)
                                  · refine ac_iinc (q := 121) dX2_agree_118 rfl (Nat.le_of_ble_eq_true rfl) rfl rfl rfl rfl ?_
                                    simp only [List.set_cons_succ, List.set_cons_zero]
                                    refine ac_goto (q := 2) dX2_agree_121 rfl ?_
                                    have hgo : ac_ago l o = true := (ac_ago_in hab.1 hab.2).mpr (by rw [hsame hab.1 hab.2]; exact ⟨fun hz => (hz.elim g0 (fun hz => hz.elim g1 g2)).elim, fun hz => by omega⟩)
                                    rw [hgo, Bool.true_and] at hg
                                    refine ac_drop [(2, (s : Int)), (2, (r : Int)), (0, (n : Int)), (0, ((i : Nat) : Int) + 1), (3, 0), (3, 0), (3, 0), (3, 0), (3, 0), (3, 0)] (by repeat (first | exact trivial | refine ⟨Or.inl rfl, ?_⟩ | refine ⟨Or.inr rfl, ?_⟩)) ?_
                                    exact ac_ls (by rw [ei]) (ih (i + 1) (by omega) hg)
                                  · refine ac_iconst (q := 117) dX2_agree_116 rfl ?_
                                    refine ac_zreturn dX2_agree_117 rfl (by first | exact ac_b01 | omega) (Nat.zero_le _) (Nat.zero_le _) ?_
                                    have hgo : ac_ago l o = false := Bool.eq_false_iff.mpr (fun hz => by
                                      have hz := (ac_ago_in hab.1 hab.2).mp hz
                                      rw [hsame hab.1 hab.2] at hz
                                      exact (hz.mpr (by omega)).elim g0 (fun hz => hz.elim g1 g2))
                                    rw [hgo, Bool.false_and] at hg
                                    exact ⟨ac_l0 (by rw [hg]; decide), rfl, rfl⟩
                              · exact absurd h54 (by decide)
                            · have g2 := (hq 2).mp h84
                              refine ac_iconst (q := 88) dX2_agree_87 rfl ?_
                              refine ac_goto (q := 92) dX2_agree_88 rfl ?_
                              refine ac_istore (q := 94) dX2_agree_92 rfl (Nat.le_of_ble_eq_true rfl) rfl rfl ?_
                              simp only [List.set_cons_succ, List.set_cons_zero]
                              refine ac_iinc (q := 97) (v := 3) dX2_agree_94 rfl (Nat.le_of_ble_eq_true rfl) rfl rfl rfl rfl ?_
                              simp only [List.set_cons_succ, List.set_cons_zero]
                              refine ac_goto (q := 50) dX2_agree_97 rfl ?_
                              refine ac_iload (q := 52) dX2_agree_50 rfl rfl ?_
                              refine ac_iload (q := 54) dX2_agree_52 rfl rfl ?_
                              refine ac_icmp_ge (q := 57) (tgt := 100) dX2_agree_54 rfl rfl ⟨by omega, by omega⟩ ⟨by omega, by omega⟩ (fun h54 => ?_) (fun h54 => ?_)
                              · refine ac_iload (q := 102) dX2_agree_100 rfl rfl ?_
                                refine ac_if_ne (q := 105) (tgt := 118) dX2_agree_102 rfl rfl ⟨by omega, by omega⟩ (fun h102 => ?_) (fun h102 => ?_)
                                · exact absurd h102 (by decide)
                                · refine ac_iload (q := 107) dX2_agree_105 rfl rfl ?_
                                  refine ac_aload_n (q := 108) dX2_agree_107 rfl rfl ?_
                                  refine ac_get (q := 111) dX2_agree_108 fl_X2_13 (by assumption) rfl (ac_rdr rfl (by assumption)) ?_
                                  refine ac_iload_n (q := 112) dX2_agree_111 rfl rfl ?_
                                  refine ac_baloadN (q := 113) (j := i) (v := (o.2.2 : Int)) dX2_agree_112 ks2 (by decide) (by omega) rfl hp2 ?_
                                  refine ac_icmp_eq (q := 116) (tgt := 118) dX2_agree_113 rfl rfl ⟨by omega, by omega⟩ ⟨by omega, by omega⟩ (fun h113 => ?_) (fun h113 => ?_)
                                  · refine ac_iinc (q := 121) dX2_agree_118 rfl (Nat.le_of_ble_eq_true rfl) rfl rfl rfl rfl ?_
                                    simp only [List.set_cons_succ, List.set_cons_zero]
                                    refine ac_goto (q := 2) dX2_agree_121 rfl ?_
                                    have hgo : ac_ago l o = true := (ac_ago_in hab.1 hab.2).mpr (by rw [hsame hab.1 hab.2]; exact ⟨fun _ => by omega, fun _ => by first | exact Or.inl g0 | exact Or.inr (Or.inl g1) | exact Or.inr (Or.inr g2)⟩)
                                    rw [hgo, Bool.true_and] at hg
                                    refine ac_drop [(2, (s : Int)), (2, (r : Int)), (0, (n : Int)), (0, ((i : Nat) : Int) + 1), (3, 0), (3, 0), (3, 0), (3, 0), (3, 0), (3, 0)] (by repeat (first | exact trivial | refine ⟨Or.inl rfl, ?_⟩ | refine ⟨Or.inr rfl, ?_⟩)) ?_
                                    exact ac_ls (by rw [ei]) (ih (i + 1) (by omega) hg)
                                  · refine ac_iconst (q := 117) dX2_agree_116 rfl ?_
                                    refine ac_zreturn dX2_agree_117 rfl (by first | exact ac_b01 | omega) (Nat.zero_le _) (Nat.zero_le _) ?_
                                    have hgo : ac_ago l o = false := Bool.eq_false_iff.mpr (fun hz => by
                                      have hz := (ac_ago_in hab.1 hab.2).mp hz
                                      rw [hsame hab.1 hab.2] at hz
                                      have := hz.mp (by first | exact Or.inl g0 | exact Or.inr (Or.inl g1) | exact Or.inr (Or.inr g2)); omega)
                                    rw [hgo, Bool.false_and] at hg
                                    exact ⟨ac_l0 (by rw [hg]; decide), rfl, rfl⟩
                              · exact absurd h54 (by decide)
                      · have g1 := (hq 1).mp h84
                        refine ac_iconst (q := 88) dX2_agree_87 rfl ?_
                        refine ac_goto (q := 92) dX2_agree_88 rfl ?_
                        refine ac_istore (q := 94) dX2_agree_92 rfl (Nat.le_of_ble_eq_true rfl) rfl rfl ?_
                        simp only [List.set_cons_succ, List.set_cons_zero]
                        refine ac_iinc (q := 97) (v := 2) dX2_agree_94 rfl (Nat.le_of_ble_eq_true rfl) rfl rfl rfl rfl ?_
                        simp only [List.set_cons_succ, List.set_cons_zero]
                        refine ac_goto (q := 50) dX2_agree_97 rfl ?_
                        refine ac_iload (q := 52) dX2_agree_50 rfl rfl ?_
                        refine ac_iload (q := 54) dX2_agree_52 rfl rfl ?_
                        refine ac_icmp_ge (q := 57) (tgt := 100) dX2_agree_54 rfl rfl ⟨by omega, by omega⟩ ⟨by omega, by omega⟩ (fun h54 => ?_) (fun h54 => ?_)
                        · exact absurd h54 (by decide)
                        · refine ac_aload (q := 59) dX2_agree_57 rfl rfl ?_
                          refine ac_iload (q := 61) dX2_agree_59 rfl rfl ?_
                          refine ac_ialoadN (q := 62) (j := 2) (v := ((ac_set l 2 : Nat) : Int)) dX2_agree_61 hkr (by decide) (by decide) rfl (hr _ (by decide)) ?_
                          refine ac_istore (q := 64) dX2_agree_62 rfl (Nat.le_of_ble_eq_true rfl) rfl rfl ?_
                          simp only [List.set_cons_succ, List.set_cons_zero]
                          refine ac_iload (q := 66) dX2_agree_64 rfl rfl ?_
                          refine ac_if_ne (q := 69) (tgt := 87) dX2_agree_66 rfl rfl ⟨by omega, by omega⟩ (fun h66 => ?_) (fun h66 => ?_)
                          · refine ac_iconst (q := 88) dX2_agree_87 rfl ?_
                            refine ac_goto (q := 92) dX2_agree_88 rfl ?_
                            refine ac_istore (q := 94) dX2_agree_92 rfl (Nat.le_of_ble_eq_true rfl) rfl rfl ?_
                            simp only [List.set_cons_succ, List.set_cons_zero]
                            refine ac_iinc (q := 97) (v := 3) dX2_agree_94 rfl (Nat.le_of_ble_eq_true rfl) rfl rfl rfl rfl ?_
                            simp only [List.set_cons_succ, List.set_cons_zero]
                            refine ac_goto (q := 50) dX2_agree_97 rfl ?_
                            refine ac_iload (q := 52) dX2_agree_50 rfl rfl ?_
                            refine ac_iload (q := 54) dX2_agree_52 rfl rfl ?_
                            refine ac_icmp_ge (q := 57) (tgt := 100) dX2_agree_54 rfl rfl ⟨by omega, by omega⟩ ⟨by omega, by omega⟩ (fun h54 => ?_) (fun h54 => ?_)
                            · refine ac_iload (q := 102) dX2_agree_100 rfl rfl ?_
                              refine ac_if_ne (q := 105) (tgt := 118) dX2_agree_102 rfl rfl ⟨by omega, by omega⟩ (fun h102 => ?_) (fun h102 => ?_)
                              · exact absurd h102 (by decide)
                              · refine ac_iload (q := 107) dX2_agree_105 rfl rfl ?_
                                refine ac_aload_n (q := 108) dX2_agree_107 rfl rfl ?_
                                refine ac_get (q := 111) dX2_agree_108 fl_X2_13 (by assumption) rfl (ac_rdr rfl (by assumption)) ?_
                                refine ac_iload_n (q := 112) dX2_agree_111 rfl rfl ?_
                                refine ac_baloadN (q := 113) (j := i) (v := (o.2.2 : Int)) dX2_agree_112 ks2 (by decide) (by omega) rfl hp2 ?_
                                refine ac_icmp_eq (q := 116) (tgt := 118) dX2_agree_113 rfl rfl ⟨by omega, by omega⟩ ⟨by omega, by omega⟩ (fun h113 => ?_) (fun h113 => ?_)
                                · refine ac_iinc (q := 121) dX2_agree_118 rfl (Nat.le_of_ble_eq_true rfl) rfl rfl rfl rfl ?_
                                  simp only [List.set_cons_succ, List.set_cons_zero]
                                  refine ac_goto (q := 2) dX2_agree_121 rfl ?_
                                  have hgo : ac_ago l o = true := (ac_ago_in hab.1 hab.2).mpr (by rw [hsame hab.1 hab.2]; exact ⟨fun _ => by omega, fun _ => by first | exact Or.inl g0 | exact Or.inr (Or.inl g1) | exact Or.inr (Or.inr g2)⟩)
                                  rw [hgo, Bool.true_and] at hg
                                  refine ac_drop [(2, (s : Int)), (2, (r : Int)), (0, (n : Int)), (0, ((i : Nat) : Int) + 1), (3, 0), (3, 0), (3, 0), (3, 0), (3, 0), (3, 0)] (by repeat (first | exact trivial | refine ⟨Or.inl rfl, ?_⟩ | refine ⟨Or.inr rfl, ?_⟩)) ?_
                                  exact ac_ls (by rw [ei]) (ih (i + 1) (by omega) hg)
                                · refine ac_iconst (q := 117) dX2_agree_116 rfl ?_
                                  refine ac_zreturn dX2_agree_117 rfl (by first | exact ac_b01 | omega) (Nat.zero_le _) (Nat.zero_le _) ?_
                                  have hgo : ac_ago l o = false := Bool.eq_false_iff.mpr (fun hz => by
                                    have hz := (ac_ago_in hab.1 hab.2).mp hz
                                    rw [hsame hab.1 hab.2] at hz
                                    have := hz.mp (by first | exact Or.inl g0 | exact Or.inr (Or.inl g1) | exact Or.inr (Or.inr g2)); omega)
                                  rw [hgo, Bool.false_and] at hg
                                  exact ⟨ac_l0 (by rw [hg]; decide), rfl, rfl⟩
                            · exact absurd h54 (by decide)
                          · exact absurd h66 (by decide)
                · have g0 := (hq 0).mp h84
                  refine ac_iconst (q := 88) dX2_agree_87 rfl ?_
                  refine ac_goto (q := 92) dX2_agree_88 rfl ?_
                  refine ac_istore (q := 94) dX2_agree_92 rfl (Nat.le_of_ble_eq_true rfl) rfl rfl ?_
                  simp only [List.set_cons_succ, List.set_cons_zero]
                  refine ac_iinc (q := 97) (v := 1) dX2_agree_94 rfl (Nat.le_of_ble_eq_true rfl) rfl rfl rfl rfl ?_
                  simp only [List.set_cons_succ, List.set_cons_zero]
                  refine ac_goto (q := 50) dX2_agree_97 rfl ?_
                  refine ac_iload (q := 52) dX2_agree_50 rfl rfl ?_
                  refine ac_iload (q := 54) dX2_agree_52 rfl rfl ?_
                  refine ac_icmp_ge (q := 57) (tgt := 100) dX2_agree_54 rfl rfl ⟨by omega, by omega⟩ ⟨by omega, by omega⟩ (fun h54 => ?_) (fun h54 => ?_)
                  · exact absurd h54 (by decide)
                  · refine ac_aload (q := 59) dX2_agree_57 rfl rfl ?_
                    refine ac_iload (q := 61) dX2_agree_59 rfl rfl ?_
                    refine ac_ialoadN (q := 62) (j := 1) (v := ((ac_set l 1 : Nat) : Int)) dX2_agree_61 hkr (by decide) (by decide) rfl (hr _ (by decide)) ?_
                    refine ac_istore (q := 64) dX2_agree_62 rfl (Nat.le_of_ble_eq_true rfl) rfl rfl ?_
                    simp only [List.set_cons_succ, List.set_cons_zero]
                    refine ac_iload (q := 66) dX2_agree_64 rfl rfl ?_
                    refine ac_if_ne (q := 69) (tgt := 87) dX2_agree_66 rfl rfl ⟨by omega, by omega⟩ (fun h66 => ?_) (fun h66 => ?_)
                    · refine ac_iconst (q := 88) dX2_agree_87 rfl ?_
                      refine ac_goto (q := 92) dX2_agree_88 rfl ?_
                      refine ac_istore (q := 94) dX2_agree_92 rfl (Nat.le_of_ble_eq_true rfl) rfl rfl ?_
                      simp only [List.set_cons_succ, List.set_cons_zero]
                      refine ac_iinc (q := 97) (v := 2) dX2_agree_94 rfl (Nat.le_of_ble_eq_true rfl) rfl rfl rfl rfl ?_
                      simp only [List.set_cons_succ, List.set_cons_zero]
                      refine ac_goto (q := 50) dX2_agree_97 rfl ?_
                      refine ac_iload (q := 52) dX2_agree_50 rfl rfl ?_
                      refine ac_iload (q := 54) dX2_agree_52 rfl rfl ?_
                      refine ac_icmp_ge (q := 57) (tgt := 100) dX2_agree_54 rfl rfl ⟨by omega, by omega⟩ ⟨by omega, by omega⟩ (fun h54 => ?_) (fun h54 => ?_)
                      · exact absurd h54 (by decide)
                      · refine ac_aload (q := 59) dX2_agree_57 rfl rfl ?_
                        refine ac_iload (q := 61) dX2_agree_59 rfl rfl ?_
                        refine ac_ialoadN (q := 62) (j := 2) (v := ((ac_set l 2 : Nat) : Int)) dX2_agree_61 hkr (by decide) (by decide) rfl (hr _ (by decide)) ?_
                        refine ac_istore (q := 64) dX2_agree_62 rfl (Nat.le_of_ble_eq_true rfl) rfl rfl ?_
                        simp only [List.set_cons_succ, List.set_cons_zero]
                        refine ac_iload (q := 66) dX2_agree_64 rfl rfl ?_
                        refine ac_if_ne (q := 69) (tgt := 87) dX2_agree_66 rfl rfl ⟨by omega, by omega⟩ (fun h66 => ?_) (fun h66 => ?_)
                        · refine ac_iconst (q := 88) dX2_agree_87 rfl ?_
                          refine ac_goto (q := 92) dX2_agree_88 rfl ?_
                          refine ac_istore (q := 94) dX2_agree_92 rfl (Nat.le_of_ble_eq_true rfl) rfl rfl ?_
                          simp only [List.set_cons_succ, List.set_cons_zero]
                          refine ac_iinc (q := 97) (v := 3) dX2_agree_94 rfl (Nat.le_of_ble_eq_true rfl) rfl rfl rfl rfl ?_
                          simp only [List.set_cons_succ, List.set_cons_zero]
                          refine ac_goto (q := 50) dX2_agree_97 rfl ?_
                          refine ac_iload (q := 52) dX2_agree_50 rfl rfl ?_
                          refine ac_iload (q := 54) dX2_agree_52 rfl rfl ?_
                          refine ac_icmp_ge (q := 57) (tgt := 100) dX2_agree_54 rfl rfl ⟨by omega, by omega⟩ ⟨by omega, by omega⟩ (fun h54 => ?_) (fun h54 => ?_)
                          · refine ac_iload (q := 102) dX2_agree_100 rfl rfl ?_
                            refine ac_if_ne (q := 105) (tgt := 118) dX2_agree_102 rfl rfl ⟨by omega, by omega⟩ (fun h102 => ?_) (fun h102 => ?_)
                            · exact absurd h102 (by decide)
                            · refine ac_iload (q := 107) dX2_agree_105 rfl rfl ?_
                              refine ac_aload_n (q := 108) dX2_agree_107 rfl rfl ?_
                              refine ac_get (q := 111) dX2_agree_108 fl_X2_13 (by assumption) rfl (ac_rdr rfl (by assumption)) ?_
                              refine ac_iload_n (q := 112) dX2_agree_111 rfl rfl ?_
                              refine ac_baloadN (q := 113) (j := i) (v := (o.2.2 : Int)) dX2_agree_112 ks2 (by decide) (by omega) rfl hp2 ?_
                              refine ac_icmp_eq (q := 116) (tgt := 118) dX2_agree_113 rfl rfl ⟨by omega, by omega⟩ ⟨by omega, by omega⟩ (fun h113 => ?_) (fun h113 => ?_)
                              · refine ac_iinc (q := 121) dX2_agree_118 rfl (Nat.le_of_ble_eq_true rfl) rfl rfl rfl rfl ?_
                                simp only [List.set_cons_succ, List.set_cons_zero]
                                refine ac_goto (q := 2) dX2_agree_121 rfl ?_
                                have hgo : ac_ago l o = true := (ac_ago_in hab.1 hab.2).mpr (by rw [hsame hab.1 hab.2]; exact ⟨fun _ => by omega, fun _ => by first | exact Or.inl g0 | exact Or.inr (Or.inl g1) | exact Or.inr (Or.inr g2)⟩)
                                rw [hgo, Bool.true_and] at hg
                                refine ac_drop [(2, (s : Int)), (2, (r : Int)), (0, (n : Int)), (0, ((i : Nat) : Int) + 1), (3, 0), (3, 0), (3, 0), (3, 0), (3, 0), (3, 0)] (by repeat (first | exact trivial | refine ⟨Or.inl rfl, ?_⟩ | refine ⟨Or.inr rfl, ?_⟩)) ?_
                                exact ac_ls (by rw [ei]) (ih (i + 1) (by omega) hg)
                              · refine ac_iconst (q := 117) dX2_agree_116 rfl ?_
                                refine ac_zreturn dX2_agree_117 rfl (by first | exact ac_b01 | omega) (Nat.zero_le _) (Nat.zero_le _) ?_
                                have hgo : ac_ago l o = false := Bool.eq_false_iff.mpr (fun hz => by
                                  have hz := (ac_ago_in hab.1 hab.2).mp hz
                                  rw [hsame hab.1 hab.2] at hz
                                  have := hz.mp (by first | exact Or.inl g0 | exact Or.inr (Or.inl g1) | exact Or.inr (Or.inr g2)); omega)
                                rw [hgo, Bool.false_and] at hg
                                exact ⟨ac_l0 (by rw [hg]; decide), rfl, rfl⟩
                          · exact absurd h54 (by decide)
                        · exact absurd h66 (by decide)
                    · exact absurd h66 (by decide)
          · refine ac_iconst (q := 30) dX2_agree_29 rfl ?_
            refine ac_goto (q := 34) dX2_agree_30 rfl ?_
            refine ac_istore (q := 36) dX2_agree_34 rfl (Nat.le_of_ble_eq_true rfl) rfl rfl ?_
            simp only [List.set_cons_succ, List.set_cons_zero]
            refine ac_iconst (q := 37) dX2_agree_36 rfl ?_
            refine ac_istore (q := 39) dX2_agree_37 rfl (Nat.le_of_ble_eq_true rfl) rfl rfl ?_
            simp only [List.set_cons_succ, List.set_cons_zero]
            refine ac_aload_n (q := 40) dX2_agree_39 rfl rfl ?_
            refine ac_astore (q := 42) dX2_agree_40 rfl (Nat.le_of_ble_eq_true rfl) rfl rfl ?_
            simp only [List.set_cons_succ, List.set_cons_zero]
            refine ac_aload (q := 44) dX2_agree_42 rfl rfl ?_
            refine ac_alen (q := 45) dX2_agree_44 (by assumption) (by decide) rfl ?_
            refine ac_istore (q := 47) dX2_agree_45 rfl (Nat.le_of_ble_eq_true rfl) rfl rfl ?_
            simp only [List.set_cons_succ, List.set_cons_zero]
            refine ac_iconst (q := 48) dX2_agree_47 rfl ?_
            refine ac_istore (q := 50) dX2_agree_48 rfl (Nat.le_of_ble_eq_true rfl) rfl rfl ?_
            simp only [List.set_cons_succ, List.set_cons_zero]
            refine ac_iload (q := 52) dX2_agree_50 rfl rfl ?_
            refine ac_iload (q := 54) dX2_agree_52 rfl rfl ?_
            refine ac_icmp_ge (q := 57) (tgt := 100) dX2_agree_54 rfl rfl ⟨by omega, by omega⟩ ⟨by omega, by omega⟩ (fun h54 => ?_) (fun h54 => ?_)
            · exact absurd h54 (by decide)
            · refine ac_aload (q := 59) dX2_agree_57 rfl rfl ?_
              refine ac_iload (q := 61) dX2_agree_59 rfl rfl ?_
              refine ac_ialoadN (q := 62) (j := 0) (v := ((ac_set l 0 : Nat) : Int)) dX2_agree_61 hkr (by decide) (by decide) rfl (hr _ (by decide)) ?_
              refine ac_istore (q := 64) dX2_agree_62 rfl (Nat.le_of_ble_eq_true rfl) rfl rfl ?_
              simp only [List.set_cons_succ, List.set_cons_zero]
              refine ac_iload (q := 66) dX2_agree_64 rfl rfl ?_
              refine ac_if_ne (q := 69) (tgt := 87) dX2_agree_66 rfl rfl ⟨by omega, by omega⟩ (fun h66 => ?_) (fun h66 => ?_)
              · exact absurd h66 (by decide)
              · refine ac_iload (q := 71) dX2_agree_69 rfl rfl ?_
                refine ac_aload_n (q := 72) dX2_agree_71 rfl rfl ?_
                refine ac_get (q := 75) dX2_agree_72 fl_X2_9 (by assumption) rfl (ac_rdr rfl (by assumption)) ?_
                refine ac_iload_n (q := 76) dX2_agree_75 rfl rfl ?_
                refine ac_ialoadN (q := 77) (j := i) (v := ((p : Nat) : Int)) dX2_agree_76 ks1 (by decide) (by omega) rfl hp1 ?_
                refine ac_iand (q := 78) dX2_agree_77 rfl ?_
                refine ac_aload_n (q := 79) dX2_agree_78 rfl rfl ?_
                refine ac_get (q := 82) dX2_agree_79 fl_X2_9 (by assumption) rfl (ac_rdr rfl (by assumption)) ?_
                refine ac_iload_n (q := 83) dX2_agree_82 rfl rfl ?_
                refine ac_ialoadN (q := 84) (j := i) (v := ((p : Nat) : Int)) dX2_agree_83 ks1 (by decide) (by omega) rfl hp1 ?_
                refine ac_icmp_ne (q := 87) (tgt := 91) dX2_agree_84 rfl rfl (ac_nin (hand _)) (ac_nin hpair) (fun h84 => ?_) (fun h84 => ?_)
                · have g0 := fun z => h84 ((hq 0).mpr z)
                  refine ac_iconst (q := 92) dX2_agree_91 rfl ?_
                  refine ac_istore (q := 94) dX2_agree_92 rfl (Nat.le_of_ble_eq_true rfl) rfl rfl ?_
                  simp only [List.set_cons_succ, List.set_cons_zero]
                  refine ac_iinc (q := 97) (v := 1) dX2_agree_94 rfl (Nat.le_of_ble_eq_true rfl) rfl rfl rfl rfl ?_
                  simp only [List.set_cons_succ, List.set_cons_zero]
                  refine ac_goto (q := 50) dX2_agree_97 rfl ?_
                  refine ac_iload (q := 52) dX2_agree_50 rfl rfl ?_
                  refine ac_iload (q := 54) dX2_agree_52 rfl rfl ?_
                  refine ac_icmp_ge (q := 57) (tgt := 100) dX2_agree_54 rfl rfl ⟨by omega, by omega⟩ ⟨by omega, by omega⟩ (fun h54 => ?_) (fun h54 => ?_)
                  · exact absurd h54 (by decide)
                  · refine ac_aload (q := 59) dX2_agree_57 rfl rfl ?_
                    refine ac_iload (q := 61) dX2_agree_59 rfl rfl ?_
                    refine ac_ialoadN (q := 62) (j := 1) (v := ((ac_set l 1 : Nat) : Int)) dX2_agree_61 hkr (by decide) (by decide) rfl (hr _ (by decide)) ?_
                    refine ac_istore (q := 64) dX2_agree_62 rfl (Nat.le_of_ble_eq_true rfl) rfl rfl ?_
                    simp only [List.set_cons_succ, List.set_cons_zero]
                    refine ac_iload (q := 66) dX2_agree_64 rfl rfl ?_
                    refine ac_if_ne (q := 69) (tgt := 87) dX2_agree_66 rfl rfl ⟨by omega, by omega⟩ (fun h66 => ?_) (fun h66 => ?_)
                    · exact absurd h66 (by decide)
                    · refine ac_iload (q := 71) dX2_agree_69 rfl rfl ?_
                      refine ac_aload_n (q := 72) dX2_agree_71 rfl rfl ?_
                      refine ac_get (q := 75) dX2_agree_72 fl_X2_9 (by assumption) rfl (ac_rdr rfl (by assumption)) ?_
                      refine ac_iload_n (q := 76) dX2_agree_75 rfl rfl ?_
                      refine ac_ialoadN (q := 77) (j := i) (v := ((p : Nat) : Int)) dX2_agree_76 ks1 (by decide) (by omega) rfl hp1 ?_
                      refine ac_iand (q := 78) dX2_agree_77 rfl ?_
                      refine ac_aload_n (q := 79) dX2_agree_78 rfl rfl ?_
                      refine ac_get (q := 82) dX2_agree_79 fl_X2_9 (by assumption) rfl (ac_rdr rfl (by assumption)) ?_
                      refine ac_iload_n (q := 83) dX2_agree_82 rfl rfl ?_
                      refine ac_ialoadN (q := 84) (j := i) (v := ((p : Nat) : Int)) dX2_agree_83 ks1 (by decide) (by omega) rfl hp1 ?_
                      refine ac_icmp_ne (q := 87) (tgt := 91) dX2_agree_84 rfl rfl (ac_nin (hand _)) (ac_nin hpair) (fun h84 => ?_) (fun h84 => ?_)
                      · have g1 := fun z => h84 ((hq 1).mpr z)
                        refine ac_iconst (q := 92) dX2_agree_91 rfl ?_
                        refine ac_istore (q := 94) dX2_agree_92 rfl (Nat.le_of_ble_eq_true rfl) rfl rfl ?_
                        simp only [List.set_cons_succ, List.set_cons_zero]
                        refine ac_iinc (q := 97) (v := 2) dX2_agree_94 rfl (Nat.le_of_ble_eq_true rfl) rfl rfl rfl rfl ?_
                        simp only [List.set_cons_succ, List.set_cons_zero]
                        refine ac_goto (q := 50) dX2_agree_97 rfl ?_
                        refine ac_iload (q := 52) dX2_agree_50 rfl rfl ?_
                        refine ac_iload (q := 54) dX2_agree_52 rfl rfl ?_
                        refine ac_icmp_ge (q := 57) (tgt := 100) dX2_agree_54 rfl rfl ⟨by omega, by omega⟩ ⟨by omega, by omega⟩ (fun h54 => ?_) (fun h54 => ?_)
                        · exact absurd h54 (by decide)
                        · refine ac_aload (q := 59) dX2_agree_57 rfl rfl ?_
                          refine ac_iload (q := 61) dX2_agree_59 rfl rfl ?_
                          refine ac_ialoadN (q := 62) (j := 2) (v := ((ac_set l 2 : Nat) : Int)) dX2_agree_61 hkr (by decide) (by decide) rfl (hr _ (by decide)) ?_
                          refine ac_istore (q := 64) dX2_agree_62 rfl (Nat.le_of_ble_eq_true rfl) rfl rfl ?_
                          simp only [List.set_cons_succ, List.set_cons_zero]
                          refine ac_iload (q := 66) dX2_agree_64 rfl rfl ?_
                          refine ac_if_ne (q := 69) (tgt := 87) dX2_agree_66 rfl rfl ⟨by omega, by omega⟩ (fun h66 => ?_) (fun h66 => ?_)
                          · exact absurd h66 (by decide)
                          · refine ac_iload (q := 71) dX2_agree_69 rfl rfl ?_
                            refine ac_aload_n (q := 72) dX2_agree_71 rfl rfl ?_
                            refine ac_get (q := 75) dX2_agree_72 fl_X2_9 (by assumption) rfl (ac_rdr rfl (by assumption)) ?_
                            refine ac_iload_n (q := 76) dX2_agree_75 rfl rfl ?_
                            refine ac_ialoadN (q := 77) (j := i) (v := ((p : Nat) : Int)) dX2_agree_76 ks1 (by decide) (by omega) rfl hp1 ?_
                            refine ac_iand (q := 78) dX2_agree_77 rfl ?_
                            refine ac_aload_n (q := 79) dX2_agree_78 rfl rfl ?_
                            refine ac_get (q := 82) dX2_agree_79 fl_X2_9 (by assumption) rfl (ac_rdr rfl (by assumption)) ?_
                            refine ac_iload_n (q := 83) dX2_agree_82 rfl rfl ?_
                            refine ac_ialoadN (q := 84) (j := i) (v := ((p : Nat) : Int)) dX2_agree_83 ks1 (by decide) (by omega) rfl hp1 ?_
                            refine ac_icmp_ne (q := 87) (tgt := 91) dX2_agree_84 rfl rfl (ac_nin (hand _)) (ac_nin hpair) (fun h84 => ?_) (fun h84 => ?_)
                            · have g2 := fun z => h84 ((hq 2).mpr z)
                              refine ac_iconst (q := 92) dX2_agree_91 rfl ?_
                              refine ac_istore (q := 94) dX2_agree_92 rfl (Nat.le_of_ble_eq_true rfl) rfl rfl ?_
                              simp only [List.set_cons_succ, List.set_cons_zero]
                              refine ac_iinc (q := 97) (v := 3) dX2_agree_94 rfl (Nat.le_of_ble_eq_true rfl) rfl rfl rfl rfl ?_
                              simp only [List.set_cons_succ, List.set_cons_zero]
                              refine ac_goto (q := 50) dX2_agree_97 rfl ?_
                              refine ac_iload (q := 52) dX2_agree_50 rfl rfl ?_
                              refine ac_iload (q := 54) dX2_agree_52 rfl rfl ?_
                              refine ac_icmp_ge (q := 57) (tgt := 100) dX2_agree_54 rfl rfl ⟨by omega, by omega⟩ ⟨by omega, by omega⟩ (fun h54 => ?_) (fun h54 => ?_)
                              · refine ac_iload (q := 102) dX2_agree_100 rfl rfl ?_
                                refine ac_if_ne (q := 105) (tgt := 118) dX2_agree_102 rfl rfl ⟨by omega, by omega⟩ (fun h102 => ?_) (fun h102 => ?_)
                                · refine ac_iinc (q := 121) dX2_agree_118 rfl (Nat.le_of_ble_eq_true rfl) rfl rfl rfl rfl ?_
                                  simp only [List.set_cons_succ, List.set_cons_zero]
                                  refine ac_goto (q := 2) dX2_agree_121 rfl ?_
                                  have hgo : ac_ago l o = true := ac_ago_out (by rw [hln]; intro hc; exact h26 (by have := hhi.mpr hc; rw [this]; rfl))
                                  rw [hgo, Bool.true_and] at hg
                                  refine ac_drop [(2, (s : Int)), (2, (r : Int)), (0, (n : Int)), (0, ((i : Nat) : Int) + 1), (3, 0), (3, 0), (3, 0), (3, 0), (3, 0), (3, 0)] (by repeat (first | exact trivial | refine ⟨Or.inl rfl, ?_⟩ | refine ⟨Or.inr rfl, ?_⟩)) ?_
                                  exact ac_ls (by rw [ei]) (ih (i + 1) (by omega) hg)
                                · exact absurd h102 (by decide)
                              · exact absurd h54 (by decide)
                            · have g2 := (hq 2).mp h84
                              refine ac_iconst (q := 88) dX2_agree_87 rfl ?_
                              refine ac_goto (q := 92) dX2_agree_88 rfl ?_
                              refine ac_istore (q := 94) dX2_agree_92 rfl (Nat.le_of_ble_eq_true rfl) rfl rfl ?_
                              simp only [List.set_cons_succ, List.set_cons_zero]
                              refine ac_iinc (q := 97) (v := 3) dX2_agree_94 rfl (Nat.le_of_ble_eq_true rfl) rfl rfl rfl rfl ?_
                              simp only [List.set_cons_succ, List.set_cons_zero]
                              refine ac_goto (q := 50) dX2_agree_97 rfl ?_
                              refine ac_iload (q := 52) dX2_agree_50 rfl rfl ?_
                              refine ac_iload (q := 54) dX2_agree_52 rfl rfl ?_
                              refine ac_icmp_ge (q := 57) (tgt := 100) dX2_agree_54 rfl rfl ⟨by omega, by omega⟩ ⟨by omega, by omega⟩ (fun h54 => ?_) (fun h54 => ?_)
                              · refine ac_iload (q := 102) dX2_agree_100 rfl rfl ?_
                                refine ac_if_ne (q := 105) (tgt := 118) dX2_agree_102 rfl rfl ⟨by omega, by omega⟩ (fun h102 => ?_) (fun h102 => ?_)
                                · refine ac_iinc (q := 121) dX2_agree_118 rfl (Nat.le_of_ble_eq_true rfl) rfl rfl rfl rfl ?_
                                  simp only [List.set_cons_succ, List.set_cons_zero]
                                  refine ac_goto (q := 2) dX2_agree_121 rfl ?_
                                  have hgo : ac_ago l o = true := ac_ago_out (by rw [hln]; intro hc; exact h26 (by have := hhi.mpr hc; rw [this]; rfl))
                                  rw [hgo, Bool.true_and] at hg
                                  refine ac_drop [(2, (s : Int)), (2, (r : Int)), (0, (n : Int)), (0, ((i : Nat) : Int) + 1), (3, 0), (3, 0), (3, 0), (3, 0), (3, 0), (3, 0)] (by repeat (first | exact trivial | refine ⟨Or.inl rfl, ?_⟩ | refine ⟨Or.inr rfl, ?_⟩)) ?_
                                  exact ac_ls (by rw [ei]) (ih (i + 1) (by omega) hg)
                                · exact absurd h102 (by decide)
                              · exact absurd h54 (by decide)
                      · have g1 := (hq 1).mp h84
                        refine ac_iconst (q := 88) dX2_agree_87 rfl ?_
                        refine ac_goto (q := 92) dX2_agree_88 rfl ?_
                        refine ac_istore (q := 94) dX2_agree_92 rfl (Nat.le_of_ble_eq_true rfl) rfl rfl ?_
                        simp only [List.set_cons_succ, List.set_cons_zero]
                        refine ac_iinc (q := 97) (v := 2) dX2_agree_94 rfl (Nat.le_of_ble_eq_true rfl) rfl rfl rfl rfl ?_
                        simp only [List.set_cons_succ, List.set_cons_zero]
                        refine ac_goto (q := 50) dX2_agree_97 rfl ?_
                        refine ac_iload (q := 52) dX2_agree_50 rfl rfl ?_
                        refine ac_iload (q := 54) dX2_agree_52 rfl rfl ?_
                        refine ac_icmp_ge (q := 57) (tgt := 100) dX2_agree_54 rfl rfl ⟨by omega, by omega⟩ ⟨by omega, by omega⟩ (fun h54 => ?_) (fun h54 => ?_)
                        · exact absurd h54 (by decide)
                        · refine ac_aload (q := 59) dX2_agree_57 rfl rfl ?_
                          refine ac_iload (q := 61) dX2_agree_59 rfl rfl ?_
                          refine ac_ialoadN (q := 62) (j := 2) (v := ((ac_set l 2 : Nat) : Int)) dX2_agree_61 hkr (by decide) (by decide) rfl (hr _ (by decide)) ?_
                          refine ac_istore (q := 64) dX2_agree_62 rfl (Nat.le_of_ble_eq_true rfl) rfl rfl ?_
                          simp only [List.set_cons_succ, List.set_cons_zero]
                          refine ac_iload (q := 66) dX2_agree_64 rfl rfl ?_
                          refine ac_if_ne (q := 69) (tgt := 87) dX2_agree_66 rfl rfl ⟨by omega, by omega⟩ (fun h66 => ?_) (fun h66 => ?_)
                          · refine ac_iconst (q := 88) dX2_agree_87 rfl ?_
                            refine ac_goto (q := 92) dX2_agree_88 rfl ?_
                            refine ac_istore (q := 94) dX2_agree_92 rfl (Nat.le_of_ble_eq_true rfl) rfl rfl ?_
                            simp only [List.set_cons_succ, List.set_cons_zero]
                            refine ac_iinc (q := 97) (v := 3) dX2_agree_94 rfl (Nat.le_of_ble_eq_true rfl) rfl rfl rfl rfl ?_
                            simp only [List.set_cons_succ, List.set_cons_zero]
                            refine ac_goto (q := 50) dX2_agree_97 rfl ?_
                            refine ac_iload (q := 52) dX2_agree_50 rfl rfl ?_
                            refine ac_iload (q := 54) dX2_agree_52 rfl rfl ?_
                            refine ac_icmp_ge (q := 57) (tgt := 100) dX2_agree_54 rfl rfl ⟨by omega, by omega⟩ ⟨by omega, by omega⟩ (fun h54 => ?_) (fun h54 => ?_)
                            · refine ac_iload (q := 102) dX2_agree_100 rfl rfl ?_
                              refine ac_if_ne (q := 105) (tgt := 118) dX2_agree_102 rfl rfl ⟨by omega, by omega⟩ (fun h102 => ?_) (fun h102 => ?_)
                              · refine ac_iinc (q := 121) dX2_agree_118 rfl (Nat.le_of_ble_eq_true rfl) rfl rfl rfl rfl ?_
                                simp only [List.set_cons_succ, List.set_cons_zero]
                                refine ac_goto (q := 2) dX2_agree_121 rfl ?_
                                have hgo : ac_ago l o = true := ac_ago_out (by rw [hln]; intro hc; exact h26 (by have := hhi.mpr hc; rw [this]; rfl))
                                rw [hgo, Bool.true_and] at hg
                                refine ac_drop [(2, (s : Int)), (2, (r : Int)), (0, (n : Int)), (0, ((i : Nat) : Int) + 1), (3, 0), (3, 0), (3, 0), (3, 0), (3, 0), (3, 0)] (by repeat (first | exact trivial | refine ⟨Or.inl rfl, ?_⟩ | refine ⟨Or.inr rfl, ?_⟩)) ?_
                                exact ac_ls (by rw [ei]) (ih (i + 1) (by omega) hg)
                              · exact absurd h102 (by decide)
                            · exact absurd h54 (by decide)
                          · exact absurd h66 (by decide)
                · have g0 := (hq 0).mp h84
                  refine ac_iconst (q := 88) dX2_agree_87 rfl ?_
                  refine ac_goto (q := 92) dX2_agree_88 rfl ?_
                  refine ac_istore (q := 94) dX2_agree_92 rfl (Nat.le_of_ble_eq_true rfl) rfl rfl ?_
                  simp only [List.set_cons_succ, List.set_cons_zero]
                  refine ac_iinc (q := 97) (v := 1) dX2_agree_94 rfl (Nat.le_of_ble_eq_true rfl) rfl rfl rfl rfl ?_
                  simp only [List.set_cons_succ, List.set_cons_zero]
                  refine ac_goto (q := 50) dX2_agree_97 rfl ?_
                  refine ac_iload (q := 52) dX2_agree_50 rfl rfl ?_
                  refine ac_iload (q := 54) dX2_agree_52 rfl rfl ?_
                  refine ac_icmp_ge (q := 57) (tgt := 100) dX2_agree_54 rfl rfl ⟨by omega, by omega⟩ ⟨by omega, by omega⟩ (fun h54 => ?_) (fun h54 => ?_)
                  · exact absurd h54 (by decide)
                  · refine ac_aload (q := 59) dX2_agree_57 rfl rfl ?_
                    refine ac_iload (q := 61) dX2_agree_59 rfl rfl ?_
                    refine ac_ialoadN (q := 62) (j := 1) (v := ((ac_set l 1 : Nat) : Int)) dX2_agree_61 hkr (by decide) (by decide) rfl (hr _ (by decide)) ?_
                    refine ac_istore (q := 64) dX2_agree_62 rfl (Nat.le_of_ble_eq_true rfl) rfl rfl ?_
                    simp only [List.set_cons_succ, List.set_cons_zero]
                    refine ac_iload (q := 66) dX2_agree_64 rfl rfl ?_
                    refine ac_if_ne (q := 69) (tgt := 87) dX2_agree_66 rfl rfl ⟨by omega, by omega⟩ (fun h66 => ?_) (fun h66 => ?_)
                    · refine ac_iconst (q := 88) dX2_agree_87 rfl ?_
                      refine ac_goto (q := 92) dX2_agree_88 rfl ?_
                      refine ac_istore (q := 94) dX2_agree_92 rfl (Nat.le_of_ble_eq_true rfl) rfl rfl ?_
                      simp only [List.set_cons_succ, List.set_cons_zero]
                      refine ac_iinc (q := 97) (v := 2) dX2_agree_94 rfl (Nat.le_of_ble_eq_true rfl) rfl rfl rfl rfl ?_
                      simp only [List.set_cons_succ, List.set_cons_zero]
                      refine ac_goto (q := 50) dX2_agree_97 rfl ?_
                      refine ac_iload (q := 52) dX2_agree_50 rfl rfl ?_
                      refine ac_iload (q := 54) dX2_agree_52 rfl rfl ?_
                      refine ac_icmp_ge (q := 57) (tgt := 100) dX2_agree_54 rfl rfl ⟨by omega, by omega⟩ ⟨by omega, by omega⟩ (fun h54 => ?_) (fun h54 => ?_)
                      · exact absurd h54 (by decide)
                      · refine ac_aload (q := 59) dX2_agree_57 rfl rfl ?_
                        refine ac_iload (q := 61) dX2_agree_59 rfl rfl ?_
                        refine ac_ialoadN (q := 62) (j := 2) (v := ((ac_set l 2 : Nat) : Int)) dX2_agree_61 hkr (by decide) (by decide) rfl (hr _ (by decide)) ?_
                        refine ac_istore (q := 64) dX2_agree_62 rfl (Nat.le_of_ble_eq_true rfl) rfl rfl ?_
                        simp only [List.set_cons_succ, List.set_cons_zero]
                        refine ac_iload (q := 66) dX2_agree_64 rfl rfl ?_
                        refine ac_if_ne (q := 69) (tgt := 87) dX2_agree_66 rfl rfl ⟨by omega, by omega⟩ (fun h66 => ?_) (fun h66 => ?_)
                        · refine ac_iconst (q := 88) dX2_agree_87 rfl ?_
                          refine ac_goto (q := 92) dX2_agree_88 rfl ?_
                          refine ac_istore (q := 94) dX2_agree_92 rfl (Nat.le_of_ble_eq_true rfl) rfl rfl ?_
                          simp only [List.set_cons_succ, List.set_cons_zero]
                          refine ac_iinc (q := 97) (v := 3) dX2_agree_94 rfl (Nat.le_of_ble_eq_true rfl) rfl rfl rfl rfl ?_
                          simp only [List.set_cons_succ, List.set_cons_zero]
                          refine ac_goto (q := 50) dX2_agree_97 rfl ?_
                          refine ac_iload (q := 52) dX2_agree_50 rfl rfl ?_
                          refine ac_iload (q := 54) dX2_agree_52 rfl rfl ?_
                          refine ac_icmp_ge (q := 57) (tgt := 100) dX2_agree_54 rfl rfl ⟨by omega, by omega⟩ ⟨by omega, by omega⟩ (fun h54 => ?_) (fun h54 => ?_)
                          · refine ac_iload (q := 102) dX2_agree_100 rfl rfl ?_
                            refine ac_if_ne (q := 105) (tgt := 118) dX2_agree_102 rfl rfl ⟨by omega, by omega⟩ (fun h102 => ?_) (fun h102 => ?_)
                            · refine ac_iinc (q := 121) dX2_agree_118 rfl (Nat.le_of_ble_eq_true rfl) rfl rfl rfl rfl ?_
                              simp only [List.set_cons_succ, List.set_cons_zero]
                              refine ac_goto (q := 2) dX2_agree_121 rfl ?_
                              have hgo : ac_ago l o = true := ac_ago_out (by rw [hln]; intro hc; exact h26 (by have := hhi.mpr hc; rw [this]; rfl))
                              rw [hgo, Bool.true_and] at hg
                              refine ac_drop [(2, (s : Int)), (2, (r : Int)), (0, (n : Int)), (0, ((i : Nat) : Int) + 1), (3, 0), (3, 0), (3, 0), (3, 0), (3, 0), (3, 0)] (by repeat (first | exact trivial | refine ⟨Or.inl rfl, ?_⟩ | refine ⟨Or.inr rfl, ?_⟩)) ?_
                              exact ac_ls (by rw [ei]) (ih (i + 1) (by omega) hg)
                            · exact absurd h102 (by decide)
                          · exact absurd h54 (by decide)
                        · exact absurd h66 (by decide)
                    · exact absurd h66 (by decide)
  refine ac_iconst (q := 1) dX2_agree_0 rfl ?_
  refine ac_istore_n (q := 2) (j := 3) rfl dX2_agree_1 rfl (Nat.le_of_ble_eq_true rfl) rfl rfl ?_
  simp only [List.set_cons_succ, List.set_cons_zero]
  exact loop obs.length 0 (by omega) rfl
