theorem ac_EN_keep0 {mm m : ac_M} {x S k n : Nat} {E : List ac_Eq} {pin : Nat → Int} (h : ac_EN mm x S k n E pin) (h0 : ∀ j, j ≠ 17 → m x j = mm x j) (h1 : ∀ k', k' ≠ x → m k' = mm k') : ac_EN m x S k n E pin := by
  obtain ⟨a, b, c, ⟨d1, d2⟩, r, e1, e2, e3, e4⟩ := h
  have er : m r = mm r := h1 r (by omega)
  exact ⟨a, by rw [h0 4 (by decide)]; exact b, by rw [h0 22 (by decide)]; exact c, ⟨by rw [h1 _ (by omega)]; exact d1, by rw [h1 _ (by omega)]; exact d2⟩, r, by rw [h0 25 (by decide)]; exact e1, e2, by rw [h0 23 (by decide), er]; exact e3, by rw [er]; exact e4⟩

set_option maxHeartbeats 8000000 in
theorem k_X7_longPower {G : ac_G} {Y : ac_Y} {mm : ac_M} {d : Nat} {a e : Nat} (hd : 1 ≤ d) (he : e < 100) : ac_C G yX7_longPower cX7_longPower 6 (some .long) d 0 0 Y mm [(1, (a : Int)), (0, (e : Int))] (ac_R Y [(1, ((a ^ e : Nat) : Int))] (fun m => m = mm)) := by
  have loop : ∀ (r i : Nat), i + r = e → ac_V G (RX7, "longPower") cX7_longPower 6 (some .long) d 0 0 (ac_R Y [(1, ((a ^ e : Nat) : Int))] (fun m => m = mm)) 0 0 Y mm 5 [(1, (a : Int)), (3, 0), (0, (e : Int)), (1, ((a ^ i : Nat) : Int)), (3, 0), (0, (i : Int))] [] := by
    intro r
    induction r with
    | zero =>
      intro i hi
      obtain rfl : i = e := by omega
      refine ac_iload (q := 7) dX7_longPower_5 rfl rfl ?_
      refine ac_iload_n (q := 8) dX7_longPower_7 rfl rfl ?_
      refine ac_icmp_ge (q := 11) (tgt := 21) dX7_longPower_8 rfl rfl ⟨by omega, by omega⟩ ⟨by omega, by omega⟩ (fun h8 => ?_) (fun h8 => ?_)
      · refine ac_lload_n (q := 22) dX7_longPower_21 rfl rfl ?_
        refine ac_lreturn dX7_longPower_22 rfl (Nat.zero_le _) (Nat.zero_le _) ?_
        exact ⟨rfl, rfl, rfl⟩
      · exfalso; omega
    | succ r ih =>
      intro i hi
      have ei : ((i : Nat) : Int) + 1 = ((i + 1 : Nat) : Int) := rfl
      have hs := ih (i + 1) (by omega)
      rw [Nat.pow_succ, Int.natCast_mul] at hs
      refine ac_iload (q := 7) dX7_longPower_5 rfl rfl ?_
      refine ac_iload_n (q := 8) dX7_longPower_7 rfl rfl ?_
      refine ac_icmp_ge (q := 11) (tgt := 21) dX7_longPower_8 rfl rfl ⟨by omega, by omega⟩ ⟨by omega, by omega⟩ (fun h8 => ?_) (fun h8 => ?_)
      · exfalso; omega
      · refine ac_lload_n (q := 12) dX7_longPower_11 rfl rfl ?_
        refine ac_lload_n (q := 13) dX7_longPower_12 rfl rfl ?_
        refine ac_lmul (q := 14) dX7_longPower_13 rfl ?_
        refine ac_lstore_n (q := 15) (j := 3) rfl dX7_longPower_14 rfl (Nat.le_of_ble_eq_true rfl) rfl rfl ?_
        simp only [List.set_cons_succ, List.set_cons_zero]
        refine ac_iinc (q := 18) dX7_longPower_15 rfl (Nat.le_of_ble_eq_true rfl) rfl rfl rfl rfl ?_
        simp only [List.set_cons_succ, List.set_cons_zero]
        refine ac_goto (q := 5) dX7_longPower_18 rfl ?_
        exact ac_ls (by rw [ei]) hs
  refine ac_met (on := (RX7, "longPower")) rfl rfl (Nat.le_of_ble_eq_true rfl) (ls := [(1, (a : Int)), (3, 0), (0, (e : Int)), (3, 0), (3, 0), (3, 0)]) rfl ?_
  refine ac_lconst (q := 1) (v := 1) dX7_longPower_0 rfl (by decide) ?_
  refine ac_lstore_n (q := 2) (j := 3) rfl dX7_longPower_1 rfl (Nat.le_of_ble_eq_true rfl) rfl rfl ?_
  simp only [List.set_cons_succ, List.set_cons_zero]
  refine ac_iconst (q := 3) dX7_longPower_2 rfl ?_
  refine ac_istore (q := 5) dX7_longPower_3 rfl (Nat.le_of_ble_eq_true rfl) rfl rfl ?_
  simp only [List.set_cons_succ, List.set_cons_zero]
  exact loop e 0 (by omega)

set_option maxHeartbeats 8000000 in
theorem k_X7_drawFor {G : ac_G} {Y : ac_Y} {mm : ac_M} {d x : Nat} {s : List Nat} {T : ac_Tk} {hs : List ac_Tk} {s0 s1 : Option ac_Tk} {obs : List ac_Ob} {ch : Int} {S : Nat} {l : List Nat} (hd : 4 ≤ d) (hM : ac_isM Y x) (hR : ac_RM mm x s T hs s0 s1 obs ch) (hN : ac_EN mm x S T.2.1 T.1 T.2.2.1 T.2.2.2.1) (hcl : ac_cl mm (x + 14) l) (hv : ac_vp S T.2.1 T.2.2.1 l) (hln : l.length + 1 ≤ T.1) : ac_C G yX7_drawFor cX7_drawFor 5 (some .boolean) d 0 0 Y mm [(2, (x : Int)), (0, ((l.length + 1 : Nat) : Int))] (ac_R Y [(0, ac_b ((ac_drw ((ac_mayS S T.2.1 T.2.2.1 T.2.2.2.1) l) T.2.1 (ac_lv (ac_lcg ch)) T.2.1 0).isSome = true))] (fun m => ac_RM m x s T hs s0 s1 obs (ac_lcg ch) ∧ ac_EN m x S T.2.1 T.1 T.2.2.1 T.2.2.2.1 ∧ ac_cl m (x + 14) ((ac_drw ((ac_mayS S T.2.1 T.2.2.1 T.2.2.2.1) l) T.2.1 (ac_lv (ac_lcg ch)) T.2.1 0).elim l (fun c => l ++ [c])) ∧ (∀ c, (ac_drw ((ac_mayS S T.2.1 T.2.2.1 T.2.2.2.1) l) T.2.1 (ac_lv (ac_lcg ch)) T.2.1 0) = some c → ac_vp S T.2.1 T.2.2.1 (l ++ [c])) ∧ ac_fM mm m x)) := by
  have hM9 := hM
  obtain ⟨kx, k1, k2, k3, k4, k5, k6, k7, k8, k9, k10, k11, k12, k13, k14, k15, k16⟩ := hM.2
  obtain ⟨-, ⟨hkk, hPg⟩, -⟩ := id hR
  obtain ⟨⟨⟨hn1, hn2⟩, ⟨hk2, hk3⟩, hE, hp0, hpr, hc0⟩, -⟩ := id hPg
  have hE4 := hE.1
  have hLn := ac_Lt_len T hn2
  obtain ⟨-, -, -, -, -, rc⟩ := id hR
  refine ac_met (on := (RX7, "drawFor")) rfl rfl (Nat.le_of_ble_eq_true rfl) (ls := [(2, (x : Int)), (0, ((l.length + 1 : Nat) : Int)), (3, 0), (3, 0), (3, 0)]) rfl ?_
  refine ac_aload_n (q := 1) dX7_drawFor_0 rfl rfl ?_
  refine ac_aload_n (q := 2) dX7_drawFor_1 rfl rfl ?_
  refine ac_get (q := 5) dX7_drawFor_2 fl_X7_269 kx rfl (w := (1, ch)) (by show (1, mm x 17) = _; rw [rc]) ?_
  refine ac_ldc2_w (q := 8) (v := 6364136223846793005) dX7_drawFor_5 rfl ct_X7_273 ?_
  refine ac_lmul (q := 9) dX7_drawFor_8 rfl ?_
  refine ac_ldc2_w (q := 12) (v := 1442695040888963407) dX7_drawFor_9 rfl ct_X7_275 ?_
  refine ac_ladd (q := 13) dX7_drawFor_12 rfl ?_
  refine ac_tv (w' := (1, ac_lcg ch)) (ac_nrm_v _) ?_
  refine ac_putL (q := 16) dX7_drawFor_13 fl_X7_269 (by assumption) rfl rfl ?_
  have hK : ∀ k', k' ≠ x → ac_up mm x 17 (ac_lcg ch) k' = mm k' := fun k' h => by funext j; exact ac_up_k h
  have hX : ∀ j, j ≠ 17 → ac_up mm x 17 (ac_lcg ch) x j = mm x j := fun j hj => ac_up_j hj
  have A1 : ac_RM (ac_up mm x 17 (ac_lcg ch)) x s T hs s0 s1 obs (ac_lcg ch) := by
    obtain ⟨⟨a1, a2, a3⟩, ⟨b1, b2⟩, ⟨c1, c2, c3⟩, ⟨⟨d1, d2⟩, d3, d4⟩, ⟨e1, e2, e3⟩, ff⟩ := hR
    exact ⟨⟨a1, by rw [hX 2 (by decide)]; exact a2, by rw [hK _ (by omega)]; exact a3⟩, ⟨by rw [hX 4 (by decide)]; exact b1, ac_RP_keep b2 (hK _ (by omega))⟩, ⟨c1, by rw [hX 10 (by decide)]; exact c2, fun i T2 hi => ⟨(c3 i T2 hi).1, ac_RP_keep (c3 i T2 hi).2 (ac_sh_k (hK _ (by omega)))⟩⟩, ⟨⟨by rw [hK _ (by omega)]; exact d1, by rw [hK _ (by omega)]; exact d2⟩, fun T2 hT => ⟨(d3 T2 hT).1, ac_RP_keep (d3 T2 hT).2 (ac_sh_k (hK _ (by omega)))⟩, fun T2 hT => ⟨(d4 T2 hT).1, ac_RP_keep (d4 T2 hT).2 (ac_sh_k (hK _ (by omega)))⟩⟩, ⟨e1, by rw [hX 13 (by decide)]; exact e2, by rw [hK (x + 8) (by omega), hK (x + 9) (by omega), hK (x + 10) (by omega)]; exact e3⟩, ac_up_s⟩
  have F1 : ac_fM mm (ac_up mm x 17 (ac_lcg ch)) x := fun k' hk' => hK k' (by omega)
  have N1 : ac_EN (ac_up mm x 17 (ac_lcg ch)) x S T.2.1 T.1 T.2.2.1 T.2.2.2.1 := ac_EN_keep0 hN hX (fun k' h => hK k' h)
  have cl1 : ac_cl (ac_up mm x 17 (ac_lcg ch)) (x + 14) l := ac_cl_keep hcl (hK _ (by omega))
  generalize ac_up mm x 17 (ac_lcg ch) = m1 at *
  have e4 := A1.2.1.1
  have hvl := ac_lv_lt (ac_lcg ch)
  have hml := Nat.mod_lt (ac_lv (ac_lcg ch)) (show T.2.1 > 0 by omega)
  refine ac_aload_n (q := 17) dX7_drawFor_16 rfl rfl ?_
  refine ac_get (q := 20) dX7_drawFor_17 fl_X7_269 kx rfl (w := (1, ac_lcg ch)) (by show (1, m1 x 17) = _; rw [A1.2.2.2.2.2]) ?_
  refine ac_bipush (q := 22) dX7_drawFor_20 rfl (by decide) ?_
  refine ac_lushr33 (q := 23) dX7_drawFor_22 rfl ?_
  refine ac_l2i (q := 24) dX7_drawFor_23 rfl ?_
  refine ac_top (w' := (0, ((ac_lv (ac_lcg ch) : Nat) : Int))) (congrArg (fun z : Int => ((0 : Nat), z)) (by unfold ac_lv; omega)) ?_
  refine ac_aload_n (q := 25) dX7_drawFor_24 rfl rfl ?_
  refine ac_get (q := 28) dX7_drawFor_25 fl_X7_13 kx rfl (ac_rdi rfl e4) ?_
  refine ac_irem (q := 29) dX7_drawFor_28 rfl ⟨by omega, by omega⟩ ⟨by omega, by omega⟩ (by omega) (by omega) ?_
  refine ac_top (w' := (0, (((ac_lv (ac_lcg ch) % T.2.1) : Nat) : Int))) (congrArg (fun z => ((0 : Nat), z)) (by rw [Int.ofNat_tmod])) ?_
  refine ac_istore_n (q := 30) (j := 2) rfl dX7_drawFor_29 rfl (Nat.le_of_ble_eq_true rfl) rfl rfl ?_
  simp only [List.set_cons_succ, List.set_cons_zero]
  refine ac_iconst (q := 31) dX7_drawFor_30 rfl ?_
  refine ac_istore_n (q := 32) (j := 3) rfl dX7_drawFor_31 rfl (Nat.le_of_ble_eq_true rfl) rfl rfl ?_
  simp only [List.set_cons_succ, List.set_cons_zero]
  have loop : ∀ (r i : Nat), i + r = T.2.1 → (ac_drw ((ac_mayS S T.2.1 T.2.2.1 T.2.2.2.1) l) T.2.1 (ac_lv (ac_lcg ch)) T.2.1 0) = ac_drw ((ac_mayS S T.2.1 T.2.2.1 T.2.2.2.1) l) T.2.1 (ac_lv (ac_lcg ch)) r i → ac_V G (RX7, "drawFor") cX7_drawFor 5 (some .boolean) d 0 0 (ac_R Y [(0, ac_b ((ac_drw ((ac_mayS S T.2.1 T.2.2.1 T.2.2.2.1) l) T.2.1 (ac_lv (ac_lcg ch)) T.2.1 0).isSome = true))] (fun m => ac_RM m x s T hs s0 s1 obs (ac_lcg ch) ∧ ac_EN m x S T.2.1 T.1 T.2.2.1 T.2.2.2.1 ∧ ac_cl m (x + 14) ((ac_drw ((ac_mayS S T.2.1 T.2.2.1 T.2.2.2.1) l) T.2.1 (ac_lv (ac_lcg ch)) T.2.1 0).elim l (fun c => l ++ [c])) ∧ (∀ c, (ac_drw ((ac_mayS S T.2.1 T.2.2.1 T.2.2.2.1) l) T.2.1 (ac_lv (ac_lcg ch)) T.2.1 0) = some c → ac_vp S T.2.1 T.2.2.1 (l ++ [c])) ∧ ac_fM mm m x)) 0 0 Y m1 32 [(2, (x : Int)), (0, ((l.length + 1 : Nat) : Int)), (0, (((ac_lv (ac_lcg ch) % T.2.1) : Nat) : Int)), (0, (i : Int)), (3, 0)] [] := by
    intro r
    induction r with
    | zero =>
      intro i hi he
      obtain rfl : i = T.2.1 := by omega
      rw [he]
      refine ac_iload_n (q := 33) dX7_drawFor_32 rfl rfl ?_
      refine ac_aload_n (q := 34) dX7_drawFor_33 rfl rfl ?_
      refine ac_get (q := 37) dX7_drawFor_34 fl_X7_13 kx rfl (ac_rdi rfl e4) ?_
      refine ac_icmp_ge (q := 40) (tgt := 91) dX7_drawFor_37 rfl rfl ⟨by omega, by omega⟩ ⟨by omega, by omega⟩ (fun h37 => ?_) (fun h37 => ?_)
      · refine ac_iconst (q := 92) dX7_drawFor_91 rfl ?_
        refine ac_zreturn dX7_drawFor_92 rfl (by first | exact ac_b01 | omega) (Nat.zero_le _) (Nat.zero_le _) ?_
        exact ⟨ac_l0 (by simp [ac_drw]), rfl, A1, N1, cl1, fun c h => (by simp [ac_drw] at h), F1⟩
      · exfalso; omega
    | succ r ih =>
      intro i hi he
      have ei : ((i : Nat) : Int) + 1 = ((i + 1 : Nat) : Int) := rfl
      have hml2 := Nat.mod_lt ((ac_lv (ac_lcg ch) % T.2.1) + i) (show T.2.1 > 0 by omega)
      rw [ac_drw] at he
      have hmy := @ac_mayS_iff S T.2.1 T.2.2.1 T.2.2.2.1 l (((ac_lv (ac_lcg ch) % T.2.1) + i) % T.2.1)
      refine ac_iload_n (q := 33) dX7_drawFor_32 rfl rfl ?_
      refine ac_aload_n (q := 34) dX7_drawFor_33 rfl rfl ?_
      refine ac_get (q := 37) dX7_drawFor_34 fl_X7_13 kx rfl (ac_rdi rfl e4) ?_
      refine ac_icmp_ge (q := 40) (tgt := 91) dX7_drawFor_37 rfl rfl ⟨by omega, by omega⟩ ⟨by omega, by omega⟩ (fun h37 => ?_) (fun h37 => ?_)
      · exfalso; omega
      · refine ac_iload_n (q := 41) dX7_drawFor_40 rfl rfl ?_
        refine ac_iload_n (q := 42) dX7_drawFor_41 rfl rfl ?_
        refine ac_iadd (q := 43) dX7_drawFor_42 rfl ?_
        refine ac_top (w' := (0, (((ac_lv (ac_lcg ch) % T.2.1) + i : Nat) : Int))) rfl ?_
        refine ac_aload_n (q := 44) dX7_drawFor_43 rfl rfl ?_
        refine ac_get (q := 47) dX7_drawFor_44 fl_X7_13 kx rfl (ac_rdi rfl e4) ?_
        refine ac_irem (q := 48) dX7_drawFor_47 rfl ⟨by omega, by omega⟩ ⟨by omega, by omega⟩ (by omega) (by omega) ?_
        refine ac_top (w' := (0, (((((ac_lv (ac_lcg ch) % T.2.1) + i) % T.2.1) : Nat) : Int))) (congrArg (fun z => ((0 : Nat), z)) (by rw [Int.ofNat_tmod])) ?_
        refine ac_istore (q := 50) dX7_drawFor_48 rfl (Nat.le_of_ble_eq_true rfl) rfl rfl ?_
        simp only [List.set_cons_succ, List.set_cons_zero]
        refine ac_aload_n (q := 51) dX7_drawFor_50 rfl rfl ?_
        refine ac_iload_n (q := 52) dX7_drawFor_51 rfl rfl ?_
        refine ac_iload (q := 54) dX7_drawFor_52 rfl rfl ?_
        refine ac_cvp (q := 57) (k_X7_allows (a := l.length + 1) (c := (((ac_lv (ac_lcg ch) % T.2.1) + i) % T.2.1)) (d := d - 1) (by omega) hM9 N1 ⟨by omega, by omega⟩ (by omega)) ml_X7_148 (by assumption) dX7_drawFor_54 rfl rfl rfl (by omega) (Nat.le_of_ble_eq_true rfl) (Nat.zero_le _) (Nat.zero_le _) ?_
        refine ac_bif_eq (q := 60) (tgt := 85) dX7_drawFor_57 rfl rfl (fun h57 => ?_) (fun h57 => ?_)
        · rw [if_neg (fun q => h57 (hmy.mp q).2.1)] at he
          refine ac_iinc (q := 88) dX7_drawFor_85 rfl (Nat.le_of_ble_eq_true rfl) rfl rfl rfl rfl ?_
          simp only [List.set_cons_succ, List.set_cons_zero]
          refine ac_goto (q := 32) dX7_drawFor_88 rfl ?_
          refine ac_drop [(2, (x : Int)), (0, ((l.length + 1 : Nat) : Int)), (0, (((ac_lv (ac_lcg ch) % T.2.1) : Nat) : Int)), (0, (i : Int) + 1), (3, 0)] (by repeat (first | exact trivial | refine ⟨Or.inl rfl, ?_⟩ | refine ⟨Or.inr rfl, ?_⟩)) ?_
          exact ac_ls (by rw [ei]) (ih (i + 1) (by omega) he)
        · refine ac_aload_n (q := 61) dX7_drawFor_60 rfl rfl ?_
          refine ac_iload_n (q := 62) dX7_drawFor_61 rfl rfl ?_
          refine ac_iload (q := 64) dX7_drawFor_62 rfl rfl ?_
          refine ac_cvp (q := 67) (k_X7_may (l := l) (c := (((ac_lv (ac_lcg ch) % T.2.1) + i) % T.2.1)) (d := d - 1) (by omega) hM9 N1.2.2.2.1 hE (by omega) (by omega) cl1 (hv.2 _ (by omega))) ml_X7_151 (by assumption) dX7_drawFor_64 rfl rfl rfl (by omega) (Nat.le_of_ble_eq_true rfl) (Nat.zero_le _) (Nat.zero_le _) ?_
          refine ac_bif_eq (q := 70) (tgt := 85) dX7_drawFor_67 rfl rfl (fun h67 => ?_) (fun h67 => ?_)
          · rw [if_neg (fun q => h67 (hmy.mp q).2.2)] at he
            refine ac_iinc (q := 88) dX7_drawFor_85 rfl (Nat.le_of_ble_eq_true rfl) rfl rfl rfl rfl ?_
            simp only [List.set_cons_succ, List.set_cons_zero]
            refine ac_goto (q := 32) dX7_drawFor_88 rfl ?_
            refine ac_drop [(2, (x : Int)), (0, ((l.length + 1 : Nat) : Int)), (0, (((ac_lv (ac_lcg ch) % T.2.1) : Nat) : Int)), (0, (i : Int) + 1), (3, 0)] (by repeat (first | exact trivial | refine ⟨Or.inl rfl, ?_⟩ | refine ⟨Or.inr rfl, ?_⟩)) ?_
            exact ac_ls (by rw [ei]) (ih (i + 1) (by omega) he)
          · refine ac_aload_n (q := 71) dX7_drawFor_70 rfl rfl ?_
            refine ac_get (q := 74) dX7_drawFor_71 fl_X7_54 (by assumption) rfl (ac_rdr rfl hM9.1.2.2.2.2.2.2.2.2.2.2.2.2.2.1) ?_
            refine ac_iload (q := 76) dX7_drawFor_74 rfl rfl ?_
            refine ac_dup2_11 (q := 77) dX7_drawFor_76 rfl (show (0 : Nat) ≠ 1 by decide) (show (2 : Nat) ≠ 1 by decide) ?_
            refine ac_ialoadN (q := 78) (j := (((ac_lv (ac_lcg ch) % T.2.1) + i) % T.2.1)) (v := ((ac_set l (((ac_lv (ac_lcg ch) % T.2.1) + i) % T.2.1) : Nat) : Int)) dX7_drawFor_77 k14 (by decide) (by omega) rfl (cl1 _ (by omega)) ?_
            refine ac_iconst (q := 79) dX7_drawFor_78 rfl ?_
            refine ac_iload_n (q := 80) dX7_drawFor_79 rfl rfl ?_
            refine ac_ishl1 (q := 81) (k := l.length + 1) dX7_drawFor_80 rfl (by omega) ?_
            refine ac_ior (q := 82) dX7_drawFor_81 rfl ?_
            refine ac_top (w' := (0, ((ac_set (l ++ [(((ac_lv (ac_lcg ch) % T.2.1) + i) % T.2.1)]) (((ac_lv (ac_lcg ch) % T.2.1) + i) % T.2.1) : Nat) : Int))) (by rw [ac_set_up]) ?_
            refine ac_iastoreN (q := 83) (j := (((ac_lv (ac_lcg ch) % T.2.1) + i) % T.2.1)) dX7_drawFor_82 k14 (by decide) (by omega) rfl ?_
            refine ac_iconst (q := 84) dX7_drawFor_83 rfl ?_
            refine ac_zreturn dX7_drawFor_84 rfl (by first | exact ac_b01 | omega) (Nat.zero_le _) (Nat.zero_le _) ?_
            have hyes := hmy.mpr ⟨by omega, h57, h67⟩
            rw [if_pos hyes] at he
            rw [he]
            have hK : ∀ k', k' ≠ x + 14 → ac_up m1 (x + 14) (((ac_lv (ac_lcg ch) % T.2.1) + i) % T.2.1) ((ac_set (l ++ [(((ac_lv (ac_lcg ch) % T.2.1) + i) % T.2.1)]) (((ac_lv (ac_lcg ch) % T.2.1) + i) % T.2.1) : Nat) : Int) k' = m1 k' := fun k' h => by funext j; exact ac_up_k h
            exact ⟨ac_l1 rfl, rfl, ac_RM_e A1 (fun k' hk' => hK k' (by omega)) (fun j hj => by rw [hK x (by omega)]), ac_EN_keep N1 (fun j _ => by rw [hK x (by omega)]) (hK _ (by omega)) (hK _ (by omega)) (hK _ (by omega)) (hK _ (by omega)), ac_cl_lay cl1 (fun j => by unfold ac_up; simp), fun c hc => by cases hc; exact ac_vp_snoc hv hyes, ac_fM_t F1 (fun k' hk' => hK k' (by omega))⟩
  exact loop T.2.1 0 (by omega) rfl

set_option maxHeartbeats 8000000 in
theorem k_X7_drawn {G : ac_G} {Y : ac_Y} {mm : ac_M} {d x : Nat} {s : List Nat} {T : ac_Tk} {hs : List ac_Tk} {s0 s1 : Option ac_Tk} {obs : List ac_Ob} {ch : Int} {v : Int} (hd : 30 ≤ d) (hM : ac_isM Y x) (hR : ac_RM mm x s T hs s0 s1 obs ch) (hv : ac_in v) : ac_C G yX7_drawn cX7_drawn 5 (some .int) d 0 0 Y mm [(2, (x : Int)), (0, v)] (ac_R Y [(0, (if 1 ≤ v ∧ v ≤ 9 then (((ac_dn T v.toNat ch).1 : Nat) : Int) else -2))] (fun m => ac_RM m x s T hs s0 s1 obs (if 1 ≤ v ∧ v ≤ 9 then (ac_dn T v.toNat ch).2 else ch) ∧ ac_fM mm m x)) := by
  have hM9 := hM
  obtain ⟨kx, k1, k2, k3, k4, k5, k6, k7, k8, k9, k10, k11, k12, k13, k14, k15, k16⟩ := hM.2
  obtain ⟨-, ⟨hkk, hPg⟩, -⟩ := id hR
  obtain ⟨⟨⟨hn1, hn2⟩, ⟨hk2, hk3⟩, hE, hp0, hpr, hc0⟩, -⟩ := id hPg
  have hE4 := hE.1
  have hLn := ac_Lt_len T hn2
  obtain ⟨hv1, hv2⟩ := hv
  refine ac_met (on := (RX7, "drawn")) rfl rfl (Nat.le_of_ble_eq_true rfl) (ls := [(2, (x : Int)), (0, v), (3, 0), (3, 0), (3, 0)]) rfl ?_
  refine ac_aload_n (q := 1) dX7_drawn_0 rfl rfl ?_
  refine ac_iconst (q := 2) dX7_drawn_1 rfl ?_
  refine ac_put (q := 5) dX7_drawn_2 fl_X7_67 (by assumption) rfl rfl ?_
  have A0 := ac_up0_RM hR
  have F0 : ac_fM mm (ac_up mm x 0 0) x := ac_up0_fM
  generalize ac_up mm x 0 0 = m0 at *
  obtain ⟨q4, qP⟩ := A0.2.1
  obtain ⟨-, p0, p1, pE, pp, p28, pcb, pcl⟩ := id qP
  refine ac_iload_n (q := 6) dX7_drawn_5 rfl rfl ?_
  refine ac_i2l (q := 7) dX7_drawn_6 rfl ⟨by omega, by omega⟩ ?_
  refine ac_lconst (q := 8) (v := 1) dX7_drawn_7 rfl (by decide) ?_
  refine ac_ldc2_w (q := 11) (v := 9) dX7_drawn_8 rfl ct_X7_96 ?_
  refine ac_csp (q := 14) (k_X7_in (d := d - 1) (by omega) ⟨by omega, by omega⟩ ⟨by omega, by omega⟩ ⟨by omega, by omega⟩) ml_X7_72 dX7_drawn_11 rfl rfl rfl (by omega) (Nat.le_of_ble_eq_true rfl) (Nat.zero_le _) (Nat.zero_le _) ?_
  refine ac_bif_ne (q := 17) (tgt := 20) dX7_drawn_14 rfl rfl (fun h14 => ?_) (fun h14 => ?_)
  · have hyes : 1 ≤ v ∧ v ≤ 9 := by omega
    obtain ⟨v, rfl⟩ := Int.eq_ofNat_of_zero_le (a := v) (by omega)
    refine ac_iconst (q := 21) dX7_drawn_20 rfl ?_
    refine ac_istore_n (q := 22) (j := 2) rfl dX7_drawn_21 rfl (Nat.le_of_ble_eq_true rfl) rfl rfl ?_
    simp only [List.set_cons_succ, List.set_cons_zero]
    refine ac_iconst (q := 23) dX7_drawn_22 rfl ?_
    refine ac_istore_n (q := 24) (j := 3) rfl dX7_drawn_23 rfl (Nat.le_of_ble_eq_true rfl) rfl rfl ?_
    simp only [List.set_cons_succ, List.set_cons_zero]
    have inner : ∀ (f i q : Nat) (l : List Nat) (c0 c : Int) (m : ac_M), l.length + f = T.1 → q ≤ 200 → ac_RM m x s T hs s0 s1 obs c → ac_EN m x (2 ^ T.2.2.1.length - 1) T.2.1 T.1 T.2.2.1 T.2.2.2.1 → ac_cl m (x + 14) l → ac_vp (2 ^ T.2.2.1.length - 1) T.2.1 T.2.2.1 l → ac_fM mm m x → (ac_dra (ac_may T.2.1 T.2.2.1 T.2.2.2.1) T.2.1 T.1 [] c0) = ac_dra (ac_may T.2.1 T.2.2.1 T.2.2.2.1) T.2.1 f l c → (∀ m, ac_RM m x s T hs s0 s1 obs (ac_dra (ac_may T.2.1 T.2.2.1 T.2.2.2.1) T.2.1 T.1 [] c0).2 → ac_fM mm m x → ac_V G (RX7, "drawn") cX7_drawn 5 (some .int) d 0 0 (ac_R Y [(0, (if 1 ≤ (v : Int) ∧ (v : Int) ≤ 9 then (((ac_dn T (v : Int).toNat ch).1 : Nat) : Int) else -2))] (fun m => ac_RM m x s T hs s0 s1 obs (if 1 ≤ (v : Int) ∧ (v : Int) ≤ 9 then (ac_dn T (v : Int).toNat ch).2 else ch) ∧ ac_fM mm m x)) 0 0 Y m 67 [(2, (x : Int)), (0, (v : Int)), (0, ((q + (ac_dra (ac_may T.2.1 T.2.2.1 T.2.2.2.1) T.2.1 T.1 [] c0).1 : Nat) : Int)), (0, (i : Int)), (3, 0)] []) → ac_V G (RX7, "drawn") cX7_drawn 5 (some .int) d 0 0 (ac_R Y [(0, (if 1 ≤ (v : Int) ∧ (v : Int) ≤ 9 then (((ac_dn T (v : Int).toNat ch).1 : Nat) : Int) else -2))] (fun m => ac_RM m x s T hs s0 s1 obs (if 1 ≤ (v : Int) ∧ (v : Int) ≤ 9 then (ac_dn T (v : Int).toNat ch).2 else ch) ∧ ac_fM mm m x)) 0 0 Y m 40 [(2, (x : Int)), (0, (v : Int)), (0, ((q + l.length : Nat) : Int)), (0, (i : Int)), (0, ((l.length + 1 : Nat) : Int))] [] := by
      intro f
      induction f with
      | zero =>
        intro i q l c0 c m hl hq A N hcl hv F he hK
        have h22 := N.2.2.1
        rw [ac_dra] at he
        rw [he] at hK
        refine ac_iload (q := 42) dX7_drawn_40 rfl rfl ?_
        refine ac_aload_n (q := 43) dX7_drawn_42 rfl rfl ?_
        refine ac_get (q := 46) dX7_drawn_43 fl_X7_142 kx rfl (ac_rdi rfl h22) ?_
        refine ac_icmp_gt (q := 49) (tgt := 67) dX7_drawn_46 rfl rfl ⟨by omega, by omega⟩ ⟨by omega, by omega⟩ (fun h46 => ?_) (fun h46 => ?_)
        · refine ac_drop [(2, (x : Int)), (0, (v : Int)), (0, ((q + l.length : Nat) : Int)), (0, (i : Int)), (3, 0)] (by repeat (first | exact trivial | refine ⟨Or.inl rfl, ?_⟩ | refine ⟨Or.inr rfl, ?_⟩)) ?_
          exact hK m A F
        · exfalso; omega
      | succ f ih =>
        intro i q l c0 c m hl hq A N hcl hv F he hK
        have h22 := N.2.2.1
        rw [ac_dra, ac_may_all] at he
        refine ac_iload (q := 42) dX7_drawn_40 rfl rfl ?_
        refine ac_aload_n (q := 43) dX7_drawn_42 rfl rfl ?_
        refine ac_get (q := 46) dX7_drawn_43 fl_X7_142 kx rfl (ac_rdi rfl h22) ?_
        refine ac_icmp_gt (q := 49) (tgt := 67) dX7_drawn_46 rfl rfl ⟨by omega, by omega⟩ ⟨by omega, by omega⟩ (fun h46 => ?_) (fun h46 => ?_)
        · exfalso; omega
        · refine ac_aload_n (q := 50) dX7_drawn_49 rfl rfl ?_
          refine ac_iload (q := 52) dX7_drawn_50 rfl rfl ?_
          refine ac_cv (q := 55) (k_X7_drawFor (l := l) (S := (2 ^ T.2.2.1.length - 1)) (d := d - 1) (by omega) hM9 A N hcl hv (by omega)) ml_X7_277 (by assumption) dX7_drawn_52 rfl rfl rfl (by omega) (Nat.le_of_ble_eq_true rfl) (Nat.zero_le _) (Nat.zero_le _) (fun m2 h2 => ?_)
          obtain ⟨A2, N2, cl2, v2, f2⟩ := h2
          have F2 : ac_fM mm m2 x := ac_fM_t F f2
          generalize ac_drw (ac_mayS (2 ^ T.2.2.1.length - 1) T.2.1 T.2.2.1 T.2.2.2.1 l) T.2.1 (ac_lv (ac_lcg c)) T.2.1 0 = o at *
          refine ac_bif_eq (q := 58) (tgt := 67) dX7_drawn_55 rfl rfl (fun h55 => ?_) (fun h55 => ?_)
          · cases o with
            | some z => exact absurd rfl h55
            | none =>
              simp only at he
              rw [← ac_may_all] at he
              rw [he] at hK
              refine ac_drop [(2, (x : Int)), (0, (v : Int)), (0, ((q + l.length : Nat) : Int)), (0, (i : Int)), (3, 0)] (by repeat (first | exact trivial | refine ⟨Or.inl rfl, ?_⟩ | refine ⟨Or.inr rfl, ?_⟩)) ?_
              exact hK m2 A2 F2
          · refine ac_iinc (q := 61) dX7_drawn_58 rfl (Nat.le_of_ble_eq_true rfl) rfl rfl rfl rfl ?_
            simp only [List.set_cons_succ, List.set_cons_zero]
            refine ac_iinc (q := 64) dX7_drawn_61 rfl (Nat.le_of_ble_eq_true rfl) rfl rfl rfl rfl ?_
            simp only [List.set_cons_succ, List.set_cons_zero]
            refine ac_goto (q := 40) dX7_drawn_64 rfl ?_
            cases o with
            | none => exact absurd h55 (by simp)
            | some z =>
              simp only at he
              rw [← ac_may_all] at he
              have hlz : (l ++ [z]).length = l.length + 1 := by rw [List.length_append]; rfl
              exact ac_ls (by rw [hlz]; rfl) (ih i q (l ++ [z]) c0 (ac_lcg c) m2 (by omega) hq A2 N2 cl2 (v2 z rfl) F2 he hK)
    have loop : ∀ (r i : Nat) (m : ac_M), i + r = v → ac_RM m x s T hs s0 s1 obs (ac_dn T i ch).2 → ac_fM mm m x → ac_V G (RX7, "drawn") cX7_drawn 5 (some .int) d 0 0 (ac_R Y [(0, (if 1 ≤ (v : Int) ∧ (v : Int) ≤ 9 then (((ac_dn T (v : Int).toNat ch).1 : Nat) : Int) else -2))] (fun m => ac_RM m x s T hs s0 s1 obs (if 1 ≤ (v : Int) ∧ (v : Int) ≤ 9 then (ac_dn T (v : Int).toNat ch).2 else ch) ∧ ac_fM mm m x)) 0 0 Y m 24 [(2, (x : Int)), (0, (v : Int)), (0, (((ac_dn T i ch).1 : Nat) : Int)), (0, (i : Int)), (3, 0)] [] := by
      intro r
      induction r with
      | zero =>
        intro i m hi A fm
        obtain rfl : i = v := by omega
        refine ac_iload_n (q := 25) dX7_drawn_24 rfl rfl ?_
        refine ac_iload_n (q := 26) dX7_drawn_25 rfl rfl ?_
        refine ac_icmp_ge (q := 29) (tgt := 73) dX7_drawn_26 rfl rfl ⟨by omega, by omega⟩ ⟨by omega, by omega⟩ (fun h26 => ?_) (fun h26 => ?_)
        · refine ac_iload_n (q := 74) dX7_drawn_73 rfl rfl ?_
          refine ac_ireturn dX7_drawn_74 rfl (Nat.zero_le _) (Nat.zero_le _) ?_
          simp only [Int.toNat_natCast]
          rw [if_pos hyes, if_pos hyes]; exact ⟨rfl, rfl, A, fm⟩
        · exfalso; omega
      | succ r ih =>
        intro i m hi A fm
        have ei : ((i : Nat) : Int) + 1 = ((i + 1 : Nat) : Int) := rfl
        have hle := ac_dn_le T hn2 i ch
        have hs := fun m => ih (i + 1) m (by omega)
        have hdn : ac_dn T (i + 1) ch = ((ac_dn T i ch).1 + (ac_dra (ac_may T.2.1 T.2.2.1 T.2.2.2.1) T.2.1 T.1 [] (ac_dn T i ch).2).1, (ac_dra (ac_may T.2.1 T.2.2.1 T.2.2.2.1) T.2.1 T.1 [] (ac_dn T i ch).2).2) := rfl
        rw [hdn] at hs
        simp only at hs
        refine ac_iload_n (q := 25) dX7_drawn_24 rfl rfl ?_
        refine ac_iload_n (q := 26) dX7_drawn_25 rfl rfl ?_
        refine ac_icmp_ge (q := 29) (tgt := 73) dX7_drawn_26 rfl rfl ⟨by omega, by omega⟩ ⟨by omega, by omega⟩ (fun h26 => ?_) (fun h26 => ?_)
        · exfalso; omega
        · refine ac_aload_n (q := 30) dX7_drawn_29 rfl rfl ?_
          refine ac_aload_n (q := 31) dX7_drawn_30 rfl rfl ?_
          refine ac_get (q := 34) dX7_drawn_31 fl_X7_20 (by assumption) rfl (ac_rdr rfl hM9.1.2.2.1) ?_
          refine ac_cv (q := 37) (k_X7_beginAll2 (r := x + 3) (T := T) (d := d - 1) (by omega) hM9 (Or.inl rfl) A.2.1.2 A.2.1.1) ml_X7_171 (by assumption) dX7_drawn_34 rfl rfl rfl (by omega) (Nat.le_of_ble_eq_true rfl) (Nat.zero_le _) (Nat.zero_le _) (fun m3 h3 => ?_)
          obtain ⟨N3, ⟨cl3, -⟩, E3⟩ := h3
          have A3 := ac_RM_fE A E3
          have F3 := ac_fM_t fm (ac_fE_fM E3)
          refine ac_iconst (q := 38) dX7_drawn_37 rfl ?_
          refine ac_istore (q := 40) dX7_drawn_38 rfl (Nat.le_of_ble_eq_true rfl) rfl rfl ?_
          simp only [List.set_cons_succ, List.set_cons_zero]
          refine inner T.1 i (ac_dn T i ch).1 [] (ac_dn T i ch).2 (ac_dn T i ch).2 m3 (by simp) (by omega) A3 N3 cl3 ac_vp_nil F3 rfl (fun m A F => ?_)
          refine ac_iinc (q := 70) dX7_drawn_67 rfl (Nat.le_of_ble_eq_true rfl) rfl rfl rfl rfl ?_
          simp only [List.set_cons_succ, List.set_cons_zero]
          refine ac_goto (q := 24) dX7_drawn_70 rfl ?_
          exact ac_ls (by rw [ei]) (hs m A F)
    exact loop v 0 m0 (by omega) A0 F0
  · refine ac_bipush (q := 19) dX7_drawn_17 rfl (by decide) ?_
    refine ac_ireturn dX7_drawn_19 rfl (Nat.zero_le _) (Nat.zero_le _) ?_
    have hno : ¬ (1 ≤ v ∧ v ≤ 9) := by omega
    rw [if_neg hno, if_neg hno]; exact ⟨rfl, rfl, A0, F0⟩
