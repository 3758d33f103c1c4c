/-- how many codes there are, those seen left out -/
def ac_dc : List Nat → List (List Nat) → Nat
  | _, [] => 0
  | sn, l :: L => if ac_cod l ∈ sn then ac_dc sn L else 1 + ac_dc (ac_cod l :: sn) L

set_option maxHeartbeats 8000000 in
theorem k_X7_kinds0 {G : ac_G} {Y : ac_Y} {mm : ac_M} {d x : Nat} {T : ac_Tk} (hd : 8 ≤ d) (hM : ac_isM Y x) (rP : ac_RP mm (x + 3) T) (hk : mm x 4 = (T.2.1 : Int)) : ac_C G yX7_kinds cX7_kinds 3 (some .int) d 0 0 Y mm [(2, (x : Int))] (ac_R Y [(0, (ac_dc [] (ac_Lt T) : Int))] (fun m => ac_fG mm m x)) := by
  have hM9 := hM
  obtain ⟨kx, k1, k2, k3, k4, k5, k6, k7, k8, k9, k10, k11, k12, k13, k14, k15, k16⟩ := hM.2
  obtain ⟨⟨⟨hn1, hn2⟩, ⟨hk2, hk3⟩, hE, hp0, hpr, hc0⟩, -⟩ := id rP
  obtain ⟨S, hS⟩ : ∃ S, S = 2 ^ T.2.2.1.length - 1 := ⟨_, rfl⟩
  have loop : ∀ (rem : List (List Nat)) (m : ac_M) (sn : List Nat) (e : Nat) (zz : Nat × Int), zz.1 ≠ 1 → ac_EN m x S T.2.1 T.1 T.2.2.1 T.2.2.2.1 → ac_PO m x S T.2.1 T.1 T.2.2.1 T.2.2.2.1 rem → ac_fG mm m x → (∀ j, j < 59049 → m (x + 15) j = ac_b (j ∈ sn)) → ac_dc [] (ac_Lt T) = e + ac_dc sn rem → ac_V G (RX7, "kinds") cX7_kinds 3 (some .int) d 0 0 (ac_R Y [(0, (ac_dc [] (ac_Lt T) : Int))] (fun m => ac_fG mm m x)) 0 0 Y m 31 [(2, (x : Int)), (0, (e : Int)), zz] [] := by
    intro rem
    induction rem with
    | nil =>
      intro m sn e zz hzz hN hP hf hmet he
      obtain ⟨z1, z2⟩ := zz
      refine ac_aload_n (q := 32) dX7_kinds_31 rfl rfl ?_
      refine ac_cv (q := 35) (k_X7_more (d := d - 1) (by omega) hM9 hN hP) ml_X7_164 (by assumption) dX7_kinds_32 rfl rfl rfl (by omega) (Nat.le_of_ble_eq_true rfl) (Nat.zero_le _) (Nat.zero_le _) (fun m1 h1 => ?_)
      obtain ⟨N1, F1, c1⟩ := h1
      refine ac_bif_eq (q := 38) (tgt := 70) dX7_kinds_35 rfl rfl (fun h35 => ?_) (fun h35 => ?_)
      · refine ac_iload_n (q := 71) dX7_kinds_70 rfl rfl ?_
        refine ac_ireturn dX7_kinds_71 rfl (Nat.zero_le _) (Nat.zero_le _) ?_
        exact ⟨by rw [he]; rfl, rfl, ac_fG_t hf (ac_fE_fG F1)⟩
      · exact absurd rfl h35
    | cons y rem ih =>
      intro m sn e zz hzz hN hP hf hmet he
      obtain ⟨z1, z2⟩ := zz
      rw [ac_dc] at he
      refine ac_aload_n (q := 32) dX7_kinds_31 rfl rfl ?_
      refine ac_cv (q := 35) (k_X7_more (d := d - 1) (by omega) hM9 hN hP) ml_X7_164 (by assumption) dX7_kinds_32 rfl rfl rfl (by omega) (Nat.le_of_ble_eq_true rfl) (Nat.zero_le _) (Nat.zero_le _) (fun m1 h1 => ?_)
      obtain ⟨N1, F1, c1⟩ := h1
      obtain ⟨P1, wy1, ly1, ck1⟩ := c1 y rem rfl
      have G1 : ac_fG mm m1 x := ac_fG_t hf (ac_fE_fG F1)
      have hcl := ac_cod_lt (l := y) (by omega)
      have met1 : ∀ j, j < 59049 → m1 (x + 15) j = ac_b (j ∈ sn) := fun j hj => by rw [F1.1 (x + 15) (by omega) (by omega)]; exact hmet j hj
      refine ac_bif_eq (q := 38) (tgt := 70) dX7_kinds_35 rfl rfl (fun h35 => ?_) (fun h35 => ?_)
      · exact absurd (List.cons_ne_nil y rem) h35
      · refine ac_aload_n (q := 39) dX7_kinds_38 rfl rfl ?_
        refine ac_cvp (q := 42) (k_X7_codeOf (l := y) (d := d - 1) (by omega) hM9 (by omega) (fun c hc => by have := ck1 c hc; omega) wy1 (by rw [ly1]; exact N1.2.2.1)) ml_X7_225 (by assumption) dX7_kinds_39 rfl rfl rfl (by omega) (Nat.le_of_ble_eq_true rfl) (Nat.zero_le _) (Nat.zero_le _) ?_
        generalize ac_cod y = cy at *
        refine ac_istore_n (q := 43) (j := 2) rfl dX7_kinds_42 rfl (Nat.le_of_ble_eq_true rfl) rfl rfl ?_
        simp only [List.set_cons_succ, List.set_cons_zero]
        refine ac_iload_n (q := 44) dX7_kinds_43 rfl rfl ?_
        refine ac_aload_n (q := 45) dX7_kinds_44 rfl rfl ?_
        refine ac_get (q := 48) dX7_kinds_45 fl_X7_61 (by assumption) rfl (ac_rdr rfl hM9.1.2.2.2.2.2.2.2.2.2.2.2.2.2.2.1) ?_
        refine ac_iload_n (q := 49) dX7_kinds_48 rfl rfl ?_
        refine ac_baloadN (q := 50) (j := cy) (v := ac_b (cy ∈ sn)) dX7_kinds_49 k15 (by decide) hcl rfl (met1 _ hcl) ?_
        refine ac_bif_eq (q := 53) (tgt := 57) dX7_kinds_50 rfl rfl (fun h50 => ?_) (fun h50 => ?_)
        · rw [if_neg h50] at he
          have ee : ((e : Nat) : Int) + 1 = ((e + 1 : Nat) : Int) := rfl
          refine ac_iconst (q := 58) dX7_kinds_57 rfl ?_
          refine ac_iadd (q := 59) dX7_kinds_58 rfl ?_
          refine ac_istore_n (q := 60) (j := 1) rfl dX7_kinds_59 rfl (Nat.le_of_ble_eq_true rfl) rfl rfl ?_
          simp only [List.set_cons_succ, List.set_cons_zero]
          refine ac_aload_n (q := 61) dX7_kinds_60 rfl rfl ?_
          refine ac_get (q := 64) dX7_kinds_61 fl_X7_61 (by assumption) rfl (ac_rdr rfl hM9.1.2.2.2.2.2.2.2.2.2.2.2.2.2.2.1) ?_
          refine ac_iload_n (q := 65) dX7_kinds_64 rfl rfl ?_
          refine ac_iconst (q := 66) dX7_kinds_65 rfl ?_
          refine ac_bastoreN (q := 67) (j := cy) dX7_kinds_66 k15 (by decide) hcl (by omega) rfl ?_
          refine ac_goto (q := 31) dX7_kinds_67 rfl ?_
          have hk2 : ∀ k', k' ≠ x + 15 → ac_up m1 (x + 15) cy 1 k' = m1 k' := fun k' h => by funext j; exact ac_up_k h
          have N2 : ac_EN (ac_up m1 (x + 15) cy 1) x S T.2.1 T.1 T.2.2.1 T.2.2.2.1 := ac_EN_keep N1 (fun j _ => by rw [hk2 x (by omega)]) (hk2 _ (by omega)) (hk2 _ (by omega)) (hk2 _ (by omega)) (hk2 _ (by omega))
          have P2 : ac_PO (ac_up m1 (x + 15) cy 1) x S T.2.1 T.1 T.2.2.1 T.2.2.2.1 rem := by
            unfold ac_PO ac_wy ac_cl at P1 ⊢
            rw [hk2 x (by omega), hk2 (x + 13) (by omega), hk2 (x + 14) (by omega)]; exact P1
          have met2 : ∀ j, j < 59049 → ac_up m1 (x + 15) cy 1 (x + 15) j = ac_b (j ∈ cy :: sn) := fun j hj => by
            by_cases hjc : j = cy
            · subst hjc; rw [ac_up_s, ac_b1 (List.mem_cons_self ..)]
            · rw [ac_up_j hjc, met1 j hj]
              by_cases hm : j ∈ sn
              · rw [ac_b1 hm, ac_b1 (List.mem_cons_of_mem _ hm)]
              · rw [ac_b0 hm, ac_b0 (fun q => (List.mem_cons.mp q).elim hjc hm)]
          first
            | exact ac_ls (by rw [ee]) (ih _ (cy :: sn) (e + 1) (0, (cy : Int)) (show (0 : Nat) ≠ 1 by decide) N2 P2 (ac_fG_u G1 (by omega)) met2 (by rw [he]; omega))
            | exact ac_ls (by rw [Int.add_zero]) (ih _ sn e (0, (cy : Int)) (show (0 : Nat) ≠ 1 by decide) N2 P2 (ac_fG_u G1 (by omega)) (fun j hj => by
                by_cases hjc : j = cy
                · subst hjc; rw [ac_up_s, ac_b1 h50]
                · rw [ac_up_j hjc]; exact met1 j hj) he)
        · rw [if_pos h50] at he
          refine ac_iconst (q := 54) dX7_kinds_53 rfl ?_
          refine ac_goto (q := 58) dX7_kinds_54 rfl ?_
          refine ac_iadd (q := 59) dX7_kinds_58 rfl ?_
          refine ac_istore_n (q := 60) (j := 1) rfl dX7_kinds_59 rfl (Nat.le_of_ble_eq_true rfl) rfl rfl ?_
          simp only [List.set_cons_succ, List.set_cons_zero]
          refine ac_aload_n (q := 61) dX7_kinds_60 rfl rfl ?_
          refine ac_get (q := 64) dX7_kinds_61 fl_X7_61 (by assumption) rfl (ac_rdr rfl hM9.1.2.2.2.2.2.2.2.2.2.2.2.2.2.2.1) ?_
          refine ac_iload_n (q := 65) dX7_kinds_64 rfl rfl ?_
          refine ac_iconst (q := 66) dX7_kinds_65 rfl ?_
          refine ac_bastoreN (q := 67) (j := cy) dX7_kinds_66 k15 (by decide) hcl (by omega) rfl ?_
          refine ac_goto (q := 31) dX7_kinds_67 rfl ?_
          have hk2 : ∀ k', k' ≠ x + 15 → ac_up m1 (x + 15) cy 1 k' = m1 k' := fun k' h => by funext j; exact ac_up_k h
          have N2 : ac_EN (ac_up m1 (x + 15) cy 1) x S T.2.1 T.1 T.2.2.1 T.2.2.2.1 := ac_EN_keep N1 (fun j _ => by rw [hk2 x (by omega)]) (hk2 _ (by omega)) (hk2 _ (by omega)) (hk2 _ (by omega)) (hk2 _ (by omega))
          have P2 : ac_PO (ac_up m1 (x + 15) cy 1) x S T.2.1 T.1 T.2.2.1 T.2.2.2.1 rem := by
            unfold ac_PO ac_wy ac_cl at P1 ⊢
            rw [hk2 x (by omega), hk2 (x + 13) (by omega), hk2 (x + 14) (by omega)]; exact P1
          have met2 : ∀ j, j < 59049 → ac_up m1 (x + 15) cy 1 (x + 15) j = ac_b (j ∈ cy :: sn) := fun j hj => by
            by_cases hjc : j = cy
            · subst hjc; rw [ac_up_s, ac_b1 (List.mem_cons_self ..)]
            · rw [ac_up_j hjc, met1 j hj]
              by_cases hm : j ∈ sn
              · rw [ac_b1 hm, ac_b1 (List.mem_cons_of_mem _ hm)]
              · rw [ac_b0 hm, ac_b0 (fun q => (List.mem_cons.mp q).elim hjc hm)]
          first
            | exact ac_ls (by rw [ee]) (ih _ (cy :: sn) (e + 1) (0, (cy : Int)) (show (0 : Nat) ≠ 1 by decide) N2 P2 (ac_fG_u G1 (by omega)) met2 (by rw [he]; omega))
            | exact ac_ls (by rw [Int.add_zero]) (ih _ sn e (0, (cy : Int)) (show (0 : Nat) ≠ 1 by decide) N2 P2 (ac_fG_u G1 (by omega)) (fun j hj => by
                by_cases hjc : j = cy
                · subst hjc; rw [ac_up_s, ac_b1 h50]
                · rw [ac_up_j hjc]; exact met1 j hj) he)
  have zero : ∀ (f i : Nat), i + f = 59049 → ac_V G (RX7, "kinds") cX7_kinds 3 (some .int) d 0 0 (ac_R Y [(0, (ac_dc [] (ac_Lt T) : Int))] (fun m => ac_fG mm m x)) 0 0 Y (ac_zr mm (x + 15) 0 i) 2 [(2, (x : Int)), (0, (i : Int)), (3, 0)] [] := by
    intro f
    induction f with
    | zero =>
      intro i hi
      obtain rfl : i = 59049 := by omega
      have hzk : ∀ k', k' ≠ x + 15 → ac_zr mm (x + 15) 0 59049 k' = mm k' := fun k' h => ac_zr_k h
      have hz0 : ∀ j, j < 59049 → ac_zr mm (x + 15) 0 59049 (x + 15) j = 0 := fun j hj => ac_zr_at (Nat.zero_le _) hj
      generalize ac_zr mm (x + 15) 0 59049 = m0 at *
      refine ac_iload_n (q := 3) dX7_kinds_2 rfl rfl ?_
      refine ac_ldc (q := 5) (v := 59049) dX7_kinds_3 rfl ct_X7_60 ?_
      refine ac_icmp_ge (q := 8) (tgt := 21) dX7_kinds_5 rfl rfl ⟨by omega, by omega⟩ ⟨by omega, by omega⟩ (fun h5 => ?_) (fun h5 => ?_)
      · refine ac_iconst (q := 22) dX7_kinds_21 rfl ?_
        refine ac_istore_n (q := 23) (j := 1) rfl dX7_kinds_22 rfl (Nat.le_of_ble_eq_true rfl) rfl rfl ?_
        simp only [List.set_cons_succ, List.set_cons_zero]
        refine ac_aload_n (q := 24) dX7_kinds_23 rfl rfl ?_
        refine ac_aload_n (q := 25) dX7_kinds_24 rfl rfl ?_
        refine ac_get (q := 28) dX7_kinds_25 fl_X7_20 (by assumption) rfl (ac_rdr rfl hM9.1.2.2.1) ?_
        refine ac_cv (q := 31) (k_X7_beginAll (r := x + 3) (T := T) (d := d - 1) (by omega) hM9 (Or.inl rfl) (ac_RP_keep rP (hzk _ (by omega))) (by rw [hzk x (by omega)]; exact hk)) ml_X7_171 (by assumption) dX7_kinds_28 rfl rfl rfl (by omega) (Nat.le_of_ble_eq_true rfl) (Nat.zero_le _) (Nat.zero_le _) (fun m1 h1 => ?_)
        rw [← hS] at h1
        obtain ⟨N1, P1, F1⟩ := h1
        exact loop _ m1 [] 0 (3, 0) (show (3 : Nat) ≠ 1 by decide) N1 P1 (ac_fG_t (ac_fG_c (fun k' a => hzk k' (by omega))) (ac_fE_fG F1)) (fun j hj => by rw [F1.1 (x + 15) (by omega) (by omega), hz0 j hj]; rfl) (by rw [Nat.zero_add])
      · exfalso; omega
    | succ f ih =>
      intro i hi
      have ei : ((i : Nat) : Int) + 1 = ((i + 1 : Nat) : Int) := rfl
      have hs := ih (i + 1) (by omega)
      rw [← ac_zr_s (Nat.zero_le _)] at hs
      refine ac_iload_n (q := 3) dX7_kinds_2 rfl rfl ?_
      refine ac_ldc (q := 5) (v := 59049) dX7_kinds_3 rfl ct_X7_60 ?_
      refine ac_icmp_ge (q := 8) (tgt := 21) dX7_kinds_5 rfl rfl ⟨by omega, by omega⟩ ⟨by omega, by omega⟩ (fun h5 => ?_) (fun h5 => ?_)
      · exfalso; omega
      · refine ac_aload_n (q := 9) dX7_kinds_8 rfl rfl ?_
        refine ac_get (q := 12) dX7_kinds_9 fl_X7_61 (by assumption) rfl (ac_rdr rfl hM9.1.2.2.2.2.2.2.2.2.2.2.2.2.2.2.1) ?_
        refine ac_iload_n (q := 13) dX7_kinds_12 rfl rfl ?_
        refine ac_iconst (q := 14) dX7_kinds_13 rfl ?_
        refine ac_bastoreN (q := 15) (j := i) dX7_kinds_14 k15 (by decide) (by omega) (by omega) rfl ?_
        refine ac_iinc (q := 18) dX7_kinds_15 rfl (Nat.le_of_ble_eq_true rfl) rfl rfl rfl rfl ?_
        simp only [List.set_cons_succ, List.set_cons_zero]
        refine ac_goto (q := 2) dX7_kinds_18 rfl ?_
        exact ac_ls (by rw [ei]) hs
  refine ac_met (on := (RX7, "kinds")) rfl rfl (Nat.le_of_ble_eq_true rfl) (ls := [(2, (x : Int)), (3, 0), (3, 0)]) rfl ?_
  refine ac_iconst (q := 1) dX7_kinds_0 rfl ?_
  refine ac_istore_n (q := 2) (j := 1) rfl dX7_kinds_1 rfl (Nat.le_of_ble_eq_true rfl) rfl rfl ?_
  simp only [List.set_cons_succ, List.set_cons_zero]
  refine ac_mem (ac_zr_0 (r := x + 15) (a := 0)).symm ?_
  exact zero 59049 0 rfl
