set_option maxHeartbeats 8000000 in
theorem k_X7_laySets {G : ac_G} {Y : ac_Y} {mm : ac_M} {d x : Nat} {r S : Nat} {E : List ac_Eq} (hd : 3 ≤ d) (hM : ac_isM Y x) (hr : r = x + 3 ∨ r = x + 4) (rE : ac_E mm r 2 E) (hE : ac_okE E) (r1 : mm r 1 = (E.length : Int)) (hS : S < 2048) : ac_C G yX7_laySets cX7_laySets 9 none d 0 0 Y mm [(2, (x : Int)), (2, (r : Int)), (0, (S : Int))] (ac_R Y [] (fun m => ac_ST m x S E ∧ (∀ k', k' ≠ x + 11 → k' ≠ x + 12 → m k' = mm k'))) := by
  have hM9 := hM
  obtain ⟨kx, k1, k2, k3, k4, k5, k6, k7, k8, k9, k10, k11, k12, k13, k14, k15, k16⟩ := hM.2
  have kr : Y.2.1 r = (1, 39) := by rcases hr with e | e <;> rw [e] <;> assumption
  have hall := ac_lall_len S E hE.1
  have hE4 := hE.1
  have yl : ∀ (f b t e a : Nat) (q : ac_Eq) (P : List Nat) (m : ac_M), b + f = t + 1 → t + 1 ≤ 10 → E[e]? = some q → a + 1 ≤ t + 1 → (∃ rest, P ++ ac_cc (fun b => ac_ly q (t + 1) (a + 1) (b + 1)) (t + 1) ++ rest = ac_lall S E 10) → (∀ j Q : Nat, (P ++ ac_cc (fun b => ac_ly q (t + 1) (a + 1) (b + 1)) b)[j]? = some Q → m (x + 11) j = (Q : Int)) → (∀ u : Nat, 1 ≤ u → u ≤ (t + 1) → m (x + 12) u = ((ac_lall S E (u - 1)).length : Int)) → (∀ k', k' ≠ x + 11 → k' ≠ x + 12 → m k' = mm k') → (∀ m, (∀ j Q : Nat, (P ++ ac_cc (fun b => ac_ly q (t + 1) (a + 1) (b + 1)) (t + 1))[j]? = some Q → m (x + 11) j = (Q : Int)) → (∀ u : Nat, 1 ≤ u → u ≤ (t + 1) → m (x + 12) u = ((ac_lall S E (u - 1)).length : Int)) → (∀ k', k' ≠ x + 11 → k' ≠ x + 12 → m k' = mm k') → ac_V G (RX7, "laySets") cX7_laySets 9 none d 0 0 (ac_R Y [] (fun m => ac_ST m x S E ∧ (∀ k', k' ≠ x + 11 → k' ≠ x + 12 → m k' = mm k'))) 0 0 Y m 122 [(2, (x : Int)), (2, (r : Int)), (0, (S : Int)), (0, (((P ++ ac_cc (fun b => ac_ly q (t + 1) (a + 1) (b + 1)) (t + 1)).length : Nat) : Int)), (0, ((t + 1 : Nat) : Int)), (0, (e : Int)), (0, ((a + 1 : Nat) : Int)), (3, 0), (3, 0)] []) → ac_V G (RX7, "laySets") cX7_laySets 9 none d 0 0 (ac_R Y [] (fun m => ac_ST m x S E ∧ (∀ k', k' ≠ x + 11 → k' ≠ x + 12 → m k' = mm k'))) 0 0 Y m 53 [(2, (x : Int)), (2, (r : Int)), (0, (S : Int)), (0, (((P ++ ac_cc (fun b => ac_ly q (t + 1) (a + 1) (b + 1)) b).length : Nat) : Int)), (0, ((t + 1 : Nat) : Int)), (0, (e : Int)), (0, ((a + 1 : Nat) : Int)), (0, ((b + 1 : Nat) : Int)), (3, 0)] [] := by
    intro f
    induction f with
    | zero =>
      intro b t e a q P m hb ht hq ha hrest hhs hfm hfr hK
      obtain rfl : b = t + 1 := by omega
      refine ac_iload (q := 55) dX7_laySets_53 rfl rfl ?_
      refine ac_iload (q := 57) dX7_laySets_55 rfl rfl ?_
      refine ac_icmp_gt (q := 60) (tgt := 122) dX7_laySets_57 rfl rfl ⟨by omega, by omega⟩ ⟨by omega, by omega⟩ (fun h57 => ?_) (fun h57 => ?_)
      · refine ac_drop [(2, (x : Int)), (2, (r : Int)), (0, (S : Int)), _, _, (0, (e : Int)), (0, ((a + 1 : Nat) : Int)), (3, 0), (3, 0)] (by repeat (first | exact trivial | refine ⟨Or.inl rfl, ?_⟩ | refine ⟨Or.inr rfl, ?_⟩)) ?_
        exact hK m hhs hfm hfr
      · exfalso; omega
    | succ f ih =>
      intro b t e a q P m hb ht hq ha hrest hhs hfm hfr hK
      have he := (List.getElem?_eq_some_iff.mp hq).1
      have ei : ((b + 1 : Nat) : Int) + 1 = ((b + 1 + 1 : Nat) : Int) := rfl
      obtain ⟨rest, hrest'⟩ := id hrest
      obtain ⟨r2, hr2⟩ := ac_cc_cut (g := (fun b => ac_ly q (t + 1) (a + 1) (b + 1))) (i := b) (n := t + 1) (by omega)
      have hcs : ac_cc (fun b => ac_ly q (t + 1) (a + 1) (b + 1)) (b + 1) = ac_cc (fun b => ac_ly q (t + 1) (a + 1) (b + 1)) b ++ ac_ly q (t + 1) (a + 1) (b + 1) := rfl
      have hln : (P ++ ac_cc (fun b => ac_ly q (t + 1) (a + 1) (b + 1)) b).length + (ac_ly q (t + 1) (a + 1) (b + 1)).length ≤ 400 := by
        rw [hr2, hcs] at hrest'
        rw [← hrest'] at hall
        simp only [List.length_append] at hall ⊢
        omega
      have hlyv : ac_ly q (t + 1) (a + 1) (b + 1) = if 0 < ac_th q ((a + 1 : Nat) : Int) ((b + 1 : Nat) : Int) ((t + 1 : Nat) : Int) ∧ max (max (a + 1) (b + 1)) (ac_th q ((a + 1 : Nat) : Int) ((b + 1 : Nat) : Int) ((t + 1 : Nat) : Int)).toNat = t + 1 then [2 ^ (a + 1) ||| 2 ^ (b + 1) ||| 2 ^ (ac_th q ((a + 1 : Nat) : Int) ((b + 1 : Nat) : Int) ((t + 1 : Nat) : Int)).toNat] else [] := rfl
      have hth := ac_th_in q ((a + 1 : Nat) : Int) ((b + 1 : Nat) : Int) ((t + 1 : Nat) : Int) (by omega)
      have rEm : ac_E m r 2 E := by unfold ac_E; rw [hfr r (by omega) (by omega)]; exact rE
      obtain ⟨z, hz⟩ : ∃ z : Nat, ac_th q ((a + 1 : Nat) : Int) ((b + 1 : Nat) : Int) ((t + 1 : Nat) : Int) = (z : Int) := ⟨_, (Int.toNat_of_nonneg hth.1).symm⟩
      rw [hz, Int.toNat_natCast] at hlyv
      rw [hz] at hth
      have hs := ih (b + 1) t e a q P
      generalize hPb : P ++ ac_cc (fun b => ac_ly q (t + 1) (a + 1) (b + 1)) b = Pb at *
      have hPs : P ++ ac_cc (fun b => ac_ly q (t + 1) (a + 1) (b + 1)) (b + 1) = Pb ++ ac_ly q (t + 1) (a + 1) (b + 1) := by rw [hcs, ← List.append_assoc, hPb]
      rw [hPs] at hs
      generalize ac_ly q (t + 1) (a + 1) (b + 1) = ly at *
      refine ac_iload (q := 55) dX7_laySets_53 rfl rfl ?_
      refine ac_iload (q := 57) dX7_laySets_55 rfl rfl ?_
      refine ac_icmp_gt (q := 60) (tgt := 122) dX7_laySets_57 rfl rfl ⟨by omega, by omega⟩ ⟨by omega, by omega⟩ (fun h57 => ?_) (fun h57 => ?_)
      · exfalso; omega
      · refine ac_aload_n (q := 61) dX7_laySets_60 rfl rfl ?_
        refine ac_iload (q := 63) dX7_laySets_61 rfl rfl ?_
        refine ac_iload (q := 65) dX7_laySets_63 rfl rfl ?_
        refine ac_iload (q := 67) dX7_laySets_65 rfl rfl ?_
        refine ac_iload (q := 69) dX7_laySets_67 rfl rfl ?_
        refine ac_csp (q := 72) (k_X7_third (r := r) (e := e) (q := q) (d := d - 1) (by omega) kr rEm hE hq ⟨by omega, by omega⟩ ⟨by omega, by omega⟩ ⟨by omega, by omega⟩) ml_X7_126 dX7_laySets_69 rfl rfl rfl (by omega) (Nat.le_of_ble_eq_true rfl) (Nat.zero_le _) (Nat.zero_le _) ?_
        refine ac_top (w' := (0, (z : Int))) (by rw [hz]) ?_
        refine ac_istore (q := 74) dX7_laySets_72 rfl (Nat.le_of_ble_eq_true rfl) rfl rfl ?_
        simp only [List.set_cons_succ, List.set_cons_zero]
        refine ac_iload (q := 76) dX7_laySets_74 rfl rfl ?_
        refine ac_if_le (q := 79) (tgt := 116) dX7_laySets_76 rfl rfl ⟨by omega, by omega⟩ (fun h76 => ?_) (fun h76 => ?_)
        · rw [if_neg (by omega)] at hlyv
          subst hlyv
          rw [List.append_nil] at hs
          refine ac_iinc (q := 119) dX7_laySets_116 rfl (Nat.le_of_ble_eq_true rfl) rfl rfl rfl rfl ?_
          simp only [List.set_cons_succ, List.set_cons_zero]
          refine ac_goto (q := 53) dX7_laySets_119 rfl ?_
          refine ac_drop [(2, (x : Int)), (2, (r : Int)), (0, (S : Int)), _, _, (0, (e : Int)), (0, ((a + 1 : Nat) : Int)), (0, ((b + 1 : Nat) : Int) + 1), (3, 0)] (by repeat (first | exact trivial | refine ⟨Or.inl rfl, ?_⟩ | refine ⟨Or.inr rfl, ?_⟩)) ?_
          exact ac_ls (by rw [ei]) (hs m (by omega) ht hq ha hrest hhs hfm hfr hK)
        · refine ac_iload (q := 81) dX7_laySets_79 rfl rfl ?_
          refine ac_iload (q := 83) dX7_laySets_81 rfl rfl ?_
          refine ac_iload (q := 85) dX7_laySets_83 rfl rfl ?_
          refine ac_csp (q := 88) (k_X7_greatest (a := a + 1) (b := b + 1) (c := z) (d := d - 1) (by omega) (by omega) (by omega) (by omega)) ml_X7_130 dX7_laySets_85 rfl rfl rfl (by omega) (Nat.le_of_ble_eq_true rfl) (Nat.zero_le _) (Nat.zero_le _) ?_
          refine ac_iload (q := 90) dX7_laySets_88 rfl rfl ?_
          refine ac_icmp_ne (q := 93) (tgt := 116) dX7_laySets_90 rfl rfl ⟨by omega, by omega⟩ ⟨by omega, by omega⟩ (fun h90 => ?_) (fun h90 => ?_)
          · rw [if_neg (by omega)] at hlyv
            subst hlyv
            rw [List.append_nil] at hs
            refine ac_iinc (q := 119) dX7_laySets_116 rfl (Nat.le_of_ble_eq_true rfl) rfl rfl rfl rfl ?_
            simp only [List.set_cons_succ, List.set_cons_zero]
            refine ac_goto (q := 53) dX7_laySets_119 rfl ?_
            refine ac_drop [(2, (x : Int)), (2, (r : Int)), (0, (S : Int)), _, _, (0, (e : Int)), (0, ((a + 1 : Nat) : Int)), (0, ((b + 1 : Nat) : Int) + 1), (3, 0)] (by repeat (first | exact trivial | refine ⟨Or.inl rfl, ?_⟩ | refine ⟨Or.inr rfl, ?_⟩)) ?_
            exact ac_ls (by rw [ei]) (hs m (by omega) ht hq ha hrest hhs hfm hfr hK)
          · refine ac_aload_n (q := 94) dX7_laySets_93 rfl rfl ?_
            refine ac_get (q := 97) dX7_laySets_94 fl_X7_45 (by assumption) rfl (ac_rdr rfl hM9.1.2.2.2.2.2.2.2.2.2.2.1) ?_
            refine ac_iload_n (q := 98) dX7_laySets_97 rfl rfl ?_
            refine ac_iconst (q := 99) dX7_laySets_98 rfl ?_
            refine ac_iload (q := 101) dX7_laySets_99 rfl rfl ?_
            refine ac_ishl1 (q := 102) (k := a + 1) dX7_laySets_101 rfl (by omega) ?_
            refine ac_iconst (q := 103) dX7_laySets_102 rfl ?_
            refine ac_iload (q := 105) dX7_laySets_103 rfl rfl ?_
            refine ac_ishl1 (q := 106) (k := b + 1) dX7_laySets_105 rfl (by omega) ?_
            refine ac_ior (q := 107) dX7_laySets_106 rfl ?_
            refine ac_iconst (q := 108) dX7_laySets_107 rfl ?_
            refine ac_iload (q := 110) dX7_laySets_108 rfl rfl ?_
            refine ac_ishl1 (q := 111) (k := z) dX7_laySets_110 rfl (by omega) ?_
            refine ac_ior (q := 112) dX7_laySets_111 rfl ?_
            rw [if_pos (by omega)] at hlyv
            subst hlyv
            rw [List.length_singleton] at hln
            have hlx : (Pb ++ [(2 ^ (a + 1) ||| 2 ^ (b + 1) ||| 2 ^ z)]).length = Pb.length + 1 := by rw [List.length_append]; rfl
            refine ac_iastoreN (q := 113) (j := Pb.length) dX7_laySets_112 k11 (by decide) (by omega) rfl ?_
            refine ac_iinc (q := 116) dX7_laySets_113 rfl (Nat.le_of_ble_eq_true rfl) rfl rfl rfl rfl ?_
            simp only [List.set_cons_succ, List.set_cons_zero]
            refine ac_iinc (q := 119) dX7_laySets_116 rfl (Nat.le_of_ble_eq_true rfl) rfl rfl rfl rfl ?_
            simp only [List.set_cons_succ, List.set_cons_zero]
            refine ac_goto (q := 53) dX7_laySets_119 rfl ?_
            refine ac_drop [(2, (x : Int)), (2, (r : Int)), (0, (S : Int)), _, _, (0, (e : Int)), (0, ((a + 1 : Nat) : Int)), (0, ((b + 1 : Nat) : Int) + 1), (3, 0)] (by repeat (first | exact trivial | refine ⟨Or.inl rfl, ?_⟩ | refine ⟨Or.inr rfl, ?_⟩)) ?_
            refine ac_ls (by rw [ei, hlx]; rfl) (hs (ac_up m (x + 11) Pb.length (((2 ^ (a + 1) ||| 2 ^ (b + 1) ||| 2 ^ z) : Nat) : Int)) (by omega) ht hq ha hrest (fun j Q hj => ?_) (fun u h1 h2 => by rw [ac_up_k (by omega)]; exact hfm u h1 h2) (fun k' h1 h2 => by rw [← hfr k' h1 h2]; funext j; exact ac_up_k h1) hK)
            by_cases hjl : j = Pb.length
            · subst hjl
              rw [List.getElem?_append_right (Nat.le_refl _), Nat.sub_self] at hj
              cases hj; exact ac_up_s
            · have hjl2 := (List.getElem?_eq_some_iff.mp hj).1
              rw [List.length_append, List.length_singleton] at hjl2
              rw [List.getElem?_append_left (by omega)] at hj
              rw [ac_up_j hjl]; exact hhs j Q hj
  have xl : ∀ (f a t e : Nat) (q : ac_Eq) (P : List Nat) (m : ac_M), a + f = t + 1 → t + 1 ≤ 10 → E[e]? = some q → S.testBit e = true → (∃ rest, P ++ ac_cc (fun a => ac_lx q (t + 1) (a + 1)) (t + 1) ++ rest = ac_lall S E 10) → (∀ j Q : Nat, (P ++ ac_cc (fun a => ac_lx q (t + 1) (a + 1)) a)[j]? = some Q → m (x + 11) j = (Q : Int)) → (∀ u : Nat, 1 ≤ u → u ≤ (t + 1) → m (x + 12) u = ((ac_lall S E (u - 1)).length : Int)) → (∀ k', k' ≠ x + 11 → k' ≠ x + 12 → m k' = mm k') → (∀ m, (∀ j Q : Nat, (P ++ ac_cc (fun a => ac_lx q (t + 1) (a + 1)) (t + 1))[j]? = some Q → m (x + 11) j = (Q : Int)) → (∀ u : Nat, 1 ≤ u → u ≤ (t + 1) → m (x + 12) u = ((ac_lall S E (u - 1)).length : Int)) → (∀ k', k' ≠ x + 11 → k' ≠ x + 12 → m k' = mm k') → ac_V G (RX7, "laySets") cX7_laySets 9 none d 0 0 (ac_R Y [] (fun m => ac_ST m x S E ∧ (∀ k', k' ≠ x + 11 → k' ≠ x + 12 → m k' = mm k'))) 0 0 Y m 128 [(2, (x : Int)), (2, (r : Int)), (0, (S : Int)), (0, (((P ++ ac_cc (fun a => ac_lx q (t + 1) (a + 1)) (t + 1)).length : Nat) : Int)), (0, ((t + 1 : Nat) : Int)), (0, (e : Int)), (3, 0), (3, 0), (3, 0)] []) → ac_V G (RX7, "laySets") cX7_laySets 9 none d 0 0 (ac_R Y [] (fun m => ac_ST m x S E ∧ (∀ k', k' ≠ x + 11 → k' ≠ x + 12 → m k' = mm k'))) 0 0 Y m 34 [(2, (x : Int)), (2, (r : Int)), (0, (S : Int)), (0, (((P ++ ac_cc (fun a => ac_lx q (t + 1) (a + 1)) a).length : Nat) : Int)), (0, ((t + 1 : Nat) : Int)), (0, (e : Int)), (0, ((a + 1 : Nat) : Int)), (3, 0), (3, 0)] [] := by
    intro f
    induction f with
    | zero =>
      intro a t e q P m ha ht hq hSe hrest hhs hfm hfr hK
      obtain rfl : a = t + 1 := by omega
      refine ac_iload (q := 36) dX7_laySets_34 rfl rfl ?_
      refine ac_iload (q := 38) dX7_laySets_36 rfl rfl ?_
      refine ac_icmp_gt (q := 41) (tgt := 128) dX7_laySets_38 rfl rfl ⟨by omega, by omega⟩ ⟨by omega, by omega⟩ (fun h38 => ?_) (fun h38 => ?_)
      · refine ac_drop [(2, (x : Int)), (2, (r : Int)), (0, (S : Int)), _, _, (0, (e : Int)), (3, 0), (3, 0), (3, 0)] (by repeat (first | exact trivial | refine ⟨Or.inl rfl, ?_⟩ | refine ⟨Or.inr rfl, ?_⟩)) ?_
        exact hK m hhs hfm hfr
      · exfalso; omega
    | succ f ih =>
      intro a t e q P m ha ht hq hSe hrest hhs hfm hfr hK
      have he := (List.getElem?_eq_some_iff.mp hq).1
      have ei : ((a + 1 : Nat) : Int) + 1 = ((a + 1 + 1 : Nat) : Int) := rfl
      have hcs : ac_cc (fun a => ac_lx q (t + 1) (a + 1)) (a + 1) = ac_cc (fun a => ac_lx q (t + 1) (a + 1)) a ++ ac_cc (fun b => ac_ly q (t + 1) (a + 1) (b + 1)) (t + 1) := rfl
      obtain ⟨rest, hrest'⟩ := id hrest
      obtain ⟨r2, hr2⟩ := ac_cc_cut (g := (fun a => ac_lx q (t + 1) (a + 1))) (i := a) (n := t + 1) (by omega)
      have hres2 : ∃ rest, (P ++ ac_cc (fun a => ac_lx q (t + 1) (a + 1)) a) ++ ac_cc (fun b => ac_ly q (t + 1) (a + 1) (b + 1)) (t + 1) ++ rest = ac_lall S E 10 := ⟨r2 ++ rest, by rw [← hrest', hr2, hcs]; simp only [List.append_assoc]⟩
      refine ac_iload (q := 36) dX7_laySets_34 rfl rfl ?_
      refine ac_iload (q := 38) dX7_laySets_36 rfl rfl ?_
      refine ac_icmp_gt (q := 41) (tgt := 128) dX7_laySets_38 rfl rfl ⟨by omega, by omega⟩ ⟨by omega, by omega⟩ (fun h38 => ?_) (fun h38 => ?_)
      · exfalso; omega
      · refine ac_iload_n (q := 42) dX7_laySets_41 rfl rfl ?_
        refine ac_iload (q := 44) dX7_laySets_42 rfl rfl ?_
        refine ac_csp (q := 47) (k_X7_has (S := S) (k := e) (d := d - 1) (by omega) hS (by omega)) ml_X7_122 dX7_laySets_44 rfl rfl rfl (by omega) (Nat.le_of_ble_eq_true rfl) (Nat.zero_le _) (Nat.zero_le _) ?_
        refine ac_bif_eq (q := 50) (tgt := 128) dX7_laySets_47 rfl rfl (fun h47 => ?_) (fun h47 => ?_)
        · exact absurd hSe h47
        · refine ac_iconst (q := 51) dX7_laySets_50 rfl ?_
          refine ac_istore (q := 53) dX7_laySets_51 rfl (Nat.le_of_ble_eq_true rfl) rfl rfl ?_
          simp only [List.set_cons_succ, List.set_cons_zero]
          rw [show P ++ ac_cc (fun a => ac_lx q (t + 1) (a + 1)) a = (P ++ ac_cc (fun a => ac_lx q (t + 1) (a + 1)) a) ++ ac_cc (fun b => ac_ly q (t + 1) (a + 1) (b + 1)) 0 from (List.append_nil _).symm]
          refine yl (t + 1) 0 t e a q (P ++ ac_cc (fun a => ac_lx q (t + 1) (a + 1)) a) m (by omega) ht hq (by omega) hres2 (by rw [show ac_cc (fun b => ac_ly q (t + 1) (a + 1) (b + 1)) 0 = [] from rfl, List.append_nil]; exact hhs) hfm hfr (fun m1 hhs1 hfm1 hfr1 => ?_)
          rw [List.append_assoc, ← hcs] at hhs1 ⊢
          refine ac_iinc (q := 125) dX7_laySets_122 rfl (Nat.le_of_ble_eq_true rfl) rfl rfl rfl rfl ?_
          simp only [List.set_cons_succ, List.set_cons_zero]
          refine ac_goto (q := 34) dX7_laySets_125 rfl ?_
          exact ac_ls (by rw [ei]) (ih (a + 1) t e q P m1 (by omega) ht hq hSe hrest hhs1 hfm1 hfr1 hK)
  have el : ∀ (f e t : Nat) (P : List Nat) (m : ac_M), e + f = E.length → t + 1 ≤ 10 → (∃ rest, P ++ ac_cc (ac_leq S E (t + 1)) E.length ++ rest = ac_lall S E 10) → (∀ j Q : Nat, (P ++ ac_cc (ac_leq S E (t + 1)) e)[j]? = some Q → m (x + 11) j = (Q : Int)) → (∀ u : Nat, 1 ≤ u → u ≤ (t + 1) → m (x + 12) u = ((ac_lall S E (u - 1)).length : Int)) → (∀ k', k' ≠ x + 11 → k' ≠ x + 12 → m k' = mm k') → (∀ m, (∀ j Q : Nat, (P ++ ac_cc (ac_leq S E (t + 1)) E.length)[j]? = some Q → m (x + 11) j = (Q : Int)) → (∀ u : Nat, 1 ≤ u → u ≤ (t + 1) → m (x + 12) u = ((ac_lall S E (u - 1)).length : Int)) → (∀ k', k' ≠ x + 11 → k' ≠ x + 12 → m k' = mm k') → ac_V G (RX7, "laySets") cX7_laySets 9 none d 0 0 (ac_R Y [] (fun m => ac_ST m x S E ∧ (∀ k', k' ≠ x + 11 → k' ≠ x + 12 → m k' = mm k'))) 0 0 Y m 134 [(2, (x : Int)), (2, (r : Int)), (0, (S : Int)), (0, (((P ++ ac_cc (ac_leq S E (t + 1)) E.length).length : Nat) : Int)), (0, ((t + 1 : Nat) : Int)), (3, 0), (3, 0), (3, 0), (3, 0)] []) → ac_V G (RX7, "laySets") cX7_laySets 9 none d 0 0 (ac_R Y [] (fun m => ac_ST m x S E ∧ (∀ k', k' ≠ x + 11 → k' ≠ x + 12 → m k' = mm k'))) 0 0 Y m 23 [(2, (x : Int)), (2, (r : Int)), (0, (S : Int)), (0, (((P ++ ac_cc (ac_leq S E (t + 1)) e).length : Nat) : Int)), (0, ((t + 1 : Nat) : Int)), (0, (e : Int)), (3, 0), (3, 0), (3, 0)] [] := by
    intro f
    induction f with
    | zero =>
      intro e t P m he ht hrest hhs hfm hfr hK
      obtain rfl : e = E.length := by omega
      have r1m : m r 1 = (E.length : Int) := by rw [hfr r (by omega) (by omega)]; exact r1
      refine ac_iload (q := 25) dX7_laySets_23 rfl rfl ?_
      refine ac_aload_n (q := 26) dX7_laySets_25 rfl rfl ?_
      refine ac_iconst (q := 27) dX7_laySets_26 rfl ?_
      refine ac_ialoadN (q := 28) (j := 1) (v := ((E.length : Nat) : Int)) dX7_laySets_27 kr (by decide) (by decide) rfl r1m ?_
      refine ac_icmp_ge (q := 31) (tgt := 134) dX7_laySets_28 rfl rfl ⟨by omega, by omega⟩ ⟨by omega, by omega⟩ (fun h28 => ?_) (fun h28 => ?_)
      · refine ac_drop [(2, (x : Int)), (2, (r : Int)), (0, (S : Int)), _, _, (3, 0), (3, 0), (3, 0), (3, 0)] (by repeat (first | exact trivial | refine ⟨Or.inl rfl, ?_⟩ | refine ⟨Or.inr rfl, ?_⟩)) ?_
        exact hK m hhs hfm hfr
      · exfalso; omega
    | succ f ih =>
      intro e t P m he ht hrest hhs hfm hfr hK
      have r1m : m r 1 = (E.length : Int) := by rw [hfr r (by omega) (by omega)]; exact r1
      obtain ⟨q, hq⟩ : ∃ q, E[e]? = some q := ⟨_, List.getElem?_eq_getElem (by omega)⟩
      have ei : ((e : Nat) : Int) + 1 = ((e + 1 : Nat) : Int) := rfl
      have hcs : ac_cc (ac_leq S E (t + 1)) (e + 1) = ac_cc (ac_leq S E (t + 1)) e ++ ac_leq S E (t + 1) e := rfl
      have hlq : ac_leq S E (t + 1) e = if S.testBit e = true then ac_cc (fun a => ac_lx q (t + 1) (a + 1)) (t + 1) else [] := by unfold ac_leq; rw [hq]
      obtain ⟨rest, hrest'⟩ := id hrest
      obtain ⟨r2, hr2⟩ := ac_cc_cut (g := (ac_leq S E (t + 1))) (i := e) (n := E.length) (by omega)
      have hs := ih (e + 1) t P
      rw [hcs] at hs
      refine ac_iload (q := 25) dX7_laySets_23 rfl rfl ?_
      refine ac_aload_n (q := 26) dX7_laySets_25 rfl rfl ?_
      refine ac_iconst (q := 27) dX7_laySets_26 rfl ?_
      refine ac_ialoadN (q := 28) (j := 1) (v := ((E.length : Nat) : Int)) dX7_laySets_27 kr (by decide) (by decide) rfl r1m ?_
      refine ac_icmp_ge (q := 31) (tgt := 134) dX7_laySets_28 rfl rfl ⟨by omega, by omega⟩ ⟨by omega, by omega⟩ (fun h28 => ?_) (fun h28 => ?_)
      · exfalso; omega
      · refine ac_iconst (q := 32) dX7_laySets_31 rfl ?_
        refine ac_istore (q := 34) dX7_laySets_32 rfl (Nat.le_of_ble_eq_true rfl) rfl rfl ?_
        simp only [List.set_cons_succ, List.set_cons_zero]
        by_cases hSe : S.testBit e = true
        · rw [if_pos hSe] at hlq
          rw [hlq] at hs hcs
          have hres2 : ∃ rest, (P ++ ac_cc (ac_leq S E (t + 1)) e) ++ ac_cc (fun a => ac_lx q (t + 1) (a + 1)) (t + 1) ++ rest = ac_lall S E 10 := ⟨r2 ++ rest, by rw [← hrest', hr2, hcs]; simp only [List.append_assoc]⟩
          rw [show P ++ ac_cc (ac_leq S E (t + 1)) e = (P ++ ac_cc (ac_leq S E (t + 1)) e) ++ ac_cc (fun a => ac_lx q (t + 1) (a + 1)) 0 from (List.append_nil _).symm]
          refine xl (t + 1) 0 t e q (P ++ ac_cc (ac_leq S E (t + 1)) e) m (by omega) ht hq hSe hres2 (by rw [show ac_cc (fun a => ac_lx q (t + 1) (a + 1)) 0 = [] from rfl, List.append_nil]; exact hhs) hfm hfr (fun m1 hhs1 hfm1 hfr1 => ?_)
          rw [List.append_assoc] at hhs1 ⊢
          refine ac_iinc (q := 131) dX7_laySets_128 rfl (Nat.le_of_ble_eq_true rfl) rfl rfl rfl rfl ?_
          simp only [List.set_cons_succ, List.set_cons_zero]
          refine ac_goto (q := 23) dX7_laySets_131 rfl ?_
          exact ac_ls (by rw [ei]) (hs m1 (by omega) ht hrest hhs1 hfm1 hfr1 hK)
        · rw [if_neg hSe] at hlq
          rw [hlq, List.append_nil] at hs
          refine ac_iload (q := 36) dX7_laySets_34 rfl rfl ?_
          refine ac_iload (q := 38) dX7_laySets_36 rfl rfl ?_
          refine ac_icmp_gt (q := 41) (tgt := 128) dX7_laySets_38 rfl rfl ⟨by omega, by omega⟩ ⟨by omega, by omega⟩ (fun h38 => ?_) (fun h38 => ?_)
          · exfalso; omega
          · refine ac_iload_n (q := 42) dX7_laySets_41 rfl rfl ?_
            refine ac_iload (q := 44) dX7_laySets_42 rfl rfl ?_
            refine ac_csp (q := 47) (k_X7_has (S := S) (k := e) (d := d - 1) (by omega) hS (by omega)) ml_X7_122 dX7_laySets_44 rfl rfl rfl (by omega) (Nat.le_of_ble_eq_true rfl) (Nat.zero_le _) (Nat.zero_le _) ?_
            refine ac_bif_eq (q := 50) (tgt := 128) dX7_laySets_47 rfl rfl (fun h47 => ?_) (fun h47 => ?_)
            · refine ac_iinc (q := 131) dX7_laySets_128 rfl (Nat.le_of_ble_eq_true rfl) rfl rfl rfl rfl ?_
              simp only [List.set_cons_succ, List.set_cons_zero]
              refine ac_goto (q := 23) dX7_laySets_131 rfl ?_
              refine ac_drop [(2, (x : Int)), (2, (r : Int)), (0, (S : Int)), _, _, (0, (e : Int) + 1), (3, 0), (3, 0), (3, 0)] (by repeat (first | exact trivial | refine ⟨Or.inl rfl, ?_⟩ | refine ⟨Or.inr rfl, ?_⟩)) ?_
              exact ac_ls (by rw [ei]) (hs m (by omega) ht hrest hhs hfm hfr hK)
            · exact absurd h47 hSe
  have tl : ∀ (f t : Nat) (m : ac_M), t + f = 10 → (∀ j Q : Nat, (ac_lall S E t)[j]? = some Q → m (x + 11) j = (Q : Int)) → (∀ u : Nat, 1 ≤ u → u ≤ t → m (x + 12) u = ((ac_lall S E (u - 1)).length : Int)) → (∀ k', k' ≠ x + 11 → k' ≠ x + 12 → m k' = mm k') → ac_V G (RX7, "laySets") cX7_laySets 9 none d 0 0 (ac_R Y [] (fun m => ac_ST m x S E ∧ (∀ k', k' ≠ x + 11 → k' ≠ x + 12 → m k' = mm k'))) 0 0 Y m 5 [(2, (x : Int)), (2, (r : Int)), (0, (S : Int)), (0, (((ac_lall S E t).length : Nat) : Int)), (0, ((t + 1 : Nat) : Int)), (3, 0), (3, 0), (3, 0), (3, 0)] [] := by
    intro f
    induction f with
    | zero =>
      intro t m ht hhs hfm hfr
      obtain rfl : t = 10 := by omega
      refine ac_iload (q := 7) dX7_laySets_5 rfl rfl ?_
      refine ac_bipush (q := 9) dX7_laySets_7 rfl (by decide) ?_
      refine ac_icmp_gt (q := 12) (tgt := 140) dX7_laySets_9 rfl rfl ⟨by omega, by omega⟩ ⟨by omega, by omega⟩ (fun h9 => ?_) (fun h9 => ?_)
      · refine ac_aload_n (q := 141) dX7_laySets_140 rfl rfl ?_
        refine ac_get (q := 144) dX7_laySets_141 fl_X7_48 (by assumption) rfl (ac_rdr rfl hM9.1.2.2.2.2.2.2.2.2.2.2.2.1) ?_
        refine ac_bipush (q := 146) dX7_laySets_144 rfl (by decide) ?_
        refine ac_iload_n (q := 147) dX7_laySets_146 rfl rfl ?_
        refine ac_iastoreN (q := 148) (j := 11) dX7_laySets_147 (by assumption) (by decide) (by decide) rfl ?_
        refine ac_return dX7_laySets_148 rfl (Nat.zero_le _) (Nat.zero_le _) ?_
        refine ⟨rfl, rfl, ⟨fun u h1 h2 => ?_, fun j Q hj => by rw [ac_up_k (by omega)]; exact hhs j Q hj⟩, fun k' h1 h2 => by rw [← hfr k' h1 h2]; funext j; exact ac_up_k h2⟩
        by_cases hu : u = 11
        · subst hu; exact ac_up_s
        · rw [ac_up_j hu]; exact hfm u h1 (by omega)
      · exfalso; omega
    | succ f ih =>
      intro t m ht hhs hfm hfr
      have ei : ((t + 1 : Nat) : Int) + 1 = ((t + 1 + 1 : Nat) : Int) := rfl
      have hal : ac_lall S E (t + 1) = ac_lall S E t ++ ac_cc (ac_leq S E (t + 1)) E.length := rfl
      have hrest : ∃ rest, ac_lall S E t ++ ac_cc (ac_leq S E (t + 1)) E.length ++ rest = ac_lall S E 10 := by
        obtain ⟨r2, hr2⟩ := ac_cc_cut (g := fun u => ac_lt1 S E (u + 1)) (i := t) (n := 10) (by omega)
        exact ⟨r2, by rw [← hal]; exact hr2.symm⟩
      have hfm2 : (∀ u : Nat, 1 ≤ u → u ≤ (t + 1) → (ac_up m (x + 12) (t + 1) ((ac_lall S E t).length : Int)) (x + 12) u = ((ac_lall S E (u - 1)).length : Int)) := fun u h1 h2 => by
        by_cases hu : u = t + 1
        · subst hu; rw [ac_up_s]; rfl
        · rw [ac_up_j hu]; exact hfm u h1 (by omega)
      have hhs2 : (∀ j Q : Nat, (ac_lall S E t ++ ac_cc (ac_leq S E (t + 1)) 0)[j]? = some Q → (ac_up m (x + 12) (t + 1) ((ac_lall S E t).length : Int)) (x + 11) j = (Q : Int)) := fun j Q hj => by
        rw [show ac_cc (ac_leq S E (t + 1)) 0 = [] from rfl, List.append_nil] at hj
        rw [ac_up_k (by omega)]; exact hhs j Q hj
      have hfr2 : (∀ k', k' ≠ x + 11 → k' ≠ x + 12 → (ac_up m (x + 12) (t + 1) ((ac_lall S E t).length : Int)) k' = mm k') := fun k' h1 h2 => by rw [← hfr k' h1 h2]; funext j; exact ac_up_k h2
      refine ac_iload (q := 7) dX7_laySets_5 rfl rfl ?_
      refine ac_bipush (q := 9) dX7_laySets_7 rfl (by decide) ?_
      refine ac_icmp_gt (q := 12) (tgt := 140) dX7_laySets_9 rfl rfl ⟨by omega, by omega⟩ ⟨by omega, by omega⟩ (fun h9 => ?_) (fun h9 => ?_)
      · exfalso; omega
      · refine ac_aload_n (q := 13) dX7_laySets_12 rfl rfl ?_
        refine ac_get (q := 16) dX7_laySets_13 fl_X7_48 (by assumption) rfl (ac_rdr rfl hM9.1.2.2.2.2.2.2.2.2.2.2.2.1) ?_
        refine ac_iload (q := 18) dX7_laySets_16 rfl rfl ?_
        refine ac_iload_n (q := 19) dX7_laySets_18 rfl rfl ?_
        refine ac_iastoreN (q := 20) (j := t + 1) dX7_laySets_19 k12 (by decide) (by omega) rfl ?_
        refine ac_iconst (q := 21) dX7_laySets_20 rfl ?_
        refine ac_istore (q := 23) dX7_laySets_21 rfl (Nat.le_of_ble_eq_true rfl) rfl rfl ?_
        simp only [List.set_cons_succ, List.set_cons_zero]
        refine ac_ls (by rw [show (ac_lall S E t).length = (ac_lall S E t ++ ac_cc (ac_leq S E (t + 1)) 0).length by rw [show ac_cc (ac_leq S E (t + 1)) 0 = [] from rfl, List.append_nil]]; rfl) (el E.length 0 t (ac_lall S E t) _ (by omega) (by omega) hrest hhs2 hfm2 hfr2 (fun m1 hhs1 hfm1 hfr1 => ?_))
        rw [← hal] at hhs1 ⊢
        refine ac_iinc (q := 137) dX7_laySets_134 rfl (Nat.le_of_ble_eq_true rfl) rfl rfl rfl rfl ?_
        simp only [List.set_cons_succ, List.set_cons_zero]
        refine ac_goto (q := 5) dX7_laySets_137 rfl ?_
        exact ac_ls (by rw [ei]) (ih (t + 1) m1 (by omega) hhs1 hfm1 hfr1)
  refine ac_met (on := (RX7, "laySets")) rfl rfl (Nat.le_of_ble_eq_true rfl) (ls := [(2, (x : Int)), (2, (r : Int)), (0, (S : Int)), (3, 0), (3, 0), (3, 0), (3, 0), (3, 0), (3, 0)]) rfl ?_
  refine ac_iconst (q := 1) dX7_laySets_0 rfl ?_
  refine ac_istore_n (q := 2) (j := 3) rfl dX7_laySets_1 rfl (Nat.le_of_ble_eq_true rfl) rfl rfl ?_
  simp only [List.set_cons_succ, List.set_cons_zero]
  refine ac_iconst (q := 3) dX7_laySets_2 rfl ?_
  refine ac_istore (q := 5) dX7_laySets_3 rfl (Nat.le_of_ble_eq_true rfl) rfl rfl ?_
  simp only [List.set_cons_succ, List.set_cons_zero]
  exact tl 10 0 mm (by omega) (fun j Q hj => by simp [ac_lall, ac_cc] at hj) (fun u h1 h2 => by omega) (fun _ _ _ => rfl)
