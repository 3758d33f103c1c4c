/-! the code of a colouring: its colours numbered as they appear -/
def ac_cs1 (s : Nat × Nat × Nat × Nat) (c : Nat) : Nat × Nat × Nat × Nat :=
  if s.2.1 = 0 then (3 * s.1, 1, c, s.2.2.2) else if s.2.1 = 1 then (if c = s.2.2.1 then (3 * s.1, 1, s.2.2.1, s.2.2.2) else (3 * s.1 + 1, 2, s.2.2.1, c))
  else (3 * s.1 + (if c = s.2.2.1 then 0 else if c = s.2.2.2 then 1 else 2), s.2.1, s.2.2.1, s.2.2.2)
theorem ac_l7 {x i i' c v v' u u' a a' b b' : Int} (h1 : v = v') (h2 : u = u') (h3 : a = a') (h4 : b = b') (h5 : i = i') : ([(2, x), (0, v), (0, u), (0, a), (0, b), (0, i), (0, c)] : List (Nat × Int)) = [(2, x), (0, v'), (0, u'), (0, a'), (0, b'), (0, i'), (0, c)] := by subst h1 h2 h3 h4 h5; rfl
def ac_cod (l : List Nat) : Nat := (l.foldl ac_cs1 (0, 0, 0, 0)).1
theorem ac_cs1_lt (s : Nat × Nat × Nat × Nat) (c z : Nat) (h : s.1 < z) : (ac_cs1 s c).1 < 3 * z := by
  unfold ac_cs1
  repeat' split
  all_goals (simp only; omega)
theorem ac_cod_lt' : ∀ (l : List Nat) (s : Nat × Nat × Nat × Nat) (z : Nat), s.1 < z → (l.foldl ac_cs1 s).1 < 3 ^ l.length * z
  | [], s, z, h => by simpa using h
  | c :: l, s, z, h => by
    have := ac_cod_lt' l (ac_cs1 s c) (3 * z) (ac_cs1_lt s c z h)
    rw [List.foldl_cons, List.length_cons, Nat.pow_succ, Nat.mul_assoc]
    exact this
theorem ac_cod_lt {l : List Nat} (h : l.length ≤ 10) : ac_cod l < 59049 := by
  have h1 := ac_cod_lt' l (0, 0, 0, 0) 1 (by decide)
  have h2 : 3 ^ l.length ≤ 3 ^ 10 := Nat.pow_le_pow_right (by decide) h
  have h3 : (3 : Nat) ^ 10 = 59049 := by decide
  unfold ac_cod; omega

set_option maxHeartbeats 8000000 in
theorem k_X7_codeOf {G : ac_G} {Y : ac_Y} {mm : ac_M} {d x : Nat} {l : List Nat} (hd : 1 ≤ d) (hM : ac_isM Y x) (hl : l.length ≤ 10) (hc : ∀ c ∈ l, c < 3) (hw : ac_wy mm x l) (h22 : mm x 22 = (l.length : Int)) : ac_C G yX7_codeOf cX7_codeOf 7 (some .int) d 0 0 Y mm [(2, (x : Int))] (ac_R Y [(0, (ac_cod l : Int))] (fun m => m = mm)) := by
  have hM9 := hM
  obtain ⟨kx, k1, k2, k3, k4, k5, k6, k7, k8, k9, k10, k11, k12, k13, k14, k15, k16⟩ := hM.2
  have loop : ∀ (r : List Nat) (i v u a b : Nat) (zz : Nat × Int), zz.1 ≠ 1 → l.drop i = r → i + r.length = l.length → u ≤ 2 → a ≤ 2 → b ≤ 2 → ac_cod l = (r.foldl ac_cs1 (v, u, a, b)).1 → ac_V G (RX7, "codeOf") cX7_codeOf 7 (some .int) d 0 0 (ac_R Y [(0, (ac_cod l : Int))] (fun m => m = mm)) 0 0 Y mm 12 [(2, (x : Int)), (0, (v : Int)), (0, (u : Int)), (0, (a : Int)), (0, (b : Int)), (0, ((i + 1 : Nat) : Int)), zz] [] := by
    intro r
    induction r with
    | nil =>
      intro i v u a b zz hzz hdr hi hu ha hb he
      obtain ⟨z1, z2⟩ := zz
      rw [List.length_nil] at hi
      refine ac_iload (q := 14) dX7_codeOf_12 rfl rfl ?_
      refine ac_aload_n (q := 15) dX7_codeOf_14 rfl rfl ?_
      refine ac_get (q := 18) dX7_codeOf_15 fl_X7_142 kx rfl (ac_rdi rfl h22) ?_
      refine ac_icmp_gt (q := 21) (tgt := 97) dX7_codeOf_18 rfl rfl ⟨by omega, by omega⟩ ⟨by omega, by omega⟩ (fun h18 => ?_) (fun h18 => ?_)
      · refine ac_iload_n (q := 98) dX7_codeOf_97 rfl rfl ?_
        refine ac_ireturn dX7_codeOf_98 rfl (Nat.zero_le _) (Nat.zero_le _) ?_
        exact ⟨by rw [he]; rfl, rfl, rfl⟩
      · exfalso; omega
    | cons c r ih =>
      intro i v u a b zz hzz hdr hi hu ha hb he
      obtain ⟨z1, z2⟩ := zz
      rw [List.length_cons] at hi
      have hg : l[i]? = some c := by
        have := List.getElem?_drop (xs := l) (i := i) (j := 0)
        rw [hdr] at this
        simpa using this.symm
      have hdr2 : l.drop (i + 1) = r := by
        have := congrArg (List.drop 1) hdr
        rw [List.drop_drop] at this
        simpa [Nat.add_comm] using this
      have hc3 := hc c (List.mem_of_getElem? hg)
      have ei : ((i + 1 : Nat) : Int) + 1 = ((i + 1 + 1 : Nat) : Int) := rfl
      rw [List.foldl_cons] at he
      refine ac_iload (q := 14) dX7_codeOf_12 rfl rfl ?_
      refine ac_aload_n (q := 15) dX7_codeOf_14 rfl rfl ?_
      refine ac_get (q := 18) dX7_codeOf_15 fl_X7_142 kx rfl (ac_rdi rfl h22) ?_
      refine ac_icmp_gt (q := 21) (tgt := 97) dX7_codeOf_18 rfl rfl ⟨by omega, by omega⟩ ⟨by omega, by omega⟩ (fun h18 => ?_) (fun h18 => ?_)
      · exfalso; omega
      · refine ac_aload_n (q := 22) dX7_codeOf_21 rfl rfl ?_
        refine ac_get (q := 25) dX7_codeOf_22 fl_X7_51 (by assumption) rfl (ac_rdr rfl hM9.1.2.2.2.2.2.2.2.2.2.2.2.2.1) ?_
        refine ac_iload (q := 27) dX7_codeOf_25 rfl rfl ?_
        refine ac_ialoadN (q := 28) (j := i + 1) (v := (c : Int)) dX7_codeOf_27 k13 (by decide) (by omega) rfl (hw i c hg) ?_
        refine ac_istore (q := 30) dX7_codeOf_28 rfl (Nat.le_of_ble_eq_true rfl) rfl rfl ?_
        simp only [List.set_cons_succ, List.set_cons_zero]
        refine ac_iload_n (q := 31) dX7_codeOf_30 rfl rfl ?_
        refine ac_if_ne (q := 34) (tgt := 42) dX7_codeOf_31 rfl rfl ⟨by omega, by omega⟩ (fun h31 => ?_) (fun h31 => ?_)
        · skip
          refine ac_iload_n (q := 43) dX7_codeOf_42 rfl rfl ?_
          refine ac_iconst (q := 44) dX7_codeOf_43 rfl ?_
          refine ac_icmp_ne (q := 47) (tgt := 59) dX7_codeOf_44 rfl rfl ⟨by omega, by omega⟩ ⟨by omega, by omega⟩ (fun h44 => ?_) (fun h44 => ?_)
          · skip
            refine ac_iconst (q := 60) dX7_codeOf_59 rfl ?_
            refine ac_iload_n (q := 61) dX7_codeOf_60 rfl rfl ?_
            refine ac_imul (q := 62) dX7_codeOf_61 rfl ?_
            refine ac_iload (q := 64) dX7_codeOf_62 rfl rfl ?_
            refine ac_iload_n (q := 65) dX7_codeOf_64 rfl rfl ?_
            refine ac_icmp_ne (q := 68) (tgt := 72) dX7_codeOf_65 rfl rfl ⟨by omega, by omega⟩ ⟨by omega, by omega⟩ (fun h65 => ?_) (fun h65 => ?_)
            · skip
              refine ac_iload_n (q := 73) dX7_codeOf_72 rfl rfl ?_
              refine ac_iconst (q := 74) dX7_codeOf_73 rfl ?_
              refine ac_icmp_le (q := 77) (tgt := 88) dX7_codeOf_74 rfl rfl ⟨by omega, by omega⟩ ⟨by omega, by omega⟩ (fun h74 => ?_) (fun h74 => ?_)
              · skip
                refine ac_iconst (q := 89) dX7_codeOf_88 rfl ?_
                refine ac_iadd (q := 90) dX7_codeOf_89 rfl ?_
                refine ac_istore_n (q := 91) (j := 1) rfl dX7_codeOf_90 rfl (Nat.le_of_ble_eq_true rfl) rfl rfl ?_
                simp only [List.set_cons_succ, List.set_cons_zero]
                refine ac_iinc (q := 94) dX7_codeOf_91 rfl (Nat.le_of_ble_eq_true rfl) rfl rfl rfl rfl ?_
                simp only [List.set_cons_succ, List.set_cons_zero]
                refine ac_goto (q := 12) dX7_codeOf_94 rfl ?_
                first
                  | (exfalso; omega)
                  | (have h1 : ¬ u = 0 := by omega
                     have h2 : ¬ u = 1 := by omega
                     have h3 : ¬ c = a := by omega
                     have h4 : ¬ c = b := by omega
                     have hst : ac_cs1 (v, u, a, b) c = (3 * v + 2, u, a, b) := by unfold ac_cs1; simp only; rw [if_neg h1, if_neg h2, if_neg h3, if_neg h4]
                     rw [hst] at he
                     exact ac_ls (ac_l7 (by omega) (by omega) (by omega) (by omega) (by omega)) (ih (i + 1) (3 * v + 2) (u) a b (0, (c : Int)) (show (0 : Nat) ≠ 1 by decide) hdr2 (by omega) (by omega) (by omega) (by omega) he))
              · skip
                refine ac_iload (q := 79) dX7_codeOf_77 rfl rfl ?_
                refine ac_iload (q := 81) dX7_codeOf_79 rfl rfl ?_
                refine ac_icmp_ne (q := 84) (tgt := 88) dX7_codeOf_81 rfl rfl ⟨by omega, by omega⟩ ⟨by omega, by omega⟩ (fun h81 => ?_) (fun h81 => ?_)
                · skip
                  refine ac_iconst (q := 89) dX7_codeOf_88 rfl ?_
                  refine ac_iadd (q := 90) dX7_codeOf_89 rfl ?_
                  refine ac_istore_n (q := 91) (j := 1) rfl dX7_codeOf_90 rfl (Nat.le_of_ble_eq_true rfl) rfl rfl ?_
                  simp only [List.set_cons_succ, List.set_cons_zero]
                  refine ac_iinc (q := 94) dX7_codeOf_91 rfl (Nat.le_of_ble_eq_true rfl) rfl rfl rfl rfl ?_
                  simp only [List.set_cons_succ, List.set_cons_zero]
                  refine ac_goto (q := 12) dX7_codeOf_94 rfl ?_
                  first
                    | (exfalso; omega)
                    | (have h1 : ¬ u = 0 := by omega
                       have h2 : ¬ u = 1 := by omega
                       have h3 : ¬ c = a := by omega
                       have h4 : ¬ c = b := by omega
                       have hst : ac_cs1 (v, u, a, b) c = (3 * v + 2, u, a, b) := by unfold ac_cs1; simp only; rw [if_neg h1, if_neg h2, if_neg h3, if_neg h4]
                       rw [hst] at he
                       exact ac_ls (ac_l7 (by omega) (by omega) (by omega) (by omega) (by omega)) (ih (i + 1) (3 * v + 2) (u) a b (0, (c : Int)) (show (0 : Nat) ≠ 1 by decide) hdr2 (by omega) (by omega) (by omega) (by omega) he))
                · skip
                  refine ac_iconst (q := 85) dX7_codeOf_84 rfl ?_
                  refine ac_goto (q := 89) dX7_codeOf_85 rfl ?_
                  refine ac_iadd (q := 90) dX7_codeOf_89 rfl ?_
                  refine ac_istore_n (q := 91) (j := 1) rfl dX7_codeOf_90 rfl (Nat.le_of_ble_eq_true rfl) rfl rfl ?_
                  simp only [List.set_cons_succ, List.set_cons_zero]
                  refine ac_iinc (q := 94) dX7_codeOf_91 rfl (Nat.le_of_ble_eq_true rfl) rfl rfl rfl rfl ?_
                  simp only [List.set_cons_succ, List.set_cons_zero]
                  refine ac_goto (q := 12) dX7_codeOf_94 rfl ?_
                  first
                    | (exfalso; omega)
                    | (have h1 : ¬ u = 0 := by omega
                       have h2 : ¬ u = 1 := by omega
                       have h3 : ¬ c = a := by omega
                       have h4 : c = b := by omega
                       have hst : ac_cs1 (v, u, a, b) c = (3 * v + 1, u, a, b) := by unfold ac_cs1; simp only; rw [if_neg h1, if_neg h2, if_neg h3, if_pos h4]
                       rw [hst] at he
                       exact ac_ls (ac_l7 (by omega) (by omega) (by omega) (by omega) (by omega)) (ih (i + 1) (3 * v + 1) (u) a b (0, (c : Int)) (show (0 : Nat) ≠ 1 by decide) hdr2 (by omega) (by omega) (by omega) (by omega) he))
            · skip
              refine ac_iconst (q := 69) dX7_codeOf_68 rfl ?_
              refine ac_goto (q := 89) dX7_codeOf_69 rfl ?_
              refine ac_iadd (q := 90) dX7_codeOf_89 rfl ?_
              refine ac_istore_n (q := 91) (j := 1) rfl dX7_codeOf_90 rfl (Nat.le_of_ble_eq_true rfl) rfl rfl ?_
              simp only [List.set_cons_succ, List.set_cons_zero]
              refine ac_iinc (q := 94) dX7_codeOf_91 rfl (Nat.le_of_ble_eq_true rfl) rfl rfl rfl rfl ?_
              simp only [List.set_cons_succ, List.set_cons_zero]
              refine ac_goto (q := 12) dX7_codeOf_94 rfl ?_
              first
                | (exfalso; omega)
                | (have h1 : ¬ u = 0 := by omega
                   have h2 : ¬ u = 1 := by omega
                   have h3 : c = a := by omega
                   have hst : ac_cs1 (v, u, a, b) c = (3 * v + 0, u, a, b) := by unfold ac_cs1; simp only; rw [if_neg h1, if_neg h2, if_pos h3]
                   rw [hst] at he
                   exact ac_ls (ac_l7 (by omega) (by omega) (by omega) (by omega) (by omega)) (ih (i + 1) (3 * v + 0) (u) a b (0, (c : Int)) (show (0 : Nat) ≠ 1 by decide) hdr2 (by omega) (by omega) (by omega) (by omega) he))
          · skip
            refine ac_iload (q := 49) dX7_codeOf_47 rfl rfl ?_
            refine ac_iload_n (q := 50) dX7_codeOf_49 rfl rfl ?_
            refine ac_icmp_eq (q := 53) (tgt := 59) dX7_codeOf_50 rfl rfl ⟨by omega, by omega⟩ ⟨by omega, by omega⟩ (fun h50 => ?_) (fun h50 => ?_)
            · skip
              refine ac_iconst (q := 60) dX7_codeOf_59 rfl ?_
              refine ac_iload_n (q := 61) dX7_codeOf_60 rfl rfl ?_
              refine ac_imul (q := 62) dX7_codeOf_61 rfl ?_
              refine ac_iload (q := 64) dX7_codeOf_62 rfl rfl ?_
              refine ac_iload_n (q := 65) dX7_codeOf_64 rfl rfl ?_
              refine ac_icmp_ne (q := 68) (tgt := 72) dX7_codeOf_65 rfl rfl ⟨by omega, by omega⟩ ⟨by omega, by omega⟩ (fun h65 => ?_) (fun h65 => ?_)
              · skip
                refine ac_iload_n (q := 73) dX7_codeOf_72 rfl rfl ?_
                refine ac_iconst (q := 74) dX7_codeOf_73 rfl ?_
                refine ac_icmp_le (q := 77) (tgt := 88) dX7_codeOf_74 rfl rfl ⟨by omega, by omega⟩ ⟨by omega, by omega⟩ (fun h74 => ?_) (fun h74 => ?_)
                · skip
                  refine ac_iconst (q := 89) dX7_codeOf_88 rfl ?_
                  refine ac_iadd (q := 90) dX7_codeOf_89 rfl ?_
                  refine ac_istore_n (q := 91) (j := 1) rfl dX7_codeOf_90 rfl (Nat.le_of_ble_eq_true rfl) rfl rfl ?_
                  simp only [List.set_cons_succ, List.set_cons_zero]
                  refine ac_iinc (q := 94) dX7_codeOf_91 rfl (Nat.le_of_ble_eq_true rfl) rfl rfl rfl rfl ?_
                  simp only [List.set_cons_succ, List.set_cons_zero]
                  refine ac_goto (q := 12) dX7_codeOf_94 rfl ?_
                  first
                    | (exfalso; omega)
                    | (have h1 : ¬ u = 0 := by omega
                       have h2 : u = 1 := by omega
                       have h3 : c = a := by omega
                       have hst : ac_cs1 (v, u, a, b) c = (3 * v, 1, a, b) := by unfold ac_cs1; simp only; rw [if_neg h1, if_pos h2, if_pos h3]
                       rw [hst] at he
                       exact ac_ls (ac_l7 (by omega) (by omega) (by omega) (by omega) (by omega)) (ih (i + 1) (3 * v) (1) a b (0, (c : Int)) (show (0 : Nat) ≠ 1 by decide) hdr2 (by omega) (by omega) (by omega) (by omega) he))
                · skip
                  refine ac_iload (q := 79) dX7_codeOf_77 rfl rfl ?_
                  refine ac_iload (q := 81) dX7_codeOf_79 rfl rfl ?_
                  refine ac_icmp_ne (q := 84) (tgt := 88) dX7_codeOf_81 rfl rfl ⟨by omega, by omega⟩ ⟨by omega, by omega⟩ (fun h81 => ?_) (fun h81 => ?_)
                  · skip
                    refine ac_iconst (q := 89) dX7_codeOf_88 rfl ?_
                    refine ac_iadd (q := 90) dX7_codeOf_89 rfl ?_
                    refine ac_istore_n (q := 91) (j := 1) rfl dX7_codeOf_90 rfl (Nat.le_of_ble_eq_true rfl) rfl rfl ?_
                    simp only [List.set_cons_succ, List.set_cons_zero]
                    refine ac_iinc (q := 94) dX7_codeOf_91 rfl (Nat.le_of_ble_eq_true rfl) rfl rfl rfl rfl ?_
                    simp only [List.set_cons_succ, List.set_cons_zero]
                    refine ac_goto (q := 12) dX7_codeOf_94 rfl ?_
                    first
                      | (exfalso; omega)
                      | (have h1 : ¬ u = 0 := by omega
                         have h2 : u = 1 := by omega
                         have h3 : c = a := by omega
                         have hst : ac_cs1 (v, u, a, b) c = (3 * v, 1, a, b) := by unfold ac_cs1; simp only; rw [if_neg h1, if_pos h2, if_pos h3]
                         rw [hst] at he
                         exact ac_ls (ac_l7 (by omega) (by omega) (by omega) (by omega) (by omega)) (ih (i + 1) (3 * v) (1) a b (0, (c : Int)) (show (0 : Nat) ≠ 1 by decide) hdr2 (by omega) (by omega) (by omega) (by omega) he))
                  · skip
                    refine ac_iconst (q := 85) dX7_codeOf_84 rfl ?_
                    refine ac_goto (q := 89) dX7_codeOf_85 rfl ?_
                    refine ac_iadd (q := 90) dX7_codeOf_89 rfl ?_
                    refine ac_istore_n (q := 91) (j := 1) rfl dX7_codeOf_90 rfl (Nat.le_of_ble_eq_true rfl) rfl rfl ?_
                    simp only [List.set_cons_succ, List.set_cons_zero]
                    refine ac_iinc (q := 94) dX7_codeOf_91 rfl (Nat.le_of_ble_eq_true rfl) rfl rfl rfl rfl ?_
                    simp only [List.set_cons_succ, List.set_cons_zero]
                    refine ac_goto (q := 12) dX7_codeOf_94 rfl ?_
                    first
                      | (exfalso; omega)
                      | (have h1 : ¬ u = 0 := by omega
                         have h2 : u = 1 := by omega
                         have h3 : c = a := by omega
                         have hst : ac_cs1 (v, u, a, b) c = (3 * v, 1, a, b) := by unfold ac_cs1; simp only; rw [if_neg h1, if_pos h2, if_pos h3]
                         rw [hst] at he
                         exact ac_ls (ac_l7 (by omega) (by omega) (by omega) (by omega) (by omega)) (ih (i + 1) (3 * v) (1) a b (0, (c : Int)) (show (0 : Nat) ≠ 1 by decide) hdr2 (by omega) (by omega) (by omega) (by omega) he))
              · skip
                refine ac_iconst (q := 69) dX7_codeOf_68 rfl ?_
                refine ac_goto (q := 89) dX7_codeOf_69 rfl ?_
                refine ac_iadd (q := 90) dX7_codeOf_89 rfl ?_
                refine ac_istore_n (q := 91) (j := 1) rfl dX7_codeOf_90 rfl (Nat.le_of_ble_eq_true rfl) rfl rfl ?_
                simp only [List.set_cons_succ, List.set_cons_zero]
                refine ac_iinc (q := 94) dX7_codeOf_91 rfl (Nat.le_of_ble_eq_true rfl) rfl rfl rfl rfl ?_
                simp only [List.set_cons_succ, List.set_cons_zero]
                refine ac_goto (q := 12) dX7_codeOf_94 rfl ?_
                first
                  | (exfalso; omega)
                  | (have h1 : ¬ u = 0 := by omega
                     have h2 : u = 1 := by omega
                     have h3 : c = a := by omega
                     have hst : ac_cs1 (v, u, a, b) c = (3 * v, 1, a, b) := by unfold ac_cs1; simp only; rw [if_neg h1, if_pos h2, if_pos h3]
                     rw [hst] at he
                     exact ac_ls (ac_l7 (by omega) (by omega) (by omega) (by omega) (by omega)) (ih (i + 1) (3 * v) (1) a b (0, (c : Int)) (show (0 : Nat) ≠ 1 by decide) hdr2 (by omega) (by omega) (by omega) (by omega) he))
            · skip
              refine ac_iload (q := 55) dX7_codeOf_53 rfl rfl ?_
              refine ac_istore (q := 57) dX7_codeOf_55 rfl (Nat.le_of_ble_eq_true rfl) rfl rfl ?_
              simp only [List.set_cons_succ, List.set_cons_zero]
              refine ac_iconst (q := 58) dX7_codeOf_57 rfl ?_
              refine ac_istore_n (q := 59) (j := 2) rfl dX7_codeOf_58 rfl (Nat.le_of_ble_eq_true rfl) rfl rfl ?_
              simp only [List.set_cons_succ, List.set_cons_zero]
              refine ac_iconst (q := 60) dX7_codeOf_59 rfl ?_
              refine ac_iload_n (q := 61) dX7_codeOf_60 rfl rfl ?_
              refine ac_imul (q := 62) dX7_codeOf_61 rfl ?_
              refine ac_iload (q := 64) dX7_codeOf_62 rfl rfl ?_
              refine ac_iload_n (q := 65) dX7_codeOf_64 rfl rfl ?_
              refine ac_icmp_ne (q := 68) (tgt := 72) dX7_codeOf_65 rfl rfl ⟨by omega, by omega⟩ ⟨by omega, by omega⟩ (fun h65 => ?_) (fun h65 => ?_)
              · skip
                refine ac_iload_n (q := 73) dX7_codeOf_72 rfl rfl ?_
                refine ac_iconst (q := 74) dX7_codeOf_73 rfl ?_
                refine ac_icmp_le (q := 77) (tgt := 88) dX7_codeOf_74 rfl rfl ⟨by omega, by omega⟩ ⟨by omega, by omega⟩ (fun h74 => ?_) (fun h74 => ?_)
                · exact absurd h74 (by decide)
                · skip
                  refine ac_iload (q := 79) dX7_codeOf_77 rfl rfl ?_
                  refine ac_iload (q := 81) dX7_codeOf_79 rfl rfl ?_
                  refine ac_icmp_ne (q := 84) (tgt := 88) dX7_codeOf_81 rfl rfl ⟨by omega, by omega⟩ ⟨by omega, by omega⟩ (fun h81 => ?_) (fun h81 => ?_)
                  · skip
                    refine ac_iconst (q := 89) dX7_codeOf_88 rfl ?_
                    refine ac_iadd (q := 90) dX7_codeOf_89 rfl ?_
                    refine ac_istore_n (q := 91) (j := 1) rfl dX7_codeOf_90 rfl (Nat.le_of_ble_eq_true rfl) rfl rfl ?_
                    simp only [List.set_cons_succ, List.set_cons_zero]
                    refine ac_iinc (q := 94) dX7_codeOf_91 rfl (Nat.le_of_ble_eq_true rfl) rfl rfl rfl rfl ?_
                    simp only [List.set_cons_succ, List.set_cons_zero]
                    refine ac_goto (q := 12) dX7_codeOf_94 rfl ?_
                    first
                      | (exfalso; omega)
                      | (have h1 : ¬ u = 0 := by omega
                         have h2 : u = 1 := by omega
                         have h3 : ¬ c = a := by omega
                         have hst : ac_cs1 (v, u, a, b) c = (3 * v + 1, 2, a, c) := by unfold ac_cs1; simp only; rw [if_neg h1, if_pos h2, if_neg h3]
                         rw [hst] at he
                         exact ac_ls (ac_l7 (by omega) (by omega) (by omega) (by omega) (by omega)) (ih (i + 1) (3 * v + 1) (2) a c (0, (c : Int)) (show (0 : Nat) ≠ 1 by decide) hdr2 (by omega) (by omega) (by omega) (by omega) he))
                  · skip
                    refine ac_iconst (q := 85) dX7_codeOf_84 rfl ?_
                    refine ac_goto (q := 89) dX7_codeOf_85 rfl ?_
                    refine ac_iadd (q := 90) dX7_codeOf_89 rfl ?_
                    refine ac_istore_n (q := 91) (j := 1) rfl dX7_codeOf_90 rfl (Nat.le_of_ble_eq_true rfl) rfl rfl ?_
                    simp only [List.set_cons_succ, List.set_cons_zero]
                    refine ac_iinc (q := 94) dX7_codeOf_91 rfl (Nat.le_of_ble_eq_true rfl) rfl rfl rfl rfl ?_
                    simp only [List.set_cons_succ, List.set_cons_zero]
                    refine ac_goto (q := 12) dX7_codeOf_94 rfl ?_
                    first
                      | (exfalso; omega)
                      | (have h1 : ¬ u = 0 := by omega
                         have h2 : u = 1 := by omega
                         have h3 : ¬ c = a := by omega
                         have hst : ac_cs1 (v, u, a, b) c = (3 * v + 1, 2, a, c) := by unfold ac_cs1; simp only; rw [if_neg h1, if_pos h2, if_neg h3]
                         rw [hst] at he
                         exact ac_ls (ac_l7 (by omega) (by omega) (by omega) (by omega) (by omega)) (ih (i + 1) (3 * v + 1) (2) a c (0, (c : Int)) (show (0 : Nat) ≠ 1 by decide) hdr2 (by omega) (by omega) (by omega) (by omega) he))
              · skip
                refine ac_iconst (q := 69) dX7_codeOf_68 rfl ?_
                refine ac_goto (q := 89) dX7_codeOf_69 rfl ?_
                refine ac_iadd (q := 90) dX7_codeOf_89 rfl ?_
                refine ac_istore_n (q := 91) (j := 1) rfl dX7_codeOf_90 rfl (Nat.le_of_ble_eq_true rfl) rfl rfl ?_
                simp only [List.set_cons_succ, List.set_cons_zero]
                refine ac_iinc (q := 94) dX7_codeOf_91 rfl (Nat.le_of_ble_eq_true rfl) rfl rfl rfl rfl ?_
                simp only [List.set_cons_succ, List.set_cons_zero]
                refine ac_goto (q := 12) dX7_codeOf_94 rfl ?_
                first
                  | (exfalso; omega)
                  | (have h1 : ¬ u = 0 := by omega
                     have h2 : u = 1 := by omega
                     have h3 : ¬ c = a := by omega
                     have hst : ac_cs1 (v, u, a, b) c = (3 * v + 1, 2, a, c) := by unfold ac_cs1; simp only; rw [if_neg h1, if_pos h2, if_neg h3]
                     rw [hst] at he
                     exact ac_ls (ac_l7 (by omega) (by omega) (by omega) (by omega) (by omega)) (ih (i + 1) (3 * v + 1) (2) a c (0, (c : Int)) (show (0 : Nat) ≠ 1 by decide) hdr2 (by omega) (by omega) (by omega) (by omega) he))
        · skip
          refine ac_iload (q := 36) dX7_codeOf_34 rfl rfl ?_
          refine ac_istore_n (q := 37) (j := 3) rfl dX7_codeOf_36 rfl (Nat.le_of_ble_eq_true rfl) rfl rfl ?_
          simp only [List.set_cons_succ, List.set_cons_zero]
          refine ac_iconst (q := 38) dX7_codeOf_37 rfl ?_
          refine ac_istore_n (q := 39) (j := 2) rfl dX7_codeOf_38 rfl (Nat.le_of_ble_eq_true rfl) rfl rfl ?_
          simp only [List.set_cons_succ, List.set_cons_zero]
          refine ac_goto (q := 59) dX7_codeOf_39 rfl ?_
          refine ac_iconst (q := 60) dX7_codeOf_59 rfl ?_
          refine ac_iload_n (q := 61) dX7_codeOf_60 rfl rfl ?_
          refine ac_imul (q := 62) dX7_codeOf_61 rfl ?_
          refine ac_iload (q := 64) dX7_codeOf_62 rfl rfl ?_
          refine ac_iload_n (q := 65) dX7_codeOf_64 rfl rfl ?_
          refine ac_icmp_ne (q := 68) (tgt := 72) dX7_codeOf_65 rfl rfl ⟨by omega, by omega⟩ ⟨by omega, by omega⟩ (fun h65 => ?_) (fun h65 => ?_)
          · skip
            refine ac_iload_n (q := 73) dX7_codeOf_72 rfl rfl ?_
            refine ac_iconst (q := 74) dX7_codeOf_73 rfl ?_
            refine ac_icmp_le (q := 77) (tgt := 88) dX7_codeOf_74 rfl rfl ⟨by omega, by omega⟩ ⟨by omega, by omega⟩ (fun h74 => ?_) (fun h74 => ?_)
            · skip
              refine ac_iconst (q := 89) dX7_codeOf_88 rfl ?_
              refine ac_iadd (q := 90) dX7_codeOf_89 rfl ?_
              refine ac_istore_n (q := 91) (j := 1) rfl dX7_codeOf_90 rfl (Nat.le_of_ble_eq_true rfl) rfl rfl ?_
              simp only [List.set_cons_succ, List.set_cons_zero]
              refine ac_iinc (q := 94) dX7_codeOf_91 rfl (Nat.le_of_ble_eq_true rfl) rfl rfl rfl rfl ?_
              simp only [List.set_cons_succ, List.set_cons_zero]
              refine ac_goto (q := 12) dX7_codeOf_94 rfl ?_
              first
                | (exfalso; omega)
                | (have h1 : u = 0 := by omega
                   have hst : ac_cs1 (v, u, a, b) c = (3 * v, 1, c, b) := by unfold ac_cs1; simp only; rw [if_pos h1]
                   rw [hst] at he
                   exact ac_ls (ac_l7 (by omega) (by omega) (by omega) (by omega) (by omega)) (ih (i + 1) (3 * v) (1) c b (0, (c : Int)) (show (0 : Nat) ≠ 1 by decide) hdr2 (by omega) (by omega) (by omega) (by omega) he))
            · exact absurd h74 (by decide)
          · skip
            refine ac_iconst (q := 69) dX7_codeOf_68 rfl ?_
            refine ac_goto (q := 89) dX7_codeOf_69 rfl ?_
            refine ac_iadd (q := 90) dX7_codeOf_89 rfl ?_
            refine ac_istore_n (q := 91) (j := 1) rfl dX7_codeOf_90 rfl (Nat.le_of_ble_eq_true rfl) rfl rfl ?_
            simp only [List.set_cons_succ, List.set_cons_zero]
            refine ac_iinc (q := 94) dX7_codeOf_91 rfl (Nat.le_of_ble_eq_true rfl) rfl rfl rfl rfl ?_
            simp only [List.set_cons_succ, List.set_cons_zero]
            refine ac_goto (q := 12) dX7_codeOf_94 rfl ?_
            first
              | (exfalso; omega)
              | (have h1 : u = 0 := by omega
                 have hst : ac_cs1 (v, u, a, b) c = (3 * v, 1, c, b) := by unfold ac_cs1; simp only; rw [if_pos h1]
                 rw [hst] at he
                 exact ac_ls (ac_l7 (by omega) (by omega) (by omega) (by omega) (by omega)) (ih (i + 1) (3 * v) (1) c b (0, (c : Int)) (show (0 : Nat) ≠ 1 by decide) hdr2 (by omega) (by omega) (by omega) (by omega) he))
  refine ac_met (on := (RX7, "codeOf")) rfl rfl (Nat.le_of_ble_eq_true rfl) (ls := [(2, (x : Int)), (3, 0), (3, 0), (3, 0), (3, 0), (3, 0), (3, 0)]) rfl ?_
  refine ac_iconst (q := 1) dX7_codeOf_0 rfl ?_
  refine ac_istore_n (q := 2) (j := 1) rfl dX7_codeOf_1 rfl (Nat.le_of_ble_eq_true rfl) rfl rfl ?_
  simp only [List.set_cons_succ, List.set_cons_zero]
  refine ac_iconst (q := 3) dX7_codeOf_2 rfl ?_
  refine ac_istore_n (q := 4) (j := 2) rfl dX7_codeOf_3 rfl (Nat.le_of_ble_eq_true rfl) rfl rfl ?_
  simp only [List.set_cons_succ, List.set_cons_zero]
  refine ac_iconst (q := 5) dX7_codeOf_4 rfl ?_
  refine ac_istore_n (q := 6) (j := 3) rfl dX7_codeOf_5 rfl (Nat.le_of_ble_eq_true rfl) rfl rfl ?_
  simp only [List.set_cons_succ, List.set_cons_zero]
  refine ac_iconst (q := 7) dX7_codeOf_6 rfl ?_
  refine ac_istore (q := 9) dX7_codeOf_7 rfl (Nat.le_of_ble_eq_true rfl) rfl rfl ?_
  simp only [List.set_cons_succ, List.set_cons_zero]
  refine ac_iconst (q := 10) dX7_codeOf_9 rfl ?_
  refine ac_istore (q := 12) dX7_codeOf_10 rfl (Nat.le_of_ble_eq_true rfl) rfl rfl ?_
  simp only [List.set_cons_succ, List.set_cons_zero]
  exact loop l 0 0 0 0 0 (3, 0) (show (3 : Nat) ≠ 1 by decide) rfl (by omega) (by decide) (by decide) (by decide) rfl
