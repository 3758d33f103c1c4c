theorem ac_ag_snoc {obs : List ac_Ob} {o : ac_Ob} {y : List Nat} {i : Nat} (h : obs[i]? = some o) : ac_ag (obs.take (i + 1)) y = (ac_ag (obs.take i) y && ac_ago y o) := by
  unfold ac_ag
  rw [List.take_add_one, h]
  show (obs.take i ++ [o]).all (ac_ago y) = _
  rw [List.all_append, List.all_cons, List.all_nil, Bool.and_true]
theorem ac_ago_no {y : List Nat} {o : ac_Ob} (h : ¬ (o.1 ≤ y.length ∧ o.2.1 ≤ y.length)) : ac_ago y o = true := by
  unfold ac_ago; rw [decide_eq_false h]; rfl
theorem ac_ago_yes {y : List Nat} {o : ac_Ob} {a b : Nat} (h : o.1 ≤ y.length ∧ o.2.1 ≤ y.length) (ha : y[o.1 - 1]? = some a) (hb : y[o.2.1 - 1]? = some b) : ac_ago y o = true ↔ (a = b ↔ o.2.2 = 1) := by
  unfold ac_ago
  rw [decide_eq_true h, ha, hb, Bool.not_true, Bool.false_or, beq_iff_eq]
  simp only [Option.some.injEq, decide_eq_decide]

set_option maxHeartbeats 8000000 in
theorem k_X7_which {G : ac_G} {Y : ac_Y} {mm : ac_M} {d x : Nat} {s : List Nat} {T : ac_Tk} {hs : List ac_Tk} {s0 s1 : Option ac_Tk} {obs : List ac_Ob} {ch : Int} {w : Int} (hd : 30 ≤ d) (hM : ac_isM Y x) (hR : ac_RM mm x s T hs s0 s1 obs ch) (hw : ac_in w) : ac_C G yX7_which cX7_which 8 (some .int) d 0 0 Y mm [(2, (x : Int)), (0, w)] (ac_R Y [(0, (if w = 0 then ((ac_Lt T).countP (ac_ag obs) : Int) else if w = 1 then ac_low obs (ac_Lt T) else -2))] (fun m => ac_RM m x s T hs s0 s1 obs ch ∧ ac_fM mm m x)) := by
  have hM9 := hM
  obtain ⟨kx, k1, k2, k3, k4, k5, k6, k7, k8, k9, k10, k11, k12, k13, k14, k15, k16⟩ := hM.2
  obtain ⟨-, ⟨hkk, hPg⟩, -⟩ := id hR
  obtain ⟨⟨⟨hn1, hn2⟩, ⟨hk2, hk3⟩, hE, hp0, hpr, hc0⟩, -⟩ := id hPg
  have hE4 := hE.1
  have hLn := ac_Lt_len T hn2
  obtain ⟨hw1, hw2⟩ := hw
  have inner : ∀ (f i : Nat) (m : ac_M) (y : List Nat) (n1 n2 n3 : Int) (tt : Nat × Int), tt.1 ≠ 1 → i + f = obs.length → ac_RM m x s T hs s0 s1 obs ch → m x 22 = (T.1 : Int) → ac_wy m x y → y.length = T.1 → (∀ c ∈ y, c < T.2.1) → (∀ tt : Nat × Int, tt.1 ≠ 1 → ac_V G (RX7, "which") cX7_which 8 (some .int) d 0 0 (ac_R Y [(0, (if w = 0 then ((ac_Lt T).countP (ac_ag obs) : Int) else if w = 1 then ac_low obs (ac_Lt T) else -2))] (fun m => ac_RM m x s T hs s0 s1 obs ch ∧ ac_fM mm m x)) 0 0 Y m 165 [(2, (x : Int)), (0, w), (0, n1), (0, n2), (0, n3), (0, ac_b (ac_ag obs y = true)), (3, 0), tt] []) → ac_V G (RX7, "which") cX7_which 8 (some .int) d 0 0 (ac_R Y [(0, (if w = 0 then ((ac_Lt T).countP (ac_ag obs) : Int) else if w = 1 then ac_low obs (ac_Lt T) else -2))] (fun m => ac_RM m x s T hs s0 s1 obs ch ∧ ac_fM mm m x)) 0 0 Y m 47 [(2, (x : Int)), (0, w), (0, n1), (0, n2), (0, n3), (0, ac_b (ac_ag (obs.take i) y = true)), (0, (i : Int)), tt] [] := by
    intro f
    induction f with
    | zero =>
      intro i m y n1 n2 n3 tt htt hi A h22 wy ly ck hK
      obtain ⟨tt1, tt2⟩ := tt
      simp only at htt
      obtain ⟨⟨s1, s2⟩, s3, s4⟩ := A.2.2.2.2.1
      obtain rfl : i = obs.length := by omega
      rw [List.take_of_length_le (Nat.le_refl _)]
      refine ac_iload (q := 49) dX7_which_47 rfl rfl ?_
      refine ac_aload_n (q := 50) dX7_which_49 rfl rfl ?_
      refine ac_get (q := 53) dX7_which_50 fl_X7_253 kx rfl (ac_rdi rfl s3) ?_
      refine ac_icmp_ge (q := 56) (tgt := 165) dX7_which_53 rfl rfl ⟨by omega, by omega⟩ ⟨by omega, by omega⟩ (fun h53 => ?_) (fun h53 => ?_)
      · refine ac_drop [(2, (x : Int)), (0, w), (0, n1), (0, n2), (0, n3), _, (3, 0), (tt1, tt2)] (by repeat (first | exact trivial | refine ⟨Or.inl rfl, ?_⟩ | refine ⟨Or.inr rfl, ?_⟩)) ?_
        exact hK (tt1, tt2) htt
      · exfalso; omega
    | succ f ih =>
      intro i m y n1 n2 n3 tt htt hi A h22 wy ly ck hK
      obtain ⟨tt1, tt2⟩ := tt
      simp only at htt
      obtain ⟨⟨s1, s2⟩, s3, s4⟩ := A.2.2.2.2.1
      obtain ⟨o, ho⟩ : ∃ o, obs[i]? = some o := ⟨_, List.getElem?_eq_getElem (by omega)⟩
      obtain ⟨v1, v2, v3⟩ := s4 i o ho
      obtain ⟨⟨oa1, oa2⟩, ⟨ob1, ob2⟩, oab, ow⟩ := s2 o (List.mem_of_getElem? ho)
      have hsn := ac_ag_snoc (y := y) ho
      have ei : ((i : Nat) : Int) + 1 = ((i + 1 : Nat) : Int) := rfl
      have hs := fun tt : Nat × Int => ih (i + 1) m y n1 n2 n3 tt
      by_cases hprev : ac_ag (obs.take i) y = true
      · rw [ac_b1 hprev]
        refine ac_iload (q := 49) dX7_which_47 rfl rfl ?_
        refine ac_aload_n (q := 50) dX7_which_49 rfl rfl ?_
        refine ac_get (q := 53) dX7_which_50 fl_X7_253 kx rfl (ac_rdi rfl s3) ?_
        refine ac_icmp_ge (q := 56) (tgt := 165) dX7_which_53 rfl rfl ⟨by omega, by omega⟩ ⟨by omega, by omega⟩ (fun h53 => ?_) (fun h53 => ?_)
        · exfalso; omega
        · refine ac_aload_n (q := 57) dX7_which_56 rfl rfl ?_
          refine ac_get (q := 60) dX7_which_57 fl_X7_36 (by assumption) rfl (ac_rdr rfl hM9.1.2.2.2.2.2.2.2.1) ?_
          refine ac_iload (q := 62) dX7_which_60 rfl rfl ?_
          refine ac_ialoadN (q := 63) (j := i) (v := (o.1 : Int)) dX7_which_62 k8 (by decide) (by omega) rfl v1 ?_
          refine ac_aload_n (q := 64) dX7_which_63 rfl rfl ?_
          refine ac_get (q := 67) dX7_which_64 fl_X7_142 kx rfl (ac_rdi rfl h22) ?_
          refine ac_icmp_gt (q := 70) (tgt := 88) dX7_which_67 rfl rfl ⟨by omega, by omega⟩ ⟨by omega, by omega⟩ (fun h67 => ?_) (fun h67 => ?_)
          · refine ac_iconst (q := 89) dX7_which_88 rfl ?_
            refine ac_istore (q := 91) dX7_which_89 rfl (Nat.le_of_ble_eq_true rfl) rfl rfl ?_
            simp only [List.set_cons_succ, List.set_cons_zero]
            refine ac_iload (q := 93) dX7_which_91 rfl rfl ?_
            refine ac_if_eq (q := 96) (tgt := 156) dX7_which_93 rfl rfl ⟨by omega, by omega⟩ (fun h93 => ?_) (fun h93 => ?_)
            · exact absurd h93 (by decide)
            · refine ac_iload (q := 98) dX7_which_96 rfl rfl ?_
              refine ac_if_eq (q := 101) (tgt := 152) dX7_which_98 rfl rfl ⟨by omega, by omega⟩ (fun h98 => ?_) (fun h98 => ?_)
              · refine ac_iconst (q := 153) dX7_which_152 rfl ?_
                refine ac_goto (q := 157) dX7_which_153 rfl ?_
                refine ac_istore (q := 159) dX7_which_157 rfl (Nat.le_of_ble_eq_true rfl) rfl rfl ?_
                simp only [List.set_cons_succ, List.set_cons_zero]
                refine ac_iinc (q := 162) dX7_which_159 rfl (Nat.le_of_ble_eq_true rfl) rfl rfl rfl rfl ?_
                simp only [List.set_cons_succ, List.set_cons_zero]
                refine ac_goto (q := 47) dX7_which_162 rfl ?_
                have hag : ac_ago y o = true := by
                  first
                    | exact ac_ago_no (by omega)
                    | (refine hyes.mpr ⟨fun q => ?_, fun q => ?_⟩ <;> omega)
                have hnew : ac_ag (obs.take (i + 1)) y = true := by rw [hsn, hprev, hag]; rfl
                refine ac_ls (ls' := [(2, (x : Int)), (0, w), (0, n1), (0, n2), (0, n3), (0, ac_b (ac_ag (obs.take (i + 1)) y = true)), (0, ((i + 1 : Nat) : Int)), _]) (by rw [ac_b1 hnew]; rfl) ?_
                exact hs _ (show (0 : Nat) ≠ 1 by decide) (by omega) A h22 wy ly ck hK
              · exact absurd h98 (by decide)
          · refine ac_aload_n (q := 71) dX7_which_70 rfl rfl ?_
            refine ac_get (q := 74) dX7_which_71 fl_X7_39 (by assumption) rfl (ac_rdr rfl hM9.1.2.2.2.2.2.2.2.2.1) ?_
            refine ac_iload (q := 76) dX7_which_74 rfl rfl ?_
            refine ac_ialoadN (q := 77) (j := i) (v := (o.2.1 : Int)) dX7_which_76 k9 (by decide) (by omega) rfl v2 ?_
            refine ac_aload_n (q := 78) dX7_which_77 rfl rfl ?_
            refine ac_get (q := 81) dX7_which_78 fl_X7_142 kx rfl (ac_rdi rfl h22) ?_
            refine ac_icmp_gt (q := 84) (tgt := 88) dX7_which_81 rfl rfl ⟨by omega, by omega⟩ ⟨by omega, by omega⟩ (fun h81 => ?_) (fun h81 => ?_)
            · refine ac_iconst (q := 89) dX7_which_88 rfl ?_
              refine ac_istore (q := 91) dX7_which_89 rfl (Nat.le_of_ble_eq_true rfl) rfl rfl ?_
              simp only [List.set_cons_succ, List.set_cons_zero]
              refine ac_iload (q := 93) dX7_which_91 rfl rfl ?_
              refine ac_if_eq (q := 96) (tgt := 156) dX7_which_93 rfl rfl ⟨by omega, by omega⟩ (fun h93 => ?_) (fun h93 => ?_)
              · exact absurd h93 (by decide)
              · refine ac_iload (q := 98) dX7_which_96 rfl rfl ?_
                refine ac_if_eq (q := 101) (tgt := 152) dX7_which_98 rfl rfl ⟨by omega, by omega⟩ (fun h98 => ?_) (fun h98 => ?_)
                · refine ac_iconst (q := 153) dX7_which_152 rfl ?_
                  refine ac_goto (q := 157) dX7_which_153 rfl ?_
                  refine ac_istore (q := 159) dX7_which_157 rfl (Nat.le_of_ble_eq_true rfl) rfl rfl ?_
                  simp only [List.set_cons_succ, List.set_cons_zero]
                  refine ac_iinc (q := 162) dX7_which_159 rfl (Nat.le_of_ble_eq_true rfl) rfl rfl rfl rfl ?_
                  simp only [List.set_cons_succ, List.set_cons_zero]
                  refine ac_goto (q := 47) dX7_which_162 rfl ?_
                  have hag : ac_ago y o = true := by
                    first
                      | exact ac_ago_no (by omega)
                      | (refine hyes.mpr ⟨fun q => ?_, fun q => ?_⟩ <;> omega)
                  have hnew : ac_ag (obs.take (i + 1)) y = true := by rw [hsn, hprev, hag]; rfl
                  refine ac_ls (ls' := [(2, (x : Int)), (0, w), (0, n1), (0, n2), (0, n3), (0, ac_b (ac_ag (obs.take (i + 1)) y = true)), (0, ((i + 1 : Nat) : Int)), _]) (by rw [ac_b1 hnew]; rfl) ?_
                  exact hs _ (show (0 : Nat) ≠ 1 by decide) (by omega) A h22 wy ly ck hK
                · exact absurd h98 (by decide)
            · obtain ⟨p1, hp1⟩ : ∃ p, y[o.1 - 1]? = some p := ⟨_, List.getElem?_eq_getElem (by omega)⟩
              obtain ⟨p2, hp2⟩ : ∃ p, y[o.2.1 - 1]? = some p := ⟨_, List.getElem?_eq_getElem (by omega)⟩
              have hpk1 := ck p1 (List.mem_of_getElem? hp1)
              have hpk2 := ck p2 (List.mem_of_getElem? hp2)
              have hyes := ac_ago_yes (y := y) (o := o) ⟨by omega, by omega⟩ hp1 hp2
              refine ac_iconst (q := 85) dX7_which_84 rfl ?_
              refine ac_goto (q := 89) dX7_which_85 rfl ?_
              refine ac_istore (q := 91) dX7_which_89 rfl (Nat.le_of_ble_eq_true rfl) rfl rfl ?_
              simp only [List.set_cons_succ, List.set_cons_zero]
              refine ac_iload (q := 93) dX7_which_91 rfl rfl ?_
              refine ac_if_eq (q := 96) (tgt := 156) dX7_which_93 rfl rfl ⟨by omega, by omega⟩ (fun h93 => ?_) (fun h93 => ?_)
              · exact absurd h93 (by decide)
              · refine ac_iload (q := 98) dX7_which_96 rfl rfl ?_
                refine ac_if_eq (q := 101) (tgt := 152) dX7_which_98 rfl rfl ⟨by omega, by omega⟩ (fun h98 => ?_) (fun h98 => ?_)
                · exact absurd h98 (by decide)
                · refine ac_aload_n (q := 102) dX7_which_101 rfl rfl ?_
                  refine ac_get (q := 105) dX7_which_102 fl_X7_51 (by assumption) rfl (ac_rdr rfl hM9.1.2.2.2.2.2.2.2.2.2.2.2.2.1) ?_
                  refine ac_aload_n (q := 106) dX7_which_105 rfl rfl ?_
                  refine ac_get (q := 109) dX7_which_106 fl_X7_36 (by assumption) rfl (ac_rdr rfl hM9.1.2.2.2.2.2.2.2.1) ?_
                  refine ac_iload (q := 111) dX7_which_109 rfl rfl ?_
                  refine ac_ialoadN (q := 112) (j := i) (v := (o.1 : Int)) dX7_which_111 k8 (by decide) (by omega) rfl v1 ?_
                  refine ac_ialoadN (q := 113) (j := o.1) (v := (p1 : Int)) dX7_which_112 k13 (by decide) (by omega) rfl (by have := wy (o.1 - 1) p1 hp1; rw [show o.1 - 1 + 1 = o.1 by omega] at this; exact this) ?_
                  refine ac_aload_n (q := 114) dX7_which_113 rfl rfl ?_
                  refine ac_get (q := 117) dX7_which_114 fl_X7_51 (by assumption) rfl (ac_rdr rfl hM9.1.2.2.2.2.2.2.2.2.2.2.2.2.1) ?_
                  refine ac_aload_n (q := 118) dX7_which_117 rfl rfl ?_
                  refine ac_get (q := 121) dX7_which_118 fl_X7_39 (by assumption) rfl (ac_rdr rfl hM9.1.2.2.2.2.2.2.2.2.1) ?_
                  refine ac_iload (q := 123) dX7_which_121 rfl rfl ?_
                  refine ac_ialoadN (q := 124) (j := i) (v := (o.2.1 : Int)) dX7_which_123 k9 (by decide) (by omega) rfl v2 ?_
                  refine ac_ialoadN (q := 125) (j := o.2.1) (v := (p2 : Int)) dX7_which_124 k13 (by decide) (by omega) rfl (by have := wy (o.2.1 - 1) p2 hp2; rw [show o.2.1 - 1 + 1 = o.2.1 by omega] at this; exact this) ?_
                  refine ac_icmp_ne (q := 128) (tgt := 132) dX7_which_125 rfl rfl ⟨by omega, by omega⟩ ⟨by omega, by omega⟩ (fun h125 => ?_) (fun h125 => ?_)
                  · refine ac_iconst (q := 133) dX7_which_132 rfl ?_
                    refine ac_aload_n (q := 134) dX7_which_133 rfl rfl ?_
                    refine ac_get (q := 137) dX7_which_134 fl_X7_42 (by assumption) rfl (ac_rdr rfl hM9.1.2.2.2.2.2.2.2.2.2.1) ?_
                    refine ac_iload (q := 139) dX7_which_137 rfl rfl ?_
                    refine ac_ialoadN (q := 140) (j := i) (v := (o.2.2 : Int)) dX7_which_139 k10 (by decide) (by omega) rfl v3 ?_
                    refine ac_iconst (q := 141) dX7_which_140 rfl ?_
                    refine ac_icmp_ne (q := 144) (tgt := 148) dX7_which_141 rfl rfl ⟨by omega, by omega⟩ ⟨by omega, by omega⟩ (fun h141 => ?_) (fun h141 => ?_)
                    · refine ac_iconst (q := 149) dX7_which_148 rfl ?_
                      refine ac_icmp_ne (q := 152) (tgt := 156) dX7_which_149 rfl rfl ⟨by omega, by omega⟩ ⟨by omega, by omega⟩ (fun h149 => ?_) (fun h149 => ?_)
                      · exact absurd h149 (by decide)
                      · refine ac_iconst (q := 153) dX7_which_152 rfl ?_
                        refine ac_goto (q := 157) dX7_which_153 rfl ?_
                        refine ac_istore (q := 159) dX7_which_157 rfl (Nat.le_of_ble_eq_true rfl) rfl rfl ?_
                        simp only [List.set_cons_succ, List.set_cons_zero]
                        refine ac_iinc (q := 162) dX7_which_159 rfl (Nat.le_of_ble_eq_true rfl) rfl rfl rfl rfl ?_
                        simp only [List.set_cons_succ, List.set_cons_zero]
                        refine ac_goto (q := 47) dX7_which_162 rfl ?_
                        have hag : ac_ago y o = true := by
                          first
                            | exact ac_ago_no (by omega)
                            | (refine hyes.mpr ⟨fun q => ?_, fun q => ?_⟩ <;> omega)
                        have hnew : ac_ag (obs.take (i + 1)) y = true := by rw [hsn, hprev, hag]; rfl
                        refine ac_ls (ls' := [(2, (x : Int)), (0, w), (0, n1), (0, n2), (0, n3), (0, ac_b (ac_ag (obs.take (i + 1)) y = true)), (0, ((i + 1 : Nat) : Int)), _]) (by rw [ac_b1 hnew]; rfl) ?_
                        exact hs _ (show (0 : Nat) ≠ 1 by decide) (by omega) A h22 wy ly ck hK
                    · refine ac_iconst (q := 145) dX7_which_144 rfl ?_
                      refine ac_goto (q := 149) dX7_which_145 rfl ?_
                      refine ac_icmp_ne (q := 152) (tgt := 156) dX7_which_149 rfl rfl ⟨by omega, by omega⟩ ⟨by omega, by omega⟩ (fun h149 => ?_) (fun h149 => ?_)
                      · refine ac_iconst (q := 157) dX7_which_156 rfl ?_
                        refine ac_istore (q := 159) dX7_which_157 rfl (Nat.le_of_ble_eq_true rfl) rfl rfl ?_
                        simp only [List.set_cons_succ, List.set_cons_zero]
                        refine ac_iinc (q := 162) dX7_which_159 rfl (Nat.le_of_ble_eq_true rfl) rfl rfl rfl rfl ?_
                        simp only [List.set_cons_succ, List.set_cons_zero]
                        refine ac_goto (q := 47) dX7_which_162 rfl ?_
                        have hnew : ¬ ac_ag (obs.take (i + 1)) y = true := by
                          rw [hsn]
                          first
                            | (rw [Bool.eq_false_iff.mpr hprev]; simp; done)
                            | (intro q
                               rw [Bool.and_eq_true] at q
                               have := hyes.mp q.2
                               omega)
                        refine ac_ls (ls' := [(2, (x : Int)), (0, w), (0, n1), (0, n2), (0, n3), (0, ac_b (ac_ag (obs.take (i + 1)) y = true)), (0, ((i + 1 : Nat) : Int)), _]) (by rw [ac_b0 hnew]; rfl) ?_
                        exact hs _ (show (0 : Nat) ≠ 1 by decide) (by omega) A h22 wy ly ck hK
                      · exact absurd h149 (by decide)
                  · refine ac_iconst (q := 129) dX7_which_128 rfl ?_
                    refine ac_goto (q := 133) dX7_which_129 rfl ?_
                    refine ac_aload_n (q := 134) dX7_which_133 rfl rfl ?_
                    refine ac_get (q := 137) dX7_which_134 fl_X7_42 (by assumption) rfl (ac_rdr rfl hM9.1.2.2.2.2.2.2.2.2.2.1) ?_
                    refine ac_iload (q := 139) dX7_which_137 rfl rfl ?_
                    refine ac_ialoadN (q := 140) (j := i) (v := (o.2.2 : Int)) dX7_which_139 k10 (by decide) (by omega) rfl v3 ?_
                    refine ac_iconst (q := 141) dX7_which_140 rfl ?_
                    refine ac_icmp_ne (q := 144) (tgt := 148) dX7_which_141 rfl rfl ⟨by omega, by omega⟩ ⟨by omega, by omega⟩ (fun h141 => ?_) (fun h141 => ?_)
                    · refine ac_iconst (q := 149) dX7_which_148 rfl ?_
                      refine ac_icmp_ne (q := 152) (tgt := 156) dX7_which_149 rfl rfl ⟨by omega, by omega⟩ ⟨by omega, by omega⟩ (fun h149 => ?_) (fun h149 => ?_)
                      · refine ac_iconst (q := 157) dX7_which_156 rfl ?_
                        refine ac_istore (q := 159) dX7_which_157 rfl (Nat.le_of_ble_eq_true rfl) rfl rfl ?_
                        simp only [List.set_cons_succ, List.set_cons_zero]
                        refine ac_iinc (q := 162) dX7_which_159 rfl (Nat.le_of_ble_eq_true rfl) rfl rfl rfl rfl ?_
                        simp only [List.set_cons_succ, List.set_cons_zero]
                        refine ac_goto (q := 47) dX7_which_162 rfl ?_
                        have hnew : ¬ ac_ag (obs.take (i + 1)) y = true := by
                          rw [hsn]
                          first
                            | (rw [Bool.eq_false_iff.mpr hprev]; simp; done)
                            | (intro q
                               rw [Bool.and_eq_true] at q
                               have := hyes.mp q.2
                               omega)
                        refine ac_ls (ls' := [(2, (x : Int)), (0, w), (0, n1), (0, n2), (0, n3), (0, ac_b (ac_ag (obs.take (i + 1)) y = true)), (0, ((i + 1 : Nat) : Int)), _]) (by rw [ac_b0 hnew]; rfl) ?_
                        exact hs _ (show (0 : Nat) ≠ 1 by decide) (by omega) A h22 wy ly ck hK
                      · exact absurd h149 (by decide)
                    · refine ac_iconst (q := 145) dX7_which_144 rfl ?_
                      refine ac_goto (q := 149) dX7_which_145 rfl ?_
                      refine ac_icmp_ne (q := 152) (tgt := 156) dX7_which_149 rfl rfl ⟨by omega, by omega⟩ ⟨by omega, by omega⟩ (fun h149 => ?_) (fun h149 => ?_)
                      · exact absurd h149 (by decide)
                      · refine ac_iconst (q := 153) dX7_which_152 rfl ?_
                        refine ac_goto (q := 157) dX7_which_153 rfl ?_
                        refine ac_istore (q := 159) dX7_which_157 rfl (Nat.le_of_ble_eq_true rfl) rfl rfl ?_
                        simp only [List.set_cons_succ, List.set_cons_zero]
                        refine ac_iinc (q := 162) dX7_which_159 rfl (Nat.le_of_ble_eq_true rfl) rfl rfl rfl rfl ?_
                        simp only [List.set_cons_succ, List.set_cons_zero]
                        refine ac_goto (q := 47) dX7_which_162 rfl ?_
                        have hag : ac_ago y o = true := by
                          first
                            | exact ac_ago_no (by omega)
                            | (refine hyes.mpr ⟨fun q => ?_, fun q => ?_⟩ <;> omega)
                        have hnew : ac_ag (obs.take (i + 1)) y = true := by rw [hsn, hprev, hag]; rfl
                        refine ac_ls (ls' := [(2, (x : Int)), (0, w), (0, n1), (0, n2), (0, n3), (0, ac_b (ac_ag (obs.take (i + 1)) y = true)), (0, ((i + 1 : Nat) : Int)), _]) (by rw [ac_b1 hnew]; rfl) ?_
                        exact hs _ (show (0 : Nat) ≠ 1 by decide) (by omega) A h22 wy ly ck hK
      · rw [ac_b0 hprev]
        refine ac_iload (q := 49) dX7_which_47 rfl rfl ?_
        refine ac_aload_n (q := 50) dX7_which_49 rfl rfl ?_
        refine ac_get (q := 53) dX7_which_50 fl_X7_253 kx rfl (ac_rdi rfl s3) ?_
        refine ac_icmp_ge (q := 56) (tgt := 165) dX7_which_53 rfl rfl ⟨by omega, by omega⟩ ⟨by omega, by omega⟩ (fun h53 => ?_) (fun h53 => ?_)
        · exfalso; omega
        · refine ac_aload_n (q := 57) dX7_which_56 rfl rfl ?_
          refine ac_get (q := 60) dX7_which_57 fl_X7_36 (by assumption) rfl (ac_rdr rfl hM9.1.2.2.2.2.2.2.2.1) ?_
          refine ac_iload (q := 62) dX7_which_60 rfl rfl ?_
          refine ac_ialoadN (q := 63) (j := i) (v := (o.1 : Int)) dX7_which_62 k8 (by decide) (by omega) rfl v1 ?_
          refine ac_aload_n (q := 64) dX7_which_63 rfl rfl ?_
          refine ac_get (q := 67) dX7_which_64 fl_X7_142 kx rfl (ac_rdi rfl h22) ?_
          refine ac_icmp_gt (q := 70) (tgt := 88) dX7_which_67 rfl rfl ⟨by omega, by omega⟩ ⟨by omega, by omega⟩ (fun h67 => ?_) (fun h67 => ?_)
          · refine ac_iconst (q := 89) dX7_which_88 rfl ?_
            refine ac_istore (q := 91) dX7_which_89 rfl (Nat.le_of_ble_eq_true rfl) rfl rfl ?_
            simp only [List.set_cons_succ, List.set_cons_zero]
            refine ac_iload (q := 93) dX7_which_91 rfl rfl ?_
            refine ac_if_eq (q := 96) (tgt := 156) dX7_which_93 rfl rfl ⟨by omega, by omega⟩ (fun h93 => ?_) (fun h93 => ?_)
            · refine ac_iconst (q := 157) dX7_which_156 rfl ?_
              refine ac_istore (q := 159) dX7_which_157 rfl (Nat.le_of_ble_eq_true rfl) rfl rfl ?_
              simp only [List.set_cons_succ, List.set_cons_zero]
              refine ac_iinc (q := 162) dX7_which_159 rfl (Nat.le_of_ble_eq_true rfl) rfl rfl rfl rfl ?_
              simp only [List.set_cons_succ, List.set_cons_zero]
              refine ac_goto (q := 47) dX7_which_162 rfl ?_
              have hnew : ¬ ac_ag (obs.take (i + 1)) y = true := by
                rw [hsn]
                first
                  | (rw [Bool.eq_false_iff.mpr hprev]; simp; done)
                  | (intro q
                     rw [Bool.and_eq_true] at q
                     have := hyes.mp q.2
                     omega)
              refine ac_ls (ls' := [(2, (x : Int)), (0, w), (0, n1), (0, n2), (0, n3), (0, ac_b (ac_ag (obs.take (i + 1)) y = true)), (0, ((i + 1 : Nat) : Int)), _]) (by rw [ac_b0 hnew]; rfl) ?_
              exact hs _ (show (0 : Nat) ≠ 1 by decide) (by omega) A h22 wy ly ck hK
            · exact absurd rfl h93
          · refine ac_aload_n (q := 71) dX7_which_70 rfl rfl ?_
            refine ac_get (q := 74) dX7_which_71 fl_X7_39 (by assumption) rfl (ac_rdr rfl hM9.1.2.2.2.2.2.2.2.2.1) ?_
            refine ac_iload (q := 76) dX7_which_74 rfl rfl ?_
            refine ac_ialoadN (q := 77) (j := i) (v := (o.2.1 : Int)) dX7_which_76 k9 (by decide) (by omega) rfl v2 ?_
            refine ac_aload_n (q := 78) dX7_which_77 rfl rfl ?_
            refine ac_get (q := 81) dX7_which_78 fl_X7_142 kx rfl (ac_rdi rfl h22) ?_
            refine ac_icmp_gt (q := 84) (tgt := 88) dX7_which_81 rfl rfl ⟨by omega, by omega⟩ ⟨by omega, by omega⟩ (fun h81 => ?_) (fun h81 => ?_)
            · refine ac_iconst (q := 89) dX7_which_88 rfl ?_
              refine ac_istore (q := 91) dX7_which_89 rfl (Nat.le_of_ble_eq_true rfl) rfl rfl ?_
              simp only [List.set_cons_succ, List.set_cons_zero]
              refine ac_iload (q := 93) dX7_which_91 rfl rfl ?_
              refine ac_if_eq (q := 96) (tgt := 156) dX7_which_93 rfl rfl ⟨by omega, by omega⟩ (fun h93 => ?_) (fun h93 => ?_)
              · refine ac_iconst (q := 157) dX7_which_156 rfl ?_
                refine ac_istore (q := 159) dX7_which_157 rfl (Nat.le_of_ble_eq_true rfl) rfl rfl ?_
                simp only [List.set_cons_succ, List.set_cons_zero]
                refine ac_iinc (q := 162) dX7_which_159 rfl (Nat.le_of_ble_eq_true rfl) rfl rfl rfl rfl ?_
                simp only [List.set_cons_succ, List.set_cons_zero]
                refine ac_goto (q := 47) dX7_which_162 rfl ?_
                have hnew : ¬ ac_ag (obs.take (i + 1)) y = true := by
                  rw [hsn]
                  first
                    | (rw [Bool.eq_false_iff.mpr hprev]; simp; done)
                    | (intro q
                       rw [Bool.and_eq_true] at q
                       have := hyes.mp q.2
                       omega)
                refine ac_ls (ls' := [(2, (x : Int)), (0, w), (0, n1), (0, n2), (0, n3), (0, ac_b (ac_ag (obs.take (i + 1)) y = true)), (0, ((i + 1 : Nat) : Int)), _]) (by rw [ac_b0 hnew]; rfl) ?_
                exact hs _ (show (0 : Nat) ≠ 1 by decide) (by omega) A h22 wy ly ck hK
              · exact absurd rfl h93
            · refine ac_iconst (q := 85) dX7_which_84 rfl ?_
              refine ac_goto (q := 89) dX7_which_85 rfl ?_
              refine ac_istore (q := 91) dX7_which_89 rfl (Nat.le_of_ble_eq_true rfl) rfl rfl ?_
              simp only [List.set_cons_succ, List.set_cons_zero]
              refine ac_iload (q := 93) dX7_which_91 rfl rfl ?_
              refine ac_if_eq (q := 96) (tgt := 156) dX7_which_93 rfl rfl ⟨by omega, by omega⟩ (fun h93 => ?_) (fun h93 => ?_)
              · refine ac_iconst (q := 157) dX7_which_156 rfl ?_
                refine ac_istore (q := 159) dX7_which_157 rfl (Nat.le_of_ble_eq_true rfl) rfl rfl ?_
                simp only [List.set_cons_succ, List.set_cons_zero]
                refine ac_iinc (q := 162) dX7_which_159 rfl (Nat.le_of_ble_eq_true rfl) rfl rfl rfl rfl ?_
                simp only [List.set_cons_succ, List.set_cons_zero]
                refine ac_goto (q := 47) dX7_which_162 rfl ?_
                have hnew : ¬ ac_ag (obs.take (i + 1)) y = true := by
                  rw [hsn]
                  first
                    | (rw [Bool.eq_false_iff.mpr hprev]; simp; done)
                    | (intro q
                       rw [Bool.and_eq_true] at q
                       have := hyes.mp q.2
                       omega)
                refine ac_ls (ls' := [(2, (x : Int)), (0, w), (0, n1), (0, n2), (0, n3), (0, ac_b (ac_ag (obs.take (i + 1)) y = true)), (0, ((i + 1 : Nat) : Int)), _]) (by rw [ac_b0 hnew]; rfl) ?_
                exact hs _ (show (0 : Nat) ≠ 1 by decide) (by omega) A h22 wy ly ck hK
              · exact absurd rfl h93
  refine ac_met (on := (RX7, "which")) rfl rfl (Nat.le_of_ble_eq_true rfl) (ls := [(2, (x : Int)), (0, w), (3, 0), (3, 0), (3, 0), (3, 0), (3, 0), (3, 0)]) rfl ?_
  refine ac_aload_n (q := 1) dX7_which_0 rfl rfl ?_
  refine ac_iconst (q := 2) dX7_which_1 rfl ?_
  refine ac_put (q := 5) dX7_which_2 fl_X7_67 (by assumption) rfl rfl ?_
  have A0 := ac_up0_RM hR
  have F0 : ac_fM mm (ac_up mm x 0 0) x := ac_up0_fM
  generalize ac_up mm x 0 0 = m0 at *
  obtain ⟨q4, qP⟩ := A0.2.1
  obtain ⟨-, p0, p1, pE, pp, p28, pcb, pcl⟩ := id qP
  refine ac_iload_n (q := 6) dX7_which_5 rfl rfl ?_
  refine ac_i2l (q := 7) dX7_which_6 rfl ⟨by omega, by omega⟩ ?_
  refine ac_lconst (q := 8) (v := 0) dX7_which_7 rfl (by decide) ?_
  refine ac_lconst (q := 9) (v := 1) dX7_which_8 rfl (by decide) ?_
  refine ac_csp (q := 12) (k_X7_in (d := d - 1) (by omega) ⟨by omega, by omega⟩ ⟨by omega, by omega⟩ ⟨by omega, by omega⟩) ml_X7_72 dX7_which_9 rfl rfl rfl (by omega) (Nat.le_of_ble_eq_true rfl) (Nat.zero_le _) (Nat.zero_le _) ?_
  refine ac_bif_ne (q := 15) (tgt := 18) dX7_which_12 rfl rfl (fun h12 => ?_) (fun h12 => ?_)
  · have hw01 : w = 0 ∨ w = 1 := by omega
    refine ac_iconst (q := 19) dX7_which_18 rfl ?_
    refine ac_istore_n (q := 20) (j := 2) rfl dX7_which_19 rfl (Nat.le_of_ble_eq_true rfl) rfl rfl ?_
    simp only [List.set_cons_succ, List.set_cons_zero]
    refine ac_bipush (q := 22) dX7_which_20 rfl (by decide) ?_
    refine ac_istore_n (q := 23) (j := 3) rfl dX7_which_22 rfl (Nat.le_of_ble_eq_true rfl) rfl rfl ?_
    simp only [List.set_cons_succ, List.set_cons_zero]
    refine ac_iconst (q := 24) dX7_which_23 rfl ?_
    refine ac_istore (q := 26) dX7_which_24 rfl (Nat.le_of_ble_eq_true rfl) rfl rfl ?_
    simp only [List.set_cons_succ, List.set_cons_zero]
    refine ac_aload_n (q := 27) dX7_which_26 rfl rfl ?_
    refine ac_aload_n (q := 28) dX7_which_27 rfl rfl ?_
    refine ac_get (q := 31) dX7_which_28 fl_X7_20 (by assumption) rfl (ac_rdr rfl hM9.1.2.2.1) ?_
    refine ac_cv (q := 34) (k_X7_beginAll (r := x + 3) (T := T) (d := d - 1) (by omega) hM9 (Or.inl rfl) qP q4) ml_X7_171 (by assumption) dX7_which_31 rfl rfl rfl (by omega) (Nat.le_of_ble_eq_true rfl) (Nat.zero_le _) (Nat.zero_le _) (fun m1 h1 => ?_)
    obtain ⟨N1, P1, E1⟩ := h1
    have A1 := ac_RM_fE A0 E1
    have F1 := ac_fM_t F0 (ac_fE_fM E1)
    obtain ⟨Lt, hLt⟩ : ∃ L, L = ac_Lt T := ⟨_, rfl⟩
    have loop : ∀ (rem : List (List Nat)) (m : ac_M) (done : List (List Nat)) (q5 q7 : Nat × Int), q5.1 ≠ 1 → q7.1 ≠ 1 → ac_EN m x (2 ^ T.2.2.1.length - 1) T.2.1 T.1 T.2.2.1 T.2.2.2.1 → ac_PO m x (2 ^ T.2.2.1.length - 1) T.2.1 T.1 T.2.2.1 T.2.2.2.1 rem → ac_fE m1 m x → done ++ rem = Lt → ac_V G (RX7, "which") cX7_which 8 (some .int) d 0 0 (ac_R Y [(0, (if w = 0 then ((ac_Lt T).countP (ac_ag obs) : Int) else if w = 1 then ac_low obs (ac_Lt T) else -2))] (fun m => ac_RM m x s T hs s0 s1 obs ch ∧ ac_fM mm m x)) 0 0 Y m 34 [(2, (x : Int)), (0, w), (0, ((done.countP (ac_ag obs) : Nat) : Int)), (0, ac_low obs done), (0, ((done.length : Nat) : Int)), q5, (3, 0), q7] [] := by
      intro rem
      induction rem with
      | nil =>
        intro m done q5 q7 hq5 hq7 hN hP hf hdr
        obtain ⟨u5, w5⟩ := q5
        obtain ⟨u7, w7⟩ := q7
        rw [List.append_nil] at hdr
        have hlow := ac_low_in (obs := obs) (L := done) (by rw [hdr, hLt]; omega)
        obtain ⟨hlo1, hlo2⟩ := hlow
        refine ac_aload_n (q := 35) dX7_which_34 rfl rfl ?_
        refine ac_cv (q := 38) (k_X7_more (d := d - 1) (by omega) hM9 hN hP) ml_X7_164 (by assumption) dX7_which_35 rfl rfl rfl (by omega) (Nat.le_of_ble_eq_true rfl) (Nat.zero_le _) (Nat.zero_le _) (fun m2 h2 => ?_)
        obtain ⟨N2, F2, c2⟩ := h2
        have A2 := ac_RM_fE A1 (ac_fE_t hf F2)
        have G2 := ac_fM_t F1 (ac_fE_fM (ac_fE_t hf F2))
        refine ac_bif_eq (q := 41) (tgt := 200) dX7_which_38 rfl rfl (fun h38 => ?_) (fun h38 => ?_)
        · refine ac_iload_n (q := 201) dX7_which_200 rfl rfl ?_
          refine ac_if_ne (q := 204) (tgt := 208) dX7_which_201 rfl rfl ⟨by omega, by omega⟩ (fun h201 => ?_) (fun h201 => ?_)
          · refine ac_iload_n (q := 209) dX7_which_208 rfl rfl ?_
            refine ac_ireturn dX7_which_209 rfl (Nat.zero_le _) (Nat.zero_le _) ?_
            rw [← hLt, ← hdr]
            first
              | (rw [if_pos (by omega)]; exact ⟨rfl, rfl, A2, G2⟩)
              | (rw [if_neg (by omega), if_pos (by omega)]; exact ⟨rfl, rfl, A2, G2⟩)
          · refine ac_iload_n (q := 205) dX7_which_204 rfl rfl ?_
            refine ac_goto (q := 209) dX7_which_205 rfl ?_
            refine ac_ireturn dX7_which_209 rfl (Nat.zero_le _) (Nat.zero_le _) ?_
            rw [← hLt, ← hdr]
            first
              | (rw [if_pos (by omega)]; exact ⟨rfl, rfl, A2, G2⟩)
              | (rw [if_neg (by omega), if_pos (by omega)]; exact ⟨rfl, rfl, A2, G2⟩)
        · exact absurd rfl h38
      | cons y rem ih =>
        intro m done q5 q7 hq5 hq7 hN hP hf hdr
        obtain ⟨u5, w5⟩ := q5
        obtain ⟨u7, w7⟩ := q7
        simp only at hq5 hq7
        have hdr2 : (done ++ [y]) ++ rem = Lt := by rw [List.append_assoc, List.singleton_append]; exact hdr
        have hdl : done.length ≤ 59049 := by have h : (done ++ y :: rem).length = done.length + (y :: rem).length := List.length_append; rw [hdr, hLt] at h; omega
        have hlow := ac_low_snoc (obs := obs) (l := y) (L := done)
        have hcnt : (done ++ [y]).countP (ac_ag obs) = done.countP (ac_ag obs) + if ac_ag obs y = true then 1 else 0 := by rw [List.countP_append]; by_cases hz : ac_ag obs y = true <;> simp [hz]
        have hcle := List.countP_le_length (p := ac_ag obs) (l := done)
        have hlen : (done ++ [y]).length = done.length + 1 := by rw [List.length_append]; rfl
        refine ac_aload_n (q := 35) dX7_which_34 rfl rfl ?_
        refine ac_cv (q := 38) (k_X7_more (d := d - 1) (by omega) hM9 hN hP) ml_X7_164 (by assumption) dX7_which_35 rfl rfl rfl (by omega) (Nat.le_of_ble_eq_true rfl) (Nat.zero_le _) (Nat.zero_le _) (fun m2 h2 => ?_)
        obtain ⟨N2, F2, c2⟩ := h2
        obtain ⟨P2, wy2, ly2, ck2⟩ := c2 y rem rfl
        have A2 := ac_RM_fE A1 (ac_fE_t hf F2)
        have h22 : m2 x 22 = (T.1 : Int) := N2.2.2.1
        refine ac_bif_eq (q := 41) (tgt := 200) dX7_which_38 rfl rfl (fun h38 => ?_) (fun h38 => ?_)
        · exact absurd (List.cons_ne_nil y rem) h38
        · refine ac_iconst (q := 42) dX7_which_41 rfl ?_
          refine ac_istore (q := 44) dX7_which_42 rfl (Nat.le_of_ble_eq_true rfl) rfl rfl ?_
          simp only [List.set_cons_succ, List.set_cons_zero]
          refine ac_iconst (q := 45) dX7_which_44 rfl ?_
          refine ac_istore (q := 47) dX7_which_45 rfl (Nat.le_of_ble_eq_true rfl) rfl rfl ?_
          simp only [List.set_cons_succ, List.set_cons_zero]
          refine ac_ls (by rw [show (1 : Int) = ac_b (ac_ag (obs.take 0) y = true) from rfl]; rfl) (inner obs.length 0 m2 y _ _ _ (u7, w7) hq7 (by omega) A2 h22 wy2 ly2 ck2 (fun tt htt => ?_))
          obtain ⟨t1, t2⟩ := tt
          simp only at htt
          have hs := ih m2 (done ++ [y]) (0, ac_b (ac_ag obs y = true)) (t1, t2) (show (0 : Nat) ≠ 1 by decide) htt N2 P2 (ac_fE_t hf F2) hdr2
          by_cases hag : ac_ag obs y = true
          · rw [hcnt, hlow, hlen, if_pos hag, if_pos hag] at hs
            rw [ac_b1 hag] at hs ⊢
            refine ac_iload (q := 167) dX7_which_165 rfl rfl ?_
            refine ac_if_eq (q := 170) (tgt := 179) dX7_which_167 rfl rfl ⟨by omega, by omega⟩ (fun h167 => ?_) (fun h167 => ?_)
            · exact absurd h167 (by decide)
            · refine ac_iload_n (q := 171) dX7_which_170 rfl rfl ?_
              refine ac_if_ne (q := 174) (tgt := 179) dX7_which_171 rfl rfl ⟨by omega, by omega⟩ (fun h171 => ?_) (fun h171 => ?_)
              · have hz0 : ¬ List.countP (ac_ag obs) done = 0 := by omega
                rw [if_neg hz0] at hs
                refine ac_iload_n (q := 180) dX7_which_179 rfl rfl ?_
                refine ac_istore_n (q := 181) (j := 3) rfl dX7_which_180 rfl (Nat.le_of_ble_eq_true rfl) rfl rfl ?_
                simp only [List.set_cons_succ, List.set_cons_zero]
                refine ac_iload_n (q := 182) dX7_which_181 rfl rfl ?_
                refine ac_iload (q := 184) dX7_which_182 rfl rfl ?_
                refine ac_if_eq (q := 187) (tgt := 191) dX7_which_184 rfl rfl ⟨by omega, by omega⟩ (fun h184 => ?_) (fun h184 => ?_)
                · exact absurd h184 (by decide)
                · refine ac_iconst (q := 188) dX7_which_187 rfl ?_
                  refine ac_goto (q := 192) dX7_which_188 rfl ?_
                  refine ac_iadd (q := 193) dX7_which_192 rfl ?_
                  refine ac_istore_n (q := 194) (j := 2) rfl dX7_which_193 rfl (Nat.le_of_ble_eq_true rfl) rfl rfl ?_
                  simp only [List.set_cons_succ, List.set_cons_zero]
                  refine ac_iinc (q := 197) dX7_which_194 rfl (Nat.le_of_ble_eq_true rfl) rfl rfl rfl rfl ?_
                  simp only [List.set_cons_succ, List.set_cons_zero]
                  refine ac_goto (q := 34) dX7_which_197 rfl ?_
                  exact hs
              · have hz0 : List.countP (ac_ag obs) done = 0 := by omega
                rw [if_pos hz0] at hs
                refine ac_iload (q := 176) dX7_which_174 rfl rfl ?_
                refine ac_goto (q := 180) dX7_which_176 rfl ?_
                refine ac_istore_n (q := 181) (j := 3) rfl dX7_which_180 rfl (Nat.le_of_ble_eq_true rfl) rfl rfl ?_
                simp only [List.set_cons_succ, List.set_cons_zero]
                refine ac_iload_n (q := 182) dX7_which_181 rfl rfl ?_
                refine ac_iload (q := 184) dX7_which_182 rfl rfl ?_
                refine ac_if_eq (q := 187) (tgt := 191) dX7_which_184 rfl rfl ⟨by omega, by omega⟩ (fun h184 => ?_) (fun h184 => ?_)
                · exact absurd h184 (by decide)
                · refine ac_iconst (q := 188) dX7_which_187 rfl ?_
                  refine ac_goto (q := 192) dX7_which_188 rfl ?_
                  refine ac_iadd (q := 193) dX7_which_192 rfl ?_
                  refine ac_istore_n (q := 194) (j := 2) rfl dX7_which_193 rfl (Nat.le_of_ble_eq_true rfl) rfl rfl ?_
                  simp only [List.set_cons_succ, List.set_cons_zero]
                  refine ac_iinc (q := 197) dX7_which_194 rfl (Nat.le_of_ble_eq_true rfl) rfl rfl rfl rfl ?_
                  simp only [List.set_cons_succ, List.set_cons_zero]
                  refine ac_goto (q := 34) dX7_which_197 rfl ?_
                  exact hs
          · rw [hcnt, hlow, hlen, if_neg hag, if_neg hag] at hs
            rw [ac_b0 hag] at hs ⊢
            refine ac_iload (q := 167) dX7_which_165 rfl rfl ?_
            refine ac_if_eq (q := 170) (tgt := 179) dX7_which_167 rfl rfl ⟨by omega, by omega⟩ (fun h167 => ?_) (fun h167 => ?_)
            · refine ac_iload_n (q := 180) dX7_which_179 rfl rfl ?_
              refine ac_istore_n (q := 181) (j := 3) rfl dX7_which_180 rfl (Nat.le_of_ble_eq_true rfl) rfl rfl ?_
              simp only [List.set_cons_succ, List.set_cons_zero]
              refine ac_iload_n (q := 182) dX7_which_181 rfl rfl ?_
              refine ac_iload (q := 184) dX7_which_182 rfl rfl ?_
              refine ac_if_eq (q := 187) (tgt := 191) dX7_which_184 rfl rfl ⟨by omega, by omega⟩ (fun h184 => ?_) (fun h184 => ?_)
              · refine ac_iconst (q := 192) dX7_which_191 rfl ?_
                refine ac_iadd (q := 193) dX7_which_192 rfl ?_
                refine ac_istore_n (q := 194) (j := 2) rfl dX7_which_193 rfl (Nat.le_of_ble_eq_true rfl) rfl rfl ?_
                simp only [List.set_cons_succ, List.set_cons_zero]
                refine ac_iinc (q := 197) dX7_which_194 rfl (Nat.le_of_ble_eq_true rfl) rfl rfl rfl rfl ?_
                simp only [List.set_cons_succ, List.set_cons_zero]
                refine ac_goto (q := 34) dX7_which_197 rfl ?_
                exact ac_ls (by rw [Int.add_zero]; rfl) hs
              · exact absurd rfl h184
            · exact absurd rfl h167
    exact loop Lt m1 [] (3, 0) (3, 0) (show (3 : Nat) ≠ 1 by decide) (show (3 : Nat) ≠ 1 by decide) N1 (by rw [hLt]; exact P1) (ac_fE_r m1 x) rfl
  · refine ac_bipush (q := 17) dX7_which_15 rfl (by decide) ?_
    refine ac_ireturn dX7_which_17 rfl (Nat.zero_le _) (Nat.zero_le _) ?_
    rw [if_neg (by omega), if_neg (by omega)]; exact ⟨rfl, rfl, A0, F0⟩
