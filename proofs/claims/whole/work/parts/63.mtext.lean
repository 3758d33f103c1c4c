theorem ac_fD_up5 {mm : ac_M} {x : Nat} {v : Int} : ac_fD mm (ac_up mm x 5 v) x := ⟨fun k q r => by funext i; exact ac_up_k q, fun i q r => ac_up_j r⟩
theorem ac_prt_e {s : List Nat} {p : Nat} {T : ac_Tk} (h : ac_ch s p = 101) : ac_prt s p T = if T.2.2.1.length < 4 then ((ac_eqp s (p + 1)).1, (ac_eqp s (p + 1)).2.map (fun q => (T.1, T.2.1, T.2.2.1 ++ [q], T.2.2.2.1, T.2.2.2.2))) else (p, none) := by
  unfold ac_prt
  by_cases h4 : T.2.2.1.length < 4
  · rw [if_pos ⟨h4, h⟩, if_pos h4]
  · rw [if_neg (fun q => h4 q.1), if_neg (fun q => by omega), if_neg h4]
theorem ac_prt_p {s : List Nat} {p : Nat} {T : ac_Tk} (h : ac_ch s p = 112) : ac_prt s p T = if ac_pins T.2.2.2.1 T.1 < T.1 then ((ac_pinp T.1 T.2.1 T.2.2.2.1 s (p + 1)).1, (ac_pinp T.1 T.2.1 T.2.2.2.1 s (p + 1)).2.map (fun q => (T.1, T.2.1, T.2.2.1, ac_sp T.2.2.2.1 q.1 q.2, T.2.2.2.2))) else (p, none) := by
  unfold ac_prt
  rw [if_neg (fun q => by omega)]
  by_cases h4 : ac_pins T.2.2.2.1 T.1 < T.1
  · rw [if_pos ⟨h4, h⟩, if_pos h4]
  · rw [if_neg (fun q => h4 q.1), if_neg h4]
theorem ac_prt_n {s : List Nat} {p : Nat} {T : ac_Tk} (h : ac_ch s p ≠ 101) (h2 : ac_ch s p ≠ 112) : ac_prt s p T = (p, none) := by
  unfold ac_prt
  rw [if_neg (fun q => h q.2), if_neg (fun q => h2 q.2)]
theorem ac_eqp_gt {s : List Nat} {p : Nat} {q : ac_Eq} (h : (ac_eqp s p).2 = some q) : p < (ac_eqp s p).1 := by
  revert h
  unfold ac_eqp
  repeat' split
  all_goals (intro h; simp only at h ⊢; first | omega | cases h)
theorem ac_pinp_gt {s : List Nat} {n k p : Nat} {pin : Nat → Int} {q : Nat × Nat} (h : (ac_pinp n k pin s p).2 = some q) : p < (ac_pinp n k pin s p).1 := by
  revert h
  unfold ac_pinp
  repeat' split
  all_goals (intro h; simp only at h ⊢; first | omega | cases h)
theorem ac_rdL_out {s : List Nat} {p : Nat} {T : ac_Tk} (h : ¬ p < s.length) : ∀ f, ac_rdL s f p T = (-9, T)
  | 0 => rfl
  | f + 1 => by rw [ac_rdL, if_neg h]
theorem ac_rdL_no {s : List Nat} {p q f : Nat} {T : ac_Tk} (h : p < s.length) (hp : ac_prt s p T = (q, none)) : ac_rdL s (f + 1) p T = ((q : Int), T) := by rw [ac_rdL, if_pos h, hp]
theorem ac_rdL_yes {s : List Nat} {p q f : Nat} {T T' : ac_Tk} (h : p < s.length) (hp : ac_prt s p T = (q, some T')) : ac_rdL s (f + 1) p T = ac_rdL s f q T' := by rw [ac_rdL, if_pos h, hp]

set_option maxHeartbeats 8000000 in
theorem k_X7_readTask {G : ac_G} {Y : ac_Y} {mm : ac_M} {d x : Nat} {s : List Nat} (hd : 6 ≤ d) (hM : ac_isM Y x) (hX : (s.length ≤ 60 ∧ ∀ v ∈ s, v < 256) ∧ mm x 2 = (s.length : Int) ∧ ∀ i, i < s.length → mm (x + 1) i = (ac_ch s i : Int)) : ac_C G yX7_readTask cX7_readTask 4 (some .int) d 0 0 Y mm [(2, (x : Int))] (ac_R Y [(0, (ac_rd s).1)] (fun m => (∃ p', ac_RD m x s p') ∧ ((ac_rd s).1 = -9 → ac_RP m (x + 2) (ac_rd s).2 ∧ (ac_rd s).2.2.2.2.2 = none ∧ m x 5 = ((ac_rd s).2.2.1 : Int)) ∧ ac_fD mm m x)) := by
  have hM9 := hM
  obtain ⟨kx, k1, k2, k3, k4, k5, k6, k7, k8, k9, k10, k11, k12, k13, k14, k15, k16⟩ := hM.2
  obtain ⟨⟨hs1, hs2⟩, hsz, htx⟩ := id hX
  have hch := ac_ch_lt hs2
  have loop : ∀ (f p : Nat) (T : ac_Tk) (m : ac_M) (a1 a2 : Int) (zz : Nat × Int), zz.1 ≠ 1 → s.length ≤ p + f → p ≤ 70 → ac_RD m x s p → ac_RP m (x + 2) T → T.2.2.2.2 = none → m x 5 = (T.2.1 : Int) → ac_fD mm m x → ac_rd s = ac_rdL s f p T → ac_V G (RX7, "readTask") cX7_readTask 4 (some .int) d 0 0 (ac_R Y [(0, (ac_rd s).1)] (fun m => (∃ p', ac_RD m x s p') ∧ ((ac_rd s).1 = -9 → ac_RP m (x + 2) (ac_rd s).2 ∧ (ac_rd s).2.2.2.2.2 = none ∧ m x 5 = ((ac_rd s).2.2.1 : Int)) ∧ ac_fD mm m x)) 0 0 Y m 145 [(2, (x : Int)), (0, a1), (0, a2), zz] [] := by
    intro f
    induction f with
    | zero =>
      intro p T m a1 a2 zz hzz hlen hp D0 rP hnone h5 F0 hrd
      obtain ⟨z1, z2⟩ := zz
      simp only at hzz
      obtain ⟨⟨-, sz0, tx0⟩, pl0⟩ := id D0
      have hcp := hch p
      refine ac_aload_n (q := 146) dX7_readTask_145 rfl rfl ?_
      refine ac_get (q := 149) dX7_readTask_146 fl_X7_79 kx rfl (ac_rdi (v := ((p : Nat) : Int)) rfl pl0) ?_
      refine ac_aload_n (q := 150) dX7_readTask_149 rfl rfl ?_
      refine ac_get (q := 153) dX7_readTask_150 fl_X7_76 kx rfl (ac_rdi rfl sz0) ?_
      refine ac_icmp_ge (q := 156) (tgt := 216) dX7_readTask_153 rfl rfl ⟨by omega, by omega⟩ ⟨by omega, by omega⟩ (fun h153 => ?_) (fun h153 => ?_)
      · refine ac_bipush (q := 218) dX7_readTask_216 rfl (by decide) ?_
        refine ac_ireturn dX7_readTask_218 rfl (Nat.zero_le _) (Nat.zero_le _) ?_
        rw [hrd, ac_rdL_out (by omega)]
        exact ⟨rfl, rfl, ⟨p, D0⟩, fun _ => ⟨rP, hnone, h5⟩, F0⟩
      · exfalso; omega
    | succ f ih =>
      intro p T m a1 a2 zz hzz hlen hp D0 rP hnone h5 F0 hrd
      obtain ⟨z1, z2⟩ := zz
      simp only at hzz
      obtain ⟨⟨-, sz0, tx0⟩, pl0⟩ := id D0
      have hcp := hch p
      refine ac_aload_n (q := 146) dX7_readTask_145 rfl rfl ?_
      refine ac_get (q := 149) dX7_readTask_146 fl_X7_79 kx rfl (ac_rdi (v := ((p : Nat) : Int)) rfl pl0) ?_
      refine ac_aload_n (q := 150) dX7_readTask_149 rfl rfl ?_
      refine ac_get (q := 153) dX7_readTask_150 fl_X7_76 kx rfl (ac_rdi rfl sz0) ?_
      refine ac_icmp_ge (q := 156) (tgt := 216) dX7_readTask_153 rfl rfl ⟨by omega, by omega⟩ ⟨by omega, by omega⟩ (fun h153 => ?_) (fun h153 => ?_)
      · skip
        refine ac_bipush (q := 218) dX7_readTask_216 rfl (by decide) ?_
        refine ac_ireturn dX7_readTask_218 rfl (Nat.zero_le _) (Nat.zero_le _) ?_
        rw [hrd, ac_rdL_out (by omega)]
        exact ⟨rfl, rfl, ⟨p, D0⟩, fun _ => ⟨rP, hnone, h5⟩, F0⟩
      · refine ac_aload_n (q := 157) dX7_readTask_156 rfl rfl ?_
        refine ac_get (q := 160) dX7_readTask_157 fl_X7_7 (by assumption) rfl (ac_rdr rfl hM9.1.1) ?_
        refine ac_aload_n (q := 161) dX7_readTask_160 rfl rfl ?_
        refine ac_get (q := 164) dX7_readTask_161 fl_X7_79 kx rfl (ac_rdi (v := ((p : Nat) : Int)) rfl pl0) ?_
        refine ac_ialoadN (q := 165) (j := p) (v := (ac_ch s (p) : Int)) dX7_readTask_164 k1 (by decide) (by omega) rfl (tx0 (p) (by omega)) ?_
        refine ac_bipush (q := 167) dX7_readTask_165 rfl (by decide) ?_
        refine ac_icmp_ne (q := 170) (tgt := 177) dX7_readTask_167 rfl rfl ⟨by omega, by omega⟩ ⟨by omega, by omega⟩ (fun h167 => ?_) (fun h167 => ?_)
        · refine ac_aload_n (q := 178) dX7_readTask_177 rfl rfl ?_
          refine ac_get (q := 181) dX7_readTask_178 fl_X7_7 (by assumption) rfl (ac_rdr rfl hM9.1.1) ?_
          refine ac_aload_n (q := 182) dX7_readTask_181 rfl rfl ?_
          refine ac_get (q := 185) dX7_readTask_182 fl_X7_79 kx rfl (ac_rdi (v := ((p : Nat) : Int)) rfl pl0) ?_
          refine ac_ialoadN (q := 186) (j := p) (v := (ac_ch s (p) : Int)) dX7_readTask_185 k1 (by decide) (by omega) rfl (tx0 (p) (by omega)) ?_
          refine ac_bipush (q := 188) dX7_readTask_186 rfl (by decide) ?_
          refine ac_icmp_ne (q := 191) (tgt := 202) dX7_readTask_188 rfl rfl ⟨by omega, by omega⟩ ⟨by omega, by omega⟩ (fun h188 => ?_) (fun h188 => ?_)
          · have hprt := ac_prt_n (T := T) (p := p) (s := s) (by omega) (by omega)
            refine ac_iconst (q := 203) dX7_readTask_202 rfl ?_
            refine ac_istore_n (q := 204) (j := 3) rfl dX7_readTask_203 rfl (Nat.le_of_ble_eq_true rfl) rfl rfl ?_
            simp only [List.set_cons_succ, List.set_cons_zero]
            refine ac_iload_n (q := 205) dX7_readTask_204 rfl rfl ?_
            refine ac_if_ne (q := 208) (tgt := 213) dX7_readTask_205 rfl rfl ⟨by omega, by omega⟩ (fun h205 => ?_) (fun h205 => ?_)
            · exact absurd h205 (by decide)
            · refine ac_aload_n (q := 209) dX7_readTask_208 rfl rfl ?_
              refine ac_get (q := 212) dX7_readTask_209 fl_X7_79 kx rfl (ac_rdi (v := ((p : Nat) : Int)) rfl pl0) ?_
              refine ac_ireturn dX7_readTask_212 rfl (Nat.zero_le _) (Nat.zero_le _) ?_
              rw [hrd, ac_rdL_no (by omega) hprt]
              exact ⟨rfl, rfl, ⟨p, D0⟩, fun q => by simp only at q; omega, F0⟩
          · refine ac_aload_n (q := 192) dX7_readTask_191 rfl rfl ?_
            refine ac_cv (q := 195) (k_X7_readPin (p := p) (T := T) (d := d - 1) (by omega) hM9 D0 rP (by omega) h5) ml_X7_105 (by assumption) dX7_readTask_192 rfl rfl rfl (by omega) (Nat.le_of_ble_eq_true rfl) (Nat.zero_le _) (Nat.zero_le _) (fun m1 h1 => ?_)
            obtain ⟨D1, R1, F1⟩ := h1
            have FD1 := ac_fD_t F0 (ac_fQ_D F1)
            obtain ⟨-, pl1⟩ := id D1
            have hprt := ac_prt_p (T := T) (p := p) (s := s) (by omega)
            refine ac_bif_eq (q := 198) (tgt := 202) dX7_readTask_195 rfl rfl (fun h195 => ?_) (fun h195 => ?_)
            · refine ac_iconst (q := 203) dX7_readTask_202 rfl ?_
              refine ac_istore_n (q := 204) (j := 3) rfl dX7_readTask_203 rfl (Nat.le_of_ble_eq_true rfl) rfl rfl ?_
              simp only [List.set_cons_succ, List.set_cons_zero]
              refine ac_iload_n (q := 205) dX7_readTask_204 rfl rfl ?_
              refine ac_if_ne (q := 208) (tgt := 213) dX7_readTask_205 rfl rfl ⟨by omega, by omega⟩ (fun h205 => ?_) (fun h205 => ?_)
              · exact absurd h205 (by decide)
              · refine ac_aload_n (q := 209) dX7_readTask_208 rfl rfl ?_
                refine ac_get (q := 212) dX7_readTask_209 fl_X7_79 kx rfl (ac_rdi (v := (((if ac_pins T.2.2.2.1 T.1 < T.1 then (ac_pinp T.1 T.2.1 T.2.2.2.1 s (p + 1)).1 else p) : Nat) : Int)) rfl pl1) ?_
                refine ac_ireturn dX7_readTask_212 rfl (Nat.zero_le _) (Nat.zero_le _) ?_
                have hno : ac_prt s p T = ((if ac_pins T.2.2.2.1 T.1 < T.1 then (ac_pinp T.1 T.2.1 T.2.2.2.1 s (p + 1)).1 else p), none) := by
                  rw [hprt]
                  by_cases hc : ac_pins T.2.2.2.1 T.1 < T.1
                  · rw [if_pos hc, if_pos hc]
                    cases he : (ac_pinp T.1 T.2.1 T.2.2.2.1 s (p + 1)).2 with
                    | none => rfl
                    | some q => exact absurd ⟨hc, by rw [he]; rfl⟩ h195
                  · rw [if_neg hc, if_neg hc]
                rw [hrd, ac_rdL_no (by omega) hno]
                exact ⟨rfl, rfl, ⟨_, D1⟩, fun q => by simp only at q; omega, FD1⟩
            · refine ac_iconst (q := 199) dX7_readTask_198 rfl ?_
              refine ac_goto (q := 203) dX7_readTask_199 rfl ?_
              refine ac_istore_n (q := 204) (j := 3) rfl dX7_readTask_203 rfl (Nat.le_of_ble_eq_true rfl) rfl rfl ?_
              simp only [List.set_cons_succ, List.set_cons_zero]
              refine ac_iload_n (q := 205) dX7_readTask_204 rfl rfl ?_
              refine ac_if_ne (q := 208) (tgt := 213) dX7_readTask_205 rfl rfl ⟨by omega, by omega⟩ (fun h205 => ?_) (fun h205 => ?_)
              · refine ac_goto (q := 145) dX7_readTask_213 rfl ?_
                have hc := h195.1
                obtain ⟨q, hq⟩ := Option.isSome_iff_exists.mp h195.2
                have hgt := ac_pinp_gt hq
                have hle := ac_prt_le s p T
                rw [if_pos hc] at D1
                rw [if_pos hc, hq] at hprt
                rw [hprt] at hle
                simp only at hle
                rw [ac_rdL_yes (by omega) hprt] at hrd
                exact ih (ac_pinp T.1 T.2.1 T.2.2.2.1 s (p + 1)).1 (T.1, T.2.1, T.2.2.1, ac_sp T.2.2.2.1 q.1 q.2, T.2.2.2.2) m1 _ _ _ (show (0 : Nat) ≠ 1 by decide) (by omega) (by omega) D1 (R1 q hc hq) hnone (by rw [F1.2 5 (by decide)]; exact h5) FD1 hrd
              · exact absurd h205 (by decide)
        · refine ac_aload_n (q := 171) dX7_readTask_170 rfl rfl ?_
          refine ac_cv (q := 174) (k_X7_readEquation (p := p) (T := T) (d := d - 1) (by omega) hM9 D0 rP (by omega)) ml_X7_101 (by assumption) dX7_readTask_171 rfl rfl rfl (by omega) (Nat.le_of_ble_eq_true rfl) (Nat.zero_le _) (Nat.zero_le _) (fun m1 h1 => ?_)
          obtain ⟨D1, R1, F1⟩ := h1
          have FD1 := ac_fD_t F0 (ac_fQ_D F1)
          obtain ⟨-, pl1⟩ := id D1
          have hprt := ac_prt_e (T := T) (p := p) (s := s) (by omega)
          refine ac_goto (q := 203) dX7_readTask_174 rfl ?_
          refine ac_istore_n (q := 204) (j := 3) rfl dX7_readTask_203 rfl (Nat.le_of_ble_eq_true rfl) rfl rfl ?_
          simp only [List.set_cons_succ, List.set_cons_zero]
          refine ac_iload_n (q := 205) dX7_readTask_204 rfl rfl ?_
          refine ac_bif_ne (q := 208) (tgt := 213) dX7_readTask_205 rfl rfl (fun h205 => ?_) (fun h205 => ?_)
          · refine ac_goto (q := 145) dX7_readTask_213 rfl ?_
            have hc := h205.1
            obtain ⟨q, hq⟩ := Option.isSome_iff_exists.mp h205.2
            have hgt := ac_eqp_gt hq
            have hle := ac_prt_le s p T
            rw [if_pos hc] at D1
            rw [if_pos hc, hq] at hprt
            rw [hprt] at hle
            simp only at hle
            rw [ac_rdL_yes (by omega) hprt] at hrd
            exact ih (ac_eqp s (p + 1)).1 (T.1, T.2.1, T.2.2.1 ++ [q], T.2.2.2.1, T.2.2.2.2) m1 _ _ _ (show (0 : Nat) ≠ 1 by decide) (by omega) (by omega) D1 (R1 q hc hq) hnone (by rw [F1.2 5 (by decide)]; exact h5) FD1 hrd
          · refine ac_aload_n (q := 209) dX7_readTask_208 rfl rfl ?_
            refine ac_get (q := 212) dX7_readTask_209 fl_X7_79 kx rfl (ac_rdi (v := (((if T.2.2.1.length < 4 then (ac_eqp s (p + 1)).1 else p) : Nat) : Int)) rfl pl1) ?_
            refine ac_ireturn dX7_readTask_212 rfl (Nat.zero_le _) (Nat.zero_le _) ?_
            have hno : ac_prt s p T = ((if T.2.2.1.length < 4 then (ac_eqp s (p + 1)).1 else p), none) := by
              rw [hprt]
              by_cases hc : T.2.2.1.length < 4
              · rw [if_pos hc, if_pos hc]
                cases he : (ac_eqp s (p + 1)).2 with
                | none => rfl
                | some q => exact absurd ⟨hc, by rw [he]; rfl⟩ h205
              · rw [if_neg hc, if_neg hc]
            rw [hrd, ac_rdL_no (by omega) hno]
            exact ⟨rfl, rfl, ⟨_, D1⟩, fun q => by simp only at q; omega, FD1⟩
  have half : ∀ (m : ac_M), ac_RD m x s 0 → (∀ j, j < 39 → m (x + 2) j = 0) → ac_fD mm m x → ac_V G (RX7, "readTask") cX7_readTask 4 (some .int) d 0 0 (ac_R Y [(0, (ac_rd s).1)] (fun m => (∃ p', ac_RD m x s p') ∧ ((ac_rd s).1 = -9 → ac_RP m (x + 2) (ac_rd s).2 ∧ (ac_rd s).2.2.2.2.2 = none ∧ m x 5 = ((ac_rd s).2.2.1 : Int)) ∧ ac_fD mm m x)) 0 0 Y m 26 [(2, (x : Int)), (0, 39), (3, 0), (3, 0)] [] := by
    intro m D0 hz F0
    obtain ⟨c1, hc1⟩ : ∃ c1, c1 = ac_ch s 1 := ⟨_, rfl⟩
    obtain ⟨c2, hc2⟩ : ∃ c2, c2 = ac_ch s 2 := ⟨_, rfl⟩
    obtain ⟨c3, hc3⟩ : ∃ c3, c3 = ac_ch s 3 := ⟨_, rfl⟩
    have hb0 := hch 0
    have hb1 := hch 1
    have hb2 := hch 2
    have hb3 := hch 3
    rw [← hc1] at hb1
    rw [← hc2] at hb2
    rw [← hc3] at hb3
    have hh : ac_hdp s = if ac_ch s 0 ≠ 82 then (0, none) else if ¬ (48 ≤ c1 ∧ c1 ≤ 49) then (1, none)
      else if ¬ ((c1 = 49 ∧ c2 = 48) ∨ (c1 = 48 ∧ 49 ≤ c2 ∧ c2 ≤ 57)) then (2, none)
      else if ¬ (50 ≤ c3 ∧ c3 ≤ 51) then (3, none) else (4, some (10 * (c1 - 48) + (c2 - 48), c3 - 48)) := by rw [hc1, hc2, hc3]; rfl
    have hno : ∀ q : Nat, ac_hdp s = (q, none) → ac_rd s = ((q : Int), (1, 2, [], fun _ => -1, none)) := fun q h => by unfold ac_rd; rw [h]
    obtain ⟨⟨-, sz0, tx0⟩, pl0⟩ := id D0
    refine ac_aload_n (q := 27) dX7_readTask_26 rfl rfl ?_
    refine ac_get (q := 30) dX7_readTask_27 fl_X7_76 kx rfl (ac_rdi rfl sz0) ?_
    refine ac_if_eq (q := 33) (tgt := 44) dX7_readTask_30 rfl rfl ⟨by omega, by omega⟩ (fun h30 => ?_) (fun h30 => ?_)
    · refine ac_iconst (q := 45) dX7_readTask_44 rfl ?_
      refine ac_ireturn dX7_readTask_45 rfl (Nat.zero_le _) (Nat.zero_le _) ?_
      have hc : ac_ch s 0 ≠ 82 := by first | omega | (rw [ac_chN (by omega)]; decide)
      rw [hno 0 (by rw [hh, if_pos hc])]
      exact ⟨rfl, rfl, ⟨0, D0⟩, fun q => by simp only at q; omega, F0⟩
    · refine ac_aload_n (q := 34) dX7_readTask_33 rfl rfl ?_
      refine ac_get (q := 37) dX7_readTask_34 fl_X7_7 (by assumption) rfl (ac_rdr rfl hM9.1.1) ?_
      refine ac_iconst (q := 38) dX7_readTask_37 rfl ?_
      refine ac_ialoadN (q := 39) (j := 0) (v := (ac_ch s (0) : Int)) dX7_readTask_38 k1 (by decide) (by omega) rfl (tx0 (0) (by omega)) ?_
      refine ac_bipush (q := 41) dX7_readTask_39 rfl (by decide) ?_
      refine ac_icmp_eq (q := 44) (tgt := 46) dX7_readTask_41 rfl rfl ⟨by omega, by omega⟩ ⟨by omega, by omega⟩ (fun h41 => ?_) (fun h41 => ?_)
      · have hc82 : ac_ch s 0 = 82 := by omega
        refine ac_aload_n (q := 47) dX7_readTask_46 rfl rfl ?_
        refine ac_iconst (q := 48) dX7_readTask_47 rfl ?_
        refine ac_put (q := 51) dX7_readTask_48 fl_X7_79 (by assumption) rfl rfl ?_
        have D0b := ac_RD_up (q := 1) D0
        have F0b : ac_fD mm (ac_up m x 3 1) x := ac_fD_t F0 (ac_fQ_D (ac_fP_Q ac_fP_up))
        refine ac_aload_n (q := 52) dX7_readTask_51 rfl rfl ?_
        refine ac_iconst (q := 53) dX7_readTask_52 rfl ?_
        refine ac_iconst (q := 54) dX7_readTask_53 rfl ?_
        refine ac_cv (q := 57) (k_X7_figure (p := 1) (a := 0) (b := 1) (d := d - 1) (by omega) hM9 D0b (by decide) (by decide) (by decide)) ml_X7_84 (by assumption) dX7_readTask_54 rfl rfl rfl (by omega) (Nat.le_of_ble_eq_true rfl) (Nat.zero_le _) (Nat.zero_le _) (fun m1 h1 => ?_)
        rw [← hc1] at h1 ⊢
        obtain ⟨D1, f1⟩ := h1
        have F1 := ac_fD_t F0b (ac_fQ_D (ac_fP_Q f1))
        refine ac_istore_n (q := 58) (j := 1) rfl dX7_readTask_57 rfl (Nat.le_of_ble_eq_true rfl) rfl rfl ?_
        simp only [List.set_cons_succ, List.set_cons_zero]
        refine ac_iload_n (q := 59) dX7_readTask_58 rfl rfl ?_
        refine ac_sipush (q := 62) dX7_readTask_59 rfl (by decide) ?_
        refine ac_icmp_ne (q := 65) (tgt := 71) dX7_readTask_62 rfl rfl (by split <;> exact ⟨by omega, by omega⟩) ⟨by omega, by omega⟩ (fun h62 => ?_) (fun h62 => ?_)
        · have k1 : (48 + 0 ≤ (c1 : Int) ∧ (c1 : Int) ≤ 48 + 1) := Decidable.byContradiction fun q => h62 (by rw [if_neg q])
          rw [if_pos k1] at D1 ⊢
          refine ac_aload_n (q := 72) dX7_readTask_71 rfl rfl ?_
          refine ac_iload_n (q := 73) dX7_readTask_72 rfl rfl ?_
          refine ac_if_ne (q := 76) (tgt := 80) dX7_readTask_73 rfl rfl ⟨by omega, by omega⟩ (fun h73 => ?_) (fun h73 => ?_)
          · skip
            refine ac_iconst (q := 81) dX7_readTask_80 rfl ?_
            refine ac_iload_n (q := 82) dX7_readTask_81 rfl rfl ?_
            refine ac_if_ne (q := 85) (tgt := 90) dX7_readTask_82 rfl rfl ⟨by omega, by omega⟩ (fun h82 => ?_) (fun h82 => ?_)
            · skip
              refine ac_iconst (q := 91) dX7_readTask_90 rfl ?_
              refine ac_cv (q := 94) (k_X7_figure (p := 2) (a := 0) (b := 0) (d := d - 1) (by omega) hM9 D1 (by decide) (by decide) (by decide)) ml_X7_84 (by assumption) dX7_readTask_91 rfl rfl rfl (by omega) (Nat.le_of_ble_eq_true rfl) (Nat.zero_le _) (Nat.zero_le _) (fun m2 h2 => ?_)
              rw [← hc2] at h2 ⊢
              obtain ⟨D2, f2⟩ := h2
              have F2 := ac_fD_t F1 (ac_fQ_D (ac_fP_Q f2))
              refine ac_istore_n (q := 95) (j := 2) rfl dX7_readTask_94 rfl (Nat.le_of_ble_eq_true rfl) rfl rfl ?_
              simp only [List.set_cons_succ, List.set_cons_zero]
              refine ac_aload_n (q := 96) dX7_readTask_95 rfl rfl ?_
              refine ac_iload_n (q := 97) dX7_readTask_96 rfl rfl ?_
              refine ac_sipush (q := 100) dX7_readTask_97 rfl (by decide) ?_
              refine ac_icmp_ne (q := 103) (tgt := 109) dX7_readTask_100 rfl rfl (by first | exact ⟨by omega, by omega⟩ | (split <;> exact ⟨by omega, by omega⟩)) ⟨by omega, by omega⟩ (fun h100 => ?_) (fun h100 => ?_)
              · have k2 : (48 + 0 ≤ (c2 : Int) ∧ (c2 : Int) ≤ 48 + 0) := Decidable.byContradiction fun q => h100 (by rw [if_neg q])
                rw [if_pos k2] at D2 ⊢
                skip
                refine ac_aload_n (q := 110) dX7_readTask_109 rfl rfl ?_
                refine ac_iconst (q := 111) dX7_readTask_110 rfl ?_
                refine ac_iconst (q := 112) dX7_readTask_111 rfl ?_
                refine ac_cv (q := 115) (k_X7_figure (p := 3) (a := 2) (b := 3) (d := d - 1) (by omega) hM9 D2 (by decide) (by decide) (by decide)) ml_X7_84 (by assumption) dX7_readTask_112 rfl rfl rfl (by omega) (Nat.le_of_ble_eq_true rfl) (Nat.zero_le _) (Nat.zero_le _) (fun m3 h3 => ?_)
                rw [← hc3] at h3 ⊢
                obtain ⟨D3, f3⟩ := h3
                have F3 := ac_fD_t F2 (ac_fQ_D (ac_fP_Q f3))
                refine ac_put (q := 118) dX7_readTask_115 fl_X7_98 kx rfl rfl ?_
                refine ac_aload_n (q := 119) dX7_readTask_118 rfl rfl ?_
                refine ac_get (q := 122) dX7_readTask_119 fl_X7_98 kx rfl (ac_rdi rfl (if_pos ⟨rfl, rfl⟩)) ?_
                refine ac_sipush (q := 125) dX7_readTask_122 rfl (by decide) ?_
                refine ac_icmp_ne (q := 128) (tgt := 133) dX7_readTask_125 rfl rfl (by first | exact ⟨by omega, by omega⟩ | (split <;> exact ⟨by omega, by omega⟩)) ⟨by omega, by omega⟩ (fun h125 => ?_) (fun h125 => ?_)
                · have k3 : (48 + 2 ≤ (c3 : Int) ∧ (c3 : Int) ≤ 48 + 3) := Decidable.byContradiction fun q => h125 (by rw [if_neg q])
                  rw [if_pos k3] at D3 ⊢
                  refine ac_aload_n (q := 134) dX7_readTask_133 rfl rfl ?_
                  refine ac_get (q := 137) dX7_readTask_134 fl_X7_17 (by assumption) rfl (ac_rdr rfl hM9.1.2.1) ?_
                  refine ac_iconst (q := 138) dX7_readTask_137 rfl ?_
                  refine ac_bipush (q := 140) dX7_readTask_138 rfl (by decide) ?_
                  refine ac_iload_n (q := 141) dX7_readTask_140 rfl rfl ?_
                  refine ac_imul (q := 142) dX7_readTask_141 rfl ?_
                  refine ac_iload_n (q := 143) dX7_readTask_142 rfl rfl ?_
                  refine ac_iadd (q := 144) dX7_readTask_143 rfl ?_
                  refine ac_top (w' := (0, ((10 * (c1 - 48) + (c2 - 48) : Nat) : Int))) (congrArg (fun z : Int => ((0 : Nat), z)) (by omega)) ?_
                  refine ac_iastoreN (q := 145) (j := 0) dX7_readTask_144 (by assumption) (by decide) (by decide) rfl ?_
                  have hT0 : ac_hdp s = (4, some (10 * (c1 - 48) + (c2 - 48), c3 - 48)) := by rw [hh, if_neg (fun q => q hc82), if_neg (by omega), if_neg (by omega), if_neg (by omega)]
                  have hrd : ac_rd s = ac_rdL s 60 4 (10 * (c1 - 48) + (c2 - 48), c3 - 48, [], fun _ => -1, none) := by unfold ac_rd; rw [hT0]
                  have hrow : m3 (x + 2) = m (x + 2) := by rw [f3.1 _ (by omega), f2.1 _ (by omega), f1.1 _ (by omega)]; funext j; exact ac_up_k (by omega)
                  have hM : ∀ j, ac_up (ac_up m3 x 5 ((c3 : Int) - 48)) (x + 2) 0 ((10 * (c1 - 48) + (c2 - 48) : Nat) : Int) (x + 2) j = if j = 0 then ((10 * (c1 - 48) + (c2 - 48) : Nat) : Int) else m (x + 2) j := fun j => by
                    rw [← hrow]
                    show (if x + 2 = x + 2 ∧ j = 0 then _ else if x + 2 = x ∧ j = 5 then _ else m3 (x + 2) j) = _
                    have hxx : ¬ x + 2 = x := by omega
                    simp [hxx]
                  have D4 : ac_RD (ac_up (ac_up m3 x 5 ((c3 : Int) - 48)) (x + 2) 0 ((10 * (c1 - 48) + (c2 - 48) : Nat) : Int)) x s 4 := ac_RD_up2 (ac_RD_o D3 (by funext j; exact ac_up_k (by omega)) (ac_up_j (by decide)) (ac_up_j (by decide)))
                  have F4 : ac_fD mm (ac_up (ac_up m3 x 5 ((c3 : Int) - 48)) (x + 2) 0 ((10 * (c1 - 48) + (c2 - 48) : Nat) : Int)) x := ac_fD_t (ac_fD_t F3 ac_fD_up5) (ac_fQ_D ac_fQ_up)
                  have h54 : ac_up (ac_up m3 x 5 ((c3 : Int) - 48)) (x + 2) 0 ((10 * (c1 - 48) + (c2 - 48) : Nat) : Int) x 5 = ((c3 - 48 : Nat) : Int) := by rw [ac_up_k (by omega), ac_up_s]; omega
                  refine loop 60 4 (10 * (c1 - 48) + (c2 - 48), c3 - 48, [], fun _ => -1, none) _ _ _ (3, 0) (show (3 : Nat) ≠ 1 by decide) (by omega) (by decide) D4 ?_ rfl h54 F4 hrd
                  refine ⟨⟨⟨by show 1 ≤ 10 * (c1 - 48) + (c2 - 48); omega, by show 10 * (c1 - 48) + (c2 - 48) ≤ 10; omega⟩, ⟨by show 2 ≤ c3 - 48; omega, by show c3 - 48 ≤ 3; omega⟩, ⟨Nat.zero_le _, (fun z hz => by cases hz)⟩, ?_, ?_, (fun l hl => by cases hl)⟩, by rw [hM, if_pos rfl], by rw [hM, if_neg (by decide), hz _ (by decide)]; rfl, (fun e q hq => by cases hq), fun i h1 h2 => by rw [hM, if_neg (by omega), hz _ (by omega)]; rfl, by rw [hM, if_neg (by decide), hz _ (by decide)]; rfl, fun i hi => by rw [hM, if_neg (by omega), hz _ (by omega)]; decide, (fun l hl => by cases hl)⟩
                  · exact fun _ _ => rfl
                  · exact fun _ => ⟨by show (-1 : Int) ≤ -1; decide, by show (-1 : Int) < ((c3 - 48 : Nat) : Int); omega⟩
                · have k3 : ¬ (48 + 2 ≤ (c3 : Int) ∧ (c3 : Int) ≤ 48 + 3) := fun q => by rw [if_pos q] at h125; omega
                  rw [if_neg k3] at D3
                  refine ac_aload_n (q := 129) dX7_readTask_128 rfl rfl ?_
                  refine ac_get (q := 132) dX7_readTask_129 fl_X7_79 kx rfl (ac_rdi (v := ((3 : Nat) : Int)) rfl ((ac_up_j (by decide)).trans D3.2)) ?_
                  refine ac_ireturn dX7_readTask_132 rfl (Nat.zero_le _) (Nat.zero_le _) ?_
                  rw [hno 3 (by rw [hh, if_neg (fun q => q hc82), if_neg (by omega), if_neg (by omega), if_pos (by omega)])]
                  exact ⟨rfl, rfl, ⟨3, ac_RD_o D3 (by funext j; exact ac_up_k (by omega)) (ac_up_j (by decide)) (ac_up_j (by decide))⟩, fun q => by simp only at q; omega, ac_fD_t F3 ac_fD_up5⟩
              · have k2 : ¬ (48 + 0 ≤ (c2 : Int) ∧ (c2 : Int) ≤ 48 + 0) := fun q => by rw [if_pos q] at h100; omega
                rw [if_neg k2] at D2
                skip
                refine ac_sipush (q := 106) dX7_readTask_103 rfl (by decide) ?_
                refine ac_goto (q := 115) dX7_readTask_106 rfl ?_
                refine ac_put (q := 118) dX7_readTask_115 fl_X7_98 kx rfl rfl ?_
                refine ac_aload_n (q := 119) dX7_readTask_118 rfl rfl ?_
                refine ac_get (q := 122) dX7_readTask_119 fl_X7_98 kx rfl (ac_rdi rfl (if_pos ⟨rfl, rfl⟩)) ?_
                refine ac_sipush (q := 125) dX7_readTask_122 rfl (by decide) ?_
                refine ac_icmp_ne (q := 128) (tgt := 133) dX7_readTask_125 rfl rfl (by first | exact ⟨by omega, by omega⟩ | (split <;> exact ⟨by omega, by omega⟩)) ⟨by omega, by omega⟩ (fun h125 => ?_) (fun h125 => ?_)
                · exact absurd rfl h125
                · skip
                  refine ac_aload_n (q := 129) dX7_readTask_128 rfl rfl ?_
                  refine ac_get (q := 132) dX7_readTask_129 fl_X7_79 kx rfl (ac_rdi (v := ((2 : Nat) : Int)) rfl ((ac_up_j (by decide)).trans D2.2)) ?_
                  refine ac_ireturn dX7_readTask_132 rfl (Nat.zero_le _) (Nat.zero_le _) ?_
                  rw [hno 2 (by rw [hh, if_neg (fun q => q hc82), if_neg (by omega), if_pos (by omega)])]
                  exact ⟨rfl, rfl, ⟨2, ac_RD_o D2 (by funext j; exact ac_up_k (by omega)) (ac_up_j (by decide)) (ac_up_j (by decide))⟩, fun q => by simp only at q; omega, ac_fD_t F2 ac_fD_up5⟩
            · exfalso; omega
          · skip
            refine ac_iconst (q := 77) dX7_readTask_76 rfl ?_
            refine ac_goto (q := 81) dX7_readTask_77 rfl ?_
            refine ac_iload_n (q := 82) dX7_readTask_81 rfl rfl ?_
            refine ac_if_ne (q := 85) (tgt := 90) dX7_readTask_82 rfl rfl ⟨by omega, by omega⟩ (fun h82 => ?_) (fun h82 => ?_)
            · exfalso; omega
            · skip
              refine ac_bipush (q := 87) dX7_readTask_85 rfl (by decide) ?_
              refine ac_goto (q := 91) dX7_readTask_87 rfl ?_
              refine ac_cv (q := 94) (k_X7_figure (p := 2) (a := 1) (b := 9) (d := d - 1) (by omega) hM9 D1 (by decide) (by decide) (by decide)) ml_X7_84 (by assumption) dX7_readTask_91 rfl rfl rfl (by omega) (Nat.le_of_ble_eq_true rfl) (Nat.zero_le _) (Nat.zero_le _) (fun m2 h2 => ?_)
              rw [← hc2] at h2 ⊢
              obtain ⟨D2, f2⟩ := h2
              have F2 := ac_fD_t F1 (ac_fQ_D (ac_fP_Q f2))
              refine ac_istore_n (q := 95) (j := 2) rfl dX7_readTask_94 rfl (Nat.le_of_ble_eq_true rfl) rfl rfl ?_
              simp only [List.set_cons_succ, List.set_cons_zero]
              refine ac_aload_n (q := 96) dX7_readTask_95 rfl rfl ?_
              refine ac_iload_n (q := 97) dX7_readTask_96 rfl rfl ?_
              refine ac_sipush (q := 100) dX7_readTask_97 rfl (by decide) ?_
              refine ac_icmp_ne (q := 103) (tgt := 109) dX7_readTask_100 rfl rfl (by first | exact ⟨by omega, by omega⟩ | (split <;> exact ⟨by omega, by omega⟩)) ⟨by omega, by omega⟩ (fun h100 => ?_) (fun h100 => ?_)
              · have k2 : (48 + 1 ≤ (c2 : Int) ∧ (c2 : Int) ≤ 48 + 9) := Decidable.byContradiction fun q => h100 (by rw [if_neg q])
                rw [if_pos k2] at D2 ⊢
                skip
                refine ac_aload_n (q := 110) dX7_readTask_109 rfl rfl ?_
                refine ac_iconst (q := 111) dX7_readTask_110 rfl ?_
                refine ac_iconst (q := 112) dX7_readTask_111 rfl ?_
                refine ac_cv (q := 115) (k_X7_figure (p := 3) (a := 2) (b := 3) (d := d - 1) (by omega) hM9 D2 (by decide) (by decide) (by decide)) ml_X7_84 (by assumption) dX7_readTask_112 rfl rfl rfl (by omega) (Nat.le_of_ble_eq_true rfl) (Nat.zero_le _) (Nat.zero_le _) (fun m3 h3 => ?_)
                rw [← hc3] at h3 ⊢
                obtain ⟨D3, f3⟩ := h3
                have F3 := ac_fD_t F2 (ac_fQ_D (ac_fP_Q f3))
                refine ac_put (q := 118) dX7_readTask_115 fl_X7_98 kx rfl rfl ?_
                refine ac_aload_n (q := 119) dX7_readTask_118 rfl rfl ?_
                refine ac_get (q := 122) dX7_readTask_119 fl_X7_98 kx rfl (ac_rdi rfl (if_pos ⟨rfl, rfl⟩)) ?_
                refine ac_sipush (q := 125) dX7_readTask_122 rfl (by decide) ?_
                refine ac_icmp_ne (q := 128) (tgt := 133) dX7_readTask_125 rfl rfl (by first | exact ⟨by omega, by omega⟩ | (split <;> exact ⟨by omega, by omega⟩)) ⟨by omega, by omega⟩ (fun h125 => ?_) (fun h125 => ?_)
                · have k3 : (48 + 2 ≤ (c3 : Int) ∧ (c3 : Int) ≤ 48 + 3) := Decidable.byContradiction fun q => h125 (by rw [if_neg q])
                  rw [if_pos k3] at D3 ⊢
                  refine ac_aload_n (q := 134) dX7_readTask_133 rfl rfl ?_
                  refine ac_get (q := 137) dX7_readTask_134 fl_X7_17 (by assumption) rfl (ac_rdr rfl hM9.1.2.1) ?_
                  refine ac_iconst (q := 138) dX7_readTask_137 rfl ?_
                  refine ac_bipush (q := 140) dX7_readTask_138 rfl (by decide) ?_
                  refine ac_iload_n (q := 141) dX7_readTask_140 rfl rfl ?_
                  refine ac_imul (q := 142) dX7_readTask_141 rfl ?_
                  refine ac_iload_n (q := 143) dX7_readTask_142 rfl rfl ?_
                  refine ac_iadd (q := 144) dX7_readTask_143 rfl ?_
                  refine ac_top (w' := (0, ((10 * (c1 - 48) + (c2 - 48) : Nat) : Int))) (congrArg (fun z : Int => ((0 : Nat), z)) (by omega)) ?_
                  refine ac_iastoreN (q := 145) (j := 0) dX7_readTask_144 (by assumption) (by decide) (by decide) rfl ?_
                  have hT0 : ac_hdp s = (4, some (10 * (c1 - 48) + (c2 - 48), c3 - 48)) := by rw [hh, if_neg (fun q => q hc82), if_neg (by omega), if_neg (by omega), if_neg (by omega)]
                  have hrd : ac_rd s = ac_rdL s 60 4 (10 * (c1 - 48) + (c2 - 48), c3 - 48, [], fun _ => -1, none) := by unfold ac_rd; rw [hT0]
                  have hrow : m3 (x + 2) = m (x + 2) := by rw [f3.1 _ (by omega), f2.1 _ (by omega), f1.1 _ (by omega)]; funext j; exact ac_up_k (by omega)
                  have hM : ∀ j, ac_up (ac_up m3 x 5 ((c3 : Int) - 48)) (x + 2) 0 ((10 * (c1 - 48) + (c2 - 48) : Nat) : Int) (x + 2) j = if j = 0 then ((10 * (c1 - 48) + (c2 - 48) : Nat) : Int) else m (x + 2) j := fun j => by
                    rw [← hrow]
                    show (if x + 2 = x + 2 ∧ j = 0 then _ else if x + 2 = x ∧ j = 5 then _ else m3 (x + 2) j) = _
                    have hxx : ¬ x + 2 = x := by omega
                    simp [hxx]
                  have D4 : ac_RD (ac_up (ac_up m3 x 5 ((c3 : Int) - 48)) (x + 2) 0 ((10 * (c1 - 48) + (c2 - 48) : Nat) : Int)) x s 4 := ac_RD_up2 (ac_RD_o D3 (by funext j; exact ac_up_k (by omega)) (ac_up_j (by decide)) (ac_up_j (by decide)))
                  have F4 : ac_fD mm (ac_up (ac_up m3 x 5 ((c3 : Int) - 48)) (x + 2) 0 ((10 * (c1 - 48) + (c2 - 48) : Nat) : Int)) x := ac_fD_t (ac_fD_t F3 ac_fD_up5) (ac_fQ_D ac_fQ_up)
                  have h54 : ac_up (ac_up m3 x 5 ((c3 : Int) - 48)) (x + 2) 0 ((10 * (c1 - 48) + (c2 - 48) : Nat) : Int) x 5 = ((c3 - 48 : Nat) : Int) := by rw [ac_up_k (by omega), ac_up_s]; omega
                  refine loop 60 4 (10 * (c1 - 48) + (c2 - 48), c3 - 48, [], fun _ => -1, none) _ _ _ (3, 0) (show (3 : Nat) ≠ 1 by decide) (by omega) (by decide) D4 ?_ rfl h54 F4 hrd
                  refine ⟨⟨⟨by show 1 ≤ 10 * (c1 - 48) + (c2 - 48); omega, by show 10 * (c1 - 48) + (c2 - 48) ≤ 10; omega⟩, ⟨by show 2 ≤ c3 - 48; omega, by show c3 - 48 ≤ 3; omega⟩, ⟨Nat.zero_le _, (fun z hz => by cases hz)⟩, ?_, ?_, (fun l hl => by cases hl)⟩, by rw [hM, if_pos rfl], by rw [hM, if_neg (by decide), hz _ (by decide)]; rfl, (fun e q hq => by cases hq), fun i h1 h2 => by rw [hM, if_neg (by omega), hz _ (by omega)]; rfl, by rw [hM, if_neg (by decide), hz _ (by decide)]; rfl, fun i hi => by rw [hM, if_neg (by omega), hz _ (by omega)]; decide, (fun l hl => by cases hl)⟩
                  · exact fun _ _ => rfl
                  · exact fun _ => ⟨by show (-1 : Int) ≤ -1; decide, by show (-1 : Int) < ((c3 - 48 : Nat) : Int); omega⟩
                · have k3 : ¬ (48 + 2 ≤ (c3 : Int) ∧ (c3 : Int) ≤ 48 + 3) := fun q => by rw [if_pos q] at h125; omega
                  rw [if_neg k3] at D3
                  refine ac_aload_n (q := 129) dX7_readTask_128 rfl rfl ?_
                  refine ac_get (q := 132) dX7_readTask_129 fl_X7_79 kx rfl (ac_rdi (v := ((3 : Nat) : Int)) rfl ((ac_up_j (by decide)).trans D3.2)) ?_
                  refine ac_ireturn dX7_readTask_132 rfl (Nat.zero_le _) (Nat.zero_le _) ?_
                  rw [hno 3 (by rw [hh, if_neg (fun q => q hc82), if_neg (by omega), if_neg (by omega), if_pos (by omega)])]
                  exact ⟨rfl, rfl, ⟨3, ac_RD_o D3 (by funext j; exact ac_up_k (by omega)) (ac_up_j (by decide)) (ac_up_j (by decide))⟩, fun q => by simp only at q; omega, ac_fD_t F3 ac_fD_up5⟩
              · have k2 : ¬ (48 + 1 ≤ (c2 : Int) ∧ (c2 : Int) ≤ 48 + 9) := fun q => by rw [if_pos q] at h100; omega
                rw [if_neg k2] at D2
                skip
                refine ac_sipush (q := 106) dX7_readTask_103 rfl (by decide) ?_
                refine ac_goto (q := 115) dX7_readTask_106 rfl ?_
                refine ac_put (q := 118) dX7_readTask_115 fl_X7_98 kx rfl rfl ?_
                refine ac_aload_n (q := 119) dX7_readTask_118 rfl rfl ?_
                refine ac_get (q := 122) dX7_readTask_119 fl_X7_98 kx rfl (ac_rdi rfl (if_pos ⟨rfl, rfl⟩)) ?_
                refine ac_sipush (q := 125) dX7_readTask_122 rfl (by decide) ?_
                refine ac_icmp_ne (q := 128) (tgt := 133) dX7_readTask_125 rfl rfl (by first | exact ⟨by omega, by omega⟩ | (split <;> exact ⟨by omega, by omega⟩)) ⟨by omega, by omega⟩ (fun h125 => ?_) (fun h125 => ?_)
                · exact absurd rfl h125
                · skip
                  refine ac_aload_n (q := 129) dX7_readTask_128 rfl rfl ?_
                  refine ac_get (q := 132) dX7_readTask_129 fl_X7_79 kx rfl (ac_rdi (v := ((2 : Nat) : Int)) rfl ((ac_up_j (by decide)).trans D2.2)) ?_
                  refine ac_ireturn dX7_readTask_132 rfl (Nat.zero_le _) (Nat.zero_le _) ?_
                  rw [hno 2 (by rw [hh, if_neg (fun q => q hc82), if_neg (by omega), if_pos (by omega)])]
                  exact ⟨rfl, rfl, ⟨2, ac_RD_o D2 (by funext j; exact ac_up_k (by omega)) (ac_up_j (by decide)) (ac_up_j (by decide))⟩, fun q => by simp only at q; omega, ac_fD_t F2 ac_fD_up5⟩
        · have k1 : ¬ (48 + 0 ≤ (c1 : Int) ∧ (c1 : Int) ≤ 48 + 1) := fun q => by rw [if_pos q] at h62; omega
          rw [if_neg k1] at D1
          refine ac_sipush (q := 68) dX7_readTask_65 rfl (by decide) ?_
          refine ac_goto (q := 94) dX7_readTask_68 rfl ?_
          refine ac_istore_n (q := 95) (j := 2) rfl dX7_readTask_94 rfl (Nat.le_of_ble_eq_true rfl) rfl rfl ?_
          simp only [List.set_cons_succ, List.set_cons_zero]
          refine ac_aload_n (q := 96) dX7_readTask_95 rfl rfl ?_
          refine ac_iload_n (q := 97) dX7_readTask_96 rfl rfl ?_
          refine ac_sipush (q := 100) dX7_readTask_97 rfl (by decide) ?_
          refine ac_icmp_ne (q := 103) (tgt := 109) dX7_readTask_100 rfl rfl (by first | exact ⟨by omega, by omega⟩ | (split <;> exact ⟨by omega, by omega⟩)) ⟨by omega, by omega⟩ (fun h100 => ?_) (fun h100 => ?_)
          · exact absurd h100 (by decide)
          · skip
            skip
            refine ac_sipush (q := 106) dX7_readTask_103 rfl (by decide) ?_
            refine ac_goto (q := 115) dX7_readTask_106 rfl ?_
            refine ac_put (q := 118) dX7_readTask_115 fl_X7_98 kx rfl rfl ?_
            refine ac_aload_n (q := 119) dX7_readTask_118 rfl rfl ?_
            refine ac_get (q := 122) dX7_readTask_119 fl_X7_98 kx rfl (ac_rdi rfl (if_pos ⟨rfl, rfl⟩)) ?_
            refine ac_sipush (q := 125) dX7_readTask_122 rfl (by decide) ?_
            refine ac_icmp_ne (q := 128) (tgt := 133) dX7_readTask_125 rfl rfl (by first | exact ⟨by omega, by omega⟩ | (split <;> exact ⟨by omega, by omega⟩)) ⟨by omega, by omega⟩ (fun h125 => ?_) (fun h125 => ?_)
            · exact absurd rfl h125
            · skip
              refine ac_aload_n (q := 129) dX7_readTask_128 rfl rfl ?_
              refine ac_get (q := 132) dX7_readTask_129 fl_X7_79 kx rfl (ac_rdi (v := ((1 : Nat) : Int)) rfl ((ac_up_j (by decide)).trans D1.2)) ?_
              refine ac_ireturn dX7_readTask_132 rfl (Nat.zero_le _) (Nat.zero_le _) ?_
              rw [hno 1 (by rw [hh, if_neg (fun q => q hc82), if_pos (by omega)])]
              exact ⟨rfl, rfl, ⟨1, ac_RD_o D1 (by funext j; exact ac_up_k (by omega)) (ac_up_j (by decide)) (ac_up_j (by decide))⟩, fun q => by simp only at q; omega, ac_fD_t F1 ac_fD_up5⟩
      · refine ac_iconst (q := 45) dX7_readTask_44 rfl ?_
        refine ac_ireturn dX7_readTask_45 rfl (Nat.zero_le _) (Nat.zero_le _) ?_
        have hc : ac_ch s 0 ≠ 82 := by first | omega | (rw [ac_chN (by omega)]; decide)
        rw [hno 0 (by rw [hh, if_pos hc])]
        exact ⟨rfl, rfl, ⟨0, D0⟩, fun q => by simp only at q; omega, F0⟩
  have zero : ∀ (f i : Nat), i + f = 39 → ac_V G (RX7, "readTask") cX7_readTask 4 (some .int) d 0 0 (ac_R Y [(0, (ac_rd s).1)] (fun m => (∃ p', ac_RD m x s p') ∧ ((ac_rd s).1 = -9 → ac_RP m (x + 2) (ac_rd s).2 ∧ (ac_rd s).2.2.2.2.2 = none ∧ m x 5 = ((ac_rd s).2.2.1 : Int)) ∧ ac_fD mm m x)) 0 0 Y (ac_zr (ac_up mm x 3 0) (x + 2) 0 i) 7 [(2, (x : Int)), (0, (i : Int)), (3, 0), (3, 0)] [] := by
    intro f
    induction f with
    | zero =>
      intro i hi
      obtain rfl : i = 39 := by omega
      refine ac_iload_n (q := 8) dX7_readTask_7 rfl rfl ?_
      refine ac_bipush (q := 10) dX7_readTask_8 rfl (by decide) ?_
      refine ac_icmp_ge (q := 13) (tgt := 26) dX7_readTask_10 rfl rfl ⟨by omega, by omega⟩ ⟨by omega, by omega⟩ (fun h10 => ?_) (fun h10 => ?_)
      · refine half _ (ac_RD_o (mm := ac_up mm x 3 0) (⟨⟨hX.1, by rw [ac_up_j (by decide)]; exact hsz, fun i hi => by rw [ac_up_k (by omega)]; exact htx i hi⟩, ac_up_s⟩) (ac_zr_k (by omega)) (by rw [ac_zr_k (by omega)]) (by rw [ac_zr_k (by omega)])) (fun j hj => ac_zr_at (Nat.zero_le _) hj) (ac_fD_t (ac_fQ_D (ac_fP_Q ac_fP_up)) ⟨fun k' h1 h2 => ac_zr_k h2, fun j h1 h2 => by rw [ac_zr_k (by omega)]⟩)
      · exfalso; omega
    | succ f ih =>
      intro i hi
      have ei : ((i : Nat) : Int) + 1 = ((i + 1 : Nat) : Int) := rfl
      have hs := ih (i + 1) (by omega)
      rw [← ac_zr_s (Nat.zero_le _)] at hs
      refine ac_iload_n (q := 8) dX7_readTask_7 rfl rfl ?_
      refine ac_bipush (q := 10) dX7_readTask_8 rfl (by decide) ?_
      refine ac_icmp_ge (q := 13) (tgt := 26) dX7_readTask_10 rfl rfl ⟨by omega, by omega⟩ ⟨by omega, by omega⟩ (fun h10 => ?_) (fun h10 => ?_)
      · exfalso; omega
      · refine ac_aload_n (q := 14) dX7_readTask_13 rfl rfl ?_
        refine ac_get (q := 17) dX7_readTask_14 fl_X7_17 (by assumption) rfl (ac_rdr rfl hM9.1.2.1) ?_
        refine ac_iload_n (q := 18) dX7_readTask_17 rfl rfl ?_
        refine ac_iconst (q := 19) dX7_readTask_18 rfl ?_
        refine ac_iastoreN (q := 20) (j := i) dX7_readTask_19 k2 (by decide) (by omega) rfl ?_
        refine ac_iinc (q := 23) dX7_readTask_20 rfl (Nat.le_of_ble_eq_true rfl) rfl rfl rfl rfl ?_
        simp only [List.set_cons_succ, List.set_cons_zero]
        refine ac_goto (q := 7) dX7_readTask_23 rfl ?_
        exact ac_ls (by rw [ei]) hs
  refine ac_met (on := (RX7, "readTask")) rfl rfl (Nat.le_of_ble_eq_true rfl) (ls := [(2, (x : Int)), (3, 0), (3, 0), (3, 0)]) rfl ?_
  refine ac_aload_n (q := 1) dX7_readTask_0 rfl rfl ?_
  refine ac_iconst (q := 2) dX7_readTask_1 rfl ?_
  refine ac_put (q := 5) dX7_readTask_2 fl_X7_79 (by assumption) rfl rfl ?_
  refine ac_iconst (q := 6) dX7_readTask_5 rfl ?_
  refine ac_istore_n (q := 7) (j := 1) rfl dX7_readTask_6 rfl (Nat.le_of_ble_eq_true rfl) rfl rfl ?_
  simp only [List.set_cons_succ, List.set_cons_zero]
  refine ac_mem (ac_zr_0 (r := x + 2) (a := 0)).symm ?_
  exact zero 39 0 rfl
