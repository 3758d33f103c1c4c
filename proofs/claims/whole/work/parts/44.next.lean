set_option maxHeartbeats 8000000 in
theorem k_X7_begin {G : ac_G} {Y : ac_Y} {mm : ac_M} {d x : Nat} {r S n : Nat} {T : ac_Tk} {pz : Int} {pn : Nat → Int} (hd : 4 ≤ d) (hM : ac_isM Y x) (hr : r = x + 3 ∨ r = x + 4) (rP : ac_RP mm r T) (hk : mm x 4 = (T.2.1 : Int)) (hS : S < 2048) (hn : 1 ≤ n ∧ n ≤ 10) (hpz : (pz = 0 ∧ pn = fun _ => -1) ∨ (pz = 1 ∧ pn = T.2.2.2.1)) : ac_C G yX7_begin cX7_begin 6 none d 0 0 Y mm [(2, (x : Int)), (2, (r : Int)), (0, (S : Int)), (0, (n : Int)), (0, pz)] (ac_R Y [] (fun m => ac_EN m x S T.2.1 n T.2.2.1 pn ∧ ac_PO m x S T.2.1 n T.2.2.1 pn (ac_ext (ac_mayS S T.2.1 T.2.2.1 pn) n []) ∧ ac_fE mm m x)) := by
  have hM9 := hM
  obtain ⟨kx, k1, k2, k3, k4, k5, k6, k7, k8, k9, k10, k11, k12, k13, k14, k15, k16⟩ := hM.2
  obtain ⟨⟨-, hk2, hE, -, hpr, -⟩, p0, p1, pE, pp, -⟩ := id rP
  have hpz01 : pz = 0 ∨ pz = 1 := hpz.elim (fun q => Or.inl q.1) (fun q => Or.inr q.1)
  have f0 : ∀ k', k' ≠ x → ac_up mm x 25 (r : Int) k' = mm k' := fun k' h => by funext j; exact ac_up_k h
  have hrx : r ≠ x := by omega
  have pE1 : ac_E (ac_up mm x 25 (r : Int)) r 2 T.2.2.1 := by unfold ac_E; rw [f0 r hrx]; exact pE
  have p11 : ac_up mm x 25 (r : Int) r 1 = (T.2.2.1.length : Int) := by rw [f0 r hrx]; exact p1
  refine ac_met (on := (RX7, "begin")) rfl rfl (Nat.le_of_ble_eq_true rfl) (ls := [(2, (x : Int)), (2, (r : Int)), (0, (S : Int)), (0, (n : Int)), (0, pz), (3, 0)]) rfl ?_
  refine ac_aload_n (q := 1) dX7_begin_0 rfl rfl ?_
  refine ac_aload_n (q := 2) dX7_begin_1 rfl rfl ?_
  refine ac_putR (q := 5) dX7_begin_2 fl_X7_57 (by assumption) rfl rfl ?_
  refine ac_aload_n (q := 6) dX7_begin_5 rfl rfl ?_
  refine ac_aload_n (q := 7) dX7_begin_6 rfl rfl ?_
  refine ac_iload_n (q := 8) dX7_begin_7 rfl rfl ?_
  refine ac_cv (q := 11) (k_X7_laySets (r := r) (S := S) (E := T.2.2.1) (d := d - 1) (by omega) hM9 hr pE1 hE p11 hS) ml_X7_138 (by assumption) dX7_begin_8 rfl rfl rfl (by omega) (Nat.le_of_ble_eq_true rfl) (Nat.zero_le _) (Nat.zero_le _) (fun m1 h1 => ?_)
  obtain ⟨hst, f1⟩ := h1
  refine ac_aload_n (q := 12) dX7_begin_11 rfl rfl ?_
  refine ac_iload_n (q := 13) dX7_begin_12 rfl rfl ?_
  refine ac_put (q := 16) dX7_begin_13 fl_X7_142 (by assumption) rfl rfl ?_
  refine ac_aload_n (q := 17) dX7_begin_16 rfl rfl ?_
  refine ac_iload (q := 19) dX7_begin_17 rfl rfl ?_
  refine ac_putZ (q := 22) dX7_begin_19 fl_X7_134 (by assumption) rfl (by first | exact ac_b01 | omega) rfl ?_
  refine ac_aload_n (q := 23) dX7_begin_22 rfl rfl ?_
  refine ac_iconst (q := 24) dX7_begin_23 rfl ?_
  refine ac_putZ (q := 27) dX7_begin_24 fl_X7_145 (by assumption) rfl (by first | exact ac_b01 | omega) rfl ?_
  refine ac_iconst (q := 28) dX7_begin_27 rfl ?_
  refine ac_istore (q := 30) dX7_begin_28 rfl (Nat.le_of_ble_eq_true rfl) rfl rfl ?_
  simp only [List.set_cons_succ, List.set_cons_zero]
  refine ac_iload (q := 32) dX7_begin_30 rfl rfl ?_
  refine ac_iconst (q := 33) dX7_begin_32 rfl ?_
  refine ac_icmp_ge (q := 36) (tgt := 50) dX7_begin_33 rfl rfl ⟨by omega, by omega⟩ ⟨by omega, by omega⟩ (fun h33 => ?_) (fun h33 => ?_)
  · exact absurd h33 (by decide)
  · refine ac_aload_n (q := 37) dX7_begin_36 rfl rfl ?_
    refine ac_get (q := 40) dX7_begin_37 fl_X7_54 (by assumption) rfl (ac_rdr rfl hM9.1.2.2.2.2.2.2.2.2.2.2.2.2.2.1) ?_
    refine ac_iload (q := 42) dX7_begin_40 rfl rfl ?_
    refine ac_iconst (q := 43) dX7_begin_42 rfl ?_
    refine ac_iastoreN (q := 44) (j := 0) dX7_begin_43 (by assumption) (by decide) (by decide) rfl ?_
    refine ac_iinc (q := 47) (v := 1) dX7_begin_44 rfl (Nat.le_of_ble_eq_true rfl) rfl rfl rfl rfl ?_
    simp only [List.set_cons_succ, List.set_cons_zero]
    refine ac_goto (q := 30) dX7_begin_47 rfl ?_
    refine ac_iload (q := 32) dX7_begin_30 rfl rfl ?_
    refine ac_iconst (q := 33) dX7_begin_32 rfl ?_
    refine ac_icmp_ge (q := 36) (tgt := 50) dX7_begin_33 rfl rfl ⟨by omega, by omega⟩ ⟨by omega, by omega⟩ (fun h33 => ?_) (fun h33 => ?_)
    · exact absurd h33 (by decide)
    · refine ac_aload_n (q := 37) dX7_begin_36 rfl rfl ?_
      refine ac_get (q := 40) dX7_begin_37 fl_X7_54 (by assumption) rfl (ac_rdr rfl hM9.1.2.2.2.2.2.2.2.2.2.2.2.2.2.1) ?_
      refine ac_iload (q := 42) dX7_begin_40 rfl rfl ?_
      refine ac_iconst (q := 43) dX7_begin_42 rfl ?_
      refine ac_iastoreN (q := 44) (j := 1) dX7_begin_43 (by assumption) (by decide) (by decide) rfl ?_
      refine ac_iinc (q := 47) (v := 2) dX7_begin_44 rfl (Nat.le_of_ble_eq_true rfl) rfl rfl rfl rfl ?_
      simp only [List.set_cons_succ, List.set_cons_zero]
      refine ac_goto (q := 30) dX7_begin_47 rfl ?_
      refine ac_iload (q := 32) dX7_begin_30 rfl rfl ?_
      refine ac_iconst (q := 33) dX7_begin_32 rfl ?_
      refine ac_icmp_ge (q := 36) (tgt := 50) dX7_begin_33 rfl rfl ⟨by omega, by omega⟩ ⟨by omega, by omega⟩ (fun h33 => ?_) (fun h33 => ?_)
      · exact absurd h33 (by decide)
      · refine ac_aload_n (q := 37) dX7_begin_36 rfl rfl ?_
        refine ac_get (q := 40) dX7_begin_37 fl_X7_54 (by assumption) rfl (ac_rdr rfl hM9.1.2.2.2.2.2.2.2.2.2.2.2.2.2.1) ?_
        refine ac_iload (q := 42) dX7_begin_40 rfl rfl ?_
        refine ac_iconst (q := 43) dX7_begin_42 rfl ?_
        refine ac_iastoreN (q := 44) (j := 2) dX7_begin_43 (by assumption) (by decide) (by decide) rfl ?_
        refine ac_iinc (q := 47) (v := 3) dX7_begin_44 rfl (Nat.le_of_ble_eq_true rfl) rfl rfl rfl rfl ?_
        simp only [List.set_cons_succ, List.set_cons_zero]
        refine ac_goto (q := 30) dX7_begin_47 rfl ?_
        refine ac_iload (q := 32) dX7_begin_30 rfl rfl ?_
        refine ac_iconst (q := 33) dX7_begin_32 rfl ?_
        refine ac_icmp_ge (q := 36) (tgt := 50) dX7_begin_33 rfl rfl ⟨by omega, by omega⟩ ⟨by omega, by omega⟩ (fun h33 => ?_) (fun h33 => ?_)
        · refine ac_return dX7_begin_50 rfl (Nat.zero_le _) (Nat.zero_le _) ?_
          have hof : ∀ c, c < 3 → ac_up (ac_up (ac_up (ac_up (ac_up (ac_up m1 x 22 (n : Int)) x 23 pz) x 24 0) (x + 14) 0 0) (x + 14) 1 0) (x + 14) 2 0 (x + 14) c = 0 := by
            intro c hc
            rcases (show c = 0 ∨ c = 1 ∨ c = 2 by omega) with rfl | rfl | rfl <;> simp [ac_up]
          have hx : ∀ j, ac_up (ac_up (ac_up (ac_up (ac_up (ac_up m1 x 22 (n : Int)) x 23 pz) x 24 0) (x + 14) 0 0) (x + 14) 1 0) (x + 14) 2 0 x j = if j = 24 then 0 else if j = 23 then pz else if j = 22 then (n : Int) else if j = 25 then (r : Int) else mm x j := by
            intro j
            rw [ac_up_k (by omega), ac_up_k (by omega), ac_up_k (by omega)]
            have := congrFun (f1 x (by omega) (by omega)) j
            simp only [ac_up] at this ⊢
            by_cases h1 : j = 24 <;> by_cases h2 : j = 23 <;> by_cases h3 : j = 22 <;> by_cases h4 : j = 25 <;> simp [h1, h2, h3, h4] at this ⊢ <;> first | exact this | omega
          have hother : ∀ k', k' ≠ x → k' ≠ x + 14 → ac_up (ac_up (ac_up (ac_up (ac_up (ac_up m1 x 22 (n : Int)) x 23 pz) x 24 0) (x + 14) 0 0) (x + 14) 1 0) (x + 14) 2 0 k' = m1 k' := by
            intro k' h1 h2
            funext j
            rw [ac_up_k h2, ac_up_k h2, ac_up_k h2, ac_up_k h1, ac_up_k h1, ac_up_k h1]
          generalize ac_up (ac_up (ac_up (ac_up (ac_up (ac_up m1 x 22 (n : Int)) x 23 pz) x 24 0) (x + 14) 0 0) (x + 14) 1 0) (x + 14) 2 0 = m2 at *
          have hmr : m2 r = mm r := by rw [hother r (by omega) (by omega), f1 r (by omega) (by omega), f0 r hrx]
          refine ⟨rfl, rfl, ⟨⟨hn, hk2, hE, ?_⟩, by rw [hx]; exact hk, by rw [hx]; rfl, ⟨fun u h1 h2 => by rw [hother _ (by omega) (by omega)]; exact hst.1 u h1 h2, fun j Q hj => by rw [hother _ (by omega) (by omega)]; exact hst.2 j Q hj⟩, r, by rw [hx]; rfl, hr, ?_, fun i h1 h2 => ?_⟩, Or.inl ⟨by rw [hx]; rfl, fun c hc => ?_, rfl⟩, fun k' h1 h2 => ?_, fun j hj => ?_⟩
          · rcases hpz with ⟨-, q⟩ | ⟨-, q⟩
            · intro i; rw [q]; show (-1 : Int) ≤ -1 ∧ (-1 : Int) < (T.2.1 : Int); omega
            · rw [q]; exact hpr
          · rcases hpz with ⟨q1, q2⟩ | ⟨q1, q2⟩
            · exact Or.inl ⟨by rw [hx]; exact q1, q2⟩
            · refine Or.inr ⟨by rw [hx]; exact q1, fun i h1 h2 => ?_⟩
              rw [hmr, q2]; exact pp i h1 h2
          · rw [hmr, pp i h1 h2]; have := hpr i; omega
          · rw [hof c hc]
            have : ac_set [] c = 0 := rfl
            rw [this]; rfl
          · rw [hother k' h1 (by omega), f1 k' (by omega) (by omega), f0 k' h1]
          · rw [hx, if_neg (by omega), if_neg (by omega), if_neg (by omega), if_neg (by omega)]
        · exact absurd h33 (by decide)

set_option maxHeartbeats 8000000 in
theorem k_X7_beginAll {G : ac_G} {Y : ac_Y} {mm : ac_M} {d x : Nat} {r : Nat} {T : ac_Tk} (hd : 5 ≤ d) (hM : ac_isM Y x) (hr : r = x + 3 ∨ r = x + 4) (rP : ac_RP mm r T) (hk : mm x 4 = (T.2.1 : Int)) : ac_C G yX7_beginAll cX7_beginAll 2 none d 0 0 Y mm [(2, (x : Int)), (2, (r : Int))] (ac_R Y [] (fun m => ac_EN m x (2 ^ T.2.2.1.length - 1) T.2.1 T.1 T.2.2.1 T.2.2.2.1 ∧ ac_PO m x (2 ^ T.2.2.1.length - 1) T.2.1 T.1 T.2.2.1 T.2.2.2.1 (ac_Lt T) ∧ ac_fE mm m x)) := by
  have hM9 := hM
  obtain ⟨kx, k1, k2, k3, k4, k5, k6, k7, k8, k9, k10, k11, k12, k13, k14, k15, k16⟩ := hM.2
  obtain ⟨⟨hn, hk2, hE, -, hpr, -⟩, p0, p1, pE, pp, -⟩ := id rP
  have kr : Y.2.1 r = (1, 39) := by rcases hr with e | e <;> rw [e] <;> assumption
  have h2l : 2 ^ T.2.2.1.length ≤ 16 := Nat.pow_le_pow_right (n := 2) (by decide) hE.1
  refine ac_met (on := (RX7, "beginAll")) rfl rfl (Nat.le_of_ble_eq_true rfl) (ls := [(2, (x : Int)), (2, (r : Int))]) rfl ?_
  refine ac_aload_n (q := 1) dX7_beginAll_0 rfl rfl ?_
  refine ac_aload_n (q := 2) dX7_beginAll_1 rfl rfl ?_
  refine ac_aload_n (q := 3) dX7_beginAll_2 rfl rfl ?_
  refine ac_csp (q := 6) (k_X7_all (r := r) (z := T.2.2.1.length) (d := d - 1) (by omega) kr p1 hE.1) ml_X7_157 dX7_beginAll_3 rfl rfl rfl (by omega) (Nat.le_of_ble_eq_true rfl) (Nat.zero_le _) (Nat.zero_le _) ?_
  refine ac_aload_n (q := 7) dX7_beginAll_6 rfl rfl ?_
  refine ac_iconst (q := 8) dX7_beginAll_7 rfl ?_
  refine ac_ialoadN (q := 9) (j := 0) (v := (T.1 : Int)) dX7_beginAll_8 kr (by decide) (by decide) rfl p0 ?_
  refine ac_iconst (q := 10) dX7_beginAll_9 rfl ?_
  refine ac_cv (q := 13) (k_X7_begin (r := r) (S := 2 ^ T.2.2.1.length - 1) (n := T.1) (T := T) (pz := 1) (pn := T.2.2.2.1) (d := d - 1) (by omega) hM9 hr rP hk (by omega) hn (Or.inr ⟨rfl, rfl⟩)) ml_X7_160 (by assumption) dX7_beginAll_10 rfl rfl rfl (by omega) (Nat.le_of_ble_eq_true rfl) (Nat.zero_le _) (Nat.zero_le _) (fun m1 h1 => ?_)
  refine ac_return dX7_beginAll_13 rfl (Nat.zero_le _) (Nat.zero_le _) ?_
  exact ⟨rfl, rfl, h1.1, by have := h1.2.1; rw [← ac_may_all] at this; exact this, h1.2.2⟩

set_option maxHeartbeats 8000000 in
theorem k_X7_next {G : ac_G} {Y : ac_Y} {mm : ac_M} {d x : Nat} {S k n : Nat} {E : List ac_Eq} {pin : Nat → Int} {l : List Nat} {c : Nat} (hd : 3 ≤ d) (hM : ac_isM Y x) (hN : ac_EN mm x S k n E pin) (hl : l.length + 1 ≤ n) (hv : ac_vp S k E l) (hc : c ≤ k) (hw : mm (x + 13) (l.length + 1) = (c : Int) - 1) (hcl : ac_cl mm (x + 14) (if c = 0 then l else l ++ [c - 1])) : ac_C G yX7_next cX7_next 3 (some .boolean) d 0 0 Y mm [(2, (x : Int)), (0, ((l.length + 1 : Nat) : Int))] (ac_R Y [(0, ac_b ((ac_nx (ac_mayS S k E pin) l (k - c) c).isSome = true))] (fun m => (∀ j, j ≠ l.length + 1 → m (x + 13) j = mm (x + 13) j) ∧ m (x + 13) (l.length + 1) = (ac_nx (ac_mayS S k E pin) l (k - c) c).elim (-1) (fun z => (z : Int)) ∧ ac_cl m (x + 14) ((ac_nx (ac_mayS S k E pin) l (k - c) c).elim l (fun z => l ++ [z])) ∧ ∀ k', k' ≠ x + 13 → k' ≠ x + 14 → m k' = mm k')) := by
  have hM9 := hM
  obtain ⟨kx, k1, k2, k3, k4, k5, k6, k7, k8, k9, k10, k11, k12, k13, k14, k15, k16⟩ := hM.2
  have hN9 := hN
  obtain ⟨⟨⟨hn1, hn2⟩, ⟨hk2, hk3⟩, hE, hpr⟩, e4, -⟩ := hN
  have found : ∀ (m : ac_M) (z : Nat), z < k → (ac_nx (ac_mayS S k E pin) l (k - c) c) = some z → ac_cl m (x + 14) l → (∀ k', k' ≠ x + 14 → m k' = mm k') → ac_V G (RX7, "next") cX7_next 3 (some .boolean) d 0 0 (ac_R Y [(0, ac_b ((ac_nx (ac_mayS S k E pin) l (k - c) c).isSome = true))] (fun m => (∀ j, j ≠ l.length + 1 → m (x + 13) j = mm (x + 13) j) ∧ m (x + 13) (l.length + 1) = (ac_nx (ac_mayS S k E pin) l (k - c) c).elim (-1) (fun z => (z : Int)) ∧ ac_cl m (x + 14) ((ac_nx (ac_mayS S k E pin) l (k - c) c).elim l (fun z => l ++ [z])) ∧ ∀ k', k' ≠ x + 13 → k' ≠ x + 14 → m k' = mm k')) 0 0 Y m 60 [(2, (x : Int)), (0, ((l.length + 1 : Nat) : Int)), (0, (z : Int))] [] := by
    intro m z hz ho hclm hfr
    have q4 : m x 4 = (k : Int) := by rw [hfr x (by omega)]; exact e4
    rw [ho]
    refine ac_aload_n (q := 61) dX7_next_60 rfl rfl ?_
    refine ac_get (q := 64) dX7_next_61 fl_X7_51 (by assumption) rfl (ac_rdr rfl hM9.1.2.2.2.2.2.2.2.2.2.2.2.2.1) ?_
    refine ac_iload_n (q := 65) dX7_next_64 rfl rfl ?_
    refine ac_iload_n (q := 66) dX7_next_65 rfl rfl ?_
    refine ac_aload_n (q := 67) dX7_next_66 rfl rfl ?_
    refine ac_get (q := 70) dX7_next_67 fl_X7_13 kx rfl (ac_rdi rfl q4) ?_
    refine ac_icmp_ge (q := 73) (tgt := 77) dX7_next_70 rfl rfl ⟨by omega, by omega⟩ ⟨by omega, by omega⟩ (fun h70 => ?_) (fun h70 => ?_)
    · exfalso; omega
    · refine ac_iload_n (q := 74) dX7_next_73 rfl rfl ?_
      refine ac_goto (q := 78) dX7_next_74 rfl ?_
      refine ac_iastoreN (q := 79) (j := l.length + 1) dX7_next_78 k13 (by decide) (by omega) rfl ?_
      have q4b : ac_up m (x + 13) (l.length + 1) (z : Int) x 4 = (k : Int) := by rw [ac_up_k (by omega)]; exact q4
      refine ac_iload_n (q := 80) dX7_next_79 rfl rfl ?_
      refine ac_aload_n (q := 81) dX7_next_80 rfl rfl ?_
      refine ac_get (q := 84) dX7_next_81 fl_X7_13 kx rfl (ac_rdi rfl q4b) ?_
      refine ac_icmp_ge (q := 87) (tgt := 99) dX7_next_84 rfl rfl ⟨by omega, by omega⟩ ⟨by omega, by omega⟩ (fun h84 => ?_) (fun h84 => ?_)
      · exfalso; omega
      · refine ac_aload_n (q := 88) dX7_next_87 rfl rfl ?_
        refine ac_get (q := 91) dX7_next_88 fl_X7_54 (by assumption) rfl (ac_rdr rfl hM9.1.2.2.2.2.2.2.2.2.2.2.2.2.2.1) ?_
        refine ac_iload_n (q := 92) dX7_next_91 rfl rfl ?_
        refine ac_dup2_11 (q := 93) dX7_next_92 rfl (show (0 : Nat) ≠ 1 by decide) (show (2 : Nat) ≠ 1 by decide) ?_
        refine ac_ialoadN (q := 94) (j := z) (v := ((ac_set l z : Nat) : Int)) dX7_next_93 k14 (by decide) (by omega) rfl (by rw [ac_up_k (by omega)]; exact hclm z (by omega)) ?_
        refine ac_iconst (q := 95) dX7_next_94 rfl ?_
        refine ac_iload_n (q := 96) dX7_next_95 rfl rfl ?_
        refine ac_ishl1 (q := 97) (k := l.length + 1) dX7_next_96 rfl (by omega) ?_
        refine ac_ior (q := 98) dX7_next_97 rfl ?_
        refine ac_top (w' := (0, ((ac_set (l ++ [z]) z : Nat) : Int))) (by rw [ac_set_up]) ?_
        refine ac_iastoreN (q := 99) (j := z) dX7_next_98 k14 (by decide) (by omega) rfl ?_
        have q4c : ac_up (ac_up m (x + 13) (l.length + 1) (z : Int)) (x + 14) z ((ac_set (l ++ [z]) z : Nat) : Int) x 4 = (k : Int) := by rw [ac_up_k (by omega)]; exact q4b
        refine ac_iload_n (q := 100) dX7_next_99 rfl rfl ?_
        refine ac_aload_n (q := 101) dX7_next_100 rfl rfl ?_
        refine ac_get (q := 104) dX7_next_101 fl_X7_13 kx rfl (ac_rdi rfl q4c) ?_
        refine ac_icmp_ge (q := 107) (tgt := 111) dX7_next_104 rfl rfl ⟨by omega, by omega⟩ ⟨by omega, by omega⟩ (fun h104 => ?_) (fun h104 => ?_)
        · exfalso; omega
        · refine ac_iconst (q := 108) dX7_next_107 rfl ?_
          refine ac_goto (q := 112) dX7_next_108 rfl ?_
          refine ac_zreturn dX7_next_112 rfl (by first | exact ac_b01 | omega) (Nat.zero_le _) (Nat.zero_le _) ?_
          refine ⟨rfl, rfl, fun j hj => ?_, ?_, ?_, fun k' h1 h2 => ?_⟩
          · rw [ac_up_k (by omega), ac_up_j hj, hfr _ (by omega)]
          · rw [ac_up_k (by omega), ac_up_s]; rfl
          · have hcm : ac_cl (ac_up m (x + 13) (l.length + 1) (z : Int)) (x + 14) l := ac_cl_keep hclm (by funext j; exact ac_up_k (by omega))
            exact ac_cl_lay hcm (fun j => by unfold ac_up; simp)
          · rw [← hfr k' h2]; funext j; rw [ac_up_k h2, ac_up_k h1]
  have nofound : ∀ (m : ac_M), (ac_nx (ac_mayS S k E pin) l (k - c) c) = none → ac_cl m (x + 14) l → (∀ k', k' ≠ x + 14 → m k' = mm k') → ac_V G (RX7, "next") cX7_next 3 (some .boolean) d 0 0 (ac_R Y [(0, ac_b ((ac_nx (ac_mayS S k E pin) l (k - c) c).isSome = true))] (fun m => (∀ j, j ≠ l.length + 1 → m (x + 13) j = mm (x + 13) j) ∧ m (x + 13) (l.length + 1) = (ac_nx (ac_mayS S k E pin) l (k - c) c).elim (-1) (fun z => (z : Int)) ∧ ac_cl m (x + 14) ((ac_nx (ac_mayS S k E pin) l (k - c) c).elim l (fun z => l ++ [z])) ∧ ∀ k', k' ≠ x + 13 → k' ≠ x + 14 → m k' = mm k')) 0 0 Y m 60 [(2, (x : Int)), (0, ((l.length + 1 : Nat) : Int)), (0, (k : Int))] [] := by
    intro m ho hclm hfr
    have q4 : m x 4 = (k : Int) := by rw [hfr x (by omega)]; exact e4
    rw [ho]
    refine ac_aload_n (q := 61) dX7_next_60 rfl rfl ?_
    refine ac_get (q := 64) dX7_next_61 fl_X7_51 (by assumption) rfl (ac_rdr rfl hM9.1.2.2.2.2.2.2.2.2.2.2.2.2.1) ?_
    refine ac_iload_n (q := 65) dX7_next_64 rfl rfl ?_
    refine ac_iload_n (q := 66) dX7_next_65 rfl rfl ?_
    refine ac_aload_n (q := 67) dX7_next_66 rfl rfl ?_
    refine ac_get (q := 70) dX7_next_67 fl_X7_13 kx rfl (ac_rdi rfl q4) ?_
    refine ac_icmp_ge (q := 73) (tgt := 77) dX7_next_70 rfl rfl ⟨by omega, by omega⟩ ⟨by omega, by omega⟩ (fun h70 => ?_) (fun h70 => ?_)
    · refine ac_iconst (q := 78) dX7_next_77 rfl ?_
      refine ac_iastoreN (q := 79) (j := l.length + 1) dX7_next_78 k13 (by decide) (by omega) rfl ?_
      have q4b : ac_up m (x + 13) (l.length + 1) (-1) x 4 = (k : Int) := by rw [ac_up_k (by omega)]; exact q4
      refine ac_iload_n (q := 80) dX7_next_79 rfl rfl ?_
      refine ac_aload_n (q := 81) dX7_next_80 rfl rfl ?_
      refine ac_get (q := 84) dX7_next_81 fl_X7_13 kx rfl (ac_rdi rfl q4b) ?_
      refine ac_icmp_ge (q := 87) (tgt := 99) dX7_next_84 rfl rfl ⟨by omega, by omega⟩ ⟨by omega, by omega⟩ (fun h84 => ?_) (fun h84 => ?_)
      · refine ac_iload_n (q := 100) dX7_next_99 rfl rfl ?_
        refine ac_aload_n (q := 101) dX7_next_100 rfl rfl ?_
        refine ac_get (q := 104) dX7_next_101 fl_X7_13 kx rfl (ac_rdi rfl q4b) ?_
        refine ac_icmp_ge (q := 107) (tgt := 111) dX7_next_104 rfl rfl ⟨by omega, by omega⟩ ⟨by omega, by omega⟩ (fun h104 => ?_) (fun h104 => ?_)
        · refine ac_iconst (q := 112) dX7_next_111 rfl ?_
          refine ac_zreturn dX7_next_112 rfl (by first | exact ac_b01 | omega) (Nat.zero_le _) (Nat.zero_le _) ?_
          refine ⟨rfl, rfl, fun j hj => ?_, ?_, ?_, fun k' h1 h2 => ?_⟩
          · rw [ac_up_j hj, hfr _ (by omega)]
          · rw [ac_up_s]; rfl
          · exact ac_cl_keep hclm (by funext j; exact ac_up_k (by omega))
          · rw [← hfr k' h2]; funext j; rw [ac_up_k h1]
        · exfalso; omega
      · exfalso; omega
    · exfalso; omega
  have loop : ∀ (f i : Nat) (m : ac_M), i + f = k → (ac_nx (ac_mayS S k E pin) l (k - c) c) = ac_nx (ac_mayS S k E pin) l f i → ac_cl m (x + 14) l → (∀ k', k' ≠ x + 14 → m k' = mm k') → ac_V G (RX7, "next") cX7_next 3 (some .boolean) d 0 0 (ac_R Y [(0, ac_b ((ac_nx (ac_mayS S k E pin) l (k - c) c).isSome = true))] (fun m => (∀ j, j ≠ l.length + 1 → m (x + 13) j = mm (x + 13) j) ∧ m (x + 13) (l.length + 1) = (ac_nx (ac_mayS S k E pin) l (k - c) c).elim (-1) (fun z => (z : Int)) ∧ ac_cl m (x + 14) ((ac_nx (ac_mayS S k E pin) l (k - c) c).elim l (fun z => l ++ [z])) ∧ ∀ k', k' ≠ x + 13 → k' ≠ x + 14 → m k' = mm k')) 0 0 Y m 28 [(2, (x : Int)), (0, ((l.length + 1 : Nat) : Int)), (0, (i : Int))] [] := by
    intro f
    induction f with
    | zero =>
      intro i m hi ho hclm hfr
      obtain rfl : i = k := by omega
      have q4 : m x 4 = (i : Int) := by rw [hfr x (by omega)]; exact e4
      refine ac_iload_n (q := 29) dX7_next_28 rfl rfl ?_
      refine ac_aload_n (q := 30) dX7_next_29 rfl rfl ?_
      refine ac_get (q := 33) dX7_next_30 fl_X7_13 kx rfl (ac_rdi rfl q4) ?_
      refine ac_icmp_ge (q := 36) (tgt := 60) dX7_next_33 rfl rfl ⟨by omega, by omega⟩ ⟨by omega, by omega⟩ (fun h33 => ?_) (fun h33 => ?_)
      · exact nofound m ho hclm hfr
      · exfalso; omega
    | succ f ih =>
      intro i m hi ho hclm hfr
      have q4 : m x 4 = (k : Int) := by rw [hfr x (by omega)]; exact e4
      have hNm : ac_EN m x S k n E pin := ac_EN_keep hN9 (fun j _ => by rw [hfr x (by omega)]) (hfr _ (by omega)) (hfr _ (by omega)) (hfr _ (by omega)) (hfr _ (by omega))
      have ei : ((i : Nat) : Int) + 1 = ((i + 1 : Nat) : Int) := rfl
      rw [ac_nx] at ho
      have hmy := @ac_mayS_iff S k E pin l i
      refine ac_iload_n (q := 29) dX7_next_28 rfl rfl ?_
      refine ac_aload_n (q := 30) dX7_next_29 rfl rfl ?_
      refine ac_get (q := 33) dX7_next_30 fl_X7_13 kx rfl (ac_rdi rfl q4) ?_
      refine ac_icmp_ge (q := 36) (tgt := 60) dX7_next_33 rfl rfl ⟨by omega, by omega⟩ ⟨by omega, by omega⟩ (fun h33 => ?_) (fun h33 => ?_)
      · exfalso; omega
      · refine ac_aload_n (q := 37) dX7_next_36 rfl rfl ?_
        refine ac_iload_n (q := 38) dX7_next_37 rfl rfl ?_
        refine ac_iload_n (q := 39) dX7_next_38 rfl rfl ?_
        refine ac_cvp (q := 42) (k_X7_allows (a := l.length + 1) (c := i) (d := d - 1) (by omega) hM9 hNm ⟨by omega, by omega⟩ (by omega)) ml_X7_148 (by assumption) dX7_next_39 rfl rfl rfl (by omega) (Nat.le_of_ble_eq_true rfl) (Nat.zero_le _) (Nat.zero_le _) ?_
        refine ac_bif_eq (q := 45) (tgt := 54) dX7_next_42 rfl rfl (fun h42 => ?_) (fun h42 => ?_)
        · rw [if_neg (fun q => h42 (hmy.mp q).2.1)] at ho
          refine ac_iinc (q := 57) dX7_next_54 rfl (Nat.le_of_ble_eq_true rfl) rfl rfl rfl rfl ?_
          simp only [List.set_cons_succ, List.set_cons_zero]
          refine ac_goto (q := 28) dX7_next_57 rfl ?_
          exact ac_ls (by rw [ei]) (ih (i + 1) m (by omega) ho hclm hfr)
        · refine ac_aload_n (q := 46) dX7_next_45 rfl rfl ?_
          refine ac_iload_n (q := 47) dX7_next_46 rfl rfl ?_
          refine ac_iload_n (q := 48) dX7_next_47 rfl rfl ?_
          refine ac_cvp (q := 51) (k_X7_may (l := l) (c := i) (d := d - 1) (by omega) hM9 hNm.2.2.2.1 hE (by omega) (by omega) hclm (hv.2 i (by omega))) ml_X7_151 (by assumption) dX7_next_48 rfl rfl rfl (by omega) (Nat.le_of_ble_eq_true rfl) (Nat.zero_le _) (Nat.zero_le _) ?_
          refine ac_bif_ne (q := 54) (tgt := 60) dX7_next_51 rfl rfl (fun h51 => ?_) (fun h51 => ?_)
          · rw [if_pos (hmy.mpr ⟨by omega, h42, h51⟩)] at ho
            exact found m i (by omega) ho hclm hfr
          · rw [if_neg (fun q => h51 (hmy.mp q).2.2)] at ho
            refine ac_iinc (q := 57) dX7_next_54 rfl (Nat.le_of_ble_eq_true rfl) rfl rfl rfl rfl ?_
            simp only [List.set_cons_succ, List.set_cons_zero]
            refine ac_goto (q := 28) dX7_next_57 rfl ?_
            exact ac_ls (by rw [ei]) (ih (i + 1) m (by omega) ho hclm hfr)
  refine ac_met (on := (RX7, "next")) rfl rfl (Nat.le_of_ble_eq_true rfl) (ls := [(2, (x : Int)), (0, ((l.length + 1 : Nat) : Int)), (3, 0)]) rfl ?_
  by_cases hc0 : c = 0
  · subst hc0
    rw [if_pos rfl] at hcl
    refine ac_aload_n (q := 1) dX7_next_0 rfl rfl ?_
    refine ac_get (q := 4) dX7_next_1 fl_X7_51 (by assumption) rfl (ac_rdr rfl hM9.1.2.2.2.2.2.2.2.2.2.2.2.2.1) ?_
    refine ac_iload_n (q := 5) dX7_next_4 rfl rfl ?_
    refine ac_ialoadN (q := 6) (j := l.length + 1) (v := -1) dX7_next_5 k13 (by decide) (by omega) rfl (by rw [hw]; rfl) ?_
    refine ac_istore_n (q := 7) (j := 2) rfl dX7_next_6 rfl (Nat.le_of_ble_eq_true rfl) rfl rfl ?_
    simp only [List.set_cons_succ, List.set_cons_zero]
    refine ac_iload_n (q := 8) dX7_next_7 rfl rfl ?_
    refine ac_if_lt (q := 11) (tgt := 25) dX7_next_8 rfl rfl ⟨by omega, by omega⟩ (fun h8 => ?_) (fun h8 => ?_)
    · refine ac_iinc (q := 28) (v := 0) dX7_next_25 rfl (Nat.le_of_ble_eq_true rfl) rfl rfl rfl rfl ?_
      simp only [List.set_cons_succ, List.set_cons_zero]
      exact loop k 0 mm (by omega) (by rw [Nat.sub_zero]) hcl (fun _ _ => rfl)
    · exact absurd h8 (by decide)
  · rw [if_neg hc0] at hcl
    obtain ⟨c, rfl⟩ : ∃ b, c = b + 1 := ⟨c - 1, by omega⟩
    rw [show c + 1 - 1 = c from rfl] at hcl
    have ec : ((c : Nat) : Int) + 1 = ((c + 1 : Nat) : Int) := rfl
    refine ac_aload_n (q := 1) dX7_next_0 rfl rfl ?_
    refine ac_get (q := 4) dX7_next_1 fl_X7_51 (by assumption) rfl (ac_rdr rfl hM9.1.2.2.2.2.2.2.2.2.2.2.2.2.1) ?_
    refine ac_iload_n (q := 5) dX7_next_4 rfl rfl ?_
    refine ac_ialoadN (q := 6) (j := l.length + 1) (v := (c : Int)) dX7_next_5 k13 (by decide) (by omega) rfl (by rw [hw]; omega) ?_
    refine ac_istore_n (q := 7) (j := 2) rfl dX7_next_6 rfl (Nat.le_of_ble_eq_true rfl) rfl rfl ?_
    simp only [List.set_cons_succ, List.set_cons_zero]
    refine ac_iload_n (q := 8) dX7_next_7 rfl rfl ?_
    refine ac_if_lt (q := 11) (tgt := 25) dX7_next_8 rfl rfl ⟨by omega, by omega⟩ (fun h8 => ?_) (fun h8 => ?_)
    · exfalso; omega
    · refine ac_aload_n (q := 12) dX7_next_11 rfl rfl ?_
      refine ac_get (q := 15) dX7_next_12 fl_X7_54 (by assumption) rfl (ac_rdr rfl hM9.1.2.2.2.2.2.2.2.2.2.2.2.2.2.1) ?_
      refine ac_iload_n (q := 16) dX7_next_15 rfl rfl ?_
      refine ac_dup2_11 (q := 17) dX7_next_16 rfl (show (0 : Nat) ≠ 1 by decide) (show (2 : Nat) ≠ 1 by decide) ?_
      refine ac_ialoadN (q := 18) (j := c) (v := ((ac_set (l ++ [c]) c : Nat) : Int)) dX7_next_17 k14 (by decide) (by omega) rfl (hcl c (by omega)) ?_
      refine ac_iconst (q := 19) dX7_next_18 rfl ?_
      refine ac_iload_n (q := 20) dX7_next_19 rfl rfl ?_
      refine ac_ishl1 (q := 21) (k := l.length + 1) dX7_next_20 rfl (by omega) ?_
      refine ac_iconst (q := 22) dX7_next_21 rfl ?_
      refine ac_ixor (q := 23) dX7_next_22 rfl ?_
      refine ac_iandn (q := 24) dX7_next_23 rfl ?_
      refine ac_top (w' := (0, ((ac_set l c : Nat) : Int))) (by rw [ac_set_dn]) ?_
      refine ac_iastoreN (q := 25) (j := c) dX7_next_24 k14 (by decide) (by omega) rfl ?_
      refine ac_iinc (q := 28) dX7_next_25 rfl (Nat.le_of_ble_eq_true rfl) rfl rfl rfl rfl ?_
      simp only [List.set_cons_succ, List.set_cons_zero]
      exact ac_ls (by rw [ec]) (loop (k - (c + 1)) (c + 1) _ (by omega) rfl (ac_cl_lift hcl (fun j => by unfold ac_up; simp)) (fun k' h => by funext j; exact ac_up_k h))

set_option maxHeartbeats 8000000 in
theorem k_X7_more {G : ac_G} {Y : ac_Y} {mm : ac_M} {d x : Nat} {S k n : Nat} {E : List ac_Eq} {pin : Nat → Int} {rem : List (List Nat)} (hd : 4 ≤ d) (hM : ac_isM Y x) (hN : ac_EN mm x S k n E pin) (hP : ac_PO mm x S k n E pin rem) : ac_C G yX7_more cX7_more 2 (some .boolean) d 0 0 Y mm [(2, (x : Int))] (ac_R Y [(0, ac_b (rem ≠ []))] (fun m => ac_EN m x S k n E pin ∧ ac_fE mm m x ∧ ∀ y rem', rem = y :: rem' → ac_PO m x S k n E pin rem' ∧ ac_wy m x y ∧ y.length = n ∧ ∀ c ∈ y, c < k)) := by
  have hM9 := hM
  obtain ⟨kx, k1, k2, k3, k4, k5, k6, k7, k8, k9, k10, k11, k12, k13, k14, k15, k16⟩ := hM.2
  have hN9 := hN
  obtain ⟨⟨⟨hn1, hn2⟩, ⟨hk2, hk3⟩, hE, hpr⟩, e4, e22, -⟩ := hN
  have loop : ∀ (N : Nat) (l : List Nat) (c : Nat) (m : ac_M), ac_mp n l c < N → l.length + 1 ≤ n → ac_vp S k E l → c ≤ k → ac_EN m x S k n E pin → ac_fE mm m x → m x 24 = 1 → ac_wy m x l → m (x + 13) (l.length + 1) = (c : Int) - 1 → ac_cl m (x + 14) (if c = 0 then l else l ++ [c - 1]) → rem = ac_gr (ac_mayS S k E pin) (n - (l.length + 1)) l (3 - c) c ++ ac_rest (ac_mayS S k E pin) n l → ac_V G (RX7, "more") cX7_more 2 (some .boolean) d 0 0 (ac_R Y [(0, ac_b (rem ≠ []))] (fun m => ac_EN m x S k n E pin ∧ ac_fE mm m x ∧ ∀ y rem', rem = y :: rem' → ac_PO m x S k n E pin rem' ∧ ac_wy m x y ∧ y.length = n ∧ ∀ c ∈ y, c < k)) 0 0 Y m 35 [(2, (x : Int)), (0, ((l.length + 1 : Nat) : Int))] [] := by
    intro N
    induction N with
    | zero => intro l c m hmu; omega
    | succ N ih =>
      intro l c m hmu hl hv hc hNm hfm h24 hwy hw hcl hrem
      obtain ⟨-, q4, q22, -⟩ := id hNm
      refine ac_iload_n (q := 36) dX7_more_35 rfl rfl ?_
      refine ac_if_le (q := 39) (tgt := 76) dX7_more_36 rfl rfl ⟨by omega, by omega⟩ (fun h36 => ?_) (fun h36 => ?_)
      · exfalso; omega
      · refine ac_aload_n (q := 40) dX7_more_39 rfl rfl ?_
        refine ac_iload_n (q := 41) dX7_more_40 rfl rfl ?_
        refine ac_cv (q := 44) (k_X7_next (l := l) (c := c) (d := d - 1) (by omega) hM9 hNm hl hv hc hw hcl) ml_X7_154 (by assumption) dX7_more_41 rfl rfl rfl (by omega) (Nat.le_of_ble_eq_true rfl) (Nat.zero_le _) (Nat.zero_le _) (fun m1 h1 => ?_)
        obtain ⟨w1, w2, cl1, f1⟩ := h1
        have hN1 : ac_EN m1 x S k n E pin := ac_EN_keep hNm (fun j _ => by rw [f1 x (by omega) (by omega)]) (f1 _ (by omega) (by omega)) (f1 _ (by omega) (by omega)) (f1 _ (by omega) (by omega)) (f1 _ (by omega) (by omega))
        have F1 : ac_fE mm m1 x := ac_fE_t hfm ⟨fun k' a b => f1 k' (by omega) (by omega), fun j hj => by rw [f1 x (by omega) (by omega)]⟩
        have h24b : m1 x 24 = 1 := by rw [f1 x (by omega) (by omega)]; exact h24
        have q22b : m1 x 22 = (n : Int) := hN1.2.2.1
        have wy1 : ac_wy m1 x l := fun i z hz => by
          have := (List.getElem?_eq_some_iff.mp hz).1
          rw [w1 _ (by omega)]; exact hwy i z hz
        cases ho : ac_nx (ac_mayS S k E pin) l (k - c) c with
        | none =>
          rw [ho] at w2 cl1
          have hgr : ac_gr (ac_mayS S k E pin) (n - (l.length + 1)) l (3 - c) c = [] := ac_gr_no _ _ (fun dd hdd => by
            by_cases hdk : dd < k
            · exact ac_nx_none (k - c) c (by omega) ho dd hdd hdk
            · intro q; exact hdk (ac_mayS_iff.mp q).1)
          rw [hgr, List.nil_append] at hrem
          refine ac_bif_ne (q := 47) (tgt := 53) dX7_more_44 rfl rfl (fun h44 => ?_) (fun h44 => ?_)
          · exact absurd h44 (by simp)
          · refine ac_iinc (q := 50) dX7_more_47 rfl (Nat.le_of_ble_eq_true rfl) rfl rfl rfl rfl ?_
            simp only [List.set_cons_succ, List.set_cons_zero]
            refine ac_goto (q := 35) dX7_more_50 rfl ?_
            rcases ac_eqnilcat l with rfl | ⟨l', c0, rfl⟩
            · refine ac_ls (ls' := [(2, (x : Int)), (0, 0)]) rfl ?_
              refine ac_iload_n (q := 36) dX7_more_35 rfl rfl ?_
              refine ac_if_le (q := 39) (tgt := 76) dX7_more_36 rfl rfl ⟨by omega, by omega⟩ (fun h36 => ?_) (fun h36 => ?_)
              · refine ac_iconst (q := 77) dX7_more_76 rfl ?_
                refine ac_zreturn dX7_more_77 rfl (by omega) (Nat.zero_le _) (Nat.zero_le _) ?_
                exact ⟨ac_l0 (fun q => q hrem), rfl, hN1, F1, fun y rem' hy => by rw [hrem] at hy; cases hy⟩
              · exfalso; omega
            · have hlx : (l' ++ [c0]).length = l'.length + 1 := by rw [List.length_append]; rfl
              rw [ac_rest_snoc] at hrem
              have hc0 := hv.1 c0 (List.mem_append_right _ (List.mem_singleton.mpr rfl))
              have hmu2 := ac_mp_up n l' c0 c (by omega)
              refine ac_ls ?_ (ih l' (c0 + 1) m1 (by omega) (by omega) (ac_vp_pre hv) (by omega) hN1 F1 h24b (fun i z hz => wy1 i z (by rw [List.getElem?_append_left (List.getElem?_eq_some_iff.mp hz).1]; exact hz)) ?_ ?_ hrem)
              · rw [hlx]; exact congrArg (fun z : Int => [((2 : Nat), (x : Int)), ((0 : Nat), z)]) (by omega)
              · have := wy1 l'.length c0 (by rw [List.getElem?_append_right (Nat.le_refl _), Nat.sub_self]; rfl)
                rw [this]; omega
              · rw [if_neg (by omega), show c0 + 1 - 1 = c0 from rfl]; exact cl1
        | some z =>
          rw [ho] at w2 cl1
          obtain ⟨⟨z1, z2⟩, hAz, hgr⟩ := ac_nx_some (f := n - (l.length + 1)) hk3 (k - c) c z (by omega) ho
          rw [hgr, List.append_assoc, ← ac_rest_snoc] at hrem
          have hvz := ac_vp_snoc hv hAz
          have hlx : (l ++ [z]).length = l.length + 1 := by rw [List.length_append]; rfl
          have wyz : ac_wy m1 x (l ++ [z]) := fun i y hy => by
            by_cases hi : i = l.length
            · subst hi
              rw [List.getElem?_append_right (Nat.le_refl _), Nat.sub_self] at hy
              cases hy; exact w2
            · have := (List.getElem?_eq_some_iff.mp hy).1
              rw [List.getElem?_append_left (by omega)] at hy
              exact wy1 i y hy
          refine ac_bif_ne (q := 47) (tgt := 53) dX7_more_44 rfl rfl (fun h44 => ?_) (fun h44 => ?_)
          · refine ac_iload_n (q := 54) dX7_more_53 rfl rfl ?_
            refine ac_aload_n (q := 55) dX7_more_54 rfl rfl ?_
            refine ac_get (q := 58) dX7_more_55 fl_X7_142 kx rfl (ac_rdi rfl q22b) ?_
            refine ac_icmp_ne (q := 61) (tgt := 63) dX7_more_58 rfl rfl ⟨by omega, by omega⟩ ⟨by omega, by omega⟩ (fun h58 => ?_) (fun h58 => ?_)
            · refine ac_iinc (q := 66) dX7_more_63 rfl (Nat.le_of_ble_eq_true rfl) rfl rfl rfl rfl ?_
              simp only [List.set_cons_succ, List.set_cons_zero]
              refine ac_aload_n (q := 67) dX7_more_66 rfl rfl ?_
              refine ac_get (q := 70) dX7_more_67 fl_X7_51 (by assumption) rfl (ac_rdr rfl hM9.1.2.2.2.2.2.2.2.2.2.2.2.2.1) ?_
              refine ac_iload_n (q := 71) dX7_more_70 rfl rfl ?_
              refine ac_top (w' := (0, ((l.length + 2 : Nat) : Int))) rfl ?_
              refine ac_iconst (q := 72) dX7_more_71 rfl ?_
              refine ac_iastoreN (q := 73) (j := l.length + 2) dX7_more_72 k13 (by decide) (by omega) rfl ?_
              refine ac_goto (q := 35) dX7_more_73 rfl ?_
              have hmu2 := ac_mp_dn n l c z z1 (by omega) (by omega)
              have e2 : ((l.length + 1 : Nat) : Int) + 1 = (((l ++ [z]).length + 1 : Nat) : Int) := by rw [hlx]; rfl
              refine ac_ls (by rw [e2]) (ih (l ++ [z]) 0 (ac_up m1 (x + 13) (l.length + 2) (-1)) (by omega) (by omega) hvz (by omega) (ac_EN_keep hN1 (fun j _ => by rw [ac_up_k (by omega)]) (by funext j; exact ac_up_k (by omega)) (by funext j; exact ac_up_k (by omega)) (by funext j; exact ac_up_k (by omega)) (by funext j; exact ac_up_k (by omega))) (ac_fE_t F1 ⟨fun k' a b => by funext j; exact ac_up_k (by omega), fun j hj => ac_up_k (by omega)⟩) (by rw [ac_up_k (by omega)]; exact h24b) (fun i y hy => ?_) ?_ ?_ ?_)
              · have := (List.getElem?_eq_some_iff.mp hy).1
                rw [ac_up_j (by omega)]; exact wyz i y hy
              · rw [hlx, ac_up_s]; rfl
              · rw [if_pos rfl]; exact ac_cl_keep cl1 (by funext j; exact ac_up_k (by omega))
              · rw [hrem, show n - (l.length + 1) = n - ((l ++ [z]).length + 1) + 1 by omega, ac_ext_gr]
            · refine ac_iconst (q := 62) dX7_more_61 rfl ?_
              refine ac_zreturn dX7_more_62 rfl (by first | exact ac_b01 | omega) (Nat.zero_le _) (Nat.zero_le _) ?_
              have hf0 : n - (l.length + 1) = 0 := by omega
              rw [hf0, ac_ext, List.singleton_append] at hrem
              refine ⟨ac_l1 (by rw [hrem]; exact List.cons_ne_nil _ _), rfl, hN1, F1, fun y rem' hy => ?_⟩
              rw [hrem] at hy
              cases hy
              exact ⟨Or.inr ⟨h24b, l ++ [z], by omega, wyz, cl1, hvz, rfl⟩, wyz, by omega, hvz.1⟩
          · exact absurd rfl h44
  refine ac_met (on := (RX7, "more")) rfl rfl (Nat.le_of_ble_eq_true rfl) (ls := [(2, (x : Int)), (3, 0)]) rfl ?_
  rcases hP with ⟨p24, pcl, prem⟩ | ⟨p24, l, pl, pwy, pcl, pv, prem⟩
  · skip
    refine ac_aload_n (q := 1) dX7_more_0 rfl rfl ?_
    refine ac_get (q := 4) dX7_more_1 fl_X7_145 kx rfl (ac_rdz rfl p24) ?_
    refine ac_if_eq (q := 7) (tgt := 14) dX7_more_4 rfl rfl ⟨by omega, by omega⟩ (fun h4 => ?_) (fun h4 => ?_)
    · refine ac_iconst (q := 15) dX7_more_14 rfl ?_
      refine ac_istore_n (q := 16) (j := 1) rfl dX7_more_15 rfl (Nat.le_of_ble_eq_true rfl) rfl rfl ?_
      simp only [List.set_cons_succ, List.set_cons_zero]
      refine ac_aload_n (q := 17) dX7_more_16 rfl rfl ?_
      refine ac_get (q := 20) dX7_more_17 fl_X7_145 kx rfl (ac_rdz rfl p24) ?_
      refine ac_if_ne (q := 23) (tgt := 30) dX7_more_20 rfl rfl ⟨by omega, by omega⟩ (fun h20 => ?_) (fun h20 => ?_)
      · exact absurd rfl h20
      · refine ac_aload_n (q := 24) dX7_more_23 rfl rfl ?_
        refine ac_get (q := 27) dX7_more_24 fl_X7_51 (by assumption) rfl (ac_rdr rfl hM9.1.2.2.2.2.2.2.2.2.2.2.2.2.1) ?_
        refine ac_iconst (q := 28) dX7_more_27 rfl ?_
        refine ac_iconst (q := 29) dX7_more_28 rfl ?_
        refine ac_iastoreN (q := 30) (j := 1) dX7_more_29 (by assumption) (by decide) (by decide) rfl ?_
        refine ac_aload_n (q := 31) dX7_more_30 rfl rfl ?_
        refine ac_iconst (q := 32) dX7_more_31 rfl ?_
        refine ac_putZ (q := 35) dX7_more_32 fl_X7_145 (by assumption) rfl (by first | exact ac_b01 | omega) rfl ?_
        have hx24 : ∀ j, j ≠ 24 → ac_up (ac_up mm (x + 13) 1 (-1)) x 24 1 x j = mm x j := fun j hj => by rw [ac_up_j hj, ac_up_k (by omega)]
        have hxk : ∀ k', k' ≠ x → k' ≠ x + 13 → ac_up (ac_up mm (x + 13) 1 (-1)) x 24 1 k' = mm k' := fun k' a b => by funext j; rw [ac_up_k a, ac_up_k b]
        refine loop (ac_mp n [] 0 + 1) [] 0 (ac_up (ac_up mm (x + 13) 1 (-1)) x 24 1) (by omega) (by simpa using hn1) ac_vp_nil (by omega) (ac_EN_keep hN9 hx24 (hxk _ (by omega) (by omega)) (hxk _ (by omega) (by omega)) (hxk _ (by omega) (by omega)) (hxk _ (by omega) (by omega))) ⟨fun k' a b => hxk k' a (by omega), fun j hj => hx24 j (by omega)⟩ ac_up_s (fun i z hz => by simp at hz) ?_ ?_ ?_
        · rw [ac_up_k (by omega)]; exact ac_up_s
        · rw [if_pos rfl]; exact ac_cl_keep pcl (hxk _ (by omega) (by omega))
        · rw [prem, ac_rest_nil, List.append_nil, List.length_nil, show n = n - (0 + 1) + 1 by omega, ac_ext_gr]; rfl
    · exact absurd h4 (by omega)
  · rcases ac_eqnilcat l with rfl | ⟨l', c0, rfl⟩
    · simp at pl; omega
    · have hlx : (l' ++ [c0]).length = l'.length + 1 := by rw [List.length_append]; rfl
      refine ac_aload_n (q := 1) dX7_more_0 rfl rfl ?_
      refine ac_get (q := 4) dX7_more_1 fl_X7_145 kx rfl (ac_rdz rfl p24) ?_
      refine ac_if_eq (q := 7) (tgt := 14) dX7_more_4 rfl rfl ⟨by omega, by omega⟩ (fun h4 => ?_) (fun h4 => ?_)
      · exact absurd h4 (by omega)
      · refine ac_aload_n (q := 8) dX7_more_7 rfl rfl ?_
        refine ac_get (q := 11) dX7_more_8 fl_X7_142 kx rfl (ac_rdi rfl e22) ?_
        refine ac_goto (q := 15) dX7_more_11 rfl ?_
        refine ac_istore_n (q := 16) (j := 1) rfl dX7_more_15 rfl (Nat.le_of_ble_eq_true rfl) rfl rfl ?_
        simp only [List.set_cons_succ, List.set_cons_zero]
        refine ac_aload_n (q := 17) dX7_more_16 rfl rfl ?_
        refine ac_get (q := 20) dX7_more_17 fl_X7_145 kx rfl (ac_rdz rfl p24) ?_
        refine ac_if_ne (q := 23) (tgt := 30) dX7_more_20 rfl rfl ⟨by omega, by omega⟩ (fun h20 => ?_) (fun h20 => ?_)
        · refine ac_aload_n (q := 31) dX7_more_30 rfl rfl ?_
          refine ac_iconst (q := 32) dX7_more_31 rfl ?_
          refine ac_putZ (q := 35) dX7_more_32 fl_X7_145 (by assumption) rfl (by first | exact ac_b01 | omega) rfl ?_
          have hx24 : ∀ j, j ≠ 24 → ac_up mm x 24 1 x j = mm x j := fun j hj => ac_up_j hj
          have hxk : ∀ k', k' ≠ x → ac_up mm x 24 1 k' = mm k' := fun k' a => by funext j; rw [ac_up_k a]
          rw [ac_rest_snoc] at prem
          have hc0 := pv.1 c0 (List.mem_append_right _ (List.mem_singleton.mpr rfl))
          refine ac_ls ?_ (loop (ac_mp n l' (c0 + 1) + 1) l' (c0 + 1) (ac_up mm x 24 1) (by omega) (by omega) (ac_vp_pre pv) (by omega) (ac_EN_keep hN9 hx24 (hxk _ (by omega)) (hxk _ (by omega)) (hxk _ (by omega)) (hxk _ (by omega))) ⟨fun k' a b => hxk k' a, fun j hj => hx24 j (by omega)⟩ ac_up_s (fun i z hz => ?_) ?_ ?_ prem)
          · exact congrArg (fun z : Int => [((2 : Nat), (x : Int)), ((0 : Nat), z)]) (by omega)
          · rw [hxk _ (by omega)]; exact pwy i z (by rw [List.getElem?_append_left (List.getElem?_eq_some_iff.mp hz).1]; exact hz)
          · rw [hxk _ (by omega), pwy l'.length c0 (by rw [List.getElem?_append_right (Nat.le_refl _), Nat.sub_self]; rfl)]; omega
          · rw [if_neg (by omega), show c0 + 1 - 1 = c0 from rfl]; exact ac_cl_keep pcl (hxk _ (by omega))
        · exact absurd h20 (by omega)
