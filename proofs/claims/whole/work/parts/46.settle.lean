set_option maxHeartbeats 8000000 in
theorem k_X7_manyBy {G : ac_G} {Y : ac_Y} {mm : ac_M} {d x : Nat} {r : Nat} {T : ac_Tk} {S : Nat} (hd : 6 ≤ d) (hM : ac_isM Y x) (hr : r = x + 3 ∨ r = x + 4) (rP : ac_RP mm r T) (hk : mm x 4 = (T.2.1 : Int)) (hS : S < 2048) : ac_C G yX7_manyBy cX7_manyBy 4 (some .int) d 0 0 Y mm [(2, (x : Int)), (2, (r : Int)), (0, (S : Int))] (ac_R Y [(0, (((ac_ext (ac_mayS S T.2.1 T.2.2.1 T.2.2.2.1) T.1 []).length : Nat) : Int))] (fun m => ac_fE mm m x)) := by
  have hM9 := hM
  obtain ⟨kx, k1, k2, k3, k4, k5, k6, k7, k8, k9, k10, k11, k12, k13, k14, k15, k16⟩ := hM.2
  obtain ⟨⟨⟨hn1, hn2⟩, ⟨hk2, hk3⟩, hE, hp0, hpr, hc0⟩, p0, p1, pE, pp, p28, pcb, pcl⟩ := id rP
  have kr : Y.2.1 r = (1, 39) := by rcases hr with e | e <;> rw [e] <;> assumption
  have h2l : 2 ^ T.2.2.1.length ≤ 16 := Nat.pow_le_pow_right (n := 2) (by decide) hE.1
  have hE4 := hE.1
  obtain ⟨L, hL⟩ : ∃ L, L = ac_ext (ac_mayS S T.2.1 T.2.2.1 T.2.2.2.1) T.1 [] := ⟨_, rfl⟩
  have loop : ∀ (rem : List (List Nat)) (m : ac_M) (c : Nat), ac_EN m x S T.2.1 T.1 T.2.2.1 T.2.2.2.1 → ac_PO m x S T.2.1 T.1 T.2.2.1 T.2.2.2.1 rem → ac_fE mm m x → c + rem.length = L.length → ac_V G (RX7, "manyBy") cX7_manyBy 4 (some .int) d 0 0 (ac_R Y [(0, (((ac_ext (ac_mayS S T.2.1 T.2.2.1 T.2.2.2.1) T.1 []).length : Nat) : Int))] (fun m => ac_fE mm m x)) 0 0 Y m 12 [(2, (x : Int)), (2, (r : Int)), (0, (S : Int)), (0, (c : Int))] [] := by
    intro rem
    induction rem with
    | nil =>
      intro m c hN hP hf hc
      refine ac_aload_n (q := 13) dX7_manyBy_12 rfl rfl ?_
      refine ac_cv (q := 16) (k_X7_more (d := d - 1) (by omega) hM9 hN hP) ml_X7_164 (by assumption) dX7_manyBy_13 rfl rfl rfl (by omega) (Nat.le_of_ble_eq_true rfl) (Nat.zero_le _) (Nat.zero_le _) (fun m1 h1 => ?_)
      obtain ⟨N1, F1, c1⟩ := h1
      refine ac_bif_eq (q := 19) (tgt := 25) dX7_manyBy_16 rfl rfl (fun h16 => ?_) (fun h16 => ?_)
      · refine ac_iload_n (q := 26) dX7_manyBy_25 rfl rfl ?_
        refine ac_ireturn dX7_manyBy_26 rfl (Nat.zero_le _) (Nat.zero_le _) ?_
        exact ⟨by rw [← hL, show c = L.length by simpa using hc], rfl, ac_fE_t hf F1⟩
      · exact absurd rfl h16
    | cons y rem ih =>
      intro m c hN hP hf hc
      refine ac_aload_n (q := 13) dX7_manyBy_12 rfl rfl ?_
      refine ac_cv (q := 16) (k_X7_more (d := d - 1) (by omega) hM9 hN hP) ml_X7_164 (by assumption) dX7_manyBy_13 rfl rfl rfl (by omega) (Nat.le_of_ble_eq_true rfl) (Nat.zero_le _) (Nat.zero_le _) (fun m1 h1 => ?_)
      obtain ⟨N1, F1, c1⟩ := h1
      obtain ⟨P1, wy1, ly1, ck1⟩ := c1 y rem rfl
      have FF : ac_fE mm m1 x := ac_fE_t hf F1
      refine ac_bif_eq (q := 19) (tgt := 25) dX7_manyBy_16 rfl rfl (fun h16 => ?_) (fun h16 => ?_)
      · exact absurd (List.cons_ne_nil y rem) h16
      · refine ac_iinc (q := 22) dX7_manyBy_19 rfl (Nat.le_of_ble_eq_true rfl) rfl rfl rfl rfl ?_
        simp only [List.set_cons_succ, List.set_cons_zero]
        refine ac_goto (q := 12) dX7_manyBy_22 rfl ?_
        exact ih m1 (c + 1) N1 P1 FF (by rw [List.length_cons] at hc; omega)
  refine ac_met (on := (RX7, "manyBy")) rfl rfl (Nat.le_of_ble_eq_true rfl) (ls := [(2, (x : Int)), (2, (r : Int)), (0, (S : Int)), (3, 0)]) rfl ?_
  refine ac_aload_n (q := 1) dX7_manyBy_0 rfl rfl ?_
  refine ac_aload_n (q := 2) dX7_manyBy_1 rfl rfl ?_
  refine ac_iload_n (q := 3) dX7_manyBy_2 rfl rfl ?_
  refine ac_aload_n (q := 4) dX7_manyBy_3 rfl rfl ?_
  refine ac_iconst (q := 5) dX7_manyBy_4 rfl ?_
  refine ac_ialoadN (q := 6) (j := 0) (v := (T.1 : Int)) dX7_manyBy_5 kr (by decide) (by decide) rfl p0 ?_
  refine ac_iconst (q := 7) dX7_manyBy_6 rfl ?_
  refine ac_cv (q := 10) (k_X7_begin (r := r) (S := S) (n := T.1) (T := T) (pz := 1) (pn := T.2.2.2.1) (d := d - 1) (by omega) hM9 hr rP hk hS ⟨hn1, hn2⟩ (Or.inr ⟨rfl, rfl⟩)) ml_X7_160 (by assumption) dX7_manyBy_7 rfl rfl rfl (by omega) (Nat.le_of_ble_eq_true rfl) (Nat.zero_le _) (Nat.zero_le _) (fun m1 h1 => ?_)
  obtain ⟨N1, P1, F1⟩ := h1
  refine ac_iconst (q := 11) dX7_manyBy_10 rfl ?_
  refine ac_istore_n (q := 12) (j := 3) rfl dX7_manyBy_11 rfl (Nat.le_of_ble_eq_true rfl) rfl rfl ?_
  simp only [List.set_cons_succ, List.set_cons_zero]
  exact loop _ m1 0 N1 P1 F1 (by rw [← hL]; omega)

set_option maxHeartbeats 8000000 in
theorem k_X7_manyOf {G : ac_G} {Y : ac_Y} {mm : ac_M} {d x : Nat} {r : Nat} {T : ac_Tk} (hd : 7 ≤ d) (hM : ac_isM Y x) (hr : r = x + 3 ∨ r = x + 4) (rP : ac_RP mm r T) (hk : mm x 4 = (T.2.1 : Int))  : ac_C G yX7_manyOf cX7_manyOf 2 (some .int) d 0 0 Y mm [(2, (x : Int)), (2, (r : Int))] (ac_R Y [(0, (((ac_Lt T).length : Nat) : Int))] (fun m => ac_fE mm m x)) := by
  have hM9 := hM
  obtain ⟨kx, k1, k2, k3, k4, k5, k6, k7, k8, k9, k10, k11, k12, k13, k14, k15, k16⟩ := hM.2
  obtain ⟨⟨⟨hn1, hn2⟩, ⟨hk2, hk3⟩, hE, hp0, hpr, hc0⟩, p0, p1, pE, pp, p28, pcb, pcl⟩ := id rP
  have kr : Y.2.1 r = (1, 39) := by rcases hr with e | e <;> rw [e] <;> assumption
  have h2l : 2 ^ T.2.2.1.length ≤ 16 := Nat.pow_le_pow_right (n := 2) (by decide) hE.1
  have hE4 := hE.1
  refine ac_met (on := (RX7, "manyOf")) rfl rfl (Nat.le_of_ble_eq_true rfl) (ls := [(2, (x : Int)), (2, (r : Int))]) rfl ?_
  refine ac_aload_n (q := 1) dX7_manyOf_0 rfl rfl ?_
  refine ac_aload_n (q := 2) dX7_manyOf_1 rfl rfl ?_
  refine ac_aload_n (q := 3) dX7_manyOf_2 rfl rfl ?_
  refine ac_csp (q := 6) (k_X7_all (r := r) (z := T.2.2.1.length) (d := d - 1) (by omega) kr p1 hE.1) ml_X7_157 dX7_manyOf_3 rfl rfl rfl (by omega) (Nat.le_of_ble_eq_true rfl) (Nat.zero_le _) (Nat.zero_le _) ?_
  refine ac_cv (q := 9) (k_X7_manyBy (r := r) (T := T) (S := 2 ^ T.2.2.1.length - 1) (d := d - 1) (by omega) hM9 hr rP hk (by omega)) ml_X7_167 (by assumption) dX7_manyOf_6 rfl rfl rfl (by omega) (Nat.le_of_ble_eq_true rfl) (Nat.zero_le _) (Nat.zero_le _) (fun m1 h1 => ?_)
  refine ac_ireturn dX7_manyOf_9 rfl (Nat.zero_le _) (Nat.zero_le _) ?_
  exact ⟨by unfold ac_Lt; rw [ac_may_all], rfl, h1⟩

set_option maxHeartbeats 8000000 in
theorem k_X7_isWay {G : ac_G} {Y : ac_Y} {mm : ac_M} {d x : Nat} {r : Nat} {T : ac_Tk} {y l : List Nat} (hd : 1 ≤ d) (hM : ac_isM Y x) (hr : r = x + 3 ∨ r = x + 4) (rP : ac_RP mm r T) (hw : ac_wy mm x y) (hy : y.length = T.1) (hyk : ∀ c ∈ y, c < T.2.1) (hl : T.2.2.2.2 = some l) : ac_C G yX7_isWay cX7_isWay 4 (some .boolean) d 0 0 Y mm [(2, (x : Int)), (2, (r : Int))] (ac_R Y [(0, ac_b (y = l))] (fun m => m = mm)) := by
  have hM9 := hM
  obtain ⟨kx, k1, k2, k3, k4, k5, k6, k7, k8, k9, k10, k11, k12, k13, k14, k15, k16⟩ := hM.2
  obtain ⟨⟨⟨hn1, hn2⟩, ⟨hk2, hk3⟩, hE, hp0, hpr, hc0⟩, p0, p1, pE, pp, p28, pcb, pcl⟩ := id rP
  have kr : Y.2.1 r = (1, 39) := by rcases hr with e | e <;> rw [e] <;> assumption
  have h2l : 2 ^ T.2.2.1.length ≤ 16 := Nat.pow_le_pow_right (n := 2) (by decide) hE.1
  have hE4 := hE.1
  obtain ⟨hl1, hl2⟩ := hc0 l hl
  have pcl2 := pcl l hl
  have loop : ∀ (f i : Nat), i + f = T.1 → ac_V G (RX7, "isWay") cX7_isWay 4 (some .boolean) d 0 0 (ac_R Y [(0, ac_b (y = l))] (fun m => m = mm)) 0 0 Y mm 4 [(2, (x : Int)), (2, (r : Int)), (0, ac_b (y.take i = l.take i)), (0, ((i + 1 : Nat) : Int))] [] := by
    intro f
    induction f with
    | zero =>
      intro i hi
      obtain rfl : i = T.1 := by omega
      rw [List.take_of_length_le (by omega), List.take_of_length_le (by omega)]
      refine ac_iload_n (q := 5) dX7_isWay_4 rfl rfl ?_
      refine ac_aload_n (q := 6) dX7_isWay_5 rfl rfl ?_
      refine ac_iconst (q := 7) dX7_isWay_6 rfl ?_
      refine ac_ialoadN (q := 8) (j := 0) (v := (T.1 : Int)) dX7_isWay_7 kr (by decide) (by decide) rfl p0 ?_
      refine ac_icmp_gt (q := 11) (tgt := 44) dX7_isWay_8 rfl rfl ⟨by omega, by omega⟩ ⟨by omega, by omega⟩ (fun h8 => ?_) (fun h8 => ?_)
      · refine ac_iload_n (q := 45) dX7_isWay_44 rfl rfl ?_
        refine ac_zreturn dX7_isWay_45 rfl (by first | exact ac_b01 | omega) (Nat.zero_le _) (Nat.zero_le _) ?_
        exact ⟨rfl, rfl, rfl⟩
      · exfalso; omega
    | succ f ih =>
      intro i hi
      obtain ⟨a, ha⟩ : ∃ a, y[i]? = some a := ⟨_, List.getElem?_eq_getElem (by omega)⟩
      obtain ⟨c, hc⟩ : ∃ c, l[i]? = some c := ⟨_, List.getElem?_eq_getElem (by omega)⟩
      have hak := hyk a (List.mem_of_getElem? ha)
      have hck := hl2 c (List.mem_of_getElem? hc)
      have hte := ac_takeE ha hc
      have ei : ((i + 1 : Nat) : Int) + 1 = ((i + 1 + 1 : Nat) : Int) := rfl
      have hs := ih (i + 1) (by omega)
      by_cases ht : y.take i = l.take i
      · rw [ac_b1 ht]
        refine ac_iload_n (q := 5) dX7_isWay_4 rfl rfl ?_
        refine ac_aload_n (q := 6) dX7_isWay_5 rfl rfl ?_
        refine ac_iconst (q := 7) dX7_isWay_6 rfl ?_
        refine ac_ialoadN (q := 8) (j := 0) (v := (T.1 : Int)) dX7_isWay_7 kr (by decide) (by decide) rfl p0 ?_
        refine ac_icmp_gt (q := 11) (tgt := 44) dX7_isWay_8 rfl rfl ⟨by omega, by omega⟩ ⟨by omega, by omega⟩ (fun h8 => ?_) (fun h8 => ?_)
        · exfalso; omega
        · refine ac_iload_n (q := 12) dX7_isWay_11 rfl rfl ?_
          refine ac_if_eq (q := 15) (tgt := 36) dX7_isWay_12 rfl rfl ⟨by omega, by omega⟩ (fun h12 => ?_) (fun h12 => ?_)
          · exact absurd h12 (by decide)
          · refine ac_aload_n (q := 16) dX7_isWay_15 rfl rfl ?_
            refine ac_get (q := 19) dX7_isWay_16 fl_X7_51 (by assumption) rfl (ac_rdr rfl hM9.1.2.2.2.2.2.2.2.2.2.2.2.2.1) ?_
            refine ac_iload_n (q := 20) dX7_isWay_19 rfl rfl ?_
            refine ac_ialoadN (q := 21) (j := i + 1) (v := (a : Int)) dX7_isWay_20 k13 (by decide) (by omega) rfl (hw i a ha) ?_
            refine ac_aload_n (q := 22) dX7_isWay_21 rfl rfl ?_
            refine ac_bipush (q := 24) dX7_isWay_22 rfl (by decide) ?_
            refine ac_iload_n (q := 25) dX7_isWay_24 rfl rfl ?_
            refine ac_iadd (q := 26) dX7_isWay_25 rfl ?_
            refine ac_iconst (q := 27) dX7_isWay_26 rfl ?_
            refine ac_isub (q := 28) dX7_isWay_27 rfl ?_
            refine ac_top (w' := (0, ((29 + i : Nat) : Int))) (congrArg (fun z : Int => ((0 : Nat), z)) (by omega)) ?_
            refine ac_ialoadN (q := 29) (j := 29 + i) (v := (c : Int)) dX7_isWay_28 kr (by decide) (by omega) rfl (pcl2 i c hc) ?_
            refine ac_icmp_ne (q := 32) (tgt := 36) dX7_isWay_29 rfl rfl ⟨by omega, by omega⟩ ⟨by omega, by omega⟩ (fun h29 => ?_) (fun h29 => ?_)
            · have hn : ¬ y.take (i + 1) = l.take (i + 1) := fun q => h29 (by rw [(hte.mp q).2])
              rw [ac_b0 hn] at hs
              refine ac_iconst (q := 37) dX7_isWay_36 rfl ?_
              refine ac_istore_n (q := 38) (j := 2) rfl dX7_isWay_37 rfl (Nat.le_of_ble_eq_true rfl) rfl rfl ?_
              simp only [List.set_cons_succ, List.set_cons_zero]
              refine ac_iinc (q := 41) dX7_isWay_38 rfl (Nat.le_of_ble_eq_true rfl) rfl rfl rfl rfl ?_
              simp only [List.set_cons_succ, List.set_cons_zero]
              refine ac_goto (q := 4) dX7_isWay_41 rfl ?_
              exact ac_ls (by rw [ei]) hs
            · have hn : y.take (i + 1) = l.take (i + 1) := hte.mpr ⟨ht, Int.ofNat.inj h29⟩
              rw [ac_b1 hn] at hs
              refine ac_iconst (q := 33) dX7_isWay_32 rfl ?_
              refine ac_goto (q := 37) dX7_isWay_33 rfl ?_
              refine ac_istore_n (q := 38) (j := 2) rfl dX7_isWay_37 rfl (Nat.le_of_ble_eq_true rfl) rfl rfl ?_
              simp only [List.set_cons_succ, List.set_cons_zero]
              refine ac_iinc (q := 41) dX7_isWay_38 rfl (Nat.le_of_ble_eq_true rfl) rfl rfl rfl rfl ?_
              simp only [List.set_cons_succ, List.set_cons_zero]
              refine ac_goto (q := 4) dX7_isWay_41 rfl ?_
              exact ac_ls (by rw [ei]) hs
      · rw [ac_b0 ht]
        have hn : ¬ y.take (i + 1) = l.take (i + 1) := fun q => ht (hte.mp q).1
        rw [ac_b0 hn] at hs
        refine ac_iload_n (q := 5) dX7_isWay_4 rfl rfl ?_
        refine ac_aload_n (q := 6) dX7_isWay_5 rfl rfl ?_
        refine ac_iconst (q := 7) dX7_isWay_6 rfl ?_
        refine ac_ialoadN (q := 8) (j := 0) (v := (T.1 : Int)) dX7_isWay_7 kr (by decide) (by decide) rfl p0 ?_
        refine ac_icmp_gt (q := 11) (tgt := 44) dX7_isWay_8 rfl rfl ⟨by omega, by omega⟩ ⟨by omega, by omega⟩ (fun h8 => ?_) (fun h8 => ?_)
        · exfalso; omega
        · refine ac_iload_n (q := 12) dX7_isWay_11 rfl rfl ?_
          refine ac_if_eq (q := 15) (tgt := 36) dX7_isWay_12 rfl rfl ⟨by omega, by omega⟩ (fun h12 => ?_) (fun h12 => ?_)
          · refine ac_iconst (q := 37) dX7_isWay_36 rfl ?_
            refine ac_istore_n (q := 38) (j := 2) rfl dX7_isWay_37 rfl (Nat.le_of_ble_eq_true rfl) rfl rfl ?_
            simp only [List.set_cons_succ, List.set_cons_zero]
            refine ac_iinc (q := 41) dX7_isWay_38 rfl (Nat.le_of_ble_eq_true rfl) rfl rfl rfl rfl ?_
            simp only [List.set_cons_succ, List.set_cons_zero]
            refine ac_goto (q := 4) dX7_isWay_41 rfl ?_
            exact ac_ls (by rw [ei]) hs
          · exact absurd rfl h12
  refine ac_met (on := (RX7, "isWay")) rfl rfl (Nat.le_of_ble_eq_true rfl) (ls := [(2, (x : Int)), (2, (r : Int)), (3, 0), (3, 0)]) rfl ?_
  refine ac_iconst (q := 1) dX7_isWay_0 rfl ?_
  refine ac_istore_n (q := 2) (j := 2) rfl dX7_isWay_1 rfl (Nat.le_of_ble_eq_true rfl) rfl rfl ?_
  simp only [List.set_cons_succ, List.set_cons_zero]
  refine ac_iconst (q := 3) dX7_isWay_2 rfl ?_
  refine ac_istore_n (q := 4) (j := 3) rfl dX7_isWay_3 rfl (Nat.le_of_ble_eq_true rfl) rfl rfl ?_
  simp only [List.set_cons_succ, List.set_cons_zero]
  exact ac_ls (by rw [List.take_zero, List.take_zero, ac_b1 rfl]; rfl) (loop T.1 0 (by omega))

set_option maxHeartbeats 8000000 in
theorem k_X7_numberOf {G : ac_G} {Y : ac_Y} {mm : ac_M} {d x : Nat} {r : Nat} {T : ac_Tk} (hd : 7 ≤ d) (hM : ac_isM Y x) (hr : r = x + 3 ∨ r = x + 4) (rP : ac_RP mm r T) (hk : mm x 4 = (T.2.1 : Int))  : ac_C G yX7_numberOf cX7_numberOf 3 (some .int) d 0 0 Y mm [(2, (x : Int)), (2, (r : Int))] (ac_R Y [(0, ac_rk T.2.2.2.2 (ac_Lt T))] (fun m => ac_fE mm m x)) := by
  have hM9 := hM
  obtain ⟨kx, k1, k2, k3, k4, k5, k6, k7, k8, k9, k10, k11, k12, k13, k14, k15, k16⟩ := hM.2
  obtain ⟨⟨⟨hn1, hn2⟩, ⟨hk2, hk3⟩, hE, hp0, hpr, hc0⟩, p0, p1, pE, pp, p28, pcb, pcl⟩ := id rP
  have kr : Y.2.1 r = (1, 39) := by rcases hr with e | e <;> rw [e] <;> assumption
  have h2l : 2 ^ T.2.2.1.length ≤ 16 := Nat.pow_le_pow_right (n := 2) (by decide) hE.1
  have hE4 := hE.1
  have hnd := ac_Lt_nodup T
  obtain ⟨L, hL⟩ : ∃ L, L = ac_Lt T := ⟨_, rfl⟩
  rw [← hL] at hnd
  have loop : ∀ (rem : List (List Nat)) (m : ac_M) (done : List (List Nat)), ac_EN m x (2 ^ T.2.2.1.length - 1) T.2.1 T.1 T.2.2.1 T.2.2.2.1 → ac_PO m x (2 ^ T.2.2.1.length - 1) T.2.1 T.1 T.2.2.1 T.2.2.2.1 rem → ac_fE mm m x → (∀ l, T.2.2.2.2 = some l → l ∉ done) → done ++ rem = L → T.2.2.2.2.isSome = true → ac_V G (RX7, "numberOf") cX7_numberOf 3 (some .int) d 0 0 (ac_R Y [(0, ac_rk T.2.2.2.2 (ac_Lt T))] (fun m => ac_fE mm m x)) 0 0 Y m 17 [(2, (x : Int)), (2, (r : Int)), (0, ((done.length : Nat) : Int))] [] := by
    intro rem
    induction rem with
    | nil =>
      intro m done hN hP hf hno hdr hsome
      refine ac_aload_n (q := 18) dX7_numberOf_17 rfl rfl ?_
      refine ac_cv (q := 21) (k_X7_more (d := d - 1) (by omega) hM9 hN hP) ml_X7_164 (by assumption) dX7_numberOf_18 rfl rfl rfl (by omega) (Nat.le_of_ble_eq_true rfl) (Nat.zero_le _) (Nat.zero_le _) (fun m1 h1 => ?_)
      obtain ⟨N1, F1, c1⟩ := h1
      refine ac_bif_eq (q := 24) (tgt := 40) dX7_numberOf_21 rfl rfl (fun h21 => ?_) (fun h21 => ?_)
      · refine ac_bipush (q := 42) dX7_numberOf_40 rfl (by decide) ?_
        refine ac_ireturn dX7_numberOf_42 rfl (Nat.zero_le _) (Nat.zero_le _) ?_
        exact ⟨by rw [← hL, ac_rk_no (fun l hl => by rw [← hdr, List.append_nil]; exact hno l hl)], rfl, ac_fE_t hf F1⟩
      · exact absurd rfl h21
    | cons y rem ih =>
      intro m done hN hP hf hno hdr hsome
      refine ac_aload_n (q := 18) dX7_numberOf_17 rfl rfl ?_
      refine ac_cv (q := 21) (k_X7_more (d := d - 1) (by omega) hM9 hN hP) ml_X7_164 (by assumption) dX7_numberOf_18 rfl rfl rfl (by omega) (Nat.le_of_ble_eq_true rfl) (Nat.zero_le _) (Nat.zero_le _) (fun m1 h1 => ?_)
      obtain ⟨N1, F1, c1⟩ := h1
      obtain ⟨P1, wy1, ly1, ck1⟩ := c1 y rem rfl
      have FF : ac_fE mm m1 x := ac_fE_t hf F1
      obtain ⟨l, hl⟩ := Option.isSome_iff_exists.mp hsome
      refine ac_bif_eq (q := 24) (tgt := 40) dX7_numberOf_21 rfl rfl (fun h21 => ?_) (fun h21 => ?_)
      · exact absurd (List.cons_ne_nil y rem) h21
      · refine ac_aload_n (q := 25) dX7_numberOf_24 rfl rfl ?_
        refine ac_aload_n (q := 26) dX7_numberOf_25 rfl rfl ?_
        refine ac_cvp (q := 29) (k_X7_isWay (r := r) (T := T) (y := y) (l := l) (d := d - 1) (by omega) hM9 hr (ac_RP_fE hr rP FF) wy1 ly1 ck1 hl) ml_X7_174 (by assumption) dX7_numberOf_26 rfl rfl rfl (by omega) (Nat.le_of_ble_eq_true rfl) (Nat.zero_le _) (Nat.zero_le _) ?_
        refine ac_bif_eq (q := 32) (tgt := 34) dX7_numberOf_29 rfl rfl (fun h29 => ?_) (fun h29 => ?_)
        · refine ac_iinc (q := 37) dX7_numberOf_34 rfl (Nat.le_of_ble_eq_true rfl) rfl rfl rfl rfl ?_
          simp only [List.set_cons_succ, List.set_cons_zero]
          refine ac_goto (q := 17) dX7_numberOf_37 rfl ?_
          have hdr2 : (done ++ [y]) ++ rem = L := by rw [List.append_assoc, List.singleton_append]; exact hdr
          have hs := ih m1 (done ++ [y]) N1 P1 FF (fun l' hl' hm => by
            rw [hl] at hl'; cases hl'
            rcases List.mem_append.mp hm with hm | hm
            · exact hno l hl hm
            · exact h29 (List.mem_singleton.mp hm).symm) hdr2 hsome
          have hdl : (done ++ [y]).length = done.length + 1 := by rw [List.length_append]; rfl
          rw [hdl] at hs
          exact hs
        · refine ac_iload_n (q := 33) dX7_numberOf_32 rfl rfl ?_
          refine ac_ireturn dX7_numberOf_33 rfl (Nat.zero_le _) (Nat.zero_le _) ?_
          subst h29
          rw [← hdr] at hnd
          have hny : y ∉ rem := (List.nodup_cons.mp (List.nodup_append.mp hnd).2.1).1
          exact ⟨by rw [← hL, ← hdr, hl, ac_rk_yes hny], rfl, FF⟩
  refine ac_met (on := (RX7, "numberOf")) rfl rfl (Nat.le_of_ble_eq_true rfl) (ls := [(2, (x : Int)), (2, (r : Int)), (3, 0)]) rfl ?_
  refine ac_aload_n (q := 1) dX7_numberOf_0 rfl rfl ?_
  refine ac_bipush (q := 3) dX7_numberOf_1 rfl (by decide) ?_
  refine ac_ialoadN (q := 4) (j := 28) (v := ac_b (T.2.2.2.2.isSome = true)) dX7_numberOf_3 kr (by decide) (by decide) rfl p28 ?_
  refine ac_bif_ne (q := 7) (tgt := 10) dX7_numberOf_4 rfl rfl (fun h4 => ?_) (fun h4 => ?_)
  · refine ac_aload_n (q := 11) dX7_numberOf_10 rfl rfl ?_
    refine ac_aload_n (q := 12) dX7_numberOf_11 rfl rfl ?_
    refine ac_cv (q := 15) (k_X7_beginAll (r := r) (T := T) (d := d - 1) (by omega) hM9 hr rP hk) ml_X7_171 (by assumption) dX7_numberOf_12 rfl rfl rfl (by omega) (Nat.le_of_ble_eq_true rfl) (Nat.zero_le _) (Nat.zero_le _) (fun m1 h1 => ?_)
    obtain ⟨N1, P1, F1⟩ := h1
    rw [← hL] at P1
    refine ac_iconst (q := 16) dX7_numberOf_15 rfl ?_
    refine ac_istore_n (q := 17) (j := 2) rfl dX7_numberOf_16 rfl (Nat.le_of_ble_eq_true rfl) rfl rfl ?_
    simp only [List.set_cons_succ, List.set_cons_zero]
    exact loop L m1 [] N1 P1 F1 (fun l hl h => by cases h) rfl h4
  · refine ac_bipush (q := 9) dX7_numberOf_7 rfl (by decide) ?_
    refine ac_ireturn dX7_numberOf_9 rfl (Nat.zero_le _) (Nat.zero_le _) ?_
    have hn : T.2.2.2.2 = none := by cases hc : T.2.2.2.2 with
      | none => rfl
      | some l => rw [hc] at h4; exact absurd rfl h4
    exact ⟨by rw [ac_rk_no (fun l hl => by rw [hn] at hl; cases hl)], rfl, ac_fE_r mm x⟩

set_option maxHeartbeats 8000000 in
theorem k_X7_take1 {G : ac_G} {Y : ac_Y} {mm : ac_M} {d x : Nat} {r : Nat} {T : ac_Tk} {y : List Nat} (hw : ac_wy mm x y) (hy : y.length = T.1) (hyk : ∀ c ∈ y, c < T.2.1) (hd : 1 ≤ d) (hM : ac_isM Y x) (hr : r = x + 3 ∨ r = x + 4) (rP : ac_RP mm r T) : ac_C G yX7_take cX7_take 4 none d 0 0 Y mm [(2, (x : Int)), (2, (r : Int)), (0, 1)] (ac_R Y [] (fun m => ac_RP m r (ac_col T (some y)) ∧ ∀ k', k' ≠ r → m k' = mm k')) := by
  have hM9 := hM
  obtain ⟨kx, k1, k2, k3, k4, k5, k6, k7, k8, k9, k10, k11, k12, k13, k14, k15, k16⟩ := hM.2
  obtain ⟨⟨⟨hn1, hn2⟩, ⟨hk2, hk3⟩, hE, hp0, hpr, hc0⟩, p0, p1, pE, pp, p28, pcb, pcl⟩ := id rP
  have kr : Y.2.1 r = (1, 39) := by rcases hr with e | e <;> rw [e] <;> assumption
  have h2l : 2 ^ T.2.2.1.length ≤ 16 := Nat.pow_le_pow_right (n := 2) (by decide) hE.1
  have hE4 := hE.1
  have loop : ∀ (f i : Nat) (m : ac_M), i + f = 10 → m r 28 = 1 → (∀ j, j < 28 → m r j = mm r j) → (∀ i' : Nat, i' < i → m r (29 + i') = (if i' < T.1 then (y.getD i' 0 : Int) else 0)) → (∀ k', k' ≠ r → m k' = mm k') → ac_V G (RX7, "take") cX7_take 4 none d 0 0 (ac_R Y [] (fun m => ac_RP m r (ac_col T (some y)) ∧ ∀ k', k' ≠ r → m k' = mm k')) 0 0 Y m 15 [(2, (x : Int)), (2, (r : Int)), (0, 1), (0, ((i + 1 : Nat) : Int))] [] := by
    intro f
    induction f with
    | zero =>
      intro i m hi h28 hlow hup hfr
      obtain rfl : i = 10 := by omega
      refine ac_iload_n (q := 16) dX7_take_15 rfl rfl ?_
      refine ac_bipush (q := 18) dX7_take_16 rfl (by decide) ?_
      refine ac_icmp_gt (q := 21) (tgt := 56) dX7_take_18 rfl rfl ⟨by omega, by omega⟩ ⟨by omega, by omega⟩ (fun h18 => ?_) (fun h18 => ?_)
      · refine ac_return dX7_take_56 rfl (Nat.zero_le _) (Nat.zero_le _) ?_
        refine ⟨rfl, rfl, ⟨⟨⟨hn1, hn2⟩, ⟨hk2, hk3⟩, hE, hp0, hpr, fun l hl => by cases hl; exact ⟨hy, hyk⟩⟩, by rw [hlow 0 (by decide)]; exact p0, by rw [hlow 1 (by decide)]; exact p1, fun e q hq => ?_, fun i h1 h2 => by rw [hlow _ (by omega)]; exact pp i h1 h2, h28, fun i hi => ?_, fun l hl i c hc => ?_⟩, hfr⟩
        · have he := (List.getElem?_eq_some_iff.mp hq).1
          have := pE e q hq
          simp only [ac_col] at he
          rw [hlow _ (by omega), hlow _ (by omega), hlow _ (by omega), hlow _ (by omega)]; exact this
        · rw [hup i hi]
          split
          · rename_i hlt
            have hg : y[i]? = some (y.getD i 0) := by rw [List.getD_eq_getElem?_getD, List.getElem?_eq_getElem (by omega)]; rfl
            have := hyk _ (List.mem_of_getElem? hg); omega
          · omega
        · cases hl
          have hlt := (List.getElem?_eq_some_iff.mp hc).1
          rw [hup i (by omega), if_pos (by omega), List.getD_eq_getElem?_getD, hc]; rfl
      · exfalso; omega
    | succ f ih =>
      intro i m hi h28 hlow hup hfr
      have ei : ((i + 1 : Nat) : Int) + 1 = ((i + 1 + 1 : Nat) : Int) := rfl
      have p0m : m r 0 = (T.1 : Int) := by rw [hlow 0 (by decide)]; exact p0
      refine ac_iload_n (q := 16) dX7_take_15 rfl rfl ?_
      refine ac_bipush (q := 18) dX7_take_16 rfl (by decide) ?_
      refine ac_icmp_gt (q := 21) (tgt := 56) dX7_take_18 rfl rfl ⟨by omega, by omega⟩ ⟨by omega, by omega⟩ (fun h18 => ?_) (fun h18 => ?_)
      · exfalso; omega
      · refine ac_aload_n (q := 22) dX7_take_21 rfl rfl ?_
        refine ac_bipush (q := 24) dX7_take_22 rfl (by decide) ?_
        refine ac_iload_n (q := 25) dX7_take_24 rfl rfl ?_
        refine ac_iadd (q := 26) dX7_take_25 rfl ?_
        refine ac_iconst (q := 27) dX7_take_26 rfl ?_
        refine ac_isub (q := 28) dX7_take_27 rfl ?_
        refine ac_top (w' := (0, ((29 + i : Nat) : Int))) (congrArg (fun z : Int => ((0 : Nat), z)) (by omega)) ?_
        refine ac_iload_n (q := 29) dX7_take_28 rfl rfl ?_
        refine ac_if_eq (q := 32) (tgt := 48) dX7_take_29 rfl rfl ⟨by omega, by omega⟩ (fun h29 => ?_) (fun h29 => ?_)
        · exact absurd h29 (by decide)
        · refine ac_iload_n (q := 33) dX7_take_32 rfl rfl ?_
          refine ac_aload_n (q := 34) dX7_take_33 rfl rfl ?_
          refine ac_iconst (q := 35) dX7_take_34 rfl ?_
          refine ac_ialoadN (q := 36) (j := 0) (v := (T.1 : Int)) dX7_take_35 kr (by decide) (by decide) rfl p0m ?_
          refine ac_icmp_gt (q := 39) (tgt := 48) dX7_take_36 rfl rfl ⟨by omega, by omega⟩ ⟨by omega, by omega⟩ (fun h36 => ?_) (fun h36 => ?_)
          · refine ac_iconst (q := 49) dX7_take_48 rfl ?_
            refine ac_iastoreN (q := 50) (j := 29 + i) dX7_take_49 kr (by decide) (by omega) rfl ?_
            refine ac_iinc (q := 53) dX7_take_50 rfl (Nat.le_of_ble_eq_true rfl) rfl rfl rfl rfl ?_
            simp only [List.set_cons_succ, List.set_cons_zero]
            refine ac_goto (q := 15) dX7_take_53 rfl ?_
            first
              | exact ac_ls (by rw [ei]) (ih (i + 1) (ac_up m r (29 + i) ((y.getD i 0 : Nat) : Int)) (by omega) (by rw [ac_up_j (by omega)]; exact h28) (fun j hj => by rw [ac_up_j (by omega)]; exact hlow j hj) (fun i' hi' => by
                  by_cases hii : i' = i
                  · subst hii; rw [ac_up_s]; rw [if_pos (by omega)]
                  · rw [ac_up_j (by omega)]; exact hup i' (by omega)) (fun k' hk' => by rw [← hfr k' hk']; funext j; exact ac_up_k hk'))
              | exact ac_ls (by rw [ei]) (ih (i + 1) (ac_up m r (29 + i) 0) (by omega) (by rw [ac_up_j (by omega)]; exact h28) (fun j hj => by rw [ac_up_j (by omega)]; exact hlow j hj) (fun i' hi' => by
                  by_cases hii : i' = i
                  · subst hii; rw [ac_up_s]; rw [if_neg (by omega)]
                  · rw [ac_up_j (by omega)]; exact hup i' (by omega)) (fun k' hk' => by rw [← hfr k' hk']; funext j; exact ac_up_k hk'))
          · refine ac_aload_n (q := 40) dX7_take_39 rfl rfl ?_
            refine ac_get (q := 43) dX7_take_40 fl_X7_51 (by assumption) rfl (ac_rdr rfl hM9.1.2.2.2.2.2.2.2.2.2.2.2.2.1) ?_
            refine ac_iload_n (q := 44) dX7_take_43 rfl rfl ?_
            refine ac_ialoadN (q := 45) (j := i + 1) (v := ((y.getD i 0 : Nat) : Int)) dX7_take_44 k13 (by decide) (by omega) rfl (by rw [hfr _ (by omega)]; exact hw i _ (by rw [List.getD_eq_getElem?_getD, List.getElem?_eq_getElem (by omega)]; rfl)) ?_
            refine ac_goto (q := 49) dX7_take_45 rfl ?_
            refine ac_iastoreN (q := 50) (j := 29 + i) dX7_take_49 kr (by decide) (by omega) rfl ?_
            refine ac_iinc (q := 53) dX7_take_50 rfl (Nat.le_of_ble_eq_true rfl) rfl rfl rfl rfl ?_
            simp only [List.set_cons_succ, List.set_cons_zero]
            refine ac_goto (q := 15) dX7_take_53 rfl ?_
            first
              | exact ac_ls (by rw [ei]) (ih (i + 1) (ac_up m r (29 + i) ((y.getD i 0 : Nat) : Int)) (by omega) (by rw [ac_up_j (by omega)]; exact h28) (fun j hj => by rw [ac_up_j (by omega)]; exact hlow j hj) (fun i' hi' => by
                  by_cases hii : i' = i
                  · subst hii; rw [ac_up_s]; rw [if_pos (by omega)]
                  · rw [ac_up_j (by omega)]; exact hup i' (by omega)) (fun k' hk' => by rw [← hfr k' hk']; funext j; exact ac_up_k hk'))
              | exact ac_ls (by rw [ei]) (ih (i + 1) (ac_up m r (29 + i) 0) (by omega) (by rw [ac_up_j (by omega)]; exact h28) (fun j hj => by rw [ac_up_j (by omega)]; exact hlow j hj) (fun i' hi' => by
                  by_cases hii : i' = i
                  · subst hii; rw [ac_up_s]; rw [if_neg (by omega)]
                  · rw [ac_up_j (by omega)]; exact hup i' (by omega)) (fun k' hk' => by rw [← hfr k' hk']; funext j; exact ac_up_k hk'))
  refine ac_met (on := (RX7, "take")) rfl rfl (Nat.le_of_ble_eq_true rfl) (ls := [(2, (x : Int)), (2, (r : Int)), (0, 1), (3, 0)]) rfl ?_
  refine ac_aload_n (q := 1) dX7_take_0 rfl rfl ?_
  refine ac_bipush (q := 3) dX7_take_1 rfl (by decide) ?_
  refine ac_iload_n (q := 4) dX7_take_3 rfl rfl ?_
  refine ac_if_eq (q := 7) (tgt := 11) dX7_take_4 rfl rfl ⟨by omega, by omega⟩ (fun h4 => ?_) (fun h4 => ?_)
  · exact absurd h4 (by decide)
  · refine ac_iconst (q := 8) dX7_take_7 rfl ?_
    refine ac_goto (q := 12) dX7_take_8 rfl ?_
    refine ac_iastoreN (q := 13) (j := 28) dX7_take_12 (by assumption) (by decide) (by decide) rfl ?_
    refine ac_iconst (q := 14) dX7_take_13 rfl ?_
    refine ac_istore_n (q := 15) (j := 3) rfl dX7_take_14 rfl (Nat.le_of_ble_eq_true rfl) rfl rfl ?_
    simp only [List.set_cons_succ, List.set_cons_zero]
    exact loop 10 0 _ rfl ac_up_s (fun j hj => ac_up_j (by omega)) (fun i' h => absurd h (Nat.not_lt_zero _)) (fun k' hk' => by funext j; exact ac_up_k hk')

set_option maxHeartbeats 8000000 in
theorem k_X7_take0 {G : ac_G} {Y : ac_Y} {mm : ac_M} {d x : Nat} {r : Nat} {T : ac_Tk} (hd : 1 ≤ d) (hM : ac_isM Y x) (hr : r = x + 3 ∨ r = x + 4) (rP : ac_RP mm r T) : ac_C G yX7_take cX7_take 4 none d 0 0 Y mm [(2, (x : Int)), (2, (r : Int)), (0, 0)] (ac_R Y [] (fun m => ac_RP m r (ac_col T none) ∧ ∀ k', k' ≠ r → m k' = mm k')) := by
  have hM9 := hM
  obtain ⟨kx, k1, k2, k3, k4, k5, k6, k7, k8, k9, k10, k11, k12, k13, k14, k15, k16⟩ := hM.2
  obtain ⟨⟨⟨hn1, hn2⟩, ⟨hk2, hk3⟩, hE, hp0, hpr, hc0⟩, p0, p1, pE, pp, p28, pcb, pcl⟩ := id rP
  have kr : Y.2.1 r = (1, 39) := by rcases hr with e | e <;> rw [e] <;> assumption
  have h2l : 2 ^ T.2.2.1.length ≤ 16 := Nat.pow_le_pow_right (n := 2) (by decide) hE.1
  have hE4 := hE.1
  have loop : ∀ (f i : Nat) (m : ac_M), i + f = 10 → m r 28 = 0 → (∀ j, j < 28 → m r j = mm r j) → (∀ i' : Nat, i' < i → m r (29 + i') = 0) → (∀ k', k' ≠ r → m k' = mm k') → ac_V G (RX7, "take") cX7_take 4 none d 0 0 (ac_R Y [] (fun m => ac_RP m r (ac_col T none) ∧ ∀ k', k' ≠ r → m k' = mm k')) 0 0 Y m 15 [(2, (x : Int)), (2, (r : Int)), (0, 0), (0, ((i + 1 : Nat) : Int))] [] := by
    intro f
    induction f with
    | zero =>
      intro i m hi h28 hlow hup hfr
      obtain rfl : i = 10 := by omega
      refine ac_iload_n (q := 16) dX7_take_15 rfl rfl ?_
      refine ac_bipush (q := 18) dX7_take_16 rfl (by decide) ?_
      refine ac_icmp_gt (q := 21) (tgt := 56) dX7_take_18 rfl rfl ⟨by omega, by omega⟩ ⟨by omega, by omega⟩ (fun h18 => ?_) (fun h18 => ?_)
      · refine ac_return dX7_take_56 rfl (Nat.zero_le _) (Nat.zero_le _) ?_
        refine ⟨rfl, rfl, ⟨⟨⟨hn1, hn2⟩, ⟨hk2, hk3⟩, hE, hp0, hpr, fun l hl => by cases hl⟩, by rw [hlow 0 (by decide)]; exact p0, by rw [hlow 1 (by decide)]; exact p1, fun e q hq => ?_, fun i h1 h2 => by rw [hlow _ (by omega)]; exact pp i h1 h2, h28, fun i hi => by rw [hup i hi]; omega, fun l hl => by cases hl⟩, hfr⟩
        have he := (List.getElem?_eq_some_iff.mp hq).1
        have := pE e q hq
        simp only [ac_col] at he
        rw [hlow _ (by omega), hlow _ (by omega), hlow _ (by omega), hlow _ (by omega)]; exact this
      · exfalso; omega
    | succ f ih =>
      intro i m hi h28 hlow hup hfr
      have ei : ((i + 1 : Nat) : Int) + 1 = ((i + 1 + 1 : Nat) : Int) := rfl
      have p0m : m r 0 = (T.1 : Int) := by rw [hlow 0 (by decide)]; exact p0
      refine ac_iload_n (q := 16) dX7_take_15 rfl rfl ?_
      refine ac_bipush (q := 18) dX7_take_16 rfl (by decide) ?_
      refine ac_icmp_gt (q := 21) (tgt := 56) dX7_take_18 rfl rfl ⟨by omega, by omega⟩ ⟨by omega, by omega⟩ (fun h18 => ?_) (fun h18 => ?_)
      · exfalso; omega
      · refine ac_aload_n (q := 22) dX7_take_21 rfl rfl ?_
        refine ac_bipush (q := 24) dX7_take_22 rfl (by decide) ?_
        refine ac_iload_n (q := 25) dX7_take_24 rfl rfl ?_
        refine ac_iadd (q := 26) dX7_take_25 rfl ?_
        refine ac_iconst (q := 27) dX7_take_26 rfl ?_
        refine ac_isub (q := 28) dX7_take_27 rfl ?_
        refine ac_top (w' := (0, ((29 + i : Nat) : Int))) (congrArg (fun z : Int => ((0 : Nat), z)) (by omega)) ?_
        refine ac_iload_n (q := 29) dX7_take_28 rfl rfl ?_
        refine ac_if_eq (q := 32) (tgt := 48) dX7_take_29 rfl rfl ⟨by omega, by omega⟩ (fun h29 => ?_) (fun h29 => ?_)
        · refine ac_iconst (q := 49) dX7_take_48 rfl ?_
          refine ac_iastoreN (q := 50) (j := 29 + i) dX7_take_49 kr (by decide) (by omega) rfl ?_
          refine ac_iinc (q := 53) dX7_take_50 rfl (Nat.le_of_ble_eq_true rfl) rfl rfl rfl rfl ?_
          simp only [List.set_cons_succ, List.set_cons_zero]
          refine ac_goto (q := 15) dX7_take_53 rfl ?_
          exact ac_ls (by rw [ei]) (ih (i + 1) (ac_up m r (29 + i) 0) (by omega) (by rw [ac_up_j (by omega)]; exact h28) (fun j hj => by rw [ac_up_j (by omega)]; exact hlow j hj) (fun i' hi' => by
            by_cases hii : i' = i
            · subst hii; exact ac_up_s
            · rw [ac_up_j (by omega)]; exact hup i' (by omega)) (fun k' hk' => by rw [← hfr k' hk']; funext j; exact ac_up_k hk'))
        · exact absurd h29 (by decide)
  refine ac_met (on := (RX7, "take")) rfl rfl (Nat.le_of_ble_eq_true rfl) (ls := [(2, (x : Int)), (2, (r : Int)), (0, 0), (3, 0)]) rfl ?_
  refine ac_aload_n (q := 1) dX7_take_0 rfl rfl ?_
  refine ac_bipush (q := 3) dX7_take_1 rfl (by decide) ?_
  refine ac_iload_n (q := 4) dX7_take_3 rfl rfl ?_
  refine ac_if_eq (q := 7) (tgt := 11) dX7_take_4 rfl rfl ⟨by omega, by omega⟩ (fun h4 => ?_) (fun h4 => ?_)
  · refine ac_iconst (q := 12) dX7_take_11 rfl ?_
    refine ac_iastoreN (q := 13) (j := 28) dX7_take_12 (by assumption) (by decide) (by decide) rfl ?_
    refine ac_iconst (q := 14) dX7_take_13 rfl ?_
    refine ac_istore_n (q := 15) (j := 3) rfl dX7_take_14 rfl (Nat.le_of_ble_eq_true rfl) rfl rfl ?_
    simp only [List.set_cons_succ, List.set_cons_zero]
    exact loop 10 0 _ rfl ac_up_s (fun j hj => ac_up_j (by omega)) (fun i' h => absurd h (Nat.not_lt_zero _)) (fun k' hk' => by funext j; exact ac_up_k hk')
  · exact absurd h4 (by decide)

set_option maxHeartbeats 8000000 in
theorem k_X7_settleOn {G : ac_G} {Y : ac_Y} {mm : ac_M} {d x : Nat} {r : Nat} {T : ac_Tk} (hd : 8 ≤ d) (hM : ac_isM Y x) (hr : r = x + 3 ∨ r = x + 4) (rP : ac_RP mm r T) (hk : mm x 4 = (T.2.1 : Int))  : ac_C G yX7_settleOn cX7_settleOn 2 none d 0 0 Y mm [(2, (x : Int)), (2, (r : Int))] (ac_R Y [] (fun m => ac_RP m r (ac_stl T) ∧ ac_fEr mm m x r)) := by
  have hM9 := hM
  obtain ⟨kx, k1, k2, k3, k4, k5, k6, k7, k8, k9, k10, k11, k12, k13, k14, k15, k16⟩ := hM.2
  obtain ⟨⟨⟨hn1, hn2⟩, ⟨hk2, hk3⟩, hE, hp0, hpr, hc0⟩, p0, p1, pE, pp, p28, pcb, pcl⟩ := id rP
  have kr : Y.2.1 r = (1, 39) := by rcases hr with e | e <;> rw [e] <;> assumption
  have h2l : 2 ^ T.2.2.1.length ≤ 16 := Nat.pow_le_pow_right (n := 2) (by decide) hE.1
  have hE4 := hE.1
  have hrk := ac_rk_in (col := T.2.2.2.2) (ac_Lt_nodup T)
  have hLn := ac_Lt_len T hn2
  refine ac_met (on := (RX7, "settleOn")) rfl rfl (Nat.le_of_ble_eq_true rfl) (ls := [(2, (x : Int)), (2, (r : Int))]) rfl ?_
  refine ac_aload_n (q := 1) dX7_settleOn_0 rfl rfl ?_
  refine ac_aload_n (q := 2) dX7_settleOn_1 rfl rfl ?_
  refine ac_cv (q := 5) (k_X7_numberOf (r := r) (T := T) (d := d - 1) (by omega) hM9 hr rP hk) ml_X7_178 (by assumption) dX7_settleOn_2 rfl rfl rfl (by omega) (Nat.le_of_ble_eq_true rfl) (Nat.zero_le _) (Nat.zero_le _) (fun m1 h1 => ?_)
  refine ac_bipush (q := 7) dX7_settleOn_5 rfl (by decide) ?_
  refine ac_icmp_ne (q := 10) (tgt := 24) dX7_settleOn_7 rfl rfl ⟨by omega, by omega⟩ ⟨by omega, by omega⟩ (fun h7 => ?_) (fun h7 => ?_)
  · refine ac_return dX7_settleOn_24 rfl (Nat.zero_le _) (Nat.zero_le _) ?_
    have hst : ac_stl T = T := by unfold ac_stl; rw [if_neg h7]
    rw [hst]; exact ⟨rfl, rfl, ac_RP_fE hr rP h1, ac_fE_fEr h1⟩
  · refine ac_aload_n (q := 11) dX7_settleOn_10 rfl rfl ?_
    refine ac_aload_n (q := 12) dX7_settleOn_11 rfl rfl ?_
    refine ac_cv (q := 15) (k_X7_beginAll (r := r) (T := T) (d := d - 1) (by omega) hM9 hr (ac_RP_fE hr rP h1) (by rw [h1.2 4 (by omega)]; exact hk)) ml_X7_171 (by assumption) dX7_settleOn_12 rfl rfl rfl (by omega) (Nat.le_of_ble_eq_true rfl) (Nat.zero_le _) (Nat.zero_le _) (fun m2 h2 => ?_)
    obtain ⟨N2, P2, F2⟩ := h2
    refine ac_aload_n (q := 16) dX7_settleOn_15 rfl rfl ?_
    refine ac_aload_n (q := 17) dX7_settleOn_16 rfl rfl ?_
    refine ac_aload_n (q := 18) dX7_settleOn_17 rfl rfl ?_
    refine ac_cv (q := 21) (k_X7_more (d := d - 1) (by omega) hM9 N2 P2) ml_X7_164 (by assumption) dX7_settleOn_18 rfl rfl rfl (by omega) (Nat.le_of_ble_eq_true rfl) (Nat.zero_le _) (Nat.zero_le _) (fun m3 h3 => ?_)
    obtain ⟨N3, F3, c3⟩ := h3
    have FF : ac_fE mm m3 x := ac_fE_t (ac_fE_t h1 F2) F3
    have RP3 := ac_RP_fE hr rP FF
    have hst := ac_stl_col h7
    rw [hst]
    cases hL : ac_Lt T with
    | nil =>
      rw [hL] at c3
      rw [ac_b0 (fun q => q rfl)]
      refine ac_cv (q := 24) (k_X7_take0 (r := r) (T := T) (d := d - 1) (by omega) hM9 hr RP3) ml_X7_181 (by assumption) dX7_settleOn_21 rfl rfl rfl (by omega) (Nat.le_of_ble_eq_true rfl) (Nat.zero_le _) (Nat.zero_le _) (fun m4 h4 => ?_)
      obtain ⟨g4, f4⟩ := h4
      refine ac_return dX7_settleOn_24 rfl (Nat.zero_le _) (Nat.zero_le _) ?_
      exact ⟨rfl, rfl, g4, fun k' a b c => by rw [f4 k' b, FF.1 k' a c], fun j hj => by rw [f4 x (by omega), FF.2 j hj]⟩
    | cons y rem =>
      obtain ⟨-, wy, ly, ck⟩ := c3 y rem hL
      rw [ac_b1 (List.cons_ne_nil y rem)]
      refine ac_cv (q := 24) (k_X7_take1 (r := r) (T := T) (y := y) wy ly ck (d := d - 1) (by omega) hM9 hr RP3) ml_X7_181 (by assumption) dX7_settleOn_21 rfl rfl rfl (by omega) (Nat.le_of_ble_eq_true rfl) (Nat.zero_le _) (Nat.zero_le _) (fun m4 h4 => ?_)
      obtain ⟨g4, f4⟩ := h4
      refine ac_return dX7_settleOn_24 rfl (Nat.zero_le _) (Nat.zero_le _) ?_
      exact ⟨rfl, rfl, g4, fun k' a b c => by rw [f4 k' b, FF.1 k' a c], fun j hj => by rw [f4 x (by omega), FF.2 j hj]⟩

set_option maxHeartbeats 8000000 in
theorem k_X7_mayBe {G : ac_G} {Y : ac_Y} {mm : ac_M} {d x : Nat} {r : Nat} {T : ac_Tk} {a : Nat} (hd : 7 ≤ d) (hM : ac_isM Y x) (hr : r = x + 3 ∨ r = x + 4) (rP : ac_RP mm r T) (hk : mm x 4 = (T.2.1 : Int)) (ha : 1 ≤ a ∧ a ≤ T.1) : ac_C G yX7_mayBe cX7_mayBe 4 (some .int) d 0 0 Y mm [(2, (x : Int)), (2, (r : Int)), (0, (a : Int))] (ac_R Y [(0, ((ac_cb (ac_Lt T) a : Nat) : Int))] (fun m => ac_fE mm m x)) := by
  have hM9 := hM
  obtain ⟨kx, k1, k2, k3, k4, k5, k6, k7, k8, k9, k10, k11, k12, k13, k14, k15, k16⟩ := hM.2
  obtain ⟨⟨⟨hn1, hn2⟩, ⟨hk2, hk3⟩, hE, hp0, hpr, hc0⟩, p0, p1, pE, pp, p28, pcb, pcl⟩ := id rP
  have kr : Y.2.1 r = (1, 39) := by rcases hr with e | e <;> rw [e] <;> assumption
  have h2l : 2 ^ T.2.2.1.length ≤ 16 := Nat.pow_le_pow_right (n := 2) (by decide) hE.1
  have hE4 := hE.1
  obtain ⟨ha1, ha2⟩ := ha
  obtain ⟨L, hL⟩ : ∃ L, L = ac_Lt T := ⟨_, rfl⟩
  have loop : ∀ (rem : List (List Nat)) (m : ac_M) (done : List (List Nat)), ac_EN m x (2 ^ T.2.2.1.length - 1) T.2.1 T.1 T.2.2.1 T.2.2.2.1 → ac_PO m x (2 ^ T.2.2.1.length - 1) T.2.1 T.1 T.2.2.1 T.2.2.2.1 rem → ac_fE mm m x → done ++ rem = L → ac_V G (RX7, "mayBe") cX7_mayBe 4 (some .int) d 0 0 (ac_R Y [(0, ((ac_cb (ac_Lt T) a : Nat) : Int))] (fun m => ac_fE mm m x)) 0 0 Y m 7 [(2, (x : Int)), (2, (r : Int)), (0, (a : Int)), (0, ((ac_cb done a : Nat) : Int))] [] := by
    intro rem
    induction rem with
    | nil =>
      intro m done hN hP hf hdr
      refine ac_aload_n (q := 8) dX7_mayBe_7 rfl rfl ?_
      refine ac_cv (q := 11) (k_X7_more (d := d - 1) (by omega) hM9 hN hP) ml_X7_164 (by assumption) dX7_mayBe_8 rfl rfl rfl (by omega) (Nat.le_of_ble_eq_true rfl) (Nat.zero_le _) (Nat.zero_le _) (fun m1 h1 => ?_)
      obtain ⟨N1, F1, c1⟩ := h1
      refine ac_bif_eq (q := 14) (tgt := 28) dX7_mayBe_11 rfl rfl (fun h11 => ?_) (fun h11 => ?_)
      · refine ac_iload_n (q := 29) dX7_mayBe_28 rfl rfl ?_
        refine ac_ireturn dX7_mayBe_29 rfl (Nat.zero_le _) (Nat.zero_le _) ?_
        exact ⟨by rw [← hL, ← hdr, List.append_nil], rfl, ac_fE_t hf F1⟩
      · exact absurd rfl h11
    | cons y rem ih =>
      intro m done hN hP hf hdr
      refine ac_aload_n (q := 8) dX7_mayBe_7 rfl rfl ?_
      refine ac_cv (q := 11) (k_X7_more (d := d - 1) (by omega) hM9 hN hP) ml_X7_164 (by assumption) dX7_mayBe_8 rfl rfl rfl (by omega) (Nat.le_of_ble_eq_true rfl) (Nat.zero_le _) (Nat.zero_le _) (fun m1 h1 => ?_)
      obtain ⟨N1, F1, c1⟩ := h1
      obtain ⟨P1, wy1, ly1, ck1⟩ := c1 y rem rfl
      have FF : ac_fE mm m1 x := ac_fE_t hf F1
      obtain ⟨z, hz⟩ : ∃ z, y[a - 1]? = some z := ⟨_, List.getElem?_eq_getElem (by omega)⟩
      have hzk := ck1 z (List.mem_of_getElem? hz)
      refine ac_bif_eq (q := 14) (tgt := 28) dX7_mayBe_11 rfl rfl (fun h11 => ?_) (fun h11 => ?_)
      · exact absurd (List.cons_ne_nil y rem) h11
      · refine ac_iload_n (q := 15) dX7_mayBe_14 rfl rfl ?_
        refine ac_iconst (q := 16) dX7_mayBe_15 rfl ?_
        refine ac_aload_n (q := 17) dX7_mayBe_16 rfl rfl ?_
        refine ac_get (q := 20) dX7_mayBe_17 fl_X7_51 (by assumption) rfl (ac_rdr rfl hM9.1.2.2.2.2.2.2.2.2.2.2.2.2.1) ?_
        refine ac_iload_n (q := 21) dX7_mayBe_20 rfl rfl ?_
        refine ac_ialoadN (q := 22) (j := a) (v := (z : Int)) dX7_mayBe_21 k13 (by decide) (by omega) rfl (by have := wy1 (a - 1) z hz; rw [show a - 1 + 1 = a by omega] at this; exact this) ?_
        refine ac_ishl1 (q := 23) (k := z) dX7_mayBe_22 rfl (by omega) ?_
        refine ac_ior (q := 24) dX7_mayBe_23 rfl ?_
        refine ac_istore_n (q := 25) (j := 3) rfl dX7_mayBe_24 rfl (Nat.le_of_ble_eq_true rfl) rfl rfl ?_
        simp only [List.set_cons_succ, List.set_cons_zero]
        refine ac_goto (q := 7) dX7_mayBe_25 rfl ?_
        have hs := ih m1 (done ++ [y]) N1 P1 FF (by rw [List.append_assoc, List.singleton_append]; exact hdr)
        rw [ac_cb_app, show ac_cb [y] a = 2 ^ z by rw [ac_cb, hz, ac_cb]; exact Nat.or_zero _] at hs
        exact hs
  refine ac_met (on := (RX7, "mayBe")) rfl rfl (Nat.le_of_ble_eq_true rfl) (ls := [(2, (x : Int)), (2, (r : Int)), (0, (a : Int)), (3, 0)]) rfl ?_
  refine ac_iconst (q := 1) dX7_mayBe_0 rfl ?_
  refine ac_istore_n (q := 2) (j := 3) rfl dX7_mayBe_1 rfl (Nat.le_of_ble_eq_true rfl) rfl rfl ?_
  simp only [List.set_cons_succ, List.set_cons_zero]
  refine ac_aload_n (q := 3) dX7_mayBe_2 rfl rfl ?_
  refine ac_aload_n (q := 4) dX7_mayBe_3 rfl rfl ?_
  refine ac_cv (q := 7) (k_X7_beginAll (r := r) (T := T) (d := d - 1) (by omega) hM9 hr rP hk) ml_X7_171 (by assumption) dX7_mayBe_4 rfl rfl rfl (by omega) (Nat.le_of_ble_eq_true rfl) (Nat.zero_le _) (Nat.zero_le _) (fun m1 h1 => ?_)
  obtain ⟨N1, P1, F1⟩ := h1
  rw [← hL] at P1
  exact loop L m1 [] N1 P1 F1 rfl
