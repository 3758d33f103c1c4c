/-! the law's loop and its body -/
set_option maxHeartbeats 16000000 in
theorem L_loop {G : ac_G} {Y : ac_Y} {nm : String} {d MC MS ck cn : Nat} (hd : 31 ≤ d) (hck : ck ≤ MC) (hcn : cn ≤ MS) (hA : ac_isA Y 1) (hM : ac_isM Y 105) (hL : G.2.2.2.2.2.2.1 < 2147483648) (hxs : ∀ j, ac_in (G.2.2.2.2.2.2.2 j)) : ∀ (r i : Nat) (m : ac_M), G.2.2.2.2.2.2.1 < i + r → i < 2147483000 → G.2.2.2.2.2.2.1 < 2147480000 → ac_iv m → ac_V G (RL, nm) cL_law 4 (some .boolean) d MC MS (fun r _ _ => r = [(0, 1)]) ck cn Y m 18 [(4, (G.2.2.2.2.2.1 : Int)), (2, ((1 : Nat) : Int)), (2, ((105 : Nat) : Int)), (0, (i : Int))] [] := by
  intro r
  induction r with
  | zero =>
    intro i m hr hi hl hv
    refine ac_iload_n (q := 19) dL_law_18 rfl rfl ?_
    refine ac_aload_a (q := 20) dL_law_19 rfl rfl ?_
    refine ac_script_len (q := 21) dL_law_20 rfl ?_
    refine ac_iconst (q := 22) dL_law_21 rfl ?_
    refine ac_isub (q := 23) dL_law_22 rfl ?_
    refine ac_icmp_gt (q := 26) (tgt := 979) dL_law_23 rfl rfl ⟨by omega, by omega⟩ ⟨by omega, by omega⟩ (fun h23 => ?_) (fun h23 => ?_)
    · refine ac_iconst (q := 980) dL_law_979 rfl ?_
      exact ac_zreturn dL_law_980 rfl (Or.inr rfl) hck hcn rfl
    · exfalso; omega
  | succ r ih =>
    intro i m hr hi hl hv
    refine ac_iload_n (q := 19) dL_law_18 rfl rfl ?_
    refine ac_aload_a (q := 20) dL_law_19 rfl rfl ?_
    refine ac_script_len (q := 21) dL_law_20 rfl ?_
    refine ac_iconst (q := 22) dL_law_21 rfl ?_
    refine ac_isub (q := 23) dL_law_22 rfl ?_
    refine ac_icmp_gt (q := 26) (tgt := 979) dL_law_23 rfl rfl ⟨by omega, by omega⟩ ⟨by omega, by omega⟩ (fun h23 => ?_) (fun h23 => ?_)
    · refine ac_iconst (q := 980) dL_law_979 rfl ?_
      exact ac_zreturn dL_law_980 rfl (Or.inr rfl) hck hcn rfl
    · have hi5 : i + 5 ≤ G.2.2.2.2.2.2.1 := by omega
      have next : ∀ m', ac_iv m' → ac_V G (RL, nm) cL_law 4 (some .boolean) d MC MS (fun r _ _ => r = [(0, 1)]) ck cn Y m' 973 [(4, (G.2.2.2.2.2.1 : Int)), (2, ((1 : Nat) : Int)), (2, ((105 : Nat) : Int)), (0, (i : Int))] [] := by
        intro m' hv'
        refine ac_iinc (q := 976) (v := ((i + 5 : Nat) : Int)) dL_law_973 rfl (Nat.le_of_ble_eq_true rfl) rfl rfl rfl rfl ?_
        simp only [List.set_cons_succ, List.set_cons_zero]
        refine ac_goto (q := 18) dL_law_976 rfl ?_
        exact ih (i + 5) m' (by omega) (by omega) hl hv'
      refine ac_aload_a (q := 27) dL_law_26 rfl rfl ?_
      refine ac_iload_n (q := 28) dL_law_27 rfl rfl ?_
      refine ac_script (q := 29) (j := i) (v := G.2.2.2.2.2.2.2 i) dL_law_28 hL (by omega) rfl rfl ?_
      refine ac_bipush (q := 31) dL_law_29 rfl (by decide) ?_
      refine ac_iand31 (q := 32) dL_law_31 rfl (fun v hv2 => ?_)
      by_cases hsw : v < 0 ∨ 27 < v
      · exact ac_tabOut (tgt := 973) dL_law_32 ⟨by omega, by omega⟩ hsw rfl (next m hv)
      · rcases (show v = 0 ∨ v = 1 ∨ v = 2 ∨ v = 3 ∨ v = 4 ∨ v = 5 ∨ v = 6 ∨ v = 7 ∨ v = 8 ∨ v = 9 ∨ v = 10 ∨ v = 11 ∨ v = 12 ∨ v = 13 ∨ v = 14 ∨ v = 15 ∨ v = 16 ∨ v = 17 ∨ v = 18 ∨ v = 19 ∨ v = 20 ∨ v = 21 ∨ v = 22 ∨ v = 23 ∨ v = 24 ∨ v = 25 ∨ v = 26 ∨ v = 27 by omega) with rfl | rfl | rfl | rfl | rfl | rfl | rfl | rfl | rfl | rfl | rfl | rfl | rfl | rfl | rfl | rfl | rfl | rfl | rfl | rfl | rfl | rfl | rfl | rfl | rfl | rfl | rfl | rfl
        · exact ac_tabIn (off := 128) (tgt := 160) dL_law_32 ⟨by decide, by decide⟩ (by decide) (by decide) rfl rfl (L_write hd hck hcn hA hM hL hxs hi5 hv next)
        · exact ac_tabIn (off := 151) (tgt := 183) dL_law_32 ⟨by decide, by decide⟩ (by decide) (by decide) rfl rfl (L_wipe hd hck hcn hA hM hL hxs hi5 hv next)
        · exact ac_tabIn (off := 164) (tgt := 196) dL_law_32 ⟨by decide, by decide⟩ (by decide) (by decide) rfl rfl (L_fault hd hck hcn hA hM hL hxs hi5 hv next)
        · exact ac_tabIn (off := 177) (tgt := 209) dL_law_32 ⟨by decide, by decide⟩ (by decide) (by decide) rfl rfl (L_task hd hck hcn hA hM hL hxs hi5 hv next)
        · exact ac_tabIn (off := 190) (tgt := 222) dL_law_32 ⟨by decide, by decide⟩ (by decide) (by decide) rfl rfl (L_equation hd hck hcn hA hM hL hxs hi5 hv next)
        · exact ac_tabIn (off := 223) (tgt := 255) dL_law_32 ⟨by decide, by decide⟩ (by decide) (by decide) rfl rfl (L_solution hd hck hcn hA hM hL hxs hi5 hv next)
        · exact ac_tabIn (off := 256) (tgt := 288) dL_law_32 ⟨by decide, by decide⟩ (by decide) (by decide) rfl rfl (L_number hd hck hcn hA hM hL hxs hi5 hv next)
        · exact ac_tabIn (off := 289) (tgt := 321) dL_law_32 ⟨by decide, by decide⟩ (by decide) (by decide) rfl rfl (L_go hd hck hcn hA hM hL hxs hi5 hv next)
        · exact ac_tabIn (off := 312) (tgt := 344) dL_law_32 ⟨by decide, by decide⟩ (by decide) (by decide) rfl rfl (L_paint hd hck hcn hA hM hL hxs hi5 hv next)
        · exact ac_tabIn (off := 345) (tgt := 377) dL_law_32 ⟨by decide, by decide⟩ (by decide) (by decide) rfl rfl (L_reach hd hck hcn hA hM hL hxs hi5 hv next)
        · exact ac_tabIn (off := 368) (tgt := 400) dL_law_32 ⟨by decide, by decide⟩ (by decide) (by decide) rfl rfl (L_add hd hck hcn hA hM hL hxs hi5 hv next)
        · exact ac_tabIn (off := 421) (tgt := 453) dL_law_32 ⟨by decide, by decide⟩ (by decide) (by decide) rfl rfl (L_drop hd hck hcn hA hM hL hxs hi5 hv next)
        · exact ac_tabIn (off := 434) (tgt := 466) dL_law_32 ⟨by decide, by decide⟩ (by decide) (by decide) rfl rfl (L_pin hd hck hcn hA hM hL hxs hi5 hv next)
        · exact ac_tabIn (off := 467) (tgt := 499) dL_law_32 ⟨by decide, by decide⟩ (by decide) (by decide) rfl rfl (L_undo hd hck hcn hA hM hL hxs hi5 hv next)
        · exact ac_tabIn (off := 480) (tgt := 512) dL_law_32 ⟨by decide, by decide⟩ (by decide) (by decide) rfl rfl (L_ask hd hck hcn hA hM hL hxs hi5 hv next)
        · exact ac_tabIn (off := 503) (tgt := 535) dL_law_32 ⟨by decide, by decide⟩ (by decide) (by decide) rfl rfl (L_on hd hck hcn hA hM hL hxs hi5 hv next)
        · exact ac_tabIn (off := 516) (tgt := 548) dL_law_32 ⟨by decide, by decide⟩ (by decide) (by decide) rfl rfl (L_judge hd hck hcn hA hM hL hxs hi5 hv next)
        · exact ac_tabIn (off := 579) (tgt := 611) dL_law_32 ⟨by decide, by decide⟩ (by decide) (by decide) rfl rfl (L_see hd hck hcn hA hM hL hxs hi5 hv next)
        · exact ac_tabIn (off := 622) (tgt := 654) dL_law_32 ⟨by decide, by decide⟩ (by decide) (by decide) rfl rfl (L_unsee hd hck hcn hA hM hL hxs hi5 hv next)
        · exact ac_tabIn (off := 635) (tgt := 667) dL_law_32 ⟨by decide, by decide⟩ (by decide) (by decide) rfl rfl (L_which hd hck hcn hA hM hL hxs hi5 hv next)
        · exact ac_tabIn (off := 658) (tgt := 690) dL_law_32 ⟨by decide, by decide⟩ (by decide) (by decide) rfl rfl (L_share hd hck hcn hA hM hL hxs hi5 hv next)
        · exact ac_tabIn (off := 707) (tgt := 739) dL_law_32 ⟨by decide, by decide⟩ (by decide) (by decide) rfl rfl (L_luck hd hck hcn hA hM hL hxs hi5 hv next)
        · exact ac_tabIn (off := 746) (tgt := 778) dL_law_32 ⟨by decide, by decide⟩ (by decide) (by decide) rfl rfl (L_lost hd hck hcn hA hM hL hxs hi5 hv next)
        · exact ac_tabIn (off := 795) (tgt := 827) dL_law_32 ⟨by decide, by decide⟩ (by decide) (by decide) rfl rfl (L_seed hd hck hcn hA hM hL hxs hi5 hv next)
        · exact ac_tabIn (off := 849) (tgt := 881) dL_law_32 ⟨by decide, by decide⟩ (by decide) (by decide) rfl rfl (L_drawn hd hck hcn hA hM hL hxs hi5 hv next)
        · exact ac_tabIn (off := 872) (tgt := 904) dL_law_32 ⟨by decide, by decide⟩ (by decide) (by decide) rfl rfl (L_keep hd hck hcn hA hM hL hxs hi5 hv next)
        · exact ac_tabIn (off := 895) (tgt := 927) dL_law_32 ⟨by decide, by decide⟩ (by decide) (by decide) rfl rfl (L_again hd hck hcn hA hM hL hxs hi5 hv next)
        · exact ac_tabIn (off := 918) (tgt := 950) dL_law_32 ⟨by decide, by decide⟩ (by decide) (by decide) rfl rfl (L_count hd hck hcn hA hM hL hxs hi5 hv next)

def ac_Y0 : ac_Y := (0, fun _ => (9, 0), fun _ _ => 0)
def ac_m0 : ac_M := fun _ _ => 0
set_option maxHeartbeats 16000000 in
theorem L_body {G : ac_G} {nm : String} {d MC MS : Nat} (hd : 31 ≤ d) (hck : 121 ≤ MC) (hcn : 63354 ≤ MS) (hxs : ∀ j, ac_in (G.2.2.2.2.2.2.2 j)) (hl : G.2.2.2.2.2.2.1 ≤ 2560) : ac_V G (RL, nm) cL_law 4 (some .boolean) d MC MS (fun r _ _ => r = [(0, 1)]) 0 0 ac_Y0 ac_m0 0 [(4, (G.2.2.2.2.2.1 : Int)), (3, 0), (3, 0), (3, 0)] [] := by
  refine ac_new (q := 3) (ci := 6) dL_law_0 nl_L_7 rfl (by omega) (by show 0 + 9 ≤ MS; omega) ?_
  refine ac_dup (q := 4) dL_law_3 rfl (show (2 : Nat) ≠ 1 by decide) ?_
  refine ac_invokespecial (q := 7) (k := 1) (as := []) (rest := [(2, ((1 : Nat) : Int))]) (k_X6_init (z := 1) (d := d - 1) (by omega) (by decide) (ac_nY ac_Y0 (0, 6)) (ac_nM ac_Y0 ac_m0) rfl rfl (by funext j; exact if_pos rfl)) ml_L_9 (by decide) dL_law_4 rfl rfl rfl (by omega) (by decide) (by omega) (by show 0 + 9 + 3009 ≤ MS; omega) (fun r Y' m' h => h.2.1) (fun r Y1 m1 h => ?_)
  obtain ⟨rfl, e1, hA, rA⟩ := h
  refine ac_astore_n (q := 8) (j := 1) rfl dL_law_7 rfl (Nat.le_of_ble_eq_true rfl) rfl rfl ?_
  simp only [List.set_cons_succ, List.set_cons_zero]
  refine ac_new (q := 11) (ci := 7) dL_law_8 nl_L_10 rfl (by omega) (by show 0 + 9 + 3009 + 28 ≤ MS; omega) ?_
  rw [e1]
  refine ac_dup (q := 12) dL_law_11 rfl (show (2 : Nat) ≠ 1 by decide) ?_
  refine ac_invokespecial (q := 15) (k := 105) (as := []) (rest := [(2, ((105 : Nat) : Int))]) (k_X7_init (z := 105) (d := d - 1) (by omega) (by decide) (ac_nY Y1 (0, 7)) (ac_nM Y1 m1) (by show Y1.1 + 1 = 105; omega) (if_pos (by omega)) (by funext j; exact if_pos (by omega))) ml_L_12 (by decide) dL_law_12 rfl rfl rfl (by omega) (by decide) (by omega) (by show 0 + 9 + 3009 + 28 + 60308 ≤ MS; omega) (fun r Y' m' h => h.2.1.trans (by show 105 + 16 = Y1.1 + 1 + 16; omega)) (fun r Y2 m2 h => ?_)
  obtain ⟨rfl, e2, hM, rM, fr⟩ := h
  refine ac_astore_n (q := 16) (j := 2) rfl dL_law_15 rfl (Nat.le_of_ble_eq_true rfl) rfl rfl ?_
  simp only [List.set_cons_succ, List.set_cons_zero]
  refine ac_iconst (q := 17) dL_law_16 rfl ?_
  refine ac_istore_n (q := 18) (j := 3) rfl dL_law_17 rfl (Nat.le_of_ble_eq_true rfl) rfl rfl ?_
  simp only [List.set_cons_succ, List.set_cons_zero]
  have hA2 : ac_isA Y2 1 := ac_isA_e hA (fun k a b => ⟨(fr k (by omega)).1.trans (if_neg (by omega)), (fr k (by omega)).2.1.trans (by funext j; exact if_neg (by omega))⟩)
  have rA2 : ac_RA m2 1 [] ac_T0 [] none none [] 0 := ac_RA_ff rA (fun k a b => (fr k (by omega)).2.2.trans (by funext j; exact if_neg (by omega)))
  have hok : ac_okS ac_T0 := by
    rw [← ac_T0_stl]
    exact ac_stl_ok2 (by rw [ac_T0_stl]; exact rA.2.1.1)
  exact L_loop hd (by omega) (by show 0 + 9 + 3009 + 28 + 60308 ≤ MS; omega) hA2 hM (by omega) hxs 2561 0 m2 (by omega) (by omega) (by omega) ⟨[], ac_T0, [], none, none, [], 0, rA2, rM, hok, fun T h => (by cases h), fun T h => (by cases h), fun T h => (by cases h)⟩
