/-! dead ends -/
def ac_dr (A : List Nat → Nat → Bool) (f : Nat) (l : List Nat) : Nat → Nat → Nat
  | 0, _ => 0
  | r + 1, c => (if A l c = true then ac_dead A f (l ++ [c]) else 0) + ac_dr A f l r (c + 1)
def ac_dan (A : List Nat → Nat → Bool) (l : List Nat) : Nat → Nat → Bool
  | 0, _ => false
  | r + 1, c => A l c || ac_dan A l r (c + 1)
theorem ac_dead_dr (A : List Nat → Nat → Bool) (f : Nat) (l : List Nat) : ac_dead A (f + 1) l = ac_dr A f l 3 0 + (if ac_dan A l 3 0 = true then 0 else 1) := by
  rw [ac_dead]
  simp only [ac_dr, ac_dan, Bool.or_false, Nat.add_zero, Nat.zero_add, Bool.or_eq_true, Nat.add_assoc]
theorem ac_dr_no {A : List Nat → Nat → Bool} {f : Nat} {l : List Nat} : ∀ (r c : Nat), (∀ d, c ≤ d → ¬ A l d = true) → ac_dr A f l r c = 0 ∧ ac_dan A l r c = false
  | 0, c, _ => ⟨rfl, rfl⟩
  | r + 1, c, h => by
    obtain ⟨h1, h2⟩ := ac_dr_no (f := f) r (c + 1) (fun d hd => h d (by omega))
    exact ⟨by rw [ac_dr, if_neg (h c (Nat.le_refl _)), h1], by rw [ac_dan, Bool.eq_false_iff.mpr (h c (Nat.le_refl _)), h2]; rfl⟩
theorem ac_dr_some {A : List Nat → Nat → Bool} {f : Nat} {l : List Nat} {k : Nat} (hk : k ≤ 3) : ∀ (r c z : Nat), c + r = k → ac_nx A l r c = some z → ac_dr A f l (3 - c) c = ac_dead A f (l ++ [z]) + ac_dr A f l (3 - (z + 1)) (z + 1) ∧ ac_dan A l (3 - c) c = true
  | 0, c, z, hc, h => by cases h
  | r + 1, c, z, hc, h => by
    rw [ac_nx] at h
    rw [show 3 - c = 3 - (c + 1) + 1 by omega, ac_dr, ac_dan]
    by_cases hA : A l c = true
    · rw [if_pos hA] at h
      cases h
      exact ⟨by rw [if_pos hA], by rw [hA]; rfl⟩
    · rw [if_neg hA] at h
      obtain ⟨h1, h2⟩ := ac_dr_some (f := f) hk r (c + 1) z (by omega) h
      exact ⟨by rw [if_neg hA, h1, Nat.zero_add], by rw [h2, Bool.or_true]⟩
def ac_drs (A : List Nat → Nat → Bool) (n : Nat) : List Nat → Nat
  | [] => 0
  | c :: s => ac_dr A (n - (s.length + 1)) s.reverse (3 - (c + 1)) (c + 1) + ac_drs A n s
theorem ac_drs_snoc (A : List Nat → Nat → Bool) (n : Nat) (l : List Nat) (c : Nat) : ac_drs A n (l ++ [c]).reverse = ac_dr A (n - (l.length + 1)) l (3 - (c + 1)) (c + 1) + ac_drs A n l.reverse := by
  rw [List.reverse_append, List.reverse_singleton, List.singleton_append, ac_drs, List.length_reverse, List.reverse_reverse]
/-- the dead ends that are still to come -/
def ac_dt (A : List Nat → Nat → Bool) (n : Nat) (l : List Nat) (c : Nat) (w : Bool) : Nat := ac_dr A (n - (l.length + 1)) l (3 - c) c + (if w = true ∨ ac_dan A l (3 - c) c = true then 0 else 1) + ac_drs A n l.reverse
theorem ac_dt_start (A : List Nat → Nat → Bool) {n : Nat} (hn : 1 ≤ n) : ac_dead A n [] = ac_dt A n [] 0 false := by
  obtain ⟨n, rfl⟩ : ∃ b, n = b + 1 := ⟨n - 1, by omega⟩
  rw [ac_dead_dr]
  unfold ac_dt
  simp [ac_drs]
theorem ac_dt_none {A : List Nat → Nat → Bool} {n k c : Nat} {l : List Nat} {w : Bool} (hck : c ≤ k) (hk : ∀ d, A l d = true → d < k) (h : ac_nx A l (k - c) c = none) : ac_dt A n l c w = (if w = true then 0 else 1) + ac_drs A n l.reverse := by
  obtain ⟨h1, h2⟩ := ac_dr_no (A := A) (f := n - (l.length + 1)) (l := l) (3 - c) c (fun d hd q => ac_nx_none (k - c) c (by omega) h d hd (hk d q) q)
  unfold ac_dt
  rw [h1, h2, Nat.zero_add]
  simp
theorem ac_dt_back {A : List Nat → Nat → Bool} {n c : Nat} {l : List Nat} : ac_drs A n (l ++ [c]).reverse = ac_dt A n l (c + 1) true := by
  rw [ac_drs_snoc]; unfold ac_dt; rw [if_pos (Or.inl rfl)]; rfl
theorem ac_dt_same {A : List Nat → Nat → Bool} {n k c z : Nat} {l : List Nat} {w : Bool} (hk : k ≤ 3) (hck : c ≤ k) (hn : l.length + 1 = n) (h : ac_nx A l (k - c) c = some z) : ac_dt A n l c w = ac_dt A n l (z + 1) true := by
  obtain ⟨h1, h2⟩ := ac_dr_some (f := n - (l.length + 1)) hk (k - c) c z (by omega) h
  have h0 : n - (l.length + 1) = 0 := by omega
  unfold ac_dt
  rw [h1, h2, if_pos (Or.inr rfl), if_pos (Or.inl rfl), h0, ac_dead, Nat.zero_add]
theorem ac_dt_down {A : List Nat → Nat → Bool} {n k c z : Nat} {l : List Nat} {w : Bool} (hk : k ≤ 3) (hck : c ≤ k) (hn : l.length + 1 < n) (h : ac_nx A l (k - c) c = some z) : ac_dt A n l c w = ac_dt A n (l ++ [z]) 0 false := by
  obtain ⟨h1, h2⟩ := ac_dr_some (f := n - (l.length + 1)) hk (k - c) c z (by omega) h
  have h0 : n - (l.length + 1) = n - ((l ++ [z]).length + 1) + 1 := by rw [List.length_append, List.length_singleton]; omega
  unfold ac_dt
  rw [h1, h2, if_pos (Or.inr rfl), ac_drs_snoc, h0, ac_dead_dr, ← h0]
  simp
  omega

/-- the search's cells and those of met and went -/
def ac_fG (mm m : ac_M) (x : Nat) : Prop := (∀ k', k' ≠ x → (k' < x + 11 ∨ x + 16 < k') → m k' = mm k') ∧ ∀ j, (j < 22 ∨ 25 < j) → m x j = mm x j
theorem ac_fG_r (mm : ac_M) (x : Nat) : ac_fG mm mm x := ⟨fun _ _ _ => rfl, fun _ _ => rfl⟩
theorem ac_fG_t {a b c : ac_M} {x : Nat} (h : ac_fG a b x) (h2 : ac_fG b c x) : ac_fG a c x := ⟨fun k' h0 h1 => (h2.1 k' h0 h1).trans (h.1 k' h0 h1), fun j hj => (h2.2 j hj).trans (h.2 j hj)⟩
theorem ac_fG_c {mm m : ac_M} {x : Nat} (h : ∀ k', (k' < x + 11 ∨ x + 16 < k') → m k' = mm k') : ac_fG mm m x := ⟨fun k' _ h1 => h k' h1, fun j _ => by rw [h x (by omega)]⟩
theorem ac_fE_fG {mm m : ac_M} {x : Nat} (h : ac_fE mm m x) : ac_fG mm m x := ⟨fun k' h0 h1 => h.1 k' h0 (by omega), h.2⟩
theorem ac_fG_u {mm m : ac_M} {x j : Nat} {v : Int} (h : ac_fG mm m x) {k : Nat} (hk : x + 11 ≤ k ∧ k ≤ x + 16) : ac_fG mm (ac_up m k j v) x := ac_fG_t h (ac_fG_c (fun k' h1 => by funext i; exact ac_up_k (by omega)))

set_option maxHeartbeats 8000000 in
theorem k_X7_ends {G : ac_G} {Y : ac_Y} {mm : ac_M} {d x : Nat} {T : ac_Tk} (hd : 8 ≤ d) (hM : ac_isM Y x) (rP : ac_RP mm (x + 3) T) (hk : mm x 4 = (T.2.1 : Int)) : ac_C G yX7_ends cX7_ends 3 (some .int) d 0 0 Y mm [(2, (x : Int))] (ac_R Y [(0, (ac_ded T : Int))] (fun m => ac_fG mm m x)) := by
  have hM9 := hM
  obtain ⟨kx, k1, k2, k3, k4, k5, k6, k7, k8, k9, k10, k11, k12, k13, k14, k15, k16⟩ := hM.2
  obtain ⟨⟨⟨hn1, hn2⟩, ⟨hk2, hk3⟩, hE, hp0, hpr, hc0⟩, -⟩ := id rP
  obtain ⟨S, hS⟩ : ∃ S, S = 2 ^ T.2.2.1.length - 1 := ⟨_, rfl⟩
  have hded : ac_ded T = ac_dead (ac_mayS S T.2.1 T.2.2.1 T.2.2.2.1) T.1 [] := by unfold ac_ded; rw [ac_may_all, ← hS]
  have hAk : ∀ (l : List Nat) (z : Nat), (ac_mayS S T.2.1 T.2.2.1 T.2.2.2.1) l z = true → z < T.2.1 := fun l z q => (ac_mayS_iff.mp q).1
  have loop : ∀ (N : Nat) (l : List Nat) (c e : Nat) (w : Bool) (m : ac_M), ac_mp T.1 l c < N → l.length + 1 ≤ T.1 → ac_vp S T.2.1 T.2.2.1 l → c ≤ T.2.1 → ac_EN m x S T.2.1 T.1 T.2.2.1 T.2.2.2.1 → ac_fG mm m x → ac_wy m x l → m (x + 13) (l.length + 1) = (c : Int) - 1 → ac_cl m (x + 14) (if c = 0 then l else l ++ [c - 1]) → (∀ i, 1 ≤ i → i ≤ l.length → m (x + 16) i = 1) → m (x + 16) (l.length + 1) = ac_b (w = true) → ac_ded T = e + ac_dt (ac_mayS S T.2.1 T.2.2.1 T.2.2.2.1) T.1 l c w → ac_V G (RX7, "ends") cX7_ends 3 (some .int) d 0 0 (ac_R Y [(0, (ac_ded T : Int))] (fun m => ac_fG mm m x)) 0 0 Y m 26 [(2, (x : Int)), (0, (e : Int)), (0, ((l.length + 1 : Nat) : Int))] [] := by
    intro N
    induction N with
    | zero => intro l c e w m hmu; omega
    | succ N ih =>
      intro l c e w m hmu hl hv hc hNm hG hwy hw hcl hwt hwl hdt
      obtain ⟨-, q4, q22, -⟩ := id hNm
      refine ac_iload_n (q := 27) dX7_ends_26 rfl rfl ?_
      refine ac_if_le (q := 30) (tgt := 96) dX7_ends_27 rfl rfl ⟨by omega, by omega⟩ (fun h27 => ?_) (fun h27 => ?_)
      · exfalso; omega
      · refine ac_aload_n (q := 31) dX7_ends_30 rfl rfl ?_
        refine ac_iload_n (q := 32) dX7_ends_31 rfl rfl ?_
        refine ac_cv (q := 35) (k_X7_next (l := l) (c := c) (d := d - 1) (by omega) hM9 hNm hl hv hc hw hcl) ml_X7_154 (by assumption) dX7_ends_32 rfl rfl rfl (by omega) (Nat.le_of_ble_eq_true rfl) (Nat.zero_le _) (Nat.zero_le _) (fun m1 h1 => ?_)
        obtain ⟨w1, w2, cl1, f1⟩ := h1
        have hN1 : ac_EN m1 x S T.2.1 T.1 T.2.2.1 T.2.2.2.1 := ac_EN_keep hNm (fun j _ => by rw [f1 x (by omega) (by omega)]) (f1 _ (by omega) (by omega)) (f1 _ (by omega) (by omega)) (f1 _ (by omega) (by omega)) (f1 _ (by omega) (by omega))
        have G1 : ac_fG mm m1 x := ac_fG_t hG (ac_fG_c (fun k' a => f1 k' (by omega) (by omega)))
        have q22b : m1 x 22 = (T.1 : Int) := hN1.2.2.1
        have e16 : m1 (x + 16) = m (x + 16) := f1 _ (by omega) (by omega)
        have wy1 : ac_wy m1 x l := fun i z hz => by
          have := (List.getElem?_eq_some_iff.mp hz).1
          rw [w1 _ (by omega)]; exact hwy i z hz
        cases ho : ac_nx (ac_mayS S T.2.1 T.2.2.1 T.2.2.2.1) l (T.2.1 - c) c with
        | none =>
          rw [ho] at w2 cl1
          rw [ac_dt_none hc (hAk l) ho] at hdt
          have h1w : (if ac_b (w = true) = 0 then (1 : Int) else 0) = ((if w = true then 0 else 1 : Nat) : Int) := by cases w <;> rfl
          cases w with
          | true =>
            rw [show ac_b (true = true) = 1 from rfl] at hwl
            rw [if_pos rfl] at hdt
            refine ac_bif_eq (q := 38) (tgt := 73) dX7_ends_35 rfl rfl (fun h35 => ?_) (fun h35 => ?_)
            · refine ac_iload_n (q := 74) dX7_ends_73 rfl rfl ?_
              refine ac_aload_n (q := 75) dX7_ends_74 rfl rfl ?_
              refine ac_get (q := 78) dX7_ends_75 fl_X7_64 (by assumption) rfl (ac_rdr rfl hM9.1.2.2.2.2.2.2.2.2.2.2.2.2.2.2.2) ?_
              refine ac_iload_n (q := 79) dX7_ends_78 rfl rfl ?_
              refine ac_baloadN (q := 80) (j := l.length + 1) (v := 1) dX7_ends_79 k16 (by decide) (by omega) rfl (by rw [e16]; exact hwl) ?_
              refine ac_if_eq (q := 83) (tgt := 87) dX7_ends_80 rfl rfl ⟨by omega, by omega⟩ (fun h80 => ?_) (fun h80 => ?_)
              · exact absurd h80 (by decide)
              · refine ac_iconst (q := 84) dX7_ends_83 rfl ?_
                refine ac_goto (q := 88) dX7_ends_84 rfl ?_
                refine ac_iadd (q := 89) dX7_ends_88 rfl ?_
                refine ac_istore_n (q := 90) (j := 1) rfl dX7_ends_89 rfl (Nat.le_of_ble_eq_true rfl) rfl rfl ?_
                simp only [List.set_cons_succ, List.set_cons_zero]
                refine ac_iinc (q := 93) dX7_ends_90 rfl (Nat.le_of_ble_eq_true rfl) rfl rfl rfl rfl ?_
                simp only [List.set_cons_succ, List.set_cons_zero]
                refine ac_goto (q := 26) dX7_ends_93 rfl ?_
                rcases ac_eqnilcat l with rfl | ⟨l', c0, rfl⟩
                · have hfin : ac_ded T = e + 0 := by rw [hdt]; rfl
                  refine ac_ls (ls' := [(2, (x : Int)), (0, ((e + 0 : Nat) : Int)), (0, 0)]) rfl ?_
                  refine ac_iload_n (q := 27) dX7_ends_26 rfl rfl ?_
                  refine ac_if_le (q := 30) (tgt := 96) dX7_ends_27 rfl rfl ⟨by omega, by omega⟩ (fun h27 => ?_) (fun h27 => ?_)
                  · refine ac_iload_n (q := 97) dX7_ends_96 rfl rfl ?_
                    refine ac_ireturn dX7_ends_97 rfl (Nat.zero_le _) (Nat.zero_le _) ?_
                    exact ⟨by rw [hfin], rfl, G1⟩
                  · exfalso; omega
                · have hlx : (l' ++ [c0]).length = l'.length + 1 := by rw [List.length_append]; rfl
                  rw [ac_dt_back] at hdt
                  have hc0 := hv.1 c0 (List.mem_append_right _ (List.mem_singleton.mpr rfl))
                  have hmu2 := ac_mp_up T.1 l' c0 c (by omega)
                  refine ac_ls ?_ (ih l' (c0 + 1) (e + 0) true m1 (by omega) (by omega) (ac_vp_pre hv) (by omega) hN1 G1 (fun i z hz => wy1 i z (by rw [List.getElem?_append_left (List.getElem?_eq_some_iff.mp hz).1]; exact hz)) ?_ ?_ (fun i a b => by rw [e16]; exact hwt i a (by omega)) (by rw [e16, hwt _ (by omega) (by omega)]; rfl) (by rw [hdt]; omega))
                  · rw [hlx]; exact congrArg (fun z : Int => [((2 : Nat), (x : Int)), ((0 : Nat), ((e + 0 : Nat) : Int)), ((0 : Nat), z)]) (by omega)
                  · have := wy1 l'.length c0 (by rw [List.getElem?_append_right (Nat.le_refl _), Nat.sub_self]; rfl)
                    rw [this]; omega
                  · rw [if_neg (by omega), show c0 + 1 - 1 = c0 from rfl]; exact cl1
            · exact absurd h35 (by simp)
          | false =>
            rw [show ac_b (false = true) = 0 from rfl] at hwl
            rw [if_neg (by decide)] at hdt
            refine ac_bif_eq (q := 38) (tgt := 73) dX7_ends_35 rfl rfl (fun h35 => ?_) (fun h35 => ?_)
            · refine ac_iload_n (q := 74) dX7_ends_73 rfl rfl ?_
              refine ac_aload_n (q := 75) dX7_ends_74 rfl rfl ?_
              refine ac_get (q := 78) dX7_ends_75 fl_X7_64 (by assumption) rfl (ac_rdr rfl hM9.1.2.2.2.2.2.2.2.2.2.2.2.2.2.2.2) ?_
              refine ac_iload_n (q := 79) dX7_ends_78 rfl rfl ?_
              refine ac_baloadN (q := 80) (j := l.length + 1) (v := 0) dX7_ends_79 k16 (by decide) (by omega) rfl (by rw [e16]; exact hwl) ?_
              refine ac_if_eq (q := 83) (tgt := 87) dX7_ends_80 rfl rfl ⟨by omega, by omega⟩ (fun h80 => ?_) (fun h80 => ?_)
              · refine ac_iconst (q := 88) dX7_ends_87 rfl ?_
                refine ac_iadd (q := 89) dX7_ends_88 rfl ?_
                refine ac_istore_n (q := 90) (j := 1) rfl dX7_ends_89 rfl (Nat.le_of_ble_eq_true rfl) rfl rfl ?_
                simp only [List.set_cons_succ, List.set_cons_zero]
                refine ac_iinc (q := 93) dX7_ends_90 rfl (Nat.le_of_ble_eq_true rfl) rfl rfl rfl rfl ?_
                simp only [List.set_cons_succ, List.set_cons_zero]
                refine ac_goto (q := 26) dX7_ends_93 rfl ?_
                rcases ac_eqnilcat l with rfl | ⟨l', c0, rfl⟩
                · have hfin : ac_ded T = e + 1 := by rw [hdt]; rfl
                  refine ac_ls (ls' := [(2, (x : Int)), (0, ((e + 1 : Nat) : Int)), (0, 0)]) rfl ?_
                  refine ac_iload_n (q := 27) dX7_ends_26 rfl rfl ?_
                  refine ac_if_le (q := 30) (tgt := 96) dX7_ends_27 rfl rfl ⟨by omega, by omega⟩ (fun h27 => ?_) (fun h27 => ?_)
                  · refine ac_iload_n (q := 97) dX7_ends_96 rfl rfl ?_
                    refine ac_ireturn dX7_ends_97 rfl (Nat.zero_le _) (Nat.zero_le _) ?_
                    exact ⟨by rw [hfin], rfl, G1⟩
                  · exfalso; omega
                · have hlx : (l' ++ [c0]).length = l'.length + 1 := by rw [List.length_append]; rfl
                  rw [ac_dt_back] at hdt
                  have hc0 := hv.1 c0 (List.mem_append_right _ (List.mem_singleton.mpr rfl))
                  have hmu2 := ac_mp_up T.1 l' c0 c (by omega)
                  refine ac_ls ?_ (ih l' (c0 + 1) (e + 1) true m1 (by omega) (by omega) (ac_vp_pre hv) (by omega) hN1 G1 (fun i z hz => wy1 i z (by rw [List.getElem?_append_left (List.getElem?_eq_some_iff.mp hz).1]; exact hz)) ?_ ?_ (fun i a b => by rw [e16]; exact hwt i a (by omega)) (by rw [e16, hwt _ (by omega) (by omega)]; rfl) (by rw [hdt]; omega))
                  · rw [hlx]; exact congrArg (fun z : Int => [((2 : Nat), (x : Int)), ((0 : Nat), ((e + 1 : Nat) : Int)), ((0 : Nat), z)]) (by omega)
                  · have := wy1 l'.length c0 (by rw [List.getElem?_append_right (Nat.le_refl _), Nat.sub_self]; rfl)
                    rw [this]; omega
                  · rw [if_neg (by omega), show c0 + 1 - 1 = c0 from rfl]; exact cl1
              · exact absurd h80 (by decide)
            · exact absurd h35 (by simp)
        | some z =>
          rw [ho] at w2 cl1
          obtain ⟨⟨z1, z2⟩, hAz, -⟩ := ac_nx_some (f := 0) hk3 (T.2.1 - c) c z (by omega) ho
          have hvz := ac_vp_snoc hv hAz
          have hlx : (l ++ [z]).length = l.length + 1 := by rw [List.length_append]; rfl
          have wyz : ac_wy m1 x (l ++ [z]) := fun i y hy => by
            by_cases hi : i = l.length
            · subst hi
              rw [List.getElem?_append_right (Nat.le_refl _), Nat.sub_self] at hy
              cases hy; exact w2
            · have := (List.getElem?_eq_some_iff.mp hy).1
              rw [List.getElem?_append_left (by omega)] at hy
              exact wy1 i y hy
          refine ac_bif_eq (q := 38) (tgt := 73) dX7_ends_35 rfl rfl (fun h35 => ?_) (fun h35 => ?_)
          · exact absurd h35 (by simp)
          · refine ac_aload_n (q := 39) dX7_ends_38 rfl rfl ?_
            refine ac_get (q := 42) dX7_ends_39 fl_X7_64 (by assumption) rfl (ac_rdr rfl hM9.1.2.2.2.2.2.2.2.2.2.2.2.2.2.2.2) ?_
            refine ac_iload_n (q := 43) dX7_ends_42 rfl rfl ?_
            refine ac_iconst (q := 44) dX7_ends_43 rfl ?_
            refine ac_bastoreN (q := 45) (j := l.length + 1) dX7_ends_44 k16 (by decide) (by omega) (by omega) rfl ?_
            refine ac_iload_n (q := 46) dX7_ends_45 rfl rfl ?_
            refine ac_aload_n (q := 47) dX7_ends_46 rfl rfl ?_
            refine ac_get (q := 50) dX7_ends_47 fl_X7_142 kx rfl (ac_rdi (v := (T.1 : Int)) rfl (by rw [ac_up_k (by omega)]; exact q22b)) ?_
            refine ac_icmp_ge (q := 53) (tgt := 26) dX7_ends_50 rfl rfl ⟨by omega, by omega⟩ ⟨by omega, by omega⟩ (fun h50 => ?_) (fun h50 => ?_)
            · rw [ac_dt_same hk3 hc (by omega) ho] at hdt
              have hmu2 : ac_mp T.1 l (z + 1) < ac_mp T.1 l c := by
                unfold ac_mp
                have h5 : 0 < 5 ^ (T.1 - (l.length + 1)) := Nat.pow_pos (by decide)
                have := Nat.mul_lt_mul_of_pos_right (show 4 - (z + 1) < 4 - c by omega) h5
                omega
              exact ih l (z + 1) e true (ac_up m1 (x + 16) (l.length + 1) 1) (by omega) hl hv (by omega) (ac_EN_keep hN1 (fun j _ => by rw [ac_up_k (by omega)]) (by funext j; exact ac_up_k (by omega)) (by funext j; exact ac_up_k (by omega)) (by funext j; exact ac_up_k (by omega)) (by funext j; exact ac_up_k (by omega))) (ac_fG_u G1 (by omega)) (fun i y hy => by rw [ac_up_k (by omega)]; exact wy1 i y hy) (by rw [ac_up_k (by omega), w2]; show (z : Int) = _; omega) (by rw [if_neg (by omega), show z + 1 - 1 = z from rfl]; exact ac_cl_keep cl1 (by funext j; exact ac_up_k (by omega))) (fun i a b => by rw [ac_up_j (by omega), e16]; exact hwt i a b) (by rw [ac_up_s]; rfl) hdt
            · refine ac_iinc (q := 56) dX7_ends_53 rfl (Nat.le_of_ble_eq_true rfl) rfl rfl rfl rfl ?_
              simp only [List.set_cons_succ, List.set_cons_zero]
              refine ac_aload_n (q := 57) dX7_ends_56 rfl rfl ?_
              refine ac_get (q := 60) dX7_ends_57 fl_X7_51 (by assumption) rfl (ac_rdr rfl hM9.1.2.2.2.2.2.2.2.2.2.2.2.2.1) ?_
              refine ac_iload_n (q := 61) dX7_ends_60 rfl rfl ?_
              refine ac_iconst (q := 62) dX7_ends_61 rfl ?_
              refine ac_iastoreN (j := l.length + 2) (q := 63) dX7_ends_62 k13 (by decide) (by omega) (by omega) ?_
              refine ac_aload_n (q := 64) dX7_ends_63 rfl rfl ?_
              refine ac_get (q := 67) dX7_ends_64 fl_X7_64 (by assumption) rfl (ac_rdr rfl hM9.1.2.2.2.2.2.2.2.2.2.2.2.2.2.2.2) ?_
              refine ac_iload_n (q := 68) dX7_ends_67 rfl rfl ?_
              refine ac_iconst (q := 69) dX7_ends_68 rfl ?_
              refine ac_bastoreN (j := l.length + 2) (q := 70) dX7_ends_69 k16 (by decide) (by omega) (by omega) rfl ?_
              refine ac_goto (q := 26) dX7_ends_70 rfl ?_
              rw [ac_dt_down hk3 hc (by omega) ho] at hdt
              have hmu2 := ac_mp_dn T.1 l c z z1 (by omega) (by omega)
              have e2 : ((l.length + 1 : Nat) : Int) + 1 = (((l ++ [z]).length + 1 : Nat) : Int) := by rw [hlx]; rfl
              refine ac_ls (by rw [e2]) (ih (l ++ [z]) 0 e false (ac_up (ac_up (ac_up m1 (x + 16) (l.length + 1) 1) (x + 13) (l.length + 2) (-1)) (x + 16) (l.length + 2) 0) (by omega) (by omega) hvz (by omega) (ac_EN_keep hN1 (fun j _ => by rw [ac_up_k (by omega), ac_up_k (by omega), ac_up_k (by omega)]) (by funext j; rw [ac_up_k (by omega), ac_up_k (by omega), ac_up_k (by omega)]) (by funext j; rw [ac_up_k (by omega), ac_up_k (by omega), ac_up_k (by omega)]) (by funext j; rw [ac_up_k (by omega), ac_up_k (by omega), ac_up_k (by omega)]) (by funext j; rw [ac_up_k (by omega), ac_up_k (by omega), ac_up_k (by omega)])) (ac_fG_u (ac_fG_u (ac_fG_u G1 (by omega)) (by omega)) (by omega)) (fun i y hy => ?_) ?_ ?_ (fun i a b => ?_) ?_ hdt)
              · have := (List.getElem?_eq_some_iff.mp hy).1
                rw [ac_up_k (by omega), ac_up_j (by omega), ac_up_k (by omega)]; exact wyz i y hy
              · rw [ac_up_k (by omega), hlx, ac_up_s]; rfl
              · rw [if_pos rfl]; exact ac_cl_keep cl1 (by funext j; rw [ac_up_k (by omega), ac_up_k (by omega), ac_up_k (by omega)])
              · rw [ac_up_j (by omega), ac_up_k (by omega)]
                by_cases hi : i = l.length + 1
                · rw [hi, ac_up_s]
                · rw [ac_up_j hi, e16]; exact hwt i a (by omega)
              · rw [hlx, ac_up_s]; rfl
  refine ac_met (on := (RX7, "ends")) rfl rfl (Nat.le_of_ble_eq_true rfl) (ls := [(2, (x : Int)), (3, 0), (3, 0)]) rfl ?_
  refine ac_aload_n (q := 1) dX7_ends_0 rfl rfl ?_
  refine ac_aload_n (q := 2) dX7_ends_1 rfl rfl ?_
  refine ac_get (q := 5) dX7_ends_2 fl_X7_20 (by assumption) rfl (ac_rdr rfl hM9.1.2.2.1) ?_
  refine ac_cv (q := 8) (k_X7_beginAll2 (r := x + 3) (T := T) (d := d - 1) (by omega) hM9 (Or.inl rfl) rP hk) ml_X7_171 (by assumption) dX7_ends_5 rfl rfl rfl (by omega) (Nat.le_of_ble_eq_true rfl) (Nat.zero_le _) (Nat.zero_le _) (fun m1 h1 => ?_)
  rw [← hS] at h1
  obtain ⟨N1, ⟨cl1, -⟩, f1⟩ := h1
  refine ac_iconst (q := 9) dX7_ends_8 rfl ?_
  refine ac_istore_n (q := 10) (j := 1) rfl dX7_ends_9 rfl (Nat.le_of_ble_eq_true rfl) rfl rfl ?_
  simp only [List.set_cons_succ, List.set_cons_zero]
  refine ac_iconst (q := 11) dX7_ends_10 rfl ?_
  refine ac_istore_n (q := 12) (j := 2) rfl dX7_ends_11 rfl (Nat.le_of_ble_eq_true rfl) rfl rfl ?_
  simp only [List.set_cons_succ, List.set_cons_zero]
  refine ac_aload_n (q := 13) dX7_ends_12 rfl rfl ?_
  refine ac_get (q := 16) dX7_ends_13 fl_X7_51 (by assumption) rfl (ac_rdr rfl hM9.1.2.2.2.2.2.2.2.2.2.2.2.2.1) ?_
  refine ac_iconst (q := 17) dX7_ends_16 rfl ?_
  refine ac_iconst (q := 18) dX7_ends_17 rfl ?_
  refine ac_iastoreN (q := 19) (j := 1) dX7_ends_18 (by assumption) (by decide) (by decide) rfl ?_
  refine ac_aload_n (q := 20) dX7_ends_19 rfl rfl ?_
  refine ac_get (q := 23) dX7_ends_20 fl_X7_64 (by assumption) rfl (ac_rdr rfl hM9.1.2.2.2.2.2.2.2.2.2.2.2.2.2.2.2) ?_
  refine ac_iconst (q := 24) dX7_ends_23 rfl ?_
  refine ac_iconst (q := 25) dX7_ends_24 rfl ?_
  refine ac_bastoreN (q := 26) (j := 1) dX7_ends_25 (by assumption) (by decide) (by decide) (by first | exact ac_b01 | omega) rfl ?_
  have hk0 : ∀ k', k' ≠ x + 13 → k' ≠ x + 16 → ac_up (ac_up m1 (x + 13) 1 (-1)) (x + 16) 1 0 k' = m1 k' := fun k' a b => by funext j; rw [ac_up_k b, ac_up_k a]
  refine loop (ac_mp T.1 [] 0 + 1) [] 0 0 false _ (by omega) (by simpa using hn1) ac_vp_nil (by omega) (ac_EN_keep N1 (fun j _ => by rw [hk0 x (by omega) (by omega)]) (hk0 _ (by omega) (by omega)) (hk0 _ (by omega) (by omega)) (hk0 _ (by omega) (by omega)) (hk0 _ (by omega) (by omega))) (ac_fG_u (ac_fG_u (ac_fE_fG f1) (by omega)) (by omega)) (fun i z hz => by simp at hz) ?_ ?_ (fun i a b => by simp at b; omega) ?_ (by rw [hded, ac_dt_start _ hn1, Nat.zero_add])
  · rw [ac_up_k (by omega)]; exact ac_up_s
  · rw [if_pos rfl]; exact ac_cl_keep cl1 (hk0 _ (by omega) (by omega))
  · exact ac_up_s
