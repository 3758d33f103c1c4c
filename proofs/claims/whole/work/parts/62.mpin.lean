theorem ac_pins_lt {pin : Nat → Int} : ∀ n : Nat, ac_pins pin n < n ↔ ∃ i, (1 ≤ i ∧ i ≤ n) ∧ pin i = -1
  | 0 => by
    constructor
    · intro h; omega
    · rintro ⟨i, h, -⟩; omega
  | n + 1 => by
    have ih := ac_pins_lt (pin := pin) n
    have hle := ac_pins_le pin n
    rw [ac_pins]
    by_cases hp : pin (n + 1) = -1
    · rw [if_pos hp]
      exact ⟨fun _ => ⟨n + 1, by omega, hp⟩, fun _ => by omega⟩
    · rw [if_neg hp]
      constructor
      · intro h
        obtain ⟨i, h1, h2⟩ := ih.mp (by omega)
        exact ⟨i, by omega, h2⟩
      · rintro ⟨i, h1, h2⟩
        have hin : i ≠ n + 1 := fun q => hp (by rw [← q]; exact h2)
        have := ih.mpr ⟨i, by omega, h2⟩
        omega
theorem ac_lowf_pins {n : Nat} {pin : Nat → Int} (hn : n ≤ 10) : ac_lowf n pin 10 = true ↔ ac_pins pin n < n := by
  rw [ac_lowf_iff, ac_pins_lt]
  constructor
  · rintro ⟨i, -, h⟩; exact ⟨i, h⟩
  · rintro ⟨i, h⟩; exact ⟨i, by have := h.1; omega, h⟩
/-- a bare number among the first of a row of ten -/
def ac_tf (n : Nat) (pin : Nat → Int) (w : Int) : Nat → Bool
  | 0 => false
  | i + 1 => ac_tf n pin w i || decide ((0 ≤ w ∧ w ≤ 1) ∧ (1 ≤ 10 * w.toNat + i ∧ 10 * w.toNat + i ≤ n) ∧ pin (10 * w.toNat + i) = -1)
theorem ac_tf_iff {n : Nat} {pin : Nat → Int} {w : Int} : ∀ {i : Nat}, ac_tf n pin w i = true ↔ ∃ j, j < i ∧ (0 ≤ w ∧ w ≤ 1) ∧ (1 ≤ 10 * w.toNat + j ∧ 10 * w.toNat + j ≤ n) ∧ pin (10 * w.toNat + j) = -1
  | 0 => by
    constructor
    · intro h; cases h
    · rintro ⟨j, h, -⟩; omega
  | i + 1 => by
    rw [ac_tf, Bool.or_eq_true, ac_tf_iff (i := i), decide_eq_true_eq]
    constructor
    · rintro (⟨j, h1, h2⟩ | h)
      · exact ⟨j, by omega, h2⟩
      · exact ⟨i, by omega, h⟩
    · rintro ⟨j, h1, h2⟩
      by_cases h : j = i
      · subst h; exact Or.inr h2
      · exact Or.inl ⟨j, by omega, h2⟩
theorem ac_tf_okt {n c : Nat} {pin : Nat → Int} {w : Int} (hn : n ≤ 10) (hw : w = (c : Int) - 48 ∨ (w = 1000 ∧ c = 0)) : ac_tf n pin w 10 = true ↔ ac_okt n pin c := by
  rw [ac_tf_iff]
  unfold ac_okt
  rw [ac_lowf_iff]
  constructor
  · rintro ⟨j, h1, h2, h3, h4⟩
    rcases (show w = 0 ∨ w = 1 by omega) with rfl | rfl
    · exact Or.inl ⟨by omega, j, by omega, by simpa using h3, by simpa using h4⟩
    · have hj : j = 0 := by have := h3.2; simp only [Int.toNat_one] at this; omega
      subst hj
      exact Or.inr ⟨by omega, h3, h4⟩
  · rintro (⟨h1, j, h2, h3, h4⟩ | ⟨h1, h3, h4⟩)
    · have hw0 : w = 0 := by omega
      subst hw0
      exact ⟨j, by omega, by omega, by simpa using h3, by simpa using h4⟩
    · have hw1 : w = 1 := by omega
      subst hw1
      exact ⟨0, by omega, by omega, h3, h4⟩

set_option maxHeartbeats 8000000 in
theorem k_X7_readPin {G : ac_G} {Y : ac_Y} {mm : ac_M} {d x : Nat} {s : List Nat} {p : Nat} {T : ac_Tk} (hd : 4 ≤ d) (hM : ac_isM Y x) (hD : ac_RD mm x s p) (rP : ac_RP mm (x + 2) T) (hp : p ≤ 900) (h5 : mm x 5 = (T.2.1 : Int)) : ac_C G yX7_readPin cX7_readPin 6 (some .boolean) d 0 0 Y mm [(2, (x : Int))] (ac_R Y [(0, ac_b ((ac_pins T.2.2.2.1 T.1 < T.1) ∧ (ac_pinp T.1 T.2.1 T.2.2.2.1 s (p + 1)).2.isSome = true))] (fun m => ac_RD m x s (if (ac_pins T.2.2.2.1 T.1 < T.1) then (ac_pinp T.1 T.2.1 T.2.2.2.1 s (p + 1)).1 else p) ∧ (∀ q, (ac_pins T.2.2.2.1 T.1 < T.1) → (ac_pinp T.1 T.2.1 T.2.2.2.1 s (p + 1)).2 = some q → ac_RP m (x + 2) (T.1, T.2.1, T.2.2.1, ac_sp T.2.2.2.1 q.1 q.2, T.2.2.2.2)) ∧ ac_fQ mm m x)) := by
  have hM9 := hM
  obtain ⟨kx, k1, k2, k3, k4, k5, k6, k7, k8, k9, k10, k11, k12, k13, k14, k15, k16⟩ := hM.2
  obtain ⟨⟨⟨hs1, hs2⟩, hsz, htx⟩, hpl⟩ := id hD
  have hch := ac_ch_lt hs2
  obtain ⟨⟨⟨hn1, hn2⟩, ⟨hk2, hk3⟩, hE, hp0, hpr, hc0⟩, p0, p1, pE, pp, p28, pcb, pcl⟩ := id rP
  have hE4 := hE.1
  obtain ⟨c1, hc1⟩ : ∃ c1, c1 = ac_ch s (p + 1) := ⟨_, rfl⟩
  obtain ⟨c2, hc2⟩ : ∃ c2, c2 = ac_ch s (p + 2) := ⟨_, rfl⟩
  obtain ⟨c3, hc3⟩ : ∃ c3, c3 = ac_ch s (p + 3) := ⟨_, rfl⟩
  have hb1 := hch (p + 1)
  have hb2 := hch (p + 2)
  have hb3 := hch (p + 3)
  rw [← hc1] at hb1
  rw [← hc2] at hb2
  rw [← hc3] at hb3
  have hnn : ac_nump T.1 T.2.2.2.1 s (p + 1) = @ite _ (ac_okt T.1 T.2.2.2.1 c1) (ac_oktd T.1 T.2.2.2.1 c1) (@ite _ (ac_oku T.1 T.2.2.2.1 c1 c2) (ac_okud T.1 T.2.2.2.1 c1 c2) (p + 3, 10 * (c1 - 48) + (c2 - 48)) (p + 2, 0)) (p + 1, 0) := by rw [hc1, hc2]; rfl
  have hpp : (ac_pinp T.1 T.2.1 T.2.2.2.1 s (p + 1)) = if (ac_nump T.1 T.2.2.2.1 s (p + 1)).2 = 0 then ((ac_nump T.1 T.2.2.2.1 s (p + 1)).1, none) else if 48 ≤ c3 ∧ c3 < 48 + T.2.1 then (p + 4, some ((ac_nump T.1 T.2.2.2.1 s (p + 1)).2, c3 - 48)) else (p + 3, none) := by rw [hc3]; rfl
  have third : ∀ (m : ac_M) (u : Int) (w : Nat) (a1 a3 a4 : Int), (ac_pins T.2.2.2.1 T.1 < T.1) → w ≤ 1 → c1 = 48 + w → ac_okt T.1 T.2.2.2.1 c1 → (u = (c2 : Int) - 48 ∨ (u = 1000 ∧ c2 = 0)) → ac_RD m x s (p + 2) → ac_fP mm m x → ac_V G (RX7, "readPin") cX7_readPin 6 (some .boolean) d 0 0 (ac_R Y [(0, ac_b ((ac_pins T.2.2.2.1 T.1 < T.1) ∧ (ac_pinp T.1 T.2.1 T.2.2.2.1 s (p + 1)).2.isSome = true))] (fun m => ac_RD m x s (if (ac_pins T.2.2.2.1 T.1 < T.1) then (ac_pinp T.1 T.2.1 T.2.2.2.1 s (p + 1)).1 else p) ∧ (∀ q, (ac_pins T.2.2.2.1 T.1 < T.1) → (ac_pinp T.1 T.2.1 T.2.2.2.1 s (p + 1)).2 = some q → ac_RP m (x + 2) (T.1, T.2.1, T.2.2.1, ac_sp T.2.2.2.1 q.1 q.2, T.2.2.2.2)) ∧ ac_fQ mm m x)) 0 0 Y m 177 [(2, (x : Int)), (0, a1), (0, (w : Int)), (0, a3), (0, a4), (3, 0)] [(0, u)] := by
    intro m u w a1 a3 a4 hhas hw1 hcw hok hu D2 f2
    have rP2 : ac_RP m (x + 2) T := ac_RP_keep rP (f2.1 _ (by omega))
    have h52 : m x 5 = (T.2.1 : Int) := by rw [f2.2 5 (by decide)]; exact h5
    obtain ⟨⟨-, sz2, tx2⟩, pl2⟩ := id D2
    refine ac_istore (q := 179) dX7_readPin_177 rfl (Nat.le_of_ble_eq_true rfl) rfl rfl ?_
    simp only [List.set_cons_succ, List.set_cons_zero]
    refine ac_iload (q := 181) dX7_readPin_179 rfl rfl ?_
    refine ac_i2l (q := 182) dX7_readPin_181 rfl ⟨by omega, by omega⟩ ?_
    refine ac_lconst (q := 183) (v := 0) dX7_readPin_182 rfl (by decide) ?_
    refine ac_ldc2_w (q := 186) (v := 9) dX7_readPin_183 rfl ct_X7_96 ?_
    refine ac_csp (q := 189) (k_X7_in (d := d - 1) (by omega) ⟨by omega, by omega⟩ ⟨by omega, by omega⟩ ⟨by omega, by omega⟩) ml_X7_72 dX7_readPin_186 rfl rfl rfl (by omega) (Nat.le_of_ble_eq_true rfl) (Nat.zero_le _) (Nat.zero_le _) ?_
    refine ac_bif_eq (q := 192) (tgt := 206) dX7_readPin_189 rfl rfl (fun h189 => ?_) (fun h189 => ?_)
    · skip
      refine ac_iconst (q := 207) dX7_readPin_206 rfl ?_
      refine ac_zreturn dX7_readPin_207 rfl (by first | exact ac_b01 | omega) (Nat.zero_le _) (Nat.zero_le _) ?_
      have hnu : ¬ ac_oku T.1 T.2.2.2.1 c1 c2 := by
        rintro ⟨q1, q2, q3⟩
        first
          | omega
          | (have e9 : 10 * (c1 - 48) + (c2 - 48) = 10 * w + u := by omega
             rw [e9] at q2 q3
             exact h203 ⟨q2, q3⟩)
      have he1 : ac_nump T.1 T.2.2.2.1 s (p + 1) = (p + 2, 0) := by rw [hnn, if_pos hok, if_neg hnu]
      have he : (ac_pinp T.1 T.2.1 T.2.2.2.1 s (p + 1)) = (p + 2, none) := by rw [hpp, he1]; rfl
      rw [if_pos hhas, he]
      exact ⟨ac_l0 (fun q => by cases q.2), rfl, D2, (fun q h hq => by cases hq), ac_fP_Q f2⟩
    · obtain ⟨u, rfl⟩ := Int.eq_ofNat_of_zero_le (a := u) (by omega)
      refine ac_aload_n (q := 193) dX7_readPin_192 rfl rfl ?_
      refine ac_bipush (q := 195) dX7_readPin_193 rfl (by decide) ?_
      refine ac_iload_n (q := 196) dX7_readPin_195 rfl rfl ?_
      refine ac_imul (q := 197) dX7_readPin_196 rfl ?_
      refine ac_iload (q := 199) dX7_readPin_197 rfl rfl ?_
      refine ac_iadd (q := 200) dX7_readPin_199 rfl ?_
      refine ac_top (w' := (0, ((10 * w + u : Nat) : Int))) (congrArg (fun z : Int => ((0 : Nat), z)) (by omega)) ?_
      refine ac_cvp (q := 203) (k_X7_isBare (T := T) (i := 10 * w + u) (d := d - 1) (by omega) hM9 rP2 (by omega)) ml_X7_92 (by assumption) dX7_readPin_200 rfl rfl rfl (by omega) (Nat.le_of_ble_eq_true rfl) (Nat.zero_le _) (Nat.zero_le _) ?_
      refine ac_bif_ne (q := 206) (tgt := 208) dX7_readPin_203 rfl rfl (fun h203 => ?_) (fun h203 => ?_)
      · have hyu : ac_oku T.1 T.2.2.2.1 c1 c2 := by
          refine ⟨by omega, ?_⟩
          have e9 : 10 * (c1 - 48) + (c2 - 48) = 10 * w + u := by omega
          unfold ac_fre
          rw [e9]
          exact h203
        have he1 : ac_nump T.1 T.2.2.2.1 s (p + 1) = (p + 3, 10 * w + u) := by rw [hnn, if_pos hok, if_pos hyu, show 10 * (c1 - 48) + (c2 - 48) = 10 * w + u by omega]
        have hne : ¬ 10 * w + u = 0 := by omega
        refine ac_aload_n (q := 209) dX7_readPin_208 rfl rfl ?_
        refine ac_dup (q := 210) dX7_readPin_209 rfl (show (2 : Nat) ≠ 1 by decide) ?_
        refine ac_get (q := 213) dX7_readPin_210 fl_X7_79 kx rfl (ac_rdi (v := ((p + 2 : Nat) : Int)) rfl pl2) ?_
        refine ac_iconst (q := 214) dX7_readPin_213 rfl ?_
        refine ac_iadd (q := 215) dX7_readPin_214 rfl ?_
        refine ac_top (w' := (0, ((p + 3 : Nat) : Int))) (congrArg (fun z : Int => ((0 : Nat), z)) (by omega)) ?_
        refine ac_put (q := 218) dX7_readPin_215 fl_X7_79 (by assumption) rfl rfl ?_
        refine ac_aload_n (q := 219) dX7_readPin_218 rfl rfl ?_
        refine ac_iconst (q := 220) dX7_readPin_219 rfl ?_
        refine ac_aload_n (q := 221) dX7_readPin_220 rfl rfl ?_
        refine ac_get (q := 224) dX7_readPin_221 fl_X7_98 kx rfl (ac_rdi (v := (T.2.1 : Int)) rfl ((ac_up_j (by decide)).trans h52)) ?_
        refine ac_iconst (q := 225) dX7_readPin_224 rfl ?_
        refine ac_isub (q := 226) dX7_readPin_225 rfl ?_
        refine ac_cv (q := 229) (k_X7_figure (p := p + 3) (a := 0) (b := (T.2.1 : Int) - 1) (d := d - 1) (by omega) hM9 (ac_RD_up D2) (by omega) (by decide) (by omega)) ml_X7_84 (by assumption) dX7_readPin_226 rfl rfl rfl (by omega) (Nat.le_of_ble_eq_true rfl) (Nat.zero_le _) (Nat.zero_le _) (fun m3 h3 => ?_)
        rw [← hc3] at h3 ⊢
        obtain ⟨D3, f3⟩ := h3
        have F3 := ac_fP_t f2 (ac_fP_t ac_fP_up f3)
        have rP3 : ac_RP m3 (x + 2) T := ac_RP_keep rP (F3.1 _ (by omega))
        refine ac_istore (q := 231) dX7_readPin_229 rfl (Nat.le_of_ble_eq_true rfl) rfl rfl ?_
        simp only [List.set_cons_succ, List.set_cons_zero]
        refine ac_iload (q := 233) dX7_readPin_231 rfl rfl ?_
        refine ac_sipush (q := 236) dX7_readPin_233 rfl (by decide) ?_
        refine ac_icmp_ne (q := 239) (tgt := 241) dX7_readPin_236 rfl rfl (by split <;> exact ⟨by omega, by omega⟩) ⟨by omega, by omega⟩ (fun h236 => ?_) (fun h236 => ?_)
        · have hyc : 48 + 0 ≤ (c3 : Int) ∧ (c3 : Int) ≤ 48 + ((T.2.1 : Int) - 1) := Decidable.byContradiction fun q => h236 (by rw [if_neg q])
          rw [if_pos hyc] at D3 ⊢
          refine ac_aload_n (q := 242) dX7_readPin_241 rfl rfl ?_
          refine ac_get (q := 245) dX7_readPin_242 fl_X7_17 (by assumption) rfl (ac_rdr rfl hM9.1.2.1) ?_
          refine ac_bipush (q := 247) dX7_readPin_245 rfl (by decide) ?_
          refine ac_bipush (q := 249) dX7_readPin_247 rfl (by decide) ?_
          refine ac_iload_n (q := 250) dX7_readPin_249 rfl rfl ?_
          refine ac_imul (q := 251) dX7_readPin_250 rfl ?_
          refine ac_iadd (q := 252) dX7_readPin_251 rfl ?_
          refine ac_top (w' := (0, ((18 + 10 * w : Nat) : Int))) (congrArg (fun z : Int => ((0 : Nat), z)) (by omega)) ?_
          refine ac_iload (q := 254) dX7_readPin_252 rfl rfl ?_
          refine ac_iadd (q := 255) dX7_readPin_254 rfl ?_
          refine ac_top (w' := (0, ((18 + 10 * w + u : Nat) : Int))) (congrArg (fun z : Int => ((0 : Nat), z)) (by omega)) ?_
          refine ac_iconst (q := 256) dX7_readPin_255 rfl ?_
          refine ac_isub (q := 257) dX7_readPin_256 rfl ?_
          refine ac_top (w' := (0, ((17 + (10 * w + u) : Nat) : Int))) (congrArg (fun z : Int => ((0 : Nat), z)) (by omega)) ?_
          refine ac_iload (q := 259) dX7_readPin_257 rfl rfl ?_
          refine ac_iconst (q := 260) dX7_readPin_259 rfl ?_
          refine ac_iadd (q := 261) dX7_readPin_260 rfl ?_
          refine ac_iastoreN (q := 262) (j := 17 + (10 * w + u)) dX7_readPin_261 k2 (by decide) (by omega) rfl ?_
          refine ac_iconst (q := 263) dX7_readPin_262 rfl ?_
          refine ac_zreturn dX7_readPin_263 rfl (by first | exact ac_b01 | omega) (Nat.zero_le _) (Nat.zero_le _) ?_
          have he : (ac_pinp T.1 T.2.1 T.2.2.2.1 s (p + 1)) = (p + 4, some (10 * w + u, c3 - 48)) := by rw [hpp, he1, if_neg hne, if_pos (by omega)]
          rw [if_pos hhas, he]
          refine ⟨ac_l1 ⟨hhas, rfl⟩, rfl, ac_RD_up2 D3, fun q h hq => ?_, ac_fQ_t (ac_fP_Q F3) ac_fQ_up⟩
          cases hq
          have hcc : (if 0 ≤ (c3 : Int) - 48 ∧ (c3 : Int) - 48 < (T.2.1 : Int) then (c3 : Int) - 48 else -1) = ((c3 - 48 : Nat) : Int) := by rw [if_pos (by omega)]; omega
          have := ac_RP_pin (m := ac_up m3 (x + 2) (17 + (10 * w + u)) ((c3 : Int) - 48 + 1)) (x := 10 * w + u) (c := (c3 : Int) - 48) rP3 (by omega) (fun j => by rw [hcc, show ((c3 - 48 : Nat) : Int) = (c3 : Int) - 48 by omega]; unfold ac_up; simp)
          rw [hcc] at this
          exact this
        · have hyc : ¬ (48 + 0 ≤ (c3 : Int) ∧ (c3 : Int) ≤ 48 + ((T.2.1 : Int) - 1)) := fun q => by rw [if_pos q] at h236; omega
          rw [if_neg hyc] at D3
          refine ac_iconst (q := 240) dX7_readPin_239 rfl ?_
          refine ac_zreturn dX7_readPin_240 rfl (by first | exact ac_b01 | omega) (Nat.zero_le _) (Nat.zero_le _) ?_
          have he : (ac_pinp T.1 T.2.1 T.2.2.2.1 s (p + 1)) = (p + 3, none) := by rw [hpp, he1, if_neg hne, if_neg (by omega)]
          rw [if_pos hhas, he]
          exact ⟨ac_l0 (fun q => by cases q.2), rfl, D3, (fun q h hq => by cases hq), ac_fP_Q F3⟩
      · refine ac_iconst (q := 207) dX7_readPin_206 rfl ?_
        refine ac_zreturn dX7_readPin_207 rfl (by first | exact ac_b01 | omega) (Nat.zero_le _) (Nat.zero_le _) ?_
        have hnu : ¬ ac_oku T.1 T.2.2.2.1 c1 c2 := by
          rintro ⟨q1, q2, q3⟩
          first
            | omega
            | (have e9 : 10 * (c1 - 48) + (c2 - 48) = 10 * w + u := by omega
               rw [e9] at q2 q3
               exact h203 ⟨q2, q3⟩)
        have he1 : ac_nump T.1 T.2.2.2.1 s (p + 1) = (p + 2, 0) := by rw [hnn, if_pos hok, if_neg hnu]
        have he : (ac_pinp T.1 T.2.1 T.2.2.2.1 s (p + 1)) = (p + 2, none) := by rw [hpp, he1]; rfl
        rw [if_pos hhas, he]
        exact ⟨ac_l0 (fun q => by cases q.2), rfl, D2, (fun q h hq => by cases hq), ac_fP_Q f2⟩
  have second : ∀ (m : ac_M) (w : Int) (a1 : Int), (ac_pins T.2.2.2.1 T.1 < T.1) → (w = (c1 : Int) - 48 ∨ (w = 1000 ∧ c1 = 0)) → ac_RD m x s (p + 1) → ac_fP mm m x → ac_V G (RX7, "readPin") cX7_readPin 6 (some .boolean) d 0 0 (ac_R Y [(0, ac_b ((ac_pins T.2.2.2.1 T.1 < T.1) ∧ (ac_pinp T.1 T.2.1 T.2.2.2.1 s (p + 1)).2.isSome = true))] (fun m => ac_RD m x s (if (ac_pins T.2.2.2.1 T.1 < T.1) then (ac_pinp T.1 T.2.1 T.2.2.2.1 s (p + 1)).1 else p) ∧ (∀ q, (ac_pins T.2.2.2.1 T.1 < T.1) → (ac_pinp T.1 T.2.1 T.2.2.2.1 s (p + 1)).2 = some q → ac_RP m (x + 2) (T.1, T.2.1, T.2.2.1, ac_sp T.2.2.2.1 q.1 q.2, T.2.2.2.2)) ∧ ac_fQ mm m x)) 0 0 Y m 79 [(2, (x : Int)), (0, a1), (0, 11), (3, 0), (3, 0), (3, 0)] [(0, w)] := by
    intro m w a1 hhas hw D1 f1
    have rP1 : ac_RP m (x + 2) T := ac_RP_keep rP (f1.1 _ (by omega))
    obtain ⟨⟨-, sz1, tx1⟩, pl1⟩ := id D1
    have htf := ac_tf_okt (pin := T.2.2.2.1) hn2 hw
    have loop : ac_V G (RX7, "readPin") cX7_readPin 6 (some .boolean) d 0 0 (ac_R Y [(0, ac_b ((ac_pins T.2.2.2.1 T.1 < T.1) ∧ (ac_pinp T.1 T.2.1 T.2.2.2.1 s (p + 1)).2.isSome = true))] (fun m => ac_RD m x s (if (ac_pins T.2.2.2.1 T.1 < T.1) then (ac_pinp T.1 T.2.1 T.2.2.2.1 s (p + 1)).1 else p) ∧ (∀ q, (ac_pins T.2.2.2.1 T.1 < T.1) → (ac_pinp T.1 T.2.1 T.2.2.2.1 s (p + 1)).2 = some q → ac_RP m (x + 2) (T.1, T.2.1, T.2.2.1, ac_sp T.2.2.2.1 q.1 q.2, T.2.2.2.2)) ∧ ac_fQ mm m x)) 0 0 Y m 132 [(2, (x : Int)), (0, a1), (0, w), (0, ac_b (ac_tf T.1 T.2.2.2.1 w 10 = true)), (0, ((10 : Nat) : Int)), (3, 0)] [] → ∀ (f i : Nat), i + f = 10 → ac_V G (RX7, "readPin") cX7_readPin 6 (some .boolean) d 0 0 (ac_R Y [(0, ac_b ((ac_pins T.2.2.2.1 T.1 < T.1) ∧ (ac_pinp T.1 T.2.1 T.2.2.2.1 s (p + 1)).2.isSome = true))] (fun m => ac_RD m x s (if (ac_pins T.2.2.2.1 T.1 < T.1) then (ac_pinp T.1 T.2.1 T.2.2.2.1 s (p + 1)).1 else p) ∧ (∀ q, (ac_pins T.2.2.2.1 T.1 < T.1) → (ac_pinp T.1 T.2.1 T.2.2.2.1 s (p + 1)).2 = some q → ac_RP m (x + 2) (T.1, T.2.1, T.2.2.1, ac_sp T.2.2.2.1 q.1 q.2, T.2.2.2.2)) ∧ ac_fQ mm m x)) 0 0 Y m 85 [(2, (x : Int)), (0, a1), (0, w), (0, ac_b (ac_tf T.1 T.2.2.2.1 w i = true)), (0, ((i : Nat) : Int)), (3, 0)] [] := by
      intro hK f
      induction f with
      | zero =>
        intro i hi
        obtain rfl : i = 10 := by omega
        refine ac_iload (q := 87) dX7_readPin_85 rfl rfl ?_
        refine ac_bipush (q := 89) dX7_readPin_87 rfl (by decide) ?_
        refine ac_icmp_ge (q := 92) (tgt := 132) dX7_readPin_89 rfl rfl ⟨by omega, by omega⟩ ⟨by omega, by omega⟩ (fun h89 => ?_) (fun h89 => ?_)
        · exact hK
        · exfalso; omega
      | succ f ih =>
        intro i hi
        have ei : ((i : Nat) : Int) + 1 = ((i + 1 : Nat) : Int) := rfl
        have hs := ih (i + 1) (by omega)
        by_cases hb : ac_tf T.1 T.2.2.2.1 w i = true
        · have hn : ac_tf T.1 T.2.2.2.1 w (i + 1) = true := by rw [ac_tf, hb]; rfl
          rw [ac_b1 hb]
          rw [ac_b1 hn] at hs
          refine ac_iload (q := 87) dX7_readPin_85 rfl rfl ?_
          refine ac_bipush (q := 89) dX7_readPin_87 rfl (by decide) ?_
          refine ac_icmp_ge (q := 92) (tgt := 132) dX7_readPin_89 rfl rfl ⟨by omega, by omega⟩ ⟨by omega, by omega⟩ (fun h89 => ?_) (fun h89 => ?_)
          · exfalso; omega
          · refine ac_iload_n (q := 93) dX7_readPin_92 rfl rfl ?_
            refine ac_if_ne (q := 96) (tgt := 120) dX7_readPin_93 rfl rfl ⟨by omega, by omega⟩ (fun h93 => ?_) (fun h93 => ?_)
            · refine ac_iconst (q := 121) dX7_readPin_120 rfl ?_
              refine ac_goto (q := 125) dX7_readPin_121 rfl ?_
              refine ac_istore_n (q := 126) (j := 3) rfl dX7_readPin_125 rfl (Nat.le_of_ble_eq_true rfl) rfl rfl ?_
              simp only [List.set_cons_succ, List.set_cons_zero]
              refine ac_iinc (q := 129) dX7_readPin_126 rfl (Nat.le_of_ble_eq_true rfl) rfl rfl rfl rfl ?_
              simp only [List.set_cons_succ, List.set_cons_zero]
              refine ac_goto (q := 85) dX7_readPin_129 rfl ?_
              exact ac_ls (by rw [ei]) hs
            · exact absurd h93 (by decide)
        · rw [ac_b0 hb]
          refine ac_iload (q := 87) dX7_readPin_85 rfl rfl ?_
          refine ac_bipush (q := 89) dX7_readPin_87 rfl (by decide) ?_
          refine ac_icmp_ge (q := 92) (tgt := 132) dX7_readPin_89 rfl rfl ⟨by omega, by omega⟩ ⟨by omega, by omega⟩ (fun h89 => ?_) (fun h89 => ?_)
          · exfalso; omega
          · refine ac_iload_n (q := 93) dX7_readPin_92 rfl rfl ?_
            refine ac_if_ne (q := 96) (tgt := 120) dX7_readPin_93 rfl rfl ⟨by omega, by omega⟩ (fun h93 => ?_) (fun h93 => ?_)
            · exact absurd h93 (by decide)
            · refine ac_iload_n (q := 97) dX7_readPin_96 rfl rfl ?_
              refine ac_i2l (q := 98) dX7_readPin_97 rfl ⟨by omega, by omega⟩ ?_
              refine ac_lconst (q := 99) (v := 0) dX7_readPin_98 rfl (by decide) ?_
              refine ac_lconst (q := 100) (v := 1) dX7_readPin_99 rfl (by decide) ?_
              refine ac_csp (q := 103) (k_X7_in (d := d - 1) (by omega) ⟨by omega, by omega⟩ ⟨by omega, by omega⟩ ⟨by omega, by omega⟩) ml_X7_72 dX7_readPin_100 rfl rfl rfl (by omega) (Nat.le_of_ble_eq_true rfl) (Nat.zero_le _) (Nat.zero_le _) ?_
              refine ac_bif_eq (q := 106) (tgt := 124) dX7_readPin_103 rfl rfl (fun h103 => ?_) (fun h103 => ?_)
              · have hn : ¬ ac_tf T.1 T.2.2.2.1 w (i + 1) = true := by rw [ac_tf, Bool.or_eq_true, decide_eq_true_eq]; exact fun q => q.elim hb (fun q => h103 q.1)
                rw [ac_b0 hn] at hs
                refine ac_iconst (q := 125) dX7_readPin_124 rfl ?_
                refine ac_istore_n (q := 126) (j := 3) rfl dX7_readPin_125 rfl (Nat.le_of_ble_eq_true rfl) rfl rfl ?_
                simp only [List.set_cons_succ, List.set_cons_zero]
                refine ac_iinc (q := 129) dX7_readPin_126 rfl (Nat.le_of_ble_eq_true rfl) rfl rfl rfl rfl ?_
                simp only [List.set_cons_succ, List.set_cons_zero]
                refine ac_goto (q := 85) dX7_readPin_129 rfl ?_
                exact ac_ls (by rw [ei]) hs
              · refine ac_aload_n (q := 107) dX7_readPin_106 rfl rfl ?_
                refine ac_bipush (q := 109) dX7_readPin_107 rfl (by decide) ?_
                refine ac_iload_n (q := 110) dX7_readPin_109 rfl rfl ?_
                refine ac_imul (q := 111) dX7_readPin_110 rfl ?_
                refine ac_iload (q := 113) dX7_readPin_111 rfl rfl ?_
                refine ac_iadd (q := 114) dX7_readPin_113 rfl ?_
                refine ac_top (w' := (0, ((10 * w.toNat + i : Nat) : Int))) (congrArg (fun z : Int => ((0 : Nat), z)) (by omega)) ?_
                refine ac_cvp (q := 117) (k_X7_isBare (T := T) (i := 10 * w.toNat + i) (d := d - 1) (by omega) hM9 rP1 (by omega)) ml_X7_92 (by assumption) dX7_readPin_114 rfl rfl rfl (by omega) (Nat.le_of_ble_eq_true rfl) (Nat.zero_le _) (Nat.zero_le _) ?_
                refine ac_bif_eq (q := 120) (tgt := 124) dX7_readPin_117 rfl rfl (fun h117 => ?_) (fun h117 => ?_)
                · have hn : ¬ ac_tf T.1 T.2.2.2.1 w (i + 1) = true := by rw [ac_tf, Bool.or_eq_true, decide_eq_true_eq]; exact fun q => q.elim hb (fun q => h117 q.2)
                  rw [ac_b0 hn] at hs
                  refine ac_iconst (q := 125) dX7_readPin_124 rfl ?_
                  refine ac_istore_n (q := 126) (j := 3) rfl dX7_readPin_125 rfl (Nat.le_of_ble_eq_true rfl) rfl rfl ?_
                  simp only [List.set_cons_succ, List.set_cons_zero]
                  refine ac_iinc (q := 129) dX7_readPin_126 rfl (Nat.le_of_ble_eq_true rfl) rfl rfl rfl rfl ?_
                  simp only [List.set_cons_succ, List.set_cons_zero]
                  refine ac_goto (q := 85) dX7_readPin_129 rfl ?_
                  exact ac_ls (by rw [ei]) hs
                · have hn : ac_tf T.1 T.2.2.2.1 w (i + 1) = true := by rw [ac_tf, Bool.or_eq_true, decide_eq_true_eq]; exact Or.inr ⟨h103, h117⟩
                  rw [ac_b1 hn] at hs
                  refine ac_iconst (q := 121) dX7_readPin_120 rfl ?_
                  refine ac_goto (q := 125) dX7_readPin_121 rfl ?_
                  refine ac_istore_n (q := 126) (j := 3) rfl dX7_readPin_125 rfl (Nat.le_of_ble_eq_true rfl) rfl rfl ?_
                  simp only [List.set_cons_succ, List.set_cons_zero]
                  refine ac_iinc (q := 129) dX7_readPin_126 rfl (Nat.le_of_ble_eq_true rfl) rfl rfl rfl rfl ?_
                  simp only [List.set_cons_succ, List.set_cons_zero]
                  refine ac_goto (q := 85) dX7_readPin_129 rfl ?_
                  exact ac_ls (by rw [ei]) hs
    have hK : ac_V G (RX7, "readPin") cX7_readPin 6 (some .boolean) d 0 0 (ac_R Y [(0, ac_b ((ac_pins T.2.2.2.1 T.1 < T.1) ∧ (ac_pinp T.1 T.2.1 T.2.2.2.1 s (p + 1)).2.isSome = true))] (fun m => ac_RD m x s (if (ac_pins T.2.2.2.1 T.1 < T.1) then (ac_pinp T.1 T.2.1 T.2.2.2.1 s (p + 1)).1 else p) ∧ (∀ q, (ac_pins T.2.2.2.1 T.1 < T.1) → (ac_pinp T.1 T.2.1 T.2.2.2.1 s (p + 1)).2 = some q → ac_RP m (x + 2) (T.1, T.2.1, T.2.2.1, ac_sp T.2.2.2.1 q.1 q.2, T.2.2.2.2)) ∧ ac_fQ mm m x)) 0 0 Y m 132 [(2, (x : Int)), (0, a1), (0, w), (0, ac_b (ac_tf T.1 T.2.2.2.1 w 10 = true)), (0, ((10 : Nat) : Int)), (3, 0)] [] := by
      refine ac_iload_n (q := 133) dX7_readPin_132 rfl rfl ?_
      refine ac_bif_ne (q := 136) (tgt := 138) dX7_readPin_133 rfl rfl (fun h133 => ?_) (fun h133 => ?_)
      · have hok : ac_okt T.1 T.2.2.2.1 c1 := htf.mp h133
        have hcr : c1 = 48 ∨ c1 = 49 := by
          rcases hok with q | q
          · exact Or.inl q.1
          · exact Or.inr q.1
        obtain ⟨w, rfl⟩ := Int.eq_ofNat_of_zero_le (a := w) (by omega)
        refine ac_aload_n (q := 139) dX7_readPin_138 rfl rfl ?_
        refine ac_dup (q := 140) dX7_readPin_139 rfl (show (2 : Nat) ≠ 1 by decide) ?_
        refine ac_get (q := 143) dX7_readPin_140 fl_X7_79 kx rfl (ac_rdi (v := ((p + 1 : Nat) : Int)) rfl pl1) ?_
        refine ac_iconst (q := 144) dX7_readPin_143 rfl ?_
        refine ac_iadd (q := 145) dX7_readPin_144 rfl ?_
        refine ac_top (w' := (0, ((p + 2 : Nat) : Int))) (congrArg (fun z : Int => ((0 : Nat), z)) (by omega)) ?_
        refine ac_put (q := 148) dX7_readPin_145 fl_X7_79 (by assumption) rfl rfl ?_
        have D2 := ac_RD_up (q := p + 2) D1
        have f2 : ac_fP mm (ac_up m x 3 ((p + 2 : Nat) : Int)) x := ac_fP_t f1 ac_fP_up
        generalize ac_up m x 3 ((p + 2 : Nat) : Int) = m2 at *
        obtain ⟨⟨-, sz2, tx2⟩, pl2⟩ := id D2
        refine ac_aload_n (q := 149) dX7_readPin_148 rfl rfl ?_
        refine ac_get (q := 152) dX7_readPin_149 fl_X7_79 kx rfl (ac_rdi (v := ((p + 2 : Nat) : Int)) rfl pl2) ?_
        refine ac_aload_n (q := 153) dX7_readPin_152 rfl rfl ?_
        refine ac_get (q := 156) dX7_readPin_153 fl_X7_76 kx rfl (ac_rdi rfl sz2) ?_
        refine ac_icmp_ge (q := 159) (tgt := 174) dX7_readPin_156 rfl rfl ⟨by omega, by omega⟩ ⟨by omega, by omega⟩ (fun h156 => ?_) (fun h156 => ?_)
        · have hz2 : c2 = 0 := by rw [hc2]; exact ac_chN (by omega)
          refine ac_sipush (q := 177) dX7_readPin_174 rfl (by decide) ?_
          first
            | exact third m2 _ w _ _ _ hhas (by omega) (by omega) hok (Or.inl rfl) D2 f2
            | exact third m2 _ w _ _ _ hhas (by omega) (by omega) hok (Or.inr ⟨rfl, hz2⟩) D2 f2
        · refine ac_aload_n (q := 160) dX7_readPin_159 rfl rfl ?_
          refine ac_get (q := 163) dX7_readPin_160 fl_X7_7 (by assumption) rfl (ac_rdr rfl hM9.1.1) ?_
          refine ac_aload_n (q := 164) dX7_readPin_163 rfl rfl ?_
          refine ac_get (q := 167) dX7_readPin_164 fl_X7_79 kx rfl (ac_rdi (v := ((p + 2 : Nat) : Int)) rfl pl2) ?_
          refine ac_ialoadN (q := 168) (j := p + 2) (v := (ac_ch s (p + 2) : Int)) dX7_readPin_167 k1 (by decide) (by omega) rfl (tx2 (p + 2) (by omega)) ?_
          rw [← hc2]
          refine ac_bipush (q := 170) dX7_readPin_168 rfl (by decide) ?_
          refine ac_isub (q := 171) dX7_readPin_170 rfl ?_
          refine ac_goto (q := 177) dX7_readPin_171 rfl ?_
          first
            | exact third m2 _ w _ _ _ hhas (by omega) (by omega) hok (Or.inl rfl) D2 f2
            | exact third m2 _ w _ _ _ hhas (by omega) (by omega) hok (Or.inr ⟨rfl, hz2⟩) D2 f2
      · refine ac_iconst (q := 137) dX7_readPin_136 rfl ?_
        refine ac_zreturn dX7_readPin_137 rfl (by first | exact ac_b01 | omega) (Nat.zero_le _) (Nat.zero_le _) ?_
        have hno : ¬ ac_okt T.1 T.2.2.2.1 c1 := fun q => h133 (htf.mpr q)
        have he1 : ac_nump T.1 T.2.2.2.1 s (p + 1) = (p + 1, 0) := by rw [hnn, if_neg hno]
        have he : (ac_pinp T.1 T.2.1 T.2.2.2.1 s (p + 1)) = (p + 1, none) := by rw [hpp, he1]; rfl
        rw [if_pos hhas, he]
        exact ⟨ac_l0 (fun q => by cases q.2), rfl, D1, (fun q h hq => by cases hq), ac_fP_Q f1⟩
    refine ac_istore_n (q := 80) (j := 2) rfl dX7_readPin_79 rfl (Nat.le_of_ble_eq_true rfl) rfl rfl ?_
    simp only [List.set_cons_succ, List.set_cons_zero]
    refine ac_iconst (q := 81) dX7_readPin_80 rfl ?_
    refine ac_istore_n (q := 82) (j := 3) rfl dX7_readPin_81 rfl (Nat.le_of_ble_eq_true rfl) rfl rfl ?_
    simp only [List.set_cons_succ, List.set_cons_zero]
    refine ac_iconst (q := 83) dX7_readPin_82 rfl ?_
    refine ac_istore (q := 85) dX7_readPin_83 rfl (Nat.le_of_ble_eq_true rfl) rfl rfl ?_
    simp only [List.set_cons_succ, List.set_cons_zero]
    exact loop hK 10 0 rfl
  have loop : ac_V G (RX7, "readPin") cX7_readPin 6 (some .boolean) d 0 0 (ac_R Y [(0, ac_b ((ac_pins T.2.2.2.1 T.1 < T.1) ∧ (ac_pinp T.1 T.2.1 T.2.2.2.1 s (p + 1)).2.isSome = true))] (fun m => ac_RD m x s (if (ac_pins T.2.2.2.1 T.1 < T.1) then (ac_pinp T.1 T.2.1 T.2.2.2.1 s (p + 1)).1 else p) ∧ (∀ q, (ac_pins T.2.2.2.1 T.1 < T.1) → (ac_pinp T.1 T.2.1 T.2.2.2.1 s (p + 1)).2 = some q → ac_RP m (x + 2) (T.1, T.2.1, T.2.2.1, ac_sp T.2.2.2.1 q.1 q.2, T.2.2.2.2)) ∧ ac_fQ mm m x)) 0 0 Y mm 34 [(2, (x : Int)), (0, ac_b (ac_lowf T.1 T.2.2.2.1 10 = true)), (0, ((10 + 1 : Nat) : Int)), (3, 0), (3, 0), (3, 0)] [] → ∀ (f i : Nat), i + f = 10 → ac_V G (RX7, "readPin") cX7_readPin 6 (some .boolean) d 0 0 (ac_R Y [(0, ac_b ((ac_pins T.2.2.2.1 T.1 < T.1) ∧ (ac_pinp T.1 T.2.1 T.2.2.2.1 s (p + 1)).2.isSome = true))] (fun m => ac_RD m x s (if (ac_pins T.2.2.2.1 T.1 < T.1) then (ac_pinp T.1 T.2.1 T.2.2.2.1 s (p + 1)).1 else p) ∧ (∀ q, (ac_pins T.2.2.2.1 T.1 < T.1) → (ac_pinp T.1 T.2.1 T.2.2.2.1 s (p + 1)).2 = some q → ac_RP m (x + 2) (T.1, T.2.1, T.2.2.1, ac_sp T.2.2.2.1 q.1 q.2, T.2.2.2.2)) ∧ ac_fQ mm m x)) 0 0 Y mm 4 [(2, (x : Int)), (0, ac_b (ac_lowf T.1 T.2.2.2.1 i = true)), (0, ((i + 1 : Nat) : Int)), (3, 0), (3, 0), (3, 0)] [] := by
    intro hK f
    induction f with
    | zero =>
      intro i hi
      obtain rfl : i = 10 := by omega
      refine ac_iload_n (q := 5) dX7_readPin_4 rfl rfl ?_
      refine ac_bipush (q := 7) dX7_readPin_5 rfl (by decide) ?_
      refine ac_icmp_gt (q := 10) (tgt := 34) dX7_readPin_7 rfl rfl ⟨by omega, by omega⟩ ⟨by omega, by omega⟩ (fun h7 => ?_) (fun h7 => ?_)
      · exact hK
      · exfalso; omega
    | succ f ih =>
      intro i hi
      have ei : ((i + 1 : Nat) : Int) + 1 = ((i + 1 + 1 : Nat) : Int) := rfl
      have hs := ih (i + 1) (by omega)
      have hiff := ac_lowf_iff (n := T.1) (pin := T.2.2.2.1) (c := i)
      have hiff2 := ac_lowf_iff (n := T.1) (pin := T.2.2.2.1) (c := i + 1)
      by_cases hb : ac_lowf T.1 T.2.2.2.1 i = true
      · have hn : ac_lowf T.1 T.2.2.2.1 (i + 1) = true := by rw [ac_lowf, hb]; rfl
        rw [ac_b1 hb]
        rw [ac_b1 hn] at hs
        refine ac_iload_n (q := 5) dX7_readPin_4 rfl rfl ?_
        refine ac_bipush (q := 7) dX7_readPin_5 rfl (by decide) ?_
        refine ac_icmp_gt (q := 10) (tgt := 34) dX7_readPin_7 rfl rfl ⟨by omega, by omega⟩ ⟨by omega, by omega⟩ (fun h7 => ?_) (fun h7 => ?_)
        · exfalso; omega
        · refine ac_iload_n (q := 11) dX7_readPin_10 rfl rfl ?_
          refine ac_if_ne (q := 14) (tgt := 22) dX7_readPin_11 rfl rfl ⟨by omega, by omega⟩ (fun h11 => ?_) (fun h11 => ?_)
          · refine ac_iconst (q := 23) dX7_readPin_22 rfl ?_
            refine ac_goto (q := 27) dX7_readPin_23 rfl ?_
            refine ac_istore_n (q := 28) (j := 1) rfl dX7_readPin_27 rfl (Nat.le_of_ble_eq_true rfl) rfl rfl ?_
            simp only [List.set_cons_succ, List.set_cons_zero]
            refine ac_iinc (q := 31) dX7_readPin_28 rfl (Nat.le_of_ble_eq_true rfl) rfl rfl rfl rfl ?_
            simp only [List.set_cons_succ, List.set_cons_zero]
            refine ac_goto (q := 4) dX7_readPin_31 rfl ?_
            exact ac_ls (by rw [ei]) hs
          · exact absurd h11 (by decide)
      · rw [ac_b0 hb]
        refine ac_iload_n (q := 5) dX7_readPin_4 rfl rfl ?_
        refine ac_bipush (q := 7) dX7_readPin_5 rfl (by decide) ?_
        refine ac_icmp_gt (q := 10) (tgt := 34) dX7_readPin_7 rfl rfl ⟨by omega, by omega⟩ ⟨by omega, by omega⟩ (fun h7 => ?_) (fun h7 => ?_)
        · exfalso; omega
        · refine ac_iload_n (q := 11) dX7_readPin_10 rfl rfl ?_
          refine ac_if_ne (q := 14) (tgt := 22) dX7_readPin_11 rfl rfl ⟨by omega, by omega⟩ (fun h11 => ?_) (fun h11 => ?_)
          · exact absurd h11 (by decide)
          · refine ac_aload_n (q := 15) dX7_readPin_14 rfl rfl ?_
            refine ac_iload_n (q := 16) dX7_readPin_15 rfl rfl ?_
            refine ac_cvp (q := 19) (k_X7_isBare (T := T) (i := i + 1) (d := d - 1) (by omega) hM9 rP (by omega)) ml_X7_92 (by assumption) dX7_readPin_16 rfl rfl rfl (by omega) (Nat.le_of_ble_eq_true rfl) (Nat.zero_le _) (Nat.zero_le _) ?_
            refine ac_bif_eq (q := 22) (tgt := 26) dX7_readPin_19 rfl rfl (fun h19 => ?_) (fun h19 => ?_)
            · have hn : ¬ ac_lowf T.1 T.2.2.2.1 (i + 1) = true := by
                rw [hiff2]
                rintro ⟨j, j1, j2⟩
                by_cases hj : j = i + 1
                · subst hj; exact h19 j2
                · exact hb (hiff.mpr ⟨j, by omega, j2⟩)
              rw [ac_b0 hn] at hs
              refine ac_iconst (q := 27) dX7_readPin_26 rfl ?_
              refine ac_istore_n (q := 28) (j := 1) rfl dX7_readPin_27 rfl (Nat.le_of_ble_eq_true rfl) rfl rfl ?_
              simp only [List.set_cons_succ, List.set_cons_zero]
              refine ac_iinc (q := 31) dX7_readPin_28 rfl (Nat.le_of_ble_eq_true rfl) rfl rfl rfl rfl ?_
              simp only [List.set_cons_succ, List.set_cons_zero]
              refine ac_goto (q := 4) dX7_readPin_31 rfl ?_
              exact ac_ls (by rw [ei]) hs
            · have hn : ac_lowf T.1 T.2.2.2.1 (i + 1) = true := hiff2.mpr ⟨i + 1, Nat.le_refl _, h19⟩
              rw [ac_b1 hn] at hs
              refine ac_iconst (q := 23) dX7_readPin_22 rfl ?_
              refine ac_goto (q := 27) dX7_readPin_23 rfl ?_
              refine ac_istore_n (q := 28) (j := 1) rfl dX7_readPin_27 rfl (Nat.le_of_ble_eq_true rfl) rfl rfl ?_
              simp only [List.set_cons_succ, List.set_cons_zero]
              refine ac_iinc (q := 31) dX7_readPin_28 rfl (Nat.le_of_ble_eq_true rfl) rfl rfl rfl rfl ?_
              simp only [List.set_cons_succ, List.set_cons_zero]
              refine ac_goto (q := 4) dX7_readPin_31 rfl ?_
              exact ac_ls (by rw [ei]) hs
  have hK : ac_V G (RX7, "readPin") cX7_readPin 6 (some .boolean) d 0 0 (ac_R Y [(0, ac_b ((ac_pins T.2.2.2.1 T.1 < T.1) ∧ (ac_pinp T.1 T.2.1 T.2.2.2.1 s (p + 1)).2.isSome = true))] (fun m => ac_RD m x s (if (ac_pins T.2.2.2.1 T.1 < T.1) then (ac_pinp T.1 T.2.1 T.2.2.2.1 s (p + 1)).1 else p) ∧ (∀ q, (ac_pins T.2.2.2.1 T.1 < T.1) → (ac_pinp T.1 T.2.1 T.2.2.2.1 s (p + 1)).2 = some q → ac_RP m (x + 2) (T.1, T.2.1, T.2.2.1, ac_sp T.2.2.2.1 q.1 q.2, T.2.2.2.2)) ∧ ac_fQ mm m x)) 0 0 Y mm 34 [(2, (x : Int)), (0, ac_b (ac_lowf T.1 T.2.2.2.1 10 = true)), (0, ((10 + 1 : Nat) : Int)), (3, 0), (3, 0), (3, 0)] [] := by
    refine ac_iload_n (q := 35) dX7_readPin_34 rfl rfl ?_
    refine ac_bif_ne (q := 38) (tgt := 40) dX7_readPin_35 rfl rfl (fun h35 => ?_) (fun h35 => ?_)
    · refine ac_aload_n (q := 41) dX7_readPin_40 rfl rfl ?_
      refine ac_dup (q := 42) dX7_readPin_41 rfl (show (2 : Nat) ≠ 1 by decide) ?_
      refine ac_get (q := 45) dX7_readPin_42 fl_X7_79 kx rfl (ac_rdi (v := ((p : Nat) : Int)) rfl hpl) ?_
      refine ac_iconst (q := 46) dX7_readPin_45 rfl ?_
      refine ac_iadd (q := 47) dX7_readPin_46 rfl ?_
      refine ac_top (w' := (0, ((p + 1 : Nat) : Int))) (congrArg (fun z : Int => ((0 : Nat), z)) (by omega)) ?_
      refine ac_put (q := 50) dX7_readPin_47 fl_X7_79 (by assumption) rfl rfl ?_
      have hhas := (ac_lowf_pins hn2).mp h35
      have D1 := ac_RD_up (q := p + 1) hD
      have f1 : ac_fP mm (ac_up mm x 3 ((p + 1 : Nat) : Int)) x := ac_fP_up
      generalize ac_up mm x 3 ((p + 1 : Nat) : Int) = m1 at *
      obtain ⟨⟨-, sz1, tx1⟩, pl1⟩ := id D1
      refine ac_aload_n (q := 51) dX7_readPin_50 rfl rfl ?_
      refine ac_get (q := 54) dX7_readPin_51 fl_X7_79 kx rfl (ac_rdi (v := ((p + 1 : Nat) : Int)) rfl pl1) ?_
      refine ac_aload_n (q := 55) dX7_readPin_54 rfl rfl ?_
      refine ac_get (q := 58) dX7_readPin_55 fl_X7_76 kx rfl (ac_rdi rfl sz1) ?_
      refine ac_icmp_ge (q := 61) (tgt := 76) dX7_readPin_58 rfl rfl ⟨by omega, by omega⟩ ⟨by omega, by omega⟩ (fun h58 => ?_) (fun h58 => ?_)
      · have hz1 : c1 = 0 := by rw [hc1]; exact ac_chN (by omega)
        refine ac_sipush (q := 79) dX7_readPin_76 rfl (by decide) ?_
        first
          | exact second m1 _ _ hhas (Or.inl rfl) D1 f1
          | exact second m1 _ _ hhas (Or.inr ⟨rfl, hz1⟩) D1 f1
      · refine ac_aload_n (q := 62) dX7_readPin_61 rfl rfl ?_
        refine ac_get (q := 65) dX7_readPin_62 fl_X7_7 (by assumption) rfl (ac_rdr rfl hM9.1.1) ?_
        refine ac_aload_n (q := 66) dX7_readPin_65 rfl rfl ?_
        refine ac_get (q := 69) dX7_readPin_66 fl_X7_79 kx rfl (ac_rdi (v := ((p + 1 : Nat) : Int)) rfl pl1) ?_
        refine ac_ialoadN (q := 70) (j := p + 1) (v := (ac_ch s (p + 1) : Int)) dX7_readPin_69 k1 (by decide) (by omega) rfl (tx1 (p + 1) (by omega)) ?_
        rw [← hc1]
        refine ac_bipush (q := 72) dX7_readPin_70 rfl (by decide) ?_
        refine ac_isub (q := 73) dX7_readPin_72 rfl ?_
        refine ac_goto (q := 79) dX7_readPin_73 rfl ?_
        first
          | exact second m1 _ _ hhas (Or.inl rfl) D1 f1
          | exact second m1 _ _ hhas (Or.inr ⟨rfl, hz1⟩) D1 f1
    · refine ac_iconst (q := 39) dX7_readPin_38 rfl ?_
      refine ac_zreturn dX7_readPin_39 rfl (by first | exact ac_b01 | omega) (Nat.zero_le _) (Nat.zero_le _) ?_
      have hno : ¬ ac_pins T.2.2.2.1 T.1 < T.1 := fun q => h35 ((ac_lowf_pins hn2).mpr q)
      rw [if_neg hno]
      exact ⟨ac_l0 (fun q => hno q.1), rfl, hD, fun q h => absurd h hno, ac_fQ_r mm x⟩
  refine ac_met (on := (RX7, "readPin")) rfl rfl (Nat.le_of_ble_eq_true rfl) (ls := [(2, (x : Int)), (3, 0), (3, 0), (3, 0), (3, 0), (3, 0)]) rfl ?_
  refine ac_iconst (q := 1) dX7_readPin_0 rfl ?_
  refine ac_istore_n (q := 2) (j := 1) rfl dX7_readPin_1 rfl (Nat.le_of_ble_eq_true rfl) rfl rfl ?_
  simp only [List.set_cons_succ, List.set_cons_zero]
  refine ac_iconst (q := 3) dX7_readPin_2 rfl ?_
  refine ac_istore_n (q := 4) (j := 2) rfl dX7_readPin_3 rfl (Nat.le_of_ble_eq_true rfl) rfl rfl ?_
  simp only [List.set_cons_succ, List.set_cons_zero]
  exact loop hK 10 0 rfl
