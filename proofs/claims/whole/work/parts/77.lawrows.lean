/-! rows for the law -/
def ac_lnd (a b : Int) : Int := (Int64.ofInt a &&& Int64.ofInt b).toInt
def ac_lrr (a b : Int) : Int := (Int64.ofInt a ||| Int64.ofInt b).toInt
theorem ac_il_t (v : Int64) : ac_il v.toInt := by
  unfold ac_il
  have h1 := Int64.le_toInt v
  have h2 := Int64.toInt_lt v
  exact ⟨by simpa using h1, by simpa using h2⟩
theorem ac_and31 (a : Int) : ∃ v : Int, (0 ≤ v ∧ v < 32) ∧ Int32.ofInt a &&& Int32.ofInt 31 = Int32.ofInt v := by
  have e : Int32.ofInt a = Int32.ofInt (((a % 4294967296).toNat : Nat) : Int) := by
    apply Int32.toBitVec.inj
    rw [Int32.toBitVec_ofInt, Int32.toBitVec_ofInt]
    apply BitVec.eq_of_toNat_eq
    rw [BitVec.toNat_ofInt, BitVec.toNat_ofInt]
    have e2 : ((2 ^ 32 : Nat) : Int) = 4294967296 := rfl
    rw [e2]
    omega
  refine ⟨(((a % 4294967296).toNat &&& 31 : Nat) : Int), ⟨by omega, ?_⟩, ?_⟩
  · have : (a % 4294967296).toNat &&& 31 ≤ 31 := Nat.and_le_right
    omega
  · rw [e]; exact ac_and _ 31
section AcLaw
variable {G : ac_G} {on : String × String} {cc : ByteArray} {nL : Nat} {ret : Option FieldType} {d mc ms : Nat} {P : ac_P} {ck cn : Nat} {Y : ac_Y} {mm : ac_M} {pc q : Nat} {ls st : List (Nat × Int)}
theorem ac_aload_a {i : Fin 4} {x : Int} (hdg : decode cc pc = .ok (.aload_n i, 1)) (hq : pc + 1 = q) (hl : ls[(i : Nat)]? = some (4, x)) (kk : ac_V G on cc nL ret d mc ms P ck cn Y mm q ls ((4, x) :: st)) : ac_V G on cc nL ret d mc ms P ck cn Y mm pc ls st := by
  intro p e s m args below meth c H locs la X hz hH hS hL
  subst hq
  have h := kk p e s m args below meth c H locs la X hz hH hS hL
  have g := ac_lget hL hl (show (4:Nat) ≠ 3 by decide)
  simp only [List.map_cons, ac_v] at g h
  exact lv_aload_n X.1 X.2.1 hdg rfl g h
theorem ac_iand31 {a : Int} (hdg : decode cc pc = .ok (.iand, 1)) (hq : pc + 1 = q) (kk : ∀ v : Int, (0 ≤ v ∧ v < 32) → ac_V G on cc nL ret d mc ms P ck cn Y mm q ls ((0, v) :: st)) : ac_V G on cc nL ret d mc ms P ck cn Y mm pc ls ((0, 31) :: (0, a) :: st) := by
  intro p e s m args below meth c H locs la X hz hH hS hL
  subst hq
  obtain ⟨v, hv, ev⟩ := ac_and31 a
  have h := kk v hv p e s m args below meth c H locs la X hz hH hS hL
  refine lv_iand X.1 X.2.1 hdg ?_
  rw [ev]
  exact h
theorem ac_land {a b : Int} (hdg : decode cc pc = .ok (.land, 1)) (hq : pc + 1 = q) (kk : ac_V G on cc nL ret d mc ms P ck cn Y mm q ls ((1, ac_lnd a b) :: st)) : ac_V G on cc nL ret d mc ms P ck cn Y mm pc ls ((1, b) :: (1, a) :: st) := by
  intro p e s m args below meth c H locs la X hz hH hS hL
  subst hq
  have h := kk p e s m args below meth c H locs la X hz hH hS hL
  refine lv_land X.1 X.2.1 hdg ?_
  have e1 : ac_v G.2.1 (1, ac_lnd a b) = .long (Int64.ofInt a &&& Int64.ofInt b) := by
    show Value.long (Int64.ofInt (ac_lnd a b)) = _
    unfold ac_lnd; rw [Int64.ofInt_toInt]
  rw [List.map_cons, e1] at h
  exact h
theorem ac_lor {a b : Int} (hdg : decode cc pc = .ok (.lor, 1)) (hq : pc + 1 = q) (kk : ac_V G on cc nL ret d mc ms P ck cn Y mm q ls ((1, ac_lrr a b) :: st)) : ac_V G on cc nL ret d mc ms P ck cn Y mm pc ls ((1, b) :: (1, a) :: st) := by
  intro p e s m args below meth c H locs la X hz hH hS hL
  subst hq
  have h := kk p e s m args below meth c H locs la X hz hH hS hL
  refine lv_lor X.1 X.2.1 hdg ?_
  have e1 : ac_v G.2.1 (1, ac_lrr a b) = .long (Int64.ofInt a ||| Int64.ofInt b) := by
    show Value.long (Int64.ofInt (ac_lrr a b)) = _
    unfold ac_lrr; rw [Int64.ofInt_toInt]
  rw [List.map_cons, e1] at h
  exact h
/-- the two answers are the same -/
theorem ac_same {x off : Int} {tgt : Nat} (hdg : decode cc pc = .ok (.if_icmp .eq off, 3)) (ht : (pc : Int) + off = (tgt : Int)) (kt : ac_V G on cc nL ret d mc ms P ck cn Y mm tgt ls st) : ac_V G on cc nL ret d mc ms P ck cn Y mm pc ls ((0, x) :: (0, x) :: st) := by
  intro p e s m args below meth c H locs la X hz hH hS hL
  refine lv_icmp_eq X.1 X.2.1 hdg ht (fun hh => kt p e s m args below meth c H locs la X hz hH hS hL) (fun hh => ?_)
  exact absurd rfl hh
theorem ac_lsame {x : Int} (hdg : decode cc pc = .ok (.lcmp, 1)) (hq : pc + 1 = q) (kk : ac_V G on cc nL ret d mc ms P ck cn Y mm q ls ((0, 0) :: st)) : ac_V G on cc nL ret d mc ms P ck cn Y mm pc ls ((1, x) :: (1, x) :: st) := by
  intro p e s m args below meth c H locs la X hz hH hS hL
  subst hq
  have h := kk p e s m args below meth c H locs la X hz hH hS hL
  refine W.lcmp X.1 X.2.1 hdg ?_
  rw [show lg_cmp (Int64.ofInt x) (Int64.ofInt x) = Int32.ofInt 0 by unfold lg_cmp; simp]
  exact h
theorem ac_script {j : Nat} {v : Int} (hdg : decode cc pc = .ok (.iaload, 1)) (hL2 : G.2.2.2.2.2.2.1 < 2147483648) (hj : j < G.2.2.2.2.2.2.1) (hv : v = G.2.2.2.2.2.2.2 j) (hq : pc + 1 = q) (kk : ac_V G on cc nL ret d mc ms P ck cn Y mm q ls ((0, v) :: st)) : ac_V G on cc nL ret d mc ms P ck cn Y mm pc ls ((0, (j : Int)) :: (4, (G.2.2.2.2.2.1 : Int)) :: st) :=
  ac_script_ld hdg hL2 ⟨by omega, by omega⟩ hq (by rw [Int.toNat_natCast, ← hv]; exact kk)
end AcLaw
section AcFf
variable {mm m : ac_M} {x : Nat} {s : List Nat} {T : ac_Tk} {hs : List ac_Tk} {s0 s1 : Option ac_Tk} {obs : List ac_Ob} {ch : Int}
theorem ac_RA_ff (h : ac_RA mm x s T hs s0 s1 obs ch) (hf : ∀ k, x ≤ k → k ≤ x + 103 → m k = mm k) : ac_RA m x s T hs s0 s1 obs ch := by
  obtain ⟨⟨p, hx⟩, h2, ⟨h3, h4⟩, h5, h6, ⟨E0, h7⟩, h8⟩ := h
  exact ⟨⟨p, ac_RX_keep hx (hf _ (by omega) (by omega)) (hf _ (by omega) (by omega))⟩, ac_RTk_keep h2 (hf _ (by omega) (by omega)) (hf _ (by omega) (by omega)) (hf _ (by omega) (by omega)) (hf _ (by omega) (by omega)), ⟨ac_sl_keep h3 (hf _ (by omega) (by omega)) (hf _ (by omega) (by omega)) (hf _ (by omega) (by omega)) (hf _ (by omega) (by omega)), ac_sl_keep h4 (hf _ (by omega) (by omega)) (hf _ (by omega) (by omega)) (hf _ (by omega) (by omega)) (hf _ (by omega) (by omega))⟩, ac_RH_keep h5 (fun k' a b => hf k' (by omega) (by omega)), ac_RS_keep h6 (hf _ (by omega) (by omega)) (hf _ (by omega) (by omega)) (hf _ (by omega) (by omega)), ⟨E0, ac_RC_keep h7 (hf _ (by omega) (by omega)) (hf _ (by omega) (by omega)) (hf _ (by omega) (by omega))⟩, by rw [hf x (by omega) (by omega)]; exact h8⟩
theorem ac_RM_ff (h : ac_RM mm x s T hs s0 s1 obs ch) (hf : ∀ k, x ≤ k → k ≤ x + 16 → m k = mm k) : ac_RM m x s T hs s0 s1 obs ch :=
  ac_RM_e h (fun k' hk' => hf k' (by omega) (by omega)) (fun j _ => by rw [hf x (by omega) (by omega)])
end AcFf
/-- what holds between two calls -/
def ac_iv (m : ac_M) : Prop := ∃ (s : List Nat) (T : ac_Tk) (hs : List ac_Tk) (s0 s1 : Option ac_Tk) (obs : List ac_Ob) (ch : Int), ac_RA m 1 s T hs s0 s1 obs ch ∧ ac_RM m 105 s T hs s0 s1 obs ch ∧ ac_okS T ∧ (∀ T' ∈ hs, ac_okS T') ∧ (∀ T', s0 = some T' → ac_okS T') ∧ ∀ T', s1 = some T' → ac_okS T'
theorem ac_stl_ok2 {T : ac_Tk} (h : ac_okK (ac_stl T).1 (ac_stl T).2.1 (ac_stl T).2.2.1 (ac_stl T).2.2.2.1 (ac_stl T).2.2.2.2) : ac_okS (ac_stl T) := by
  refine ⟨h, ?_⟩
  rw [(ac_stl_same (T := T)).2.2.2.2]
  unfold ac_stl
  by_cases hr : ac_rk T.2.2.2.2 (ac_Lt T) = -9
  · rw [if_pos hr]
    exact ⟨fun l hl => List.mem_of_mem_head? (by rw [show (ac_Lt T).head? = some l from hl]; rfl), fun hl => List.head?_eq_none_iff.mp hl⟩
  · rw [if_neg hr]
    refine ⟨fun l hl => ?_, fun hl => ?_⟩
    · rcases ac_rk_in (col := T.2.2.2.2) (ac_Lt_nodup T) with h1 | ⟨-, -, l', h1, h2⟩
      · exact absurd h1.1 hr
      · rw [hl] at h1; cases h1; exact h2
    · rw [hl] at hr; exact absurd (ac_rk_no (fun l h => by cases h)) hr
theorem ac_push_ok {T : ac_Tk} {hs : List ac_Tk} (h : ac_okS T) (h2 : ∀ T' ∈ hs, ac_okS T') : ∀ T' ∈ ac_push T hs, ac_okS T' := by
  intro T' hT
  rcases List.mem_cons.mp (List.mem_of_mem_take hT) with e | e
  · rw [e]; exact h
  · exact h2 T' e
theorem ac_go_ok {T : ac_Tk} {c : Int} {hs : List ac_Tk} (h : ac_okS T) (h2 : ∀ T' ∈ hs, ac_okS T') : ac_okS ((ac_go T c).elim T (fun l => ac_wcol T l)) ∧ ∀ T' ∈ (ac_go T c).elim hs (fun _ => ac_push T hs), ac_okS T' := by
  cases hg : ac_go T c with
  | none => exact ⟨h, h2⟩
  | some l =>
    have hl : l ∈ ac_Lt T := by
      unfold ac_go at hg
      split at hg
      · exact List.mem_of_getElem? hg
      · cases hg
    have h0 := h
    obtain ⟨⟨k1, k2, k3, k4, k5, k6⟩, -⟩ := h
    obtain ⟨q1, q2, -⟩ := (ac_Lt_mem k2.2).mp hl
    refine ⟨⟨⟨k1, k2, k3, k4, k5, fun l' hl' => ?_⟩, fun l' hl' => ?_, fun hn => by cases hn⟩, ac_push_ok h0 h2⟩
    · cases hl'; exact ⟨q1, q2⟩
    · cases hl'; exact hl
theorem ac_ite_ok {c : Prop} {_ : Decidable c} {A B : ac_Tk} (h1 : c → ac_okS A) (h2 : ac_okS B) : ac_okS (if c then A else B) := by
  by_cases h : c
  · rw [if_pos h]; exact h1 h
  · rw [if_neg h]; exact h2
theorem ac_ite_oks {c : Prop} {_ : Decidable c} {A B : List ac_Tk} (h1 : c → ∀ T' ∈ A, ac_okS T') (h2 : ∀ T' ∈ B, ac_okS T') : ∀ T' ∈ (if c then A else B), ac_okS T' := by
  by_cases h : c
  · rw [if_pos h]; exact h1 h
  · rw [if_neg h]; exact h2
theorem ac_ite_oko {c : Prop} {_ : Decidable c} {A B : Option ac_Tk} (h1 : c → ∀ T', A = some T' → ac_okS T') (h2 : ∀ T', B = some T' → ac_okS T') : ∀ T', (if c then A else B) = some T' → ac_okS T' := by
  by_cases h : c
  · rw [if_pos h]; exact h1 h
  · rw [if_neg h]; exact h2
