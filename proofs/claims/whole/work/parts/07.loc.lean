/-- the slot before isn't the first half of a long -/
def ac_okl (ls : List (Nat × Int)) (i : Nat) : Bool := match i with
  | 0 => true
  | k + 1 => match ls[k]? with
    | some (1, _) => false
    | _ => true
theorem ac_okl_spec {ls : List (Nat × Int)} {i k : Nat} {w : Nat × Int} (h : ac_okl ls i = true) (hk : k + 1 = i) (hw : ls[k]? = some w) : w.1 ≠ 1 := by
  subst hk
  intro h1
  obtain ⟨a, x⟩ := w
  have h1 : a = 1 := h1
  subst h1
  simp [ac_okl, hw] at h
theorem ac_cat {base : Nat} {w : Nat × Int} (h : w.1 ≠ 1) : ((ac_v base w).category == 2) = false := by rw [ac_cat1 h]; rfl
theorem ac_set1 {base nL : Nat} {la : Array Slot} {ls : List (Nat × Int)} {i : Nat} {w : Nat × Int} (hok : ac_okl ls i = true) (h : lv_has la nL ((i, ac_v base w) :: (ac_enc base ls).filter (fun q => !(q.1 == i) && !(q.1 + 1 == i && q.2.category == 2)))) : lv_has la nL (ac_enc base (ls.set i w)) := by
  refine ac_lweak h fun q hq => ?_
  obtain ⟨u, h1, h2, h3⟩ := ac_enc_mem.mp hq
  obtain ⟨k, v⟩ := q
  simp only at h1 h3
  subst h3
  rw [List.getElem?_set] at h1
  by_cases hi : i = k
  · subst hi
    rw [if_pos rfl] at h1
    split at h1
    · cases h1; exact List.mem_cons_self
    · cases h1
  · rw [if_neg hi] at h1
    refine List.mem_cons_of_mem _ (List.mem_filter.mpr ⟨ac_enc_mem.mpr ⟨u, h1, h2, rfl⟩, ?_⟩)
    have hki : (k == i) = false := by simpa using fun q => hi q.symm
    simp only [hki, Bool.not_false, Bool.true_and, Bool.not_eq_true']
    by_cases hs : k + 1 = i
    · rw [ac_cat (ac_okl_spec hok hs h1), Bool.and_false]
    · simp [hs]
theorem ac_set2 {base nL : Nat} {la : Array Slot} {ls : List (Nat × Int)} {i : Nat} {w : Nat × Int} (hok : ac_okl ls i = true) (h : lv_has la nL ((i, ac_v base w) :: (ac_enc base ls).filter (fun q => !(q.1 == i) && (!(q.1 == i + 1) && !(q.1 + 1 == i && q.2.category == 2))))) : lv_has la nL (ac_enc base ((ls.set i w).set (i + 1) (3, 0))) := by
  refine ac_lweak h fun q hq => ?_
  obtain ⟨u, h1, h2, h3⟩ := ac_enc_mem.mp hq
  obtain ⟨k, v⟩ := q
  simp only at h1 h3
  subst h3
  rw [List.getElem?_set] at h1
  by_cases hj : i + 1 = k
  · subst hj
    rw [if_pos rfl] at h1
    split at h1
    · cases h1; exact absurd rfl h2
    · cases h1
  · rw [if_neg hj, List.getElem?_set] at h1
    by_cases hi : i = k
    · subst hi
      rw [if_pos rfl] at h1
      split at h1
      · cases h1; exact List.mem_cons_self
      · cases h1
    · rw [if_neg hi] at h1
      refine List.mem_cons_of_mem _ (List.mem_filter.mpr ⟨ac_enc_mem.mpr ⟨u, h1, h2, rfl⟩, ?_⟩)
      have hki : (k == i) = false := by simpa using fun q => hi q.symm
      have hkj : (k == i + 1) = false := by simpa using fun q => hj q.symm
      simp only [hki, hkj, Bool.not_false, Bool.true_and, Bool.not_eq_true']
      by_cases hs : k + 1 = i
      · rw [ac_cat (ac_okl_spec hok hs h1), Bool.and_false]
      · simp [hs]
theorem ac_sh5 {k : Nat} (h : k < 32) : (Int32.ofInt (k : Int) &&& 31).toBitVec.smod 32 = BitVec.ofNat 32 k := by
  have : ∀ k : Fin 32, (Int32.ofInt ((k : Nat) : Int) &&& 31).toBitVec.smod 32 = BitVec.ofNat 32 (k : Nat) := by decide
  exact this ⟨k, h⟩
theorem ac_shl {a : Int} {k : Nat} (h : k < 32) : Int32.ofInt a <<< (Int32.ofInt (k : Int) &&& 31) = Int32.ofInt (a * 2 ^ k) := by
  apply Int32.toBitVec.inj
  rw [Int32.toBitVec_shiftLeft, ac_sh5 h, Int32.toBitVec_ofInt, Int32.toBitVec_ofInt]
  show BitVec.ofInt 32 a <<< (BitVec.ofNat 32 k).toNat = _
  rw [BitVec.toNat_ofNat, Nat.mod_eq_of_lt (by omega)]
  rw [BitVec.shiftLeft_eq_mul_twoPow, BitVec.ofInt_mul]
  congr 1
  apply BitVec.eq_of_toNat_eq
  rw [BitVec.toNat_twoPow, BitVec.toNat_ofInt]
  have : ((2 : Int) ^ k % (2 ^ 32 : Nat)).toNat = 2 ^ k % 2 ^ 32 := by
    rw [show (2 : Int) ^ k = ((2 ^ k : Nat) : Int) by simp]
    rfl
  rw [this]
theorem ac_shr {a : Int} {k : Nat} (ha : ac_in a) (h : k < 32) : Int32.ofInt a >>> (Int32.ofInt (k : Int) &&& 31) = Int32.ofInt (a / 2 ^ k) := by
  have e := pk_shr (Int32.ofInt a) (Int32.ofInt (k : Int) &&& 31) k (by rw [ac_sh5 h]; simp; omega)
  rw [ac_toInt ha, Int.shiftRight_eq_div_pow] at e
  rw [← Int32.ofInt_toInt (Int32.ofInt a >>> (Int32.ofInt (k : Int) &&& 31)), e]
  rfl
theorem ac_ofN (a : Nat) : BitVec.ofInt 32 (a : Int) = BitVec.ofNat 32 a := rfl
theorem ac_ofNL (a : Nat) : BitVec.ofInt 64 (a : Int) = BitVec.ofNat 64 a := rfl
theorem ac_and (a b : Nat) : Int32.ofInt (a : Int) &&& Int32.ofInt (b : Int) = Int32.ofInt ((a &&& b : Nat) : Int) := by
  apply Int32.toBitVec.inj
  rw [Int32.toBitVec_and, Int32.toBitVec_ofInt, Int32.toBitVec_ofInt, Int32.toBitVec_ofInt, ac_ofN, ac_ofN, ac_ofN]
  apply BitVec.eq_of_toNat_eq
  rw [BitVec.toNat_and, BitVec.toNat_ofNat, BitVec.toNat_ofNat, BitVec.toNat_ofNat, Nat.and_mod_two_pow]
theorem ac_or (a b : Nat) : Int32.ofInt (a : Int) ||| Int32.ofInt (b : Int) = Int32.ofInt ((a ||| b : Nat) : Int) := by
  apply Int32.toBitVec.inj
  rw [Int32.toBitVec_or, Int32.toBitVec_ofInt, Int32.toBitVec_ofInt, Int32.toBitVec_ofInt, ac_ofN, ac_ofN, ac_ofN]
  apply BitVec.eq_of_toNat_eq
  rw [BitVec.toNat_or, BitVec.toNat_ofNat, BitVec.toNat_ofNat, BitVec.toNat_ofNat, Nat.or_mod_two_pow]
theorem ac_not (a : Int) : Int32.ofInt a ^^^ Int32.ofInt (-1) = Int32.ofInt (-1 - a) := by
  apply Int32.toBitVec.inj
  rw [Int32.toBitVec_xor, Int32.toBitVec_ofInt, Int32.toBitVec_ofInt, Int32.toBitVec_ofInt]
  rw [show BitVec.ofInt 32 (-1) = BitVec.allOnes 32 from rfl, BitVec.xor_allOnes, Int.sub_eq_add_neg, BitVec.ofInt_add, show BitVec.ofInt 32 (-1) = BitVec.allOnes 32 from rfl, BitVec.ofInt_neg, ← BitVec.sub_eq_add_neg, BitVec.allOnes_sub_eq_not]
def ac_andn (a b : Nat) : Nat := a &&& (a ^^^ b)
theorem ac_andn_bit (a b i : Nat) : (ac_andn a b).testBit i = (a.testBit i && !b.testBit i) := by
  unfold ac_andn
  rw [Nat.testBit_and, Nat.testBit_xor]
  cases a.testBit i <;> cases b.testBit i <;> rfl
theorem ac_andnI (a b : Nat) : Int32.ofInt (a : Int) &&& Int32.ofInt (-1 - (b : Int)) = Int32.ofInt ((ac_andn a b : Nat) : Int) := by
  rw [← ac_not]
  apply Int32.toBitVec.inj
  rw [Int32.toBitVec_and, Int32.toBitVec_xor, Int32.toBitVec_ofInt, Int32.toBitVec_ofInt, Int32.toBitVec_ofInt, Int32.toBitVec_ofInt, show BitVec.ofInt 32 (-1) = BitVec.allOnes 32 from rfl, BitVec.xor_allOnes, ac_ofN, ac_ofN, ac_ofN]
  apply BitVec.eq_of_getLsbD_eq
  intro i hi
  rw [BitVec.getLsbD_and, BitVec.getLsbD_not, BitVec.getLsbD_ofNat, BitVec.getLsbD_ofNat, BitVec.getLsbD_ofNat, ac_andn_bit]
  simp [hi]
theorem ac_tdiv {a b : Int} (ha : ac_in a) (hb : ac_in b) (h : b ≠ 0) (hm : ¬ (a = -2147483648 ∧ b = -1)) : Int32.ofInt a / Int32.ofInt b = Int32.ofInt (a.tdiv b) := by
  have h1 : Int32.minValue.toInt = -2147483648 := by decide
  have h2 : Int32.maxValue.toInt = 2147483647 := by decide
  exact (Int32.ofInt_tdiv (by rw [h1]; exact ha.1) (by rw [h2]; have := ha.2; omega) (by rw [h1]; exact hb.1) (by rw [h2]; have := hb.2; omega)).symm
theorem ac_tdivL {a b : Int} (ha : ac_il a) (hb : ac_il b) : Int64.ofInt a / Int64.ofInt b = Int64.ofInt (a.tdiv b) := by
  have h1 : Int64.minValue.toInt = -9223372036854775808 := by decide
  have h2 : Int64.maxValue.toInt = 9223372036854775807 := by decide
  exact (Int64.ofInt_tdiv (by rw [h1]; exact ha.1) (by rw [h2]; have := ha.2; omega) (by rw [h1]; exact hb.1) (by rw [h2]; have := hb.2; omega)).symm
theorem ac_tmod {a b : Int} : a - a.tdiv b * b = a.tmod b := by
  rw [Int.tmod_def, Int.mul_comm]
theorem ac_ushrN {a k : Nat} (ha : a < 2147483648) (hk : k < 32) : ((Int32.ofInt (a : Int)).toUInt32 >>> ((Int32.ofInt (k : Int)).toUInt32 &&& Int32.toUInt32 31)).toInt32 = Int32.ofInt ((a / 2 ^ k : Nat) : Int) := by
  have e : ∀ k : Fin 32, ((Int32.ofInt ((k : Nat) : Int)).toUInt32 &&& Int32.toUInt32 31).toBitVec % 32 = BitVec.ofNat 32 (k : Nat) := by decide
  have e1 := e ⟨k, hk⟩
  exact pk_ushrN (n := a) (by omega) (Int32.ofInt (k : Int)) k (by rw [e1]; simp; omega)
theorem ac_lsh (a : Int) : Int64.ofInt a <<< ((Int32.ofInt 32).toInt64 &&& 63) = Int64.ofInt (a * 4294967296) := by
  apply Int64.toBitVec.inj
  rw [Int64.toBitVec_shiftLeft, Int64.toBitVec_ofInt, Int64.toBitVec_ofInt]
  have e : ((Int32.ofInt 32).toInt64 &&& 63).toBitVec.smod 64 = 32 := by decide
  rw [e, BitVec.ofInt_mul]
  show BitVec.ofInt 64 a <<< (32 : BitVec 64).toNat = _
  rw [show (32 : BitVec 64).toNat = 32 from rfl, BitVec.shiftLeft_eq_mul_twoPow]
  rfl
theorem ac_lushr33v (a : Int) : ((Int64.ofInt a).toUInt64 >>> ((Int32.ofInt 33).toInt64.toUInt64 &&& Int64.toUInt64 63)).toInt64 = Int64.ofInt ((a % 18446744073709551616) / 8589934592) := by
  apply Int64.toBitVec.inj
  rw [Int64.toBitVec_ofInt]
  show ((Int64.ofInt a).toUInt64 >>> ((Int32.ofInt 33).toInt64.toUInt64 &&& Int64.toUInt64 63)).toBitVec = _
  rw [UInt64.toBitVec_shiftRight]
  have e : ((Int32.ofInt 33).toInt64.toUInt64 &&& Int64.toUInt64 63).toBitVec % 64 = 33 := by decide
  rw [e]
  apply BitVec.eq_of_toNat_eq
  show ((BitVec.ofInt 64 a) >>> (33 : BitVec 64).toNat).toNat = _
  rw [show (33 : BitVec 64).toNat = 33 from rfl, BitVec.toNat_ushiftRight, BitVec.toNat_ofInt, BitVec.toNat_ofInt, Nat.shiftRight_eq_div_pow]
  show (a % 18446744073709551616).toNat / 8589934592 = (a % 18446744073709551616 / 8589934592 % 18446744073709551616).toNat
  omega
section AcLoc
variable {G : ac_G} {on : String × String} {cc : ByteArray} {nL : Nat} {ret : Option FieldType} {d mc ms : Nat} {P : ac_P} {ck cn : Nat} {Y : ac_Y} {mm : ac_M} {pc q : Nat} {ls st : List (Nat × Int)}
theorem ac_istore_n {j : Nat} {i : Fin 4} (hj : (i : Nat) = j) {x : Int} {ls' : List (Nat × Int)} (hdg : decode cc pc = .ok (.istore_n i, 1)) (hq : pc + 1 = q) (hn : j < nL) (hok : ac_okl ls j = true) (hl : ls.set j (0, x) = ls') (kk : ac_V G on cc nL ret d mc ms P ck cn Y mm q ls' st) : ac_V G on cc nL ret d mc ms P ck cn Y mm pc ls ((0, x) :: st) := by
  intro p e s m args below meth c H locs la X hz hH hS hL
  subst hq
  subst hl
  exact lv_istore_n X.1 X.2.1 hdg hj hL hn rfl (fun la2 hL2 => kk p e s m args below meth c H locs la2 X hz hH hS (ac_set1 hok hL2))
theorem ac_istore {j : Nat} {x : Int} {ls' : List (Nat × Int)} (hdg : decode cc pc = .ok (.istore j, 2)) (hq : pc + 2 = q) (hn : j < nL) (hok : ac_okl ls j = true) (hl : ls.set j (0, x) = ls') (kk : ac_V G on cc nL ret d mc ms P ck cn Y mm q ls' st) : ac_V G on cc nL ret d mc ms P ck cn Y mm pc ls ((0, x) :: st) := by
  intro p e s m args below meth c H locs la X hz hH hS hL
  subst hq
  subst hl
  exact lv_istore X.1 X.2.1 hdg hL hn rfl (fun la2 hL2 => kk p e s m args below meth c H locs la2 X hz hH hS (ac_set1 hok hL2))
theorem ac_astore_n {j : Nat} {i : Fin 4} (hj : (i : Nat) = j) {x : Int} {ls' : List (Nat × Int)} (hdg : decode cc pc = .ok (.astore_n i, 1)) (hq : pc + 1 = q) (hn : j < nL) (hok : ac_okl ls j = true) (hl : ls.set j (2, x) = ls') (kk : ac_V G on cc nL ret d mc ms P ck cn Y mm q ls' st) : ac_V G on cc nL ret d mc ms P ck cn Y mm pc ls ((2, x) :: st) := by
  intro p e s m args below meth c H locs la X hz hH hS hL
  subst hq
  subst hl
  have g : ∀ la2 : Array Slot, lv_has la2 nL ((j, ac_v G.2.1 (2, x)) :: (ac_enc G.2.1 ls).filter (fun q => !(q.1 == j) && !(q.1 + 1 == j && q.2.category == 2))) → W p G.1 e (ac_room d mc ms) s m args below meth c H locs ck cn (MQ below (ac_Qc G P) args s mc ms (ac_A G)) (F0 m (pc + 1) la2 (st.map (ac_v G.2.1))) := (fun la2 hL2 => kk p e s m args below meth c H locs la2 X hz hH hS (ac_set1 hok hL2))
  simp only [List.map_cons, ac_v] at g ⊢
  by_cases hx : x = 0
  · simp only [if_pos hx] at g ⊢
    exact lv_astore_nN X.1 X.2.1 hdg hj hL hn rfl g
  · simp only [if_neg hx] at g ⊢
    exact lv_astore_n X.1 X.2.1 hdg hj hL hn rfl g
theorem ac_astore {j : Nat} {x : Int} {ls' : List (Nat × Int)} (hdg : decode cc pc = .ok (.astore j, 2)) (hq : pc + 2 = q) (hn : j < nL) (hok : ac_okl ls j = true) (hl : ls.set j (2, x) = ls') (kk : ac_V G on cc nL ret d mc ms P ck cn Y mm q ls' st) : ac_V G on cc nL ret d mc ms P ck cn Y mm pc ls ((2, x) :: st) := by
  intro p e s m args below meth c H locs la X hz hH hS hL
  subst hq
  subst hl
  have g : ∀ la2 : Array Slot, lv_has la2 nL ((j, ac_v G.2.1 (2, x)) :: (ac_enc G.2.1 ls).filter (fun q => !(q.1 == j) && !(q.1 + 1 == j && q.2.category == 2))) → W p G.1 e (ac_room d mc ms) s m args below meth c H locs ck cn (MQ below (ac_Qc G P) args s mc ms (ac_A G)) (F0 m (pc + 2) la2 (st.map (ac_v G.2.1))) := (fun la2 hL2 => kk p e s m args below meth c H locs la2 X hz hH hS (ac_set1 hok hL2))
  simp only [List.map_cons, ac_v] at g ⊢
  by_cases hx : x = 0
  · simp only [if_pos hx] at g ⊢
    exact lv_astoreN X.1 X.2.1 hdg hL hn rfl g
  · simp only [if_neg hx] at g ⊢
    exact lv_astore X.1 X.2.1 hdg hL hn rfl g
theorem ac_lstore_n {j : Nat} {i : Fin 4} (hj : (i : Nat) = j) {x : Int} {ls' : List (Nat × Int)} (hdg : decode cc pc = .ok (.lstore_n i, 1)) (hq : pc + 1 = q) (hn : j + 1 < nL) (hok : ac_okl ls j = true) (hl : (ls.set j (1, x)).set (j + 1) (3, 0) = ls') (kk : ac_V G on cc nL ret d mc ms P ck cn Y mm q ls' st) : ac_V G on cc nL ret d mc ms P ck cn Y mm pc ls ((1, x) :: st) := by
  intro p e s m args below meth c H locs la X hz hH hS hL
  subst hq
  subst hl
  exact lv_lstore_n X.1 X.2.1 hdg hj hL hn rfl (fun la2 hL2 => kk p e s m args below meth c H locs la2 X hz hH hS (ac_set2 hok hL2))
theorem ac_lstore {j : Nat} {x : Int} {ls' : List (Nat × Int)} (hdg : decode cc pc = .ok (.lstore j, 2)) (hq : pc + 2 = q) (hn : j + 1 < nL) (hok : ac_okl ls j = true) (hl : (ls.set j (1, x)).set (j + 1) (3, 0) = ls') (kk : ac_V G on cc nL ret d mc ms P ck cn Y mm q ls' st) : ac_V G on cc nL ret d mc ms P ck cn Y mm pc ls ((1, x) :: st) := by
  intro p e s m args below meth c H locs la X hz hH hS hL
  subst hq
  subst hl
  exact lv_lstore X.1 X.2.1 hdg hL hn rfl (fun la2 hL2 => kk p e s m args below meth c H locs la2 X hz hH hS (ac_set2 hok hL2))
theorem ac_iinc {i : Nat} {n x v : Int} {ls' : List (Nat × Int)} (hdg : decode cc pc = .ok (.iinc i n, 3)) (hq : pc + 3 = q) (hn : i < nL) (hok : ac_okl ls i = true) (hx : ls[i]? = some (0, x)) (hv : x + n = v) (hl : ls.set i (0, v) = ls') (kk : ac_V G on cc nL ret d mc ms P ck cn Y mm q ls' st) : ac_V G on cc nL ret d mc ms P ck cn Y mm pc ls st := by
  intro p e s m args below meth c H locs la X hz hH hS hL
  subst hq
  subst hl; subst hv
  have hm : (i, ac_v G.2.1 (0, x)) ∈ ac_enc G.2.1 ls := ac_enc_mem.mpr ⟨(0, x), hx, (show (0 : Nat) ≠ 3 by decide), rfl⟩
  obtain ⟨k, hk⟩ := List.getElem?_of_mem hm
  exact lv_iinc X.1 X.2.1 hdg hL hk (v := Int32.ofInt (x + n)) (Int32.ofInt_add x n).symm hn rfl (fun la2 hL2 => kk p e s m args below meth c H locs la2 X hz hH hS (ac_set1 (w := (0, x + n)) hok hL2))
theorem ac_ishl {a : Int} {k : Nat} (hdg : decode cc pc = .ok (.ishl, 1)) (hq : pc + 1 = q) (hk : k < 32) (kk : ac_V G on cc nL ret d mc ms P ck cn Y mm q ls ((0, a * 2 ^ k) :: st)) : ac_V G on cc nL ret d mc ms P ck cn Y mm pc ls ((0, (k : Int)) :: (0, a) :: st) := by
  intro p e s m args below meth c H locs la X hz hH hS hL
  subst hq
  have h := kk p e s m args below meth c H locs la X hz hH hS hL
  refine lv_ishl X.1 X.2.1 hdg ?_
  rw [ac_shl hk]
  exact h
theorem ac_ishr {a : Int} {k : Nat} (hdg : decode cc pc = .ok (.ishr, 1)) (hq : pc + 1 = q) (ha : ac_in a) (hk : k < 32) (kk : ac_V G on cc nL ret d mc ms P ck cn Y mm q ls ((0, a / 2 ^ k) :: st)) : ac_V G on cc nL ret d mc ms P ck cn Y mm pc ls ((0, (k : Int)) :: (0, a) :: st) := by
  intro p e s m args below meth c H locs la X hz hH hS hL
  subst hq
  have h := kk p e s m args below meth c H locs la X hz hH hS hL
  refine lv_ishr X.1 X.2.1 hdg ?_
  rw [ac_shr ha hk]
  exact h
theorem ac_ishl1 {k : Nat} (hdg : decode cc pc = .ok (.ishl, 1)) (hq : pc + 1 = q) (hk : k < 32) (kk : ac_V G on cc nL ret d mc ms P ck cn Y mm q ls ((0, ((2 ^ k : Nat) : Int)) :: st)) : ac_V G on cc nL ret d mc ms P ck cn Y mm pc ls ((0, (k : Int)) :: (0, 1) :: st) := by
  intro p e s m args below meth c H locs la X hz hH hS hL
  subst hq
  have h := kk p e s m args below meth c H locs la X hz hH hS hL
  refine lv_ishl X.1 X.2.1 hdg ?_
  rw [ac_shl hk, show (1 : Int) * 2 ^ k = ((2 ^ k : Nat) : Int) by simp]
  exact h
theorem ac_ishrN {a k : Nat} (hdg : decode cc pc = .ok (.ishr, 1)) (hq : pc + 1 = q) (ha : a < 2147483648) (hk : k < 32) (kk : ac_V G on cc nL ret d mc ms P ck cn Y mm q ls ((0, ((a / 2 ^ k : Nat) : Int)) :: st)) : ac_V G on cc nL ret d mc ms P ck cn Y mm pc ls ((0, (k : Int)) :: (0, (a : Int)) :: st) := by
  intro p e s m args below meth c H locs la X hz hH hS hL
  subst hq
  have h := kk p e s m args below meth c H locs la X hz hH hS hL
  refine lv_ishr X.1 X.2.1 hdg ?_
  rw [ac_shr ⟨by omega, by omega⟩ hk, show ((a : Int) / 2 ^ k) = ((a / 2 ^ k : Nat) : Int) by simp]
  exact h
theorem ac_iushrN {a k : Nat} (hdg : decode cc pc = .ok (.iushr, 1)) (hq : pc + 1 = q) (ha : a < 2147483648) (hk : k < 32) (kk : ac_V G on cc nL ret d mc ms P ck cn Y mm q ls ((0, ((a / 2 ^ k : Nat) : Int)) :: st)) : ac_V G on cc nL ret d mc ms P ck cn Y mm pc ls ((0, (k : Int)) :: (0, (a : Int)) :: st) := by
  intro p e s m args below meth c H locs la X hz hH hS hL
  subst hq
  have h := kk p e s m args below meth c H locs la X hz hH hS hL
  refine lv_iushr X.1 X.2.1 hdg (v := Int32.ofInt ((a / 2 ^ k : Nat) : Int)) ?_ h
  exact ac_ushrN ha hk
theorem ac_iand {a b : Nat} (hdg : decode cc pc = .ok (.iand, 1)) (hq : pc + 1 = q) (kk : ac_V G on cc nL ret d mc ms P ck cn Y mm q ls ((0, ((a &&& b : Nat) : Int)) :: st)) : ac_V G on cc nL ret d mc ms P ck cn Y mm pc ls ((0, (b : Int)) :: (0, (a : Int)) :: st) := by
  intro p e s m args below meth c H locs la X hz hH hS hL
  subst hq
  have h := kk p e s m args below meth c H locs la X hz hH hS hL
  refine lv_iand X.1 X.2.1 hdg ?_
  rw [ac_and]
  exact h
theorem ac_ior {a b : Nat} (hdg : decode cc pc = .ok (.ior, 1)) (hq : pc + 1 = q) (kk : ac_V G on cc nL ret d mc ms P ck cn Y mm q ls ((0, ((a ||| b : Nat) : Int)) :: st)) : ac_V G on cc nL ret d mc ms P ck cn Y mm pc ls ((0, (b : Int)) :: (0, (a : Int)) :: st) := by
  intro p e s m args below meth c H locs la X hz hH hS hL
  subst hq
  have h := kk p e s m args below meth c H locs la X hz hH hS hL
  refine lv_ior X.1 X.2.1 hdg ?_
  rw [ac_or]
  exact h
theorem ac_ixor {a : Int} (hdg : decode cc pc = .ok (.ixor, 1)) (hq : pc + 1 = q) (kk : ac_V G on cc nL ret d mc ms P ck cn Y mm q ls ((0, -1 - a) :: st)) : ac_V G on cc nL ret d mc ms P ck cn Y mm pc ls ((0, -1) :: (0, a) :: st) := by
  intro p e s m args below meth c H locs la X hz hH hS hL
  subst hq
  have h := kk p e s m args below meth c H locs la X hz hH hS hL
  refine lv_ixor X.1 X.2.1 hdg ?_
  rw [ac_not]
  exact h
theorem ac_iandn {a b : Nat} (hdg : decode cc pc = .ok (.iand, 1)) (hq : pc + 1 = q) (kk : ac_V G on cc nL ret d mc ms P ck cn Y mm q ls ((0, ((ac_andn a b : Nat) : Int)) :: st)) : ac_V G on cc nL ret d mc ms P ck cn Y mm pc ls ((0, -1 - (b : Int)) :: (0, (a : Int)) :: st) := by
  intro p e s m args below meth c H locs la X hz hH hS hL
  subst hq
  have h := kk p e s m args below meth c H locs la X hz hH hS hL
  refine lv_iand X.1 X.2.1 hdg ?_
  rw [ac_andnI]
  exact h
theorem ac_idiv {a b : Int} (hdg : decode cc pc = .ok (.idiv, 1)) (hq : pc + 1 = q) (ha : ac_in a) (hb : ac_in b) (h0 : b ≠ 0) (hm : ¬ (a = -2147483648 ∧ b = -1)) (kk : ac_V G on cc nL ret d mc ms P ck cn Y mm q ls ((0, a.tdiv b) :: st)) : ac_V G on cc nL ret d mc ms P ck cn Y mm pc ls ((0, b) :: (0, a) :: st) := by
  intro p e s m args below meth c H locs la X hz hH hS hL
  subst hq
  have h := kk p e s m args below meth c H locs la X hz hH hS hL
  refine lv_idiv X.1 X.2.1 hdg (fun q => h0 ((ac_eq hb ac_in0).mp q)) ?_
  rw [ac_tdiv ha hb h0 hm]
  exact h
theorem ac_irem {a b : Int} (hdg : decode cc pc = .ok (.irem, 1)) (hq : pc + 1 = q) (ha : ac_in a) (hb : ac_in b) (h0 : b ≠ 0) (hm : ¬ (a = -2147483648 ∧ b = -1)) (kk : ac_V G on cc nL ret d mc ms P ck cn Y mm q ls ((0, a.tmod b) :: st)) : ac_V G on cc nL ret d mc ms P ck cn Y mm pc ls ((0, b) :: (0, a) :: st) := by
  intro p e s m args below meth c H locs la X hz hH hS hL
  subst hq
  have h := kk p e s m args below meth c H locs la X hz hH hS hL
  refine lv_irem X.1 X.2.1 hdg (fun q => h0 ((ac_eq hb ac_in0).mp q)) ?_
  rw [ac_tdiv ha hb h0 hm, ← Int32.ofInt_mul, ← Int32.ofInt_sub, ac_tmod]
  exact h
theorem ac_ldiv {a b : Int} (hdg : decode cc pc = .ok (.ldiv, 1)) (hq : pc + 1 = q) (ha : ac_il a) (hb : ac_il b) (h0 : b ≠ 0) (kk : ac_V G on cc nL ret d mc ms P ck cn Y mm q ls ((1, a.tdiv b) :: st)) : ac_V G on cc nL ret d mc ms P ck cn Y mm pc ls ((1, b) :: (1, a) :: st) := by
  intro p e s m args below meth c H locs la X hz hH hS hL
  subst hq
  have h := kk p e s m args below meth c H locs la X hz hH hS hL
  refine lv_ldiv X.1 X.2.1 hdg (fun q => h0 ((ac_ofIntL_inj hb ⟨by decide, by decide⟩).mp q)) ?_
  rw [ac_tdivL ha hb]
  exact h
theorem ac_lrem {a b : Int} (hdg : decode cc pc = .ok (.lrem, 1)) (hq : pc + 1 = q) (ha : ac_il a) (hb : ac_il b) (h0 : b ≠ 0) (kk : ac_V G on cc nL ret d mc ms P ck cn Y mm q ls ((1, a.tmod b) :: st)) : ac_V G on cc nL ret d mc ms P ck cn Y mm pc ls ((1, b) :: (1, a) :: st) := by
  intro p e s m args below meth c H locs la X hz hH hS hL
  subst hq
  have h := kk p e s m args below meth c H locs la X hz hH hS hL
  refine lv_lrem X.1 X.2.1 hdg (fun q => h0 ((ac_ofIntL_inj hb ⟨by decide, by decide⟩).mp q)) ?_
  rw [ac_tdivL ha hb, ← Int64.ofInt_mul, ← Int64.ofInt_sub, ac_tmod]
  exact h
theorem ac_lshl32 {a : Int} (hdg : decode cc pc = .ok (.lshl, 1)) (hq : pc + 1 = q) (kk : ac_V G on cc nL ret d mc ms P ck cn Y mm q ls ((1, a * 4294967296) :: st)) : ac_V G on cc nL ret d mc ms P ck cn Y mm pc ls ((0, 32) :: (1, a) :: st) := by
  intro p e s m args below meth c H locs la X hz hH hS hL
  subst hq
  have h := kk p e s m args below meth c H locs la X hz hH hS hL
  exact lv_lshl X.1 X.2.1 hdg (ac_lsh a) h
theorem ac_lushr33 {a : Int} (hdg : decode cc pc = .ok (.lushr, 1)) (hq : pc + 1 = q) (kk : ac_V G on cc nL ret d mc ms P ck cn Y mm q ls ((1, (a % 18446744073709551616) / 8589934592) :: st)) : ac_V G on cc nL ret d mc ms P ck cn Y mm pc ls ((0, 33) :: (1, a) :: st) := by
  intro p e s m args below meth c H locs la X hz hH hS hL
  subst hq
  have h := kk p e s m args below meth c H locs la X hz hH hS hL
  exact lv_lushr X.1 X.2.1 hdg (ac_lushr33v a) h
theorem ac_lcmp {a b : Int} (hdg : decode cc pc = .ok (.lcmp, 1)) (hq : pc + 1 = q) (ha : ac_il a) (hb : ac_il b) (kk : ∀ v : Int, (v = -1 ∧ a < b) ∨ (v = 0 ∧ a = b) ∨ (v = 1 ∧ b < a) → ac_V G on cc nL ret d mc ms P ck cn Y mm q ls ((0, v) :: st)) : ac_V G on cc nL ret d mc ms P ck cn Y mm pc ls ((1, b) :: (1, a) :: st) := by
  intro p e s m args below meth c H locs la X hz hH hS hL
  subst hq
  refine W.lcmp X.1 X.2.1 hdg ?_
  have e1 := ac_ltL ha hb
  have e2 := ac_ofIntL_inj ha hb
  have e3 := ac_ltL hb ha
  rcases Int.lt_trichotomy a b with h | h | h
  · rw [show lg_cmp (Int64.ofInt a) (Int64.ofInt b) = Int32.ofInt (-1) by unfold lg_cmp; rw [if_neg (fun q => absurd (e3.mp q) (by omega)), if_neg (fun q => absurd (e2.mp q) (by omega))]; rfl]
    exact kk (-1) (Or.inl ⟨rfl, h⟩) p e s m args below meth c H locs la X hz hH hS hL
  · rw [show lg_cmp (Int64.ofInt a) (Int64.ofInt b) = Int32.ofInt 0 by subst h; unfold lg_cmp; simp]
    exact kk 0 (Or.inr (Or.inl ⟨rfl, h⟩)) p e s m args below meth c H locs la X hz hH hS hL
  · rw [show lg_cmp (Int64.ofInt a) (Int64.ofInt b) = Int32.ofInt 1 by unfold lg_cmp; rw [if_pos (e3.mpr h)]; rfl]
    exact kk 1 (Or.inr (Or.inr ⟨rfl, h⟩)) p e s m args below meth c H locs la X hz hH hS hL
end AcLoc
