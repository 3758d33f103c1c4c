section AcArr
variable {G : ac_G} {on : String × String} {cc : ByteArray} {nL : Nat} {ret : Option FieldType} {d mc ms : Nat} {P : ac_P} {ck cn : Nat} {Y : ac_Y} {mm : ac_M} {pc q : Nat} {ls st : List (Nat × Int)}
theorem ac_nfn {Y : ac_Y} {mm : ac_M} : (fun j => Int32.ofInt (ac_nM Y mm (Y.1 + 1) j)) = (fun _ => 0) := by
  funext j
  rw [show ac_nM Y mm (Y.1 + 1) j = 0 from if_pos rfl]; rfl
theorem ac_newI {n : Nat} (hdg : decode cc pc = .ok (.newarray .int, 2)) (hA : Cond.arrayClass .int ∈ ac_T) (hn : n < 100000000) (hq : pc + 2 = q) (hmc : ck + 1 ≤ mc) (hms : cn + n ≤ ms) (kk : ac_V G on cc nL ret d mc ms P (ck + 1) (cn + n) (ac_nY Y (1, n)) (ac_nM Y mm) q ls ((2, ((Y.1 + 1 : Nat) : Int)) :: st)) : ac_V G on cc nL ret d mc ms P ck cn Y mm pc ls ((0, (n : Int)) :: st) := by
  intro p e s m args below meth c H locs la X hz hH hS hL
  subst hq
  have hts := X.2.2.2.2.2.2.1
  have hB := X.2.2.2.2.2.2.2.1
  have hi : ac_in (n : Int) := ⟨by omega, by omega⟩
  have e1 := ac_toInt hi
  refine va_newa (atype := .int) (ty := .int) X.1 X.2.1 (hts _ hA) rfl hB.1 hH.2 ac_ws_D hS (fun q h => Nat.le_trans hB.2.2.2.1 h) (N' := n) (a0 := (n, .inl (fun _ => 0))) (fun _ => rfl) (by rw [Int32.lt_iff_toInt_lt, e1]; show ¬ (n : Int) < 0; omega) (by show (Int32.ofInt (n : Int)).toInt.toNat = n; rw [e1]; omega) (by show n * 4 ≤ 536870912; omega) hmc hms hdg (fun q cA H1 hK1 hP1 hD1 hS1 => ?_)
  refine ac_W_size fun hsz => ?_
  have hqa : q = G.2.1 + Y.1 := ac_naddr hP1 hD1 (by omega)
  subst hqa
  have hcA : cA = G.2.2.2.1.1 := Option.some.inj ((show s.vm.findClass ("[" ++ (FieldType.int).toString) = some cA from (hK1.2 3 (cA, .int) rfl).2).symm.trans (show s.vm.findClass ("[" ++ (FieldType.int).toString) = some G.2.2.2.1.1 from (hB.1.2 0 (G.2.2.2.1.1, .int) rfl).2))
  subst hcA
  have e0 : ac_ent G (ac_nY Y (1, n)) (ac_nM Y mm) (Y.1 + 1) = .inl (G.2.2.2.1.1, n, .inl (fun j => Int32.ofInt (ac_nM Y mm (Y.1 + 1) j))) := ac_ent_i (if_pos rfl)
  have h := kk p e s m args below meth c H1 locs la X (by show s.heap.size + (ck + 1) = G.2.1 + (Y.1 + 1); omega) ⟨ac_nwf hH.1, by rw [ac_nws, e0, ac_nfn]; exact hP1⟩ hS1 hL
  have ev : ac_v G.2.1 (2, ((Y.1 + 1 : Nat) : Int)) = .ref (G.2.1 + Y.1) := ac_refv (by omega)
  rw [List.map_cons, ev] at h
  exact h
theorem ac_newZ {n : Nat} (hdg : decode cc pc = .ok (.newarray .boolean, 2)) (hA : Cond.arrayClass .boolean ∈ ac_T) (hn : n < 100000000) (hq : pc + 2 = q) (hmc : ck + 1 ≤ mc) (hms : cn + n ≤ ms) (kk : ac_V G on cc nL ret d mc ms P (ck + 1) (cn + n) (ac_nY Y (2, n)) (ac_nM Y mm) q ls ((2, ((Y.1 + 1 : Nat) : Int)) :: st)) : ac_V G on cc nL ret d mc ms P ck cn Y mm pc ls ((0, (n : Int)) :: st) := by
  intro p e s m args below meth c H locs la X hz hH hS hL
  subst hq
  have hts := X.2.2.2.2.2.2.1
  have hB := X.2.2.2.2.2.2.2.1
  have hi : ac_in (n : Int) := ⟨by omega, by omega⟩
  have e1 := ac_toInt hi
  refine va_newa (atype := .boolean) (ty := .boolean) X.1 X.2.1 (hts _ hA) rfl hB.1 hH.2 ac_ws_D hS (fun q h => Nat.le_trans hB.2.2.2.1 h) (N' := n) (a0 := (n, .inl (fun _ => 0))) (fun _ => rfl) (by rw [Int32.lt_iff_toInt_lt, e1]; show ¬ (n : Int) < 0; omega) (by show (Int32.ofInt (n : Int)).toInt.toNat = n; rw [e1]; omega) (by show n * 1 ≤ 536870912; omega) hmc hms hdg (fun q cA H1 hK1 hP1 hD1 hS1 => ?_)
  refine ac_W_size fun hsz => ?_
  have hqa : q = G.2.1 + Y.1 := ac_naddr hP1 hD1 (by omega)
  subst hqa
  have hcA : cA = G.2.2.2.1.2.1 := Option.some.inj ((show s.vm.findClass ("[" ++ (FieldType.boolean).toString) = some cA from (hK1.2 3 (cA, .boolean) rfl).2).symm.trans (show s.vm.findClass ("[" ++ (FieldType.boolean).toString) = some G.2.2.2.1.2.1 from (hB.1.2 1 (G.2.2.2.1.2.1, .boolean) rfl).2))
  subst hcA
  have e0 : ac_ent G (ac_nY Y (2, n)) (ac_nM Y mm) (Y.1 + 1) = .inl (G.2.2.2.1.2.1, n, .inl (fun j => Int32.ofInt (ac_nM Y mm (Y.1 + 1) j))) := ac_ent_z (if_pos rfl)
  have h := kk p e s m args below meth c H1 locs la X (by show s.heap.size + (ck + 1) = G.2.1 + (Y.1 + 1); omega) ⟨ac_nwf hH.1, by rw [ac_nws, e0, ac_nfn]; exact hP1⟩ hS1 hL
  have ev : ac_v G.2.1 (2, ((Y.1 + 1 : Nat) : Int)) = .ref (G.2.1 + Y.1) := ac_refv (by omega)
  rw [List.map_cons, ev] at h
  exact h
theorem ac_newT {n idx : Nat} (hdg : decode cc pc = .ok (.anewarray idx, 3)) (hA : Cond.classLink on.1 idx RX3 ∈ ac_T) (hn : n < 100000000) (hq : pc + 3 = q) (hmc : ck + 1 ≤ mc) (hms : cn + n ≤ ms) (kk : ac_V G on cc nL ret d mc ms P (ck + 1) (cn + n) (ac_nY Y (3, n)) (ac_nM Y mm) q ls ((2, ((Y.1 + 1 : Nat) : Int)) :: st)) : ac_V G on cc nL ret d mc ms P ck cn Y mm pc ls ((0, (n : Int)) :: st) := by
  intro p e s m args below meth c H locs la X hz hH hS hL
  subst hq
  have hts := X.2.2.2.2.2.2.1
  have hB := X.2.2.2.2.2.2.2.1
  have hi : ac_in (n : Int) := ⟨by omega, by omega⟩
  have e1 := ac_toInt hi
  refine va_newq X.1 X.2.1 X.2.2.2.2.2.1 (hts _ hA) hB.2.2.2.2 hB.1 hH.2 ac_ws_D hS (fun q h => Nat.le_trans hB.2.2.2.1 h) (N' := n) (by rw [Int32.lt_iff_toInt_lt, e1]; show ¬ (n : Int) < 0; omega) (by show (Int32.ofInt (n : Int)).toInt.toNat = n; rw [e1]; omega) (by omega) hmc hms hdg (fun q cA H1 hK1 hP1 hD1 hS1 => ?_)
  refine ac_W_size fun hsz => ?_
  have hqa : q = G.2.1 + Y.1 := ac_naddr hP1 hD1 (by omega)
  subst hqa
  obtain ⟨_, _, -, -, -, q4⟩ := (hK1.2 3 (cA, .object RX3) rfl).2
  obtain ⟨_, _, -, -, -, q5⟩ := (hB.1.2 2 (G.2.2.2.1.2.2, .object RX3) rfl).2
  have hcA : cA = G.2.2.2.1.2.2 := Option.some.inj (q4.symm.trans q5)
  subst hcA
  have e0 : ac_ent G (ac_nY Y (3, n)) (ac_nM Y mm) (Y.1 + 1) = .inl (G.2.2.2.1.2.2, n, .inr (.inr (.inr (.inr (fun _ => none))))) := by
    rw [ac_ent_t (n := n) (if_pos rfl)]
    congr 7
    funext j
    exact if_pos (if_pos rfl)
  have h := kk p e s m args below meth c H1 locs la X (by show s.heap.size + (ck + 1) = G.2.1 + (Y.1 + 1); omega) ⟨ac_nwf hH.1, by rw [ac_nws, e0]; exact hP1⟩ hS1 hL
  have ev : ac_v G.2.1 (2, ((Y.1 + 1 : Nat) : Int)) = .ref (G.2.1 + Y.1) := ac_refv (by omega)
  rw [List.map_cons, ev] at h
  exact h
theorem ac_aastore {k n v : Nat} {i : Int} (hdg : decode cc pc = .ok (.aastore, 1)) (hk : Y.2.1 k = (3, n)) (hn : n < 2147483648) (hi : 0 ≤ i ∧ i < n) (hv : Y.2.1 v = (0, 3)) (hq : pc + 1 = q) (kk : ac_V G on cc nL ret d mc ms P ck cn (Y.1, Y.2.1, ac_upR Y.2.2 k i.toNat v) mm q ls st) : ac_V G on cc nL ret d mc ms P ck cn Y mm pc ls ((2, (v : Int)) :: (0, i) :: (2, (k : Int)) :: st) := by
  intro p e s m args below meth c H locs la X hz hH hS hL
  subst hq
  have h9 : (Y.2.1 k).1 ≠ 9 := by rw [hk]; exact (show (3 : Nat) ≠ 9 by decide)
  have h9v : (Y.2.1 v).1 ≠ 9 := by rw [hv]; exact (show (0 : Nat) ≠ 9 by decide)
  have h1 := (ac_live hH.1 h9).1
  have h1v := (ac_live hH.1 h9v).1
  have he := ac_ws_at (G := G) (mm := mm) hH.1 h9
  have hev := ac_ws_at (G := G) (mm := mm) hH.1 h9v
  rw [ac_ent_t hk] at he
  rw [ac_ent_o hv] at hev
  obtain ⟨g1, g2⟩ := ac_vpin hi.1 hi.2 hn
  simp only [List.map_cons, ac_refv h1, ac_refv h1v]
  refine va_astq X.1 X.2.1 X.2.2.2.2.2.2.2.1.1 hH.2 ac_ws_D hS (k - 1) 2 (v - 1) 3 (r := (RX3, TX3, 7)) he rfl hev rfl g1 hdg (fun H1 locs1 hP1 hD1 hS1 => ?_)
  refine kk p e s m args below meth c H1 locs1 la X hz ⟨hH.1, ?_⟩ hS1 hL
  rw [g2, ac_ws_set (Y := Y) (mm := mm) (Y' := (Y.1, Y.2.1, ac_upR Y.2.2 k i.toNat v)) (mm' := mm) h1 rfl ?_ ?_] at hP1
  · exact hP1
  · rw [ac_ent_t (Y := (Y.1, Y.2.1, ac_upR Y.2.2 k i.toNat v)) hk]
    congr 7
    funext j
    by_cases hj : j = i.toNat
    · subst hj
      have e : ac_upR Y.2.2 k i.toNat v k i.toNat = v := if_pos ⟨rfl, rfl⟩
      simp only [e, va_up, if_neg (show ¬ v = 0 by omega)]
      simp
    · have e : ac_upR Y.2.2 k i.toNat v k j = Y.2.2 k j := if_neg (fun q => hj q.2)
      simp only [e, va_up, if_neg hj]
  · intro k' hk'
    have o : ∀ j, ac_upR Y.2.2 k i.toNat v k' j = Y.2.2 k' j := fun j => if_neg (fun q => hk' q.1)
    simp only [ac_ent, ac_w, o]
theorem ac_objInit {idx k : Nat} (hdg : decode cc pc = .ok (.invokespecial idx, 3)) (hA : Cond.methodLink on.1 idx Lib.objectInit ∈ ac_T) (hB : Cond.instanceMethod Lib.objectInit ∈ ac_T) (hC : Cond.code Lib.objectInit ⟨#[0xb1]⟩ 1 none ∈ ac_T) (hk : 1 ≤ k) (hq : pc + 3 = q) (hd : 1 ≤ d) (hsw : ac_sw st ≤ 8) (kk : ac_V G on cc nL ret d mc ms P ck cn Y mm q ls st) : ac_V G on cc nL ret d mc ms P ck cn Y mm pc ls ((2, (k : Int)) :: st) := by
  intro p e s m args below meth c H locs la X hz hH hS hL
  subst hq
  have hts := X.2.2.2.2.2.2.1
  have h := kk p e s m args below meth c H locs la X hz hH hS hL
  simp only [List.map_cons, ac_refv hk]
  refine W.objInit X.1 X.2.1 X.2.2.2.2.2.1 (hts _ hA) (hts _ hB) (hts _ hC) rfl (by rw [hL.1, X.2.2.1]) rfl hdg (by show 1 ≤ 1208 + d; omega) ?_ ?_
  · have := lv_room (m := m) (pc := 0) (ls := la) (rest := []) (st := st.map (ac_v G.2.1)) (by rw [ac_sw_cat]; exact hsw)
    refine Nat.le_trans (Nat.add_le_add_right this 12) ?_
    show 8 + 12 ≤ 100 * d
    omega
  · exact W.eq (g2 := F0 m (pc + 3) la (st.map (ac_v G.2.1))) rfl h
theorem ac_max {x y v : Int} {idx : Nat} (hdg : decode cc pc = .ok (.invokestatic idx, 3)) (h1 : Cond.methodLink on.1 idx Lib.Math.max.name ∈ ac_T) (h2 : Cond.static Lib.Math.max.name ∈ ac_T) (h3 : Cond.initialized "java/lang/Math" ∈ ac_T) (h4 : Cond.code Lib.Math.max.name Lib.Math.max.code 2 (some .int) ∈ ac_T) (hx : ac_in x) (hy : ac_in y) (hv : max x y = v) (hq : pc + 3 = q) (hd : 1 ≤ d) (hsw : ac_sw st ≤ 8) (hmc : ck ≤ mc) (hms : cn ≤ ms) (kk : ac_V G on cc nL ret d mc ms P ck cn Y mm q ls ((0, v) :: st)) : ac_V G on cc nL ret d mc ms P ck cn Y mm pc ls ((0, y) :: (0, x) :: st) := by
  intro p e s m args below meth c H locs la X hz hH hS hL
  subst hq; subst hv
  have hts := X.2.2.2.2.2.2.1
  have h := kk p e s m args below meth c H locs la X hz hH hS hL
  refine va_mmax X.1 X.2.1 (by rw [hL.1, X.2.2.1]) X.2.2.2.2.2.1 (hts _ h1) (hts _ h2) (hts _ h3) (hts _ h4) (by show 1 ≤ 1208 + d; omega) (by rw [ac_sw_cat]; show ac_sw st + 13 ≤ 100 * d; omega) hmc hms hdg ?_
  have e : (if Int32.ofInt x < Int32.ofInt y then Int32.ofInt y else Int32.ofInt x) = Int32.ofInt (max x y) := by
    by_cases hlt : x < y
    · rw [if_pos ((ac_lt hx hy).mpr hlt), Int.max_eq_right (by omega)]
    · rw [if_neg (fun q => hlt ((ac_lt hx hy).mp q)), Int.max_eq_left (by omega)]
  rw [e]
  exact h
theorem ac_min {x y v : Int} {idx : Nat} (hdg : decode cc pc = .ok (.invokestatic idx, 3)) (h1 : Cond.methodLink on.1 idx Lib.Math.min.name ∈ ac_T) (h2 : Cond.static Lib.Math.min.name ∈ ac_T) (h3 : Cond.initialized "java/lang/Math" ∈ ac_T) (h4 : Cond.code Lib.Math.min.name Lib.Math.min.code 2 (some .int) ∈ ac_T) (hx : ac_in x) (hy : ac_in y) (hv : min x y = v) (hq : pc + 3 = q) (hd : 1 ≤ d) (hsw : ac_sw st ≤ 8) (hmc : ck ≤ mc) (hms : cn ≤ ms) (kk : ac_V G on cc nL ret d mc ms P ck cn Y mm q ls ((0, v) :: st)) : ac_V G on cc nL ret d mc ms P ck cn Y mm pc ls ((0, y) :: (0, x) :: st) := by
  intro p e s m args below meth c H locs la X hz hH hS hL
  subst hq; subst hv
  have hts := X.2.2.2.2.2.2.1
  have h := kk p e s m args below meth c H locs la X hz hH hS hL
  refine va_mmin X.1 X.2.1 (by rw [hL.1, X.2.2.1]) X.2.2.2.2.2.1 (hts _ h1) (hts _ h2) (hts _ h3) (hts _ h4) (by show 1 ≤ 1208 + d; omega) (by rw [ac_sw_cat]; show ac_sw st + 13 ≤ 100 * d; omega) hmc hms hdg ?_
  have e : (if Int32.ofInt y < Int32.ofInt x then Int32.ofInt y else Int32.ofInt x) = Int32.ofInt (min x y) := by
    by_cases hlt : y < x
    · rw [if_pos ((ac_lt hy hx).mpr hlt), Int.min_eq_right (by omega)]
    · rw [if_neg (fun q => hlt ((ac_lt hy hx).mp q)), Int.min_eq_left (by omega)]
  rw [e]
  exact h
/-- the first n numbers of row k0 into row k1 -/
def ac_cp (mm : ac_M) (k0 k1 n : Nat) : ac_M := fun k j => if k = k1 ∧ j < n then mm k0 j else mm k j
theorem ac_copy {idx k0 k1 n0 n1 n : Nat} (hdg : decode cc pc = .ok (.invokestatic idx, 3)) (h1 : Cond.methodLink on.1 idx arraycopyName ∈ ac_T) (h2 : Cond.native arraycopyName ∈ ac_T) (h3 : Cond.static arraycopyName ∈ ac_T) (h4 : Cond.initialized "java/lang/System" ∈ ac_T) (hk0 : Y.2.1 k0 = (1, n0)) (hk1 : Y.2.1 k1 = (1, n1)) (hn0 : n ≤ n0) (hn1 : n ≤ n1) (hn : n < 100000000) (hq : pc + 3 = q) (hd : 1 ≤ d) (hsw : ac_sw st ≤ 8) (kk : ac_V G on cc nL ret d mc ms P ck cn Y (ac_cp mm k0 k1 n) q ls st) : ac_V G on cc nL ret d mc ms P ck cn Y mm pc ls ((0, (n : Int)) :: (0, 0) :: (2, (k1 : Int)) :: (0, 0) :: (2, (k0 : Int)) :: st) := by
  intro p e s m args below meth c H locs la X hz hH hS hL
  subst hq
  have hts := X.2.2.2.2.2.2.1
  have h9 : (Y.2.1 k0).1 ≠ 9 := by rw [hk0]; exact (show (1 : Nat) ≠ 9 by decide)
  have h9v : (Y.2.1 k1).1 ≠ 9 := by rw [hk1]; exact (show (1 : Nat) ≠ 9 by decide)
  have g0 := (ac_live hH.1 h9).1
  have g1 := (ac_live hH.1 h9v).1
  have he := ac_ws_at (G := G) (mm := mm) hH.1 h9
  have hev := ac_ws_at (G := G) (mm := mm) hH.1 h9v
  rw [ac_ent_i hk0] at he
  rw [ac_ent_i hk1] at hev
  have hi : ac_in (n : Int) := ⟨by omega, by omega⟩
  have e1 := ac_toInt hi
  have en : (Int32.ofInt (n : Int)).toNatClampNeg = n := by show (Int32.ofInt (n : Int)).toInt.toNat = n; rw [e1]; omega
  have ez : (Int32.ofInt 0).toNatClampNeg = 0 := rfl
  simp only [List.map_cons, ac_refv g0, ac_refv g1]
  refine va_copyi X.1 X.2.1 (by rw [hL.1, X.2.2.1]) X.2.2.2.2.2.1 (hts _ h1) (hts _ h2) (hts _ h3) (hts _ h4) X.2.2.2.2.2.2.2.1.1 hH.2 ac_ws_D hS (k0 - 1) (k1 - 1) 0 0 he hev rfl rfl rfl (sp := Int32.ofInt 0) (dp := Int32.ofInt 0) (n := Int32.ofInt (n : Int)) (by decide) (by decide) (by rw [Int32.lt_iff_toInt_lt, e1]; show ¬ (n : Int) < 0; omega) (by rw [en, ez]; omega) (by rw [en, ez]; omega) (fun i _ => rfl) (by show 1 ≤ 1208 + d; omega) ?_ hdg (fun H1 locs1 hP1 hD1 hS1 => ?_)
  · rw [ac_sw_cat]
    have : nativeFrameWords "java/lang/System" "arraycopy" 5 + 11 ≤ 90 := by decide
    show ac_sw st + (nativeFrameWords "java/lang/System" "arraycopy" 5 + 11) ≤ 100 * d
    omega
  · refine kk p e s m args below meth c H1 locs1 la X hz ⟨hH.1, ?_⟩ hS1 hL
    rw [ac_ws_set (Y' := Y) (mm' := ac_cp mm k0 k1 n) g1 rfl ?_ ?_] at hP1
    · exact hP1
    · rw [ac_ent_i hk1, en, ez]
      congr 4
      funext j
      by_cases hj : j < n
      · rw [show ac_cp mm k0 k1 n k1 j = mm k0 j from if_pos ⟨rfl, hj⟩]
        simp [va_cpy, hj]
      · rw [show ac_cp mm k0 k1 n k1 j = mm k1 j from if_neg (fun q => hj q.2)]
        simp [va_cpy, hj]
    · intro k' hk'
      have o : ∀ j, ac_cp mm k0 k1 n k' j = mm k' j := fun j => if_neg (fun q => hk' q.1)
      simp only [ac_ent, ac_w, o]
theorem ac_names_get {idx : Nat} (hdg : decode cc pc = .ok (.getstatic idx, 3)) (hA : Cond.fieldLink on.1 idx RX5 "NAMES" "[I" ∈ ac_T) (hq : pc + 3 = q) (kk : ac_V G on cc nL ret d mc ms P ck cn Y mm q ls ((4, (G.2.2.2.2.1 : Int)) :: st)) : ac_V G on cc nL ret d mc ms P ck cn Y mm pc ls st := by
  intro p e s m args below meth c H locs la X hz hH hS hL
  subst hq
  have hts := X.2.2.2.2.2.2.1
  have h := kk p e s m args below meth c H locs la X hz hH hS hL
  refine va_gets X.1 X.2.1 X.2.2.2.2.2.2.2.1.2.2.1.1 hS X.2.2.2.2.2.1 (hts _ hA) (fun _ h => h) hdg ?_
  exact h
theorem ac_names_ld {i v : Int} (hdg : decode cc pc = .ok (.iaload, 1)) (hi : 0 ≤ i ∧ i < 18) (hq : pc + 1 = q) (hv : ac_names i.toNat = v) (kk : ac_V G on cc nL ret d mc ms P ck cn Y mm q ls ((0, v) :: st)) : ac_V G on cc nL ret d mc ms P ck cn Y mm pc ls ((0, i) :: (4, (G.2.2.2.2.1 : Int)) :: st) := by
  intro p e s m args below meth c H locs la X hz hH hS hL
  subst hq; subst hv
  have h := kk p e s m args below meth c H locs la X hz hH hS hL
  obtain ⟨g1, g2⟩ := ac_vpin (n := 18) hi.1 hi.2 (by decide)
  have hB := X.2.2.2.2.2.2.2.1
  refine va_sld X.1 X.2.1 (b := G.2.2.2.2.1) hB.2.2.1.2.1 (Nat.lt_of_lt_of_le hB.2.2.1.2.2.1 hB.2.2.2.1) (Nat.not_le.mpr hB.2.2.1.2.2.1) hS g1 hdg ?_
  rw [g2]
  exact h
theorem ac_script_ld {i : Int} (hdg : decode cc pc = .ok (.iaload, 1)) (hL2 : G.2.2.2.2.2.2.1 < 2147483648) (hi : 0 ≤ i ∧ i < G.2.2.2.2.2.2.1) (hq : pc + 1 = q) (kk : ac_V G on cc nL ret d mc ms P ck cn Y mm q ls ((0, G.2.2.2.2.2.2.2 i.toNat) :: st)) : ac_V G on cc nL ret d mc ms P ck cn Y mm pc ls ((0, i) :: (4, (G.2.2.2.2.2.1 : Int)) :: st) := by
  intro p e s m args below meth c H locs la X hz hH hS hL
  subst hq
  have h := kk p e s m args below meth c H locs la X hz hH hS hL
  obtain ⟨g1, g2⟩ := ac_vpin (n := G.2.2.2.2.2.2.1) hi.1 hi.2 hL2
  have hB := X.2.2.2.2.2.2.2.1
  refine va_sld X.1 X.2.1 (b := G.2.2.2.2.2.1) hB.2.2.1.2.2.2.1 (Nat.lt_of_lt_of_le hB.2.2.1.2.2.2.2 hB.2.2.2.1) (Nat.not_le.mpr hB.2.2.1.2.2.2.2) hS g1 hdg ?_
  rw [g2]
  exact h
theorem ac_script_len (hdg : decode cc pc = .ok (.arraylength, 1)) (hq : pc + 1 = q) (kk : ac_V G on cc nL ret d mc ms P ck cn Y mm q ls ((0, (G.2.2.2.2.2.2.1 : Int)) :: st)) : ac_V G on cc nL ret d mc ms P ck cn Y mm pc ls ((4, (G.2.2.2.2.2.1 : Int)) :: st) := by
  intro p e s m args below meth c H locs la X hz hH hS hL
  subst hq
  have h := kk p e s m args below meth c H locs la X hz hH hS hL
  have hB := X.2.2.2.2.2.2.2.1
  refine va_slen X.1 X.2.1 (b := G.2.2.2.2.2.1) hB.2.2.1.2.2.2.1 (Nat.lt_of_lt_of_le hB.2.2.1.2.2.2.2 hB.2.2.2.1) (Nat.not_le.mpr hB.2.2.1.2.2.2.2) hS hdg ?_
  exact h
end AcArr
