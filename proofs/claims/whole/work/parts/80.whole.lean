/-! from the law's entry -/
theorem ac_len_small {t : Term} {args : Array Value} {s : State} {v : Value} (h : (Term.length t).eval args s none [] s = some v) : ∃ a cell, t.eval args s none [] s = some (.ref a) ∧ s.arrayAt? a = some cell ∧ cell.slots.size < 2147483648 ∧ v = .int cell.slots.size.toInt32 := by
  simp only [Term.eval, Option.bind_eq_bind] at h
  cases ht : t.eval args s none [] s with
  | none => simp [ht] at h
  | some x =>
    cases x <;> simp [ht] at h
    case ref a =>
      obtain ⟨cell, hcell, h⟩ := Option.bind_eq_some_iff.mp h
      by_cases hn : cell.slots.size < 2147483648
      · rw [if_pos hn] at h; cases h; exact ⟨a, cell, rfl, hcell, hn, rfl⟩
      · rw [if_neg hn] at h; cases h
theorem ac_Nw_of {args : Array Value} {s : State} (hts : ∀ w ∈ lw_tbl, w.before args s = true) : ac_Nw s := by
  intro w hw hn
  refine va_Nw.of (A := args) ?_ (hts w hw)
  cases w <;> first | rfl | (exact absurd hn (by simp [ac_isN]))
def ac_tm : Term := .static RX5 "NAMES" "[I"
/-- the row of names at the start -/
theorem ac_names_of {b L : Nat} {xs : Nat → Int32} {A : Nat → Prop} {s : State} (hts : ∀ w ∈ lw_tbl, w.before #[Value.ref b] s = true) (hgv : (Jvm.Cond.and given_1 narrow_1).before #[Value.ref b] s = true) (hA : ∀ a : Nat, a < s.heap.size → ¬ A a) : ∃ t : Nat, va_Z RX5 "NAMES" "[I" (.ref t) A s s.heap ∧ va_X t 18 (fun j => Int32.ofInt (ac_names j)) s s.heap ∧ t < s.heap.size := by
  have hs := flat_of_before _ hgv
  have hlen : (Term.length ac_tm).eval #[Value.ref b] s none [] s = some (.int 18) := va_eqt (hs (Cond.eq (Term.length ac_tm) (Term.int 18)) (by decide +kernel))
  have hel : ∀ j : Nat, j < 18 → (Term.elem ac_tm (.int (Int32.ofNat j))).eval #[Value.ref b] s none [] s = some (.int (Int32.ofInt (ac_names j))) := by
    intro j hj
    match j, hj with
    | 0, _ => exact (va_eqt (hs (Cond.eq (Term.elem ac_tm (Term.int 0)) (Term.int 0)) (by decide +kernel))).trans (by rw [show Int32.ofInt (ac_names 0) = (0 : Int32) by decide])
    | 1, _ => exact (va_eqt (hs (Cond.eq (Term.elem ac_tm (Term.int 1)) (Term.int 1)) (by decide +kernel))).trans (by rw [show Int32.ofInt (ac_names 1) = (1 : Int32) by decide])
    | 2, _ => exact (va_eqt (hs (Cond.eq (Term.elem ac_tm (Term.int 2)) (Term.int 2)) (by decide +kernel))).trans (by rw [show Int32.ofInt (ac_names 2) = (2 : Int32) by decide])
    | 3, _ => exact (va_eqt (hs (Cond.eq (Term.elem ac_tm (Term.int 3)) (Term.int 0)) (by decide +kernel))).trans (by rw [show Int32.ofInt (ac_names 3) = (0 : Int32) by decide])
    | 4, _ => exact (va_eqt (hs (Cond.eq (Term.elem ac_tm (Term.int 4)) (Term.int 2)) (by decide +kernel))).trans (by rw [show Int32.ofInt (ac_names 4) = (2 : Int32) by decide])
    | 5, _ => exact (va_eqt (hs (Cond.eq (Term.elem ac_tm (Term.int 5)) (Term.int 1)) (by decide +kernel))).trans (by rw [show Int32.ofInt (ac_names 5) = (1 : Int32) by decide])
    | 6, _ => exact (va_eqt (hs (Cond.eq (Term.elem ac_tm (Term.int 6)) (Term.int 1)) (by decide +kernel))).trans (by rw [show Int32.ofInt (ac_names 6) = (1 : Int32) by decide])
    | 7, _ => exact (va_eqt (hs (Cond.eq (Term.elem ac_tm (Term.int 7)) (Term.int 0)) (by decide +kernel))).trans (by rw [show Int32.ofInt (ac_names 7) = (0 : Int32) by decide])
    | 8, _ => exact (va_eqt (hs (Cond.eq (Term.elem ac_tm (Term.int 8)) (Term.int 2)) (by decide +kernel))).trans (by rw [show Int32.ofInt (ac_names 8) = (2 : Int32) by decide])
    | 9, _ => exact (va_eqt (hs (Cond.eq (Term.elem ac_tm (Term.int 9)) (Term.int 1)) (by decide +kernel))).trans (by rw [show Int32.ofInt (ac_names 9) = (1 : Int32) by decide])
    | 10, _ => exact (va_eqt (hs (Cond.eq (Term.elem ac_tm (Term.int 10)) (Term.int 2)) (by decide +kernel))).trans (by rw [show Int32.ofInt (ac_names 10) = (2 : Int32) by decide])
    | 11, _ => exact (va_eqt (hs (Cond.eq (Term.elem ac_tm (Term.int 11)) (Term.int 0)) (by decide +kernel))).trans (by rw [show Int32.ofInt (ac_names 11) = (0 : Int32) by decide])
    | 12, _ => exact (va_eqt (hs (Cond.eq (Term.elem ac_tm (Term.int 12)) (Term.int 2)) (by decide +kernel))).trans (by rw [show Int32.ofInt (ac_names 12) = (2 : Int32) by decide])
    | 13, _ => exact (va_eqt (hs (Cond.eq (Term.elem ac_tm (Term.int 13)) (Term.int 0)) (by decide +kernel))).trans (by rw [show Int32.ofInt (ac_names 13) = (0 : Int32) by decide])
    | 14, _ => exact (va_eqt (hs (Cond.eq (Term.elem ac_tm (Term.int 14)) (Term.int 1)) (by decide +kernel))).trans (by rw [show Int32.ofInt (ac_names 14) = (1 : Int32) by decide])
    | 15, _ => exact (va_eqt (hs (Cond.eq (Term.elem ac_tm (Term.int 15)) (Term.int 2)) (by decide +kernel))).trans (by rw [show Int32.ofInt (ac_names 15) = (2 : Int32) by decide])
    | 16, _ => exact (va_eqt (hs (Cond.eq (Term.elem ac_tm (Term.int 16)) (Term.int 1)) (by decide +kernel))).trans (by rw [show Int32.ofInt (ac_names 16) = (1 : Int32) by decide])
    | 17, _ => exact (va_eqt (hs (Cond.eq (Term.elem ac_tm (Term.int 17)) (Term.int 0)) (by decide +kernel))).trans (by rw [show Int32.ofInt (ac_names 17) = (0 : Int32) by decide])
    | k + 18, h => omega
  obtain ⟨t, ht, cell, h1, h2, h3, h4, h5, h6, h7⟩ := va_Tof (A := A) (ty := .int) (N := 18) (f := fun j => .int (Int32.ofInt (ac_names j))) (by decide) (hs (Cond.arrayOf ac_tm .int) (by decide +kernel)) hlen hel hA
  obtain ⟨t2, cell2, g1, g2, g3, g4⟩ := ac_len_small hlen
  cases ht.symm.trans g1
  obtain ⟨hcell, -, -, -⟩ := State.arrayAt?_spec g2
  cases h1.symm.trans hcell
  have h18 : cell.slots.size = 18 := by
    have e := Value.int.inj g4
    have e1 : (18 : Int32).toNatClampNeg = 18 := by decide
    have e2 : (Int32.ofNat cell.slots.size).toNatClampNeg = cell.slots.size := Int32.toNatClampNeg_ofNat_of_lt g3
    have e3 : (18 : Int32).toNatClampNeg = (Int32.ofNat cell.slots.size).toNatClampNeg := congrArg Int32.toNatClampNeg e
    rw [e1, e2] at e3
    exact e3.symm
  exact ⟨t, va_Zref (hts _ (List.mem_of_getElem? (i := 687) (by decide +kernel))) (hts (.initialized RX5) (List.mem_of_getElem? (i := 108) (by decide +kernel))) ht hA, ⟨cell, h1, h2, h3, h18, h6⟩, (Array.getElem?_eq_some_iff.mp h1).1⟩

/-! THE CLAIM OUT OF ONE WALK OF THE LAW'S BODY. Your part is whole_start (and what it stands on); all else here is the same for every law, but numbers. -/
def R_law : String := "AvoidColoursLaw"
def lw_P (b : Addr) (xs : List Int32) (args : Array Value) (s : State) : Prop := args = #[.ref b] ∧ s.IntsAt b xs ∧ xs.length ≤ 2560 ∧ (Jvm.Cond.and given_1 narrow_1).before args s = true
def lw_Q (_ : Array Value) (s : State) (o : Outcome) (t : State) : Prop := o = .returned (some (.int 1)) ∧ Framed s o t [] 600000 7302250
def lw_Z (below : List Frame) (a : Array Value) (s : State) : State → Prop := fun t => ∃ o, t.status = .running ∧ Ended t below o ∧ lw_Q a s o t
/-- the law's own end, with 1 on the stack, nothing written that was there before, its room as the claim has it -/
theorem lw_ret {p : Program} {l : Launch} {e : Env} {s : State} {m : MethodId} {below : List Frame} {meth : Method} {c : Code} {b : Nat} (hx : p.tables.exec = Jvm.exec) (hb : c.code = code) (hr : meth.sig.returnType = ret) (hlocks : meth.locks = false) {pc : Nat} {H : Heap} {ls : Array Slot} (hdg : decode code pc = .ok (.ireturn, 1)) : W p l e room_1 s m #[Value.ref b] below meth c H [] 600000 7302250 (lw_Z below #[Value.ref b] s) (F0 m pc ls [.int 1]) := by
  intro T hT X
  obtain ⟨fs, hret, hrun, hended, hW, hframe⟩ := X.leave (v := some (.int 1)) (hlocks := hlocks) (fun h => by rw [hr] at h; cases h)
  have hmeth' : T.vm.method? m = some meth := X.method'
  refine ⟨T.setFrames fs, ?_, .returned (some (.int 1)), hrun, hended, rfl, ⟨_, rfl⟩, hW, hframe⟩
  jvm_step X.here [X.here.top, hx, hb, hdg, hmeth', hr, ret, narrow_b1]
  (try refine ⟨rfl, ?_⟩); (try refine ⟨rfl, ?_⟩)
  first | (intro acts; rw [hret _ acts rfl rfl rfl]) | rw [hret _ _ rfl rfl rfl]
  exact Steps.refl _
/-- what holds at the law's entry: the machine, the code, the tables' words (any of lw_tbl by 'hts w (by decide +kernel)'), the script of L ints xs at the cell b, what the Statement gives of the start (any of its parts by flat_of_before) -/
def lw_At (p : Program) (s : State) (m : MethodId) (meth : Method) (c : Code) (b L : Nat) (xs : Nat → Int32) : Prop :=
  p.tables.exec = Jvm.exec ∧ c.code = code ∧ meth.sig.returnType = ret ∧ c.maxLocals = 4 ∧ s.vm.findClass R_law = some m.cls ∧ (∀ w ∈ lw_tbl, w.before #[Value.ref b] s = true) ∧ va_X b L xs s s.heap ∧ b < s.heap.size ∧ meth.locks = false ∧ (Jvm.Cond.and given_1 narrow_1).before #[Value.ref b] s = true
theorem ac_law_end {G : ac_G} {P : ac_P} {below : List Frame} {b : Nat} {s t : State} (hG : G.2.1 = s.heap.size) (hP : ∀ r Y mm, P r Y mm → r = [(0, 1)]) (h : MQ below (ac_Qc G P) #[Value.ref b] s 600000 7302250 (ac_A G) t) : lw_Z below #[Value.ref b] s t := by
  obtain ⟨o, h1, h2, ⟨⟨r, Y, mm, ho, hp, -⟩, -⟩, L, ⟨f1, f2, b1, b2, b3, b4, b5, b6⟩, hf⟩ := h
  rw [hP r Y mm hp] at ho
  refine ⟨o, h1, h2, ho, f1, f2, b1, b2, b3, b4, b5, fun a c hc => ?_⟩
  obtain ⟨c', d1, d2, d3, d4⟩ := b6 a c hc
  refine ⟨c', d1, d2, d3, fun i _ => d4 i (fun hm => ?_)⟩
  have h3 : G.2.1 ≤ a := hf _ hm
  have h4 := (Array.getElem?_eq_some_iff.mp hc).1
  omega
set_option maxHeartbeats 4000000 in
theorem whole_start {p : Program} {e : Env} {s : State} {m : MethodId} {below : List Frame} {meth : Method} {c : Code} (l : Launch) (hflags : l.flags = flags0) {b L : Nat} {xs : Nat → Int32} (hL : L ≤ 2560) (C0 : lw_At p s m meth c b L xs) : W p l e room_1 s m #[Value.ref b] below meth c s.heap [] 0 0 (lw_Z below #[Value.ref b] s) (entryFrame m ([Value.ref b] : List Value).toArray 4) := by
  obtain ⟨hx, hb, hr, hml, hown, hts, hX, hbl, hlocks, hgv⟩ := id C0
  have hT : ∀ w ∈ ac_T, w.before #[Value.ref b] s = true := fun w h => hts w (ac_T_mem h)
  obtain ⟨c0, i0, K0⟩ := u_known (C := RX0) (T := TX0) (N := 2) (n := 2) hT cl_in0 (hts (.instantiable RX0 2) (List.mem_of_getElem? (i := 227) (by decide +kernel)))
  obtain ⟨c1, i1, K1⟩ := u_known (C := RX1) (T := TX1) (N := 3) (n := 3) hT cl_in1 (hts (.instantiable RX1 3) (List.mem_of_getElem? (i := 184) (by decide +kernel)))
  obtain ⟨c2, i2, K2⟩ := u_known (C := RX2) (T := TX2) (N := 3) (n := 3) hT cl_in2 (hts (.instantiable RX2 3) (List.mem_of_getElem? (i := 209) (by decide +kernel)))
  obtain ⟨c3, i3, K3⟩ := u_known (C := RX3) (T := TX3) (N := 7) (n := 7) hT cl_in3 (hts (.instantiable RX3 7) (List.mem_of_getElem? (i := 143) (by decide +kernel)))
  obtain ⟨c4, i4, K4⟩ := u_known (C := RX4) (T := TX4) (N := 3) (n := 3) hT cl_in4 (hts (.instantiable RX4 3) (List.mem_of_getElem? (i := 125) (by decide +kernel)))
  obtain ⟨c5, i5, K5⟩ := u_known (C := RX5) (T := TX5) (N := 15) (n := 15) hT cl_in5 (hts (.instantiable RX5 15) (List.mem_of_getElem? (i := 203) (by decide +kernel)))
  obtain ⟨c6, i6, K6⟩ := u_known (C := RX6) (T := TX6) (N := 9) (n := 9) hT cl_in6 (hts (.instantiable RX6 9) (List.mem_of_getElem? (i := 117) (by decide +kernel)))
  obtain ⟨c7, i7, K7⟩ := u_known (C := RX7) (T := TX7) (N := 28) (n := 28) hT cl_in7 (hts (.instantiable RX7 28) (List.mem_of_getElem? (i := 794) (by decide +kernel)))
  obtain ⟨D, hD⟩ : ∃ D : va_G, ∀ (k : Nat) (q : vw_C), vwCl[k]? = some q → u_Kn s q.1 q.2.1 q.2.2 (D.1 k) (D.2 k) := by
    refine ⟨(fun k => match k with | 0 => c0 | 1 => c1 | 2 => c2 | 3 => c3 | 4 => c4 | 5 => c5 | 6 => c6 | _ => c7, fun k => match k with | 0 => i0 | 1 => i1 | 2 => i2 | 3 => i3 | 4 => i4 | 5 => i5 | 6 => i6 | _ => i7), ?_⟩
    intro k q hq
    match k, hq with
    | 0, hq => cases hq; exact K0
    | 1, hq => cases hq; exact K1
    | 2, hq => cases hq; exact K2
    | 3, hq => cases hq; exact K3
    | 4, hq => cases hq; exact K4
    | 5, hq => cases hq; exact K5
    | 6, hq => cases hq; exact K6
    | 7, hq => cases hq; exact K7
    | k + 8, hq => simp [vwCl] at hq
  obtain ⟨cI, kI, pI, hI1, hI2, hI3⟩ := Cond.arrayClass_spec (hT _ ar_int)
  obtain ⟨cZ, kZ, pZ, hZ1, hZ2, hZ3⟩ := Cond.arrayClass_spec (hT _ ar_boolean)
  have hov : (Cond.arrayOver (.object RX3)).before #[Value.ref b] s = true := hts _ (List.mem_of_getElem? (i := 182) (by decide +kernel))
  obtain ⟨pT, cT, kT, hT1, -, hT3, hT4, hT5⟩ := Cond.arrayOver_spec hov
  have hAA : ∀ a : Nat, a < s.heap.size → ¬ s.heap.size ≤ a := fun a h => Nat.not_le.mpr h
  obtain ⟨t, vZ, vX, htl⟩ := ac_names_of (A := fun q => s.heap.size ≤ q) (L := L) (xs := xs) hts hgv hAA
  have hxs : (fun j => Int32.ofInt ((xs j).toInt)) = xs := by
    funext j; exact Int32.ofInt_toInt _
  have hB : ac_B (l, s.heap.size, D, (cI, cZ, cT), (t, b, L, fun j => (xs j).toInt)) s := by
    refine ⟨⟨hD, fun k q hq => ?_⟩, ac_Nw_of hts, ⟨vZ, vX, htl, ?_, hbl⟩, Nat.le_refl _, va_AO.of hov⟩
    · match k, hq with
      | 0, hq => cases hq; exact ⟨fun n z => ⟨fun k h => (by cases h), kI, hI2, pI, hI3⟩, hI1⟩
      | 1, hq => cases hq; exact ⟨fun n z => ⟨fun k h => (by cases h), kZ, hZ2, pZ, hZ3⟩, hZ1⟩
      | 2, hq => cases hq; exact ⟨fun n z => ⟨fun k h => (by cases h), kT, hT3, pT, hT4⟩, kT, pT, hT3, hT4, hT1, hT5⟩
      | k + 3, hq => simp [ac_tys] at hq
    · show va_X b L (fun j => Int32.ofInt ((xs j).toInt)) s s.heap
      rw [hxs]; exact hX
  have hl := lv_entry ([.ref b]) (n := 4) (Nat.le_of_ble_eq_true rfl)
  rw [lg_entry_eq]
  have hV := L_body (G := (l, s.heap.size, D, (cI, cZ, cT), (t, b, L, fun j => (xs j).toInt))) (nm := meth.name) (d := 840) (MC := 600000) (MS := 7302250) (by decide) (Nat.le_of_ble_eq_true rfl) (Nat.le_of_ble_eq_true rfl) (fun j => ?_) hL p e s m #[Value.ref b] below meth c s.heap [] _ ⟨hx, hb, hml, hr, hlocks, hown, hT, hB, rfl⟩ (by show s.heap.size + 0 = s.heap.size + 0; rfl) ⟨fun k _ => rfl, fun k q h => by simp [ac_ws, ac_Y0] at h⟩ va_S.rf (ac_lweak hl fun q hq => ?_)
  · intro T hT2 X
    obtain ⟨t2, st, hq⟩ := hV T hT2 X
    exact ⟨t2, st, ac_law_end rfl (fun r Y mm h => h) hq⟩
  · have h1 := Int32.le_toInt (xs j)
    have h2 := Int32.toInt_lt (xs j)
    exact ⟨by simpa using h1, by simpa using h2⟩
  · obtain ⟨w, h1, h2, h3⟩ := ac_enc_mem.mp hq
    obtain ⟨k, v⟩ := q
    simp only at h1 h3
    subst h3
    match k, h1 with
    | 0, h1 => cases h1; exact List.mem_cons_self ..
    | 1, h1 => cases h1; exact absurd rfl h2
    | 2, h1 => cases h1; exact absurd rfl h2
    | 3, h1 => cases h1; exact absurd rfl h2
    | k + 4, h1 => simp at h1
set_option maxHeartbeats 4000000 in
theorem lw_walk (l : Launch) (hflags : l.flags = flags0) (b : Addr) (xs : List Int32) : MetFree l x (headSpec (Jvm.Cond.code x code maxLocals ret :: tables_1) room_1) (lw_P b xs) (fun _ _ _ _ _ => True) lw_Q := by
  refine MetFree.of_bodyS (code := code) (maxLocals := maxLocals) (ret := ret) (by decide) ?_ ?_
  · intro args s m h hn
    obtain ⟨meth, c, h1, h2, h3, h4, h5, h6, -, -⟩ := Cond.code_spec hn (atoms_spec (ws := Jvm.Cond.code x code maxLocals ret :: tables_1) h _ List.mem_cons_self)
    exact ⟨meth, c, h1, h2, h3, h4, h5, h6⟩
  · intro p e s m args below meth c s₁ B hml0 hP _
    obtain ⟨rfl, hx, hbd, hgv⟩ := hP
    obtain ⟨scr, harrAt, hlist, hof, hsmall⟩ := hx
    obtain ⟨hcb, hkn, -, -⟩ := State.arrayAt?_spec harrAt
    have hown : s.vm.findClass R_law = some m.cls := findClass_of_methodNamed B.named
    have hts0 : ∀ c ∈ (Jvm.Cond.code x code maxLocals ret :: tables_1), c.before #[Value.ref b] s = true := atoms_spec (ws := Jvm.Cond.code x code maxLocals ret :: tables_1) B.pre
    have hts : ∀ w ∈ lw_tbl, w.before #[Value.ref b] s = true := k2_hts_sels lw_privs (fun w hw => hts0 w (List.mem_cons_of_mem _ hw)) lw_privs_ok
    have hml : c.maxLocals = 4 := B.maxLocals_eq (hts0 _ List.mem_cons_self)
    have X₀ : Stand p l e room_1 s m #[Value.ref b] below meth c s₁ [] 0 0 := Stand.of_body B
    have hh0 : s₁.heap = s.heap := by rw [B.state]; rfl
    have hsz : scr.slots.size = xs.length := by rw [← Array.length_toList, hlist, List.length_map]
    have hval : ∀ j : Nat, j < xs.length → scr.slots[j]? = some (.int (xs.getD j 0)) := fun j hj => by
      rw [← Array.getElem?_toList, hlist]
      simp [hj]
    have hbl : b < s.heap.size := (Array.getElem?_eq_some_iff.mp hcb).1
    have hX : va_X b xs.length (fun j => xs.getD j 0) s s.heap := ⟨scr, hcb, hof, hkn, hsz, hval⟩
    have K : W p l e room_1 s m #[Value.ref b] below meth c s₁.heap [] 0 0 (lw_Z below #[Value.ref b] s) (entryFrame m ([Value.ref b] : List Value).toArray 4) := by
      rw [hh0]
      exact whole_start l hflags hbd ⟨B.exec, B.bytes, B.returns, hml, hown, hts, hX, hbl, B.notSynchronized, hgv⟩
    obtain ⟨t, a1, o, b1, b2, b3⟩ := K s₁ rfl X₀
    exact ⟨t, o, a1, b1, b2, b3⟩
theorem lw_pre_spec {args : Array Value} {s : State} (h : (Jvm.Cond.and given_1 narrow_1).before args s = true) (hr : rest_1_c.before args s = true) : ∃ (b : Addr) (xs : List Int32), lw_P b xs args s := by
  have hs := flat_of_before _ h
  have hq := flat_of_before _ hr
  have hc : (Cond.count 1).before args s = true := hs _ (by decide +kernel)
  have harr : (Cond.arrayOf (.arg 0) .int).before args s = true := hs _ (by decide +kernel)
  have hle : (Cond.le (.length (.arg 0)) (.int 2560)).before args s = true := hs _ (by decide +kernel)
  have hlen : (Cond.isInt (.length (.arg 0))).before args s = true := hq _ (by decide +kernel)
  have hall : (Cond.all (.arg 0) (.isInt (.elem (.arg 0) (.index 0)))).before args s = true := hq _ (by decide +kernel)
  obtain ⟨b, xs, hb, hx⟩ := State.ints_of_pre rfl harr hlen hall
  have hsm : xs.length < 2 ^ 31 := hx.choose_spec.2.2.2
  have hev : (Term.length (.arg 0)).eval args s none [] s = some (.int xs.length.toInt32) := hx.length_eval hb
  have hv := Cond.le_ints hev (show (Term.int 2560).eval args s none [] s = some (.int 2560) from rfl)
  have hd : xs.length.toInt32 ≤ 2560 := by
    simpa [Cond.before, Cond.holds, hv] using hle
  have hN : xs.length ≤ 2560 := (Int32.ofNat_le_ofNat hsm (by decide)).mp (show Int32.ofNat xs.length ≤ Int32.ofNat 2560 from hd)
  exact ⟨b, xs, Cond.one_arg hc (show args[0]? = some (.ref b) from hb), hx, hN, h⟩
theorem lw_comes (l : Launch) (hflags : l.flags = flags0) : Comes l x (Jvm.Cond.code x code maxLocals ret :: tables_1) room_1 (fun tb e args s => Calls_1 tb e args s ∧ rest_1 tb e args s ∧ Pre_1 tb e args s)
    (fun _ _ args s o t => lw_Q args s o t) := by
  intro p e ha hc hk s m args below hf hfit hheap happ hpre
  obtain ⟨b, xs, hP⟩ := lw_pre_spec hpre.2.2 hpre.2.1
  obtain ⟨k, o, h1, h2, h3, hQ⟩ := lw_walk l hflags b xs p e ha hc hk s m args below hf ((Spec.applies_iff_loose hf).mp happ).1 hP trivial
  exact ⟨k, o, h1, h2, h3, hQ⟩
theorem lw_frame {s t : State} {o : Outcome} {args : Array Value} (h : Framed s o t [] 600000 7302250) :
    Framed s o t (fieldLocs frame_1_writes args s ++ arrayLocs frame_1_arrays args s ++ staticLocs frame_1_statics s) 600000 7302250 := h
theorem lw_limb (L : Cond) (hL : ∀ (args : Array Value) (s t : State), L.after args s (.returned (some (.int 1))) t = true) :
    ArmFor flags0 classFile x code maxLocals ret World_1 tables_1 room_1 Calls_1 rest_1 Pre_1
      (fun tb e a s o t => postC L tb e a s o t ∧ Framed s o t (fieldLocs frame_1_writes a s ++ arrayLocs frame_1_arrays a s ++ staticLocs frame_1_statics s) 600000 7302250) := by
  intro l hflags _ _ p e ha hc hk s m args below hf hfit hheap happ hpre
  obtain ⟨k, o, h1, h2, h3, rfl, hF⟩ := lw_comes l hflags p e ha hc hk s m args below hf hfit hheap happ hpre
  exact ⟨k, _, h1, h2, h3, hL args s _, lw_frame hF⟩
theorem i_vc : Claimed_1_1 ∧ Claimed_1_2 := ⟨lw_limb limb_1_1 (fun args s t => by simp [limb_1_1, Cond.after, Cond.holds, Cond.value]), lw_limb limb_1_2 (fun args s t => Cond.after_iff.mpr (by
  first | (rw [show limb_1_2 = Cond.eq .result (.int 1) from rfl, Cond.eq_ints (x := 1) (y := 1) rfl rfl]; simp; done) | (simp [limb_1_2, Cond.value, Term.eval]; done)))⟩
