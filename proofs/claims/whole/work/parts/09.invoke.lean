/-- entry idx of a class's constant pool is the method y: k = 0 static, 1 called on an object of class ci, 2 a constructor -/
def ac_ML (k : Nat) (own : String) (idx ci : Nat) (y : MethodName) (cc : ByteArray) (nL : Nat) (ret : Option FieldType) (n : Nat) : Prop :=
  (y.cls ≠ "java/lang/invoke/MethodHandle" ∧ y.cls ≠ "java/lang/invoke/VarHandle" ∧ (parseMethodDescriptor y.desc).map (fun d => d.parameters.length) = some n) ∧ nL ≤ 80 ∧ Cond.code y cc nL ret ∈ ac_T ∧ Cond.initialized y.cls ∈ ac_T ∧
  (Cond.methodLink own idx y ∈ ac_T ∨ ∃ host, Cond.methodLinkNest own idx y host ∈ lw_tbl) ∧
  (match k with
    | 0 => Cond.static y ∈ ac_T
    | 1 => Cond.instanceMethod y ∈ ac_T ∧ Cond.selects y.cls y y ∈ ac_T ∧ ∃ r : vw_C, vwCl[ci]? = some r ∧ r.1 = y.cls
    | _ => Cond.instanceMethod y ∈ ac_T ∧ y.name = "<init>" ∧ ret = none)
section AcCall
variable {G : ac_G} {on : String × String} {cc : ByteArray} {nL : Nat} {ret : Option FieldType} {d mc ms : Nat} {P : ac_P} {ck cn : Nat} {Y : ac_Y} {mm : ac_M} {pc q : Nat} {ls st : List (Nat × Int)}
variable {y : MethodName} {cc' : ByteArray} {nL' d' mc' ms' idx ci n : Nat} {ret' : Option FieldType} {P' : ac_P} {as rest : List (Nat × Int)}
def ac_Pc (G : ac_G) (Y : ac_Y) (mm : ac_M) (as : List (Nat × Int)) : Array Value → State → Prop := fun a U => a = (as.map (ac_v G.2.1)).toArray ∧ ac_H G Y mm U.heap ∧ ac_B G U ∧ U.heap.size = G.2.1 + Y.1
theorem ac_preS {s : State} {H : Heap} {locs : List Loc} (hB : ac_B G s) (hH : ac_H G Y mm H) (hS : va_S (ac_A G) s.heap H locs) (hsz : H.size = G.2.1 + Y.1) : PreS s H (ac_Pc G Y mm as) (as.map (ac_v G.2.1)) :=
  ⟨fun _ _ _ _ h => ⟨h.1, h.2.1, h.2.2.1.calling, h.2.2.2⟩, fun U hU hW => ⟨rfl, by rw [hU]; exact hH, hB.at hS hU hW, by rw [hU]; exact hsz⟩⟩
theorem ac_after {p : Program} {e : Env} {s : State} {m : MethodId} {args : Array Value} {below : List Frame} {meth : Method} {c : Code} {H : Heap} {locs : List Loc} {la : Array Slot} {stv : List Value} {a : Array Value}
    (hr : va_Run p G.1 e (ac_room d mc ms) s m args below meth c H locs ck cn mc' ms' (F0 m pc la stv) (rest.map (ac_v G.2.1)) (ac_Qc G P' a) (ac_A G)) (X : ac_X G on cc nL ret p s m args meth c) (hz : s.heap.size + ck = G.2.1 + Y.1) (hS : va_S (ac_A G) s.heap H locs) (hL : lv_has la nL (ac_enc G.2.1 ls))
    (hok : ∀ r Y' mm', P' r Y' mm' → Y'.1 = Y.1 + mc') (kk : ∀ r Y' mm', P' r Y' mm' → ac_V G on cc nL ret d mc ms P (ck + mc') (cn + ms') Y' mm' (pc + 3) ls (r.take 1 ++ rest)) : W p G.1 e (ac_room d mc ms) s m args below meth c H locs ck cn (MQ below (ac_Qc G P) args s mc ms (ac_A G)) (F0 m pc la stv) := by
  intro T hT XX
  obtain ⟨v, st₀, t, T', L, h0, X', hLL, e1, e2, ⟨⟨r, Y', mm', ho, hP', hH', hsz'⟩, hF⟩, st⟩ := hr T hT XX
  have hv : v = (r.map (ac_v G.2.1)).head? := by injection ho
  obtain ⟨hF1, hF2⟩ := hF
  rw [h0] at hF1 hF2
  have hS' : va_S (ac_A G) s.heap T'.heap (locs ++ L) := by
    refine ⟨by rw [e1]; exact Nat.le_trans hS.1 hF1, fun q h1 h2 => ?_, fun q hq => ?_⟩
    · rw [e1, hF2 q (Nat.lt_of_lt_of_le h1 hS.1) h2]
      exact hS.2.1 q h1 h2
    · rcases List.mem_append.mp hq with h | h
      · exact hS.2.2 q h
      · exact hLL q h
  obtain ⟨t2, a1, b1⟩ := kk r Y' mm' hP' p e s m args below meth c T'.heap (locs ++ L) la X (by rw [hok r Y' mm' hP']; omega) (by rw [e1]; exact hH') hS' hL T' rfl X'
  refine ⟨t2, st t2 ?_, b1⟩
  have hst : ((r.take 1 ++ rest).map (ac_v G.2.1)) = v.toList ++ rest.map (ac_v G.2.1) := by
    rw [hv]
    cases r with
    | nil => rfl
    | cons w r => rfl
  rw [hst] at a1
  exact a1
theorem ac_roomle (hd : d' + 1 ≤ d) (hn : nL' ≤ 80) : (ac_room d' mc' ms').frames + 1 ≤ (ac_room d mc ms).frames ∧ 8 + (nL' + 11) + (ac_room d' mc' ms').locals ≤ (ac_room d mc ms).locals := by
  refine ⟨by show 1208 + d' + 1 ≤ 1208 + d; omega, ?_⟩
  show 8 + (nL' + 11) + 100 * d' ≤ 100 * d
  omega
theorem ac_invokestatic (hC : ac_C G y cc' nL' ret' d' mc' ms' Y mm as P') (hM : ac_ML 0 on.1 idx ci y cc' nL' ret' n) (hdg : decode cc pc = .ok (.invokestatic idx, 3)) (hq : pc + 3 = q) (hst : st = as.reverse ++ rest) (hn : as.length = n) (hd : d' + 1 ≤ d) (hsw : ac_sw rest ≤ 8) (hmc : ck + mc' ≤ mc) (hms : cn + ms' ≤ ms)
    (hok : ∀ r Y' mm', P' r Y' mm' → Y'.1 = Y.1 + mc') (kk : ∀ r Y' mm', P' r Y' mm' → ac_V G on cc nL ret d mc ms P (ck + mc') (cn + ms') Y' mm' q ls (r.take 1 ++ rest)) : ac_V G on cc nL ret d mc ms P ck cn Y mm pc ls st := by
  intro p e s m args below meth c H locs la X hz hH hS hL
  subst hq; subst hst
  refine ac_W_size fun hsz => ?_
  have hsz := ac_size hz X.2.2.2.2.2.2.2.1.2.2.2.1 hH hS hsz
  obtain ⟨hm1, hm2, hm3, hm4, hm5, hm6⟩ := hM
  have hts := X.2.2.2.2.2.2.1
  have hstv : (as.reverse ++ rest).map (ac_v G.2.1) = (as.map (ac_v G.2.1)).reverse ++ rest.map (ac_v G.2.1) := by rw [List.map_append, List.map_reverse]
  rw [hstv]
  have hW : 2 * (F0 m pc la ((as.map (ac_v G.2.1)).reverse ++ rest.map (ac_v G.2.1))).monitorRoom + ((rest.map (ac_v G.2.1)).map fun v => v.category).sum ≤ 8 := lv_room (by rw [ac_sw_cat]; exact hsw)
  have hlen : (as.map (ac_v G.2.1)).length = n := by rw [List.length_map]; exact hn
  rcases hm5 with hm5 | ⟨host, hm5⟩
  · exact ac_after (va_runS (rm := ac_room d' mc' ms') (Pc := ac_Pc G Y mm as) ⟨X.1, X.2.1, X.2.2.1, X.2.2.2.2.2.1, hts⟩ hC (va_cwS n hts (ac_good (ws := [.methodLink on.1 idx y, .static y, .initialized y.cls, .code y cc' nL' ret']) (by intro w hw; simp only [List.mem_cons, List.not_mem_nil, or_false] at hw; rcases hw with rfl | rfl | rfl | rfl <;> assumption)) rfl rfl rfl hm1 (ac_roomle hd hm2)) (ac_preS X.2.2.2.2.2.2.2.1 hH hS hsz) rfl hlen hL.1 rfl hW hdg ⟨hmc, hms⟩) X hz hS hL hok kk
  · exact ac_after (va_runSN (rm := ac_room d' mc' ms') (Pc := ac_Pc G Y mm as) ⟨X.1, X.2.1, X.2.2.1, X.2.2.2.2.2.1, hts⟩ hC ⟨va_cnB n hts (ac_good (ws := [.code y cc' nL' ret']) (by intro w hw; simp only [List.mem_cons, List.not_mem_nil, or_false] at hw; subst hw; exact hm3)) rfl rfl rfl (X.2.2.2.2.2.2.2.1.2.1 _ hm5 rfl) (hts _ hm4) hm1 (ac_roomle hd hm2), hts _ hm6, trivial⟩ (ac_preS X.2.2.2.2.2.2.2.1 hH hS hsz) rfl hlen hL.1 rfl hW hdg ⟨hmc, hms⟩) X hz hS hL hok kk
theorem ac_invokevirtual {k : Nat} (hC : ac_C G y cc' nL' ret' d' mc' ms' Y mm ((2, (k : Int)) :: as) P') (hM : ac_ML 1 on.1 idx ci y cc' nL' ret' n) (hk : Y.2.1 k = (0, ci)) (hdg : decode cc pc = .ok (.invokevirtual idx, 3)) (hq : pc + 3 = q) (hst : st = as.reverse ++ (2, (k : Int)) :: rest) (hn : as.length = n) (hd : d' + 1 ≤ d) (hsw : ac_sw rest ≤ 8) (hmc : ck + mc' ≤ mc) (hms : cn + ms' ≤ ms)
    (hok : ∀ r Y' mm', P' r Y' mm' → Y'.1 = Y.1 + mc') (kk : ∀ r Y' mm', P' r Y' mm' → ac_V G on cc nL ret d mc ms P (ck + mc') (cn + ms') Y' mm' q ls (r.take 1 ++ rest)) : ac_V G on cc nL ret d mc ms P ck cn Y mm pc ls st := by
  intro p e s m args below meth c H locs la X hz hH hS hL
  subst hq; subst hst
  refine ac_W_size fun hsz => ?_
  have hsz := ac_size hz X.2.2.2.2.2.2.2.1.2.2.2.1 hH hS hsz
  obtain ⟨hm1, hm2, hm3, hm4, hm5, hm6, hm7, r, hr1, hr2⟩ := hM
  have hts := X.2.2.2.2.2.2.1
  have h9 : (Y.2.1 k).1 ≠ 9 := by rw [hk]; exact (show (0 : Nat) ≠ 9 by decide)
  have h1 := (ac_live hH.1 h9).1
  have he := ac_ws_at (G := G) (mm := mm) hH.1 h9
  rw [ac_ent_o hk] at he
  have hrecv := va_recv X.2.2.2.2.2.2.2.1.1 hH.2 hr1 he
  rw [hr2] at hrecv
  have hstv : (as.reverse ++ (2, (k : Int)) :: rest).map (ac_v G.2.1) = (as.map (ac_v G.2.1)).reverse ++ Value.ref (G.2.1 + (k - 1)) :: rest.map (ac_v G.2.1) := by rw [List.map_append, List.map_reverse, List.map_cons, ac_refv h1]
  rw [hstv]
  have hW : 2 * (F0 m pc la ((as.map (ac_v G.2.1)).reverse ++ Value.ref (G.2.1 + (k - 1)) :: rest.map (ac_v G.2.1))).monitorRoom + ((rest.map (ac_v G.2.1)).map fun v => v.category).sum ≤ 8 := lv_room (by rw [ac_sw_cat]; exact hsw)
  have hlen : (as.map (ac_v G.2.1)).length = n := by rw [List.length_map]; exact hn
  have hpre := ac_preS (as := (2, (k : Int)) :: as) X.2.2.2.2.2.2.2.1 hH hS hsz
  rw [List.map_cons, ac_refv h1] at hpre
  rcases hm5 with hm5 | ⟨host, hm5⟩
  · exact ac_after (va_runV (C := y.cls) (rm := ac_room d' mc' ms') (Pc := ac_Pc G Y mm ((2, (k : Int)) :: as)) ⟨X.1, X.2.1, X.2.2.1, X.2.2.2.2.2.1, hts⟩ hC (cwV n hts (ac_good (ws := [.methodLink on.1 idx y, .instanceMethod y, .selects y.cls y y, .initialized y.cls, .code y cc' nL' ret']) (by intro w hw; simp only [List.mem_cons, List.not_mem_nil, or_false] at hw; rcases hw with rfl | rfl | rfl | rfl | rfl <;> assumption)) rfl rfl rfl ⟨rfl, hm1⟩ (ac_roomle hd hm2)) ⟨hpre.1, hrecv, hpre.2⟩ rfl hlen hL.1 rfl hW hdg ⟨hmc, hms⟩) X hz hS hL hok kk
  · exact ac_after (va_runVN (C := y.cls) (rm := ac_room d' mc' ms') (Pc := ac_Pc G Y mm ((2, (k : Int)) :: as)) ⟨X.1, X.2.1, X.2.2.1, X.2.2.2.2.2.1, hts⟩ hC ⟨va_cnB n hts (ac_good (ws := [.code y cc' nL' ret']) (by intro w hw; simp only [List.mem_cons, List.not_mem_nil, or_false] at hw; subst hw; exact hm3)) rfl rfl rfl (X.2.2.2.2.2.2.2.1.2.1 _ hm5 rfl) (hts _ hm4) hm1 (ac_roomle hd hm2), hts _ hm6, hts _ hm7⟩ ⟨hpre.1, hrecv, hpre.2⟩ rfl hlen hL.1 rfl hW hdg ⟨hmc, hms⟩) X hz hS hL hok kk
theorem ac_invokespecial {k : Nat} (hC : ac_C G y cc' nL' none d' mc' ms' Y mm ((2, (k : Int)) :: as) P') (hM : ac_ML 2 on.1 idx ci y cc' nL' none n) (h1 : 1 ≤ k) (hdg : decode cc pc = .ok (.invokespecial idx, 3)) (hq : pc + 3 = q) (hst : st = as.reverse ++ (2, (k : Int)) :: rest) (hn : as.length = n) (hd : d' + 1 ≤ d) (hsw : ac_sw rest ≤ 8) (hmc : ck + mc' ≤ mc) (hms : cn + ms' ≤ ms)
    (hok : ∀ r Y' mm', P' r Y' mm' → Y'.1 = Y.1 + mc') (kk : ∀ r Y' mm', P' r Y' mm' → ac_V G on cc nL ret d mc ms P (ck + mc') (cn + ms') Y' mm' q ls (r.take 1 ++ rest)) : ac_V G on cc nL ret d mc ms P ck cn Y mm pc ls st := by
  intro p e s m args below meth c H locs la X hz hH hS hL
  subst hq; subst hst
  refine ac_W_size fun hsz => ?_
  have hsz := ac_size hz X.2.2.2.2.2.2.2.1.2.2.2.1 hH hS hsz
  obtain ⟨hm1, hm2, hm3, hm4, hm5, hm6, hm7, -⟩ := hM
  have hts := X.2.2.2.2.2.2.1
  have hstv : (as.reverse ++ (2, (k : Int)) :: rest).map (ac_v G.2.1) = (as.map (ac_v G.2.1)).reverse ++ Value.ref (G.2.1 + (k - 1)) :: rest.map (ac_v G.2.1) := by rw [List.map_append, List.map_reverse, List.map_cons, ac_refv h1]
  rw [hstv]
  have hW : 2 * (F0 m pc la ((as.map (ac_v G.2.1)).reverse ++ Value.ref (G.2.1 + (k - 1)) :: rest.map (ac_v G.2.1))).monitorRoom + ((rest.map (ac_v G.2.1)).map fun v => v.category).sum ≤ 8 := lv_room (by rw [ac_sw_cat]; exact hsw)
  have hlen : (as.map (ac_v G.2.1)).length = n := by rw [List.length_map]; exact hn
  have hpre := ac_preS (as := (2, (k : Int)) :: as) X.2.2.2.2.2.2.2.1 hH hS hsz
  rw [List.map_cons, ac_refv h1] at hpre
  rcases hm5 with hm5 | ⟨host, hm5⟩
  · exact ac_after (va_runI (rm := ac_room d' mc' ms') (Pc := ac_Pc G Y mm ((2, (k : Int)) :: as)) ⟨X.1, X.2.1, X.2.2.1, X.2.2.2.2.2.1, hts⟩ hC (cwI n hts (ac_good (ws := [.code y cc' nL' none]) (by intro w hw; simp only [List.mem_cons, List.not_mem_nil, or_false] at hw; subst hw; exact hm3)) rfl rfl rfl (hts _ hm4) (hts _ hm5) (hts _ hm6) hm7 hm1 (ac_roomle hd hm2)) hpre rfl hlen hL.1 rfl hW hdg ⟨hmc, hms⟩) X hz hS hL hok kk
  · exact ac_after (va_runIN (rm := ac_room d' mc' ms') (Pc := ac_Pc G Y mm ((2, (k : Int)) :: as)) ⟨X.1, X.2.1, X.2.2.1, X.2.2.2.2.2.1, hts⟩ hC ⟨va_cnB n hts (ac_good (ws := [.code y cc' nL' none]) (by intro w hw; simp only [List.mem_cons, List.not_mem_nil, or_false] at hw; subst hw; exact hm3)) rfl rfl rfl (X.2.2.2.2.2.2.2.1.2.1 _ hm5 rfl) (hts _ hm4) hm1 (ac_roomle hd hm2), hm7, hts _ hm6⟩ hpre rfl hlen hL.1 rfl hW hdg ⟨hmc, hms⟩) X hz hS hL hok kk
end AcCall
