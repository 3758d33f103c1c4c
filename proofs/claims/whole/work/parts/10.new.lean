def ac_nY (Y : ac_Y) (w : Nat × Nat) : ac_Y := (Y.1 + 1, fun k => if k = Y.1 + 1 then w else Y.2.1 k, fun k j => if k = Y.1 + 1 then 0 else Y.2.2 k j)
def ac_nM (Y : ac_Y) (mm : ac_M) : ac_M := fun k j => if k = Y.1 + 1 then 0 else mm k j
theorem ac_nws {G : ac_G} {Y : ac_Y} {mm : ac_M} {w : Nat × Nat} : ac_ws G (ac_nY Y w) (ac_nM Y mm) = ac_ws G Y mm ++ [(G.2.1 + Y.1, ac_ent G (ac_nY Y w) (ac_nM Y mm) (Y.1 + 1))] := by
  unfold ac_ws
  rw [show (ac_nY Y w).1 = Y.1 + 1 from rfl, List.range_succ, List.map_append]
  congr 1
  refine List.map_congr_left fun i hi => ?_
  have hne : ¬ (i + 1 = Y.1 + 1) := by have := List.mem_range.mp hi; omega
  have e1 : (ac_nY Y w).2.1 (i + 1) = Y.2.1 (i + 1) := if_neg hne
  have e2 : ∀ j, (ac_nY Y w).2.2 (i + 1) j = Y.2.2 (i + 1) j := fun j => if_neg hne
  have e3 : ∀ j, ac_nM Y mm (i + 1) j = mm (i + 1) j := fun j => if_neg hne
  simp only [ac_ent, ac_w, e1, e2, e3]
theorem ac_nwf {Y : ac_Y} {w : Nat × Nat} (h : ac_wf Y) : ac_wf (ac_nY Y w) := by
  intro k hk
  have hk : k = 0 ∨ Y.1 + 1 < k := hk
  show (if k = Y.1 + 1 then w else Y.2.1 k).1 = 9
  rw [if_neg (by omega)]
  exact h k (by omega)
/-- the address of a new cell -/
theorem ac_naddr {G : ac_G} {Y : ac_Y} {mm : ac_M} {H1 : Heap} {q : Nat} {e : va_E} (hP : va_P G.2.2.1 vwCl (ac_ws G Y mm ++ [(q, e)]) H1) (hD : va_D (ac_A G) (ac_ws G Y mm ++ [(q, e)])) (h : H1.size ≤ G.2.1 + Y.1 + 1) : q = G.2.1 + Y.1 := by
  have hl : (ac_ws G Y mm).length = Y.1 := by unfold ac_ws; rw [List.length_map, List.length_range]
  have hlast : (ac_ws G Y mm ++ [(q, e)])[Y.1]? = some (q, e) := by
    rw [List.getElem?_append_right (by omega), hl, Nat.sub_self]; rfl
  have h1 := (hP _ _ hlast).lt
  have h2 := hD.2 _ _ hlast
  simp only [ac_A] at h1 h2
  by_cases hq : q = G.2.1 + Y.1
  · exact hq
  · have hi : q - G.2.1 < Y.1 := by omega
    have h3 : (ac_ws G Y mm ++ [(q, e)])[q - G.2.1]? = some (G.2.1 + (q - G.2.1), ac_ent G Y mm (q - G.2.1 + 1)) := by
      rw [List.getElem?_append_left (by omega)]
      exact ac_rm _ hi
    have := hD.1 _ _ _ _ h3 hlast (by show G.2.1 + (q - G.2.1) = q; omega)
    omega
def ac_NL (own : String) (idx ci : Nat) : Prop := ∃ (r : vw_C) (ty : Nat → FieldType), ac_CL ci r ty ∧ (∀ j, j < r.2.2 → ac_tyok (ac_ty ci j) (ty j) = true) ∧ Cond.classLink own idx r.1 ∈ ac_T ∧ Cond.instantiable r.1 r.2.2 ∈ ac_T ∧ Cond.initialized r.1 ∈ ac_T
section AcNew
variable {G : ac_G} {on : String × String} {cc : ByteArray} {nL : Nat} {ret : Option FieldType} {d mc ms : Nat} {P : ac_P} {ck cn : Nat} {Y : ac_Y} {mm : ac_M} {pc q : Nat} {ls st : List (Nat × Int)}
theorem ac_new {idx ci : Nat} (hdg : decode cc pc = .ok (.new idx, 3)) (hN : ac_NL on.1 idx ci) (hq : pc + 3 = q) (hmc : ck + 1 ≤ mc) (hms : cn + ac_N ci ≤ ms) (kk : ac_V G on cc nL ret d mc ms P (ck + 1) (cn + ac_N ci) (ac_nY Y (0, ci)) (ac_nM Y mm) q ls ((2, ((Y.1 + 1 : Nat) : Int)) :: st)) : ac_V G on cc nL ret d mc ms P ck cn Y mm pc ls st := by
  intro p e s m args below meth c H locs la X hz hH hS hL
  subst hq
  obtain ⟨r, ty, ⟨c1, c2, c3, c4, c5⟩, n1, n2, n3, n4⟩ := hN
  have hts := X.2.2.2.2.2.2.1
  have hB := X.2.2.2.2.2.2.2.1
  have e0 : ac_ent G (ac_nY Y (0, ci)) (ac_nM Y mm) (Y.1 + 1) = .inr (ci, (List.range (ac_N ci)).map (fun j => ac_v G.2.1 (ac_w (ac_nY Y (0, ci)).2.2 (ac_nM Y mm) ci (Y.1 + 1) j))) := ac_ent_o (if_pos rfl)
  refine va_new X.1 X.2.1 (C := r.1) (T := r.2.1) (N := r.2.2) hts c3 ty c4 X.2.2.2.2.2.1 (hts _ n2) (hts _ n3) (hts _ n4) hB.1 hH.2 ac_ws_D hS (fun q h => Nat.le_trans hB.2.2.2.1 h) c1 (fs := (List.range (ac_N ci)).map (fun j => ac_v G.2.1 (ac_w (ac_nY Y (0, ci)).2.2 (ac_nM Y mm) ci (Y.1 + 1) j))) (fun j hj => ?_) hmc (by rw [c2]; exact hms) hdg (fun q H1 hP1 hD1 hS1 => ?_)
  · have hv : vp_V ((List.range (ac_N ci)).map (fun j => ac_v G.2.1 (ac_w (ac_nY Y (0, ci)).2.2 (ac_nM Y mm) ci (Y.1 + 1) j))) j = ac_v G.2.1 (ac_w (ac_nY Y (0, ci)).2.2 (ac_nM Y mm) ci (Y.1 + 1) j) := by
      unfold vp_V
      rw [List.getD_eq_getElem?_getD, ac_rm _ (by omega)]; rfl
    rw [hv]
    have z1 : (ac_nY Y (0, ci)).2.2 (Y.1 + 1) j = 0 := if_pos rfl
    have z2 : ac_nM Y mm (Y.1 + 1) j = 0 := if_pos rfl
    have ht := n1 j hj
    unfold ac_w
    rw [z1, z2]
    revert ht
    generalize ac_ty ci j = t
    intro ht
    cases hty : ty j <;> rw [hty] at ht <;> (unfold ac_tyok at ht; split at ht) <;> first | cases ht; done | simp_all [defaultValue, ac_v]
  · refine ac_W_size fun hsz => ?_
    have hqa : q = G.2.1 + Y.1 := ac_naddr hP1 hD1 (by omega)
    subst hqa
    rw [c2]
    have h := kk p e s m args below meth c H1 locs la X (by show s.heap.size + (ck + 1) = G.2.1 + (Y.1 + 1); omega) ⟨ac_nwf hH.1, by rw [ac_nws, e0]; exact hP1⟩ hS1 hL
    have ev : ac_v G.2.1 (2, ((Y.1 + 1 : Nat) : Int)) = .ref (G.2.1 + Y.1) := ac_refv (by omega)
    rw [List.map_cons, ev] at h
    exact h
end AcNew
