def ac_up (mm : ac_M) (k j : Nat) (v : Int) : ac_M := fun k' j' => if k' = k ∧ j' = j then v else mm k' j'
def ac_upR (rf : Nat → Nat → Nat) (k j v : Nat) : Nat → Nat → Nat := fun k' j' => if k' = k ∧ j' = j then v else rf k' j'
theorem ac_up_s {mm : ac_M} {k j : Nat} {v : Int} : ac_up mm k j v k j = v := if_pos ⟨rfl, rfl⟩
theorem ac_up_k {mm : ac_M} {k j k' j' : Nat} {v : Int} (h : k' ≠ k) : ac_up mm k j v k' j' = mm k' j' := if_neg (fun q => h q.1)
theorem ac_up_j {mm : ac_M} {k j k' j' : Nat} {v : Int} (h : j' ≠ j) : ac_up mm k j v k' j' = mm k' j' := if_neg (fun q => h q.2)
theorem ac_live {Y : ac_Y} {k : Nat} (hw : ac_wf Y) (h : (Y.2.1 k).1 ≠ 9) : 1 ≤ k ∧ k ≤ Y.1 := by
  by_cases h0 : k = 0
  · exact absurd (hw k (Or.inl h0)) h
  · by_cases h1 : Y.1 < k
    · exact absurd (hw k (Or.inr h1)) h
    · omega
theorem ac_rm {α : Type} {N i : Nat} (f : Nat → α) (h : i < N) : ((List.range N).map f)[i]? = some (f i) := by
  rw [List.getElem?_map, List.getElem?_range h]; rfl
theorem ac_rn {α : Type} {N i : Nat} (f : Nat → α) (h : ¬ i < N) : ((List.range N).map f)[i]? = none := List.getElem?_eq_none (by simpa using h)
theorem ac_ws_at {G : ac_G} {Y : ac_Y} {mm : ac_M} {k : Nat} (hw : ac_wf Y) (h : (Y.2.1 k).1 ≠ 9) : (ac_ws G Y mm)[k - 1]? = some (G.2.1 + (k - 1), ac_ent G Y mm k) := by
  obtain ⟨h1, h2⟩ := ac_live hw h
  refine (ac_rm _ (by omega)).trans ?_
  show some (G.2.1 + (k - 1), ac_ent G Y mm (k - 1 + 1)) = _
  rw [show k - 1 + 1 = k by omega]
theorem ac_ws_get {G : ac_G} {Y : ac_Y} {mm : ac_M} {i : Nat} {q : Nat × va_E} (h : (ac_ws G Y mm)[i]? = some q) : i < Y.1 ∧ q = (G.2.1 + i, ac_ent G Y mm (i + 1)) := by
  by_cases hi : i < Y.1
  · have h2 := (ac_rm (fun i => (G.2.1 + i, ac_ent G Y mm (i + 1))) hi).symm.trans h
    exact ⟨hi, (Option.some.inj h2).symm⟩
  · have h2 := (ac_rn (fun i => (G.2.1 + i, ac_ent G Y mm (i + 1))) hi).symm.trans h
    cases h2
theorem ac_ws_D {G : ac_G} {Y : ac_Y} {mm : ac_M} : va_D (ac_A G) (ac_ws G Y mm) := by
  refine ⟨fun i j p q hp hq he => ?_, fun k q hk => ?_⟩
  · obtain ⟨-, rfl⟩ := ac_ws_get hp
    obtain ⟨-, rfl⟩ := ac_ws_get hq
    simp only at he
    omega
  · obtain ⟨-, rfl⟩ := ac_ws_get hk
    exact Nat.le_add_right _ _
theorem ac_map_set {α : Type} {N j : Nat} {f f' : Nat → α} {v : α} (hj : f' j = v) (ho : ∀ i, i ≠ j → f' i = f i) : ((List.range N).map f).set j v = (List.range N).map f' := by
  refine List.ext_getElem? fun i => ?_
  rw [List.getElem?_set]
  by_cases hi : i < N
  · rw [ac_rm f hi, ac_rm f' hi]
    by_cases hk : j = i
    · subst hk
      rw [if_pos rfl, if_pos (by simpa using hi), hj]
    · rw [if_neg hk, ho i (fun h => hk h.symm)]
  · rw [ac_rn f hi, ac_rn f' hi]
    by_cases hk : j = i
    · subst hk
      rw [if_pos rfl, if_neg (by simpa using hi)]
    · rw [if_neg hk]
theorem ac_ws_set {G : ac_G} {Y Y' : ac_Y} {mm mm' : ac_M} {k : Nat} {e' : va_E} (h1 : 1 ≤ k) (hn : Y'.1 = Y.1) (he : ac_ent G Y' mm' k = e') (ho : ∀ k', k' ≠ k → ac_ent G Y' mm' k' = ac_ent G Y mm k') : (ac_ws G Y mm).set (k - 1) (G.2.1 + (k - 1), e') = ac_ws G Y' mm' := by
  unfold ac_ws
  rw [hn]
  refine ac_map_set ?_ fun i hi => ?_
  · show (G.2.1 + (k - 1), ac_ent G Y' mm' (k - 1 + 1)) = _
    rw [show k - 1 + 1 = k by omega, he]
  · show (G.2.1 + i, ac_ent G Y' mm' (i + 1)) = (G.2.1 + i, ac_ent G Y mm (i + 1))
    rw [ho (i + 1) (by omega)]
theorem ac_ent_o {G : ac_G} {Y : ac_Y} {mm : ac_M} {k ci : Nat} (hk : Y.2.1 k = (0, ci)) : ac_ent G Y mm k = .inr (ci, (List.range (ac_N ci)).map (fun j => ac_v G.2.1 (ac_w Y.2.2 mm ci k j))) := by
  simp only [ac_ent, hk]
theorem ac_ent_i {G : ac_G} {Y : ac_Y} {mm : ac_M} {k n : Nat} (hk : Y.2.1 k = (1, n)) : ac_ent G Y mm k = .inl (G.2.2.2.1.1, n, .inl (fun j => Int32.ofInt (mm k j))) := by
  simp only [ac_ent, hk]
theorem ac_ent_z {G : ac_G} {Y : ac_Y} {mm : ac_M} {k n : Nat} (hk : Y.2.1 k = (2, n)) : ac_ent G Y mm k = .inl (G.2.2.2.1.2.1, n, .inl (fun j => Int32.ofInt (mm k j))) := by
  simp only [ac_ent, hk]
theorem ac_ent_t {G : ac_G} {Y : ac_Y} {mm : ac_M} {k n : Nat} (hk : Y.2.1 k = (3, n)) : ac_ent G Y mm k = .inl (G.2.2.2.1.2.2, n, .inr (.inr (.inr (.inr (fun j => if Y.2.2 k j = 0 then none else some (G.2.1 + (Y.2.2 k j - 1))))))) := by
  simp only [ac_ent, hk]
def ac_tyok : Nat → FieldType → Bool
  | 0, .int => true
  | 1, .long => true
  | 4, .boolean => true
  | 2, .object _ => true
  | 2, .array _ => true
  | 3, .array _ => true
  | _, _ => false
def ac_CL (ci : Nat) (r : vw_C) (ty : Nat → FieldType) : Prop := vwCl[ci]? = some r ∧ r.2.2 = ac_N ci ∧ (∀ w ∈ u_ws r.1 r.2.1 r.2.2, w ∈ ac_T) ∧ (∀ k, k < r.2.2 → parseFieldDescriptor (r.2.1 k).2.2.1 = some (ty k)) ∧ (∀ a, a < r.2.2 → ∀ b, b < r.2.2 → a ≠ b → (r.2.1 a).2.1 ≠ (r.2.1 b).2.1)
/-- entry idx of a class's constant pool is field j of class ci -/
def ac_FL (b : Bool) (own : String) (idx ci j : Nat) : Prop := ∃ (r : vw_C) (ty : Nat → FieldType), ac_CL ci r ty ∧ j < r.2.2 ∧ ac_tyok (ac_ty ci j) (ty j) = true ∧ (r.2.1 j).2.2.2 = (ac_ty ci j == 2) ∧
  ((Cond.fieldLink own idx (r.2.1 j).1 (r.2.1 j).2.1 (r.2.1 j).2.2.1 ∈ ac_T ∧ (r.2.1 j).1 = own) ∨ b = false ∧ ∃ host, Cond.fieldLinkNest own idx (r.2.1 j).1 (r.2.1 j).2.1 (r.2.1 j).2.2.1 host ∈ lw_tbl)
section AcMem
variable {G : ac_G} {on : String × String} {cc : ByteArray} {nL : Nat} {ret : Option FieldType} {d mc ms : Nat} {P : ac_P} {ck cn : Nat} {Y : ac_Y} {mm : ac_M} {pc q : Nat} {ls st : List (Nat × Int)}
theorem ac_refv {base k : Nat} (h : 1 ≤ k) : ac_v base (2, (k : Int)) = .ref (base + (k - 1)) := by
  show (if (k : Int) = 0 then Value.null else Value.ref (base + ((k : Int).toNat - 1))) = _
  rw [if_neg (by omega), Int.toNat_natCast]
theorem ac_get {b : Bool} {idx ci j k : Nat} {w : Nat × Int} (hdg : decode cc pc = .ok (.getfield idx, 3)) (hf : ac_FL b on.1 idx ci j) (hk : Y.2.1 k = (0, ci)) (hq : pc + 3 = q) (hv : ac_w Y.2.2 mm ci k j = w) (kk : ac_V G on cc nL ret d mc ms P ck cn Y mm q ls (w :: st)) : ac_V G on cc nL ret d mc ms P ck cn Y mm pc ls ((2, (k : Int)) :: st) := by
  intro p e s m args below meth c H locs la X hz hH hS hL
  subst hq; subst hv
  have h := kk p e s m args below meth c H locs la X hz hH hS hL
  have h9 : (Y.2.1 k).1 ≠ 9 := by rw [hk]; exact (show (0 : Nat) ≠ 9 by decide)
  have h1 := (ac_live hH.1 h9).1
  have he := ac_ws_at (G := G) (mm := mm) hH.1 h9
  rw [show ac_ent G Y mm k = .inr (ci, (List.range (ac_N ci)).map (fun j => ac_v G.2.1 (ac_w Y.2.2 mm ci k j))) from ac_ent_o hk] at he
  obtain ⟨r, ty, ⟨c1, c2, c3, -, -⟩, hj, -, -, hl⟩ := hf
  simp only [List.map_cons, ac_refv h1]
  have hvv : ((List.range (ac_N ci)).map (fun j => ac_v G.2.1 (ac_w Y.2.2 mm ci k j)))[j]? = some (ac_v G.2.1 (ac_w Y.2.2 mm ci k j)) := by
    rw [List.getElem?_map, List.getElem?_range (by omega)]; rfl
  rcases hl with ⟨hl, -⟩ | ⟨-, host, hl⟩
  · exact va_get X.1 X.2.1 (C := r.1) (T := r.2.1) (N := r.2.2) X.2.2.2.2.2.2.1 c3 X.2.2.2.2.2.1 X.2.2.2.2.2.2.2.1.1 hH.2 (k - 1) he c1 j hj (X.2.2.2.2.2.2.1 _ hl) (fun _ h => h) hvv hdg h
  · exact va_getN X.1 X.2.1 (C := r.1) (T := r.2.1) (N := r.2.2) X.2.2.2.2.2.2.1 c3 X.2.2.2.2.2.1 X.2.2.2.2.2.2.2.1.1 hH.2 (k - 1) he c1 j hj (va_Nw.use rfl (X.2.2.2.2.2.2.2.1.2.1 _ hl rfl)) (fun _ h => h) hvv hdg h
/-- a store into a field, whatever its kind -/
theorem ac_put0 {b : Bool} {idx ci j k : Nat} {w : Nat × Int} {Y' : ac_Y} {mm' : ac_M} (hdg : decode cc pc = .ok (.putfield idx, 3)) (hf : ac_FL b on.1 idx ci j) (hk : Y.2.1 k = (0, ci)) (hq : pc + 3 = q)
    (hfin : ac_ty ci j ≠ 2 ∨ (on.2 = "<init>" ∧ b = true)) (hw : ∀ base : Nat, ∀ ty : FieldType, ac_tyok (ac_ty ci j) ty = true → narrow ty (ac_v base w) = ac_v base w ∧ fits ty (ac_v base w) = true)
    (hY : Y'.1 = Y.1 ∧ Y'.2.1 = Y.2.1) (hn : ac_w Y'.2.2 mm' ci k j = w) (ho : ∀ k' j', ¬ (k' = k ∧ j' = j) → Y'.2.2 k' j' = Y.2.2 k' j' ∧ mm' k' j' = mm k' j') (kk : ac_V G on cc nL ret d mc ms P ck cn Y' mm' q ls st) : ac_V G on cc nL ret d mc ms P ck cn Y mm pc ls (w :: (2, (k : Int)) :: st) := by
  intro p e s m args below meth c H locs la X hz hH hS hL
  subst hq
  have h9 : (Y.2.1 k).1 ≠ 9 := by rw [hk]; exact (show (0 : Nat) ≠ 9 by decide)
  have h1 := (ac_live hH.1 h9).1
  have he := ac_ws_at (G := G) (mm := mm) hH.1 h9
  have e0 : ac_ent G Y mm k = .inr (ci, (List.range (ac_N ci)).map (fun j => ac_v G.2.1 (ac_w Y.2.2 mm ci k j))) := ac_ent_o hk
  have hk' : Y'.2.1 k = (0, ci) := by rw [hY.2]; exact hk
  have e1 : ac_ent G Y' mm' k = .inr (ci, (List.range (ac_N ci)).map (fun j => ac_v G.2.1 (ac_w Y'.2.2 mm' ci k j))) := ac_ent_o hk'
  rw [e0] at he
  obtain ⟨r, ty, ⟨c1, c2, c3, c4, c5⟩, hj, hty, hff, hl⟩ := hf
  simp only [List.map_cons, ac_refv h1]
  obtain ⟨g1, g2⟩ := hw G.2.1 _ hty
  have hset : ((List.range (ac_N ci)).map (fun j => ac_v G.2.1 (ac_w Y.2.2 mm ci k j))).set j (ac_v G.2.1 w) = (List.range (ac_N ci)).map (fun j => ac_v G.2.1 (ac_w Y'.2.2 mm' ci k j)) := by
    refine ac_map_set (by rw [hn]) (fun i hi => ?_)
    unfold ac_w
    obtain ⟨o1, o2⟩ := ho k i (fun q => hi q.2)
    rw [o1, o2]
  have hoth : ∀ k', k' ≠ k → ac_ent G Y' mm' k' = ac_ent G Y mm k' := by
    intro k' hk2
    unfold ac_ent
    rw [hY.2]
    have o := fun j => ho k' j (fun q => hk2 q.1)
    have o1 : ∀ j, Y'.2.2 k' j = Y.2.2 k' j := fun j => (o j).1
    have o2 : ∀ j, mm' k' j = mm k' j := fun j => (o j).2
    simp only [ac_w, o1, o2]
  have hwf : ac_wf Y' := fun k' hk2 => by rw [hY.2]; exact hH.1 k' (by rw [← hY.1]; exact hk2)
  have fin : ∀ (H1 : Heap) (locs1 : List Loc), va_P G.2.2.1 vwCl ((ac_ws G Y mm).set (k - 1) (G.2.1 + (k - 1), .inr (ci, ((List.range (ac_N ci)).map (fun j => ac_v G.2.1 (ac_w Y.2.2 mm ci k j))).set j (ac_v G.2.1 w)))) H1 → va_S (ac_A G) s.heap H1 locs1 → W p G.1 e (ac_room d mc ms) s m args below meth c H1 locs1 ck cn (MQ below (ac_Qc G P) args s mc ms (ac_A G)) (F0 m (pc + 3) la (st.map (ac_v G.2.1))) := by
    intro H1 locs1 hP1 hS1
    refine kk p e s m args below meth c H1 locs1 la X (by rw [hY.1]; exact hz) ⟨hwf, ?_⟩ hS1 hL
    rw [hset, ac_ws_set (Y' := Y') (mm' := mm') h1 hY.1 e1 hoth] at hP1
    exact hP1
  have hlen : j < ((List.range (ac_N ci)).map (fun j => ac_v G.2.1 (ac_w Y.2.2 mm ci k j))).length := by rw [List.length_map, List.length_range]; omega
  rcases hl with ⟨hl, hown⟩ | ⟨hbf, host, hl⟩
  · by_cases hf2 : ac_ty ci j = 2
    · have hin : on.2 = "<init>" := (hfin.resolve_left (fun h => h hf2)).1
      exact va_putF X.1 X.2.1 (C := r.1) (T := r.2.1) (N := r.2.2) X.2.2.2.2.2.2.1 c3 ty c4 c5 X.2.2.2.2.2.1 X.2.2.2.2.2.2.2.1.1 hH.2 ac_ws_D hS (k - 1) he c1 j hj (X.2.2.2.2.2.2.1 _ hl) (fun _ h => h) (by rw [hff, hf2]; rfl) (X.2.2.2.2.2.2.2.2.trans hin) hown (c4 j hj) g1 g2 hlen hdg (fun H1 locs1 hP1 hD1 hS1 => fin H1 locs1 hP1 hS1)
    · exact va_put X.1 X.2.1 (C := r.1) (T := r.2.1) (N := r.2.2) X.2.2.2.2.2.2.1 c3 ty c4 c5 X.2.2.2.2.2.1 X.2.2.2.2.2.2.2.1.1 hH.2 ac_ws_D hS (k - 1) he c1 j hj (X.2.2.2.2.2.2.1 _ hl) (fun _ h => h) (by rw [hff]; simpa using hf2) (c4 j hj) g1 g2 hlen hdg (fun H1 locs1 hP1 hD1 hS1 => fin H1 locs1 hP1 hS1)
  · by_cases hf2 : ac_ty ci j = 2
    · have hbt := (hfin.resolve_left (fun h => h hf2)).2
      rw [hbf] at hbt; cases hbt
    · exact va_putN X.1 X.2.1 (C := r.1) (T := r.2.1) (N := r.2.2) X.2.2.2.2.2.2.1 c3 ty c4 c5 X.2.2.2.2.2.1 X.2.2.2.2.2.2.2.1.1 hH.2 ac_ws_D hS (k - 1) he c1 j hj (va_Nw.use rfl (X.2.2.2.2.2.2.2.1.2.1 _ hl rfl)) (fun _ h => h) (by rw [hff]; simpa using hf2) (c4 j hj) g1 g2 hlen hdg (fun H1 locs1 hP1 hD1 hS1 => fin H1 locs1 hP1 hS1)
theorem ac_put {b : Bool} {idx ci j k : Nat} {x : Int} (hdg : decode cc pc = .ok (.putfield idx, 3)) (hf : ac_FL b on.1 idx ci j) (hk : Y.2.1 k = (0, ci)) (ht : ac_ty ci j = 0) (hq : pc + 3 = q) (kk : ac_V G on cc nL ret d mc ms P ck cn Y (ac_up mm k j x) q ls st) : ac_V G on cc nL ret d mc ms P ck cn Y mm pc ls ((0, x) :: (2, (k : Int)) :: st) := by
  refine ac_put0 hdg hf hk hq (Or.inl (by rw [ht]; decide)) (fun base ty h => ?_) ⟨rfl, rfl⟩ ?_ (fun k' j' h => ⟨rfl, if_neg h⟩) kk
  · rw [ht] at h
    cases ty <;> first | exact absurd h Bool.false_ne_true | exact ⟨rfl, rfl⟩
  · unfold ac_w
    rw [ht]
    show (0, ac_up mm k j x k j) = _
    rw [ac_up_s]
theorem ac_putZ {b : Bool} {idx ci j k : Nat} {x : Int} (hdg : decode cc pc = .ok (.putfield idx, 3)) (hf : ac_FL b on.1 idx ci j) (hk : Y.2.1 k = (0, ci)) (ht : ac_ty ci j = 4) (hx : x = 0 ∨ x = 1) (hq : pc + 3 = q) (kk : ac_V G on cc nL ret d mc ms P ck cn Y (ac_up mm k j x) q ls st) : ac_V G on cc nL ret d mc ms P ck cn Y mm pc ls ((0, x) :: (2, (k : Int)) :: st) := by
  refine ac_put0 hdg hf hk hq (Or.inl (by rw [ht]; decide)) (fun base ty h => ?_) ⟨rfl, rfl⟩ ?_ (fun k' j' h => ⟨rfl, if_neg h⟩) kk
  · rw [ht] at h
    cases ty <;> first | exact absurd h Bool.false_ne_true | (rcases hx with rfl | rfl <;> exact ⟨rfl, rfl⟩)
  · unfold ac_w
    rw [ht]
    show (0, ac_up mm k j x k j) = _
    rw [ac_up_s]
theorem ac_putL {b : Bool} {idx ci j k : Nat} {x : Int} (hdg : decode cc pc = .ok (.putfield idx, 3)) (hf : ac_FL b on.1 idx ci j) (hk : Y.2.1 k = (0, ci)) (ht : ac_ty ci j = 1) (hq : pc + 3 = q) (kk : ac_V G on cc nL ret d mc ms P ck cn Y (ac_up mm k j x) q ls st) : ac_V G on cc nL ret d mc ms P ck cn Y mm pc ls ((1, x) :: (2, (k : Int)) :: st) := by
  refine ac_put0 hdg hf hk hq (Or.inl (by rw [ht]; decide)) (fun base ty h => ?_) ⟨rfl, rfl⟩ ?_ (fun k' j' h => ⟨rfl, if_neg h⟩) kk
  · rw [ht] at h
    cases ty <;> first | exact absurd h Bool.false_ne_true | exact ⟨rfl, rfl⟩
  · unfold ac_w
    rw [ht]
    show (1, ac_up mm k j x k j) = _
    rw [ac_up_s]
theorem ac_refs {base : Nat} {x : Int} {ty : FieldType} (h : ac_tyok 2 ty = true) : narrow ty (ac_v base (2, x)) = ac_v base (2, x) ∧ fits ty (ac_v base (2, x)) = true := by
  show narrow ty (if x = 0 then Value.null else Value.ref (base + (x.toNat - 1))) = (if x = 0 then Value.null else Value.ref (base + (x.toNat - 1))) ∧ fits ty (if x = 0 then Value.null else Value.ref (base + (x.toNat - 1))) = true
  cases ty <;> first | exact absurd h Bool.false_ne_true | (split <;> exact ⟨rfl, rfl⟩)
theorem ac_putR {b : Bool} {idx ci j k : Nat} {x : Int} (hdg : decode cc pc = .ok (.putfield idx, 3)) (hf : ac_FL b on.1 idx ci j) (hk : Y.2.1 k = (0, ci)) (ht : ac_ty ci j = 3) (hq : pc + 3 = q) (kk : ac_V G on cc nL ret d mc ms P ck cn Y (ac_up mm k j x) q ls st) : ac_V G on cc nL ret d mc ms P ck cn Y mm pc ls ((2, x) :: (2, (k : Int)) :: st) := by
  refine ac_put0 hdg hf hk hq (Or.inl (by rw [ht]; decide)) (fun base ty h => ?_) ⟨rfl, rfl⟩ ?_ (fun k' j' h => ⟨rfl, if_neg h⟩) kk
  · rw [ht] at h
    exact ac_refs (by cases ty <;> first | exact absurd h Bool.false_ne_true | rfl)
  · unfold ac_w
    rw [ht]
    show (2, ac_up mm k j x k j) = _
    rw [ac_up_s]
/-- a final field, in the constructor -/
theorem ac_putF {idx ci j k x : Nat} (hdg : decode cc pc = .ok (.putfield idx, 3)) (hf : ac_FL true on.1 idx ci j) (hi : on.2 = "<init>") (hk : Y.2.1 k = (0, ci)) (ht : ac_ty ci j = 2) (hq : pc + 3 = q) (kk : ac_V G on cc nL ret d mc ms P ck cn (Y.1, Y.2.1, ac_upR Y.2.2 k j x) mm q ls st) : ac_V G on cc nL ret d mc ms P ck cn Y mm pc ls ((2, (x : Int)) :: (2, (k : Int)) :: st) := by
  refine ac_put0 (Y' := (Y.1, Y.2.1, ac_upR Y.2.2 k j x)) hdg hf hk hq (Or.inr ⟨hi, rfl⟩) (fun base ty h => ac_refs (by rw [ht] at h; exact h)) ⟨rfl, rfl⟩ ?_ (fun k' j' h => ⟨if_neg h, rfl⟩) kk
  unfold ac_w
  rw [ht]
  show (2, ((ac_upR Y.2.2 k j x k j : Nat) : Int)) = _
  rw [ac_upR, if_pos ⟨rfl, rfl⟩]
theorem ac_vpin {i : Int} {n : Nat} (h0 : 0 ≤ i) (h1 : i < n) (hn : n < 2147483648) : vp_in (Int32.ofInt i) n ∧ (Int32.ofInt i).toNatClampNeg = i.toNat := by
  have hi : ac_in i := ⟨by omega, by omega⟩
  have e := ac_toInt hi
  refine ⟨vp_in_iff.mpr (by rw [e]; exact ⟨h0, h1⟩), ?_⟩
  show (Int32.ofInt i).toInt.toNat = _
  rw [e]
theorem ac_iaload {k n : Nat} {i v : Int} (hdg : decode cc pc = .ok (.iaload, 1)) (hk : Y.2.1 k = (1, n)) (hn : n < 2147483648) (hi : 0 ≤ i ∧ i < n) (hq : pc + 1 = q) (hv : mm k i.toNat = v) (kk : ac_V G on cc nL ret d mc ms P ck cn Y mm q ls ((0, v) :: st)) : ac_V G on cc nL ret d mc ms P ck cn Y mm pc ls ((0, i) :: (2, (k : Int)) :: st) := by
  intro p e s m args below meth c H locs la X hz hH hS hL
  subst hq; subst hv
  have h := kk p e s m args below meth c H locs la X hz hH hS hL
  have h9 : (Y.2.1 k).1 ≠ 9 := by rw [hk]; exact (show (1 : Nat) ≠ 9 by decide)
  have h1 := (ac_live hH.1 h9).1
  have he := ac_ws_at (G := G) (mm := mm) hH.1 h9
  rw [ac_ent_i hk] at he
  obtain ⟨g1, g2⟩ := ac_vpin hi.1 hi.2 hn
  simp only [List.map_cons, ac_refv h1]
  refine va_iald X.1 X.2.1 X.2.2.2.2.2.2.2.1.1 hH.2 (k - 1) 0 he rfl g1 hdg ?_
  rw [g2]
  exact h
theorem ac_baload {k n : Nat} {i v : Int} (hdg : decode cc pc = .ok (.baload, 1)) (hk : Y.2.1 k = (2, n)) (hn : n < 2147483648) (hi : 0 ≤ i ∧ i < n) (hq : pc + 1 = q) (hv : mm k i.toNat = v) (kk : ac_V G on cc nL ret d mc ms P ck cn Y mm q ls ((0, v) :: st)) : ac_V G on cc nL ret d mc ms P ck cn Y mm pc ls ((0, i) :: (2, (k : Int)) :: st) := by
  intro p e s m args below meth c H locs la X hz hH hS hL
  subst hq; subst hv
  have h := kk p e s m args below meth c H locs la X hz hH hS hL
  have h9 : (Y.2.1 k).1 ≠ 9 := by rw [hk]; exact (show (2 : Nat) ≠ 9 by decide)
  have h1 := (ac_live hH.1 h9).1
  have he := ac_ws_at (G := G) (mm := mm) hH.1 h9
  rw [ac_ent_z hk] at he
  obtain ⟨g1, g2⟩ := ac_vpin hi.1 hi.2 hn
  simp only [List.map_cons, ac_refv h1]
  refine va_zald X.1 X.2.1 X.2.2.2.2.2.2.2.1.1 hH.2 (k - 1) 1 he rfl g1 hdg ?_
  rw [g2]
  exact h
theorem ac_aaload {k n : Nat} {i : Int} {v : Nat} (hdg : decode cc pc = .ok (.aaload, 1)) (hk : Y.2.1 k = (3, n)) (hn : n < 2147483648) (hi : 0 ≤ i ∧ i < n) (hq : pc + 1 = q) (hv : Y.2.2 k i.toNat = v) (kk : ac_V G on cc nL ret d mc ms P ck cn Y mm q ls ((2, (v : Int)) :: st)) : ac_V G on cc nL ret d mc ms P ck cn Y mm pc ls ((0, i) :: (2, (k : Int)) :: st) := by
  intro p e s m args below meth c H locs la X hz hH hS hL
  subst hq; subst hv
  have h := kk p e s m args below meth c H locs la X hz hH hS hL
  have h9 : (Y.2.1 k).1 ≠ 9 := by rw [hk]; exact (show (3 : Nat) ≠ 9 by decide)
  have h1 := (ac_live hH.1 h9).1
  have he := ac_ws_at (G := G) (mm := mm) hH.1 h9
  rw [ac_ent_t hk] at he
  obtain ⟨g1, g2⟩ := ac_vpin hi.1 hi.2 hn
  simp only [List.map_cons, ac_refv h1]
  refine va_aldq X.1 X.2.1 X.2.2.2.2.2.2.2.1.1 hH.2 (k - 1) 2 he rfl g1 hdg ?_
  rw [g2]
  have e : va_rf (if Y.2.2 k i.toNat = 0 then none else some (G.2.1 + (Y.2.2 k i.toNat - 1))) = ac_v G.2.1 (2, ((Y.2.2 k i.toNat : Nat) : Int)) := by
    by_cases h0 : Y.2.2 k i.toNat = 0
    · rw [if_pos h0, h0]; rfl
    · rw [if_neg h0, ac_refv (by omega)]; rfl
  rw [e]
  exact h
theorem ac_alen {k t n : Nat} (hdg : decode cc pc = .ok (.arraylength, 1)) (hk : Y.2.1 k = (t, n)) (ht : t = 1 ∨ t = 2 ∨ t = 3) (hq : pc + 1 = q) (kk : ac_V G on cc nL ret d mc ms P ck cn Y mm q ls ((0, (n : Int)) :: st)) : ac_V G on cc nL ret d mc ms P ck cn Y mm pc ls ((2, (k : Int)) :: st) := by
  intro p e s m args below meth c H locs la X hz hH hS hL
  subst hq
  have h := kk p e s m args below meth c H locs la X hz hH hS hL
  have h9 : (Y.2.1 k).1 ≠ 9 := by rw [hk]; show t ≠ 9; omega
  have h1 := (ac_live hH.1 h9).1
  have he := ac_ws_at (G := G) (mm := mm) hH.1 h9
  simp only [List.map_cons, ac_refv h1]
  have hv : Int32.ofNat n = Int32.ofInt (n : Int) := rfl
  rcases ht with rfl | rfl | rfl
  · rw [ac_ent_i hk] at he
    exact va_alen X.1 X.2.1 X.2.2.2.2.2.2.2.1.1 hH.2 (k - 1) 0 he rfl hv hdg h
  · rw [ac_ent_z hk] at he
    exact va_alen X.1 X.2.1 X.2.2.2.2.2.2.2.1.1 hH.2 (k - 1) 1 he rfl hv hdg h
  · rw [ac_ent_t hk] at he
    exact va_alen X.1 X.2.1 X.2.2.2.2.2.2.2.1.1 hH.2 (k - 1) 2 he rfl hv hdg h
theorem ac_ent_oth {G : ac_G} {Y : ac_Y} {mm : ac_M} {k j : Nat} {x : Int} : ∀ k', k' ≠ k → ac_ent G Y (ac_up mm k j x) k' = ac_ent G Y mm k' := by
  intro k' hk
  have o : ∀ j', ac_up mm k j x k' j' = mm k' j' := fun j' => ac_up_k hk
  simp only [ac_ent, ac_w, o]
theorem ac_iastore {k n : Nat} {i x : Int} (hdg : decode cc pc = .ok (.iastore, 1)) (hk : Y.2.1 k = (1, n)) (hn : n < 2147483648) (hi : 0 ≤ i ∧ i < n) (hq : pc + 1 = q) (kk : ac_V G on cc nL ret d mc ms P ck cn Y (ac_up mm k i.toNat x) q ls st) : ac_V G on cc nL ret d mc ms P ck cn Y mm pc ls ((0, x) :: (0, i) :: (2, (k : Int)) :: st) := by
  intro p e s m args below meth c H locs la X hz hH hS hL
  subst hq
  have h9 : (Y.2.1 k).1 ≠ 9 := by rw [hk]; exact (show (1 : Nat) ≠ 9 by decide)
  have h1 := (ac_live hH.1 h9).1
  have he := ac_ws_at (G := G) (mm := mm) hH.1 h9
  rw [ac_ent_i hk] at he
  obtain ⟨g1, g2⟩ := ac_vpin hi.1 hi.2 hn
  simp only [List.map_cons, ac_refv h1]
  refine va_iast X.1 X.2.1 X.2.2.2.2.2.2.2.1.1 hH.2 ac_ws_D hS (k - 1) 0 he rfl g1 hdg (fun H1 locs1 hP1 hD1 hS1 => ?_)
  refine kk p e s m args below meth c H1 locs1 la X hz ⟨hH.1, ?_⟩ hS1 hL
  rw [g2, ac_ws_set (Y' := Y) (mm' := ac_up mm k i.toNat x) h1 rfl ?_ ac_ent_oth] at hP1
  · exact hP1
  · rw [ac_ent_i hk]
    congr 4
    funext j
    by_cases hj : j = i.toNat
    · subst hj
      rw [ac_up_s]; simp [upd]
    · rw [ac_up_j hj]; simp [upd, hj]
theorem ac_bastore {k n : Nat} {i x : Int} (hdg : decode cc pc = .ok (.bastore, 1)) (hk : Y.2.1 k = (2, n)) (hn : n < 2147483648) (hi : 0 ≤ i ∧ i < n) (hx : x = 0 ∨ x = 1) (hq : pc + 1 = q) (kk : ac_V G on cc nL ret d mc ms P ck cn Y (ac_up mm k i.toNat x) q ls st) : ac_V G on cc nL ret d mc ms P ck cn Y mm pc ls ((0, x) :: (0, i) :: (2, (k : Int)) :: st) := by
  intro p e s m args below meth c H locs la X hz hH hS hL
  subst hq
  have h9 : (Y.2.1 k).1 ≠ 9 := by rw [hk]; exact (show (2 : Nat) ≠ 9 by decide)
  have h1 := (ac_live hH.1 h9).1
  have he := ac_ws_at (G := G) (mm := mm) hH.1 h9
  rw [ac_ent_z hk] at he
  obtain ⟨g1, g2⟩ := ac_vpin hi.1 hi.2 hn
  simp only [List.map_cons, ac_refv h1]
  refine va_zast X.1 X.2.1 X.2.2.2.2.2.2.2.1.1 hH.2 ac_ws_D hS (k - 1) 1 he rfl g1 hdg (fun H1 locs1 hP1 hD1 hS1 => ?_)
  refine kk p e s m args below meth c H1 locs1 la X hz ⟨hH.1, ?_⟩ hS1 hL
  rw [g2, ac_ws_set (Y' := Y) (mm' := ac_up mm k i.toNat x) h1 rfl ?_ ac_ent_oth] at hP1
  · exact hP1
  · rw [ac_ent_z hk]
    have hb : vp_nar .boolean (Int32.ofInt x) = Int32.ofInt x := by rcases hx with rfl | rfl <;> decide
    congr 4
    funext j
    by_cases hj : j = i.toNat
    · subst hj
      rw [ac_up_s]; simp [upd, hb]
    · rw [ac_up_j hj]; simp [upd, hj]
end AcMem
