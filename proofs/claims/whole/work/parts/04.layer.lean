/-! THE LAYER: the machine's words as whole numbers. (0, x): an int; (1, x): a long; (2, k): the k-th cell that was made, 0 is null; (3, _): nothing; (4, a): the address a. Memory: mm k j is what slot j of cell k holds; rf k j the cell that it refers to, where that never changes; kd k: what cell k is: (0, c) an object of class c, (1, n) ints, (2, n) booleans, (3, n) tasks, (9, _) nothing. -/
abbrev ac_G : Type := Launch × Nat × va_G × (ClassId × ClassId × ClassId) × (Nat × Nat × Nat × (Nat → Int))
abbrev ac_M : Type := Nat → Nat → Int
abbrev ac_Y : Type := Nat × (Nat → Nat × Nat) × (Nat → Nat → Nat)
abbrev ac_P : Type := List (Nat × Int) → ac_Y → ac_M → Prop
def ac_v (base : Nat) : Nat × Int → Value
  | (0, x) => .int (Int32.ofInt x)
  | (1, x) => .long (Int64.ofInt x)
  | (4, x) => .ref x.toNat
  | (_, x) => if x = 0 then .null else .ref (base + (x.toNat - 1))
def ac_tyM : Nat → Nat
  | 1 => 2 | 6 => 2 | 7 => 2 | 8 => 2 | 9 => 2 | 11 => 2 | 12 => 2 | 14 => 2 | 15 => 2 | 16 => 2 | 17 => 1 | 18 => 2 | 19 => 2 | 20 => 2 | 21 => 2 | 23 => 4 | 24 => 4 | 25 => 3 | 26 => 2 | 27 => 2 | _ => 0
/-- kinds of fields: 0 int, 1 long, 2 a cell for ever, 3 a cell that may change, 4 boolean -/
def ac_ty : Nat → Nat → Nat
  | 0, _ => 2
  | 1, 0 => 2 | 1, _ => 0
  | 2, 0 => 2 | 2, 1 => 2 | 2, _ => 0
  | 3, 0 => 2 | 3, 1 => 2 | 3, 2 => 2 | 3, 6 => 4 | 3, _ => 0
  | 4, 0 => 2 | 4, _ => 0
  | 5, 0 => 2 | 5, 1 => 2 | 5, 2 => 2 | 5, 3 => 2 | 5, 4 => 2 | 5, 5 => 2 | 5, 6 => 2 | 5, _ => 0
  | 6, 8 => 1 | 6, _ => 2
  | _, j => ac_tyM j
def ac_N : Nat → Nat
  | 0 => 2 | 1 => 3 | 2 => 3 | 3 => 7 | 4 => 3 | 5 => 15 | 6 => 9 | 7 => 28 | _ => 0
def ac_w (rf : Nat → Nat → Nat) (mm : ac_M) (ci k j : Nat) : Nat × Int := match ac_ty ci j with
  | 1 => (1, mm k j)
  | 2 => (2, (rf k j : Int))
  | 3 => (2, mm k j)
  | _ => (0, mm k j)
def ac_ent (G : ac_G) (Y : ac_Y) (mm : ac_M) (k : Nat) : va_E := match Y.2.1 k with
  | (0, ci) => .inr (ci, (List.range (ac_N ci)).map (fun j => ac_v G.2.1 (ac_w Y.2.2 mm ci k j)))
  | (1, n) => .inl (G.2.2.2.1.1, n, .inl (fun j => Int32.ofInt (mm k j)))
  | (2, n) => .inl (G.2.2.2.1.2.1, n, .inl (fun j => Int32.ofInt (mm k j)))
  | (_, n) => .inl (G.2.2.2.1.2.2, n, .inr (.inr (.inr (.inr (fun j => if Y.2.2 k j = 0 then none else some (G.2.1 + (Y.2.2 k j - 1)))))))
def ac_ws (G : ac_G) (Y : ac_Y) (mm : ac_M) : va_W := (List.range Y.1).map (fun i => (G.2.1 + i, ac_ent G Y mm (i + 1)))
def ac_A (G : ac_G) : Nat → Prop := fun q => G.2.1 ≤ q
def ac_tys (G : ac_G) : List (ClassId × FieldType) := [(G.2.2.2.1.1, .int), (G.2.2.2.1.2.1, .boolean), (G.2.2.2.1.2.2, .object RX3)]
def ac_T : List Cond := lw_tbl.filter goodWord
def ac_isN : Cond → Bool
  | .fieldLinkNest _ _ _ _ _ _ => true
  | .methodLinkNest _ _ _ _ => true
  | _ => false
def ac_Nw (U : State) : Prop := ∀ w ∈ lw_tbl, ac_isN w = true → va_Nw w U
def ac_names : Nat → Int
  | 1 => 1 | 2 => 2 | 4 => 2 | 5 => 1 | 6 => 1 | 8 => 2 | 9 => 1 | 10 => 2 | 12 => 2 | 14 => 1 | 15 => 2 | 16 => 1 | _ => 0
def ac_NM (G : ac_G) (U : State) : Prop := va_Z RX5 "NAMES" "[I" (.ref G.2.2.2.2.1) (ac_A G) U U.heap ∧ va_X G.2.2.2.2.1 18 (fun j => Int32.ofInt (ac_names j)) U U.heap ∧ G.2.2.2.2.1 < G.2.1 ∧ va_X G.2.2.2.2.2.1 G.2.2.2.2.2.2.1 (fun j => Int32.ofInt (G.2.2.2.2.2.2.2 j)) U U.heap ∧ G.2.2.2.2.2.1 < G.2.1
/-- what holds of the state behind every call -/
def ac_B (G : ac_G) (U : State) : Prop := va_K G.2.2.1 vwCl (ac_tys G) U ∧ ac_Nw U ∧ ac_NM G U ∧ G.2.1 ≤ U.heap.size ∧ va_AO RX3 U
def ac_X (G : ac_G) (on : String × String) (cc : ByteArray) (nL : Nat) (ret : Option FieldType) (p : Program) (s : State) (m : MethodId) (args : Array Value) (meth : Method) (c : Code) : Prop :=
  p.tables.exec = Jvm.exec ∧ c.code = cc ∧ c.maxLocals = nL ∧ meth.sig.returnType = ret ∧ meth.locks = false ∧ s.vm.findClass on.1 = some m.cls ∧ (∀ w ∈ ac_T, w.before args s = true) ∧ ac_B G s ∧ meth.name = on.2
def ac_wf (Y : ac_Y) : Prop := ∀ k, (k = 0 ∨ Y.1 < k) → (Y.2.1 k).1 = 9
def ac_H (G : ac_G) (Y : ac_Y) (mm : ac_M) (H : Heap) : Prop := ac_wf Y ∧ va_P G.2.2.1 vwCl (ac_ws G Y mm) H
def ac_enc (base : Nat) (ls : List (Nat × Int)) : List (Nat × Value) := (List.range ls.length).filterMap (fun i => match ls[i]? with
  | some (3, _) => none
  | some w => some (i, ac_v base w)
  | none => none)
def ac_room (d mc ms : Nat) : Room := { frames := 1208 + d, cells := mc, slots := ms, locals := 100 * d }
def ac_Qc (G : ac_G) (P : ac_P) : Array Value → State → Outcome → State → Prop := fun _ st o t =>
  (∃ (r : List (Nat × Int)) (Y : ac_Y) (mm : ac_M), o = .returned (r.map (ac_v G.2.1)).head? ∧ P r Y mm ∧ ac_H G Y mm t.heap ∧ t.heap.size = G.2.1 + Y.1) ∧ va_F (ac_A G) st t
/-- the machine stands at pc of a method, with locals ls and operand stack st, and comes to its end, P of its answer and the world then -/
def ac_V (G : ac_G) (on : String × String) (cc : ByteArray) (nL : Nat) (ret : Option FieldType) (d mc ms : Nat) (P : ac_P) (ck cn : Nat) (Y : ac_Y) (mm : ac_M) (pc : Nat) (ls st : List (Nat × Int)) : Prop :=
  ∀ (p : Program) (e : Env) (s : State) (m : MethodId) (args : Array Value) (below : List Frame) (meth : Method) (c : Code) (H : Heap) (locs : List Loc) (la : Array Slot),
    ac_X G on cc nL ret p s m args meth c → s.heap.size + ck = G.2.1 + Y.1 → ac_H G Y mm H → va_S (ac_A G) s.heap H locs → lv_has la nL (ac_enc G.2.1 ls) →
    W p G.1 e (ac_room d mc ms) s m args below meth c H locs ck cn (MQ below (ac_Qc G P) args s mc ms (ac_A G)) (F0 m pc la (st.map (ac_v G.2.1)))
/-- a method's contract -/
def ac_C (G : ac_G) (y : MethodName) (cc : ByteArray) (nL : Nat) (ret : Option FieldType) (d mc ms : Nat) (Y : ac_Y) (mm : ac_M) (as : List (Nat × Int)) (P : ac_P) : Prop :=
  Met G.1 y (.code y cc nL ret :: ac_T) (ac_room d mc ms) (fun a U => a = (as.map (ac_v G.2.1)).toArray ∧ ac_H G Y mm U.heap ∧ ac_B G U ∧ U.heap.size = G.2.1 + Y.1) (ac_Qc G P) mc ms (ac_A G)
theorem ac_enc_mem {base : Nat} {ls : List (Nat × Int)} {q : Nat × Value} : q ∈ ac_enc base ls ↔ ∃ w, ls[q.1]? = some w ∧ w.1 ≠ 3 ∧ q.2 = ac_v base w := by
  unfold ac_enc
  rw [List.mem_filterMap]
  constructor
  · rintro ⟨i, -, h⟩
    split at h
    · cases h
    · rename_i w hw hne
      cases h
      refine ⟨w, hne, fun h3 => ?_, rfl⟩
      obtain ⟨a, b⟩ := w
      have h4 : a = 3 := h3
      subst h4; exact hw b rfl
    · cases h
  · rintro ⟨w, h1, h2, h3⟩
    refine ⟨q.1, List.mem_range.mpr (List.getElem?_eq_some_iff.mp h1).1, ?_⟩
    obtain ⟨a, b⟩ := w
    rw [h1]
    split
    · rename_i x h; cases h; exact absurd rfl h2
    · rename_i h; cases h; rw [← h3]
    · rename_i h; cases h
theorem ac_lget {base nL : Nat} {la : Array Slot} {ls : List (Nat × Int)} {i : Nat} {w : Nat × Int} (h : lv_has la nL (ac_enc base ls)) (hl : ls[i]? = some w) (h3 : w.1 ≠ 3) : la[i]? = some (.val (ac_v base w)) :=
  h.2.2 (i, ac_v base w) (ac_enc_mem.mpr ⟨w, hl, h3, rfl⟩)
theorem ac_lweak {base nL : Nat} {la : Array Slot} {l : List (Nat × Value)} {ls : List (Nat × Int)} (h : lv_has la nL l) (hs : ∀ q ∈ ac_enc base ls, q ∈ l) : lv_has la nL (ac_enc base ls) := ⟨h.1, h.2.1, fun q hq => h.2.2 q (hs q hq)⟩
