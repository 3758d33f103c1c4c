def ac_in (a : Int) : Prop := -2147483648 ≤ a ∧ a < 2147483648
def ac_il (a : Int) : Prop := -9223372036854775808 ≤ a ∧ a < 9223372036854775808
theorem ac_toInt {a : Int} (h : ac_in a) : (Int32.ofInt a).toInt = a := Int32.toInt_ofInt_of_le (by have := h.1; omega) (by have := h.2; omega)
theorem ac_toIntL {a : Int} (h : ac_il a) : (Int64.ofInt a).toInt = a := Int64.toInt_ofInt_of_le (by have := h.1; omega) (by have := h.2; omega)
theorem ac_lt {a b : Int} (ha : ac_in a) (hb : ac_in b) : Int32.ofInt a < Int32.ofInt b ↔ a < b := by rw [Int32.lt_iff_toInt_lt, ac_toInt ha, ac_toInt hb]
theorem ac_le {a b : Int} (ha : ac_in a) (hb : ac_in b) : Int32.ofInt a ≤ Int32.ofInt b ↔ a ≤ b := by rw [Int32.le_iff_toInt_le, ac_toInt ha, ac_toInt hb]
theorem ac_eq {a b : Int} (ha : ac_in a) (hb : ac_in b) : Int32.ofInt a = Int32.ofInt b ↔ a = b := by rw [← Int32.toInt_inj, ac_toInt ha, ac_toInt hb]
theorem ac_ofIntL_inj {a b : Int} (ha : ac_il a) (hb : ac_il b) : Int64.ofInt a = Int64.ofInt b ↔ a = b := by rw [← Int64.toInt_inj, ac_toIntL ha, ac_toIntL hb]
theorem ac_ltL {a b : Int} (ha : ac_il a) (hb : ac_il b) : Int64.ofInt a < Int64.ofInt b ↔ a < b := by rw [Int64.lt_iff_toInt_lt, ac_toIntL ha, ac_toIntL hb]
theorem ac_in0 : ac_in 0 := ⟨by decide, by decide⟩
theorem ac_cat1 {base : Nat} {w : Nat × Int} (h : w.1 ≠ 1) : (ac_v base w).category = 1 := by
  obtain ⟨a, x⟩ := w
  match a, h with
  | 0, _ => rfl
  | 1, h => exact absurd rfl h
  | 2, _ =>
    show (if x = 0 then Value.null else Value.ref (base + (x.toNat - 1))).category = 1
    split <;> rfl
  | 3, _ =>
    show (if x = 0 then Value.null else Value.ref (base + (x.toNat - 1))).category = 1
    split <;> rfl
  | 4, _ => rfl
  | a + 5, _ =>
    show (if x = 0 then Value.null else Value.ref (base + (x.toNat - 1))).category = 1
    split <;> rfl
section AcOps
variable {G : ac_G} {on : String × String} {cc : ByteArray} {nL : Nat} {ret : Option FieldType} {d mc ms : Nat} {P : ac_P} {ck cn : Nat} {Y : ac_Y} {mm : ac_M} {pc q : Nat} {ls st : List (Nat × Int)}
theorem ac_iload_n {i : Fin 4} {x : Int} (hdg : decode cc pc = .ok (.iload_n i, 1)) (hq : pc + 1 = q) (hl : ls[(i : Nat)]? = some (0, x)) (kk : ac_V G on cc nL ret d mc ms P ck cn Y mm q ls ((0, x) :: st)) : ac_V G on cc nL ret d mc ms P ck cn Y mm pc ls (st) := by
  intro p e s m args below meth c H locs la X hz hH hS hL
  subst hq
  have h := kk p e s m args below meth c H locs la X hz hH hS hL
  exact lv_iload_n X.1 X.2.1 hdg rfl (ac_lget hL hl (show (0:Nat) ≠ 3 by decide)) h
theorem ac_aload_n {i : Fin 4} {x : Int} (hdg : decode cc pc = .ok (.aload_n i, 1)) (hq : pc + 1 = q) (hl : ls[(i : Nat)]? = some (2, x)) (kk : ac_V G on cc nL ret d mc ms P ck cn Y mm q ls ((2, x) :: st)) : ac_V G on cc nL ret d mc ms P ck cn Y mm pc ls (st) := by
  intro p e s m args below meth c H locs la X hz hH hS hL
  subst hq
  have h := kk p e s m args below meth c H locs la X hz hH hS hL
  have g := ac_lget hL hl (show (2:Nat) ≠ 3 by decide)
  simp only [List.map_cons, ac_v] at g h
  split at g
  · rename_i hx0
    rw [if_pos hx0] at h
    exact lv_aload_nN X.1 X.2.1 hdg rfl g h
  · rename_i hx0
    rw [if_neg hx0] at h
    exact lv_aload_n X.1 X.2.1 hdg rfl g h
theorem ac_lload_n {i : Fin 4} {x : Int} (hdg : decode cc pc = .ok (.lload_n i, 1)) (hq : pc + 1 = q) (hl : ls[(i : Nat)]? = some (1, x)) (kk : ac_V G on cc nL ret d mc ms P ck cn Y mm q ls ((1, x) :: st)) : ac_V G on cc nL ret d mc ms P ck cn Y mm pc ls (st) := by
  intro p e s m args below meth c H locs la X hz hH hS hL
  subst hq
  have h := kk p e s m args below meth c H locs la X hz hH hS hL
  exact lv_lload_n X.1 X.2.1 hdg rfl (ac_lget hL hl (show (1:Nat) ≠ 3 by decide)) h
theorem ac_iload {i : Nat} {x : Int} (hdg : decode cc pc = .ok (.iload i, 2)) (hq : pc + 2 = q) (hl : ls[(i : Nat)]? = some (0, x)) (kk : ac_V G on cc nL ret d mc ms P ck cn Y mm q ls ((0, x) :: st)) : ac_V G on cc nL ret d mc ms P ck cn Y mm pc ls (st) := by
  intro p e s m args below meth c H locs la X hz hH hS hL
  subst hq
  have h := kk p e s m args below meth c H locs la X hz hH hS hL
  exact lv_iload X.1 X.2.1 hdg (ac_lget hL hl (show (0:Nat) ≠ 3 by decide)) h
theorem ac_aload {i : Nat} {x : Int} (hdg : decode cc pc = .ok (.aload i, 2)) (hq : pc + 2 = q) (hl : ls[(i : Nat)]? = some (2, x)) (kk : ac_V G on cc nL ret d mc ms P ck cn Y mm q ls ((2, x) :: st)) : ac_V G on cc nL ret d mc ms P ck cn Y mm pc ls (st) := by
  intro p e s m args below meth c H locs la X hz hH hS hL
  subst hq
  have h := kk p e s m args below meth c H locs la X hz hH hS hL
  have g := ac_lget hL hl (show (2:Nat) ≠ 3 by decide)
  simp only [List.map_cons, ac_v] at g h
  split at g
  · rename_i hx0
    rw [if_pos hx0] at h
    exact lv_aloadN X.1 X.2.1 hdg g h
  · rename_i hx0
    rw [if_neg hx0] at h
    exact lv_aload X.1 X.2.1 hdg g h
theorem ac_lload {i : Nat} {x : Int} (hdg : decode cc pc = .ok (.lload i, 2)) (hq : pc + 2 = q) (hl : ls[(i : Nat)]? = some (1, x)) (kk : ac_V G on cc nL ret d mc ms P ck cn Y mm q ls ((1, x) :: st)) : ac_V G on cc nL ret d mc ms P ck cn Y mm pc ls (st) := by
  intro p e s m args below meth c H locs la X hz hH hS hL
  subst hq
  have h := kk p e s m args below meth c H locs la X hz hH hS hL
  exact lv_lload X.1 X.2.1 hdg (ac_lget hL hl (show (1:Nat) ≠ 3 by decide)) h
theorem ac_iconst {n : Int} (hdg : decode cc pc = .ok (.iconst n, 1)) (hq : pc + 1 = q) (kk : ac_V G on cc nL ret d mc ms P ck cn Y mm q ls ((0, n) :: st)) : ac_V G on cc nL ret d mc ms P ck cn Y mm pc ls (st) := by
  intro p e s m args below meth c H locs la X hz hH hS hL
  subst hq
  have h := kk p e s m args below meth c H locs la X hz hH hS hL
  exact lv_iconst X.1 X.2.1 hdg rfl h
theorem ac_bipush {n : Int} (hdg : decode cc pc = .ok (.bipush n, 2)) (hq : pc + 2 = q) (hn : (Int8.ofInt n).toInt32 = Int32.ofInt n) (kk : ac_V G on cc nL ret d mc ms P ck cn Y mm q ls ((0, n) :: st)) : ac_V G on cc nL ret d mc ms P ck cn Y mm pc ls (st) := by
  intro p e s m args below meth c H locs la X hz hH hS hL
  subst hq
  have h := kk p e s m args below meth c H locs la X hz hH hS hL
  exact lv_bipush X.1 X.2.1 hdg hn h
theorem ac_sipush {n : Int} (hdg : decode cc pc = .ok (.sipush n, 3)) (hq : pc + 3 = q) (hn : (Int16.ofInt n).toInt32 = Int32.ofInt n) (kk : ac_V G on cc nL ret d mc ms P ck cn Y mm q ls ((0, n) :: st)) : ac_V G on cc nL ret d mc ms P ck cn Y mm pc ls (st) := by
  intro p e s m args below meth c H locs la X hz hH hS hL
  subst hq
  have h := kk p e s m args below meth c H locs la X hz hH hS hL
  exact lv_sipush X.1 X.2.1 hdg hn h
theorem ac_lconst {n : Fin 2} {v : Int} (hdg : decode cc pc = .ok (.lconst n, 1)) (hq : pc + 1 = q) (hn : Int64.ofNat (n : Nat) = Int64.ofInt v) (kk : ac_V G on cc nL ret d mc ms P ck cn Y mm q ls ((1, v) :: st)) : ac_V G on cc nL ret d mc ms P ck cn Y mm pc ls (st) := by
  intro p e s m args below meth c H locs la X hz hH hS hL
  subst hq
  have h := kk p e s m args below meth c H locs la X hz hH hS hL
  exact lv_lconst X.1 X.2.1 hdg hn h
theorem ac_aconst_null (hdg : decode cc pc = .ok (.aconst_null, 1)) (hq : pc + 1 = q) (kk : ac_V G on cc nL ret d mc ms P ck cn Y mm q ls ((2, 0) :: st)) : ac_V G on cc nL ret d mc ms P ck cn Y mm pc ls (st) := by
  intro p e s m args below meth c H locs la X hz hH hS hL
  subst hq
  have h := kk p e s m args below meth c H locs la X hz hH hS hL
  exact lv_null X.1 X.2.1 hdg h
theorem ac_ldc {i : Nat} {v : Int} (hdg : decode cc pc = .ok (.ldc i, 2)) (hq : pc + 2 = q) (hc : Cond.constant on.1 i (Int32.ofInt v) ∈ ac_T) (kk : ac_V G on cc nL ret d mc ms P ck cn Y mm q ls ((0, v) :: st)) : ac_V G on cc nL ret d mc ms P ck cn Y mm pc ls (st) := by
  intro p e s m args below meth c H locs la X hz hH hS hL
  subst hq
  have h := kk p e s m args below meth c H locs la X hz hH hS hL
  refine lv_ldc X.1 X.2.1 X.2.2.2.2.2.1 (X.2.2.2.2.2.2.1 _ hc) hdg ?_
  exact h
theorem ac_ldc_w {i : Nat} {v : Int} (hdg : decode cc pc = .ok (.ldc_w i, 3)) (hq : pc + 3 = q) (hc : Cond.constant on.1 i (Int32.ofInt v) ∈ ac_T) (kk : ac_V G on cc nL ret d mc ms P ck cn Y mm q ls ((0, v) :: st)) : ac_V G on cc nL ret d mc ms P ck cn Y mm pc ls (st) := by
  intro p e s m args below meth c H locs la X hz hH hS hL
  subst hq
  have h := kk p e s m args below meth c H locs la X hz hH hS hL
  refine lv_ldcw X.1 X.2.1 X.2.2.2.2.2.1 (X.2.2.2.2.2.2.1 _ hc) hdg ?_
  exact h
theorem ac_ldc2_w {i : Nat} {v : Int} (hdg : decode cc pc = .ok (.ldc2_w i, 3)) (hq : pc + 3 = q) (hc : Cond.constantLong on.1 i (Int64.ofInt v) ∈ ac_T) (kk : ac_V G on cc nL ret d mc ms P ck cn Y mm q ls ((1, v) :: st)) : ac_V G on cc nL ret d mc ms P ck cn Y mm pc ls (st) := by
  intro p e s m args below meth c H locs la X hz hH hS hL
  subst hq
  have h := kk p e s m args below meth c H locs la X hz hH hS hL
  refine lv_ldc2 X.1 X.2.1 X.2.2.2.2.2.1 (X.2.2.2.2.2.2.1 _ hc) hdg ?_
  exact h
theorem ac_iadd {a b : Int} (hdg : decode cc pc = .ok (.iadd, 1)) (hq : pc + 1 = q) (kk : ac_V G on cc nL ret d mc ms P ck cn Y mm q ls ((0, a + b) :: st)) : ac_V G on cc nL ret d mc ms P ck cn Y mm pc ls ((0, b) :: (0, a) :: st) := by
  intro p e s m args below meth c H locs la X hz hH hS hL
  subst hq
  have h := kk p e s m args below meth c H locs la X hz hH hS hL
  refine lv_iadd X.1 X.2.1 hdg ?_
  rw [← Int32.ofInt_add]
  exact h
theorem ac_isub {a b : Int} (hdg : decode cc pc = .ok (.isub, 1)) (hq : pc + 1 = q) (kk : ac_V G on cc nL ret d mc ms P ck cn Y mm q ls ((0, a - b) :: st)) : ac_V G on cc nL ret d mc ms P ck cn Y mm pc ls ((0, b) :: (0, a) :: st) := by
  intro p e s m args below meth c H locs la X hz hH hS hL
  subst hq
  have h := kk p e s m args below meth c H locs la X hz hH hS hL
  refine lv_isub X.1 X.2.1 hdg ?_
  rw [← Int32.ofInt_sub]
  exact h
theorem ac_imul {a b : Int} (hdg : decode cc pc = .ok (.imul, 1)) (hq : pc + 1 = q) (kk : ac_V G on cc nL ret d mc ms P ck cn Y mm q ls ((0, a * b) :: st)) : ac_V G on cc nL ret d mc ms P ck cn Y mm pc ls ((0, b) :: (0, a) :: st) := by
  intro p e s m args below meth c H locs la X hz hH hS hL
  subst hq
  have h := kk p e s m args below meth c H locs la X hz hH hS hL
  refine lv_imul X.1 X.2.1 hdg ?_
  rw [← Int32.ofInt_mul]
  exact h
theorem ac_ladd {a b : Int} (hdg : decode cc pc = .ok (.ladd, 1)) (hq : pc + 1 = q) (kk : ac_V G on cc nL ret d mc ms P ck cn Y mm q ls ((1, a + b) :: st)) : ac_V G on cc nL ret d mc ms P ck cn Y mm pc ls ((1, b) :: (1, a) :: st) := by
  intro p e s m args below meth c H locs la X hz hH hS hL
  subst hq
  have h := kk p e s m args below meth c H locs la X hz hH hS hL
  refine lv_ladd X.1 X.2.1 hdg ?_
  rw [← Int64.ofInt_add]
  exact h
theorem ac_lsub {a b : Int} (hdg : decode cc pc = .ok (.lsub, 1)) (hq : pc + 1 = q) (kk : ac_V G on cc nL ret d mc ms P ck cn Y mm q ls ((1, a - b) :: st)) : ac_V G on cc nL ret d mc ms P ck cn Y mm pc ls ((1, b) :: (1, a) :: st) := by
  intro p e s m args below meth c H locs la X hz hH hS hL
  subst hq
  have h := kk p e s m args below meth c H locs la X hz hH hS hL
  refine lv_lsub X.1 X.2.1 hdg ?_
  rw [← Int64.ofInt_sub]
  exact h
theorem ac_lmul {a b : Int} (hdg : decode cc pc = .ok (.lmul, 1)) (hq : pc + 1 = q) (kk : ac_V G on cc nL ret d mc ms P ck cn Y mm q ls ((1, a * b) :: st)) : ac_V G on cc nL ret d mc ms P ck cn Y mm pc ls ((1, b) :: (1, a) :: st) := by
  intro p e s m args below meth c H locs la X hz hH hS hL
  subst hq
  have h := kk p e s m args below meth c H locs la X hz hH hS hL
  refine lv_lmul X.1 X.2.1 hdg ?_
  rw [← Int64.ofInt_mul]
  exact h
theorem ac_ineg {a : Int} (hdg : decode cc pc = .ok (.ineg, 1)) (hq : pc + 1 = q) (kk : ac_V G on cc nL ret d mc ms P ck cn Y mm q ls ((0, -a) :: st)) : ac_V G on cc nL ret d mc ms P ck cn Y mm pc ls ((0, a) :: st) := by
  intro p e s m args below meth c H locs la X hz hH hS hL
  subst hq
  have h := kk p e s m args below meth c H locs la X hz hH hS hL
  refine lv_ineg X.1 X.2.1 hdg ?_
  rw [← Int32.ofInt_neg]
  exact h
theorem ac_i2l {a : Int} (hdg : decode cc pc = .ok (.i2l, 1)) (hq : pc + 1 = q) (ha : ac_in a) (kk : ac_V G on cc nL ret d mc ms P ck cn Y mm q ls ((1, a) :: st)) : ac_V G on cc nL ret d mc ms P ck cn Y mm pc ls ((0, a) :: st) := by
  intro p e s m args below meth c H locs la X hz hH hS hL
  subst hq
  have h := kk p e s m args below meth c H locs la X hz hH hS hL
  exact lv_i2l X.1 X.2.1 hdg (Int32.toInt64_ofInt (by have := ha.1; simpa using this) (by have := ha.2; have h2 : Int32.maxValue.toInt = 2147483647 := (by decide); omega)) h
theorem ac_l2i {a : Int} (hdg : decode cc pc = .ok (.l2i, 1)) (hq : pc + 1 = q) (kk : ac_V G on cc nL ret d mc ms P ck cn Y mm q ls ((0, a) :: st)) : ac_V G on cc nL ret d mc ms P ck cn Y mm pc ls ((1, a) :: st) := by
  intro p e s m args below meth c H locs la X hz hH hS hL
  subst hq
  have h := kk p e s m args below meth c H locs la X hz hH hS hL
  exact lv_l2i X.1 X.2.1 hdg Int64.toInt32_ofInt h
theorem ac_dup {w : Nat × Int} (hdg : decode cc pc = .ok (.dup, 1)) (hq : pc + 1 = q) (hw : w.1 ≠ 1) (kk : ac_V G on cc nL ret d mc ms P ck cn Y mm q ls (w :: w :: st)) : ac_V G on cc nL ret d mc ms P ck cn Y mm pc ls (w :: st) := by
  intro p e s m args below meth c H locs la X hz hH hS hL
  subst hq
  have h := kk p e s m args below meth c H locs la X hz hH hS hL
  exact lv_dup X.1 X.2.1 hdg (ac_cat1 hw) h
theorem ac_dup2_11 {w u : Nat × Int} (hdg : decode cc pc = .ok (.dup2, 1)) (hq : pc + 1 = q) (hw : w.1 ≠ 1) (hu : u.1 ≠ 1) (kk : ac_V G on cc nL ret d mc ms P ck cn Y mm q ls (w :: u :: w :: u :: st)) : ac_V G on cc nL ret d mc ms P ck cn Y mm pc ls (w :: u :: st) := by
  intro p e s m args below meth c H locs la X hz hH hS hL
  subst hq
  have h := kk p e s m args below meth c H locs la X hz hH hS hL
  exact lv_dup2_11 X.1 X.2.1 hdg (ac_cat1 hw) (ac_cat1 hu) h
theorem ac_dup2_2 {a : Int} (hdg : decode cc pc = .ok (.dup2, 1)) (hq : pc + 1 = q) (kk : ac_V G on cc nL ret d mc ms P ck cn Y mm q ls ((1, a) :: (1, a) :: st)) : ac_V G on cc nL ret d mc ms P ck cn Y mm pc ls ((1, a) :: st) := by
  intro p e s m args below meth c H locs la X hz hH hS hL
  subst hq
  have h := kk p e s m args below meth c H locs la X hz hH hS hL
  exact lv_dup2_2 X.1 X.2.1 hdg rfl h
theorem ac_pop {w : Nat × Int} (hdg : decode cc pc = .ok (.pop, 1)) (hq : pc + 1 = q) (hw : w.1 ≠ 1) (kk : ac_V G on cc nL ret d mc ms P ck cn Y mm q ls (st)) : ac_V G on cc nL ret d mc ms P ck cn Y mm pc ls (w :: st) := by
  intro p e s m args below meth c H locs la X hz hH hS hL
  subst hq
  have h := kk p e s m args below meth c H locs la X hz hH hS hL
  exact lv_pop X.1 X.2.1 hdg (ac_cat1 hw) h
theorem ac_top {w w' : Nat × Int} (hw : w = w') (kk : ac_V G on cc nL ret d mc ms P ck cn Y mm pc ls (w' :: st)) : ac_V G on cc nL ret d mc ms P ck cn Y mm pc ls (w :: st) := by subst hw; exact kk
theorem ac_ls {ls' : List (Nat × Int)} (hw : ls = ls') (kk : ac_V G on cc nL ret d mc ms P ck cn Y mm pc ls' st) : ac_V G on cc nL ret d mc ms P ck cn Y mm pc ls st := by subst hw; exact kk
theorem ac_goto {off : Int} (hdg : decode cc pc = .ok (.goto off, 3)) (hq : (pc : Int) + off = (q : Int)) (kk : ac_V G on cc nL ret d mc ms P ck cn Y mm q ls st) : ac_V G on cc nL ret d mc ms P ck cn Y mm pc ls st := by
  intro p e s m args below meth c H locs la X hz hH hS hL
  have h := kk p e s m args below meth c H locs la X hz hH hS hL
  exact lv_goto X.1 X.2.1 hdg hq h
theorem ac_icmp_eq {a b off : Int} {tgt : Nat} (hdg : decode cc pc = .ok (.if_icmp .eq off, 3)) (ht : (pc : Int) + off = (tgt : Int)) (hq : pc + 3 = q) (ha : ac_in a) (hb : ac_in b) (kt : a = b → ac_V G on cc nL ret d mc ms P ck cn Y mm tgt ls st) (kf : ¬ a = b → ac_V G on cc nL ret d mc ms P ck cn Y mm q ls st) : ac_V G on cc nL ret d mc ms P ck cn Y mm pc ls ((0, b) :: (0, a) :: st) := by
  intro p e s m args below meth c H locs la X hz hH hS hL
  subst hq
  have e1 := ac_eq ha hb
  have e2 := ac_lt ha hb
  have e3 := ac_lt hb ha
  have e4 := ac_le ha hb
  have e5 := ac_le hb ha
  refine lv_icmp_eq X.1 X.2.1 hdg ht (fun hh => kt ?_ p e s m args below meth c H locs la X hz hH hS hL) (fun hh => kf ?_ p e s m args below meth c H locs la X hz hH hS hL)
  · simp only [gt_iff_lt, ge_iff_le, ne_eq, e1, e2, e3, e4, e5] at hh
    omega
  · simp only [gt_iff_lt, ge_iff_le, ne_eq, e1, e2, e3, e4, e5] at hh
    omega
theorem ac_if_eq {a off : Int} {tgt : Nat} (hdg : decode cc pc = .ok (.ifCond .eq off, 3)) (ht : (pc : Int) + off = (tgt : Int)) (hq : pc + 3 = q) (ha : ac_in a) (kt : a = 0 → ac_V G on cc nL ret d mc ms P ck cn Y mm tgt ls st) (kf : ¬ a = 0 → ac_V G on cc nL ret d mc ms P ck cn Y mm q ls st) : ac_V G on cc nL ret d mc ms P ck cn Y mm pc ls ((0, a) :: st) := by
  intro p e s m args below meth c H locs la X hz hH hS hL
  subst hq
  have e1 : Int32.ofInt a = 0 ↔ a = 0 := ac_eq (b := 0) ha ac_in0
  have e2 : Int32.ofInt a < 0 ↔ a < 0 := ac_lt (b := 0) ha ac_in0
  have e3 : 0 < Int32.ofInt a ↔ 0 < a := ac_lt (a := 0) ac_in0 ha
  have e4 : Int32.ofInt a ≤ 0 ↔ a ≤ 0 := ac_le (b := 0) ha ac_in0
  have e5 : 0 ≤ Int32.ofInt a ↔ 0 ≤ a := ac_le (a := 0) ac_in0 ha
  refine lv_if_eq X.1 X.2.1 hdg ht (fun hh => kt ?_ p e s m args below meth c H locs la X hz hH hS hL) (fun hh => kf ?_ p e s m args below meth c H locs la X hz hH hS hL)
  · simp only [gt_iff_lt, ge_iff_le, ne_eq, e1, e2, e3, e4, e5] at hh
    omega
  · simp only [gt_iff_lt, ge_iff_le, ne_eq, e1, e2, e3, e4, e5] at hh
    omega
theorem ac_icmp_ne {a b off : Int} {tgt : Nat} (hdg : decode cc pc = .ok (.if_icmp .ne off, 3)) (ht : (pc : Int) + off = (tgt : Int)) (hq : pc + 3 = q) (ha : ac_in a) (hb : ac_in b) (kt : ¬ a = b → ac_V G on cc nL ret d mc ms P ck cn Y mm tgt ls st) (kf : a = b → ac_V G on cc nL ret d mc ms P ck cn Y mm q ls st) : ac_V G on cc nL ret d mc ms P ck cn Y mm pc ls ((0, b) :: (0, a) :: st) := by
  intro p e s m args below meth c H locs la X hz hH hS hL
  subst hq
  have e1 := ac_eq ha hb
  have e2 := ac_lt ha hb
  have e3 := ac_lt hb ha
  have e4 := ac_le ha hb
  have e5 := ac_le hb ha
  refine lv_icmp_ne X.1 X.2.1 hdg ht (fun hh => kt ?_ p e s m args below meth c H locs la X hz hH hS hL) (fun hh => kf ?_ p e s m args below meth c H locs la X hz hH hS hL)
  · simp only [gt_iff_lt, ge_iff_le, ne_eq, e1, e2, e3, e4, e5] at hh
    omega
  · simp only [gt_iff_lt, ge_iff_le, ne_eq, e1, e2, e3, e4, e5] at hh
    omega
theorem ac_if_ne {a off : Int} {tgt : Nat} (hdg : decode cc pc = .ok (.ifCond .ne off, 3)) (ht : (pc : Int) + off = (tgt : Int)) (hq : pc + 3 = q) (ha : ac_in a) (kt : ¬ a = 0 → ac_V G on cc nL ret d mc ms P ck cn Y mm tgt ls st) (kf : a = 0 → ac_V G on cc nL ret d mc ms P ck cn Y mm q ls st) : ac_V G on cc nL ret d mc ms P ck cn Y mm pc ls ((0, a) :: st) := by
  intro p e s m args below meth c H locs la X hz hH hS hL
  subst hq
  have e1 : Int32.ofInt a = 0 ↔ a = 0 := ac_eq (b := 0) ha ac_in0
  have e2 : Int32.ofInt a < 0 ↔ a < 0 := ac_lt (b := 0) ha ac_in0
  have e3 : 0 < Int32.ofInt a ↔ 0 < a := ac_lt (a := 0) ac_in0 ha
  have e4 : Int32.ofInt a ≤ 0 ↔ a ≤ 0 := ac_le (b := 0) ha ac_in0
  have e5 : 0 ≤ Int32.ofInt a ↔ 0 ≤ a := ac_le (a := 0) ac_in0 ha
  refine lv_if_ne X.1 X.2.1 hdg ht (fun hh => kt ?_ p e s m args below meth c H locs la X hz hH hS hL) (fun hh => kf ?_ p e s m args below meth c H locs la X hz hH hS hL)
  · simp only [gt_iff_lt, ge_iff_le, ne_eq, e1, e2, e3, e4, e5] at hh
    omega
  · simp only [gt_iff_lt, ge_iff_le, ne_eq, e1, e2, e3, e4, e5] at hh
    omega
theorem ac_icmp_lt {a b off : Int} {tgt : Nat} (hdg : decode cc pc = .ok (.if_icmp .lt off, 3)) (ht : (pc : Int) + off = (tgt : Int)) (hq : pc + 3 = q) (ha : ac_in a) (hb : ac_in b) (kt : a < b → ac_V G on cc nL ret d mc ms P ck cn Y mm tgt ls st) (kf : b ≤ a → ac_V G on cc nL ret d mc ms P ck cn Y mm q ls st) : ac_V G on cc nL ret d mc ms P ck cn Y mm pc ls ((0, b) :: (0, a) :: st) := by
  intro p e s m args below meth c H locs la X hz hH hS hL
  subst hq
  have e1 := ac_eq ha hb
  have e2 := ac_lt ha hb
  have e3 := ac_lt hb ha
  have e4 := ac_le ha hb
  have e5 := ac_le hb ha
  refine lv_icmp_lt X.1 X.2.1 hdg ht (fun hh => kt ?_ p e s m args below meth c H locs la X hz hH hS hL) (fun hh => kf ?_ p e s m args below meth c H locs la X hz hH hS hL)
  · simp only [gt_iff_lt, ge_iff_le, ne_eq, e1, e2, e3, e4, e5] at hh
    omega
  · simp only [gt_iff_lt, ge_iff_le, ne_eq, e1, e2, e3, e4, e5] at hh
    omega
theorem ac_if_lt {a off : Int} {tgt : Nat} (hdg : decode cc pc = .ok (.ifCond .lt off, 3)) (ht : (pc : Int) + off = (tgt : Int)) (hq : pc + 3 = q) (ha : ac_in a) (kt : a < 0 → ac_V G on cc nL ret d mc ms P ck cn Y mm tgt ls st) (kf : 0 ≤ a → ac_V G on cc nL ret d mc ms P ck cn Y mm q ls st) : ac_V G on cc nL ret d mc ms P ck cn Y mm pc ls ((0, a) :: st) := by
  intro p e s m args below meth c H locs la X hz hH hS hL
  subst hq
  have e1 : Int32.ofInt a = 0 ↔ a = 0 := ac_eq (b := 0) ha ac_in0
  have e2 : Int32.ofInt a < 0 ↔ a < 0 := ac_lt (b := 0) ha ac_in0
  have e3 : 0 < Int32.ofInt a ↔ 0 < a := ac_lt (a := 0) ac_in0 ha
  have e4 : Int32.ofInt a ≤ 0 ↔ a ≤ 0 := ac_le (b := 0) ha ac_in0
  have e5 : 0 ≤ Int32.ofInt a ↔ 0 ≤ a := ac_le (a := 0) ac_in0 ha
  refine lv_if_lt X.1 X.2.1 hdg ht (fun hh => kt ?_ p e s m args below meth c H locs la X hz hH hS hL) (fun hh => kf ?_ p e s m args below meth c H locs la X hz hH hS hL)
  · simp only [gt_iff_lt, ge_iff_le, ne_eq, e1, e2, e3, e4, e5] at hh
    omega
  · simp only [gt_iff_lt, ge_iff_le, ne_eq, e1, e2, e3, e4, e5] at hh
    omega
theorem ac_icmp_ge {a b off : Int} {tgt : Nat} (hdg : decode cc pc = .ok (.if_icmp .ge off, 3)) (ht : (pc : Int) + off = (tgt : Int)) (hq : pc + 3 = q) (ha : ac_in a) (hb : ac_in b) (kt : b ≤ a → ac_V G on cc nL ret d mc ms P ck cn Y mm tgt ls st) (kf : a < b → ac_V G on cc nL ret d mc ms P ck cn Y mm q ls st) : ac_V G on cc nL ret d mc ms P ck cn Y mm pc ls ((0, b) :: (0, a) :: st) := by
  intro p e s m args below meth c H locs la X hz hH hS hL
  subst hq
  have e1 := ac_eq ha hb
  have e2 := ac_lt ha hb
  have e3 := ac_lt hb ha
  have e4 := ac_le ha hb
  have e5 := ac_le hb ha
  refine lv_icmp_ge X.1 X.2.1 hdg ht (fun hh => kt ?_ p e s m args below meth c H locs la X hz hH hS hL) (fun hh => kf ?_ p e s m args below meth c H locs la X hz hH hS hL)
  · simp only [gt_iff_lt, ge_iff_le, ne_eq, e1, e2, e3, e4, e5] at hh
    omega
  · simp only [gt_iff_lt, ge_iff_le, ne_eq, e1, e2, e3, e4, e5] at hh
    omega
theorem ac_if_ge {a off : Int} {tgt : Nat} (hdg : decode cc pc = .ok (.ifCond .ge off, 3)) (ht : (pc : Int) + off = (tgt : Int)) (hq : pc + 3 = q) (ha : ac_in a) (kt : 0 ≤ a → ac_V G on cc nL ret d mc ms P ck cn Y mm tgt ls st) (kf : a < 0 → ac_V G on cc nL ret d mc ms P ck cn Y mm q ls st) : ac_V G on cc nL ret d mc ms P ck cn Y mm pc ls ((0, a) :: st) := by
  intro p e s m args below meth c H locs la X hz hH hS hL
  subst hq
  have e1 : Int32.ofInt a = 0 ↔ a = 0 := ac_eq (b := 0) ha ac_in0
  have e2 : Int32.ofInt a < 0 ↔ a < 0 := ac_lt (b := 0) ha ac_in0
  have e3 : 0 < Int32.ofInt a ↔ 0 < a := ac_lt (a := 0) ac_in0 ha
  have e4 : Int32.ofInt a ≤ 0 ↔ a ≤ 0 := ac_le (b := 0) ha ac_in0
  have e5 : 0 ≤ Int32.ofInt a ↔ 0 ≤ a := ac_le (a := 0) ac_in0 ha
  refine lv_if_ge X.1 X.2.1 hdg ht (fun hh => kt ?_ p e s m args below meth c H locs la X hz hH hS hL) (fun hh => kf ?_ p e s m args below meth c H locs la X hz hH hS hL)
  · simp only [gt_iff_lt, ge_iff_le, ne_eq, e1, e2, e3, e4, e5] at hh
    omega
  · simp only [gt_iff_lt, ge_iff_le, ne_eq, e1, e2, e3, e4, e5] at hh
    omega
theorem ac_icmp_gt {a b off : Int} {tgt : Nat} (hdg : decode cc pc = .ok (.if_icmp .gt off, 3)) (ht : (pc : Int) + off = (tgt : Int)) (hq : pc + 3 = q) (ha : ac_in a) (hb : ac_in b) (kt : b < a → ac_V G on cc nL ret d mc ms P ck cn Y mm tgt ls st) (kf : a ≤ b → ac_V G on cc nL ret d mc ms P ck cn Y mm q ls st) : ac_V G on cc nL ret d mc ms P ck cn Y mm pc ls ((0, b) :: (0, a) :: st) := by
  intro p e s m args below meth c H locs la X hz hH hS hL
  subst hq
  have e1 := ac_eq ha hb
  have e2 := ac_lt ha hb
  have e3 := ac_lt hb ha
  have e4 := ac_le ha hb
  have e5 := ac_le hb ha
  refine lv_icmp_gt X.1 X.2.1 hdg ht (fun hh => kt ?_ p e s m args below meth c H locs la X hz hH hS hL) (fun hh => kf ?_ p e s m args below meth c H locs la X hz hH hS hL)
  · simp only [gt_iff_lt, ge_iff_le, ne_eq, e1, e2, e3, e4, e5] at hh
    omega
  · simp only [gt_iff_lt, ge_iff_le, ne_eq, e1, e2, e3, e4, e5] at hh
    omega
theorem ac_if_gt {a off : Int} {tgt : Nat} (hdg : decode cc pc = .ok (.ifCond .gt off, 3)) (ht : (pc : Int) + off = (tgt : Int)) (hq : pc + 3 = q) (ha : ac_in a) (kt : 0 < a → ac_V G on cc nL ret d mc ms P ck cn Y mm tgt ls st) (kf : a ≤ 0 → ac_V G on cc nL ret d mc ms P ck cn Y mm q ls st) : ac_V G on cc nL ret d mc ms P ck cn Y mm pc ls ((0, a) :: st) := by
  intro p e s m args below meth c H locs la X hz hH hS hL
  subst hq
  have e1 : Int32.ofInt a = 0 ↔ a = 0 := ac_eq (b := 0) ha ac_in0
  have e2 : Int32.ofInt a < 0 ↔ a < 0 := ac_lt (b := 0) ha ac_in0
  have e3 : 0 < Int32.ofInt a ↔ 0 < a := ac_lt (a := 0) ac_in0 ha
  have e4 : Int32.ofInt a ≤ 0 ↔ a ≤ 0 := ac_le (b := 0) ha ac_in0
  have e5 : 0 ≤ Int32.ofInt a ↔ 0 ≤ a := ac_le (a := 0) ac_in0 ha
  refine lv_if_gt X.1 X.2.1 hdg ht (fun hh => kt ?_ p e s m args below meth c H locs la X hz hH hS hL) (fun hh => kf ?_ p e s m args below meth c H locs la X hz hH hS hL)
  · simp only [gt_iff_lt, ge_iff_le, ne_eq, e1, e2, e3, e4, e5] at hh
    omega
  · simp only [gt_iff_lt, ge_iff_le, ne_eq, e1, e2, e3, e4, e5] at hh
    omega
theorem ac_icmp_le {a b off : Int} {tgt : Nat} (hdg : decode cc pc = .ok (.if_icmp .le off, 3)) (ht : (pc : Int) + off = (tgt : Int)) (hq : pc + 3 = q) (ha : ac_in a) (hb : ac_in b) (kt : a ≤ b → ac_V G on cc nL ret d mc ms P ck cn Y mm tgt ls st) (kf : b < a → ac_V G on cc nL ret d mc ms P ck cn Y mm q ls st) : ac_V G on cc nL ret d mc ms P ck cn Y mm pc ls ((0, b) :: (0, a) :: st) := by
  intro p e s m args below meth c H locs la X hz hH hS hL
  subst hq
  have e1 := ac_eq ha hb
  have e2 := ac_lt ha hb
  have e3 := ac_lt hb ha
  have e4 := ac_le ha hb
  have e5 := ac_le hb ha
  refine lv_icmp_le X.1 X.2.1 hdg ht (fun hh => kt ?_ p e s m args below meth c H locs la X hz hH hS hL) (fun hh => kf ?_ p e s m args below meth c H locs la X hz hH hS hL)
  · simp only [gt_iff_lt, ge_iff_le, ne_eq, e1, e2, e3, e4, e5] at hh
    omega
  · simp only [gt_iff_lt, ge_iff_le, ne_eq, e1, e2, e3, e4, e5] at hh
    omega
theorem ac_if_le {a off : Int} {tgt : Nat} (hdg : decode cc pc = .ok (.ifCond .le off, 3)) (ht : (pc : Int) + off = (tgt : Int)) (hq : pc + 3 = q) (ha : ac_in a) (kt : a ≤ 0 → ac_V G on cc nL ret d mc ms P ck cn Y mm tgt ls st) (kf : 0 < a → ac_V G on cc nL ret d mc ms P ck cn Y mm q ls st) : ac_V G on cc nL ret d mc ms P ck cn Y mm pc ls ((0, a) :: st) := by
  intro p e s m args below meth c H locs la X hz hH hS hL
  subst hq
  have e1 : Int32.ofInt a = 0 ↔ a = 0 := ac_eq (b := 0) ha ac_in0
  have e2 : Int32.ofInt a < 0 ↔ a < 0 := ac_lt (b := 0) ha ac_in0
  have e3 : 0 < Int32.ofInt a ↔ 0 < a := ac_lt (a := 0) ac_in0 ha
  have e4 : Int32.ofInt a ≤ 0 ↔ a ≤ 0 := ac_le (b := 0) ha ac_in0
  have e5 : 0 ≤ Int32.ofInt a ↔ 0 ≤ a := ac_le (a := 0) ac_in0 ha
  refine lv_if_le X.1 X.2.1 hdg ht (fun hh => kt ?_ p e s m args below meth c H locs la X hz hH hS hL) (fun hh => kf ?_ p e s m args below meth c H locs la X hz hH hS hL)
  · simp only [gt_iff_lt, ge_iff_le, ne_eq, e1, e2, e3, e4, e5] at hh
    omega
  · simp only [gt_iff_lt, ge_iff_le, ne_eq, e1, e2, e3, e4, e5] at hh
    omega
def ac_b (c : Prop) [Decidable c] : Int := if c then 1 else 0
theorem ac_b1 {c : Prop} [Decidable c] (h : c) : ac_b c = 1 := if_pos h
theorem ac_b0 {c : Prop} [Decidable c] (h : ¬ c) : ac_b c = 0 := if_neg h
theorem ac_bin {c : Prop} [Decidable c] : ac_in (ac_b c) := by unfold ac_b ac_in; split <;> omega
theorem ac_b01 {c : Prop} [Decidable c] : ac_b c = 0 ∨ ac_b c = 1 := by unfold ac_b; split <;> omega
theorem ac_bif_eq {c : Prop} [Decidable c] {off : Int} {tgt : Nat} (hdg : decode cc pc = .ok (.ifCond .eq off, 3)) (ht : (pc : Int) + off = (tgt : Int)) (hq : pc + 3 = q) (kt : ¬ c → ac_V G on cc nL ret d mc ms P ck cn Y mm tgt ls st) (kf : c → ac_V G on cc nL ret d mc ms P ck cn Y mm q ls st) : ac_V G on cc nL ret d mc ms P ck cn Y mm pc ls ((0, ac_b c) :: st) := by
  refine ac_if_eq hdg ht hq ac_bin (fun h => kt ?_) (fun h => kf ?_)
  · intro hc; rw [ac_b1 hc] at h; omega
  · refine Decidable.byContradiction fun hc => ?_
    rw [ac_b0 hc] at h; omega
theorem ac_bif_ne {c : Prop} [Decidable c] {off : Int} {tgt : Nat} (hdg : decode cc pc = .ok (.ifCond .ne off, 3)) (ht : (pc : Int) + off = (tgt : Int)) (hq : pc + 3 = q) (kt : c → ac_V G on cc nL ret d mc ms P ck cn Y mm tgt ls st) (kf : ¬ c → ac_V G on cc nL ret d mc ms P ck cn Y mm q ls st) : ac_V G on cc nL ret d mc ms P ck cn Y mm pc ls ((0, ac_b c) :: st) := by
  refine ac_if_ne hdg ht hq ac_bin (fun h => kt ?_) (fun h => kf ?_)
  · refine Decidable.byContradiction fun hc => ?_
    rw [ac_b0 hc] at h; omega
  · intro hc; rw [ac_b1 hc] at h; omega
theorem ac_ifnull_t {off : Int} (hdg : decode cc pc = .ok (.ifnull off, 3)) (hq : (pc : Int) + off = (q : Int)) (kk : ac_V G on cc nL ret d mc ms P ck cn Y mm q ls st) : ac_V G on cc nL ret d mc ms P ck cn Y mm pc ls ((2, 0) :: st) := by
  intro p e s m args below meth c H locs la X hz hH hS hL
  have h := kk p e s m args below meth c H locs la X hz hH hS hL
  exact lv_ifnullN X.1 X.2.1 hdg hq h
theorem ac_ifnull_f {off x : Int} (hdg : decode cc pc = .ok (.ifnull off, 3)) (hq : pc + 3 = q) (hx : x ≠ 0) (kk : ac_V G on cc nL ret d mc ms P ck cn Y mm q ls st) : ac_V G on cc nL ret d mc ms P ck cn Y mm pc ls ((2, x) :: st) := by
  intro p e s m args below meth c H locs la X hz hH hS hL
  subst hq
  have h := kk p e s m args below meth c H locs la X hz hH hS hL
  simp only [List.map_cons, ac_v, if_neg hx]
  exact lv_ifnull X.1 X.2.1 hdg h
theorem ac_ifnonnull_t {off x : Int} (hdg : decode cc pc = .ok (.ifnonnull off, 3)) (hq : (pc : Int) + off = (q : Int)) (hx : x ≠ 0) (kk : ac_V G on cc nL ret d mc ms P ck cn Y mm q ls st) : ac_V G on cc nL ret d mc ms P ck cn Y mm pc ls ((2, x) :: st) := by
  intro p e s m args below meth c H locs la X hz hH hS hL
  have h := kk p e s m args below meth c H locs la X hz hH hS hL
  simp only [List.map_cons, ac_v, if_neg hx]
  exact lv_ifnonnull X.1 X.2.1 hdg hq h
theorem ac_ifnonnull_f {off : Int} (hdg : decode cc pc = .ok (.ifnonnull off, 3)) (hq : pc + 3 = q) (kk : ac_V G on cc nL ret d mc ms P ck cn Y mm q ls st) : ac_V G on cc nL ret d mc ms P ck cn Y mm pc ls ((2, 0) :: st) := by
  intro p e s m args below meth c H locs la X hz hH hS hL
  subst hq
  have h := kk p e s m args below meth c H locs la X hz hH hS hL
  exact lv_ifnonnullN X.1 X.2.1 hdg h
theorem ac_tabIn {dflt lo hi : Int} {offs : Array Int} {len tgt : Nat} {x off : Int} (hdg : decode cc pc = .ok (.tableswitch dflt lo hi offs, len)) (hx : ac_in x) (h1 : lo ≤ x) (h2 : x ≤ hi) (ho : offs[(x - lo).toNat]? = some off) (ht : (pc : Int) + off = (tgt : Int)) (kk : ac_V G on cc nL ret d mc ms P ck cn Y mm tgt ls st) : ac_V G on cc nL ret d mc ms P ck cn Y mm pc ls ((0, x) :: st) := by
  intro p e s m args below meth c H locs la X hz hH hS hL
  have h := kk p e s m args below meth c H locs la X hz hH hS hL
  exact lv_tableIn X.1 X.2.1 hdg (by rw [ac_toInt hx]; omega) (by rw [ac_toInt hx]; omega) (by rw [ac_toInt hx]; exact ho) ht h
theorem ac_tabOut {dflt lo hi : Int} {offs : Array Int} {len tgt : Nat} {x : Int} (hdg : decode cc pc = .ok (.tableswitch dflt lo hi offs, len)) (hx : ac_in x) (h1 : x < lo ∨ hi < x) (ht : (pc : Int) + dflt = (tgt : Int)) (kk : ac_V G on cc nL ret d mc ms P ck cn Y mm tgt ls st) : ac_V G on cc nL ret d mc ms P ck cn Y mm pc ls ((0, x) :: st) := by
  intro p e s m args below meth c H locs la X hz hH hS hL
  have h := kk p e s m args below meth c H locs la X hz hH hS hL
  exact lv_tableOut X.1 X.2.1 hdg (by rw [ac_toInt hx]; exact h1) ht h
end AcOps
