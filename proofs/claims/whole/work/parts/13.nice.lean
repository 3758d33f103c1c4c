/-- an answer r, the layout as it was, the memory as R says -/
def ac_R (Y : ac_Y) (r : List (Nat × Int)) (R : ac_M → Prop) : ac_P := fun r' Y' mm' => r' = r ∧ Y' = Y ∧ R mm'
theorem ac_rdr {rf : Nat → Nat → Nat} {mm : ac_M} {ci k j v : Nat} (ht : ac_ty ci j = 2) (h : rf k j = v) : ac_w rf mm ci k j = (2, (v : Int)) := by
  simp only [ac_w, ht, h]
theorem ac_rdi {rf : Nat → Nat → Nat} {mm : ac_M} {ci k j : Nat} {v : Int} (ht : ac_ty ci j = 0) (h : mm k j = v) : ac_w rf mm ci k j = (0, v) := by
  simp only [ac_w, ht, h]
theorem ac_rdz {rf : Nat → Nat → Nat} {mm : ac_M} {ci k j : Nat} {v : Int} (ht : ac_ty ci j = 4) (h : mm k j = v) : ac_w rf mm ci k j = (0, v) := by
  simp only [ac_w, ht, h]
theorem ac_rdm {rf : Nat → Nat → Nat} {mm : ac_M} {ci k j v : Nat} (ht : ac_ty ci j = 3) (h : mm k j = (v : Int)) : ac_w rf mm ci k j = (2, (v : Int)) := by
  simp only [ac_w, ht, h]
section AcNice
variable {G : ac_G} {on : String × String} {cc : ByteArray} {nL : Nat} {ret : Option FieldType} {d mc ms : Nat} {P : ac_P} {ck cn : Nat} {Y : ac_Y} {mm : ac_M} {pc q : Nat} {ls st : List (Nat × Int)}
variable {y : MethodName} {cc' : ByteArray} {nL' d' idx ci n : Nat} {ret' : Option FieldType} {as rest : List (Nat × Int)}
theorem ac_Rok {r : List (Nat × Int)} {R : ac_M → Prop} : ∀ r' Y' mm', ac_R Y r R r' Y' mm' → Y'.1 = Y.1 + 0 := fun r' Y' mm' h => by rw [h.2.1]; rfl
/-- a call on an object, the memory changing -/
theorem ac_cv {k : Nat} {r : List (Nat × Int)} {R : ac_M → Prop} (hC : ac_C G y cc' nL' ret' d' 0 0 Y mm ((2, (k : Int)) :: as) (ac_R Y r R)) (hM : ac_ML 1 on.1 idx ci y cc' nL' ret' n) (hk : Y.2.1 k = (0, ci)) (hdg : decode cc pc = .ok (.invokevirtual idx, 3)) (hq : pc + 3 = q) (hst : st = as.reverse ++ (2, (k : Int)) :: rest) (hn : as.length = n) (hd : d' + 1 ≤ d) (hsw : ac_sw rest ≤ 8) (hmc : ck ≤ mc) (hms : cn ≤ ms)
    (kk : ∀ mm', R mm' → ac_V G on cc nL ret d mc ms P ck cn Y mm' q ls (r.take 1 ++ rest)) : ac_V G on cc nL ret d mc ms P ck cn Y mm pc ls st :=
  ac_invokevirtual hC hM hk hdg hq hst hn hd hsw hmc hms ac_Rok (fun r' Y' mm' h => by obtain ⟨rfl, rfl, h⟩ := h; exact kk mm' h)
/-- a call on an object, an answer, nothing changing -/
theorem ac_cvp {k : Nat} {w : Nat × Int} (hC : ac_C G y cc' nL' ret' d' 0 0 Y mm ((2, (k : Int)) :: as) (ac_R Y [w] (fun m => m = mm))) (hM : ac_ML 1 on.1 idx ci y cc' nL' ret' n) (hk : Y.2.1 k = (0, ci)) (hdg : decode cc pc = .ok (.invokevirtual idx, 3)) (hq : pc + 3 = q) (hst : st = as.reverse ++ (2, (k : Int)) :: rest) (hn : as.length = n) (hd : d' + 1 ≤ d) (hsw : ac_sw rest ≤ 8) (hmc : ck ≤ mc) (hms : cn ≤ ms)
    (kk : ac_V G on cc nL ret d mc ms P ck cn Y mm q ls (w :: rest)) : ac_V G on cc nL ret d mc ms P ck cn Y mm pc ls st :=
  ac_cv hC hM hk hdg hq hst hn hd hsw hmc hms (fun mm' h => by subst h; exact kk)
theorem ac_cs {r : List (Nat × Int)} {R : ac_M → Prop} (hC : ac_C G y cc' nL' ret' d' 0 0 Y mm as (ac_R Y r R)) (hM : ac_ML 0 on.1 idx ci y cc' nL' ret' n) (hdg : decode cc pc = .ok (.invokestatic idx, 3)) (hq : pc + 3 = q) (hst : st = as.reverse ++ rest) (hn : as.length = n) (hd : d' + 1 ≤ d) (hsw : ac_sw rest ≤ 8) (hmc : ck ≤ mc) (hms : cn ≤ ms)
    (kk : ∀ mm', R mm' → ac_V G on cc nL ret d mc ms P ck cn Y mm' q ls (r.take 1 ++ rest)) : ac_V G on cc nL ret d mc ms P ck cn Y mm pc ls st :=
  ac_invokestatic hC hM hdg hq hst hn hd hsw hmc hms ac_Rok (fun r' Y' mm' h => by obtain ⟨rfl, rfl, h⟩ := h; exact kk mm' h)
theorem ac_csp {w : Nat × Int} (hC : ac_C G y cc' nL' ret' d' 0 0 Y mm as (ac_R Y [w] (fun m => m = mm))) (hM : ac_ML 0 on.1 idx ci y cc' nL' ret' n) (hdg : decode cc pc = .ok (.invokestatic idx, 3)) (hq : pc + 3 = q) (hst : st = as.reverse ++ rest) (hn : as.length = n) (hd : d' + 1 ≤ d) (hsw : ac_sw rest ≤ 8) (hmc : ck ≤ mc) (hms : cn ≤ ms)
    (kk : ac_V G on cc nL ret d mc ms P ck cn Y mm q ls (w :: rest)) : ac_V G on cc nL ret d mc ms P ck cn Y mm pc ls st :=
  ac_cs hC hM hdg hq hst hn hd hsw hmc hms (fun mm' h => by subst h; exact kk)
theorem ac_ialoadN {k n j : Nat} {v : Int} (hdg : decode cc pc = .ok (.iaload, 1)) (hk : Y.2.1 k = (1, n)) (hn : n < 2147483648) (hi : j < n) (hq : pc + 1 = q) (hv : mm k j = v) (kk : ac_V G on cc nL ret d mc ms P ck cn Y mm q ls ((0, v) :: st)) : ac_V G on cc nL ret d mc ms P ck cn Y mm pc ls ((0, (j : Int)) :: (2, (k : Int)) :: st) :=
  ac_iaload hdg hk hn ⟨by omega, by omega⟩ hq (by rw [Int.toNat_natCast]; exact hv) kk
theorem ac_baloadN {k n j : Nat} {v : Int} (hdg : decode cc pc = .ok (.baload, 1)) (hk : Y.2.1 k = (2, n)) (hn : n < 2147483648) (hi : j < n) (hq : pc + 1 = q) (hv : mm k j = v) (kk : ac_V G on cc nL ret d mc ms P ck cn Y mm q ls ((0, v) :: st)) : ac_V G on cc nL ret d mc ms P ck cn Y mm pc ls ((0, (j : Int)) :: (2, (k : Int)) :: st) :=
  ac_baload hdg hk hn ⟨by omega, by omega⟩ hq (by rw [Int.toNat_natCast]; exact hv) kk
theorem ac_iastoreN {k n j : Nat} {x : Int} (hdg : decode cc pc = .ok (.iastore, 1)) (hk : Y.2.1 k = (1, n)) (hn : n < 2147483648) (hi : j < n) (hq : pc + 1 = q) (kk : ac_V G on cc nL ret d mc ms P ck cn Y (ac_up mm k j x) q ls st) : ac_V G on cc nL ret d mc ms P ck cn Y mm pc ls ((0, x) :: (0, (j : Int)) :: (2, (k : Int)) :: st) :=
  ac_iastore hdg hk hn ⟨by omega, by omega⟩ hq (by rw [Int.toNat_natCast]; exact kk)
theorem ac_bastoreN {k n j : Nat} {x : Int} (hdg : decode cc pc = .ok (.bastore, 1)) (hk : Y.2.1 k = (2, n)) (hn : n < 2147483648) (hi : j < n) (hx : x = 0 ∨ x = 1) (hq : pc + 1 = q) (kk : ac_V G on cc nL ret d mc ms P ck cn Y (ac_up mm k j x) q ls st) : ac_V G on cc nL ret d mc ms P ck cn Y mm pc ls ((0, x) :: (0, (j : Int)) :: (2, (k : Int)) :: st) :=
  ac_bastore hdg hk hn ⟨by omega, by omega⟩ hx hq (by rw [Int.toNat_natCast]; exact kk)
theorem ac_aaloadN {k n j v : Nat} (hdg : decode cc pc = .ok (.aaload, 1)) (hk : Y.2.1 k = (3, n)) (hn : n < 2147483648) (hi : j < n) (hq : pc + 1 = q) (hv : Y.2.2 k j = v) (kk : ac_V G on cc nL ret d mc ms P ck cn Y mm q ls ((2, (v : Int)) :: st)) : ac_V G on cc nL ret d mc ms P ck cn Y mm pc ls ((0, (j : Int)) :: (2, (k : Int)) :: st) :=
  ac_aaload hdg hk hn ⟨by omega, by omega⟩ hq (by rw [Int.toNat_natCast]; exact hv) kk
end AcNice
/-- a task: the object, its three rows -/
def ac_isT (Y : ac_Y) (t : Nat) : Prop := Y.2.1 t = (0, 3) ∧ Y.2.1 (t + 1) = (1, 16) ∧ Y.2.1 (t + 2) = (1, 11) ∧ Y.2.1 (t + 3) = (1, 3) ∧ Y.2.2 t 0 = t + 1 ∧ Y.2.2 t 1 = t + 2 ∧ Y.2.2 t 2 = t + 3

/-! what the rows mean: equations (a, b, c, apart), tasks, sets of numbers as bits -/
abbrev ac_Eq : Type := Int × Int × Int × Int
def ac_th (e : ac_Eq) (x y most : Int) : Int :=
  if e.2.2.1 = 0 ∨ (e.1 * x + e.2.1 * y).tmod e.2.2.1 ≠ 0 then 0
  else if (e.1 * x + e.2.1 * y).tdiv e.2.2.1 < 1 ∨ most < (e.1 * x + e.2.1 * y).tdiv e.2.2.1 ∨ ((x = y ∨ x = (e.1 * x + e.2.1 * y).tdiv e.2.2.1 ∨ y = (e.1 * x + e.2.1 * y).tdiv e.2.2.1) ∧ e.2.2.2 = 1) then 0
  else (e.1 * x + e.2.1 * y).tdiv e.2.2.1
def ac_reg (e : ac_Eq) : Prop := e.1 + e.2.1 = 0 ∨ e.1 - e.2.2.1 = 0 ∨ e.2.1 - e.2.2.1 = 0 ∨ e.1 + e.2.1 - e.2.2.1 = 0
def ac_okq (e : ac_Eq) : Prop := ((-4 ≤ e.1 ∧ e.1 ≤ 4) ∧ e.1 ≠ 0) ∧ ((-4 ≤ e.2.1 ∧ e.2.1 ≤ 4) ∧ e.2.1 ≠ 0) ∧ ((-4 ≤ e.2.2.1 ∧ e.2.2.1 ≤ 4) ∧ e.2.2.1 ≠ 0) ∧ (e.2.2.2 = 0 ∨ e.2.2.2 = 1)
def ac_okE (E : List ac_Eq) : Prop := E.length ≤ 4 ∧ ∀ q ∈ E, ac_okq q
/-- the equations in a row of numbers, from place o on -/
def ac_E (mm : ac_M) (r o : Nat) (E : List ac_Eq) : Prop := ∀ (e : Nat) (q : ac_Eq), E[e]? = some q → mm r (o + 4 * e) = q.1 ∧ mm r (o + 4 * e + 1) = q.2.1 ∧ mm r (o + 4 * e + 2) = q.2.2.1 ∧ mm r (o + 4 * e + 3) = q.2.2.2
def ac_setA : Nat → List Nat → Nat → Nat
  | _, [], _ => 0
  | i, x :: xs, c => (if x = c then 2 ^ i else 0) ||| ac_setA (i + 1) xs c
/-- the numbers (from 1) that have a colour -/
def ac_set (l : List Nat) (c : Nat) : Nat := ac_setA 1 l c
def ac_okK (n k : Nat) (E : List ac_Eq) (pin : Nat → Int) (col : Option (List Nat)) : Prop := (1 ≤ n ∧ n ≤ 10) ∧ (2 ≤ k ∧ k ≤ 3) ∧ ac_okE E ∧ (∀ i, (i = 0 ∨ n < i) → pin i = -1) ∧ (∀ i, -1 ≤ pin i ∧ pin i < k) ∧ (∀ l, col = some l → l.length = n ∧ ∀ c ∈ l, c < k)
def ac_RT (mm : ac_M) (t n k : Nat) (E : List ac_Eq) (pin : Nat → Int) (col : Option (List Nat)) : Prop := ac_okK n k E pin col ∧ mm t 3 = (n : Int) ∧ mm t 4 = (k : Int) ∧ mm t 5 = (E.length : Int) ∧ mm t 6 = (if col.isSome then 1 else 0) ∧ ac_E mm (t + 1) 0 E ∧ (∀ i, 1 ≤ i → i ≤ 10 → mm (t + 2) i = pin i) ∧ (∀ c, c < 3 → 0 ≤ mm (t + 3) c ∧ mm (t + 3) c < 2048) ∧ (∀ l, col = some l → ∀ c, c < 3 → mm (t + 3) c = (ac_set l c : Int))
theorem ac_l1 {c : Prop} {_ : Decidable c} (h : c) : ([(0, 1)] : List (Nat × Int)) = [(0, ac_b c)] := by rw [ac_b1 h]
theorem ac_l0 {c : Prop} {_ : Decidable c} (h : ¬ c) : ([(0, 0)] : List (Nat × Int)) = [(0, ac_b c)] := by rw [ac_b0 h]
