theorem ac_W_size {p : Program} {l : Launch} {e : Env} {R : Room} {s : State} {m : MethodId} {args : Array Value} {below : List Frame} {meth : Method} {c : Code} {H : Heap} {locs : List Loc} {cells slots : Nat} {Q : State → Prop} {g : JFrame} (k : H.size ≤ s.heap.size + cells → W p l e R s m args below meth c H locs cells slots Q g) : W p l e R s m args below meth c H locs cells slots Q g :=
  fun T hT X => k (by rw [← hT]; exact X.heapSize) T hT X
theorem ac_size {G : ac_G} {Y : ac_Y} {mm : ac_M} {H H0 : Heap} {locs : List Loc} {ck : Nat} (hz : H0.size + ck = G.2.1 + Y.1) (hb : G.2.1 ≤ H0.size) (hH : ac_H G Y mm H) (hS : va_S (ac_A G) H0 H locs) (h : H.size ≤ H0.size + ck) : H.size = G.2.1 + Y.1 := by
  have h1 := hS.1
  by_cases hn : Y.1 = 0
  · omega
  · have hg : (ac_ws G Y mm)[Y.1 - 1]? = some (G.2.1 + (Y.1 - 1), ac_ent G Y mm (Y.1 - 1 + 1)) := ac_rm _ (by omega)
    have := (hH.2 _ _ hg).lt
    simp only at this
    omega
theorem ac_B.at {G : ac_G} {s U : State} {H : Heap} {locs : List Loc} (h : ac_B G s) (hS : va_S (ac_A G) s.heap H locs) (hU : U.heap = H) (hW : s.WarmedH U.vm) : ac_B G U := by
  obtain ⟨h1, h2, ⟨h3, h4, h5, h8, h9⟩, h6, h7⟩ := h
  have hA : ¬ ac_A G G.2.2.2.2.1 := Nat.not_le.mpr h5
  have hA2 : ¬ ac_A G G.2.2.2.2.2.1 := Nat.not_le.mpr h9
  have hk : ∀ a : Nat, a < s.heap.size → ¬ ac_A G a → U.heap[a]? = s.heap[a]? := fun a ha hn => by rw [hU]; exact hS.2.1 a ha hn
  refine ⟨va_K.moved hW.alike h1, fun w hw hn => ?_, ⟨(h3.moved hW.alike).kept hk, (h4.moved hW.alike).kept (hk _ (Nat.lt_of_lt_of_le h5 h6) hA), h5, (h8.moved hW.alike).kept (hk _ (Nat.lt_of_lt_of_le h9 h6) hA2), h9⟩, by rw [hU]; exact Nat.le_trans h6 hS.1, va_AO.moved hW.alike h7⟩
  have hz := h2 w hw hn
  unfold ac_isN at hn
  split at hn
  · exact va_Nw.warmF hW hz
  · exact va_Nw.warmM hW hz
  · cases hn
theorem ac_B.calling {G : ac_G} {U : State} {g : JFrame} {mk : MethodId} {a : Array Value} (h : ac_B G U) : ac_B G (U.calling g mk a) := by
  obtain ⟨h1, h2, ⟨h3, h4, h5, h8, h9⟩, h6, h7⟩ := h
  have hv : U.vm = (U.calling g mk a).vm := rfl
  refine ⟨va_K.moved (u := U) (U := U.calling g mk a) (Vm.Alike.refl U.vm) h1, fun w hw hn => ?_, ⟨va_Z.moved (u := U) (U := U.calling g mk a) (Vm.Alike.refl U.vm) h3, va_X.moved (u := U) (U := U.calling g mk a) (Vm.Alike.refl U.vm) h4, h5, va_X.moved (u := U) (U := U.calling g mk a) (Vm.Alike.refl U.vm) h8, h9⟩, h6, va_AO.moved (u := U) (U := U.calling g mk a) (Vm.Alike.refl U.vm) h7⟩
  refine va_Nw.same ?_ hv (h2 w hw hn)
  unfold ac_isN at hn
  split at hn
  · rfl
  · rfl
  · cases hn
theorem ac_T_mem {w : Cond} (h : w ∈ ac_T) : w ∈ lw_tbl := (List.mem_filter.mp h).1
theorem ac_T_of {w : Cond} (h : w ∈ lw_tbl) (hg : goodWord w = true) : w ∈ ac_T := List.mem_filter.mpr ⟨h, hg⟩
theorem ac_good {ws : List Cond} (h : ∀ w ∈ ws, w ∈ ac_T) : GoodIn ac_T (ws ++ ac_T) := fun w hw => by
  have hm : w ∈ ac_T := (List.mem_append.mp hw).elim (h w) id
  exact ⟨hm, good_of_word (List.mem_filter.mp hm).2⟩
def ac_sw (st : List (Nat × Int)) : Nat := (st.map fun w => if w.1 = 1 then 2 else 1).sum
theorem ac_sw_cat {base : Nat} {st : List (Nat × Int)} : ((st.map (ac_v base)).map fun v => v.category).sum = ac_sw st := by
  unfold ac_sw
  rw [List.map_map]
  congr 1
  refine List.map_congr_left fun w _ => ?_
  obtain ⟨a, x⟩ := w
  match a with
  | 0 => rfl
  | 1 => rfl
  | a + 2 => exact ac_cat1 (w := (a + 2, x)) (by show a + 2 ≠ 1; omega)
/-- the answer has as many words as the method's type says -/
def ac_ok (P : ac_P) (n : Nat) : Prop := ∀ r Y mm, P r Y mm → Y.1 = n
section AcRet
variable {G : ac_G} {on : String × String} {cc : ByteArray} {nL : Nat} {ret : Option FieldType} {d mc ms : Nat} {P : ac_P} {ck cn : Nat} {Y : ac_Y} {mm : ac_M} {pc q : Nat} {ls st : List (Nat × Int)}
theorem ac_fin {p : Program} {e : Env} {s : State} {m : MethodId} {args : Array Value} {below : List Frame} {meth : Method} {c : Code} {H : Heap} {locs : List Loc} {g : JFrame} {r : List (Nat × Int)} {o : Outcome} (X : ac_X G on cc nL ret p s m args meth c) (hz : s.heap.size + ck = G.2.1 + Y.1) (hH : ac_H G Y mm H) (hS : va_S (ac_A G) s.heap H locs) (hm : ck ≤ mc) (hs : cn ≤ ms) (ho : o = .returned (r.map (ac_v G.2.1)).head?) (hP : P r Y mm)
    (k : (∀ t : State, t.heap = H → s.WarmedH t.vm → ac_Qc G P args s o t) → (∀ q ∈ locs, ac_A G q.base) → W p G.1 e (ac_room d mc ms) s m args below meth c H locs mc ms (MQ below (ac_Qc G P) args s mc ms (ac_A G)) g) : W p G.1 e (ac_room d mc ms) s m args below meth c H locs ck cn (MQ below (ac_Qc G P) args s mc ms (ac_A G)) g := by
  refine ac_W_size fun hsz => W.widen hm hs (k (fun t ht hW => ?_) hS.2.2)
  exact ⟨⟨r, Y, mm, ho, hP, by rw [ht]; exact hH, by rw [ht]; exact ac_size hz X.2.2.2.2.2.2.2.1.2.2.2.1 hH hS hsz⟩, hS.F ht⟩
theorem ac_ireturn {x : Int} (hdg : decode cc pc = .ok (.ireturn, 1)) (hr : ret = some .int) (hm : ck ≤ mc) (hs : cn ≤ ms) (hP : P [(0, x)] Y mm) : ac_V G on cc nL ret d mc ms P ck cn Y mm pc ls [(0, x)] := by
  intro p e s m args below meth c H locs la X hz hH hS hL
  exact ac_fin (r := [(0, x)]) X hz hH hS hm hs rfl hP fun k1 k2 => W.iret (v := Int32.ofInt x) X.1 X.2.1 (by rw [X.2.2.2.1, hr]) k1 k2 hdg X.2.2.2.2.1
theorem ac_zreturn {x : Int} (hdg : decode cc pc = .ok (.ireturn, 1)) (hr : ret = some .boolean) (hx : x = 0 ∨ x = 1) (hm : ck ≤ mc) (hs : cn ≤ ms) (hP : P [(0, x)] Y mm) : ac_V G on cc nL ret d mc ms P ck cn Y mm pc ls [(0, x)] := by
  intro p e s m args below meth c H locs la X hz hH hS hL
  exact ac_fin (r := [(0, x)]) X hz hH hS hm hs rfl hP fun k1 k2 => W.zret (v := Int32.ofInt x) X.1 X.2.1 (by rw [X.2.2.2.1, hr]) (by rcases hx with rfl | rfl <;> rfl) k1 k2 hdg X.2.2.2.2.1
theorem ac_lreturn {x : Int} (hdg : decode cc pc = .ok (.lreturn, 1)) (hr : ret = some .long) (hm : ck ≤ mc) (hs : cn ≤ ms) (hP : P [(1, x)] Y mm) : ac_V G on cc nL ret d mc ms P ck cn Y mm pc ls [(1, x)] := by
  intro p e s m args below meth c H locs la X hz hH hS hL
  exact ac_fin (r := [(1, x)]) X hz hH hS hm hs rfl hP fun k1 k2 => W.lret (v := Int64.ofInt x) X.1 X.2.1 (by rw [X.2.2.2.1, hr]) k1 k2 hdg X.2.2.2.2.1
theorem ac_areturn {x : Int} {nm : String} (hdg : decode cc pc = .ok (.areturn, 1)) (hr : ret = some (.object nm)) (hm : ck ≤ mc) (hs : cn ≤ ms) (hP : P [(2, x)] Y mm) : ac_V G on cc nL ret d mc ms P ck cn Y mm pc ls [(2, x)] := by
  intro p e s m args below meth c H locs la X hz hH hS hL
  refine ac_fin (r := [(2, x)]) X hz hH hS hm hs rfl hP fun k1 k2 => W.aret (v := ac_v G.2.1 (2, x)) X.1 X.2.1 (by rw [X.2.2.2.1, hr]) (Or.inl ⟨_, rfl⟩) ?_ k1 k2 hdg X.2.2.2.2.1
  show (if x = 0 then Value.null else Value.ref (G.2.1 + (x.toNat - 1))) = .null ∨ ∃ a, (if x = 0 then Value.null else Value.ref (G.2.1 + (x.toNat - 1))) = .ref a
  by_cases h : x = 0
  · exact Or.inl (if_pos h)
  · exact Or.inr ⟨_, if_neg h⟩
theorem ac_return (hdg : decode cc pc = .ok (.return_, 1)) (hr : ret = none) (hm : ck ≤ mc) (hs : cn ≤ ms) (hP : P [] Y mm) : ac_V G on cc nL ret d mc ms P ck cn Y mm pc ls [] := by
  intro p e s m args below meth c H locs la X hz hH hS hL
  exact ac_fin (r := []) X hz hH hS hm hs rfl hP fun k1 k2 => W.vret X.1 X.2.1 (by rw [X.2.2.2.1, hr]) k1 k2 hdg X.2.2.2.2.1
/-- the words of the arguments, a long taking two places -/
def ac_exp : List (Nat × Int) → List (Nat × Int)
  | [] => []
  | w :: r => if w.1 = 1 then w :: (3, 0) :: ac_exp r else w :: ac_exp r
theorem ac_exp_mem {base : Nat} (as : List (Nat × Int)) : ∀ (k i : Nat) (w : Nat × Int), (ac_exp as)[i]? = some w → w.1 ≠ 3 → (k + i, ac_v base w) ∈ lv_args k (as.map (ac_v base)) := by
  induction as with
  | nil => intro k i w h; simp [ac_exp] at h
  | cons u r ih =>
    intro k i w h h3
    unfold ac_exp at h
    simp only [List.map_cons, lv_args]
    by_cases hu : u.1 = 1
    · rw [if_pos hu] at h
      have hc : (ac_v base u).category = 2 := by
        obtain ⟨a, x⟩ := u
        have hu : a = 1 := hu
        subst hu; rfl
      rw [if_pos hc]
      match i, h with
      | 0, h => cases h; exact List.mem_cons_self
      | 1, h => cases h; exact absurd rfl h3
      | i + 2, h =>
        have := ih (k + 2) i w h h3
        rw [show k + 2 + i = k + (i + 2) by omega] at this
        exact List.mem_cons_of_mem _ this
    · rw [if_neg hu] at h
      have hc : ¬ (ac_v base u).category = 2 := by rw [ac_cat1 hu]; decide
      rw [if_neg hc]
      match i, h with
      | 0, h => cases h; exact List.mem_cons_self
      | i + 1, h =>
        have := ih (k + 1) i w h h3
        rw [show k + 1 + i = k + (i + 1) by omega] at this
        exact List.mem_cons_of_mem _ this
theorem ac_lg_len {base : Nat} (as : List (Nat × Int)) : (lg_sl (as.map (ac_v base))).length = ac_sw as := by
  unfold lg_sl ac_sw
  induction as with
  | nil => rfl
  | cons u r ih =>
    simp only [List.map_cons, List.flatMap_cons, List.length_append, List.sum_cons, ih]
    congr 1
    by_cases hu : u.1 = 1
    · have hc : (ac_v base u).category = 2 := by
        obtain ⟨a, x⟩ := u
        have hu : a = 1 := hu
        subst hu; rfl
      rw [if_pos hc, if_pos hu]; rfl
    · have hc : ¬ (ac_v base u).category = 2 := by rw [ac_cat1 hu]; decide
      rw [if_neg hc, if_neg hu]; rfl
theorem ac_met {y : MethodName} {as : List (Nat × Int)} (hy : plainName y.cls = true) (hon : (y.cls, y.name) = on) (hlen : ac_sw as ≤ nL) (hls : ac_exp as ++ List.replicate (nL - (ac_exp as).length) (3, 0) = ls) (h : ac_V G on cc nL ret d mc ms P 0 0 Y mm 0 ls []) : ac_C G y cc nL ret d mc ms Y mm as P := by
  subst hon
  refine Met.ofW (cc := cc) (maxL := nL) (ret := ret) hy rfl ?_
  intro p e s m args below meth c s₁ B hml hv
  obtain ⟨rfl, hH, hB, hsz⟩ := hv
  have hts := atoms_spec B.pre
  rw [lg_entry_eq]
  have hl := lv_entry (as.map (ac_v G.2.1)) (n := nL) (by rw [ac_lg_len]; exact hlen)
  refine h p e s m _ below meth c s.heap [] _ ⟨B.exec, B.bytes, hml, B.returns, B.notSynchronized, findClass_of_methodNamed B.named, fun w hw => hts w (List.mem_cons_of_mem _ hw), hB, (name_of_methodNamed B.named B.method).1⟩ (by omega) hH va_S.rf (ac_lweak hl fun q hq => ?_)
  obtain ⟨w, h1, h2, h3⟩ := ac_enc_mem.mp hq
  obtain ⟨k, v⟩ := q
  simp only at h1 h3
  subst h3
  rw [← hls] at h1
  by_cases hk : k < (ac_exp as).length
  · rw [List.getElem?_append_left hk] at h1
    have := ac_exp_mem (base := G.2.1) as 0 k w h1 h2
    rwa [Nat.zero_add] at this
  · rw [List.getElem?_append_right (by omega)] at h1
    obtain ⟨-, h4⟩ := List.mem_replicate.mp (List.mem_of_getElem? h1)
    rw [h4] at h2
    exact absurd rfl h2
end AcRet
