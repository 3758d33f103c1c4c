/-! the law, call by call -/
set_option maxHeartbeats 4000000 in
theorem L_write {G : ac_G} {Y : ac_Y} {nm : String} {d MC MS ck cn i : Nat} {P : ac_P} {m : ac_M} (hd : 31 ≤ d) (hck : ck ≤ MC) (hcn : cn ≤ MS) (hA : ac_isA Y 1) (hM : ac_isM Y 105) (hL : G.2.2.2.2.2.2.1 < 2147483648) (hxs : ∀ j, ac_in (G.2.2.2.2.2.2.2 j)) (hi : i + 5 ≤ G.2.2.2.2.2.2.1) (hv : ac_iv m) (next : ∀ m', ac_iv m' → ac_V G (RL, nm) cL_law 4 (some .boolean) d MC MS P ck cn Y m' 973 [(4, (G.2.2.2.2.2.1 : Int)), (2, ((1 : Nat) : Int)), (2, ((105 : Nat) : Int)), (0, (i : Int))] []) : ac_V G (RL, nm) cL_law 4 (some .boolean) d MC MS P ck cn Y m 160 [(4, (G.2.2.2.2.2.1 : Int)), (2, ((1 : Nat) : Int)), (2, ((105 : Nat) : Int)), (0, (i : Int))] [] := by
  obtain ⟨s, T, hs, s0, s1, obs, ch, rA, rM, o1, o2, o3, o4⟩ := hv
  obtain ⟨a1, e1⟩ : ∃ a, a = G.2.2.2.2.2.2.2 (i + 1) := ⟨_, rfl⟩
  have n1 : ac_in a1 := by rw [e1]; exact hxs _
  refine ac_aload_n (q := 161) dL_law_160 rfl rfl ?_
  refine ac_aload_a (q := 162) dL_law_161 rfl rfl ?_
  refine ac_iload_n (q := 163) dL_law_162 rfl rfl ?_
  refine ac_iconst (q := 164) dL_law_163 rfl ?_
  refine ac_iadd (q := 165) dL_law_164 rfl ?_
  refine ac_script (q := 166) (j := i + 1) (v := a1) dL_law_165 hL (by omega) e1 rfl ?_
  refine ac_cv (q := 169) (k_X6_write (x := 1) (d := d - 1) (by omega) hA rA n1) ml_L_13 hA.1.1 dL_law_166 rfl rfl rfl (by omega) (Nat.le_of_ble_eq_true rfl) hck hcn (fun m1 h1 => ?_)
  obtain ⟨r1, f1⟩ := h1
  have w1 := ac_RM_ff rM (fun k a b => f1 k (Or.inr (by omega)))
  refine ac_aload_n (q := 170) dL_law_169 rfl rfl ?_
  refine ac_aload_a (q := 171) dL_law_170 rfl rfl ?_
  refine ac_iload_n (q := 172) dL_law_171 rfl rfl ?_
  refine ac_iconst (q := 173) dL_law_172 rfl ?_
  refine ac_iadd (q := 174) dL_law_173 rfl ?_
  refine ac_script (q := 175) (j := i + 1) (v := a1) dL_law_174 hL (by omega) e1 rfl ?_
  refine ac_cv (q := 178) (k_X7_write (x := 105) (d := d - 1) (by omega) hM w1 n1) ml_L_17 hM.2.1 dL_law_175 rfl rfl rfl (by omega) (Nat.le_of_ble_eq_true rfl) hck hcn (fun m2 h2 => ?_)
  obtain ⟨r2, f2⟩ := h2
  have w2 := ac_RA_ff r1 (fun k a b => f2 k (Or.inl (by omega)))
  refine ac_same (tgt := 973) dL_law_178 rfl ?_
  exact next m2 ⟨_, _, _, _, _, _, _, w2, r2, o1, o2, o3, o4⟩

set_option maxHeartbeats 4000000 in
theorem L_wipe {G : ac_G} {Y : ac_Y} {nm : String} {d MC MS ck cn i : Nat} {P : ac_P} {m : ac_M} (hd : 31 ≤ d) (hck : ck ≤ MC) (hcn : cn ≤ MS) (hA : ac_isA Y 1) (hM : ac_isM Y 105) (hL : G.2.2.2.2.2.2.1 < 2147483648) (hxs : ∀ j, ac_in (G.2.2.2.2.2.2.2 j)) (hi : i + 5 ≤ G.2.2.2.2.2.2.1) (hv : ac_iv m) (next : ∀ m', ac_iv m' → ac_V G (RL, nm) cL_law 4 (some .boolean) d MC MS P ck cn Y m' 973 [(4, (G.2.2.2.2.2.1 : Int)), (2, ((1 : Nat) : Int)), (2, ((105 : Nat) : Int)), (0, (i : Int))] []) : ac_V G (RL, nm) cL_law 4 (some .boolean) d MC MS P ck cn Y m 183 [(4, (G.2.2.2.2.2.1 : Int)), (2, ((1 : Nat) : Int)), (2, ((105 : Nat) : Int)), (0, (i : Int))] [] := by
  obtain ⟨s, T, hs, s0, s1, obs, ch, rA, rM, o1, o2, o3, o4⟩ := hv
  refine ac_aload_n (q := 184) dL_law_183 rfl rfl ?_
  refine ac_cv (q := 187) (k_X6_wipe (x := 1) (d := d - 1) (by omega) hA rA ) ml_L_18 hA.1.1 dL_law_184 rfl rfl rfl (by omega) (Nat.le_of_ble_eq_true rfl) hck hcn (fun m1 h1 => ?_)
  obtain ⟨r1, f1⟩ := h1
  have w1 := ac_RM_ff rM (fun k a b => f1 k (Or.inr (by omega)))
  refine ac_aload_n (q := 188) dL_law_187 rfl rfl ?_
  refine ac_cv (q := 191) (k_X7_wipe (x := 105) (d := d - 1) (by omega) hM w1 ) ml_L_22 hM.2.1 dL_law_188 rfl rfl rfl (by omega) (Nat.le_of_ble_eq_true rfl) hck hcn (fun m2 h2 => ?_)
  obtain ⟨r2, f2⟩ := h2
  have w2 := ac_RA_ff r1 (fun k a b => f2 k (Or.inl (by omega)))
  refine ac_same (tgt := 973) dL_law_191 rfl ?_
  exact next m2 ⟨_, _, _, _, _, _, _, w2, r2, o1, o2, o3, o4⟩

set_option maxHeartbeats 4000000 in
theorem L_fault {G : ac_G} {Y : ac_Y} {nm : String} {d MC MS ck cn i : Nat} {P : ac_P} {m : ac_M} (hd : 31 ≤ d) (hck : ck ≤ MC) (hcn : cn ≤ MS) (hA : ac_isA Y 1) (hM : ac_isM Y 105) (hL : G.2.2.2.2.2.2.1 < 2147483648) (hxs : ∀ j, ac_in (G.2.2.2.2.2.2.2 j)) (hi : i + 5 ≤ G.2.2.2.2.2.2.1) (hv : ac_iv m) (next : ∀ m', ac_iv m' → ac_V G (RL, nm) cL_law 4 (some .boolean) d MC MS P ck cn Y m' 973 [(4, (G.2.2.2.2.2.1 : Int)), (2, ((1 : Nat) : Int)), (2, ((105 : Nat) : Int)), (0, (i : Int))] []) : ac_V G (RL, nm) cL_law 4 (some .boolean) d MC MS P ck cn Y m 196 [(4, (G.2.2.2.2.2.1 : Int)), (2, ((1 : Nat) : Int)), (2, ((105 : Nat) : Int)), (0, (i : Int))] [] := by
  obtain ⟨s, T, hs, s0, s1, obs, ch, rA, rM, o1, o2, o3, o4⟩ := hv
  refine ac_aload_n (q := 197) dL_law_196 rfl rfl ?_
  refine ac_cv (q := 200) (k_X6_fault (x := 1) (d := d - 1) (by omega) hA rA ) ml_L_23 hA.1.1 dL_law_197 rfl rfl rfl (by omega) (Nat.le_of_ble_eq_true rfl) hck hcn (fun m1 h1 => ?_)
  obtain ⟨r1, f1⟩ := h1
  have w1 := ac_RM_ff rM (fun k a b => f1 k (Or.inr (by omega)))
  refine ac_aload_n (q := 201) dL_law_200 rfl rfl ?_
  refine ac_cv (q := 204) (k_X7_fault (x := 105) (d := d - 1) (by omega) hM w1 ) ml_L_26 hM.2.1 dL_law_201 rfl rfl rfl (by omega) (Nat.le_of_ble_eq_true rfl) hck hcn (fun m2 h2 => ?_)
  obtain ⟨r2, f2⟩ := h2
  have w2 := ac_RA_ff r1 (fun k a b => f2 k (Or.inl (by omega)))
  refine ac_same (tgt := 973) dL_law_204 rfl ?_
  exact next m2 ⟨_, _, _, _, _, _, _, w2, r2, o1, o2, o3, o4⟩

set_option maxHeartbeats 4000000 in
theorem L_task {G : ac_G} {Y : ac_Y} {nm : String} {d MC MS ck cn i : Nat} {P : ac_P} {m : ac_M} (hd : 31 ≤ d) (hck : ck ≤ MC) (hcn : cn ≤ MS) (hA : ac_isA Y 1) (hM : ac_isM Y 105) (hL : G.2.2.2.2.2.2.1 < 2147483648) (hxs : ∀ j, ac_in (G.2.2.2.2.2.2.2 j)) (hi : i + 5 ≤ G.2.2.2.2.2.2.1) (hv : ac_iv m) (next : ∀ m', ac_iv m' → ac_V G (RL, nm) cL_law 4 (some .boolean) d MC MS P ck cn Y m' 973 [(4, (G.2.2.2.2.2.1 : Int)), (2, ((1 : Nat) : Int)), (2, ((105 : Nat) : Int)), (0, (i : Int))] []) : ac_V G (RL, nm) cL_law 4 (some .boolean) d MC MS P ck cn Y m 209 [(4, (G.2.2.2.2.2.1 : Int)), (2, ((1 : Nat) : Int)), (2, ((105 : Nat) : Int)), (0, (i : Int))] [] := by
  obtain ⟨s, T, hs, s0, s1, obs, ch, rA, rM, o1, o2, o3, o4⟩ := hv
  refine ac_aload_n (q := 210) dL_law_209 rfl rfl ?_
  refine ac_cv (q := 213) (k_X6_task (x := 1) (d := d - 1) (by omega) hA rA ) ml_L_27 hA.1.1 dL_law_210 rfl rfl rfl (by omega) (Nat.le_of_ble_eq_true rfl) hck hcn (fun m1 h1 => ?_)
  obtain ⟨r1, f1⟩ := h1
  have w1 := ac_RM_ff rM (fun k a b => f1 k (Or.inr (by omega)))
  refine ac_aload_n (q := 214) dL_law_213 rfl rfl ?_
  refine ac_cv (q := 217) (k_X7_task (x := 105) (d := d - 1) (by omega) hM w1 ) ml_L_30 hM.2.1 dL_law_214 rfl rfl rfl (by omega) (Nat.le_of_ble_eq_true rfl) hck hcn (fun m2 h2 => ?_)
  obtain ⟨r2, f2⟩ := h2
  have w2 := ac_RA_ff r1 (fun k a b => f2 k (Or.inl (by omega)))
  refine ac_same (tgt := 973) dL_law_217 rfl ?_
  have kk := w2.2.1.1
  refine next m2 ⟨_, _, _, _, _, _, _, w2, r2, ?_, ac_ite_oks (fun _ T2 h2 => by cases h2) o2, ac_ite_oko (fun _ T2 h2 => by cases h2) o3, ac_ite_oko (fun _ T2 h2 => by cases h2) o4⟩
  by_cases hc : (ac_rd s).1 = -9
  · rw [if_pos hc] at kk ⊢; exact ac_stl_ok2 kk
  · rw [if_neg hc]; exact o1

set_option maxHeartbeats 4000000 in
theorem L_equation {G : ac_G} {Y : ac_Y} {nm : String} {d MC MS ck cn i : Nat} {P : ac_P} {m : ac_M} (hd : 31 ≤ d) (hck : ck ≤ MC) (hcn : cn ≤ MS) (hA : ac_isA Y 1) (hM : ac_isM Y 105) (hL : G.2.2.2.2.2.2.1 < 2147483648) (hxs : ∀ j, ac_in (G.2.2.2.2.2.2.2 j)) (hi : i + 5 ≤ G.2.2.2.2.2.2.1) (hv : ac_iv m) (next : ∀ m', ac_iv m' → ac_V G (RL, nm) cL_law 4 (some .boolean) d MC MS P ck cn Y m' 973 [(4, (G.2.2.2.2.2.1 : Int)), (2, ((1 : Nat) : Int)), (2, ((105 : Nat) : Int)), (0, (i : Int))] []) : ac_V G (RL, nm) cL_law 4 (some .boolean) d MC MS P ck cn Y m 222 [(4, (G.2.2.2.2.2.1 : Int)), (2, ((1 : Nat) : Int)), (2, ((105 : Nat) : Int)), (0, (i : Int))] [] := by
  obtain ⟨s, T, hs, s0, s1, obs, ch, rA, rM, o1, o2, o3, o4⟩ := hv
  obtain ⟨a1, e1⟩ : ∃ a, a = G.2.2.2.2.2.2.2 (i + 1) := ⟨_, rfl⟩
  have n1 : ac_in a1 := by rw [e1]; exact hxs _
  obtain ⟨a2, e2⟩ : ∃ a, a = G.2.2.2.2.2.2.2 (i + 2) := ⟨_, rfl⟩
  have n2 : ac_in a2 := by rw [e2]; exact hxs _
  refine ac_aload_n (q := 223) dL_law_222 rfl rfl ?_
  refine ac_aload_a (q := 224) dL_law_223 rfl rfl ?_
  refine ac_iload_n (q := 225) dL_law_224 rfl rfl ?_
  refine ac_iconst (q := 226) dL_law_225 rfl ?_
  refine ac_iadd (q := 227) dL_law_226 rfl ?_
  refine ac_script (q := 228) (j := i + 1) (v := a1) dL_law_227 hL (by omega) e1 rfl ?_
  refine ac_aload_a (q := 229) dL_law_228 rfl rfl ?_
  refine ac_iload_n (q := 230) dL_law_229 rfl rfl ?_
  refine ac_iconst (q := 231) dL_law_230 rfl ?_
  refine ac_iadd (q := 232) dL_law_231 rfl ?_
  refine ac_script (q := 233) (j := i + 2) (v := a2) dL_law_232 hL (by omega) e2 rfl ?_
  refine ac_cv (q := 236) (k_X6_equation (x := 1) (d := d - 1) (by omega) hA rA n1 n2) ml_L_31 hA.1.1 dL_law_233 rfl rfl rfl (by omega) (Nat.le_of_ble_eq_true rfl) hck hcn (fun m1 h1 => ?_)
  obtain ⟨r1, f1⟩ := h1
  have w1 := ac_RM_ff rM (fun k a b => f1 k (Or.inr (by omega)))
  refine ac_aload_n (q := 237) dL_law_236 rfl rfl ?_
  refine ac_aload_a (q := 238) dL_law_237 rfl rfl ?_
  refine ac_iload_n (q := 239) dL_law_238 rfl rfl ?_
  refine ac_iconst (q := 240) dL_law_239 rfl ?_
  refine ac_iadd (q := 241) dL_law_240 rfl ?_
  refine ac_script (q := 242) (j := i + 1) (v := a1) dL_law_241 hL (by omega) e1 rfl ?_
  refine ac_aload_a (q := 243) dL_law_242 rfl rfl ?_
  refine ac_iload_n (q := 244) dL_law_243 rfl rfl ?_
  refine ac_iconst (q := 245) dL_law_244 rfl ?_
  refine ac_iadd (q := 246) dL_law_245 rfl ?_
  refine ac_script (q := 247) (j := i + 2) (v := a2) dL_law_246 hL (by omega) e2 rfl ?_
  refine ac_cv (q := 250) (k_X7_equation (x := 105) (d := d - 1) (by omega) hM w1 n1 n2) ml_L_35 hM.2.1 dL_law_247 rfl rfl rfl (by omega) (Nat.le_of_ble_eq_true rfl) hck hcn (fun m2 h2 => ?_)
  obtain ⟨r2, f2⟩ := h2
  have w2 := ac_RA_ff r1 (fun k a b => f2 k (Or.inl (by omega)))
  refine ac_same (tgt := 973) dL_law_250 rfl ?_
  exact next m2 ⟨_, _, _, _, _, _, _, w2, r2, o1, o2, o3, o4⟩

set_option maxHeartbeats 4000000 in
theorem L_solution {G : ac_G} {Y : ac_Y} {nm : String} {d MC MS ck cn i : Nat} {P : ac_P} {m : ac_M} (hd : 31 ≤ d) (hck : ck ≤ MC) (hcn : cn ≤ MS) (hA : ac_isA Y 1) (hM : ac_isM Y 105) (hL : G.2.2.2.2.2.2.1 < 2147483648) (hxs : ∀ j, ac_in (G.2.2.2.2.2.2.2 j)) (hi : i + 5 ≤ G.2.2.2.2.2.2.1) (hv : ac_iv m) (next : ∀ m', ac_iv m' → ac_V G (RL, nm) cL_law 4 (some .boolean) d MC MS P ck cn Y m' 973 [(4, (G.2.2.2.2.2.1 : Int)), (2, ((1 : Nat) : Int)), (2, ((105 : Nat) : Int)), (0, (i : Int))] []) : ac_V G (RL, nm) cL_law 4 (some .boolean) d MC MS P ck cn Y m 255 [(4, (G.2.2.2.2.2.1 : Int)), (2, ((1 : Nat) : Int)), (2, ((105 : Nat) : Int)), (0, (i : Int))] [] := by
  obtain ⟨s, T, hs, s0, s1, obs, ch, rA, rM, o1, o2, o3, o4⟩ := hv
  obtain ⟨a1, e1⟩ : ∃ a, a = G.2.2.2.2.2.2.2 (i + 1) := ⟨_, rfl⟩
  have n1 : ac_in a1 := by rw [e1]; exact hxs _
  obtain ⟨a2, e2⟩ : ∃ a, a = G.2.2.2.2.2.2.2 (i + 2) := ⟨_, rfl⟩
  have n2 : ac_in a2 := by rw [e2]; exact hxs _
  refine ac_aload_n (q := 256) dL_law_255 rfl rfl ?_
  refine ac_aload_a (q := 257) dL_law_256 rfl rfl ?_
  refine ac_iload_n (q := 258) dL_law_257 rfl rfl ?_
  refine ac_iconst (q := 259) dL_law_258 rfl ?_
  refine ac_iadd (q := 260) dL_law_259 rfl ?_
  refine ac_script (q := 261) (j := i + 1) (v := a1) dL_law_260 hL (by omega) e1 rfl ?_
  refine ac_aload_a (q := 262) dL_law_261 rfl rfl ?_
  refine ac_iload_n (q := 263) dL_law_262 rfl rfl ?_
  refine ac_iconst (q := 264) dL_law_263 rfl ?_
  refine ac_iadd (q := 265) dL_law_264 rfl ?_
  refine ac_script (q := 266) (j := i + 2) (v := a2) dL_law_265 hL (by omega) e2 rfl ?_
  refine ac_cv (q := 269) (k_X6_solution (x := 1) (d := d - 1) (by omega) hA rA n1 n2) ml_L_36 hA.1.1 dL_law_266 rfl rfl rfl (by omega) (Nat.le_of_ble_eq_true rfl) hck hcn (fun m1 h1 => ?_)
  obtain ⟨r1, f1⟩ := h1
  have w1 := ac_RM_ff rM (fun k a b => f1 k (Or.inr (by omega)))
  refine ac_aload_n (q := 270) dL_law_269 rfl rfl ?_
  refine ac_aload_a (q := 271) dL_law_270 rfl rfl ?_
  refine ac_iload_n (q := 272) dL_law_271 rfl rfl ?_
  refine ac_iconst (q := 273) dL_law_272 rfl ?_
  refine ac_iadd (q := 274) dL_law_273 rfl ?_
  refine ac_script (q := 275) (j := i + 1) (v := a1) dL_law_274 hL (by omega) e1 rfl ?_
  refine ac_aload_a (q := 276) dL_law_275 rfl rfl ?_
  refine ac_iload_n (q := 277) dL_law_276 rfl rfl ?_
  refine ac_iconst (q := 278) dL_law_277 rfl ?_
  refine ac_iadd (q := 279) dL_law_278 rfl ?_
  refine ac_script (q := 280) (j := i + 2) (v := a2) dL_law_279 hL (by omega) e2 rfl ?_
  refine ac_cv (q := 283) (k_X7_solution (x := 105) (d := d - 1) (by omega) hM w1 n1 n2) ml_L_39 hM.2.1 dL_law_280 rfl rfl rfl (by omega) (Nat.le_of_ble_eq_true rfl) hck hcn (fun m2 h2 => ?_)
  obtain ⟨r2, f2⟩ := h2
  have w2 := ac_RA_ff r1 (fun k a b => f2 k (Or.inl (by omega)))
  refine ac_same (tgt := 973) dL_law_283 rfl ?_
  exact next m2 ⟨_, _, _, _, _, _, _, w2, r2, o1, o2, o3, o4⟩

set_option maxHeartbeats 4000000 in
theorem L_number {G : ac_G} {Y : ac_Y} {nm : String} {d MC MS ck cn i : Nat} {P : ac_P} {m : ac_M} (hd : 31 ≤ d) (hck : ck ≤ MC) (hcn : cn ≤ MS) (hA : ac_isA Y 1) (hM : ac_isM Y 105) (hL : G.2.2.2.2.2.2.1 < 2147483648) (hxs : ∀ j, ac_in (G.2.2.2.2.2.2.2 j)) (hi : i + 5 ≤ G.2.2.2.2.2.2.1) (hv : ac_iv m) (next : ∀ m', ac_iv m' → ac_V G (RL, nm) cL_law 4 (some .boolean) d MC MS P ck cn Y m' 973 [(4, (G.2.2.2.2.2.1 : Int)), (2, ((1 : Nat) : Int)), (2, ((105 : Nat) : Int)), (0, (i : Int))] []) : ac_V G (RL, nm) cL_law 4 (some .boolean) d MC MS P ck cn Y m 288 [(4, (G.2.2.2.2.2.1 : Int)), (2, ((1 : Nat) : Int)), (2, ((105 : Nat) : Int)), (0, (i : Int))] [] := by
  obtain ⟨s, T, hs, s0, s1, obs, ch, rA, rM, o1, o2, o3, o4⟩ := hv
  obtain ⟨a1, e1⟩ : ∃ a, a = G.2.2.2.2.2.2.2 (i + 1) := ⟨_, rfl⟩
  have n1 : ac_in a1 := by rw [e1]; exact hxs _
  obtain ⟨a2, e2⟩ : ∃ a, a = G.2.2.2.2.2.2.2 (i + 2) := ⟨_, rfl⟩
  have n2 : ac_in a2 := by rw [e2]; exact hxs _
  refine ac_aload_n (q := 289) dL_law_288 rfl rfl ?_
  refine ac_aload_a (q := 290) dL_law_289 rfl rfl ?_
  refine ac_iload_n (q := 291) dL_law_290 rfl rfl ?_
  refine ac_iconst (q := 292) dL_law_291 rfl ?_
  refine ac_iadd (q := 293) dL_law_292 rfl ?_
  refine ac_script (q := 294) (j := i + 1) (v := a1) dL_law_293 hL (by omega) e1 rfl ?_
  refine ac_aload_a (q := 295) dL_law_294 rfl rfl ?_
  refine ac_iload_n (q := 296) dL_law_295 rfl rfl ?_
  refine ac_iconst (q := 297) dL_law_296 rfl ?_
  refine ac_iadd (q := 298) dL_law_297 rfl ?_
  refine ac_script (q := 299) (j := i + 2) (v := a2) dL_law_298 hL (by omega) e2 rfl ?_
  refine ac_cv (q := 302) (k_X6_number (x := 1) (d := d - 1) (by omega) hA rA n1 n2) ml_L_40 hA.1.1 dL_law_299 rfl rfl rfl (by omega) (Nat.le_of_ble_eq_true rfl) hck hcn (fun m1 h1 => ?_)
  obtain ⟨r1, f1⟩ := h1
  have w1 := ac_RM_ff rM (fun k a b => f1 k (Or.inr (by omega)))
  refine ac_aload_n (q := 303) dL_law_302 rfl rfl ?_
  refine ac_aload_a (q := 304) dL_law_303 rfl rfl ?_
  refine ac_iload_n (q := 305) dL_law_304 rfl rfl ?_
  refine ac_iconst (q := 306) dL_law_305 rfl ?_
  refine ac_iadd (q := 307) dL_law_306 rfl ?_
  refine ac_script (q := 308) (j := i + 1) (v := a1) dL_law_307 hL (by omega) e1 rfl ?_
  refine ac_aload_a (q := 309) dL_law_308 rfl rfl ?_
  refine ac_iload_n (q := 310) dL_law_309 rfl rfl ?_
  refine ac_iconst (q := 311) dL_law_310 rfl ?_
  refine ac_iadd (q := 312) dL_law_311 rfl ?_
  refine ac_script (q := 313) (j := i + 2) (v := a2) dL_law_312 hL (by omega) e2 rfl ?_
  refine ac_cv (q := 316) (k_X7_number (x := 105) (d := d - 1) (by omega) hM w1 n1 n2) ml_L_43 hM.2.1 dL_law_313 rfl rfl rfl (by omega) (Nat.le_of_ble_eq_true rfl) hck hcn (fun m2 h2 => ?_)
  obtain ⟨r2, f2⟩ := h2
  have w2 := ac_RA_ff r1 (fun k a b => f2 k (Or.inl (by omega)))
  refine ac_same (tgt := 973) dL_law_316 rfl ?_
  exact next m2 ⟨_, _, _, _, _, _, _, w2, r2, o1, o2, o3, o4⟩

set_option maxHeartbeats 4000000 in
theorem L_go {G : ac_G} {Y : ac_Y} {nm : String} {d MC MS ck cn i : Nat} {P : ac_P} {m : ac_M} (hd : 31 ≤ d) (hck : ck ≤ MC) (hcn : cn ≤ MS) (hA : ac_isA Y 1) (hM : ac_isM Y 105) (hL : G.2.2.2.2.2.2.1 < 2147483648) (hxs : ∀ j, ac_in (G.2.2.2.2.2.2.2 j)) (hi : i + 5 ≤ G.2.2.2.2.2.2.1) (hv : ac_iv m) (next : ∀ m', ac_iv m' → ac_V G (RL, nm) cL_law 4 (some .boolean) d MC MS P ck cn Y m' 973 [(4, (G.2.2.2.2.2.1 : Int)), (2, ((1 : Nat) : Int)), (2, ((105 : Nat) : Int)), (0, (i : Int))] []) : ac_V G (RL, nm) cL_law 4 (some .boolean) d MC MS P ck cn Y m 321 [(4, (G.2.2.2.2.2.1 : Int)), (2, ((1 : Nat) : Int)), (2, ((105 : Nat) : Int)), (0, (i : Int))] [] := by
  obtain ⟨s, T, hs, s0, s1, obs, ch, rA, rM, o1, o2, o3, o4⟩ := hv
  obtain ⟨a1, e1⟩ : ∃ a, a = G.2.2.2.2.2.2.2 (i + 1) := ⟨_, rfl⟩
  have n1 : ac_in a1 := by rw [e1]; exact hxs _
  refine ac_aload_n (q := 322) dL_law_321 rfl rfl ?_
  refine ac_aload_a (q := 323) dL_law_322 rfl rfl ?_
  refine ac_iload_n (q := 324) dL_law_323 rfl rfl ?_
  refine ac_iconst (q := 325) dL_law_324 rfl ?_
  refine ac_iadd (q := 326) dL_law_325 rfl ?_
  refine ac_script (q := 327) (j := i + 1) (v := a1) dL_law_326 hL (by omega) e1 rfl ?_
  refine ac_cv (q := 330) (k_X6_go (x := 1) (d := d - 1) (by omega) hA rA o1 n1) ml_L_44 hA.1.1 dL_law_327 rfl rfl rfl (by omega) (Nat.le_of_ble_eq_true rfl) hck hcn (fun m1 h1 => ?_)
  obtain ⟨r1, f1⟩ := h1
  have w1 := ac_RM_ff rM (fun k a b => f1 k (Or.inr (by omega)))
  refine ac_aload_n (q := 331) dL_law_330 rfl rfl ?_
  refine ac_aload_a (q := 332) dL_law_331 rfl rfl ?_
  refine ac_iload_n (q := 333) dL_law_332 rfl rfl ?_
  refine ac_iconst (q := 334) dL_law_333 rfl ?_
  refine ac_iadd (q := 335) dL_law_334 rfl ?_
  refine ac_script (q := 336) (j := i + 1) (v := a1) dL_law_335 hL (by omega) e1 rfl ?_
  refine ac_cv (q := 339) (k_X7_go (x := 105) (d := d - 1) (by omega) hM w1 o1 n1) ml_L_47 hM.2.1 dL_law_336 rfl rfl rfl (by omega) (Nat.le_of_ble_eq_true rfl) hck hcn (fun m2 h2 => ?_)
  obtain ⟨r2, f2⟩ := h2
  have w2 := ac_RA_ff r1 (fun k a b => f2 k (Or.inl (by omega)))
  refine ac_same (tgt := 973) dL_law_339 rfl ?_
  exact next m2 ⟨_, _, _, _, _, _, _, w2, r2, (ac_go_ok o1 o2).1, (ac_go_ok o1 o2).2, o3, o4⟩

set_option maxHeartbeats 4000000 in
theorem L_paint {G : ac_G} {Y : ac_Y} {nm : String} {d MC MS ck cn i : Nat} {P : ac_P} {m : ac_M} (hd : 31 ≤ d) (hck : ck ≤ MC) (hcn : cn ≤ MS) (hA : ac_isA Y 1) (hM : ac_isM Y 105) (hL : G.2.2.2.2.2.2.1 < 2147483648) (hxs : ∀ j, ac_in (G.2.2.2.2.2.2.2 j)) (hi : i + 5 ≤ G.2.2.2.2.2.2.1) (hv : ac_iv m) (next : ∀ m', ac_iv m' → ac_V G (RL, nm) cL_law 4 (some .boolean) d MC MS P ck cn Y m' 973 [(4, (G.2.2.2.2.2.1 : Int)), (2, ((1 : Nat) : Int)), (2, ((105 : Nat) : Int)), (0, (i : Int))] []) : ac_V G (RL, nm) cL_law 4 (some .boolean) d MC MS P ck cn Y m 344 [(4, (G.2.2.2.2.2.1 : Int)), (2, ((1 : Nat) : Int)), (2, ((105 : Nat) : Int)), (0, (i : Int))] [] := by
  obtain ⟨s, T, hs, s0, s1, obs, ch, rA, rM, o1, o2, o3, o4⟩ := hv
  obtain ⟨a1, e1⟩ : ∃ a, a = G.2.2.2.2.2.2.2 (i + 1) := ⟨_, rfl⟩
  have n1 : ac_in a1 := by rw [e1]; exact hxs _
  obtain ⟨a2, e2⟩ : ∃ a, a = G.2.2.2.2.2.2.2 (i + 2) := ⟨_, rfl⟩
  have n2 : ac_in a2 := by rw [e2]; exact hxs _
  refine ac_aload_n (q := 345) dL_law_344 rfl rfl ?_
  refine ac_aload_a (q := 346) dL_law_345 rfl rfl ?_
  refine ac_iload_n (q := 347) dL_law_346 rfl rfl ?_
  refine ac_iconst (q := 348) dL_law_347 rfl ?_
  refine ac_iadd (q := 349) dL_law_348 rfl ?_
  refine ac_script (q := 350) (j := i + 1) (v := a1) dL_law_349 hL (by omega) e1 rfl ?_
  refine ac_aload_a (q := 351) dL_law_350 rfl rfl ?_
  refine ac_iload_n (q := 352) dL_law_351 rfl rfl ?_
  refine ac_iconst (q := 353) dL_law_352 rfl ?_
  refine ac_iadd (q := 354) dL_law_353 rfl ?_
  refine ac_script (q := 355) (j := i + 2) (v := a2) dL_law_354 hL (by omega) e2 rfl ?_
  refine ac_cv (q := 358) (k_X6_paint (x := 1) (d := d - 1) (by omega) hA rA o1 n1 n2) ml_L_48 hA.1.1 dL_law_355 rfl rfl rfl (by omega) (Nat.le_of_ble_eq_true rfl) hck hcn (fun m1 h1 => ?_)
  obtain ⟨r1, f1⟩ := h1
  have w1 := ac_RM_ff rM (fun k a b => f1 k (Or.inr (by omega)))
  refine ac_aload_n (q := 359) dL_law_358 rfl rfl ?_
  refine ac_aload_a (q := 360) dL_law_359 rfl rfl ?_
  refine ac_iload_n (q := 361) dL_law_360 rfl rfl ?_
  refine ac_iconst (q := 362) dL_law_361 rfl ?_
  refine ac_iadd (q := 363) dL_law_362 rfl ?_
  refine ac_script (q := 364) (j := i + 1) (v := a1) dL_law_363 hL (by omega) e1 rfl ?_
  refine ac_aload_a (q := 365) dL_law_364 rfl rfl ?_
  refine ac_iload_n (q := 366) dL_law_365 rfl rfl ?_
  refine ac_iconst (q := 367) dL_law_366 rfl ?_
  refine ac_iadd (q := 368) dL_law_367 rfl ?_
  refine ac_script (q := 369) (j := i + 2) (v := a2) dL_law_368 hL (by omega) e2 rfl ?_
  refine ac_cv (q := 372) (k_X7_paint (x := 105) (d := d - 1) (by omega) hM w1 n1 n2) ml_L_51 hM.2.1 dL_law_369 rfl rfl rfl (by omega) (Nat.le_of_ble_eq_true rfl) hck hcn (fun m2 h2 => ?_)
  obtain ⟨r2, f2⟩ := h2
  have w2 := ac_RA_ff r1 (fun k a b => f2 k (Or.inl (by omega)))
  refine ac_same (tgt := 973) dL_law_372 rfl ?_
  exact next m2 ⟨_, _, _, _, _, _, _, w2, r2, ac_ite_ok (fun h => ac_paint_ok o1 h) o1, ac_ite_oks (fun _ => ac_push_ok o1 o2) o2, o3, o4⟩

set_option maxHeartbeats 4000000 in
theorem L_reach {G : ac_G} {Y : ac_Y} {nm : String} {d MC MS ck cn i : Nat} {P : ac_P} {m : ac_M} (hd : 31 ≤ d) (hck : ck ≤ MC) (hcn : cn ≤ MS) (hA : ac_isA Y 1) (hM : ac_isM Y 105) (hL : G.2.2.2.2.2.2.1 < 2147483648) (hxs : ∀ j, ac_in (G.2.2.2.2.2.2.2 j)) (hi : i + 5 ≤ G.2.2.2.2.2.2.1) (hv : ac_iv m) (next : ∀ m', ac_iv m' → ac_V G (RL, nm) cL_law 4 (some .boolean) d MC MS P ck cn Y m' 973 [(4, (G.2.2.2.2.2.1 : Int)), (2, ((1 : Nat) : Int)), (2, ((105 : Nat) : Int)), (0, (i : Int))] []) : ac_V G (RL, nm) cL_law 4 (some .boolean) d MC MS P ck cn Y m 377 [(4, (G.2.2.2.2.2.1 : Int)), (2, ((1 : Nat) : Int)), (2, ((105 : Nat) : Int)), (0, (i : Int))] [] := by
  obtain ⟨s, T, hs, s0, s1, obs, ch, rA, rM, o1, o2, o3, o4⟩ := hv
  obtain ⟨a1, e1⟩ : ∃ a, a = G.2.2.2.2.2.2.2 (i + 1) := ⟨_, rfl⟩
  have n1 : ac_in a1 := by rw [e1]; exact hxs _
  refine ac_aload_n (q := 378) dL_law_377 rfl rfl ?_
  refine ac_aload_a (q := 379) dL_law_378 rfl rfl ?_
  refine ac_iload_n (q := 380) dL_law_379 rfl rfl ?_
  refine ac_iconst (q := 381) dL_law_380 rfl ?_
  refine ac_iadd (q := 382) dL_law_381 rfl ?_
  refine ac_script (q := 383) (j := i + 1) (v := a1) dL_law_382 hL (by omega) e1 rfl ?_
  refine ac_cv (q := 386) (k_X6_reach (x := 1) (d := d - 1) (by omega) hA rA n1) ml_L_52 hA.1.1 dL_law_383 rfl rfl rfl (by omega) (Nat.le_of_ble_eq_true rfl) hck hcn (fun m1 h1 => ?_)
  obtain ⟨r1, f1⟩ := h1
  have w1 := ac_RM_ff rM (fun k a b => f1 k (Or.inr (by omega)))
  refine ac_aload_n (q := 387) dL_law_386 rfl rfl ?_
  refine ac_aload_a (q := 388) dL_law_387 rfl rfl ?_
  refine ac_iload_n (q := 389) dL_law_388 rfl rfl ?_
  refine ac_iconst (q := 390) dL_law_389 rfl ?_
  refine ac_iadd (q := 391) dL_law_390 rfl ?_
  refine ac_script (q := 392) (j := i + 1) (v := a1) dL_law_391 hL (by omega) e1 rfl ?_
  refine ac_cv (q := 395) (k_X7_reach (x := 105) (d := d - 1) (by omega) hM w1 n1) ml_L_55 hM.2.1 dL_law_392 rfl rfl rfl (by omega) (Nat.le_of_ble_eq_true rfl) hck hcn (fun m2 h2 => ?_)
  obtain ⟨r2, f2⟩ := h2
  have w2 := ac_RA_ff r1 (fun k a b => f2 k (Or.inl (by omega)))
  refine ac_same (tgt := 973) dL_law_395 rfl ?_
  have kk := w2.2.1.1
  refine next m2 ⟨_, _, _, _, _, _, _, w2, r2, ?_, ac_ite_oks (fun _ => ac_push_ok o1 o2) o2, o3, o4⟩
  by_cases hc : 1 ≤ a1 ∧ a1 ≤ 10
  · rw [if_pos hc] at kk ⊢; exact ac_stl_ok2 kk
  · rw [if_neg hc]; exact o1

set_option maxHeartbeats 4000000 in
theorem L_add {G : ac_G} {Y : ac_Y} {nm : String} {d MC MS ck cn i : Nat} {P : ac_P} {m : ac_M} (hd : 31 ≤ d) (hck : ck ≤ MC) (hcn : cn ≤ MS) (hA : ac_isA Y 1) (hM : ac_isM Y 105) (hL : G.2.2.2.2.2.2.1 < 2147483648) (hxs : ∀ j, ac_in (G.2.2.2.2.2.2.2 j)) (hi : i + 5 ≤ G.2.2.2.2.2.2.1) (hv : ac_iv m) (next : ∀ m', ac_iv m' → ac_V G (RL, nm) cL_law 4 (some .boolean) d MC MS P ck cn Y m' 973 [(4, (G.2.2.2.2.2.1 : Int)), (2, ((1 : Nat) : Int)), (2, ((105 : Nat) : Int)), (0, (i : Int))] []) : ac_V G (RL, nm) cL_law 4 (some .boolean) d MC MS P ck cn Y m 400 [(4, (G.2.2.2.2.2.1 : Int)), (2, ((1 : Nat) : Int)), (2, ((105 : Nat) : Int)), (0, (i : Int))] [] := by
  obtain ⟨s, T, hs, s0, s1, obs, ch, rA, rM, o1, o2, o3, o4⟩ := hv
  obtain ⟨a1, e1⟩ : ∃ a, a = G.2.2.2.2.2.2.2 (i + 1) := ⟨_, rfl⟩
  have n1 : ac_in a1 := by rw [e1]; exact hxs _
  obtain ⟨a2, e2⟩ : ∃ a, a = G.2.2.2.2.2.2.2 (i + 2) := ⟨_, rfl⟩
  have n2 : ac_in a2 := by rw [e2]; exact hxs _
  obtain ⟨a3, e3⟩ : ∃ a, a = G.2.2.2.2.2.2.2 (i + 3) := ⟨_, rfl⟩
  have n3 : ac_in a3 := by rw [e3]; exact hxs _
  obtain ⟨a4, e4⟩ : ∃ a, a = G.2.2.2.2.2.2.2 (i + 4) := ⟨_, rfl⟩
  have n4 : ac_in a4 := by rw [e4]; exact hxs _
  refine ac_aload_n (q := 401) dL_law_400 rfl rfl ?_
  refine ac_aload_a (q := 402) dL_law_401 rfl rfl ?_
  refine ac_iload_n (q := 403) dL_law_402 rfl rfl ?_
  refine ac_iconst (q := 404) dL_law_403 rfl ?_
  refine ac_iadd (q := 405) dL_law_404 rfl ?_
  refine ac_script (q := 406) (j := i + 1) (v := a1) dL_law_405 hL (by omega) e1 rfl ?_
  refine ac_aload_a (q := 407) dL_law_406 rfl rfl ?_
  refine ac_iload_n (q := 408) dL_law_407 rfl rfl ?_
  refine ac_iconst (q := 409) dL_law_408 rfl ?_
  refine ac_iadd (q := 410) dL_law_409 rfl ?_
  refine ac_script (q := 411) (j := i + 2) (v := a2) dL_law_410 hL (by omega) e2 rfl ?_
  refine ac_aload_a (q := 412) dL_law_411 rfl rfl ?_
  refine ac_iload_n (q := 413) dL_law_412 rfl rfl ?_
  refine ac_iconst (q := 414) dL_law_413 rfl ?_
  refine ac_iadd (q := 415) dL_law_414 rfl ?_
  refine ac_script (q := 416) (j := i + 3) (v := a3) dL_law_415 hL (by omega) e3 rfl ?_
  refine ac_aload_a (q := 417) dL_law_416 rfl rfl ?_
  refine ac_iload_n (q := 418) dL_law_417 rfl rfl ?_
  refine ac_iconst (q := 419) dL_law_418 rfl ?_
  refine ac_iadd (q := 420) dL_law_419 rfl ?_
  refine ac_script (q := 421) (j := i + 4) (v := a4) dL_law_420 hL (by omega) e4 rfl ?_
  refine ac_cv (q := 424) (k_X6_add (x := 1) (d := d - 1) (by omega) hA rA n1 n2 n3 n4) ml_L_56 hA.1.1 dL_law_421 rfl rfl rfl (by omega) (Nat.le_of_ble_eq_true rfl) hck hcn (fun m1 h1 => ?_)
  obtain ⟨r1, f1⟩ := h1
  have w1 := ac_RM_ff rM (fun k a b => f1 k (Or.inr (by omega)))
  refine ac_aload_n (q := 425) dL_law_424 rfl rfl ?_
  refine ac_aload_a (q := 426) dL_law_425 rfl rfl ?_
  refine ac_iload_n (q := 427) dL_law_426 rfl rfl ?_
  refine ac_iconst (q := 428) dL_law_427 rfl ?_
  refine ac_iadd (q := 429) dL_law_428 rfl ?_
  refine ac_script (q := 430) (j := i + 1) (v := a1) dL_law_429 hL (by omega) e1 rfl ?_
  refine ac_aload_a (q := 431) dL_law_430 rfl rfl ?_
  refine ac_iload_n (q := 432) dL_law_431 rfl rfl ?_
  refine ac_iconst (q := 433) dL_law_432 rfl ?_
  refine ac_iadd (q := 434) dL_law_433 rfl ?_
  refine ac_script (q := 435) (j := i + 2) (v := a2) dL_law_434 hL (by omega) e2 rfl ?_
  refine ac_aload_a (q := 436) dL_law_435 rfl rfl ?_
  refine ac_iload_n (q := 437) dL_law_436 rfl rfl ?_
  refine ac_iconst (q := 438) dL_law_437 rfl ?_
  refine ac_iadd (q := 439) dL_law_438 rfl ?_
  refine ac_script (q := 440) (j := i + 3) (v := a3) dL_law_439 hL (by omega) e3 rfl ?_
  refine ac_aload_a (q := 441) dL_law_440 rfl rfl ?_
  refine ac_iload_n (q := 442) dL_law_441 rfl rfl ?_
  refine ac_iconst (q := 443) dL_law_442 rfl ?_
  refine ac_iadd (q := 444) dL_law_443 rfl ?_
  refine ac_script (q := 445) (j := i + 4) (v := a4) dL_law_444 hL (by omega) e4 rfl ?_
  refine ac_cv (q := 448) (k_X7_add (x := 105) (d := d - 1) (by omega) hM w1 n1 n2 n3 n4) ml_L_60 hM.2.1 dL_law_445 rfl rfl rfl (by omega) (Nat.le_of_ble_eq_true rfl) hck hcn (fun m2 h2 => ?_)
  obtain ⟨r2, f2⟩ := h2
  have w2 := ac_RA_ff r1 (fun k a b => f2 k (Or.inl (by omega)))
  refine ac_same (tgt := 973) dL_law_448 rfl ?_
  have kk := w2.2.1.1
  refine next m2 ⟨_, _, _, _, _, _, _, w2, r2, ?_, ac_ite_oks (fun _ => o2) (ac_ite_oks (fun _ => o2) (ac_push_ok o1 o2)), o3, o4⟩
  by_cases hc : ¬ (((-4 ≤ a1 ∧ a1 ≤ 4) ∧ a1 ≠ 0) ∧ ((-4 ≤ a2 ∧ a2 ≤ 4) ∧ a2 ≠ 0) ∧ ((-4 ≤ a3 ∧ a3 ≤ 4) ∧ a3 ≠ 0) ∧ (0 ≤ a4 ∧ a4 ≤ 1))
  · rw [if_pos hc]; exact o1
  · rw [if_neg hc] at kk ⊢
    by_cases h4 : 4 ≤ T.2.2.1.length
    · rw [if_pos h4]; exact o1
    · rw [if_neg h4] at kk ⊢; exact ac_stl_ok2 kk

set_option maxHeartbeats 4000000 in
theorem L_drop {G : ac_G} {Y : ac_Y} {nm : String} {d MC MS ck cn i : Nat} {P : ac_P} {m : ac_M} (hd : 31 ≤ d) (hck : ck ≤ MC) (hcn : cn ≤ MS) (hA : ac_isA Y 1) (hM : ac_isM Y 105) (hL : G.2.2.2.2.2.2.1 < 2147483648) (hxs : ∀ j, ac_in (G.2.2.2.2.2.2.2 j)) (hi : i + 5 ≤ G.2.2.2.2.2.2.1) (hv : ac_iv m) (next : ∀ m', ac_iv m' → ac_V G (RL, nm) cL_law 4 (some .boolean) d MC MS P ck cn Y m' 973 [(4, (G.2.2.2.2.2.1 : Int)), (2, ((1 : Nat) : Int)), (2, ((105 : Nat) : Int)), (0, (i : Int))] []) : ac_V G (RL, nm) cL_law 4 (some .boolean) d MC MS P ck cn Y m 453 [(4, (G.2.2.2.2.2.1 : Int)), (2, ((1 : Nat) : Int)), (2, ((105 : Nat) : Int)), (0, (i : Int))] [] := by
  obtain ⟨s, T, hs, s0, s1, obs, ch, rA, rM, o1, o2, o3, o4⟩ := hv
  refine ac_aload_n (q := 454) dL_law_453 rfl rfl ?_
  refine ac_cv (q := 457) (k_X6_drop (x := 1) (d := d - 1) (by omega) hA rA ) ml_L_61 hA.1.1 dL_law_454 rfl rfl rfl (by omega) (Nat.le_of_ble_eq_true rfl) hck hcn (fun m1 h1 => ?_)
  obtain ⟨r1, f1⟩ := h1
  have w1 := ac_RM_ff rM (fun k a b => f1 k (Or.inr (by omega)))
  refine ac_aload_n (q := 458) dL_law_457 rfl rfl ?_
  refine ac_cv (q := 461) (k_X7_drop (x := 105) (d := d - 1) (by omega) hM w1 ) ml_L_64 hM.2.1 dL_law_458 rfl rfl rfl (by omega) (Nat.le_of_ble_eq_true rfl) hck hcn (fun m2 h2 => ?_)
  obtain ⟨r2, f2⟩ := h2
  have w2 := ac_RA_ff r1 (fun k a b => f2 k (Or.inl (by omega)))
  refine ac_same (tgt := 973) dL_law_461 rfl ?_
  have kk := w2.2.1.1
  refine next m2 ⟨_, _, _, _, _, _, _, w2, r2, ?_, ac_ite_oks (fun _ => o2) (ac_push_ok o1 o2), o3, o4⟩
  by_cases hc : T.2.2.1.length = 0
  · rw [if_pos hc]; exact o1
  · rw [if_neg hc] at kk ⊢; exact ac_stl_ok2 kk

set_option maxHeartbeats 4000000 in
theorem L_pin {G : ac_G} {Y : ac_Y} {nm : String} {d MC MS ck cn i : Nat} {P : ac_P} {m : ac_M} (hd : 31 ≤ d) (hck : ck ≤ MC) (hcn : cn ≤ MS) (hA : ac_isA Y 1) (hM : ac_isM Y 105) (hL : G.2.2.2.2.2.2.1 < 2147483648) (hxs : ∀ j, ac_in (G.2.2.2.2.2.2.2 j)) (hi : i + 5 ≤ G.2.2.2.2.2.2.1) (hv : ac_iv m) (next : ∀ m', ac_iv m' → ac_V G (RL, nm) cL_law 4 (some .boolean) d MC MS P ck cn Y m' 973 [(4, (G.2.2.2.2.2.1 : Int)), (2, ((1 : Nat) : Int)), (2, ((105 : Nat) : Int)), (0, (i : Int))] []) : ac_V G (RL, nm) cL_law 4 (some .boolean) d MC MS P ck cn Y m 466 [(4, (G.2.2.2.2.2.1 : Int)), (2, ((1 : Nat) : Int)), (2, ((105 : Nat) : Int)), (0, (i : Int))] [] := by
  obtain ⟨s, T, hs, s0, s1, obs, ch, rA, rM, o1, o2, o3, o4⟩ := hv
  obtain ⟨a1, e1⟩ : ∃ a, a = G.2.2.2.2.2.2.2 (i + 1) := ⟨_, rfl⟩
  have n1 : ac_in a1 := by rw [e1]; exact hxs _
  obtain ⟨a2, e2⟩ : ∃ a, a = G.2.2.2.2.2.2.2 (i + 2) := ⟨_, rfl⟩
  have n2 : ac_in a2 := by rw [e2]; exact hxs _
  refine ac_aload_n (q := 467) dL_law_466 rfl rfl ?_
  refine ac_aload_a (q := 468) dL_law_467 rfl rfl ?_
  refine ac_iload_n (q := 469) dL_law_468 rfl rfl ?_
  refine ac_iconst (q := 470) dL_law_469 rfl ?_
  refine ac_iadd (q := 471) dL_law_470 rfl ?_
  refine ac_script (q := 472) (j := i + 1) (v := a1) dL_law_471 hL (by omega) e1 rfl ?_
  refine ac_aload_a (q := 473) dL_law_472 rfl rfl ?_
  refine ac_iload_n (q := 474) dL_law_473 rfl rfl ?_
  refine ac_iconst (q := 475) dL_law_474 rfl ?_
  refine ac_iadd (q := 476) dL_law_475 rfl ?_
  refine ac_script (q := 477) (j := i + 2) (v := a2) dL_law_476 hL (by omega) e2 rfl ?_
  refine ac_cv (q := 480) (k_X6_pin (x := 1) (d := d - 1) (by omega) hA rA n1 n2) ml_L_65 hA.1.1 dL_law_477 rfl rfl rfl (by omega) (Nat.le_of_ble_eq_true rfl) hck hcn (fun m1 h1 => ?_)
  obtain ⟨r1, f1⟩ := h1
  have w1 := ac_RM_ff rM (fun k a b => f1 k (Or.inr (by omega)))
  refine ac_aload_n (q := 481) dL_law_480 rfl rfl ?_
  refine ac_aload_a (q := 482) dL_law_481 rfl rfl ?_
  refine ac_iload_n (q := 483) dL_law_482 rfl rfl ?_
  refine ac_iconst (q := 484) dL_law_483 rfl ?_
  refine ac_iadd (q := 485) dL_law_484 rfl ?_
  refine ac_script (q := 486) (j := i + 1) (v := a1) dL_law_485 hL (by omega) e1 rfl ?_
  refine ac_aload_a (q := 487) dL_law_486 rfl rfl ?_
  refine ac_iload_n (q := 488) dL_law_487 rfl rfl ?_
  refine ac_iconst (q := 489) dL_law_488 rfl ?_
  refine ac_iadd (q := 490) dL_law_489 rfl ?_
  refine ac_script (q := 491) (j := i + 2) (v := a2) dL_law_490 hL (by omega) e2 rfl ?_
  refine ac_cv (q := 494) (k_X7_pin (x := 105) (d := d - 1) (by omega) hM w1 n1 n2) ml_L_68 hM.2.1 dL_law_491 rfl rfl rfl (by omega) (Nat.le_of_ble_eq_true rfl) hck hcn (fun m2 h2 => ?_)
  obtain ⟨r2, f2⟩ := h2
  have w2 := ac_RA_ff r1 (fun k a b => f2 k (Or.inl (by omega)))
  refine ac_same (tgt := 973) dL_law_494 rfl ?_
  have kk := w2.2.1.1
  refine next m2 ⟨_, _, _, _, _, _, _, w2, r2, ?_, ac_ite_oks (fun _ => ac_push_ok o1 o2) o2, o3, o4⟩
  by_cases hc : ac_rfn T a1 a2 = 0
  · rw [if_pos hc] at kk ⊢; exact ac_stl_ok2 kk
  · rw [if_neg hc]; exact o1

set_option maxHeartbeats 4000000 in
theorem L_undo {G : ac_G} {Y : ac_Y} {nm : String} {d MC MS ck cn i : Nat} {P : ac_P} {m : ac_M} (hd : 31 ≤ d) (hck : ck ≤ MC) (hcn : cn ≤ MS) (hA : ac_isA Y 1) (hM : ac_isM Y 105) (hL : G.2.2.2.2.2.2.1 < 2147483648) (hxs : ∀ j, ac_in (G.2.2.2.2.2.2.2 j)) (hi : i + 5 ≤ G.2.2.2.2.2.2.1) (hv : ac_iv m) (next : ∀ m', ac_iv m' → ac_V G (RL, nm) cL_law 4 (some .boolean) d MC MS P ck cn Y m' 973 [(4, (G.2.2.2.2.2.1 : Int)), (2, ((1 : Nat) : Int)), (2, ((105 : Nat) : Int)), (0, (i : Int))] []) : ac_V G (RL, nm) cL_law 4 (some .boolean) d MC MS P ck cn Y m 499 [(4, (G.2.2.2.2.2.1 : Int)), (2, ((1 : Nat) : Int)), (2, ((105 : Nat) : Int)), (0, (i : Int))] [] := by
  obtain ⟨s, T, hs, s0, s1, obs, ch, rA, rM, o1, o2, o3, o4⟩ := hv
  cases hs with
  | nil =>
    refine ac_aload_n (q := 500) dL_law_499 rfl rfl ?_
    refine ac_cv (q := 503) (k_X6_undo0 (T1 := T) (hs := []) (x := 1) (d := d - 1) (by omega) hA rA ) ml_L_69 hA.1.1 dL_law_500 rfl rfl rfl (by omega) (Nat.le_of_ble_eq_true rfl) hck hcn (fun m1 h1 => ?_)
    obtain ⟨r1, f1⟩ := h1
    have w1 := ac_RM_ff rM (fun k a b => f1 k (Or.inr (by omega)))
    refine ac_aload_n (q := 504) dL_law_503 rfl rfl ?_
    refine ac_cv (q := 507) (k_X7_undo0 (x := 105) (d := d - 1) (by omega) hM w1 ) ml_L_72 hM.2.1 dL_law_504 rfl rfl rfl (by omega) (Nat.le_of_ble_eq_true rfl) hck hcn (fun m2 h2 => ?_)
    obtain ⟨r2, f2⟩ := h2
    have w2 := ac_RA_ff r1 (fun k a b => f2 k (Or.inl (by omega)))
    refine ac_same (tgt := 973) dL_law_507 rfl ?_
    exact next m2 ⟨_, _, _, _, _, _, _, w2, r2, o1, o2, o3, o4⟩
  | cons T1 hs =>
    refine ac_aload_n (q := 500) dL_law_499 rfl rfl ?_
    refine ac_cv (q := 503) (k_X6_undo1 (x := 1) (d := d - 1) (by omega) hA rA ) ml_L_69 hA.1.1 dL_law_500 rfl rfl rfl (by omega) (Nat.le_of_ble_eq_true rfl) hck hcn (fun m1 h1 => ?_)
    obtain ⟨r1, f1⟩ := h1
    have w1 := ac_RM_ff rM (fun k a b => f1 k (Or.inr (by omega)))
    refine ac_aload_n (q := 504) dL_law_503 rfl rfl ?_
    refine ac_cv (q := 507) (k_X7_undo1 (x := 105) (d := d - 1) (by omega) hM w1 ) ml_L_72 hM.2.1 dL_law_504 rfl rfl rfl (by omega) (Nat.le_of_ble_eq_true rfl) hck hcn (fun m2 h2 => ?_)
    obtain ⟨r2, f2⟩ := h2
    have w2 := ac_RA_ff r1 (fun k a b => f2 k (Or.inl (by omega)))
    refine ac_same (tgt := 973) dL_law_507 rfl ?_
    exact next m2 ⟨_, _, _, _, _, _, _, w2, r2, o2 T1 (List.mem_cons_self ..), fun T2 h2 => o2 T2 (List.mem_cons_of_mem _ h2), o3, o4⟩

set_option maxHeartbeats 4000000 in
theorem L_ask {G : ac_G} {Y : ac_Y} {nm : String} {d MC MS ck cn i : Nat} {P : ac_P} {m : ac_M} (hd : 31 ≤ d) (hck : ck ≤ MC) (hcn : cn ≤ MS) (hA : ac_isA Y 1) (hM : ac_isM Y 105) (hL : G.2.2.2.2.2.2.1 < 2147483648) (hxs : ∀ j, ac_in (G.2.2.2.2.2.2.2 j)) (hi : i + 5 ≤ G.2.2.2.2.2.2.1) (hv : ac_iv m) (next : ∀ m', ac_iv m' → ac_V G (RL, nm) cL_law 4 (some .boolean) d MC MS P ck cn Y m' 973 [(4, (G.2.2.2.2.2.1 : Int)), (2, ((1 : Nat) : Int)), (2, ((105 : Nat) : Int)), (0, (i : Int))] []) : ac_V G (RL, nm) cL_law 4 (some .boolean) d MC MS P ck cn Y m 512 [(4, (G.2.2.2.2.2.1 : Int)), (2, ((1 : Nat) : Int)), (2, ((105 : Nat) : Int)), (0, (i : Int))] [] := by
  obtain ⟨s, T, hs, s0, s1, obs, ch, rA, rM, o1, o2, o3, o4⟩ := hv
  obtain ⟨a1, e1⟩ : ∃ a, a = G.2.2.2.2.2.2.2 (i + 1) := ⟨_, rfl⟩
  have n1 : ac_in a1 := by rw [e1]; exact hxs _
  refine ac_aload_n (q := 513) dL_law_512 rfl rfl ?_
  refine ac_aload_a (q := 514) dL_law_513 rfl rfl ?_
  refine ac_iload_n (q := 515) dL_law_514 rfl rfl ?_
  refine ac_iconst (q := 516) dL_law_515 rfl ?_
  refine ac_iadd (q := 517) dL_law_516 rfl ?_
  refine ac_script (q := 518) (j := i + 1) (v := a1) dL_law_517 hL (by omega) e1 rfl ?_
  refine ac_cv (q := 521) (k_X6_ask (x := 1) (d := d - 1) (by omega) hA rA o1 n1) ml_L_73 hA.1.1 dL_law_518 rfl rfl rfl (by omega) (Nat.le_of_ble_eq_true rfl) hck hcn (fun m1 h1 => ?_)
  obtain ⟨r1, f1⟩ := h1
  have w1 := ac_RM_ff rM (fun k a b => f1 k (Or.inr (by omega)))
  refine ac_aload_n (q := 522) dL_law_521 rfl rfl ?_
  refine ac_aload_a (q := 523) dL_law_522 rfl rfl ?_
  refine ac_iload_n (q := 524) dL_law_523 rfl rfl ?_
  refine ac_iconst (q := 525) dL_law_524 rfl ?_
  refine ac_iadd (q := 526) dL_law_525 rfl ?_
  refine ac_script (q := 527) (j := i + 1) (v := a1) dL_law_526 hL (by omega) e1 rfl ?_
  refine ac_cv (q := 530) (k_X7_ask (x := 105) (d := d - 1) (by omega) hM w1 n1) ml_L_76 hM.2.1 dL_law_527 rfl rfl rfl (by omega) (Nat.le_of_ble_eq_true rfl) hck hcn (fun m2 h2 => ?_)
  obtain ⟨r2, f2⟩ := h2
  have w2 := ac_RA_ff r1 (fun k a b => f2 k (Or.inl (by omega)))
  refine ac_same (tgt := 973) dL_law_530 rfl ?_
  exact next m2 ⟨_, _, _, _, _, _, _, w2, r2, o1, o2, o3, o4⟩

set_option maxHeartbeats 4000000 in
theorem L_on {G : ac_G} {Y : ac_Y} {nm : String} {d MC MS ck cn i : Nat} {P : ac_P} {m : ac_M} (hd : 31 ≤ d) (hck : ck ≤ MC) (hcn : cn ≤ MS) (hA : ac_isA Y 1) (hM : ac_isM Y 105) (hL : G.2.2.2.2.2.2.1 < 2147483648) (hxs : ∀ j, ac_in (G.2.2.2.2.2.2.2 j)) (hi : i + 5 ≤ G.2.2.2.2.2.2.1) (hv : ac_iv m) (next : ∀ m', ac_iv m' → ac_V G (RL, nm) cL_law 4 (some .boolean) d MC MS P ck cn Y m' 973 [(4, (G.2.2.2.2.2.1 : Int)), (2, ((1 : Nat) : Int)), (2, ((105 : Nat) : Int)), (0, (i : Int))] []) : ac_V G (RL, nm) cL_law 4 (some .boolean) d MC MS P ck cn Y m 535 [(4, (G.2.2.2.2.2.1 : Int)), (2, ((1 : Nat) : Int)), (2, ((105 : Nat) : Int)), (0, (i : Int))] [] := by
  obtain ⟨s, T, hs, s0, s1, obs, ch, rA, rM, o1, o2, o3, o4⟩ := hv
  refine ac_aload_n (q := 536) dL_law_535 rfl rfl ?_
  refine ac_cv (q := 539) (k_X6_on (x := 1) (d := d - 1) (by omega) hA rA ) ml_L_77 hA.1.1 dL_law_536 rfl rfl rfl (by omega) (Nat.le_of_ble_eq_true rfl) hck hcn (fun m1 h1 => ?_)
  obtain ⟨r1, f1⟩ := h1
  have w1 := ac_RM_ff rM (fun k a b => f1 k (Or.inr (by omega)))
  refine ac_aload_n (q := 540) dL_law_539 rfl rfl ?_
  refine ac_cv (q := 543) (k_X7_on (x := 105) (d := d - 1) (by omega) hM w1 o1 ) ml_L_80 hM.2.1 dL_law_540 rfl rfl rfl (by omega) (Nat.le_of_ble_eq_true rfl) hck hcn (fun m2 h2 => ?_)
  obtain ⟨r2, f2⟩ := h2
  have w2 := ac_RA_ff r1 (fun k a b => f2 k (Or.inl (by omega)))
  refine ac_same (tgt := 973) dL_law_543 rfl ?_
  exact next m2 ⟨_, _, _, _, _, _, _, w2, r2, o1, o2, o3, o4⟩

set_option maxHeartbeats 4000000 in
theorem L_judge {G : ac_G} {Y : ac_Y} {nm : String} {d MC MS ck cn i : Nat} {P : ac_P} {m : ac_M} (hd : 31 ≤ d) (hck : ck ≤ MC) (hcn : cn ≤ MS) (hA : ac_isA Y 1) (hM : ac_isM Y 105) (hL : G.2.2.2.2.2.2.1 < 2147483648) (hxs : ∀ j, ac_in (G.2.2.2.2.2.2.2 j)) (hi : i + 5 ≤ G.2.2.2.2.2.2.1) (hv : ac_iv m) (next : ∀ m', ac_iv m' → ac_V G (RL, nm) cL_law 4 (some .boolean) d MC MS P ck cn Y m' 973 [(4, (G.2.2.2.2.2.1 : Int)), (2, ((1 : Nat) : Int)), (2, ((105 : Nat) : Int)), (0, (i : Int))] []) : ac_V G (RL, nm) cL_law 4 (some .boolean) d MC MS P ck cn Y m 548 [(4, (G.2.2.2.2.2.1 : Int)), (2, ((1 : Nat) : Int)), (2, ((105 : Nat) : Int)), (0, (i : Int))] [] := by
  obtain ⟨s, T, hs, s0, s1, obs, ch, rA, rM, o1, o2, o3, o4⟩ := hv
  obtain ⟨a1, e1⟩ : ∃ a, a = G.2.2.2.2.2.2.2 (i + 1) := ⟨_, rfl⟩
  have n1 : ac_in a1 := by rw [e1]; exact hxs _
  obtain ⟨a2, e2⟩ : ∃ a, a = G.2.2.2.2.2.2.2 (i + 2) := ⟨_, rfl⟩
  have n2 : ac_in a2 := by rw [e2]; exact hxs _
  obtain ⟨a3, e3⟩ : ∃ a, a = G.2.2.2.2.2.2.2 (i + 3) := ⟨_, rfl⟩
  have n3 : ac_in a3 := by rw [e3]; exact hxs _
  refine ac_aload_n (q := 549) dL_law_548 rfl rfl ?_
  refine ac_aload_a (q := 550) dL_law_549 rfl rfl ?_
  refine ac_iload_n (q := 551) dL_law_550 rfl rfl ?_
  refine ac_iconst (q := 552) dL_law_551 rfl ?_
  refine ac_iadd (q := 553) dL_law_552 rfl ?_
  refine ac_script (q := 554) (j := i + 1) (v := a1) dL_law_553 hL (by omega) e1 rfl ?_
  refine ac_aload_a (q := 555) dL_law_554 rfl rfl ?_
  refine ac_iload_n (q := 556) dL_law_555 rfl rfl ?_
  refine ac_iconst (q := 557) dL_law_556 rfl ?_
  refine ac_iadd (q := 558) dL_law_557 rfl ?_
  refine ac_script (q := 559) (j := i + 2) (v := a2) dL_law_558 hL (by omega) e2 rfl ?_
  refine ac_i2l (q := 560) dL_law_559 rfl (by assumption) ?_
  refine ac_bipush (q := 562) dL_law_560 rfl (by decide) ?_
  refine ac_lshl32 (q := 563) dL_law_562 rfl ?_
  refine ac_aload_a (q := 564) dL_law_563 rfl rfl ?_
  refine ac_iload_n (q := 565) dL_law_564 rfl rfl ?_
  refine ac_iconst (q := 566) dL_law_565 rfl ?_
  refine ac_iadd (q := 567) dL_law_566 rfl ?_
  refine ac_script (q := 568) (j := i + 3) (v := a3) dL_law_567 hL (by omega) e3 rfl ?_
  refine ac_i2l (q := 569) dL_law_568 rfl (by assumption) ?_
  refine ac_ldc2_w (q := 572) (v := 4294967295) dL_law_569 rfl ct_L_81 ?_
  refine ac_land (q := 573) dL_law_572 rfl ?_
  refine ac_lor (q := 574) dL_law_573 rfl ?_
  refine ac_cv (q := 577) (k_X6_judge (x := 1) (d := d - 1) (by omega) hA rA o1 n1 (ac_il_t _)) ml_L_83 hA.1.1 dL_law_574 rfl rfl rfl (by omega) (Nat.le_of_ble_eq_true rfl) hck hcn (fun m1 h1 => ?_)
  obtain ⟨r1, f1⟩ := h1
  have w1 := ac_RM_ff rM (fun k a b => f1 k (Or.inr (by omega)))
  refine ac_aload_n (q := 578) dL_law_577 rfl rfl ?_
  refine ac_aload_a (q := 579) dL_law_578 rfl rfl ?_
  refine ac_iload_n (q := 580) dL_law_579 rfl rfl ?_
  refine ac_iconst (q := 581) dL_law_580 rfl ?_
  refine ac_iadd (q := 582) dL_law_581 rfl ?_
  refine ac_script (q := 583) (j := i + 1) (v := a1) dL_law_582 hL (by omega) e1 rfl ?_
  refine ac_aload_a (q := 584) dL_law_583 rfl rfl ?_
  refine ac_iload_n (q := 585) dL_law_584 rfl rfl ?_
  refine ac_iconst (q := 586) dL_law_585 rfl ?_
  refine ac_iadd (q := 587) dL_law_586 rfl ?_
  refine ac_script (q := 588) (j := i + 2) (v := a2) dL_law_587 hL (by omega) e2 rfl ?_
  refine ac_i2l (q := 589) dL_law_588 rfl (by assumption) ?_
  refine ac_bipush (q := 591) dL_law_589 rfl (by decide) ?_
  refine ac_lshl32 (q := 592) dL_law_591 rfl ?_
  refine ac_aload_a (q := 593) dL_law_592 rfl rfl ?_
  refine ac_iload_n (q := 594) dL_law_593 rfl rfl ?_
  refine ac_iconst (q := 595) dL_law_594 rfl ?_
  refine ac_iadd (q := 596) dL_law_595 rfl ?_
  refine ac_script (q := 597) (j := i + 3) (v := a3) dL_law_596 hL (by omega) e3 rfl ?_
  refine ac_i2l (q := 598) dL_law_597 rfl (by assumption) ?_
  refine ac_ldc2_w (q := 601) (v := 4294967295) dL_law_598 rfl ct_L_81 ?_
  refine ac_land (q := 602) dL_law_601 rfl ?_
  refine ac_lor (q := 603) dL_law_602 rfl ?_
  refine ac_cv (q := 606) (k_X7_judge (x := 105) (d := d - 1) (by omega) hM w1 n1 (ac_il_t _)) ml_L_87 hM.2.1 dL_law_603 rfl rfl rfl (by omega) (Nat.le_of_ble_eq_true rfl) hck hcn (fun m2 h2 => ?_)
  obtain ⟨r2, f2⟩ := h2
  have w2 := ac_RA_ff r1 (fun k a b => f2 k (Or.inl (by omega)))
  refine ac_same (tgt := 973) dL_law_606 rfl ?_
  exact next m2 ⟨_, _, _, _, _, _, _, w2, r2, o1, o2, o3, o4⟩

set_option maxHeartbeats 4000000 in
theorem L_see {G : ac_G} {Y : ac_Y} {nm : String} {d MC MS ck cn i : Nat} {P : ac_P} {m : ac_M} (hd : 31 ≤ d) (hck : ck ≤ MC) (hcn : cn ≤ MS) (hA : ac_isA Y 1) (hM : ac_isM Y 105) (hL : G.2.2.2.2.2.2.1 < 2147483648) (hxs : ∀ j, ac_in (G.2.2.2.2.2.2.2 j)) (hi : i + 5 ≤ G.2.2.2.2.2.2.1) (hv : ac_iv m) (next : ∀ m', ac_iv m' → ac_V G (RL, nm) cL_law 4 (some .boolean) d MC MS P ck cn Y m' 973 [(4, (G.2.2.2.2.2.1 : Int)), (2, ((1 : Nat) : Int)), (2, ((105 : Nat) : Int)), (0, (i : Int))] []) : ac_V G (RL, nm) cL_law 4 (some .boolean) d MC MS P ck cn Y m 611 [(4, (G.2.2.2.2.2.1 : Int)), (2, ((1 : Nat) : Int)), (2, ((105 : Nat) : Int)), (0, (i : Int))] [] := by
  obtain ⟨s, T, hs, s0, s1, obs, ch, rA, rM, o1, o2, o3, o4⟩ := hv
  obtain ⟨a1, e1⟩ : ∃ a, a = G.2.2.2.2.2.2.2 (i + 1) := ⟨_, rfl⟩
  have n1 : ac_in a1 := by rw [e1]; exact hxs _
  obtain ⟨a2, e2⟩ : ∃ a, a = G.2.2.2.2.2.2.2 (i + 2) := ⟨_, rfl⟩
  have n2 : ac_in a2 := by rw [e2]; exact hxs _
  obtain ⟨a3, e3⟩ : ∃ a, a = G.2.2.2.2.2.2.2 (i + 3) := ⟨_, rfl⟩
  have n3 : ac_in a3 := by rw [e3]; exact hxs _
  refine ac_aload_n (q := 612) dL_law_611 rfl rfl ?_
  refine ac_aload_a (q := 613) dL_law_612 rfl rfl ?_
  refine ac_iload_n (q := 614) dL_law_613 rfl rfl ?_
  refine ac_iconst (q := 615) dL_law_614 rfl ?_
  refine ac_iadd (q := 616) dL_law_615 rfl ?_
  refine ac_script (q := 617) (j := i + 1) (v := a1) dL_law_616 hL (by omega) e1 rfl ?_
  refine ac_aload_a (q := 618) dL_law_617 rfl rfl ?_
  refine ac_iload_n (q := 619) dL_law_618 rfl rfl ?_
  refine ac_iconst (q := 620) dL_law_619 rfl ?_
  refine ac_iadd (q := 621) dL_law_620 rfl ?_
  refine ac_script (q := 622) (j := i + 2) (v := a2) dL_law_621 hL (by omega) e2 rfl ?_
  refine ac_aload_a (q := 623) dL_law_622 rfl rfl ?_
  refine ac_iload_n (q := 624) dL_law_623 rfl rfl ?_
  refine ac_iconst (q := 625) dL_law_624 rfl ?_
  refine ac_iadd (q := 626) dL_law_625 rfl ?_
  refine ac_script (q := 627) (j := i + 3) (v := a3) dL_law_626 hL (by omega) e3 rfl ?_
  refine ac_cv (q := 630) (k_X6_see (x := 1) (d := d - 1) (by omega) hA rA n1 n2 n3) ml_L_88 hA.1.1 dL_law_627 rfl rfl rfl (by omega) (Nat.le_of_ble_eq_true rfl) hck hcn (fun m1 h1 => ?_)
  obtain ⟨r1, f1⟩ := h1
  have w1 := ac_RM_ff rM (fun k a b => f1 k (Or.inr (by omega)))
  refine ac_aload_n (q := 631) dL_law_630 rfl rfl ?_
  refine ac_aload_a (q := 632) dL_law_631 rfl rfl ?_
  refine ac_iload_n (q := 633) dL_law_632 rfl rfl ?_
  refine ac_iconst (q := 634) dL_law_633 rfl ?_
  refine ac_iadd (q := 635) dL_law_634 rfl ?_
  refine ac_script (q := 636) (j := i + 1) (v := a1) dL_law_635 hL (by omega) e1 rfl ?_
  refine ac_aload_a (q := 637) dL_law_636 rfl rfl ?_
  refine ac_iload_n (q := 638) dL_law_637 rfl rfl ?_
  refine ac_iconst (q := 639) dL_law_638 rfl ?_
  refine ac_iadd (q := 640) dL_law_639 rfl ?_
  refine ac_script (q := 641) (j := i + 2) (v := a2) dL_law_640 hL (by omega) e2 rfl ?_
  refine ac_aload_a (q := 642) dL_law_641 rfl rfl ?_
  refine ac_iload_n (q := 643) dL_law_642 rfl rfl ?_
  refine ac_iconst (q := 644) dL_law_643 rfl ?_
  refine ac_iadd (q := 645) dL_law_644 rfl ?_
  refine ac_script (q := 646) (j := i + 3) (v := a3) dL_law_645 hL (by omega) e3 rfl ?_
  refine ac_cv (q := 649) (k_X7_see (x := 105) (d := d - 1) (by omega) hM w1 n1 n2 n3) ml_L_92 hM.2.1 dL_law_646 rfl rfl rfl (by omega) (Nat.le_of_ble_eq_true rfl) hck hcn (fun m2 h2 => ?_)
  obtain ⟨r2, f2⟩ := h2
  have w2 := ac_RA_ff r1 (fun k a b => f2 k (Or.inl (by omega)))
  refine ac_same (tgt := 973) dL_law_649 rfl ?_
  exact next m2 ⟨_, _, _, _, _, _, _, w2, r2, o1, o2, o3, o4⟩

set_option maxHeartbeats 4000000 in
theorem L_unsee {G : ac_G} {Y : ac_Y} {nm : String} {d MC MS ck cn i : Nat} {P : ac_P} {m : ac_M} (hd : 31 ≤ d) (hck : ck ≤ MC) (hcn : cn ≤ MS) (hA : ac_isA Y 1) (hM : ac_isM Y 105) (hL : G.2.2.2.2.2.2.1 < 2147483648) (hxs : ∀ j, ac_in (G.2.2.2.2.2.2.2 j)) (hi : i + 5 ≤ G.2.2.2.2.2.2.1) (hv : ac_iv m) (next : ∀ m', ac_iv m' → ac_V G (RL, nm) cL_law 4 (some .boolean) d MC MS P ck cn Y m' 973 [(4, (G.2.2.2.2.2.1 : Int)), (2, ((1 : Nat) : Int)), (2, ((105 : Nat) : Int)), (0, (i : Int))] []) : ac_V G (RL, nm) cL_law 4 (some .boolean) d MC MS P ck cn Y m 654 [(4, (G.2.2.2.2.2.1 : Int)), (2, ((1 : Nat) : Int)), (2, ((105 : Nat) : Int)), (0, (i : Int))] [] := by
  obtain ⟨s, T, hs, s0, s1, obs, ch, rA, rM, o1, o2, o3, o4⟩ := hv
  refine ac_aload_n (q := 655) dL_law_654 rfl rfl ?_
  refine ac_cv (q := 658) (k_X6_unsee (x := 1) (d := d - 1) (by omega) hA rA ) ml_L_93 hA.1.1 dL_law_655 rfl rfl rfl (by omega) (Nat.le_of_ble_eq_true rfl) hck hcn (fun m1 h1 => ?_)
  obtain ⟨r1, f1⟩ := h1
  have w1 := ac_RM_ff rM (fun k a b => f1 k (Or.inr (by omega)))
  refine ac_aload_n (q := 659) dL_law_658 rfl rfl ?_
  refine ac_cv (q := 662) (k_X7_unsee (x := 105) (d := d - 1) (by omega) hM w1 ) ml_L_96 hM.2.1 dL_law_659 rfl rfl rfl (by omega) (Nat.le_of_ble_eq_true rfl) hck hcn (fun m2 h2 => ?_)
  obtain ⟨r2, f2⟩ := h2
  have w2 := ac_RA_ff r1 (fun k a b => f2 k (Or.inl (by omega)))
  refine ac_same (tgt := 973) dL_law_662 rfl ?_
  exact next m2 ⟨_, _, _, _, _, _, _, w2, r2, o1, o2, o3, o4⟩

set_option maxHeartbeats 4000000 in
theorem L_which {G : ac_G} {Y : ac_Y} {nm : String} {d MC MS ck cn i : Nat} {P : ac_P} {m : ac_M} (hd : 31 ≤ d) (hck : ck ≤ MC) (hcn : cn ≤ MS) (hA : ac_isA Y 1) (hM : ac_isM Y 105) (hL : G.2.2.2.2.2.2.1 < 2147483648) (hxs : ∀ j, ac_in (G.2.2.2.2.2.2.2 j)) (hi : i + 5 ≤ G.2.2.2.2.2.2.1) (hv : ac_iv m) (next : ∀ m', ac_iv m' → ac_V G (RL, nm) cL_law 4 (some .boolean) d MC MS P ck cn Y m' 973 [(4, (G.2.2.2.2.2.1 : Int)), (2, ((1 : Nat) : Int)), (2, ((105 : Nat) : Int)), (0, (i : Int))] []) : ac_V G (RL, nm) cL_law 4 (some .boolean) d MC MS P ck cn Y m 667 [(4, (G.2.2.2.2.2.1 : Int)), (2, ((1 : Nat) : Int)), (2, ((105 : Nat) : Int)), (0, (i : Int))] [] := by
  obtain ⟨s, T, hs, s0, s1, obs, ch, rA, rM, o1, o2, o3, o4⟩ := hv
  obtain ⟨a1, e1⟩ : ∃ a, a = G.2.2.2.2.2.2.2 (i + 1) := ⟨_, rfl⟩
  have n1 : ac_in a1 := by rw [e1]; exact hxs _
  refine ac_aload_n (q := 668) dL_law_667 rfl rfl ?_
  refine ac_aload_a (q := 669) dL_law_668 rfl rfl ?_
  refine ac_iload_n (q := 670) dL_law_669 rfl rfl ?_
  refine ac_iconst (q := 671) dL_law_670 rfl ?_
  refine ac_iadd (q := 672) dL_law_671 rfl ?_
  refine ac_script (q := 673) (j := i + 1) (v := a1) dL_law_672 hL (by omega) e1 rfl ?_
  refine ac_cv (q := 676) (k_X6_which (x := 1) (d := d - 1) (by omega) hA rA n1) ml_L_97 hA.1.1 dL_law_673 rfl rfl rfl (by omega) (Nat.le_of_ble_eq_true rfl) hck hcn (fun m1 h1 => ?_)
  obtain ⟨r1, f1⟩ := h1
  have w1 := ac_RM_ff rM (fun k a b => f1 k (Or.inr (by omega)))
  refine ac_aload_n (q := 677) dL_law_676 rfl rfl ?_
  refine ac_aload_a (q := 678) dL_law_677 rfl rfl ?_
  refine ac_iload_n (q := 679) dL_law_678 rfl rfl ?_
  refine ac_iconst (q := 680) dL_law_679 rfl ?_
  refine ac_iadd (q := 681) dL_law_680 rfl ?_
  refine ac_script (q := 682) (j := i + 1) (v := a1) dL_law_681 hL (by omega) e1 rfl ?_
  refine ac_cv (q := 685) (k_X7_which (x := 105) (d := d - 1) (by omega) hM w1 n1) ml_L_100 hM.2.1 dL_law_682 rfl rfl rfl (by omega) (Nat.le_of_ble_eq_true rfl) hck hcn (fun m2 h2 => ?_)
  obtain ⟨r2, f2⟩ := h2
  have w2 := ac_RA_ff r1 (fun k a b => f2 k (Or.inl (by omega)))
  refine ac_same (tgt := 973) dL_law_685 rfl ?_
  exact next m2 ⟨_, _, _, _, _, _, _, w2, r2, o1, o2, o3, o4⟩

set_option maxHeartbeats 4000000 in
theorem L_share {G : ac_G} {Y : ac_Y} {nm : String} {d MC MS ck cn i : Nat} {P : ac_P} {m : ac_M} (hd : 31 ≤ d) (hck : ck ≤ MC) (hcn : cn ≤ MS) (hA : ac_isA Y 1) (hM : ac_isM Y 105) (hL : G.2.2.2.2.2.2.1 < 2147483648) (hxs : ∀ j, ac_in (G.2.2.2.2.2.2.2 j)) (hi : i + 5 ≤ G.2.2.2.2.2.2.1) (hv : ac_iv m) (next : ∀ m', ac_iv m' → ac_V G (RL, nm) cL_law 4 (some .boolean) d MC MS P ck cn Y m' 973 [(4, (G.2.2.2.2.2.1 : Int)), (2, ((1 : Nat) : Int)), (2, ((105 : Nat) : Int)), (0, (i : Int))] []) : ac_V G (RL, nm) cL_law 4 (some .boolean) d MC MS P ck cn Y m 690 [(4, (G.2.2.2.2.2.1 : Int)), (2, ((1 : Nat) : Int)), (2, ((105 : Nat) : Int)), (0, (i : Int))] [] := by
  obtain ⟨s, T, hs, s0, s1, obs, ch, rA, rM, o1, o2, o3, o4⟩ := hv
  obtain ⟨a1, e1⟩ : ∃ a, a = G.2.2.2.2.2.2.2 (i + 1) := ⟨_, rfl⟩
  have n1 : ac_in a1 := by rw [e1]; exact hxs _
  obtain ⟨a2, e2⟩ : ∃ a, a = G.2.2.2.2.2.2.2 (i + 2) := ⟨_, rfl⟩
  have n2 : ac_in a2 := by rw [e2]; exact hxs _
  by_cases hz : a2 = 0
  · refine ac_aload_n (q := 691) dL_law_690 rfl rfl ?_
    refine ac_aload_a (q := 692) dL_law_691 rfl rfl ?_
    refine ac_iload_n (q := 693) dL_law_692 rfl rfl ?_
    refine ac_iconst (q := 694) dL_law_693 rfl ?_
    refine ac_iadd (q := 695) dL_law_694 rfl ?_
    refine ac_script (q := 696) (j := i + 1) (v := a1) dL_law_695 hL (by omega) e1 rfl ?_
    refine ac_aload_a (q := 697) dL_law_696 rfl rfl ?_
    refine ac_iload_n (q := 698) dL_law_697 rfl rfl ?_
    refine ac_iconst (q := 699) dL_law_698 rfl ?_
    refine ac_iadd (q := 700) dL_law_699 rfl ?_
    refine ac_script (q := 701) (j := i + 2) (v := a2) dL_law_700 hL (by omega) e2 rfl ?_
    refine ac_if_eq (q := 704) (tgt := 708) dL_law_701 rfl rfl (by assumption) (fun h701 => ?_) (fun h701 => absurd hz h701)
    refine ac_iconst (q := 709) dL_law_708 rfl ?_
    refine ac_cv (q := 712) (k_X6_share (x := 1) (d := d - 1) (by omega) hA rA n1 ⟨by decide, by decide⟩) ml_L_101 hA.1.1 dL_law_709 rfl rfl rfl (by omega) (Nat.le_of_ble_eq_true rfl) hck hcn (fun m1 h1 => ?_)
    obtain ⟨r1, f1⟩ := h1
    have w1 := ac_RM_ff rM (fun k a b => f1 k (Or.inr (by omega)))
    refine ac_aload_n (q := 713) dL_law_712 rfl rfl ?_
    refine ac_aload_a (q := 714) dL_law_713 rfl rfl ?_
    refine ac_iload_n (q := 715) dL_law_714 rfl rfl ?_
    refine ac_iconst (q := 716) dL_law_715 rfl ?_
    refine ac_iadd (q := 717) dL_law_716 rfl ?_
    refine ac_script (q := 718) (j := i + 1) (v := a1) dL_law_717 hL (by omega) e1 rfl ?_
    refine ac_aload_a (q := 719) dL_law_718 rfl rfl ?_
    refine ac_iload_n (q := 720) dL_law_719 rfl rfl ?_
    refine ac_iconst (q := 721) dL_law_720 rfl ?_
    refine ac_iadd (q := 722) dL_law_721 rfl ?_
    refine ac_script (q := 723) (j := i + 2) (v := a2) dL_law_722 hL (by omega) e2 rfl ?_
    refine ac_if_eq (q := 726) (tgt := 730) dL_law_723 rfl rfl (by assumption) (fun h723 => ?_) (fun h723 => absurd hz h723)
    refine ac_iconst (q := 731) dL_law_730 rfl ?_
    refine ac_cv (q := 734) (k_X7_share (x := 105) (d := d - 1) (by omega) hM w1 n1 ⟨by decide, by decide⟩) ml_L_105 hM.2.1 dL_law_731 rfl rfl rfl (by omega) (Nat.le_of_ble_eq_true rfl) hck hcn (fun m2 h2 => ?_)
    obtain ⟨r2, f2⟩ := h2
    have w2 := ac_RA_ff r1 (fun k a b => f2 k (Or.inl (by omega)))
    refine ac_same (tgt := 973) dL_law_734 rfl ?_
    exact next m2 ⟨_, _, _, _, _, _, _, w2, r2, o1, o2, o3, o4⟩
  · refine ac_aload_n (q := 691) dL_law_690 rfl rfl ?_
    refine ac_aload_a (q := 692) dL_law_691 rfl rfl ?_
    refine ac_iload_n (q := 693) dL_law_692 rfl rfl ?_
    refine ac_iconst (q := 694) dL_law_693 rfl ?_
    refine ac_iadd (q := 695) dL_law_694 rfl ?_
    refine ac_script (q := 696) (j := i + 1) (v := a1) dL_law_695 hL (by omega) e1 rfl ?_
    refine ac_aload_a (q := 697) dL_law_696 rfl rfl ?_
    refine ac_iload_n (q := 698) dL_law_697 rfl rfl ?_
    refine ac_iconst (q := 699) dL_law_698 rfl ?_
    refine ac_iadd (q := 700) dL_law_699 rfl ?_
    refine ac_script (q := 701) (j := i + 2) (v := a2) dL_law_700 hL (by omega) e2 rfl ?_
    refine ac_if_eq (q := 704) (tgt := 708) dL_law_701 rfl rfl (by assumption) (fun h701 => absurd h701 hz) (fun h701 => ?_)
    refine ac_iconst (q := 705) dL_law_704 rfl ?_
    refine ac_goto (q := 709) dL_law_705 rfl ?_
    refine ac_cv (q := 712) (k_X6_share (x := 1) (d := d - 1) (by omega) hA rA n1 ⟨by decide, by decide⟩) ml_L_101 hA.1.1 dL_law_709 rfl rfl rfl (by omega) (Nat.le_of_ble_eq_true rfl) hck hcn (fun m1 h1 => ?_)
    obtain ⟨r1, f1⟩ := h1
    have w1 := ac_RM_ff rM (fun k a b => f1 k (Or.inr (by omega)))
    refine ac_aload_n (q := 713) dL_law_712 rfl rfl ?_
    refine ac_aload_a (q := 714) dL_law_713 rfl rfl ?_
    refine ac_iload_n (q := 715) dL_law_714 rfl rfl ?_
    refine ac_iconst (q := 716) dL_law_715 rfl ?_
    refine ac_iadd (q := 717) dL_law_716 rfl ?_
    refine ac_script (q := 718) (j := i + 1) (v := a1) dL_law_717 hL (by omega) e1 rfl ?_
    refine ac_aload_a (q := 719) dL_law_718 rfl rfl ?_
    refine ac_iload_n (q := 720) dL_law_719 rfl rfl ?_
    refine ac_iconst (q := 721) dL_law_720 rfl ?_
    refine ac_iadd (q := 722) dL_law_721 rfl ?_
    refine ac_script (q := 723) (j := i + 2) (v := a2) dL_law_722 hL (by omega) e2 rfl ?_
    refine ac_if_eq (q := 726) (tgt := 730) dL_law_723 rfl rfl (by assumption) (fun h723 => absurd h723 hz) (fun h723 => ?_)
    refine ac_iconst (q := 727) dL_law_726 rfl ?_
    refine ac_goto (q := 731) dL_law_727 rfl ?_
    refine ac_cv (q := 734) (k_X7_share (x := 105) (d := d - 1) (by omega) hM w1 n1 ⟨by decide, by decide⟩) ml_L_105 hM.2.1 dL_law_731 rfl rfl rfl (by omega) (Nat.le_of_ble_eq_true rfl) hck hcn (fun m2 h2 => ?_)
    obtain ⟨r2, f2⟩ := h2
    have w2 := ac_RA_ff r1 (fun k a b => f2 k (Or.inl (by omega)))
    refine ac_same (tgt := 973) dL_law_734 rfl ?_
    exact next m2 ⟨_, _, _, _, _, _, _, w2, r2, o1, o2, o3, o4⟩

set_option maxHeartbeats 4000000 in
theorem L_luck {G : ac_G} {Y : ac_Y} {nm : String} {d MC MS ck cn i : Nat} {P : ac_P} {m : ac_M} (hd : 31 ≤ d) (hck : ck ≤ MC) (hcn : cn ≤ MS) (hA : ac_isA Y 1) (hM : ac_isM Y 105) (hL : G.2.2.2.2.2.2.1 < 2147483648) (hxs : ∀ j, ac_in (G.2.2.2.2.2.2.2 j)) (hi : i + 5 ≤ G.2.2.2.2.2.2.1) (hv : ac_iv m) (next : ∀ m', ac_iv m' → ac_V G (RL, nm) cL_law 4 (some .boolean) d MC MS P ck cn Y m' 973 [(4, (G.2.2.2.2.2.1 : Int)), (2, ((1 : Nat) : Int)), (2, ((105 : Nat) : Int)), (0, (i : Int))] []) : ac_V G (RL, nm) cL_law 4 (some .boolean) d MC MS P ck cn Y m 739 [(4, (G.2.2.2.2.2.1 : Int)), (2, ((1 : Nat) : Int)), (2, ((105 : Nat) : Int)), (0, (i : Int))] [] := by
  obtain ⟨s, T, hs, s0, s1, obs, ch, rA, rM, o1, o2, o3, o4⟩ := hv
  obtain ⟨a1, e1⟩ : ∃ a, a = G.2.2.2.2.2.2.2 (i + 1) := ⟨_, rfl⟩
  have n1 : ac_in a1 := by rw [e1]; exact hxs _
  by_cases hz : a1 = 0
  · refine ac_aload_n (q := 740) dL_law_739 rfl rfl ?_
    refine ac_aload_a (q := 741) dL_law_740 rfl rfl ?_
    refine ac_iload_n (q := 742) dL_law_741 rfl rfl ?_
    refine ac_iconst (q := 743) dL_law_742 rfl ?_
    refine ac_iadd (q := 744) dL_law_743 rfl ?_
    refine ac_script (q := 745) (j := i + 1) (v := a1) dL_law_744 hL (by omega) e1 rfl ?_
    refine ac_if_eq (q := 748) (tgt := 752) dL_law_745 rfl rfl (by assumption) (fun h745 => ?_) (fun h745 => absurd hz h745)
    refine ac_iconst (q := 753) dL_law_752 rfl ?_
    refine ac_cv (q := 756) (k_X6_luck (x := 1) (d := d - 1) (by omega) hA rA ⟨by decide, by decide⟩) ml_L_106 hA.1.1 dL_law_753 rfl rfl rfl (by omega) (Nat.le_of_ble_eq_true rfl) hck hcn (fun m1 h1 => ?_)
    obtain ⟨r1, f1⟩ := h1
    have w1 := ac_RM_ff rM (fun k a b => f1 k (Or.inr (by omega)))
    refine ac_aload_n (q := 757) dL_law_756 rfl rfl ?_
    refine ac_aload_a (q := 758) dL_law_757 rfl rfl ?_
    refine ac_iload_n (q := 759) dL_law_758 rfl rfl ?_
    refine ac_iconst (q := 760) dL_law_759 rfl ?_
    refine ac_iadd (q := 761) dL_law_760 rfl ?_
    refine ac_script (q := 762) (j := i + 1) (v := a1) dL_law_761 hL (by omega) e1 rfl ?_
    refine ac_if_eq (q := 765) (tgt := 769) dL_law_762 rfl rfl (by assumption) (fun h762 => ?_) (fun h762 => absurd hz h762)
    refine ac_iconst (q := 770) dL_law_769 rfl ?_
    refine ac_cv (q := 773) (k_X7_luck (x := 105) (d := d - 1) (by omega) hM w1 ⟨by decide, by decide⟩) ml_L_110 hM.2.1 dL_law_770 rfl rfl rfl (by omega) (Nat.le_of_ble_eq_true rfl) hck hcn (fun m2 h2 => ?_)
    obtain ⟨r2, f2⟩ := h2
    have w2 := ac_RA_ff r1 (fun k a b => f2 k (Or.inl (by omega)))
    refine ac_same (tgt := 973) dL_law_773 rfl ?_
    exact next m2 ⟨_, _, _, _, _, _, _, w2, r2, o1, o2, o3, o4⟩
  · refine ac_aload_n (q := 740) dL_law_739 rfl rfl ?_
    refine ac_aload_a (q := 741) dL_law_740 rfl rfl ?_
    refine ac_iload_n (q := 742) dL_law_741 rfl rfl ?_
    refine ac_iconst (q := 743) dL_law_742 rfl ?_
    refine ac_iadd (q := 744) dL_law_743 rfl ?_
    refine ac_script (q := 745) (j := i + 1) (v := a1) dL_law_744 hL (by omega) e1 rfl ?_
    refine ac_if_eq (q := 748) (tgt := 752) dL_law_745 rfl rfl (by assumption) (fun h745 => absurd h745 hz) (fun h745 => ?_)
    refine ac_iconst (q := 749) dL_law_748 rfl ?_
    refine ac_goto (q := 753) dL_law_749 rfl ?_
    refine ac_cv (q := 756) (k_X6_luck (x := 1) (d := d - 1) (by omega) hA rA ⟨by decide, by decide⟩) ml_L_106 hA.1.1 dL_law_753 rfl rfl rfl (by omega) (Nat.le_of_ble_eq_true rfl) hck hcn (fun m1 h1 => ?_)
    obtain ⟨r1, f1⟩ := h1
    have w1 := ac_RM_ff rM (fun k a b => f1 k (Or.inr (by omega)))
    refine ac_aload_n (q := 757) dL_law_756 rfl rfl ?_
    refine ac_aload_a (q := 758) dL_law_757 rfl rfl ?_
    refine ac_iload_n (q := 759) dL_law_758 rfl rfl ?_
    refine ac_iconst (q := 760) dL_law_759 rfl ?_
    refine ac_iadd (q := 761) dL_law_760 rfl ?_
    refine ac_script (q := 762) (j := i + 1) (v := a1) dL_law_761 hL (by omega) e1 rfl ?_
    refine ac_if_eq (q := 765) (tgt := 769) dL_law_762 rfl rfl (by assumption) (fun h762 => absurd h762 hz) (fun h762 => ?_)
    refine ac_iconst (q := 766) dL_law_765 rfl ?_
    refine ac_goto (q := 770) dL_law_766 rfl ?_
    refine ac_cv (q := 773) (k_X7_luck (x := 105) (d := d - 1) (by omega) hM w1 ⟨by decide, by decide⟩) ml_L_110 hM.2.1 dL_law_770 rfl rfl rfl (by omega) (Nat.le_of_ble_eq_true rfl) hck hcn (fun m2 h2 => ?_)
    obtain ⟨r2, f2⟩ := h2
    have w2 := ac_RA_ff r1 (fun k a b => f2 k (Or.inl (by omega)))
    refine ac_same (tgt := 973) dL_law_773 rfl ?_
    exact next m2 ⟨_, _, _, _, _, _, _, w2, r2, o1, o2, o3, o4⟩

set_option maxHeartbeats 4000000 in
theorem L_lost {G : ac_G} {Y : ac_Y} {nm : String} {d MC MS ck cn i : Nat} {P : ac_P} {m : ac_M} (hd : 31 ≤ d) (hck : ck ≤ MC) (hcn : cn ≤ MS) (hA : ac_isA Y 1) (hM : ac_isM Y 105) (hL : G.2.2.2.2.2.2.1 < 2147483648) (hxs : ∀ j, ac_in (G.2.2.2.2.2.2.2 j)) (hi : i + 5 ≤ G.2.2.2.2.2.2.1) (hv : ac_iv m) (next : ∀ m', ac_iv m' → ac_V G (RL, nm) cL_law 4 (some .boolean) d MC MS P ck cn Y m' 973 [(4, (G.2.2.2.2.2.1 : Int)), (2, ((1 : Nat) : Int)), (2, ((105 : Nat) : Int)), (0, (i : Int))] []) : ac_V G (RL, nm) cL_law 4 (some .boolean) d MC MS P ck cn Y m 778 [(4, (G.2.2.2.2.2.1 : Int)), (2, ((1 : Nat) : Int)), (2, ((105 : Nat) : Int)), (0, (i : Int))] [] := by
  obtain ⟨s, T, hs, s0, s1, obs, ch, rA, rM, o1, o2, o3, o4⟩ := hv
  obtain ⟨a1, e1⟩ : ∃ a, a = G.2.2.2.2.2.2.2 (i + 1) := ⟨_, rfl⟩
  have n1 : ac_in a1 := by rw [e1]; exact hxs _
  obtain ⟨a2, e2⟩ : ∃ a, a = G.2.2.2.2.2.2.2 (i + 2) := ⟨_, rfl⟩
  have n2 : ac_in a2 := by rw [e2]; exact hxs _
  by_cases hz : a2 = 0
  · refine ac_aload_n (q := 779) dL_law_778 rfl rfl ?_
    refine ac_aload_a (q := 780) dL_law_779 rfl rfl ?_
    refine ac_iload_n (q := 781) dL_law_780 rfl rfl ?_
    refine ac_iconst (q := 782) dL_law_781 rfl ?_
    refine ac_iadd (q := 783) dL_law_782 rfl ?_
    refine ac_script (q := 784) (j := i + 1) (v := a1) dL_law_783 hL (by omega) e1 rfl ?_
    refine ac_aload_a (q := 785) dL_law_784 rfl rfl ?_
    refine ac_iload_n (q := 786) dL_law_785 rfl rfl ?_
    refine ac_iconst (q := 787) dL_law_786 rfl ?_
    refine ac_iadd (q := 788) dL_law_787 rfl ?_
    refine ac_script (q := 789) (j := i + 2) (v := a2) dL_law_788 hL (by omega) e2 rfl ?_
    refine ac_if_eq (q := 792) (tgt := 796) dL_law_789 rfl rfl (by assumption) (fun h789 => ?_) (fun h789 => absurd hz h789)
    refine ac_iconst (q := 797) dL_law_796 rfl ?_
    refine ac_cv (q := 800) (k_X6_lost (x := 1) (d := d - 1) (by omega) hA rA n1 ⟨by decide, by decide⟩) ml_L_111 hA.1.1 dL_law_797 rfl rfl rfl (by omega) (Nat.le_of_ble_eq_true rfl) hck hcn (fun m1 h1 => ?_)
    obtain ⟨r1, f1⟩ := h1
    have w1 := ac_RM_ff rM (fun k a b => f1 k (Or.inr (by omega)))
    refine ac_aload_n (q := 801) dL_law_800 rfl rfl ?_
    refine ac_aload_a (q := 802) dL_law_801 rfl rfl ?_
    refine ac_iload_n (q := 803) dL_law_802 rfl rfl ?_
    refine ac_iconst (q := 804) dL_law_803 rfl ?_
    refine ac_iadd (q := 805) dL_law_804 rfl ?_
    refine ac_script (q := 806) (j := i + 1) (v := a1) dL_law_805 hL (by omega) e1 rfl ?_
    refine ac_aload_a (q := 807) dL_law_806 rfl rfl ?_
    refine ac_iload_n (q := 808) dL_law_807 rfl rfl ?_
    refine ac_iconst (q := 809) dL_law_808 rfl ?_
    refine ac_iadd (q := 810) dL_law_809 rfl ?_
    refine ac_script (q := 811) (j := i + 2) (v := a2) dL_law_810 hL (by omega) e2 rfl ?_
    refine ac_if_eq (q := 814) (tgt := 818) dL_law_811 rfl rfl (by assumption) (fun h811 => ?_) (fun h811 => absurd hz h811)
    refine ac_iconst (q := 819) dL_law_818 rfl ?_
    refine ac_cv (q := 822) (k_X7_lost (x := 105) (d := d - 1) (by omega) hM w1 n1 ⟨by decide, by decide⟩) ml_L_114 hM.2.1 dL_law_819 rfl rfl rfl (by omega) (Nat.le_of_ble_eq_true rfl) hck hcn (fun m2 h2 => ?_)
    obtain ⟨r2, f2⟩ := h2
    have w2 := ac_RA_ff r1 (fun k a b => f2 k (Or.inl (by omega)))
    refine ac_same (tgt := 973) dL_law_822 rfl ?_
    exact next m2 ⟨_, _, _, _, _, _, _, w2, r2, o1, o2, o3, o4⟩
  · refine ac_aload_n (q := 779) dL_law_778 rfl rfl ?_
    refine ac_aload_a (q := 780) dL_law_779 rfl rfl ?_
    refine ac_iload_n (q := 781) dL_law_780 rfl rfl ?_
    refine ac_iconst (q := 782) dL_law_781 rfl ?_
    refine ac_iadd (q := 783) dL_law_782 rfl ?_
    refine ac_script (q := 784) (j := i + 1) (v := a1) dL_law_783 hL (by omega) e1 rfl ?_
    refine ac_aload_a (q := 785) dL_law_784 rfl rfl ?_
    refine ac_iload_n (q := 786) dL_law_785 rfl rfl ?_
    refine ac_iconst (q := 787) dL_law_786 rfl ?_
    refine ac_iadd (q := 788) dL_law_787 rfl ?_
    refine ac_script (q := 789) (j := i + 2) (v := a2) dL_law_788 hL (by omega) e2 rfl ?_
    refine ac_if_eq (q := 792) (tgt := 796) dL_law_789 rfl rfl (by assumption) (fun h789 => absurd h789 hz) (fun h789 => ?_)
    refine ac_iconst (q := 793) dL_law_792 rfl ?_
    refine ac_goto (q := 797) dL_law_793 rfl ?_
    refine ac_cv (q := 800) (k_X6_lost (x := 1) (d := d - 1) (by omega) hA rA n1 ⟨by decide, by decide⟩) ml_L_111 hA.1.1 dL_law_797 rfl rfl rfl (by omega) (Nat.le_of_ble_eq_true rfl) hck hcn (fun m1 h1 => ?_)
    obtain ⟨r1, f1⟩ := h1
    have w1 := ac_RM_ff rM (fun k a b => f1 k (Or.inr (by omega)))
    refine ac_aload_n (q := 801) dL_law_800 rfl rfl ?_
    refine ac_aload_a (q := 802) dL_law_801 rfl rfl ?_
    refine ac_iload_n (q := 803) dL_law_802 rfl rfl ?_
    refine ac_iconst (q := 804) dL_law_803 rfl ?_
    refine ac_iadd (q := 805) dL_law_804 rfl ?_
    refine ac_script (q := 806) (j := i + 1) (v := a1) dL_law_805 hL (by omega) e1 rfl ?_
    refine ac_aload_a (q := 807) dL_law_806 rfl rfl ?_
    refine ac_iload_n (q := 808) dL_law_807 rfl rfl ?_
    refine ac_iconst (q := 809) dL_law_808 rfl ?_
    refine ac_iadd (q := 810) dL_law_809 rfl ?_
    refine ac_script (q := 811) (j := i + 2) (v := a2) dL_law_810 hL (by omega) e2 rfl ?_
    refine ac_if_eq (q := 814) (tgt := 818) dL_law_811 rfl rfl (by assumption) (fun h811 => absurd h811 hz) (fun h811 => ?_)
    refine ac_iconst (q := 815) dL_law_814 rfl ?_
    refine ac_goto (q := 819) dL_law_815 rfl ?_
    refine ac_cv (q := 822) (k_X7_lost (x := 105) (d := d - 1) (by omega) hM w1 n1 ⟨by decide, by decide⟩) ml_L_114 hM.2.1 dL_law_819 rfl rfl rfl (by omega) (Nat.le_of_ble_eq_true rfl) hck hcn (fun m2 h2 => ?_)
    obtain ⟨r2, f2⟩ := h2
    have w2 := ac_RA_ff r1 (fun k a b => f2 k (Or.inl (by omega)))
    refine ac_same (tgt := 973) dL_law_822 rfl ?_
    exact next m2 ⟨_, _, _, _, _, _, _, w2, r2, o1, o2, o3, o4⟩

set_option maxHeartbeats 4000000 in
theorem L_seed {G : ac_G} {Y : ac_Y} {nm : String} {d MC MS ck cn i : Nat} {P : ac_P} {m : ac_M} (hd : 31 ≤ d) (hck : ck ≤ MC) (hcn : cn ≤ MS) (hA : ac_isA Y 1) (hM : ac_isM Y 105) (hL : G.2.2.2.2.2.2.1 < 2147483648) (hxs : ∀ j, ac_in (G.2.2.2.2.2.2.2 j)) (hi : i + 5 ≤ G.2.2.2.2.2.2.1) (hv : ac_iv m) (next : ∀ m', ac_iv m' → ac_V G (RL, nm) cL_law 4 (some .boolean) d MC MS P ck cn Y m' 973 [(4, (G.2.2.2.2.2.1 : Int)), (2, ((1 : Nat) : Int)), (2, ((105 : Nat) : Int)), (0, (i : Int))] []) : ac_V G (RL, nm) cL_law 4 (some .boolean) d MC MS P ck cn Y m 827 [(4, (G.2.2.2.2.2.1 : Int)), (2, ((1 : Nat) : Int)), (2, ((105 : Nat) : Int)), (0, (i : Int))] [] := by
  obtain ⟨s, T, hs, s0, s1, obs, ch, rA, rM, o1, o2, o3, o4⟩ := hv
  obtain ⟨a1, e1⟩ : ∃ a, a = G.2.2.2.2.2.2.2 (i + 1) := ⟨_, rfl⟩
  have n1 : ac_in a1 := by rw [e1]; exact hxs _
  obtain ⟨a2, e2⟩ : ∃ a, a = G.2.2.2.2.2.2.2 (i + 2) := ⟨_, rfl⟩
  have n2 : ac_in a2 := by rw [e2]; exact hxs _
  refine ac_aload_n (q := 828) dL_law_827 rfl rfl ?_
  refine ac_aload_a (q := 829) dL_law_828 rfl rfl ?_
  refine ac_iload_n (q := 830) dL_law_829 rfl rfl ?_
  refine ac_iconst (q := 831) dL_law_830 rfl ?_
  refine ac_iadd (q := 832) dL_law_831 rfl ?_
  refine ac_script (q := 833) (j := i + 1) (v := a1) dL_law_832 hL (by omega) e1 rfl ?_
  refine ac_i2l (q := 834) dL_law_833 rfl (by assumption) ?_
  refine ac_bipush (q := 836) dL_law_834 rfl (by decide) ?_
  refine ac_lshl32 (q := 837) dL_law_836 rfl ?_
  refine ac_aload_a (q := 838) dL_law_837 rfl rfl ?_
  refine ac_iload_n (q := 839) dL_law_838 rfl rfl ?_
  refine ac_iconst (q := 840) dL_law_839 rfl ?_
  refine ac_iadd (q := 841) dL_law_840 rfl ?_
  refine ac_script (q := 842) (j := i + 2) (v := a2) dL_law_841 hL (by omega) e2 rfl ?_
  refine ac_i2l (q := 843) dL_law_842 rfl (by assumption) ?_
  refine ac_ldc2_w (q := 846) (v := 4294967295) dL_law_843 rfl ct_L_81 ?_
  refine ac_land (q := 847) dL_law_846 rfl ?_
  refine ac_lor (q := 848) dL_law_847 rfl ?_
  refine ac_cv (q := 851) (k_X6_seed (x := 1) (d := d - 1) (by omega) hA rA ) ml_L_115 hA.1.1 dL_law_848 rfl rfl rfl (by omega) (Nat.le_of_ble_eq_true rfl) hck hcn (fun m1 h1 => ?_)
  obtain ⟨r1, f1⟩ := h1
  have w1 := ac_RM_ff rM (fun k a b => f1 k (Or.inr (by omega)))
  refine ac_aload_n (q := 852) dL_law_851 rfl rfl ?_
  refine ac_aload_a (q := 853) dL_law_852 rfl rfl ?_
  refine ac_iload_n (q := 854) dL_law_853 rfl rfl ?_
  refine ac_iconst (q := 855) dL_law_854 rfl ?_
  refine ac_iadd (q := 856) dL_law_855 rfl ?_
  refine ac_script (q := 857) (j := i + 1) (v := a1) dL_law_856 hL (by omega) e1 rfl ?_
  refine ac_i2l (q := 858) dL_law_857 rfl (by assumption) ?_
  refine ac_bipush (q := 860) dL_law_858 rfl (by decide) ?_
  refine ac_lshl32 (q := 861) dL_law_860 rfl ?_
  refine ac_aload_a (q := 862) dL_law_861 rfl rfl ?_
  refine ac_iload_n (q := 863) dL_law_862 rfl rfl ?_
  refine ac_iconst (q := 864) dL_law_863 rfl ?_
  refine ac_iadd (q := 865) dL_law_864 rfl ?_
  refine ac_script (q := 866) (j := i + 2) (v := a2) dL_law_865 hL (by omega) e2 rfl ?_
  refine ac_i2l (q := 867) dL_law_866 rfl (by assumption) ?_
  refine ac_ldc2_w (q := 870) (v := 4294967295) dL_law_867 rfl ct_L_81 ?_
  refine ac_land (q := 871) dL_law_870 rfl ?_
  refine ac_lor (q := 872) dL_law_871 rfl ?_
  refine ac_cv (q := 875) (k_X7_seed (x := 105) (d := d - 1) (by omega) hM w1 ) ml_L_119 hM.2.1 dL_law_872 rfl rfl rfl (by omega) (Nat.le_of_ble_eq_true rfl) hck hcn (fun m2 h2 => ?_)
  obtain ⟨r2, f2⟩ := h2
  have w2 := ac_RA_ff r1 (fun k a b => f2 k (Or.inl (by omega)))
  refine ac_lsame (q := 876) dL_law_875 rfl ?_
  refine ac_if_eq (q := 879) (tgt := 973) dL_law_876 rfl rfl ⟨by decide, by decide⟩ (fun h876 => ?_) (fun h876 => absurd rfl h876)
  exact next m2 ⟨_, _, _, _, _, _, _, w2, r2, o1, o2, o3, o4⟩

set_option maxHeartbeats 4000000 in
theorem L_drawn {G : ac_G} {Y : ac_Y} {nm : String} {d MC MS ck cn i : Nat} {P : ac_P} {m : ac_M} (hd : 31 ≤ d) (hck : ck ≤ MC) (hcn : cn ≤ MS) (hA : ac_isA Y 1) (hM : ac_isM Y 105) (hL : G.2.2.2.2.2.2.1 < 2147483648) (hxs : ∀ j, ac_in (G.2.2.2.2.2.2.2 j)) (hi : i + 5 ≤ G.2.2.2.2.2.2.1) (hv : ac_iv m) (next : ∀ m', ac_iv m' → ac_V G (RL, nm) cL_law 4 (some .boolean) d MC MS P ck cn Y m' 973 [(4, (G.2.2.2.2.2.1 : Int)), (2, ((1 : Nat) : Int)), (2, ((105 : Nat) : Int)), (0, (i : Int))] []) : ac_V G (RL, nm) cL_law 4 (some .boolean) d MC MS P ck cn Y m 881 [(4, (G.2.2.2.2.2.1 : Int)), (2, ((1 : Nat) : Int)), (2, ((105 : Nat) : Int)), (0, (i : Int))] [] := by
  obtain ⟨s, T, hs, s0, s1, obs, ch, rA, rM, o1, o2, o3, o4⟩ := hv
  obtain ⟨a1, e1⟩ : ∃ a, a = G.2.2.2.2.2.2.2 (i + 1) := ⟨_, rfl⟩
  have n1 : ac_in a1 := by rw [e1]; exact hxs _
  refine ac_aload_n (q := 882) dL_law_881 rfl rfl ?_
  refine ac_aload_a (q := 883) dL_law_882 rfl rfl ?_
  refine ac_iload_n (q := 884) dL_law_883 rfl rfl ?_
  refine ac_iconst (q := 885) dL_law_884 rfl ?_
  refine ac_iadd (q := 886) dL_law_885 rfl ?_
  refine ac_script (q := 887) (j := i + 1) (v := a1) dL_law_886 hL (by omega) e1 rfl ?_
  refine ac_cv (q := 890) (k_X6_drawn (x := 1) (d := d - 1) (by omega) hA rA n1) ml_L_120 hA.1.1 dL_law_887 rfl rfl rfl (by omega) (Nat.le_of_ble_eq_true rfl) hck hcn (fun m1 h1 => ?_)
  obtain ⟨r1, f1⟩ := h1
  have w1 := ac_RM_ff rM (fun k a b => f1 k (Or.inr (by omega)))
  refine ac_aload_n (q := 891) dL_law_890 rfl rfl ?_
  refine ac_aload_a (q := 892) dL_law_891 rfl rfl ?_
  refine ac_iload_n (q := 893) dL_law_892 rfl rfl ?_
  refine ac_iconst (q := 894) dL_law_893 rfl ?_
  refine ac_iadd (q := 895) dL_law_894 rfl ?_
  refine ac_script (q := 896) (j := i + 1) (v := a1) dL_law_895 hL (by omega) e1 rfl ?_
  refine ac_cv (q := 899) (k_X7_drawn (x := 105) (d := d - 1) (by omega) hM w1 n1) ml_L_123 hM.2.1 dL_law_896 rfl rfl rfl (by omega) (Nat.le_of_ble_eq_true rfl) hck hcn (fun m2 h2 => ?_)
  obtain ⟨r2, f2⟩ := h2
  have w2 := ac_RA_ff r1 (fun k a b => f2 k (Or.inl (by omega)))
  refine ac_same (tgt := 973) dL_law_899 rfl ?_
  exact next m2 ⟨_, _, _, _, _, _, _, w2, r2, o1, o2, o3, o4⟩

set_option maxHeartbeats 4000000 in
theorem L_keep {G : ac_G} {Y : ac_Y} {nm : String} {d MC MS ck cn i : Nat} {P : ac_P} {m : ac_M} (hd : 31 ≤ d) (hck : ck ≤ MC) (hcn : cn ≤ MS) (hA : ac_isA Y 1) (hM : ac_isM Y 105) (hL : G.2.2.2.2.2.2.1 < 2147483648) (hxs : ∀ j, ac_in (G.2.2.2.2.2.2.2 j)) (hi : i + 5 ≤ G.2.2.2.2.2.2.1) (hv : ac_iv m) (next : ∀ m', ac_iv m' → ac_V G (RL, nm) cL_law 4 (some .boolean) d MC MS P ck cn Y m' 973 [(4, (G.2.2.2.2.2.1 : Int)), (2, ((1 : Nat) : Int)), (2, ((105 : Nat) : Int)), (0, (i : Int))] []) : ac_V G (RL, nm) cL_law 4 (some .boolean) d MC MS P ck cn Y m 904 [(4, (G.2.2.2.2.2.1 : Int)), (2, ((1 : Nat) : Int)), (2, ((105 : Nat) : Int)), (0, (i : Int))] [] := by
  obtain ⟨s, T, hs, s0, s1, obs, ch, rA, rM, o1, o2, o3, o4⟩ := hv
  obtain ⟨a1, e1⟩ : ∃ a, a = G.2.2.2.2.2.2.2 (i + 1) := ⟨_, rfl⟩
  have n1 : ac_in a1 := by rw [e1]; exact hxs _
  have k7 : ∀ (m1 : ac_M), ac_RM m1 105 s T hs s0 s1 obs ch → ac_C G yX7_keep cX7_keep 3 (some .int) (d - 1) 0 0 Y m1 [(2, ((105 : Nat) : Int)), (0, a1)] (ac_R Y [(0, (if a1 = 0 ∨ a1 = 1 then (T.1 : Int) else -1))] (fun m => ac_RM m 105 s T hs (if a1 = 0 then some T else s0) (if a1 = 1 then some T else s1) obs ch ∧ ac_fM m1 m 105)) := by
    intro m1 w1
    clear e1
    by_cases hz : a1 = 0
    · subst hz
      rw [show (if (0 : Int) = 0 ∨ (0 : Int) = 1 then (T.1 : Int) else -1) = (T.1 : Int) from if_pos (Or.inl rfl), show (if (0 : Int) = 0 then some T else s0) = some T from if_pos rfl, show (if (0 : Int) = 1 then some T else s1) = s1 from if_neg (by decide)]
      exact k_X7_keep0 (by omega) hM w1
    · by_cases hy : a1 = 1
      · subst hy
        rw [show (if (1 : Int) = 0 ∨ (1 : Int) = 1 then (T.1 : Int) else -1) = (T.1 : Int) from if_pos (Or.inr rfl), show (if (1 : Int) = 0 then some T else s0) = s0 from if_neg (by decide), show (if (1 : Int) = 1 then some T else s1) = some T from if_pos rfl]
        exact k_X7_keep1 (by omega) hM w1
      · rw [if_neg (show ¬ (a1 = 0 ∨ a1 = 1) from fun q => q.elim hz hy), if_neg hz, if_neg hy]
        exact k_X7_keepu (by omega) hM w1 n1 (fun q => q.elim hz hy)
  refine ac_aload_n (q := 905) dL_law_904 rfl rfl ?_
  refine ac_aload_a (q := 906) dL_law_905 rfl rfl ?_
  refine ac_iload_n (q := 907) dL_law_906 rfl rfl ?_
  refine ac_iconst (q := 908) dL_law_907 rfl ?_
  refine ac_iadd (q := 909) dL_law_908 rfl ?_
  refine ac_script (q := 910) (j := i + 1) (v := a1) dL_law_909 hL (by omega) e1 rfl ?_
  refine ac_cv (q := 913) (k_X6_keep (x := 1) (d := d - 1) (by omega) hA rA n1) ml_L_124 hA.1.1 dL_law_910 rfl rfl rfl (by omega) (Nat.le_of_ble_eq_true rfl) hck hcn (fun m1 h1 => ?_)
  obtain ⟨r1, f1⟩ := h1
  have w1 := ac_RM_ff rM (fun k a b => f1 k (Or.inr (by omega)))
  refine ac_aload_n (q := 914) dL_law_913 rfl rfl ?_
  refine ac_aload_a (q := 915) dL_law_914 rfl rfl ?_
  refine ac_iload_n (q := 916) dL_law_915 rfl rfl ?_
  refine ac_iconst (q := 917) dL_law_916 rfl ?_
  refine ac_iadd (q := 918) dL_law_917 rfl ?_
  refine ac_script (q := 919) (j := i + 1) (v := a1) dL_law_918 hL (by omega) e1 rfl ?_
  refine ac_cv (q := 922) (k7 m1 w1) ml_L_127 hM.2.1 dL_law_919 rfl rfl rfl (by omega) (Nat.le_of_ble_eq_true rfl) hck hcn (fun m2 h2 => ?_)
  obtain ⟨r2, f2⟩ := h2
  have w2 := ac_RA_ff r1 (fun k a b => f2 k (Or.inl (by omega)))
  refine ac_same (tgt := 973) dL_law_922 rfl ?_
  exact next m2 ⟨_, _, _, _, _, _, _, w2, r2, o1, o2, ac_ite_oko (fun _ T2 h2 => by cases h2; exact o1) o3, ac_ite_oko (fun _ T2 h2 => by cases h2; exact o1) o4⟩

set_option maxHeartbeats 4000000 in
theorem L_again {G : ac_G} {Y : ac_Y} {nm : String} {d MC MS ck cn i : Nat} {P : ac_P} {m : ac_M} (hd : 31 ≤ d) (hck : ck ≤ MC) (hcn : cn ≤ MS) (hA : ac_isA Y 1) (hM : ac_isM Y 105) (hL : G.2.2.2.2.2.2.1 < 2147483648) (hxs : ∀ j, ac_in (G.2.2.2.2.2.2.2 j)) (hi : i + 5 ≤ G.2.2.2.2.2.2.1) (hv : ac_iv m) (next : ∀ m', ac_iv m' → ac_V G (RL, nm) cL_law 4 (some .boolean) d MC MS P ck cn Y m' 973 [(4, (G.2.2.2.2.2.1 : Int)), (2, ((1 : Nat) : Int)), (2, ((105 : Nat) : Int)), (0, (i : Int))] []) : ac_V G (RL, nm) cL_law 4 (some .boolean) d MC MS P ck cn Y m 927 [(4, (G.2.2.2.2.2.1 : Int)), (2, ((1 : Nat) : Int)), (2, ((105 : Nat) : Int)), (0, (i : Int))] [] := by
  obtain ⟨s, T, hs, s0, s1, obs, ch, rA, rM, o1, o2, o3, o4⟩ := hv
  obtain ⟨a1, e1⟩ : ∃ a, a = G.2.2.2.2.2.2.2 (i + 1) := ⟨_, rfl⟩
  have n1 : ac_in a1 := by rw [e1]; exact hxs _
  by_cases hz : a1 = 0
  · subst hz
    cases s0 with
    | none =>
      refine ac_aload_n (q := 928) dL_law_927 rfl rfl ?_
      refine ac_aload_a (q := 929) dL_law_928 rfl rfl ?_
      refine ac_iload_n (q := 930) dL_law_929 rfl rfl ?_
      refine ac_iconst (q := 931) dL_law_930 rfl ?_
      refine ac_iadd (q := 932) dL_law_931 rfl ?_
      refine ac_script (q := 933) (j := i + 1) (v := 0) dL_law_932 hL (by omega) e1 rfl ?_
      refine ac_cv (q := 936) (k_X6_again0n (x := 1) (d := d - 1) (by omega) hA rA ) ml_L_128 hA.1.1 dL_law_933 rfl rfl rfl (by omega) (Nat.le_of_ble_eq_true rfl) hck hcn (fun m1 h1 => ?_)
      obtain ⟨r1, f1⟩ := h1
      have w1 := ac_RM_ff rM (fun k a b => f1 k (Or.inr (by omega)))
      refine ac_aload_n (q := 937) dL_law_936 rfl rfl ?_
      refine ac_aload_a (q := 938) dL_law_937 rfl rfl ?_
      refine ac_iload_n (q := 939) dL_law_938 rfl rfl ?_
      refine ac_iconst (q := 940) dL_law_939 rfl ?_
      refine ac_iadd (q := 941) dL_law_940 rfl ?_
      refine ac_script (q := 942) (j := i + 1) (v := 0) dL_law_941 hL (by omega) e1 rfl ?_
      refine ac_cv (q := 945) (k_X7_again0n (T1 := T) (x := 105) (d := d - 1) (by omega) hM w1 ) ml_L_131 hM.2.1 dL_law_942 rfl rfl rfl (by omega) (Nat.le_of_ble_eq_true rfl) hck hcn (fun m2 h2 => ?_)
      obtain ⟨r2, f2⟩ := h2
      have w2 := ac_RA_ff r1 (fun k a b => f2 k (Or.inl (by omega)))
      refine ac_same (tgt := 973) dL_law_945 rfl ?_
      exact next m2 ⟨_, _, _, _, _, _, _, w2, r2, o1, o2, o3, o4⟩
    | some T1 =>
      refine ac_aload_n (q := 928) dL_law_927 rfl rfl ?_
      refine ac_aload_a (q := 929) dL_law_928 rfl rfl ?_
      refine ac_iload_n (q := 930) dL_law_929 rfl rfl ?_
      refine ac_iconst (q := 931) dL_law_930 rfl ?_
      refine ac_iadd (q := 932) dL_law_931 rfl ?_
      refine ac_script (q := 933) (j := i + 1) (v := 0) dL_law_932 hL (by omega) e1 rfl ?_
      refine ac_cv (q := 936) (k_X6_again0s (x := 1) (d := d - 1) (by omega) hA rA ) ml_L_128 hA.1.1 dL_law_933 rfl rfl rfl (by omega) (Nat.le_of_ble_eq_true rfl) hck hcn (fun m1 h1 => ?_)
      obtain ⟨r1, f1⟩ := h1
      have w1 := ac_RM_ff rM (fun k a b => f1 k (Or.inr (by omega)))
      refine ac_aload_n (q := 937) dL_law_936 rfl rfl ?_
      refine ac_aload_a (q := 938) dL_law_937 rfl rfl ?_
      refine ac_iload_n (q := 939) dL_law_938 rfl rfl ?_
      refine ac_iconst (q := 940) dL_law_939 rfl ?_
      refine ac_iadd (q := 941) dL_law_940 rfl ?_
      refine ac_script (q := 942) (j := i + 1) (v := 0) dL_law_941 hL (by omega) e1 rfl ?_
      refine ac_cv (q := 945) (k_X7_again0s (x := 105) (d := d - 1) (by omega) hM w1 ) ml_L_131 hM.2.1 dL_law_942 rfl rfl rfl (by omega) (Nat.le_of_ble_eq_true rfl) hck hcn (fun m2 h2 => ?_)
      obtain ⟨r2, f2⟩ := h2
      have w2 := ac_RA_ff r1 (fun k a b => f2 k (Or.inl (by omega)))
      refine ac_same (tgt := 973) dL_law_945 rfl ?_
      exact next m2 ⟨_, _, _, _, _, _, _, w2, r2, o3 T1 rfl, fun T2 h2 => (by cases h2), o3, o4⟩
  · by_cases hy : a1 = 1
    · subst hy
      cases s1 with
      | none =>
        refine ac_aload_n (q := 928) dL_law_927 rfl rfl ?_
        refine ac_aload_a (q := 929) dL_law_928 rfl rfl ?_
        refine ac_iload_n (q := 930) dL_law_929 rfl rfl ?_
        refine ac_iconst (q := 931) dL_law_930 rfl ?_
        refine ac_iadd (q := 932) dL_law_931 rfl ?_
        refine ac_script (q := 933) (j := i + 1) (v := 1) dL_law_932 hL (by omega) e1 rfl ?_
        refine ac_cv (q := 936) (k_X6_again1n (x := 1) (d := d - 1) (by omega) hA rA ) ml_L_128 hA.1.1 dL_law_933 rfl rfl rfl (by omega) (Nat.le_of_ble_eq_true rfl) hck hcn (fun m1 h1 => ?_)
        obtain ⟨r1, f1⟩ := h1
        have w1 := ac_RM_ff rM (fun k a b => f1 k (Or.inr (by omega)))
        refine ac_aload_n (q := 937) dL_law_936 rfl rfl ?_
        refine ac_aload_a (q := 938) dL_law_937 rfl rfl ?_
        refine ac_iload_n (q := 939) dL_law_938 rfl rfl ?_
        refine ac_iconst (q := 940) dL_law_939 rfl ?_
        refine ac_iadd (q := 941) dL_law_940 rfl ?_
        refine ac_script (q := 942) (j := i + 1) (v := 1) dL_law_941 hL (by omega) e1 rfl ?_
        refine ac_cv (q := 945) (k_X7_again1n (T1 := T) (x := 105) (d := d - 1) (by omega) hM w1 ) ml_L_131 hM.2.1 dL_law_942 rfl rfl rfl (by omega) (Nat.le_of_ble_eq_true rfl) hck hcn (fun m2 h2 => ?_)
        obtain ⟨r2, f2⟩ := h2
        have w2 := ac_RA_ff r1 (fun k a b => f2 k (Or.inl (by omega)))
        refine ac_same (tgt := 973) dL_law_945 rfl ?_
        exact next m2 ⟨_, _, _, _, _, _, _, w2, r2, o1, o2, o3, o4⟩
      | some T1 =>
        refine ac_aload_n (q := 928) dL_law_927 rfl rfl ?_
        refine ac_aload_a (q := 929) dL_law_928 rfl rfl ?_
        refine ac_iload_n (q := 930) dL_law_929 rfl rfl ?_
        refine ac_iconst (q := 931) dL_law_930 rfl ?_
        refine ac_iadd (q := 932) dL_law_931 rfl ?_
        refine ac_script (q := 933) (j := i + 1) (v := 1) dL_law_932 hL (by omega) e1 rfl ?_
        refine ac_cv (q := 936) (k_X6_again1s (x := 1) (d := d - 1) (by omega) hA rA ) ml_L_128 hA.1.1 dL_law_933 rfl rfl rfl (by omega) (Nat.le_of_ble_eq_true rfl) hck hcn (fun m1 h1 => ?_)
        obtain ⟨r1, f1⟩ := h1
        have w1 := ac_RM_ff rM (fun k a b => f1 k (Or.inr (by omega)))
        refine ac_aload_n (q := 937) dL_law_936 rfl rfl ?_
        refine ac_aload_a (q := 938) dL_law_937 rfl rfl ?_
        refine ac_iload_n (q := 939) dL_law_938 rfl rfl ?_
        refine ac_iconst (q := 940) dL_law_939 rfl ?_
        refine ac_iadd (q := 941) dL_law_940 rfl ?_
        refine ac_script (q := 942) (j := i + 1) (v := 1) dL_law_941 hL (by omega) e1 rfl ?_
        refine ac_cv (q := 945) (k_X7_again1s (x := 105) (d := d - 1) (by omega) hM w1 ) ml_L_131 hM.2.1 dL_law_942 rfl rfl rfl (by omega) (Nat.le_of_ble_eq_true rfl) hck hcn (fun m2 h2 => ?_)
        obtain ⟨r2, f2⟩ := h2
        have w2 := ac_RA_ff r1 (fun k a b => f2 k (Or.inl (by omega)))
        refine ac_same (tgt := 973) dL_law_945 rfl ?_
        exact next m2 ⟨_, _, _, _, _, _, _, w2, r2, o4 T1 rfl, fun T2 h2 => (by cases h2), o3, o4⟩
    · refine ac_aload_n (q := 928) dL_law_927 rfl rfl ?_
      refine ac_aload_a (q := 929) dL_law_928 rfl rfl ?_
      refine ac_iload_n (q := 930) dL_law_929 rfl rfl ?_
      refine ac_iconst (q := 931) dL_law_930 rfl ?_
      refine ac_iadd (q := 932) dL_law_931 rfl ?_
      refine ac_script (q := 933) (j := i + 1) (v := a1) dL_law_932 hL (by omega) e1 rfl ?_
      refine ac_cv (q := 936) (k_X6_againu (x := 1) (d := d - 1) (by omega) hA rA n1 (fun q => q.elim hz hy)) ml_L_128 hA.1.1 dL_law_933 rfl rfl rfl (by omega) (Nat.le_of_ble_eq_true rfl) hck hcn (fun m1 h1 => ?_)
      obtain ⟨r1, f1⟩ := h1
      have w1 := ac_RM_ff rM (fun k a b => f1 k (Or.inr (by omega)))
      refine ac_aload_n (q := 937) dL_law_936 rfl rfl ?_
      refine ac_aload_a (q := 938) dL_law_937 rfl rfl ?_
      refine ac_iload_n (q := 939) dL_law_938 rfl rfl ?_
      refine ac_iconst (q := 940) dL_law_939 rfl ?_
      refine ac_iadd (q := 941) dL_law_940 rfl ?_
      refine ac_script (q := 942) (j := i + 1) (v := a1) dL_law_941 hL (by omega) e1 rfl ?_
      refine ac_cv (q := 945) (k_X7_againu (x := 105) (d := d - 1) (by omega) hM w1 n1 (fun q => q.elim hz hy)) ml_L_131 hM.2.1 dL_law_942 rfl rfl rfl (by omega) (Nat.le_of_ble_eq_true rfl) hck hcn (fun m2 h2 => ?_)
      obtain ⟨r2, f2⟩ := h2
      have w2 := ac_RA_ff r1 (fun k a b => f2 k (Or.inl (by omega)))
      refine ac_same (tgt := 973) dL_law_945 rfl ?_
      exact next m2 ⟨_, _, _, _, _, _, _, w2, r2, o1, o2, o3, o4⟩

set_option maxHeartbeats 4000000 in
theorem L_count {G : ac_G} {Y : ac_Y} {nm : String} {d MC MS ck cn i : Nat} {P : ac_P} {m : ac_M} (hd : 31 ≤ d) (hck : ck ≤ MC) (hcn : cn ≤ MS) (hA : ac_isA Y 1) (hM : ac_isM Y 105) (hL : G.2.2.2.2.2.2.1 < 2147483648) (hxs : ∀ j, ac_in (G.2.2.2.2.2.2.2 j)) (hi : i + 5 ≤ G.2.2.2.2.2.2.1) (hv : ac_iv m) (next : ∀ m', ac_iv m' → ac_V G (RL, nm) cL_law 4 (some .boolean) d MC MS P ck cn Y m' 973 [(4, (G.2.2.2.2.2.1 : Int)), (2, ((1 : Nat) : Int)), (2, ((105 : Nat) : Int)), (0, (i : Int))] []) : ac_V G (RL, nm) cL_law 4 (some .boolean) d MC MS P ck cn Y m 950 [(4, (G.2.2.2.2.2.1 : Int)), (2, ((1 : Nat) : Int)), (2, ((105 : Nat) : Int)), (0, (i : Int))] [] := by
  obtain ⟨s, T, hs, s0, s1, obs, ch, rA, rM, o1, o2, o3, o4⟩ := hv
  obtain ⟨a1, e1⟩ : ∃ a, a = G.2.2.2.2.2.2.2 (i + 1) := ⟨_, rfl⟩
  have n1 : ac_in a1 := by rw [e1]; exact hxs _
  refine ac_aload_n (q := 951) dL_law_950 rfl rfl ?_
  refine ac_aload_a (q := 952) dL_law_951 rfl rfl ?_
  refine ac_iload_n (q := 953) dL_law_952 rfl rfl ?_
  refine ac_iconst (q := 954) dL_law_953 rfl ?_
  refine ac_iadd (q := 955) dL_law_954 rfl ?_
  refine ac_script (q := 956) (j := i + 1) (v := a1) dL_law_955 hL (by omega) e1 rfl ?_
  refine ac_cv (q := 959) (k_X6_count (x := 1) (d := d - 1) (by omega) hA rA n1) ml_L_132 hA.1.1 dL_law_956 rfl rfl rfl (by omega) (Nat.le_of_ble_eq_true rfl) hck hcn (fun m1 h1 => ?_)
  obtain ⟨r1, f1⟩ := h1
  have w1 := ac_RM_ff rM (fun k a b => f1 k (Or.inr (by omega)))
  refine ac_aload_n (q := 960) dL_law_959 rfl rfl ?_
  refine ac_aload_a (q := 961) dL_law_960 rfl rfl ?_
  refine ac_iload_n (q := 962) dL_law_961 rfl rfl ?_
  refine ac_iconst (q := 963) dL_law_962 rfl ?_
  refine ac_iadd (q := 964) dL_law_963 rfl ?_
  refine ac_script (q := 965) (j := i + 1) (v := a1) dL_law_964 hL (by omega) e1 rfl ?_
  refine ac_cv (q := 968) (k_X7_count (x := 105) (d := d - 1) (by omega) hM w1 n1) ml_L_135 hM.2.1 dL_law_965 rfl rfl rfl (by omega) (Nat.le_of_ble_eq_true rfl) hck hcn (fun m2 h2 => ?_)
  obtain ⟨r2, f2⟩ := h2
  have w2 := ac_RA_ff r1 (fun k a b => f2 k (Or.inl (by omega)))
  refine ac_same (tgt := 973) dL_law_968 rfl ?_
  exact next m2 ⟨_, _, _, _, _, _, _, w2, r2, o1, o2, o3, o4⟩
