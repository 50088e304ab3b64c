/-! the reference: judging, keeping the best, filling late -/
set_option maxHeartbeats 4000000 in
set_option maxRecDepth 100000 in
theorem c_X5_judge (l : Launch) (D : va_G) (cA : Nat → ClassId) (ar : Nat → Nat) (M : Nat → Nat → Int32) (a f b : Nat) (ha : a < 20) (hf : f < 5) (hb : b < 5) : Cg l D cA yX5_judge cX5_judge 9 none 1 0 0 ([.ref (ar 100), .int (nI a), .int (nI f), .int (nI b)] : List Value) (wR cA ar M) (fun (r : Option Value) (u : Nat → Nat → Int32) => r = none ∧ u = jdg M a f b) (fun u : Nat → Nat → Int32 => wR cA ar u) := by
  refine x_met (by decide +kernel) rfl (Nat.le_of_ble_eq_true rfl) ?_
  intro xp xe xs xm xbl xme xco F hnm
  refine x_lv [(0, .ref (ar 100)), (1, .int (nI a)), (2, .int (nI f)), (3, .int (nI b))] [0, 1, 2, 3] rfl ?_
  refine x_aload_n F 0 dX5_judge_0 rfl ?_
  refine x_iconst F (nI 0) dX5_judge_1 (by decide +kernel) ?_
  refine x_put F inUX5 tyX5_ok nmX5 0 15 (wR cA ar (st2 M 15 0 (nI 0))) rfl rfl (by decide) wfX5_119 rfl rfl rfl rfl (Nat.le_of_ble_eq_true rfl) rfl dX5_judge_2 ?_
  refine x_aload_n F 0 dX5_judge_5 rfl ?_
  refine x_iconst F (nI 0) dX5_judge_6 (by decide +kernel) ?_
  refine x_put F inUX5 tyX5_ok nmX5 0 16 (wR cA ar (st2 (st2 M 15 0 (nI 0)) 16 0 (nI 0))) rfl rfl (by decide) wfX5_122 rfl rfl rfl rfl (Nat.le_of_ble_eq_true rfl) rfl dX5_judge_7 ?_
  refine x_iconst F (nI 0) dX5_judge_10 (by decide +kernel) ?_
  refine x_istore F [(4, .int (nI 0)), (0, .ref (ar 100)), (1, .int (nI a)), (2, .int (nI f)), (3, .int (nI b))] dX5_judge_11 (by decide) rfl ?_
  refine x_ws (wR cA ar (jst M (nI 0) (nI 0))) rfl ?_
  refine x_lv [(0, .ref (ar 100)), (1, .int (nI a)), (2, .int (nI f)), (3, .int (nI b)), (4, .int (nI 0))] [1, 2, 3, 4, 0] rfl ?_
  have loop13 : ∀ (nn13 : Nat) (x : Nat) (v : Int32), (x ≤ 6) → (v = ovR M a f b x) → (6 - x < nn13) → Wx xp l xe (rmL 1 0 0) xs xm ([.ref (ar 100), .int (nI a), .int (nI f), .int (nI b)] : List Value).toArray xbl xme xco 0 0 (xQ xbl D (wR cA ar M) xs ([.ref (ar 100), .int (nI a), .int (nI f), .int (nI b)] : List Value).toArray 0 0 (fun (r : Option Value) (u : Nat → Nat → Int32) => r = none ∧ u = jdg M a f b) (fun u : Nat → Nat → Int32 => wR cA ar u)) 9 D (va_A (wR cA ar M) xs.heap.size) 13 [(0, .ref (ar 100)), (1, .int (nI a)), (2, .int (nI f)), (3, .int (nI b)), (4, .int (nI x))] [] (wR cA ar (jst M v (nI 0))) := by
    intro nn13
    induction nn13 with
    | zero =>
      intro x v hx ev hm13
      exact absurd hm13 (Nat.not_lt_zero _)
    | succ nn13 ih13 =>
      intro x v hx ev hm13
      refine x_iload F 4 dX5_judge_13 rfl ?_
      refine x_bipush F (nI 6) dX5_judge_15 (by decide +kernel) ?_
      refine x_icmp_ge F 139 dX5_judge_17 (by decide) (fun h17 => ?_) (fun h17 => ?_)
      · have h17n : 6 ≤ x := (nI_leI (by decide) (by omega)).mp h17
        obtain rfl : 6 = x := by omega
        refine x_iconst F (nI 0) dX5_judge_139 (by decide +kernel) ?_
        refine x_istore F [(4, .int (nI 0)), (0, .ref (ar 100)), (1, .int (nI a)), (2, .int (nI f)), (3, .int (nI b))] dX5_judge_140 (by decide) rfl ?_
        have ev6 : v = hdR M a f b 0 := ev
        refine x_lv [(0, .ref (ar 100)), (1, .int (nI a)), (2, .int (nI f)), (3, .int (nI b)), (4, .int (nI 0))] [1, 2, 3, 4, 0] rfl ?_
        have loop142 : ∀ (nn142 : Nat) (y : Nat) (h : Int32) (t : Int32), (y ≤ 16) → (h = hdR M a f b y) → (t = sfR M a f b y) → (16 - y < nn142) → Wx xp l xe (rmL 1 0 0) xs xm ([.ref (ar 100), .int (nI a), .int (nI f), .int (nI b)] : List Value).toArray xbl xme xco 0 0 (xQ xbl D (wR cA ar M) xs ([.ref (ar 100), .int (nI a), .int (nI f), .int (nI b)] : List Value).toArray 0 0 (fun (r : Option Value) (u : Nat → Nat → Int32) => r = none ∧ u = jdg M a f b) (fun u : Nat → Nat → Int32 => wR cA ar u)) 9 D (va_A (wR cA ar M) xs.heap.size) 142 [(0, .ref (ar 100)), (1, .int (nI a)), (2, .int (nI f)), (3, .int (nI b)), (4, .int (nI y))] [] (wR cA ar (jst M h t)) := by
          intro nn142
          induction nn142 with
          | zero =>
            intro y h t hy eh es hm142
            exact absurd hm142 (Nat.not_lt_zero _)
          | succ nn142 ih142 =>
            intro y h t hy eh es hm142
            refine x_iload F 4 dX5_judge_142 rfl ?_
            refine x_bipush F (nI 16) dX5_judge_144 (by decide +kernel) ?_
            refine x_icmp_ge F 359 dX5_judge_146 (by decide) (fun h146 => ?_) (fun h146 => ?_)
            · have h146n : 16 ≤ y := (nI_leI (by decide) (by omega)).mp h146
              obtain rfl : 16 = y := by omega
              exact x_vret F (jst M h t) (⟨rfl, by unfold jdg; rw [eh, es]⟩) (rfl) (by omega) (by omega) dX5_judge_359
            · have h146n : ¬ 16 ≤ y := fun z => h146 ((nI_leI (by decide) (by omega)).mpr z)
              refine x_aload_n F 0 dX5_judge_149 rfl ?_
              refine x_get F inUX5 0 6 rfl rfl (by decide) wfX5_25 rfl dX5_judge_150 ?_
              refine x_bipush F (nI 16) dX5_judge_153 (by decide +kernel) ?_
              refine x_iload_n F 2 dX5_judge_155 rfl ?_
              refine x_imul F (nI (16 * f)) dX5_judge_156 (pk_mul _ _) ?_
              refine x_iload F 4 dX5_judge_157 rfl ?_
              refine x_iadd F (nI ((16 * f) + y)) dX5_judge_159 (nI_add _ _) ?_
              refine x_zald F 6 (k := (16 * f) + y) rfl (by omega) (by decide) dX5_judge_160 ?_
              refine x_top (M 6 ((16 * f) + y)) (rfl) ?_
              refine x_if_ne F 167 dX5_judge_161 (by decide) (fun h161 => ?_) (fun h161 => ?_)
              · refine x_aload_n F 0 dX5_judge_167 rfl ?_
                refine x_iload_n F 1 dX5_judge_168 rfl ?_
                refine x_iload F 4 dX5_judge_169 rfl ?_
                refine x_iload_n F 3 dX5_judge_171 rfl ?_
                refine x_callVr F [] [0, 1, 2, 3, 4, 5, 6, 7, 8, 9, 10, 11, 12, 13, 14, 15, 16, 17, 18, 19, 20, 21, 22, 23, 24, 25] (c_X5_roomOf l D cA ar (jst M h t) a y b (by omega) (by omega) (by omega)) mwX5_roomOf wmX5_125 rfl (q0 := 0) rfl rfl rfl (Nat.le_of_ble_eq_true rfl) ⟨by decide, by decide⟩ ⟨by show _ ≤ 0; omega, by show _ ≤ 0; omega⟩ rfl (by decide) dX5_judge_172 (fun r1 hp2 => ?_)
                subst hp2
                refine x_top (rmO M a b y) (rfl) ?_
                refine x_istore F [(5, .int (rmO M a b y)), (0, .ref (ar 100)), (1, .int (nI a)), (2, .int (nI f)), (3, .int (nI b)), (4, .int (nI y))] dX5_judge_175 (by decide) rfl ?_
                refine x_iload F 0 dX5_judge_177 rfl ?_
                refine x_aload_n F 1 dX5_judge_179 rfl ?_
                refine x_get F inUX5 0 9 rfl rfl (by decide) wfX5_35 rfl dX5_judge_180 ?_
                refine x_bipush F (nI 16) dX5_judge_183 (by decide +kernel) ?_
                refine x_iload_n F 3 dX5_judge_185 rfl ?_
                refine x_imul F (nI (16 * f)) dX5_judge_186 (pk_mul _ _) ?_
                refine x_iload F 5 dX5_judge_187 rfl ?_
                refine x_iadd F (nI ((16 * f) + y)) dX5_judge_189 (nI_add _ _) ?_
                refine x_iald F 9 (k := (16 * f) + y) rfl (by omega) (by decide) dX5_judge_190 ?_
                refine x_top (M 9 ((16 * f) + y)) (rfl) ?_
                refine x_isub F ((rmO M a b y) - (M 9 ((16 * f) + y))) dX5_judge_191 rfl ?_
                refine x_istore F [(6, .int ((rmO M a b y) - (M 9 ((16 * f) + y)))), (5, .int (rmO M a b y)), (0, .ref (ar 100)), (1, .int (nI a)), (2, .int (nI f)), (3, .int (nI b)), (4, .int (nI y))] dX5_judge_192 (by decide) rfl ?_
                refine x_aload_n F 2 dX5_judge_194 rfl ?_
                refine x_dup F dX5_judge_195 rfl ?_
                refine x_get F inUX5 0 16 rfl rfl (by decide) wfX5_122 rfl dX5_judge_196 ?_
                refine x_top t (rfl) ?_
                refine x_iload F 1 dX5_judge_199 rfl ?_
                refine x_iconst F (-1) dX5_judge_201 (by decide +kernel) ?_
                refine x_icmp_ne F 225 dX5_judge_202 (by decide) (fun h202 => ?_) (fun h202 => ?_)
                · refine x_aload_n F 2 dX5_judge_225 rfl ?_
                  refine x_get F inUX5 0 8 rfl rfl (by decide) wfX5_32 rfl dX5_judge_226 ?_
                  refine x_bipush F (nI 16) dX5_judge_229 (by decide +kernel) ?_
                  refine x_iload_n F 4 dX5_judge_231 rfl ?_
                  refine x_imul F (nI (16 * f)) dX5_judge_232 (pk_mul _ _) ?_
                  refine x_iload F 6 dX5_judge_233 rfl ?_
                  refine x_iadd F (nI ((16 * f) + y)) dX5_judge_235 (nI_add _ _) ?_
                  refine x_iald F 8 (k := (16 * f) + y) rfl (by omega) (by decide) dX5_judge_236 ?_
                  refine x_top (M 8 ((16 * f) + y)) (rfl) ?_
                  refine x_iload F 0 dX5_judge_237 rfl ?_
                  refine x_if_ge F 248 dX5_judge_239 (by decide) (fun h239 => ?_) (fun h239 => ?_)
                  · refine x_iload F 0 dX5_judge_248 rfl ?_
                    refine x_imul F ((M 8 ((16 * f) + y)) * ((rmO M a b y) - (M 9 ((16 * f) + y)))) dX5_judge_250 rfl ?_
                    refine x_iadd F (t + ((M 8 ((16 * f) + y)) * ((rmO M a b y) - (M 9 ((16 * f) + y))))) dX5_judge_251 rfl ?_
                    refine x_put F inUX5 tyX5_ok nmX5 0 16 (wR cA ar (st2 (jst M h t) 16 0 (t + ((M 8 ((16 * f) + y)) * ((rmO M a b y) - (M 9 ((16 * f) + y))))))) rfl rfl (by decide) wfX5_122 rfl rfl rfl rfl (Nat.le_of_ble_eq_true rfl) rfl dX5_judge_252 ?_
                    refine x_iconst F (nI 0) dX5_judge_255 (by decide +kernel) ?_
                    refine x_istore F [(7, .int (nI 0)), (6, .int ((rmO M a b y) - (M 9 ((16 * f) + y)))), (5, .int (rmO M a b y)), (0, .ref (ar 100)), (1, .int (nI a)), (2, .int (nI f)), (3, .int (nI b)), (4, .int (nI y))] dX5_judge_256 (by decide) rfl ?_
                    rw [jst_s]
                    obtain ⟨t2, et2⟩ : ∃ z, z = (t + ((M 8 ((16 * f) + y)) * ((rmO M a b y) - (M 9 ((16 * f) + y))))) := ⟨_, rfl⟩
                    rw [← et2]
                    have et : t2 = sfR M a f b y + (if rmO M a b y = (-1) then nI 7 * M 8 (16 * f + y) + nI 1 else M 8 (16 * f + y) * absI (rmO M a b y - M 9 (16 * f + y))) := by rw [et2, es]; rw [if_neg h202]; unfold absI; rw [if_pos h239]
                    refine x_lv [(0, .ref (ar 100)), (1, .int (nI a)), (2, .int (nI f)), (3, .int (nI b)), (4, .int (nI y)), (5, .int (rmO M a b y)), (7, .int (nI 0))] [3, 4, 5, 6, 7, 2, 0] rfl ?_
                    have loop258 : ∀ (nn258 : Nat) (z : Nat) (g : Int32), (z ≤ y) → (g = prI M a f b y h z) → (rmO M a b y = (-1) → g = h) → (y - z < nn258) → Wx xp l xe (rmL 1 0 0) xs xm ([.ref (ar 100), .int (nI a), .int (nI f), .int (nI b)] : List Value).toArray xbl xme xco 0 0 (xQ xbl D (wR cA ar M) xs ([.ref (ar 100), .int (nI a), .int (nI f), .int (nI b)] : List Value).toArray 0 0 (fun (r : Option Value) (u : Nat → Nat → Int32) => r = none ∧ u = jdg M a f b) (fun u : Nat → Nat → Int32 => wR cA ar u)) 9 D (va_A (wR cA ar M) xs.heap.size) 258 [(0, .ref (ar 100)), (1, .int (nI a)), (2, .int (nI f)), (3, .int (nI b)), (4, .int (nI y)), (5, .int (rmO M a b y)), (7, .int (nI z))] [] (wR cA ar (jst M g t2)) := by
                      intro nn258
                      induction nn258 with
                      | zero =>
                        intro z g hz eg2 hz0 hm258
                        exact absurd hm258 (Nat.not_lt_zero _)
                      | succ nn258 ih258 =>
                        intro z g hz eg2 hz0 hm258
                        refine x_iload F 6 dX5_judge_258 rfl ?_
                        refine x_iload F 4 dX5_judge_260 rfl ?_
                        refine x_icmp_ge F 353 dX5_judge_262 (by decide) (fun h262 => ?_) (fun h262 => ?_)
                        · have h262n : y ≤ z := (nI_leI (by omega) (by omega)).mp h262
                          obtain rfl : y = z := by omega
                          by_cases hno : rmO M a b y = (-1)
                          · have hgh : h = g := (hz0 hno).symm
                            subst hgh
                            refine x_iinc F (nI (y + 1)) 4 [(4, .int (nI (y + 1))), (0, .ref (ar 100)), (1, .int (nI a)), (2, .int (nI f)), (3, .int (nI b)), (5, .int (rmO M a b y)), (7, .int (nI y))] dX5_judge_353 rfl ((nI_add y 1)) (by decide) rfl ?_
                            refine x_goto F 142 dX5_judge_356 (by decide) ?_
                            refine x_lv [(0, .ref (ar 100)), (1, .int (nI a)), (2, .int (nI f)), (3, .int (nI b)), (4, .int (nI (y + 1)))] [1, 2, 3, 4, 0] rfl ?_
                            exact ih142 (y + 1) h t2 (by omega) (by unfold hdR; rw [if_neg h161, if_pos hno]; exact eh) (by unfold sfR; rw [if_neg h161]; exact et) (by omega)
                          · have eg : g = prI M a f b y (hdR M a f b y) y := by rw [eg2, eh]
                            refine x_iinc F (nI (y + 1)) 4 [(4, .int (nI (y + 1))), (0, .ref (ar 100)), (1, .int (nI a)), (2, .int (nI f)), (3, .int (nI b)), (5, .int (rmO M a b y)), (7, .int (nI y))] dX5_judge_353 rfl ((nI_add y 1)) (by decide) rfl ?_
                            refine x_goto F 142 dX5_judge_356 (by decide) ?_
                            refine x_lv [(0, .ref (ar 100)), (1, .int (nI a)), (2, .int (nI f)), (3, .int (nI b)), (4, .int (nI (y + 1)))] [1, 2, 3, 4, 0] rfl ?_
                            exact ih142 (y + 1) g t2 (by omega) (by unfold hdR; rw [if_neg h161, if_neg hno]; exact eg) (by unfold sfR; rw [if_neg h161]; exact et) (by omega)
                        · have h262n : ¬ y ≤ z := fun z => h262 ((nI_leI (by omega) (by omega)).mpr z)
                          refine x_iload F 5 dX5_judge_265 rfl ?_
                          refine x_iconst F (-1) dX5_judge_267 (by decide +kernel) ?_
                          refine x_icmp_eq F 353 dX5_judge_268 (by decide) (fun h268 => ?_) (fun h268 => ?_)
                          · have hno : rmO M a b y = (-1) := h268
                            have hgh : h = g := (hz0 hno).symm
                            subst hgh
                            refine x_iinc F (nI (y + 1)) 4 [(4, .int (nI (y + 1))), (0, .ref (ar 100)), (1, .int (nI a)), (2, .int (nI f)), (3, .int (nI b)), (5, .int (rmO M a b y)), (7, .int (nI z))] dX5_judge_353 rfl ((nI_add y 1)) (by decide) rfl ?_
                            refine x_goto F 142 dX5_judge_356 (by decide) ?_
                            refine x_lv [(0, .ref (ar 100)), (1, .int (nI a)), (2, .int (nI f)), (3, .int (nI b)), (4, .int (nI (y + 1)))] [1, 2, 3, 4, 0] rfl ?_
                            exact ih142 (y + 1) h t2 (by omega) (by unfold hdR; rw [if_neg h161, if_pos hno]; exact eh) (by unfold sfR; rw [if_neg h161]; exact et) (by omega)
                          · refine x_aload_n F 0 dX5_judge_271 rfl ?_
                            refine x_get F inUX5 0 6 rfl rfl (by decide) wfX5_25 rfl dX5_judge_272 ?_
                            refine x_bipush F (nI 16) dX5_judge_275 (by decide +kernel) ?_
                            refine x_iload_n F 2 dX5_judge_277 rfl ?_
                            refine x_imul F (nI (16 * f)) dX5_judge_278 (pk_mul _ _) ?_
                            refine x_iload F 6 dX5_judge_279 rfl ?_
                            refine x_iadd F (nI ((16 * f) + z)) dX5_judge_281 (nI_add _ _) ?_
                            refine x_zald F 6 (k := (16 * f) + z) rfl (by omega) (by decide) dX5_judge_282 ?_
                            refine x_top (M 6 ((16 * f) + z)) (rfl) ?_
                            refine x_if_eq F 324 dX5_judge_283 (by decide) (fun h283 => ?_) (fun h283 => ?_)
                            · refine x_iconst F (nI 0) dX5_judge_324 (by decide +kernel) ?_
                              refine x_istore F [(8, .int (nI 0)), (0, .ref (ar 100)), (1, .int (nI a)), (2, .int (nI f)), (3, .int (nI b)), (4, .int (nI y)), (5, .int (rmO M a b y)), (7, .int (nI z))] dX5_judge_325 (by decide) rfl ?_
                              refine x_aload_n F 1 dX5_judge_327 rfl ?_
                              refine x_dup F dX5_judge_328 rfl ?_
                              refine x_get F inUX5 0 15 rfl rfl (by decide) wfX5_119 rfl dX5_judge_329 ?_
                              refine x_top g (rfl) ?_
                              refine x_iload F 0 dX5_judge_332 rfl ?_
                              refine x_if_eq F 342 dX5_judge_334 (by decide) (fun h334 => ?_) (fun h334 => ?_)
                              · have h334n : 0 = 0 := (nI_eq (by decide) (by decide)).mp (h334.trans nI_0.symm)
                                refine x_iconst F (nI 0) dX5_judge_342 (by decide +kernel) ?_
                                refine x_iadd F (g + (nI 0)) dX5_judge_343 rfl ?_
                                refine x_put F inUX5 tyX5_ok nmX5 0 15 (wR cA ar (st2 (jst M g t2) 15 0 (g + (nI 0)))) rfl rfl (by decide) wfX5_119 rfl rfl rfl rfl (Nat.le_of_ble_eq_true rfl) rfl dX5_judge_344 ?_
                                refine x_iinc F (nI (z + 1)) 7 [(7, .int (nI (z + 1))), (8, .int (nI 0)), (0, .ref (ar 100)), (1, .int (nI a)), (2, .int (nI f)), (3, .int (nI b)), (4, .int (nI y)), (5, .int (rmO M a b y))] dX5_judge_347 rfl ((nI_add z 1)) (by decide) rfl ?_
                                refine x_goto F 258 dX5_judge_350 (by decide) ?_
                                rw [jst_h]
                                refine x_lv [(0, .ref (ar 100)), (1, .int (nI a)), (2, .int (nI f)), (3, .int (nI b)), (4, .int (nI y)), (5, .int (rmO M a b y)), (7, .int (nI (z + 1)))] [2, 3, 4, 5, 6, 7, 0] rfl ?_
                                exact ih258 (z + 1) (g + (nI 0)) (by omega) (by unfold prI; rw [eg2, if_neg (fun w => w.1 h283)]) (fun w => absurd w h268) (by omega)
                              · have h334n : ¬ 0 = 0 := fun z => h334 (((nI_eq (by decide) (by decide)).mpr z).trans nI_0)
                                exact absurd h334n (by decide)
                            · refine x_aload_n F 0 dX5_judge_286 rfl ?_
                              refine x_get F inUX5 0 11 rfl rfl (by decide) wfX5_41 rfl dX5_judge_287 ?_
                              refine x_bipush F (nI 16) dX5_judge_290 (by decide +kernel) ?_
                              refine x_iload_n F 2 dX5_judge_292 rfl ?_
                              refine x_imul F (nI (16 * f)) dX5_judge_293 (pk_mul _ _) ?_
                              refine x_iload F 4 dX5_judge_294 rfl ?_
                              refine x_iadd F (nI ((16 * f) + y)) dX5_judge_296 (nI_add _ _) ?_
                              refine x_iald F 11 (k := (16 * f) + y) rfl (by omega) (by decide) dX5_judge_297 ?_
                              refine x_top (M 11 ((16 * f) + y)) (rfl) ?_
                              refine x_iload F 6 dX5_judge_298 rfl ?_
                              refine x_ishr F ((M 11 ((16 * f) + y)) >>> ((nI z) &&& 31)) dX5_judge_300 rfl ?_
                              refine x_iconst F (nI 1) dX5_judge_301 (by decide +kernel) ?_
                              refine x_iand F (((M 11 ((16 * f) + y)) >>> ((nI z) &&& 31)) &&& (nI 1)) dX5_judge_302 rfl ?_
                              refine x_iconst F (nI 1) dX5_judge_303 (by decide +kernel) ?_
                              refine x_icmp_ne F 324 dX5_judge_304 (by decide) (fun h304 => ?_) (fun h304 => ?_)
                              · refine x_iconst F (nI 0) dX5_judge_324 (by decide +kernel) ?_
                                refine x_istore F [(8, .int (nI 0)), (0, .ref (ar 100)), (1, .int (nI a)), (2, .int (nI f)), (3, .int (nI b)), (4, .int (nI y)), (5, .int (rmO M a b y)), (7, .int (nI z))] dX5_judge_325 (by decide) rfl ?_
                                refine x_aload_n F 1 dX5_judge_327 rfl ?_
                                refine x_dup F dX5_judge_328 rfl ?_
                                refine x_get F inUX5 0 15 rfl rfl (by decide) wfX5_119 rfl dX5_judge_329 ?_
                                refine x_top g (rfl) ?_
                                refine x_iload F 0 dX5_judge_332 rfl ?_
                                refine x_if_eq F 342 dX5_judge_334 (by decide) (fun h334 => ?_) (fun h334 => ?_)
                                · have h334n : 0 = 0 := (nI_eq (by decide) (by decide)).mp (h334.trans nI_0.symm)
                                  refine x_iconst F (nI 0) dX5_judge_342 (by decide +kernel) ?_
                                  refine x_iadd F (g + (nI 0)) dX5_judge_343 rfl ?_
                                  refine x_put F inUX5 tyX5_ok nmX5 0 15 (wR cA ar (st2 (jst M g t2) 15 0 (g + (nI 0)))) rfl rfl (by decide) wfX5_119 rfl rfl rfl rfl (Nat.le_of_ble_eq_true rfl) rfl dX5_judge_344 ?_
                                  refine x_iinc F (nI (z + 1)) 7 [(7, .int (nI (z + 1))), (8, .int (nI 0)), (0, .ref (ar 100)), (1, .int (nI a)), (2, .int (nI f)), (3, .int (nI b)), (4, .int (nI y)), (5, .int (rmO M a b y))] dX5_judge_347 rfl ((nI_add z 1)) (by decide) rfl ?_
                                  refine x_goto F 258 dX5_judge_350 (by decide) ?_
                                  rw [jst_h]
                                  refine x_lv [(0, .ref (ar 100)), (1, .int (nI a)), (2, .int (nI f)), (3, .int (nI b)), (4, .int (nI y)), (5, .int (rmO M a b y)), (7, .int (nI (z + 1)))] [2, 3, 4, 5, 6, 7, 0] rfl ?_
                                  exact ih258 (z + 1) (g + (nI 0)) (by omega) (by unfold prI; rw [eg2, if_neg (fun w => h304 w.2.1)]) (fun w => absurd w h268) (by omega)
                                · have h334n : ¬ 0 = 0 := fun z => h334 (((nI_eq (by decide) (by decide)).mpr z).trans nI_0)
                                  exact absurd h334n (by decide)
                              · refine x_aload_n F 0 dX5_judge_307 rfl ?_
                                refine x_iload_n F 1 dX5_judge_308 rfl ?_
                                refine x_iload F 6 dX5_judge_309 rfl ?_
                                refine x_iload_n F 3 dX5_judge_311 rfl ?_
                                refine x_callVr F [] [0, 1, 2, 3, 4, 5, 6, 7, 8, 9, 10, 11, 12, 13, 14, 15, 16, 17, 18, 19, 20, 21, 22, 23, 24, 25] (c_X5_roomOf l D cA ar (jst M g t2) a z b (by omega) (by omega) (by omega)) mwX5_roomOf wmX5_125 rfl (q0 := 0) rfl rfl rfl (Nat.le_of_ble_eq_true rfl) ⟨by decide, by decide⟩ ⟨by show _ ≤ 0; omega, by show _ ≤ 0; omega⟩ rfl (by decide) dX5_judge_312 (fun r3 hp4 => ?_)
                                subst hp4
                                refine x_top (rmO M a b z) (rfl) ?_
                                refine x_iload F 5 dX5_judge_315 rfl ?_
                                refine x_icmp_ne F 324 dX5_judge_317 (by decide) (fun h317 => ?_) (fun h317 => ?_)
                                · refine x_iconst F (nI 0) dX5_judge_324 (by decide +kernel) ?_
                                  refine x_istore F [(8, .int (nI 0)), (0, .ref (ar 100)), (1, .int (nI a)), (2, .int (nI f)), (3, .int (nI b)), (4, .int (nI y)), (5, .int (rmO M a b y)), (7, .int (nI z))] dX5_judge_325 (by decide) rfl ?_
                                  refine x_aload_n F 1 dX5_judge_327 rfl ?_
                                  refine x_dup F dX5_judge_328 rfl ?_
                                  refine x_get F inUX5 0 15 rfl rfl (by decide) wfX5_119 rfl dX5_judge_329 ?_
                                  refine x_top g (rfl) ?_
                                  refine x_iload F 0 dX5_judge_332 rfl ?_
                                  refine x_if_eq F 342 dX5_judge_334 (by decide) (fun h334 => ?_) (fun h334 => ?_)
                                  · have h334n : 0 = 0 := (nI_eq (by decide) (by decide)).mp (h334.trans nI_0.symm)
                                    refine x_iconst F (nI 0) dX5_judge_342 (by decide +kernel) ?_
                                    refine x_iadd F (g + (nI 0)) dX5_judge_343 rfl ?_
                                    refine x_put F inUX5 tyX5_ok nmX5 0 15 (wR cA ar (st2 (jst M g t2) 15 0 (g + (nI 0)))) rfl rfl (by decide) wfX5_119 rfl rfl rfl rfl (Nat.le_of_ble_eq_true rfl) rfl dX5_judge_344 ?_
                                    refine x_iinc F (nI (z + 1)) 7 [(7, .int (nI (z + 1))), (8, .int (nI 0)), (0, .ref (ar 100)), (1, .int (nI a)), (2, .int (nI f)), (3, .int (nI b)), (4, .int (nI y)), (5, .int (rmO M a b y))] dX5_judge_347 rfl ((nI_add z 1)) (by decide) rfl ?_
                                    refine x_goto F 258 dX5_judge_350 (by decide) ?_
                                    rw [jst_h]
                                    refine x_lv [(0, .ref (ar 100)), (1, .int (nI a)), (2, .int (nI f)), (3, .int (nI b)), (4, .int (nI y)), (5, .int (rmO M a b y)), (7, .int (nI (z + 1)))] [2, 3, 4, 5, 6, 7, 0] rfl ?_
                                    exact ih258 (z + 1) (g + (nI 0)) (by omega) (by unfold prI; rw [eg2, if_neg (fun w => h317 w.2.2)]) (fun w => absurd w h268) (by omega)
                                  · have h334n : ¬ 0 = 0 := fun z => h334 (((nI_eq (by decide) (by decide)).mpr z).trans nI_0)
                                    exact absurd h334n (by decide)
                                · refine x_iconst F (nI 1) dX5_judge_320 (by decide +kernel) ?_
                                  refine x_goto F 325 dX5_judge_321 (by decide) ?_
                                  refine x_istore F [(8, .int (nI 1)), (0, .ref (ar 100)), (1, .int (nI a)), (2, .int (nI f)), (3, .int (nI b)), (4, .int (nI y)), (5, .int (rmO M a b y)), (7, .int (nI z))] dX5_judge_325 (by decide) rfl ?_
                                  refine x_aload_n F 1 dX5_judge_327 rfl ?_
                                  refine x_dup F dX5_judge_328 rfl ?_
                                  refine x_get F inUX5 0 15 rfl rfl (by decide) wfX5_119 rfl dX5_judge_329 ?_
                                  refine x_top g (rfl) ?_
                                  refine x_iload F 0 dX5_judge_332 rfl ?_
                                  refine x_if_eq F 342 dX5_judge_334 (by decide) (fun h334 => ?_) (fun h334 => ?_)
                                  · have h334n : 1 = 0 := (nI_eq (by decide) (by decide)).mp (h334.trans nI_0.symm)
                                    exact absurd h334n (by decide)
                                  · have h334n : ¬ 1 = 0 := fun z => h334 (((nI_eq (by decide) (by decide)).mpr z).trans nI_0)
                                    refine x_bipush F (nI 10) dX5_judge_337 (by decide +kernel) ?_
                                    refine x_goto F 343 dX5_judge_339 (by decide) ?_
                                    refine x_iadd F (g + (nI 10)) dX5_judge_343 rfl ?_
                                    refine x_put F inUX5 tyX5_ok nmX5 0 15 (wR cA ar (st2 (jst M g t2) 15 0 (g + (nI 10)))) rfl rfl (by decide) wfX5_119 rfl rfl rfl rfl (Nat.le_of_ble_eq_true rfl) rfl dX5_judge_344 ?_
                                    refine x_iinc F (nI (z + 1)) 7 [(7, .int (nI (z + 1))), (8, .int (nI 1)), (0, .ref (ar 100)), (1, .int (nI a)), (2, .int (nI f)), (3, .int (nI b)), (4, .int (nI y)), (5, .int (rmO M a b y))] dX5_judge_347 rfl ((nI_add z 1)) (by decide) rfl ?_
                                    refine x_goto F 258 dX5_judge_350 (by decide) ?_
                                    rw [jst_h]
                                    refine x_lv [(0, .ref (ar 100)), (1, .int (nI a)), (2, .int (nI f)), (3, .int (nI b)), (4, .int (nI y)), (5, .int (rmO M a b y)), (7, .int (nI (z + 1)))] [2, 3, 4, 5, 6, 7, 0] rfl ?_
                                    exact ih258 (z + 1) (g + (nI 10)) (by omega) (by unfold prI; rw [eg2, if_pos ⟨h283, h304, h317⟩]) (fun w => absurd w h268) (by omega)
                    exact loop258 _ 0 h (Nat.zero_le _) rfl (fun _ => rfl) (Nat.lt_succ_self _)
                  · refine x_iload F 0 dX5_judge_242 rfl ?_
                    refine x_ineg F (0 - ((rmO M a b y) - (M 9 ((16 * f) + y)))) dX5_judge_244 rfl ?_
                    refine x_goto F 250 dX5_judge_245 (by decide) ?_
                    refine x_imul F ((M 8 ((16 * f) + y)) * (0 - ((rmO M a b y) - (M 9 ((16 * f) + y))))) dX5_judge_250 rfl ?_
                    refine x_iadd F (t + ((M 8 ((16 * f) + y)) * (0 - ((rmO M a b y) - (M 9 ((16 * f) + y)))))) dX5_judge_251 rfl ?_
                    refine x_put F inUX5 tyX5_ok nmX5 0 16 (wR cA ar (st2 (jst M h t) 16 0 (t + ((M 8 ((16 * f) + y)) * (0 - ((rmO M a b y) - (M 9 ((16 * f) + y)))))))) rfl rfl (by decide) wfX5_122 rfl rfl rfl rfl (Nat.le_of_ble_eq_true rfl) rfl dX5_judge_252 ?_
                    refine x_iconst F (nI 0) dX5_judge_255 (by decide +kernel) ?_
                    refine x_istore F [(7, .int (nI 0)), (6, .int ((rmO M a b y) - (M 9 ((16 * f) + y)))), (5, .int (rmO M a b y)), (0, .ref (ar 100)), (1, .int (nI a)), (2, .int (nI f)), (3, .int (nI b)), (4, .int (nI y))] dX5_judge_256 (by decide) rfl ?_
                    rw [jst_s]
                    obtain ⟨t2, et2⟩ : ∃ z, z = (t + ((M 8 ((16 * f) + y)) * (0 - ((rmO M a b y) - (M 9 ((16 * f) + y)))))) := ⟨_, rfl⟩
                    rw [← et2]
                    have et : t2 = sfR M a f b y + (if rmO M a b y = (-1) then nI 7 * M 8 (16 * f + y) + nI 1 else M 8 (16 * f + y) * absI (rmO M a b y - M 9 (16 * f + y))) := by rw [et2, es]; rw [if_neg h202]; unfold absI; rw [if_neg h239]
                    refine x_lv [(0, .ref (ar 100)), (1, .int (nI a)), (2, .int (nI f)), (3, .int (nI b)), (4, .int (nI y)), (5, .int (rmO M a b y)), (7, .int (nI 0))] [3, 4, 5, 6, 7, 2, 0] rfl ?_
                    have loop258 : ∀ (nn258 : Nat) (z : Nat) (g : Int32), (z ≤ y) → (g = prI M a f b y h z) → (rmO M a b y = (-1) → g = h) → (y - z < nn258) → Wx xp l xe (rmL 1 0 0) xs xm ([.ref (ar 100), .int (nI a), .int (nI f), .int (nI b)] : List Value).toArray xbl xme xco 0 0 (xQ xbl D (wR cA ar M) xs ([.ref (ar 100), .int (nI a), .int (nI f), .int (nI b)] : List Value).toArray 0 0 (fun (r : Option Value) (u : Nat → Nat → Int32) => r = none ∧ u = jdg M a f b) (fun u : Nat → Nat → Int32 => wR cA ar u)) 9 D (va_A (wR cA ar M) xs.heap.size) 258 [(0, .ref (ar 100)), (1, .int (nI a)), (2, .int (nI f)), (3, .int (nI b)), (4, .int (nI y)), (5, .int (rmO M a b y)), (7, .int (nI z))] [] (wR cA ar (jst M g t2)) := by
                      intro nn258
                      induction nn258 with
                      | zero =>
                        intro z g hz eg2 hz0 hm258
                        exact absurd hm258 (Nat.not_lt_zero _)
                      | succ nn258 ih258 =>
                        intro z g hz eg2 hz0 hm258
                        refine x_iload F 6 dX5_judge_258 rfl ?_
                        refine x_iload F 4 dX5_judge_260 rfl ?_
                        refine x_icmp_ge F 353 dX5_judge_262 (by decide) (fun h262 => ?_) (fun h262 => ?_)
                        · have h262n : y ≤ z := (nI_leI (by omega) (by omega)).mp h262
                          obtain rfl : y = z := by omega
                          by_cases hno : rmO M a b y = (-1)
                          · have hgh : h = g := (hz0 hno).symm
                            subst hgh
                            refine x_iinc F (nI (y + 1)) 4 [(4, .int (nI (y + 1))), (0, .ref (ar 100)), (1, .int (nI a)), (2, .int (nI f)), (3, .int (nI b)), (5, .int (rmO M a b y)), (7, .int (nI y))] dX5_judge_353 rfl ((nI_add y 1)) (by decide) rfl ?_
                            refine x_goto F 142 dX5_judge_356 (by decide) ?_
                            refine x_lv [(0, .ref (ar 100)), (1, .int (nI a)), (2, .int (nI f)), (3, .int (nI b)), (4, .int (nI (y + 1)))] [1, 2, 3, 4, 0] rfl ?_
                            exact ih142 (y + 1) h t2 (by omega) (by unfold hdR; rw [if_neg h161, if_pos hno]; exact eh) (by unfold sfR; rw [if_neg h161]; exact et) (by omega)
                          · have eg : g = prI M a f b y (hdR M a f b y) y := by rw [eg2, eh]
                            refine x_iinc F (nI (y + 1)) 4 [(4, .int (nI (y + 1))), (0, .ref (ar 100)), (1, .int (nI a)), (2, .int (nI f)), (3, .int (nI b)), (5, .int (rmO M a b y)), (7, .int (nI y))] dX5_judge_353 rfl ((nI_add y 1)) (by decide) rfl ?_
                            refine x_goto F 142 dX5_judge_356 (by decide) ?_
                            refine x_lv [(0, .ref (ar 100)), (1, .int (nI a)), (2, .int (nI f)), (3, .int (nI b)), (4, .int (nI (y + 1)))] [1, 2, 3, 4, 0] rfl ?_
                            exact ih142 (y + 1) g t2 (by omega) (by unfold hdR; rw [if_neg h161, if_neg hno]; exact eg) (by unfold sfR; rw [if_neg h161]; exact et) (by omega)
                        · have h262n : ¬ y ≤ z := fun z => h262 ((nI_leI (by omega) (by omega)).mpr z)
                          refine x_iload F 5 dX5_judge_265 rfl ?_
                          refine x_iconst F (-1) dX5_judge_267 (by decide +kernel) ?_
                          refine x_icmp_eq F 353 dX5_judge_268 (by decide) (fun h268 => ?_) (fun h268 => ?_)
                          · have hno : rmO M a b y = (-1) := h268
                            have hgh : h = g := (hz0 hno).symm
                            subst hgh
                            refine x_iinc F (nI (y + 1)) 4 [(4, .int (nI (y + 1))), (0, .ref (ar 100)), (1, .int (nI a)), (2, .int (nI f)), (3, .int (nI b)), (5, .int (rmO M a b y)), (7, .int (nI z))] dX5_judge_353 rfl ((nI_add y 1)) (by decide) rfl ?_
                            refine x_goto F 142 dX5_judge_356 (by decide) ?_
                            refine x_lv [(0, .ref (ar 100)), (1, .int (nI a)), (2, .int (nI f)), (3, .int (nI b)), (4, .int (nI (y + 1)))] [1, 2, 3, 4, 0] rfl ?_
                            exact ih142 (y + 1) h t2 (by omega) (by unfold hdR; rw [if_neg h161, if_pos hno]; exact eh) (by unfold sfR; rw [if_neg h161]; exact et) (by omega)
                          · refine x_aload_n F 0 dX5_judge_271 rfl ?_
                            refine x_get F inUX5 0 6 rfl rfl (by decide) wfX5_25 rfl dX5_judge_272 ?_
                            refine x_bipush F (nI 16) dX5_judge_275 (by decide +kernel) ?_
                            refine x_iload_n F 2 dX5_judge_277 rfl ?_
                            refine x_imul F (nI (16 * f)) dX5_judge_278 (pk_mul _ _) ?_
                            refine x_iload F 6 dX5_judge_279 rfl ?_
                            refine x_iadd F (nI ((16 * f) + z)) dX5_judge_281 (nI_add _ _) ?_
                            refine x_zald F 6 (k := (16 * f) + z) rfl (by omega) (by decide) dX5_judge_282 ?_
                            refine x_top (M 6 ((16 * f) + z)) (rfl) ?_
                            refine x_if_eq F 324 dX5_judge_283 (by decide) (fun h283 => ?_) (fun h283 => ?_)
                            · refine x_iconst F (nI 0) dX5_judge_324 (by decide +kernel) ?_
                              refine x_istore F [(8, .int (nI 0)), (0, .ref (ar 100)), (1, .int (nI a)), (2, .int (nI f)), (3, .int (nI b)), (4, .int (nI y)), (5, .int (rmO M a b y)), (7, .int (nI z))] dX5_judge_325 (by decide) rfl ?_
                              refine x_aload_n F 1 dX5_judge_327 rfl ?_
                              refine x_dup F dX5_judge_328 rfl ?_
                              refine x_get F inUX5 0 15 rfl rfl (by decide) wfX5_119 rfl dX5_judge_329 ?_
                              refine x_top g (rfl) ?_
                              refine x_iload F 0 dX5_judge_332 rfl ?_
                              refine x_if_eq F 342 dX5_judge_334 (by decide) (fun h334 => ?_) (fun h334 => ?_)
                              · have h334n : 0 = 0 := (nI_eq (by decide) (by decide)).mp (h334.trans nI_0.symm)
                                refine x_iconst F (nI 0) dX5_judge_342 (by decide +kernel) ?_
                                refine x_iadd F (g + (nI 0)) dX5_judge_343 rfl ?_
                                refine x_put F inUX5 tyX5_ok nmX5 0 15 (wR cA ar (st2 (jst M g t2) 15 0 (g + (nI 0)))) rfl rfl (by decide) wfX5_119 rfl rfl rfl rfl (Nat.le_of_ble_eq_true rfl) rfl dX5_judge_344 ?_
                                refine x_iinc F (nI (z + 1)) 7 [(7, .int (nI (z + 1))), (8, .int (nI 0)), (0, .ref (ar 100)), (1, .int (nI a)), (2, .int (nI f)), (3, .int (nI b)), (4, .int (nI y)), (5, .int (rmO M a b y))] dX5_judge_347 rfl ((nI_add z 1)) (by decide) rfl ?_
                                refine x_goto F 258 dX5_judge_350 (by decide) ?_
                                rw [jst_h]
                                refine x_lv [(0, .ref (ar 100)), (1, .int (nI a)), (2, .int (nI f)), (3, .int (nI b)), (4, .int (nI y)), (5, .int (rmO M a b y)), (7, .int (nI (z + 1)))] [2, 3, 4, 5, 6, 7, 0] rfl ?_
                                exact ih258 (z + 1) (g + (nI 0)) (by omega) (by unfold prI; rw [eg2, if_neg (fun w => w.1 h283)]) (fun w => absurd w h268) (by omega)
                              · have h334n : ¬ 0 = 0 := fun z => h334 (((nI_eq (by decide) (by decide)).mpr z).trans nI_0)
                                exact absurd h334n (by decide)
                            · refine x_aload_n F 0 dX5_judge_286 rfl ?_
                              refine x_get F inUX5 0 11 rfl rfl (by decide) wfX5_41 rfl dX5_judge_287 ?_
                              refine x_bipush F (nI 16) dX5_judge_290 (by decide +kernel) ?_
                              refine x_iload_n F 2 dX5_judge_292 rfl ?_
                              refine x_imul F (nI (16 * f)) dX5_judge_293 (pk_mul _ _) ?_
                              refine x_iload F 4 dX5_judge_294 rfl ?_
                              refine x_iadd F (nI ((16 * f) + y)) dX5_judge_296 (nI_add _ _) ?_
                              refine x_iald F 11 (k := (16 * f) + y) rfl (by omega) (by decide) dX5_judge_297 ?_
                              refine x_top (M 11 ((16 * f) + y)) (rfl) ?_
                              refine x_iload F 6 dX5_judge_298 rfl ?_
                              refine x_ishr F ((M 11 ((16 * f) + y)) >>> ((nI z) &&& 31)) dX5_judge_300 rfl ?_
                              refine x_iconst F (nI 1) dX5_judge_301 (by decide +kernel) ?_
                              refine x_iand F (((M 11 ((16 * f) + y)) >>> ((nI z) &&& 31)) &&& (nI 1)) dX5_judge_302 rfl ?_
                              refine x_iconst F (nI 1) dX5_judge_303 (by decide +kernel) ?_
                              refine x_icmp_ne F 324 dX5_judge_304 (by decide) (fun h304 => ?_) (fun h304 => ?_)
                              · refine x_iconst F (nI 0) dX5_judge_324 (by decide +kernel) ?_
                                refine x_istore F [(8, .int (nI 0)), (0, .ref (ar 100)), (1, .int (nI a)), (2, .int (nI f)), (3, .int (nI b)), (4, .int (nI y)), (5, .int (rmO M a b y)), (7, .int (nI z))] dX5_judge_325 (by decide) rfl ?_
                                refine x_aload_n F 1 dX5_judge_327 rfl ?_
                                refine x_dup F dX5_judge_328 rfl ?_
                                refine x_get F inUX5 0 15 rfl rfl (by decide) wfX5_119 rfl dX5_judge_329 ?_
                                refine x_top g (rfl) ?_
                                refine x_iload F 0 dX5_judge_332 rfl ?_
                                refine x_if_eq F 342 dX5_judge_334 (by decide) (fun h334 => ?_) (fun h334 => ?_)
                                · have h334n : 0 = 0 := (nI_eq (by decide) (by decide)).mp (h334.trans nI_0.symm)
                                  refine x_iconst F (nI 0) dX5_judge_342 (by decide +kernel) ?_
                                  refine x_iadd F (g + (nI 0)) dX5_judge_343 rfl ?_
                                  refine x_put F inUX5 tyX5_ok nmX5 0 15 (wR cA ar (st2 (jst M g t2) 15 0 (g + (nI 0)))) rfl rfl (by decide) wfX5_119 rfl rfl rfl rfl (Nat.le_of_ble_eq_true rfl) rfl dX5_judge_344 ?_
                                  refine x_iinc F (nI (z + 1)) 7 [(7, .int (nI (z + 1))), (8, .int (nI 0)), (0, .ref (ar 100)), (1, .int (nI a)), (2, .int (nI f)), (3, .int (nI b)), (4, .int (nI y)), (5, .int (rmO M a b y))] dX5_judge_347 rfl ((nI_add z 1)) (by decide) rfl ?_
                                  refine x_goto F 258 dX5_judge_350 (by decide) ?_
                                  rw [jst_h]
                                  refine x_lv [(0, .ref (ar 100)), (1, .int (nI a)), (2, .int (nI f)), (3, .int (nI b)), (4, .int (nI y)), (5, .int (rmO M a b y)), (7, .int (nI (z + 1)))] [2, 3, 4, 5, 6, 7, 0] rfl ?_
                                  exact ih258 (z + 1) (g + (nI 0)) (by omega) (by unfold prI; rw [eg2, if_neg (fun w => h304 w.2.1)]) (fun w => absurd w h268) (by omega)
                                · have h334n : ¬ 0 = 0 := fun z => h334 (((nI_eq (by decide) (by decide)).mpr z).trans nI_0)
                                  exact absurd h334n (by decide)
                              · refine x_aload_n F 0 dX5_judge_307 rfl ?_
                                refine x_iload_n F 1 dX5_judge_308 rfl ?_
                                refine x_iload F 6 dX5_judge_309 rfl ?_
                                refine x_iload_n F 3 dX5_judge_311 rfl ?_
                                refine x_callVr F [] [0, 1, 2, 3, 4, 5, 6, 7, 8, 9, 10, 11, 12, 13, 14, 15, 16, 17, 18, 19, 20, 21, 22, 23, 24, 25] (c_X5_roomOf l D cA ar (jst M g t2) a z b (by omega) (by omega) (by omega)) mwX5_roomOf wmX5_125 rfl (q0 := 0) rfl rfl rfl (Nat.le_of_ble_eq_true rfl) ⟨by decide, by decide⟩ ⟨by show _ ≤ 0; omega, by show _ ≤ 0; omega⟩ rfl (by decide) dX5_judge_312 (fun r5 hp6 => ?_)
                                subst hp6
                                refine x_top (rmO M a b z) (rfl) ?_
                                refine x_iload F 5 dX5_judge_315 rfl ?_
                                refine x_icmp_ne F 324 dX5_judge_317 (by decide) (fun h317 => ?_) (fun h317 => ?_)
                                · refine x_iconst F (nI 0) dX5_judge_324 (by decide +kernel) ?_
                                  refine x_istore F [(8, .int (nI 0)), (0, .ref (ar 100)), (1, .int (nI a)), (2, .int (nI f)), (3, .int (nI b)), (4, .int (nI y)), (5, .int (rmO M a b y)), (7, .int (nI z))] dX5_judge_325 (by decide) rfl ?_
                                  refine x_aload_n F 1 dX5_judge_327 rfl ?_
                                  refine x_dup F dX5_judge_328 rfl ?_
                                  refine x_get F inUX5 0 15 rfl rfl (by decide) wfX5_119 rfl dX5_judge_329 ?_
                                  refine x_top g (rfl) ?_
                                  refine x_iload F 0 dX5_judge_332 rfl ?_
                                  refine x_if_eq F 342 dX5_judge_334 (by decide) (fun h334 => ?_) (fun h334 => ?_)
                                  · have h334n : 0 = 0 := (nI_eq (by decide) (by decide)).mp (h334.trans nI_0.symm)
                                    refine x_iconst F (nI 0) dX5_judge_342 (by decide +kernel) ?_
                                    refine x_iadd F (g + (nI 0)) dX5_judge_343 rfl ?_
                                    refine x_put F inUX5 tyX5_ok nmX5 0 15 (wR cA ar (st2 (jst M g t2) 15 0 (g + (nI 0)))) rfl rfl (by decide) wfX5_119 rfl rfl rfl rfl (Nat.le_of_ble_eq_true rfl) rfl dX5_judge_344 ?_
                                    refine x_iinc F (nI (z + 1)) 7 [(7, .int (nI (z + 1))), (8, .int (nI 0)), (0, .ref (ar 100)), (1, .int (nI a)), (2, .int (nI f)), (3, .int (nI b)), (4, .int (nI y)), (5, .int (rmO M a b y))] dX5_judge_347 rfl ((nI_add z 1)) (by decide) rfl ?_
                                    refine x_goto F 258 dX5_judge_350 (by decide) ?_
                                    rw [jst_h]
                                    refine x_lv [(0, .ref (ar 100)), (1, .int (nI a)), (2, .int (nI f)), (3, .int (nI b)), (4, .int (nI y)), (5, .int (rmO M a b y)), (7, .int (nI (z + 1)))] [2, 3, 4, 5, 6, 7, 0] rfl ?_
                                    exact ih258 (z + 1) (g + (nI 0)) (by omega) (by unfold prI; rw [eg2, if_neg (fun w => h317 w.2.2)]) (fun w => absurd w h268) (by omega)
                                  · have h334n : ¬ 0 = 0 := fun z => h334 (((nI_eq (by decide) (by decide)).mpr z).trans nI_0)
                                    exact absurd h334n (by decide)
                                · refine x_iconst F (nI 1) dX5_judge_320 (by decide +kernel) ?_
                                  refine x_goto F 325 dX5_judge_321 (by decide) ?_
                                  refine x_istore F [(8, .int (nI 1)), (0, .ref (ar 100)), (1, .int (nI a)), (2, .int (nI f)), (3, .int (nI b)), (4, .int (nI y)), (5, .int (rmO M a b y)), (7, .int (nI z))] dX5_judge_325 (by decide) rfl ?_
                                  refine x_aload_n F 1 dX5_judge_327 rfl ?_
                                  refine x_dup F dX5_judge_328 rfl ?_
                                  refine x_get F inUX5 0 15 rfl rfl (by decide) wfX5_119 rfl dX5_judge_329 ?_
                                  refine x_top g (rfl) ?_
                                  refine x_iload F 0 dX5_judge_332 rfl ?_
                                  refine x_if_eq F 342 dX5_judge_334 (by decide) (fun h334 => ?_) (fun h334 => ?_)
                                  · have h334n : 1 = 0 := (nI_eq (by decide) (by decide)).mp (h334.trans nI_0.symm)
                                    exact absurd h334n (by decide)
                                  · have h334n : ¬ 1 = 0 := fun z => h334 (((nI_eq (by decide) (by decide)).mpr z).trans nI_0)
                                    refine x_bipush F (nI 10) dX5_judge_337 (by decide +kernel) ?_
                                    refine x_goto F 343 dX5_judge_339 (by decide) ?_
                                    refine x_iadd F (g + (nI 10)) dX5_judge_343 rfl ?_
                                    refine x_put F inUX5 tyX5_ok nmX5 0 15 (wR cA ar (st2 (jst M g t2) 15 0 (g + (nI 10)))) rfl rfl (by decide) wfX5_119 rfl rfl rfl rfl (Nat.le_of_ble_eq_true rfl) rfl dX5_judge_344 ?_
                                    refine x_iinc F (nI (z + 1)) 7 [(7, .int (nI (z + 1))), (8, .int (nI 1)), (0, .ref (ar 100)), (1, .int (nI a)), (2, .int (nI f)), (3, .int (nI b)), (4, .int (nI y)), (5, .int (rmO M a b y))] dX5_judge_347 rfl ((nI_add z 1)) (by decide) rfl ?_
                                    refine x_goto F 258 dX5_judge_350 (by decide) ?_
                                    rw [jst_h]
                                    refine x_lv [(0, .ref (ar 100)), (1, .int (nI a)), (2, .int (nI f)), (3, .int (nI b)), (4, .int (nI y)), (5, .int (rmO M a b y)), (7, .int (nI (z + 1)))] [2, 3, 4, 5, 6, 7, 0] rfl ?_
                                    exact ih258 (z + 1) (g + (nI 10)) (by omega) (by unfold prI; rw [eg2, if_pos ⟨h283, h304, h317⟩]) (fun w => absurd w h268) (by omega)
                    exact loop258 _ 0 h (Nat.zero_le _) rfl (fun _ => rfl) (Nat.lt_succ_self _)
                · refine x_bipush F (nI 7) dX5_judge_205 (by decide +kernel) ?_
                  refine x_aload_n F 2 dX5_judge_207 rfl ?_
                  refine x_get F inUX5 0 8 rfl rfl (by decide) wfX5_32 rfl dX5_judge_208 ?_
                  refine x_bipush F (nI 16) dX5_judge_211 (by decide +kernel) ?_
                  refine x_iload_n F 4 dX5_judge_213 rfl ?_
                  refine x_imul F (nI (16 * f)) dX5_judge_214 (pk_mul _ _) ?_
                  refine x_iload F 6 dX5_judge_215 rfl ?_
                  refine x_iadd F (nI ((16 * f) + y)) dX5_judge_217 (nI_add _ _) ?_
                  refine x_iald F 8 (k := (16 * f) + y) rfl (by omega) (by decide) dX5_judge_218 ?_
                  refine x_top (M 8 ((16 * f) + y)) (rfl) ?_
                  refine x_imul F ((nI 7) * (M 8 ((16 * f) + y))) dX5_judge_219 rfl ?_
                  refine x_iconst F (nI 1) dX5_judge_220 (by decide +kernel) ?_
                  refine x_iadd F (((nI 7) * (M 8 ((16 * f) + y))) + (nI 1)) dX5_judge_221 rfl ?_
                  refine x_goto F 251 dX5_judge_222 (by decide) ?_
                  refine x_iadd F (t + (((nI 7) * (M 8 ((16 * f) + y))) + (nI 1))) dX5_judge_251 rfl ?_
                  refine x_put F inUX5 tyX5_ok nmX5 0 16 (wR cA ar (st2 (jst M h t) 16 0 (t + (((nI 7) * (M 8 ((16 * f) + y))) + (nI 1))))) rfl rfl (by decide) wfX5_122 rfl rfl rfl rfl (Nat.le_of_ble_eq_true rfl) rfl dX5_judge_252 ?_
                  refine x_iconst F (nI 0) dX5_judge_255 (by decide +kernel) ?_
                  refine x_istore F [(7, .int (nI 0)), (6, .int ((rmO M a b y) - (M 9 ((16 * f) + y)))), (5, .int (rmO M a b y)), (0, .ref (ar 100)), (1, .int (nI a)), (2, .int (nI f)), (3, .int (nI b)), (4, .int (nI y))] dX5_judge_256 (by decide) rfl ?_
                  rw [jst_s]
                  obtain ⟨t2, et2⟩ : ∃ z, z = (t + (((nI 7) * (M 8 ((16 * f) + y))) + (nI 1))) := ⟨_, rfl⟩
                  rw [← et2]
                  have et : t2 = sfR M a f b y + (if rmO M a b y = (-1) then nI 7 * M 8 (16 * f + y) + nI 1 else M 8 (16 * f + y) * absI (rmO M a b y - M 9 (16 * f + y))) := by rw [et2, es]; rw [if_pos h202]
                  refine x_lv [(0, .ref (ar 100)), (1, .int (nI a)), (2, .int (nI f)), (3, .int (nI b)), (4, .int (nI y)), (5, .int (rmO M a b y)), (7, .int (nI 0))] [3, 4, 5, 6, 7, 2, 0] rfl ?_
                  have loop258 : ∀ (nn258 : Nat) (z : Nat) (g : Int32), (z ≤ y) → (g = prI M a f b y h z) → (rmO M a b y = (-1) → g = h) → (y - z < nn258) → Wx xp l xe (rmL 1 0 0) xs xm ([.ref (ar 100), .int (nI a), .int (nI f), .int (nI b)] : List Value).toArray xbl xme xco 0 0 (xQ xbl D (wR cA ar M) xs ([.ref (ar 100), .int (nI a), .int (nI f), .int (nI b)] : List Value).toArray 0 0 (fun (r : Option Value) (u : Nat → Nat → Int32) => r = none ∧ u = jdg M a f b) (fun u : Nat → Nat → Int32 => wR cA ar u)) 9 D (va_A (wR cA ar M) xs.heap.size) 258 [(0, .ref (ar 100)), (1, .int (nI a)), (2, .int (nI f)), (3, .int (nI b)), (4, .int (nI y)), (5, .int (rmO M a b y)), (7, .int (nI z))] [] (wR cA ar (jst M g t2)) := by
                    intro nn258
                    induction nn258 with
                    | zero =>
                      intro z g hz eg2 hz0 hm258
                      exact absurd hm258 (Nat.not_lt_zero _)
                    | succ nn258 ih258 =>
                      intro z g hz eg2 hz0 hm258
                      refine x_iload F 6 dX5_judge_258 rfl ?_
                      refine x_iload F 4 dX5_judge_260 rfl ?_
                      refine x_icmp_ge F 353 dX5_judge_262 (by decide) (fun h262 => ?_) (fun h262 => ?_)
                      · have h262n : y ≤ z := (nI_leI (by omega) (by omega)).mp h262
                        obtain rfl : y = z := by omega
                        by_cases hno : rmO M a b y = (-1)
                        · have hgh : h = g := (hz0 hno).symm
                          subst hgh
                          refine x_iinc F (nI (y + 1)) 4 [(4, .int (nI (y + 1))), (0, .ref (ar 100)), (1, .int (nI a)), (2, .int (nI f)), (3, .int (nI b)), (5, .int (rmO M a b y)), (7, .int (nI y))] dX5_judge_353 rfl ((nI_add y 1)) (by decide) rfl ?_
                          refine x_goto F 142 dX5_judge_356 (by decide) ?_
                          refine x_lv [(0, .ref (ar 100)), (1, .int (nI a)), (2, .int (nI f)), (3, .int (nI b)), (4, .int (nI (y + 1)))] [1, 2, 3, 4, 0] rfl ?_
                          exact ih142 (y + 1) h t2 (by omega) (by unfold hdR; rw [if_neg h161, if_pos hno]; exact eh) (by unfold sfR; rw [if_neg h161]; exact et) (by omega)
                        · have eg : g = prI M a f b y (hdR M a f b y) y := by rw [eg2, eh]
                          refine x_iinc F (nI (y + 1)) 4 [(4, .int (nI (y + 1))), (0, .ref (ar 100)), (1, .int (nI a)), (2, .int (nI f)), (3, .int (nI b)), (5, .int (rmO M a b y)), (7, .int (nI y))] dX5_judge_353 rfl ((nI_add y 1)) (by decide) rfl ?_
                          refine x_goto F 142 dX5_judge_356 (by decide) ?_
                          refine x_lv [(0, .ref (ar 100)), (1, .int (nI a)), (2, .int (nI f)), (3, .int (nI b)), (4, .int (nI (y + 1)))] [1, 2, 3, 4, 0] rfl ?_
                          exact ih142 (y + 1) g t2 (by omega) (by unfold hdR; rw [if_neg h161, if_neg hno]; exact eg) (by unfold sfR; rw [if_neg h161]; exact et) (by omega)
                      · have h262n : ¬ y ≤ z := fun z => h262 ((nI_leI (by omega) (by omega)).mpr z)
                        refine x_iload F 5 dX5_judge_265 rfl ?_
                        refine x_iconst F (-1) dX5_judge_267 (by decide +kernel) ?_
                        refine x_icmp_eq F 353 dX5_judge_268 (by decide) (fun h268 => ?_) (fun h268 => ?_)
                        · have hno : rmO M a b y = (-1) := h268
                          have hgh : h = g := (hz0 hno).symm
                          subst hgh
                          refine x_iinc F (nI (y + 1)) 4 [(4, .int (nI (y + 1))), (0, .ref (ar 100)), (1, .int (nI a)), (2, .int (nI f)), (3, .int (nI b)), (5, .int (rmO M a b y)), (7, .int (nI z))] dX5_judge_353 rfl ((nI_add y 1)) (by decide) rfl ?_
                          refine x_goto F 142 dX5_judge_356 (by decide) ?_
                          refine x_lv [(0, .ref (ar 100)), (1, .int (nI a)), (2, .int (nI f)), (3, .int (nI b)), (4, .int (nI (y + 1)))] [1, 2, 3, 4, 0] rfl ?_
                          exact ih142 (y + 1) h t2 (by omega) (by unfold hdR; rw [if_neg h161, if_pos hno]; exact eh) (by unfold sfR; rw [if_neg h161]; exact et) (by omega)
                        · refine x_aload_n F 0 dX5_judge_271 rfl ?_
                          refine x_get F inUX5 0 6 rfl rfl (by decide) wfX5_25 rfl dX5_judge_272 ?_
                          refine x_bipush F (nI 16) dX5_judge_275 (by decide +kernel) ?_
                          refine x_iload_n F 2 dX5_judge_277 rfl ?_
                          refine x_imul F (nI (16 * f)) dX5_judge_278 (pk_mul _ _) ?_
                          refine x_iload F 6 dX5_judge_279 rfl ?_
                          refine x_iadd F (nI ((16 * f) + z)) dX5_judge_281 (nI_add _ _) ?_
                          refine x_zald F 6 (k := (16 * f) + z) rfl (by omega) (by decide) dX5_judge_282 ?_
                          refine x_top (M 6 ((16 * f) + z)) (rfl) ?_
                          refine x_if_eq F 324 dX5_judge_283 (by decide) (fun h283 => ?_) (fun h283 => ?_)
                          · refine x_iconst F (nI 0) dX5_judge_324 (by decide +kernel) ?_
                            refine x_istore F [(8, .int (nI 0)), (0, .ref (ar 100)), (1, .int (nI a)), (2, .int (nI f)), (3, .int (nI b)), (4, .int (nI y)), (5, .int (rmO M a b y)), (7, .int (nI z))] dX5_judge_325 (by decide) rfl ?_
                            refine x_aload_n F 1 dX5_judge_327 rfl ?_
                            refine x_dup F dX5_judge_328 rfl ?_
                            refine x_get F inUX5 0 15 rfl rfl (by decide) wfX5_119 rfl dX5_judge_329 ?_
                            refine x_top g (rfl) ?_
                            refine x_iload F 0 dX5_judge_332 rfl ?_
                            refine x_if_eq F 342 dX5_judge_334 (by decide) (fun h334 => ?_) (fun h334 => ?_)
                            · have h334n : 0 = 0 := (nI_eq (by decide) (by decide)).mp (h334.trans nI_0.symm)
                              refine x_iconst F (nI 0) dX5_judge_342 (by decide +kernel) ?_
                              refine x_iadd F (g + (nI 0)) dX5_judge_343 rfl ?_
                              refine x_put F inUX5 tyX5_ok nmX5 0 15 (wR cA ar (st2 (jst M g t2) 15 0 (g + (nI 0)))) rfl rfl (by decide) wfX5_119 rfl rfl rfl rfl (Nat.le_of_ble_eq_true rfl) rfl dX5_judge_344 ?_
                              refine x_iinc F (nI (z + 1)) 7 [(7, .int (nI (z + 1))), (8, .int (nI 0)), (0, .ref (ar 100)), (1, .int (nI a)), (2, .int (nI f)), (3, .int (nI b)), (4, .int (nI y)), (5, .int (rmO M a b y))] dX5_judge_347 rfl ((nI_add z 1)) (by decide) rfl ?_
                              refine x_goto F 258 dX5_judge_350 (by decide) ?_
                              rw [jst_h]
                              refine x_lv [(0, .ref (ar 100)), (1, .int (nI a)), (2, .int (nI f)), (3, .int (nI b)), (4, .int (nI y)), (5, .int (rmO M a b y)), (7, .int (nI (z + 1)))] [2, 3, 4, 5, 6, 7, 0] rfl ?_
                              exact ih258 (z + 1) (g + (nI 0)) (by omega) (by unfold prI; rw [eg2, if_neg (fun w => w.1 h283)]) (fun w => absurd w h268) (by omega)
                            · have h334n : ¬ 0 = 0 := fun z => h334 (((nI_eq (by decide) (by decide)).mpr z).trans nI_0)
                              exact absurd h334n (by decide)
                          · refine x_aload_n F 0 dX5_judge_286 rfl ?_
                            refine x_get F inUX5 0 11 rfl rfl (by decide) wfX5_41 rfl dX5_judge_287 ?_
                            refine x_bipush F (nI 16) dX5_judge_290 (by decide +kernel) ?_
                            refine x_iload_n F 2 dX5_judge_292 rfl ?_
                            refine x_imul F (nI (16 * f)) dX5_judge_293 (pk_mul _ _) ?_
                            refine x_iload F 4 dX5_judge_294 rfl ?_
                            refine x_iadd F (nI ((16 * f) + y)) dX5_judge_296 (nI_add _ _) ?_
                            refine x_iald F 11 (k := (16 * f) + y) rfl (by omega) (by decide) dX5_judge_297 ?_
                            refine x_top (M 11 ((16 * f) + y)) (rfl) ?_
                            refine x_iload F 6 dX5_judge_298 rfl ?_
                            refine x_ishr F ((M 11 ((16 * f) + y)) >>> ((nI z) &&& 31)) dX5_judge_300 rfl ?_
                            refine x_iconst F (nI 1) dX5_judge_301 (by decide +kernel) ?_
                            refine x_iand F (((M 11 ((16 * f) + y)) >>> ((nI z) &&& 31)) &&& (nI 1)) dX5_judge_302 rfl ?_
                            refine x_iconst F (nI 1) dX5_judge_303 (by decide +kernel) ?_
                            refine x_icmp_ne F 324 dX5_judge_304 (by decide) (fun h304 => ?_) (fun h304 => ?_)
                            · refine x_iconst F (nI 0) dX5_judge_324 (by decide +kernel) ?_
                              refine x_istore F [(8, .int (nI 0)), (0, .ref (ar 100)), (1, .int (nI a)), (2, .int (nI f)), (3, .int (nI b)), (4, .int (nI y)), (5, .int (rmO M a b y)), (7, .int (nI z))] dX5_judge_325 (by decide) rfl ?_
                              refine x_aload_n F 1 dX5_judge_327 rfl ?_
                              refine x_dup F dX5_judge_328 rfl ?_
                              refine x_get F inUX5 0 15 rfl rfl (by decide) wfX5_119 rfl dX5_judge_329 ?_
                              refine x_top g (rfl) ?_
                              refine x_iload F 0 dX5_judge_332 rfl ?_
                              refine x_if_eq F 342 dX5_judge_334 (by decide) (fun h334 => ?_) (fun h334 => ?_)
                              · have h334n : 0 = 0 := (nI_eq (by decide) (by decide)).mp (h334.trans nI_0.symm)
                                refine x_iconst F (nI 0) dX5_judge_342 (by decide +kernel) ?_
                                refine x_iadd F (g + (nI 0)) dX5_judge_343 rfl ?_
                                refine x_put F inUX5 tyX5_ok nmX5 0 15 (wR cA ar (st2 (jst M g t2) 15 0 (g + (nI 0)))) rfl rfl (by decide) wfX5_119 rfl rfl rfl rfl (Nat.le_of_ble_eq_true rfl) rfl dX5_judge_344 ?_
                                refine x_iinc F (nI (z + 1)) 7 [(7, .int (nI (z + 1))), (8, .int (nI 0)), (0, .ref (ar 100)), (1, .int (nI a)), (2, .int (nI f)), (3, .int (nI b)), (4, .int (nI y)), (5, .int (rmO M a b y))] dX5_judge_347 rfl ((nI_add z 1)) (by decide) rfl ?_
                                refine x_goto F 258 dX5_judge_350 (by decide) ?_
                                rw [jst_h]
                                refine x_lv [(0, .ref (ar 100)), (1, .int (nI a)), (2, .int (nI f)), (3, .int (nI b)), (4, .int (nI y)), (5, .int (rmO M a b y)), (7, .int (nI (z + 1)))] [2, 3, 4, 5, 6, 7, 0] rfl ?_
                                exact ih258 (z + 1) (g + (nI 0)) (by omega) (by unfold prI; rw [eg2, if_neg (fun w => h304 w.2.1)]) (fun w => absurd w h268) (by omega)
                              · have h334n : ¬ 0 = 0 := fun z => h334 (((nI_eq (by decide) (by decide)).mpr z).trans nI_0)
                                exact absurd h334n (by decide)
                            · refine x_aload_n F 0 dX5_judge_307 rfl ?_
                              refine x_iload_n F 1 dX5_judge_308 rfl ?_
                              refine x_iload F 6 dX5_judge_309 rfl ?_
                              refine x_iload_n F 3 dX5_judge_311 rfl ?_
                              refine x_callVr F [] [0, 1, 2, 3, 4, 5, 6, 7, 8, 9, 10, 11, 12, 13, 14, 15, 16, 17, 18, 19, 20, 21, 22, 23, 24, 25] (c_X5_roomOf l D cA ar (jst M g t2) a z b (by omega) (by omega) (by omega)) mwX5_roomOf wmX5_125 rfl (q0 := 0) rfl rfl rfl (Nat.le_of_ble_eq_true rfl) ⟨by decide, by decide⟩ ⟨by show _ ≤ 0; omega, by show _ ≤ 0; omega⟩ rfl (by decide) dX5_judge_312 (fun r7 hp8 => ?_)
                              subst hp8
                              refine x_top (rmO M a b z) (rfl) ?_
                              refine x_iload F 5 dX5_judge_315 rfl ?_
                              refine x_icmp_ne F 324 dX5_judge_317 (by decide) (fun h317 => ?_) (fun h317 => ?_)
                              · refine x_iconst F (nI 0) dX5_judge_324 (by decide +kernel) ?_
                                refine x_istore F [(8, .int (nI 0)), (0, .ref (ar 100)), (1, .int (nI a)), (2, .int (nI f)), (3, .int (nI b)), (4, .int (nI y)), (5, .int (rmO M a b y)), (7, .int (nI z))] dX5_judge_325 (by decide) rfl ?_
                                refine x_aload_n F 1 dX5_judge_327 rfl ?_
                                refine x_dup F dX5_judge_328 rfl ?_
                                refine x_get F inUX5 0 15 rfl rfl (by decide) wfX5_119 rfl dX5_judge_329 ?_
                                refine x_top g (rfl) ?_
                                refine x_iload F 0 dX5_judge_332 rfl ?_
                                refine x_if_eq F 342 dX5_judge_334 (by decide) (fun h334 => ?_) (fun h334 => ?_)
                                · have h334n : 0 = 0 := (nI_eq (by decide) (by decide)).mp (h334.trans nI_0.symm)
                                  refine x_iconst F (nI 0) dX5_judge_342 (by decide +kernel) ?_
                                  refine x_iadd F (g + (nI 0)) dX5_judge_343 rfl ?_
                                  refine x_put F inUX5 tyX5_ok nmX5 0 15 (wR cA ar (st2 (jst M g t2) 15 0 (g + (nI 0)))) rfl rfl (by decide) wfX5_119 rfl rfl rfl rfl (Nat.le_of_ble_eq_true rfl) rfl dX5_judge_344 ?_
                                  refine x_iinc F (nI (z + 1)) 7 [(7, .int (nI (z + 1))), (8, .int (nI 0)), (0, .ref (ar 100)), (1, .int (nI a)), (2, .int (nI f)), (3, .int (nI b)), (4, .int (nI y)), (5, .int (rmO M a b y))] dX5_judge_347 rfl ((nI_add z 1)) (by decide) rfl ?_
                                  refine x_goto F 258 dX5_judge_350 (by decide) ?_
                                  rw [jst_h]
                                  refine x_lv [(0, .ref (ar 100)), (1, .int (nI a)), (2, .int (nI f)), (3, .int (nI b)), (4, .int (nI y)), (5, .int (rmO M a b y)), (7, .int (nI (z + 1)))] [2, 3, 4, 5, 6, 7, 0] rfl ?_
                                  exact ih258 (z + 1) (g + (nI 0)) (by omega) (by unfold prI; rw [eg2, if_neg (fun w => h317 w.2.2)]) (fun w => absurd w h268) (by omega)
                                · have h334n : ¬ 0 = 0 := fun z => h334 (((nI_eq (by decide) (by decide)).mpr z).trans nI_0)
                                  exact absurd h334n (by decide)
                              · refine x_iconst F (nI 1) dX5_judge_320 (by decide +kernel) ?_
                                refine x_goto F 325 dX5_judge_321 (by decide) ?_
                                refine x_istore F [(8, .int (nI 1)), (0, .ref (ar 100)), (1, .int (nI a)), (2, .int (nI f)), (3, .int (nI b)), (4, .int (nI y)), (5, .int (rmO M a b y)), (7, .int (nI z))] dX5_judge_325 (by decide) rfl ?_
                                refine x_aload_n F 1 dX5_judge_327 rfl ?_
                                refine x_dup F dX5_judge_328 rfl ?_
                                refine x_get F inUX5 0 15 rfl rfl (by decide) wfX5_119 rfl dX5_judge_329 ?_
                                refine x_top g (rfl) ?_
                                refine x_iload F 0 dX5_judge_332 rfl ?_
                                refine x_if_eq F 342 dX5_judge_334 (by decide) (fun h334 => ?_) (fun h334 => ?_)
                                · have h334n : 1 = 0 := (nI_eq (by decide) (by decide)).mp (h334.trans nI_0.symm)
                                  exact absurd h334n (by decide)
                                · have h334n : ¬ 1 = 0 := fun z => h334 (((nI_eq (by decide) (by decide)).mpr z).trans nI_0)
                                  refine x_bipush F (nI 10) dX5_judge_337 (by decide +kernel) ?_
                                  refine x_goto F 343 dX5_judge_339 (by decide) ?_
                                  refine x_iadd F (g + (nI 10)) dX5_judge_343 rfl ?_
                                  refine x_put F inUX5 tyX5_ok nmX5 0 15 (wR cA ar (st2 (jst M g t2) 15 0 (g + (nI 10)))) rfl rfl (by decide) wfX5_119 rfl rfl rfl rfl (Nat.le_of_ble_eq_true rfl) rfl dX5_judge_344 ?_
                                  refine x_iinc F (nI (z + 1)) 7 [(7, .int (nI (z + 1))), (8, .int (nI 1)), (0, .ref (ar 100)), (1, .int (nI a)), (2, .int (nI f)), (3, .int (nI b)), (4, .int (nI y)), (5, .int (rmO M a b y))] dX5_judge_347 rfl ((nI_add z 1)) (by decide) rfl ?_
                                  refine x_goto F 258 dX5_judge_350 (by decide) ?_
                                  rw [jst_h]
                                  refine x_lv [(0, .ref (ar 100)), (1, .int (nI a)), (2, .int (nI f)), (3, .int (nI b)), (4, .int (nI y)), (5, .int (rmO M a b y)), (7, .int (nI (z + 1)))] [2, 3, 4, 5, 6, 7, 0] rfl ?_
                                  exact ih258 (z + 1) (g + (nI 10)) (by omega) (by unfold prI; rw [eg2, if_pos ⟨h283, h304, h317⟩]) (fun w => absurd w h268) (by omega)
                  exact loop258 _ 0 h (Nat.zero_le _) rfl (fun _ => rfl) (Nat.lt_succ_self _)
              · refine x_goto F 353 dX5_judge_164 (by decide) ?_
                refine x_iinc F (nI (y + 1)) 4 [(4, .int (nI (y + 1))), (0, .ref (ar 100)), (1, .int (nI a)), (2, .int (nI f)), (3, .int (nI b))] dX5_judge_353 rfl ((nI_add y 1)) (by decide) rfl ?_
                refine x_goto F 142 dX5_judge_356 (by decide) ?_
                refine x_lv [(0, .ref (ar 100)), (1, .int (nI a)), (2, .int (nI f)), (3, .int (nI b)), (4, .int (nI (y + 1)))] [1, 2, 3, 4, 0] rfl ?_
                exact ih142 (y + 1) h t (by omega) (by unfold hdR; rw [if_pos h161]; exact eh) (by unfold sfR; rw [if_pos h161]; exact es) (by omega)
        exact loop142 _ 0 _ _ (Nat.zero_le _) ev6 rfl (Nat.lt_succ_self _)
      · have h17n : ¬ 6 ≤ x := fun z => h17 ((nI_leI (by decide) (by omega)).mpr z)
        refine x_iconst F (nI 0) dX5_judge_20 (by decide +kernel) ?_
        refine x_istore F [(5, .int (nI 0)), (0, .ref (ar 100)), (1, .int (nI a)), (2, .int (nI f)), (3, .int (nI b)), (4, .int (nI x))] dX5_judge_21 (by decide) rfl ?_
        refine x_iconst F (nI 0) dX5_judge_23 (by decide +kernel) ?_
        refine x_istore F [(6, .int (nI 0)), (5, .int (nI 0)), (0, .ref (ar 100)), (1, .int (nI a)), (2, .int (nI f)), (3, .int (nI b)), (4, .int (nI x))] dX5_judge_24 (by decide) rfl ?_
        refine x_lv [(0, .ref (ar 100)), (1, .int (nI a)), (2, .int (nI f)), (3, .int (nI b)), (4, .int (nI x)), (5, .int (nI 0)), (6, .int (nI 0))] [2, 3, 4, 5, 6, 1, 0] rfl ?_
        have loop26 : ∀ (nn26 : Nat) (y : Nat) (q : Int32), (y ≤ 16) → (q = ldR M a f b x y) → (16 - y < nn26) → Wx xp l xe (rmL 1 0 0) xs xm ([.ref (ar 100), .int (nI a), .int (nI f), .int (nI b)] : List Value).toArray xbl xme xco 0 0 (xQ xbl D (wR cA ar M) xs ([.ref (ar 100), .int (nI a), .int (nI f), .int (nI b)] : List Value).toArray 0 0 (fun (r : Option Value) (u : Nat → Nat → Int32) => r = none ∧ u = jdg M a f b) (fun u : Nat → Nat → Int32 => wR cA ar u)) 9 D (va_A (wR cA ar M) xs.heap.size) 26 [(0, .ref (ar 100)), (1, .int (nI a)), (2, .int (nI f)), (3, .int (nI b)), (4, .int (nI x)), (5, .int q), (6, .int (nI y))] [] (wR cA ar (jst M v (nI 0))) := by
          intro nn26
          induction nn26 with
          | zero =>
            intro y q hy eq hm26
            exact absurd hm26 (Nat.not_lt_zero _)
          | succ nn26 ih26 =>
            intro y q hy eq hm26
            refine x_iload F 6 dX5_judge_26 rfl ?_
            refine x_bipush F (nI 16) dX5_judge_28 (by decide +kernel) ?_
            refine x_icmp_ge F 88 dX5_judge_30 (by decide) (fun h30 => ?_) (fun h30 => ?_)
            · have h30n : 16 ≤ y := (nI_leI (by decide) (by omega)).mp h30
              obtain rfl : 16 = y := by omega
              refine x_aload_n F 0 dX5_judge_88 rfl ?_
              refine x_dup F dX5_judge_89 rfl ?_
              refine x_get F inUX5 0 15 rfl rfl (by decide) wfX5_119 rfl dX5_judge_90 ?_
              refine x_top v (rfl) ?_
              refine x_iload F 5 dX5_judge_93 rfl ?_
              refine x_aload_n F 0 dX5_judge_95 rfl ?_
              refine x_get F inUX5 0 12 rfl rfl (by decide) wfX5_44 rfl dX5_judge_96 ?_
              refine x_bipush F (nI 6) dX5_judge_99 (by decide +kernel) ?_
              refine x_iload_n F 2 dX5_judge_101 rfl ?_
              refine x_imul F (nI (6 * f)) dX5_judge_102 (pk_mul _ _) ?_
              refine x_iload F 4 dX5_judge_103 rfl ?_
              refine x_iadd F (nI ((6 * f) + x)) dX5_judge_105 (nI_add _ _) ?_
              refine x_iald F 12 (k := (6 * f) + x) rfl (by omega) (by decide) dX5_judge_106 ?_
              refine x_top (M 12 ((6 * f) + x)) (rfl) ?_
              refine x_icmp_le F 128 dX5_judge_107 (by decide) (fun h107 => ?_) (fun h107 => ?_)
              · refine x_iconst F (nI 0) dX5_judge_128 (by decide +kernel) ?_
                refine x_iadd F (v + (nI 0)) dX5_judge_129 rfl ?_
                refine x_put F inUX5 tyX5_ok nmX5 0 15 (wR cA ar (st2 (jst M v (nI 0)) 15 0 (v + (nI 0)))) rfl rfl (by decide) wfX5_119 rfl rfl rfl rfl (Nat.le_of_ble_eq_true rfl) rfl dX5_judge_130 ?_
                refine x_iinc F (nI (x + 1)) 4 [(4, .int (nI (x + 1))), (0, .ref (ar 100)), (1, .int (nI a)), (2, .int (nI f)), (3, .int (nI b)), (5, .int q), (6, .int (nI 16))] dX5_judge_133 rfl ((nI_add x 1)) (by decide) rfl ?_
                refine x_goto F 13 dX5_judge_136 (by decide) ?_
                rw [jst_h]
                refine x_lv [(0, .ref (ar 100)), (1, .int (nI a)), (2, .int (nI f)), (3, .int (nI b)), (4, .int (nI (x + 1)))] [1, 2, 3, 4, 0] rfl ?_
                exact ih13 (x + 1) (v + (nI 0)) (by omega) (by unfold ovR; rw [ev, ← eq, if_pos h107]) (by omega)
              · refine x_iload F 5 dX5_judge_110 rfl ?_
                refine x_aload_n F 0 dX5_judge_112 rfl ?_
                refine x_get F inUX5 0 12 rfl rfl (by decide) wfX5_44 rfl dX5_judge_113 ?_
                refine x_bipush F (nI 6) dX5_judge_116 (by decide +kernel) ?_
                refine x_iload_n F 2 dX5_judge_118 rfl ?_
                refine x_imul F (nI (6 * f)) dX5_judge_119 (pk_mul _ _) ?_
                refine x_iload F 4 dX5_judge_120 rfl ?_
                refine x_iadd F (nI ((6 * f) + x)) dX5_judge_122 (nI_add _ _) ?_
                refine x_iald F 12 (k := (6 * f) + x) rfl (by omega) (by decide) dX5_judge_123 ?_
                refine x_top (M 12 ((6 * f) + x)) (rfl) ?_
                refine x_isub F (q - (M 12 ((6 * f) + x))) dX5_judge_124 rfl ?_
                refine x_goto F 129 dX5_judge_125 (by decide) ?_
                refine x_iadd F (v + (q - (M 12 ((6 * f) + x)))) dX5_judge_129 rfl ?_
                refine x_put F inUX5 tyX5_ok nmX5 0 15 (wR cA ar (st2 (jst M v (nI 0)) 15 0 (v + (q - (M 12 ((6 * f) + x)))))) rfl rfl (by decide) wfX5_119 rfl rfl rfl rfl (Nat.le_of_ble_eq_true rfl) rfl dX5_judge_130 ?_
                refine x_iinc F (nI (x + 1)) 4 [(4, .int (nI (x + 1))), (0, .ref (ar 100)), (1, .int (nI a)), (2, .int (nI f)), (3, .int (nI b)), (5, .int q), (6, .int (nI 16))] dX5_judge_133 rfl ((nI_add x 1)) (by decide) rfl ?_
                refine x_goto F 13 dX5_judge_136 (by decide) ?_
                rw [jst_h]
                refine x_lv [(0, .ref (ar 100)), (1, .int (nI a)), (2, .int (nI f)), (3, .int (nI b)), (4, .int (nI (x + 1)))] [1, 2, 3, 4, 0] rfl ?_
                exact ih13 (x + 1) (v + (q - (M 12 ((6 * f) + x)))) (by omega) (by unfold ovR; rw [ev, ← eq, if_neg h107]) (by omega)
            · have h30n : ¬ 16 ≤ y := fun z => h30 ((nI_leI (by decide) (by omega)).mpr z)
              refine x_iload F 5 dX5_judge_33 rfl ?_
              refine x_aload_n F 0 dX5_judge_35 rfl ?_
              refine x_get F inUX5 0 6 rfl rfl (by decide) wfX5_25 rfl dX5_judge_36 ?_
              refine x_bipush F (nI 16) dX5_judge_39 (by decide +kernel) ?_
              refine x_iload_n F 2 dX5_judge_41 rfl ?_
              refine x_imul F (nI (16 * f)) dX5_judge_42 (pk_mul _ _) ?_
              refine x_iload F 6 dX5_judge_43 rfl ?_
              refine x_iadd F (nI ((16 * f) + y)) dX5_judge_45 (nI_add _ _) ?_
              refine x_zald F 6 (k := (16 * f) + y) rfl (by omega) (by decide) dX5_judge_46 ?_
              refine x_top (M 6 ((16 * f) + y)) (rfl) ?_
              refine x_if_eq F 78 dX5_judge_47 (by decide) (fun h47 => ?_) (fun h47 => ?_)
              · refine x_iconst F (nI 0) dX5_judge_78 (by decide +kernel) ?_
                refine x_iadd F (q + (nI 0)) dX5_judge_79 rfl ?_
                refine x_istore F [(5, .int (q + (nI 0))), (0, .ref (ar 100)), (1, .int (nI a)), (2, .int (nI f)), (3, .int (nI b)), (4, .int (nI x)), (6, .int (nI y))] dX5_judge_80 (by decide) rfl ?_
                refine x_iinc F (nI (y + 1)) 6 [(6, .int (nI (y + 1))), (5, .int (q + (nI 0))), (0, .ref (ar 100)), (1, .int (nI a)), (2, .int (nI f)), (3, .int (nI b)), (4, .int (nI x))] dX5_judge_82 rfl ((nI_add y 1)) (by decide) rfl ?_
                refine x_goto F 26 dX5_judge_85 (by decide) ?_
                refine x_lv [(0, .ref (ar 100)), (1, .int (nI a)), (2, .int (nI f)), (3, .int (nI b)), (4, .int (nI x)), (5, .int (q + (nI 0))), (6, .int (nI (y + 1)))] [2, 3, 4, 5, 6, 1, 0] rfl ?_
                exact ih26 (y + 1) (q + (nI 0)) (by omega) (by unfold ldR; rw [eq, if_neg (fun z => z.1 h47)]) (by omega)
              · refine x_aload_n F 0 dX5_judge_50 rfl ?_
                refine x_iload_n F 1 dX5_judge_51 rfl ?_
                refine x_iload F 6 dX5_judge_52 rfl ?_
                refine x_iload_n F 3 dX5_judge_54 rfl ?_
                refine x_callVr F [.int q] [0, 1, 2, 3, 4, 5, 6, 7, 8, 9, 10, 11, 12, 13, 14, 15, 16, 17, 18, 19, 20, 21, 22, 23, 24, 25] (c_X5_roomOf l D cA ar (jst M v (nI 0)) a y b (by omega) (by omega) (by omega)) mwX5_roomOf wmX5_125 rfl (q0 := 0) rfl rfl rfl (Nat.le_of_ble_eq_true rfl) ⟨by decide, by decide⟩ ⟨by show _ ≤ 0; omega, by show _ ≤ 0; omega⟩ rfl (by decide) dX5_judge_55 (fun r9 hp10 => ?_)
                subst hp10
                refine x_top (rmO M a b y) (rfl) ?_
                refine x_iload F 4 dX5_judge_58 rfl ?_
                refine x_icmp_ne F 78 dX5_judge_60 (by decide) (fun h60 => ?_) (fun h60 => ?_)
                · refine x_iconst F (nI 0) dX5_judge_78 (by decide +kernel) ?_
                  refine x_iadd F (q + (nI 0)) dX5_judge_79 rfl ?_
                  refine x_istore F [(5, .int (q + (nI 0))), (0, .ref (ar 100)), (1, .int (nI a)), (2, .int (nI f)), (3, .int (nI b)), (4, .int (nI x)), (6, .int (nI y))] dX5_judge_80 (by decide) rfl ?_
                  refine x_iinc F (nI (y + 1)) 6 [(6, .int (nI (y + 1))), (5, .int (q + (nI 0))), (0, .ref (ar 100)), (1, .int (nI a)), (2, .int (nI f)), (3, .int (nI b)), (4, .int (nI x))] dX5_judge_82 rfl ((nI_add y 1)) (by decide) rfl ?_
                  refine x_goto F 26 dX5_judge_85 (by decide) ?_
                  refine x_lv [(0, .ref (ar 100)), (1, .int (nI a)), (2, .int (nI f)), (3, .int (nI b)), (4, .int (nI x)), (5, .int (q + (nI 0))), (6, .int (nI (y + 1)))] [2, 3, 4, 5, 6, 1, 0] rfl ?_
                  exact ih26 (y + 1) (q + (nI 0)) (by omega) (by unfold ldR; rw [eq, if_neg (fun z => h60 z.2)]) (by omega)
                · refine x_aload_n F 0 dX5_judge_63 rfl ?_
                  refine x_get F inUX5 0 7 rfl rfl (by decide) wfX5_29 rfl dX5_judge_64 ?_
                  refine x_bipush F (nI 16) dX5_judge_67 (by decide +kernel) ?_
                  refine x_iload_n F 2 dX5_judge_69 rfl ?_
                  refine x_imul F (nI (16 * f)) dX5_judge_70 (pk_mul _ _) ?_
                  refine x_iload F 6 dX5_judge_71 rfl ?_
                  refine x_iadd F (nI ((16 * f) + y)) dX5_judge_73 (nI_add _ _) ?_
                  refine x_iald F 7 (k := (16 * f) + y) rfl (by omega) (by decide) dX5_judge_74 ?_
                  refine x_top (M 7 ((16 * f) + y)) (rfl) ?_
                  refine x_goto F 79 dX5_judge_75 (by decide) ?_
                  refine x_iadd F (q + (M 7 ((16 * f) + y))) dX5_judge_79 rfl ?_
                  refine x_istore F [(5, .int (q + (M 7 ((16 * f) + y)))), (0, .ref (ar 100)), (1, .int (nI a)), (2, .int (nI f)), (3, .int (nI b)), (4, .int (nI x)), (6, .int (nI y))] dX5_judge_80 (by decide) rfl ?_
                  refine x_iinc F (nI (y + 1)) 6 [(6, .int (nI (y + 1))), (5, .int (q + (M 7 ((16 * f) + y)))), (0, .ref (ar 100)), (1, .int (nI a)), (2, .int (nI f)), (3, .int (nI b)), (4, .int (nI x))] dX5_judge_82 rfl ((nI_add y 1)) (by decide) rfl ?_
                  refine x_goto F 26 dX5_judge_85 (by decide) ?_
                  refine x_lv [(0, .ref (ar 100)), (1, .int (nI a)), (2, .int (nI f)), (3, .int (nI b)), (4, .int (nI x)), (5, .int (q + (M 7 ((16 * f) + y)))), (6, .int (nI (y + 1)))] [2, 3, 4, 5, 6, 1, 0] rfl ?_
                  exact ih26 (y + 1) (q + (M 7 ((16 * f) + y))) (by omega) (by unfold ldR; rw [eq, if_pos ⟨h47, h60⟩]) (by omega)
        exact loop26 _ 0 _ (Nat.zero_le _) rfl (Nat.lt_succ_self _)
  exact loop13 _ 0 _ (Nat.zero_le _) rfl (Nat.lt_succ_self _)

set_option maxHeartbeats 4000000 in
set_option maxRecDepth 100000 in
theorem c_X5_fillLate (l : Launch) (D : va_G) (cA : Nat → ClassId) (ar : Nat → Nat) (M : Nat → Nat → Int32) (s_ L : Nat) (hs : s_ < 3) (hl : M 21 s_ = nI L) (hL : L ≤ 8) : Cg l D cA yX5_fillLate cX5_fillLate 3 none 2 0 0 ([.ref (ar 100), .int (nI s_)] : List Value) (wR cA ar M) (fun (r : Option Value) (u : Nat → Nat → Int32) => r = none ∧ u = flR M s_ L) (fun u : Nat → Nat → Int32 => wR cA ar u) := by
  refine x_met (by decide +kernel) rfl (Nat.le_of_ble_eq_true rfl) ?_
  intro xp xe xs xm xbl xme xco F hnm
  refine x_lv [(0, .ref (ar 100)), (1, .int (nI s_))] [0, 1] rfl ?_
  refine x_aload_n F 0 dX5_fillLate_0 rfl ?_
  refine x_iload_n F 1 dX5_fillLate_1 rfl ?_
  refine x_iload_n F 1 dX5_fillLate_2 rfl ?_
  refine x_iload_n F 1 dX5_fillLate_3 rfl ?_
  refine x_callV F [] ([]) [0, 1, 2, 3, 4, 5, 6, 7, 8, 9, 10, 11, 12, 13, 14, 15, 16, 17, 18, 19, 20, 21, 22, 23, 24, 25] [] (c_X5_judge l D cA ar M (s_) (s_) (s_) (by omega) (by omega) (by omega)) mwX5_judge wmX5_135 rfl (q0 := 0) rfl rfl rfl (Nat.le_of_ble_eq_true rfl) ⟨by decide, by decide⟩ ⟨by show _ ≤ 0; omega, by show _ ≤ 0; omega⟩ rfl rfl (by decide) (by decide) (by decide) dX5_fillLate_4 (fun r1 u2 hp3 => ?_)
  obtain ⟨rfl, rfl⟩ := hp3
  refine x_iconst F (nI 0) dX5_fillLate_7 (by decide +kernel) ?_
  refine x_istore_n F [(2, .int (nI 0)), (0, .ref (ar 100)), (1, .int (nI s_))] dX5_fillLate_8 (by decide) rfl ?_
  refine x_ws (wR cA ar (flI (jdg M s_ s_ s_) s_ 0 (hdR M s_ s_ s_ 16) (sfR M s_ s_ s_ 16))) (by rw [flI_0]; rfl) ?_
  refine x_lv [(0, .ref (ar 100)), (1, .int (nI s_)), (2, .int (nI 0))] [1, 2, 0] rfl ?_
  have loop9 : ∀ (nn9 : Nat) (x : Nat), (x ≤ L) → (L - x < nn9) → Wx xp l xe (rmL 2 0 0) xs xm ([.ref (ar 100), .int (nI s_)] : List Value).toArray xbl xme xco 0 0 (xQ xbl D (wR cA ar M) xs ([.ref (ar 100), .int (nI s_)] : List Value).toArray 0 0 (fun (r : Option Value) (u : Nat → Nat → Int32) => r = none ∧ u = flR M s_ L) (fun u : Nat → Nat → Int32 => wR cA ar u)) 3 D (va_A (wR cA ar M) xs.heap.size) 9 [(0, .ref (ar 100)), (1, .int (nI s_)), (2, .int (nI x))] [] (wR cA ar (flI (jdg M s_ s_ s_) s_ x (hdR M s_ s_ s_ 16) (sfR M s_ s_ s_ 16))) := by
    intro nn9
    induction nn9 with
    | zero =>
      intro x hx hm9
      exact absurd hm9 (Nat.not_lt_zero _)
    | succ nn9 ih9 =>
      intro x hx hm9
      refine x_iload_n F 2 dX5_fillLate_9 rfl ?_
      refine x_aload_n F 0 dX5_fillLate_10 rfl ?_
      refine x_get F inUX5 0 21 rfl rfl (by decide) wfX5_59 rfl dX5_fillLate_11 ?_
      refine x_iload_n F 1 dX5_fillLate_14 rfl ?_
      refine x_iald F 17 (k := s_) rfl (by omega) (by decide) dX5_fillLate_15 ?_
      refine x_top (nI L) (by rw [flI_o _ _ _ _ _ _ (by decide) (by decide), jdg_o _ _ _ _ _ (by decide) (by decide)]; exact hl) ?_
      refine x_icmp_ge F 55 dX5_fillLate_16 (by decide) (fun h16 => ?_) (fun h16 => ?_)
      · have h16n : L ≤ x := (nI_leI (by omega) (by omega)).mp h16
        obtain rfl : L = x := by omega
        exact x_vret F (flI (jdg M s_ s_ s_) s_ L (hdR M s_ s_ s_ 16) (sfR M s_ s_ s_ 16)) (⟨rfl, rfl⟩) (rfl) (by omega) (by omega) dX5_fillLate_55
      · have h16n : ¬ L ≤ x := fun z => h16 ((nI_leI (by omega) (by omega)).mpr z)
        refine x_aload_n F 0 dX5_fillLate_19 rfl ?_
        refine x_get F inUX5 0 22 rfl rfl (by decide) wfX5_62 rfl dX5_fillLate_20 ?_
        refine x_bipush F (nI 8) dX5_fillLate_23 (by decide +kernel) ?_
        refine x_iload_n F 1 dX5_fillLate_25 rfl ?_
        refine x_imul F (nI (8 * s_)) dX5_fillLate_26 (pk_mul _ _) ?_
        refine x_iload_n F 2 dX5_fillLate_27 rfl ?_
        refine x_iadd F (nI ((8 * s_) + x)) dX5_fillLate_28 (nI_add _ _) ?_
        refine x_aload_n F 0 dX5_fillLate_29 rfl ?_
        refine x_get F inUX5 0 15 rfl rfl (by decide) wfX5_119 rfl dX5_fillLate_30 ?_
        refine x_top (hdR M s_ s_ s_ 16) (by rw [flI_o _ _ _ _ _ _ (by decide) (by decide)]; rfl) ?_
        refine x_iast F 18 (k := (8 * s_) + x) (wR cA ar (st2 (flI (jdg M s_ s_ s_) s_ x (hdR M s_ s_ s_ 16) (sfR M s_ s_ s_ 16)) 22 ((8 * s_) + x) (hdR M s_ s_ s_ 16))) rfl (by omega) (by decide) rfl dX5_fillLate_33 ?_
        refine x_aload_n F 0 dX5_fillLate_34 rfl ?_
        refine x_get F inUX5 0 23 rfl rfl (by decide) wfX5_65 rfl dX5_fillLate_35 ?_
        refine x_bipush F (nI 8) dX5_fillLate_38 (by decide +kernel) ?_
        refine x_iload_n F 1 dX5_fillLate_40 rfl ?_
        refine x_imul F (nI (8 * s_)) dX5_fillLate_41 (pk_mul _ _) ?_
        refine x_iload_n F 2 dX5_fillLate_42 rfl ?_
        refine x_iadd F (nI ((8 * s_) + x)) dX5_fillLate_43 (nI_add _ _) ?_
        refine x_aload_n F 0 dX5_fillLate_44 rfl ?_
        refine x_get F inUX5 0 16 rfl rfl (by decide) wfX5_122 rfl dX5_fillLate_45 ?_
        refine x_top (sfR M s_ s_ s_ 16) (by rw [st2_at, if_neg (by omega), flI_o _ _ _ _ _ _ (by decide) (by decide)]; rfl) ?_
        refine x_iast F 19 (k := (8 * s_) + x) (wR cA ar (st2 (st2 (flI (jdg M s_ s_ s_) s_ x (hdR M s_ s_ s_ 16) (sfR M s_ s_ s_ 16)) 22 ((8 * s_) + x) (hdR M s_ s_ s_ 16)) 23 ((8 * s_) + x) (sfR M s_ s_ s_ 16))) rfl (by omega) (by decide) rfl dX5_fillLate_48 ?_
        refine x_iinc F (nI (x + 1)) 2 [(2, .int (nI (x + 1))), (0, .ref (ar 100)), (1, .int (nI s_))] dX5_fillLate_49 rfl ((nI_add x 1)) (by decide) rfl ?_
        refine x_goto F 9 dX5_fillLate_52 (by decide) ?_
        refine x_ws (wR cA ar (flI (jdg M s_ s_ s_) s_ (x + 1) (hdR M s_ s_ s_ 16) (sfR M s_ s_ s_ 16))) (by rw [← flI_s]) ?_
        refine x_lv [(0, .ref (ar 100)), (1, .int (nI s_)), (2, .int (nI (x + 1)))] [1, 2, 0] rfl ?_
        exact ih9 (x + 1) (by omega) (by omega)
  exact loop9 _ 0 (Nat.zero_le _) (Nat.lt_succ_self _)

theorem rmO_cg {M N : Nat → Nat → Int32} (h6 : N 6 = M 6) (h14 : N 14 = M 14) (pl ow j : Nat) : rmO N pl ow j = rmO M pl ow j := by unfold rmO; rw [h6, h14]
theorem ldR_cg {M N : Nat → Nat → Int32} (h6 : N 6 = M 6) (h14 : N 14 = M 14) (h7 : N 7 = M 7) (pl f ow r n : Nat) : ldR N pl f ow r n = ldR M pl f ow r n := by
  induction n with
  | zero => rfl
  | succ n ih => unfold ldR; rw [ih, h6, h7, rmO_cg h6 h14]
theorem ovR_cg {M N : Nat → Nat → Int32} (h6 : N 6 = M 6) (h14 : N 14 = M 14) (h7 : N 7 = M 7) (h12 : N 12 = M 12) (pl f ow n : Nat) : ovR N pl f ow n = ovR M pl f ow n := by
  induction n with
  | zero => rfl
  | succ n ih => unfold ovR; rw [ih, h12, ldR_cg h6 h14 h7]
theorem sfR_cg {M N : Nat → Nat → Int32} (h6 : N 6 = M 6) (h14 : N 14 = M 14) (h8 : N 8 = M 8) (h9 : N 9 = M 9) (pl f ow n : Nat) : sfR N pl f ow n = sfR M pl f ow n := by
  induction n with
  | zero => rfl
  | succ n ih => unfold sfR; rw [ih, h6, h8, h9, rmO_cg h6 h14]
theorem prI_cg {M N : Nat → Nat → Int32} (h6 : N 6 = M 6) (h14 : N 14 = M 14) (h11 : N 11 = M 11) (pl f ow n : Nat) (h : Int32) (k : Nat) : prI N pl f ow n h k = prI M pl f ow n h k := by
  induction k with
  | zero => rfl
  | succ k ih => unfold prI; rw [ih, h6, h11, rmO_cg h6 h14, rmO_cg h6 h14]
theorem hdR_cg {M N : Nat → Nat → Int32} (h6 : N 6 = M 6) (h14 : N 14 = M 14) (h7 : N 7 = M 7) (h11 : N 11 = M 11) (h12 : N 12 = M 12) (pl f ow n : Nat) : hdR N pl f ow n = hdR M pl f ow n := by
  induction n with
  | zero => exact ovR_cg h6 h14 h7 h12 pl f ow 6
  | succ n ih => unfold hdR; rw [ih, h6, rmO_cg h6 h14, prI_cg h6 h14 h11]
theorem jst_j (M : Nat → Nat → Int32) (h s h2 s2 : Int32) : jst (jst M h s) h2 s2 = jst M h2 s2 := by
  funext k j; simp only [jst, st2_at]; repeat' split
  all_goals first | rfl | (exfalso; omega)
theorem hdR_j (M : Nat → Nat → Int32) (h s : Int32) (pl f ow n : Nat) : hdR (jst M h s) pl f ow n = hdR M pl f ow n := hdR_cg (M := M) (N := jst M h s) rfl rfl rfl rfl rfl pl f ow n
theorem sfR_j (M : Nat → Nat → Int32) (h s : Int32) (pl f ow n : Nat) : sfR (jst M h s) pl f ow n = sfR M pl f ow n := sfR_cg (M := M) (N := jst M h s) rfl rfl rfl rfl pl f ow n
theorem jdg_j (M : Nat → Nat → Int32) (h s : Int32) (pl f ow : Nat) : jdg (jst M h s) pl f ow = jdg M pl f ow := by unfold jdg; rw [jst_j, hdR_j, sfR_j]
theorem jdg_jdg (M : Nat → Nat → Int32) (a b d pl f ow : Nat) : jdg (jdg M a b d) pl f ow = jdg M pl f ow := jdg_j _ _ _ _ _ _
set_option maxHeartbeats 4000000 in
set_option maxRecDepth 100000 in
theorem c_X5_keepBest (l : Launch) (D : va_G) (cA : Nat → ClassId) (ar : Nat → Nat) (M : Nat → Nat → Int32) (s_ : Nat) (hs : s_ < 3) : Cg l D cA yX5_keepBest cX5_keepBest 4 none 2 0 0 ([.ref (ar 100), .int (nI s_)] : List Value) (wR cA ar M) (fun (r : Option Value) (u : Nat → Nat → Int32) => r = none ∧ u = kbR M s_) (fun u : Nat → Nat → Int32 => wR cA ar u) := by
  refine x_met (by decide +kernel) rfl (Nat.le_of_ble_eq_true rfl) ?_
  intro xp xe xs xm xbl xme xco F hnm
  refine x_lv [(0, .ref (ar 100)), (1, .int (nI s_))] [0, 1] rfl ?_
  refine x_aload_n F 0 dX5_keepBest_0 rfl ?_
  refine x_iconst F (nI 3) dX5_keepBest_1 (by decide +kernel) ?_
  refine x_iload_n F 1 dX5_keepBest_2 rfl ?_
  refine x_iadd F (nI (3 + s_)) dX5_keepBest_3 (nI_add _ _) ?_
  refine x_iload_n F 1 dX5_keepBest_4 rfl ?_
  refine x_iload_n F 1 dX5_keepBest_5 rfl ?_
  refine x_callV F [] ([]) [0, 1, 2, 3, 4, 5, 6, 7, 8, 9, 10, 11, 12, 13, 14, 15, 16, 17, 18, 19, 20, 21, 22, 23, 24, 25] [] (c_X5_judge l D cA ar M (3 + s_) (s_) (s_) (by omega) (by omega) (by omega)) mwX5_judge wmX5_135 rfl (q0 := 0) rfl rfl rfl (Nat.le_of_ble_eq_true rfl) ⟨by decide, by decide⟩ ⟨by show _ ≤ 0; omega, by show _ ≤ 0; omega⟩ rfl rfl (by decide) (by decide) (by decide) dX5_keepBest_6 (fun r1 u2 hp3 => ?_)
  obtain ⟨rfl, rfl⟩ := hp3
  refine x_aload_n F 0 dX5_keepBest_9 rfl ?_
  refine x_get F inUX5 0 15 rfl rfl (by decide) wfX5_119 rfl dX5_keepBest_10 ?_
  refine x_top (hdR M (3 + s_) s_ s_ 16) (rfl) ?_
  refine x_istore_n F [(2, .int (hdR M (3 + s_) s_ s_ 16)), (0, .ref (ar 100)), (1, .int (nI s_))] dX5_keepBest_13 (by decide) rfl ?_
  refine x_aload_n F 1 dX5_keepBest_14 rfl ?_
  refine x_get F inUX5 0 16 rfl rfl (by decide) wfX5_122 rfl dX5_keepBest_15 ?_
  refine x_top (sfR M (3 + s_) s_ s_ 16) (rfl) ?_
  refine x_istore_n F [(3, .int (sfR M (3 + s_) s_ s_ 16)), (2, .int (hdR M (3 + s_) s_ s_ 16)), (0, .ref (ar 100)), (1, .int (nI s_))] dX5_keepBest_18 (by decide) rfl ?_
  refine x_aload_n F 2 dX5_keepBest_19 rfl ?_
  refine x_iload_n F 3 dX5_keepBest_20 rfl ?_
  refine x_iload_n F 3 dX5_keepBest_21 rfl ?_
  refine x_iload_n F 3 dX5_keepBest_22 rfl ?_
  refine x_callV F [] ([]) [0, 1, 2, 3, 4, 5, 6, 7, 8, 9, 10, 11, 12, 13, 14, 15, 16, 17, 18, 19, 20, 21, 22, 23, 24, 25] [] (c_X5_judge l D cA ar (jdg M (3 + s_) (s_) (s_)) (s_) (s_) (s_) (by omega) (by omega) (by omega)) mwX5_judge wmX5_135 rfl (q0 := 0) rfl rfl rfl (Nat.le_of_ble_eq_true rfl) ⟨by decide, by decide⟩ ⟨by show _ ≤ 0; omega, by show _ ≤ 0; omega⟩ rfl rfl (by decide) (by decide) (by decide) dX5_keepBest_23 (fun r4 u5 hp6 => ?_)
  obtain ⟨rfl, rfl⟩ := hp6
  rw [jdg_jdg]
  refine x_aload_n F 2 dX5_keepBest_26 rfl ?_
  refine x_get F inUX5 0 15 rfl rfl (by decide) wfX5_119 rfl dX5_keepBest_27 ?_
  refine x_top (hdR M s_ s_ s_ 16) (rfl) ?_
  refine x_aload_n F 2 dX5_keepBest_30 rfl ?_
  refine x_get F inUX5 0 16 rfl rfl (by decide) wfX5_122 rfl dX5_keepBest_31 ?_
  refine x_top (sfR M s_ s_ s_ 16) (rfl) ?_
  refine x_iload_n F 1 dX5_keepBest_34 rfl ?_
  refine x_iload_n F 0 dX5_keepBest_35 rfl ?_
  refine x_callSr F [] [] (c_X5_isBetter l D cA (hdR M s_ s_ s_ 16) (sfR M s_ s_ s_ 16) (hdR M (3 + s_) s_ s_ 16) (sfR M (3 + s_) s_ s_ 16)) mwX5_isBetter wmX5_139 rfl rfl (Nat.le_of_ble_eq_true rfl) ⟨by decide, by decide⟩ ⟨by show _ ≤ 0; omega, by show _ ≤ 0; omega⟩ rfl (by decide) dX5_keepBest_36 (fun r7 hp8 => ?_)
  subst hp8
  refine x_if_eq F 60 dX5_keepBest_39 (by decide) (fun h39 => ?_) (fun h39 => ?_)
  · exact x_vret F (jdg M s_ s_ s_) (⟨rfl, by unfold kbR; rw [if_neg (bz_0.mp h39)]⟩) (rfl) (by omega) (by omega) dX5_keepBest_60
  · refine x_aload_n F 2 dX5_keepBest_42 rfl ?_
    refine x_iload_n F 3 dX5_keepBest_43 rfl ?_
    refine x_iconst F (nI 3) dX5_keepBest_44 (by decide +kernel) ?_
    refine x_iload_n F 3 dX5_keepBest_45 rfl ?_
    refine x_iadd F (nI (3 + s_)) dX5_keepBest_46 (nI_add _ _) ?_
    refine x_callV F [] ([]) [0, 1, 2, 3, 4, 5, 6, 7, 8, 9, 10, 11, 12, 13, 14, 15, 16, 17, 18, 19, 20, 21, 22, 23, 24, 25] [] (c_X5_copyPlan l D cA ar (jdg M s_ s_ s_) (s_) (3 + s_) (by omega) (by omega)) mwX5_copyPlan wmX5_143 rfl (q0 := 0) rfl rfl rfl (Nat.le_of_ble_eq_true rfl) ⟨by decide, by decide⟩ ⟨by show _ ≤ 0; omega, by show _ ≤ 0; omega⟩ rfl rfl (by decide) (by decide) (by decide) dX5_keepBest_47 (fun r9 u10 hp11 => ?_)
    obtain ⟨rfl, rfl⟩ := hp11
    refine x_aload_n F 2 dX5_keepBest_50 rfl ?_
    refine x_get F inUX5 0 25 rfl rfl (by decide) wfX5_71 rfl dX5_keepBest_51 ?_
    refine x_iload_n F 3 dX5_keepBest_54 rfl ?_
    refine x_dup2 F dX5_keepBest_55 rfl rfl ?_
    refine x_iald F 21 (k := s_) rfl (by omega) (by decide) dX5_keepBest_56 ?_
    refine x_top (M 25 s_) (rfl) ?_
    refine x_iconst F (nI 1) dX5_keepBest_57 (by decide +kernel) ?_
    refine x_iadd F ((M 25 s_) + (nI 1)) dX5_keepBest_58 rfl ?_
    refine x_iast F 21 (k := s_) (wR cA ar (st2 (cpR (jdg M s_ s_ s_) (s_) (3 + s_) 16) 25 s_ ((M 25 s_) + (nI 1)))) rfl (by omega) (by decide) rfl dX5_keepBest_59 ?_
    exact x_vret F (st2 (cpR (jdg M s_ s_ s_) (s_) (3 + s_) 16) 25 s_ ((M 25 s_) + (nI 1))) (⟨rfl, by unfold kbR; rw [if_pos (bz_n0.mp h39)]⟩) (rfl) (by omega) (by omega) dX5_keepBest_60

