/-! THE LAW: a case at a time -/
section L1
variable {p : Program} {l : Launch} {e : Env} {s : State} {m : MethodId} {args : Array Value} {below : List Frame} {meth : Method} {c : Code} {cells slots : Nat} {Q : State → Prop} {cc : ByteArray} {nL : Nat} {own : String} {ret : Option FieldType} {D : va_G} {cA : Nat → ClassId} {A : Nat → Prop} {pc : Nat} {lv : List (Nat × Value)} {st : List Value} {ws : va_W} {R : Room} {b L : Nat} {xs : Nat → Int32}
theorem x_sld (F : Fx p m c cc nL s args own meth ret D cA A) (hX : va_X b L xs s s.heap) (hbl : b < s.heap.size) (hbA : ¬ A b) {k : Nat} (hk : k < L) (hL : L < 2 ^ 31) (d : decode cc pc = .ok (.iaload, 1)) (kk : Wx p l e R s m args below meth c cells slots Q nL D A (pc + 1) lv (.int (xs k) :: st) ws) : Wx p l e R s m args below meth c cells slots Q nL D A pc lv (.int (nI k) :: .ref b :: st) ws := fun H locs ls hP hD hS hl => va_sld F.1.1 F.1.2.1 hX hbl hbA hS (vp_in_nI hk hL) d (by rw [nI_clamp (by omega)]; exact kk H locs ls hP hD hS hl)
theorem x_slen (F : Fx p m c cc nL s args own meth ret D cA A) (hX : va_X b L xs s s.heap) (hbl : b < s.heap.size) (hbA : ¬ A b) (d : decode cc pc = .ok (.arraylength, 1)) (kk : Wx p l e R s m args below meth c cells slots Q nL D A (pc + 1) lv (.int (nI L) :: st) ws) : Wx p l e R s m args below meth c cells slots Q nL D A pc lv (.ref b :: st) ws := fun H locs ls hP hD hS hl => va_slen F.1.1 F.1.2.1 hX hbl hbA hS d (kk H locs ls hP hD hS hl)
end L1
section L2
variable {p : Program} {l : Launch} {e : Env} {s : State} {m : MethodId} {args : Array Value} {below : List Frame} {meth : Method} {c : Code} {cells slots : Nat} {Q : State → Prop} {ret : Option FieldType} {D : va_G} {cA : Nat → ClassId} {A : Nat → Prop} {ws : va_W} {b L : Nat} {xs : Nat → Int32} {i T ax ar : Nat}
set_option maxRecDepth 100000 in
theorem LC_come (F : Fx p m c cL_law 4 s args RL meth ret D cA A) (hX : va_X b L xs s s.heap) (hbl : b < s.heap.size) (hbA : ¬ A b) (hL : L ≤ 2560) (hi : i + 5 ≤ L) (hR : RelW cA T ax ar ws) (hc : cells + 20 ≤ 600000 ∧ slots + 200 ≤ 7302250) (hTT : T < 400000) (kk : ∀ ws2, RelW cA (T + 200) ax ar ws2 → Wx p l e room_1 s m args below meth c (cells + 20) (slots + 200) Q 4 D A 887 [(0, .ref b), (1, .ref ax), (2, .ref ar), (3, .int (nI i))] [] ws2) : Wx p l e room_1 s m args below meth c cells slots Q 4 D A 124 [(0, .ref b), (1, .ref ax), (2, .ref ar), (3, .int (nI i))] [] ws := by
  refine x_aload_n F 1 dL_law_124 rfl ?_
  refine x_aload_n F 0 dL_law_125 rfl ?_
  refine x_iload_n F 3 dL_law_126 rfl ?_
  refine x_iconst F (nI 1) dL_law_127 (by decide +kernel) ?_
  refine x_iadd F (nI (i + 1)) dL_law_128 (nI_add _ _) ?_
  refine x_sld F hX hbl hbA (k := i + 1) (by omega) (by omega) dL_law_129 ?_
  refine x_aload_n F 0 dL_law_130 rfl ?_
  refine x_iload_n F 3 dL_law_131 rfl ?_
  refine x_iconst F (nI 2) dL_law_132 (by decide +kernel) ?_
  refine x_iadd F (nI (i + 2)) dL_law_133 (nI_add _ _) ?_
  refine x_sld F hX hbl hbA (k := i + 2) (by omega) (by omega) dL_law_134 ?_
  refine x_aload_n F 0 dL_law_135 rfl ?_
  refine x_iload_n F 3 dL_law_136 rfl ?_
  refine x_iconst F (nI 3) dL_law_137 (by decide +kernel) ?_
  refine x_iadd F (nI (i + 3)) dL_law_138 (nI_add _ _) ?_
  refine x_sld F hX hbl hbA (k := i + 3) (by omega) (by omega) dL_law_139 ?_
  refine P_come F hR (xs (i + 1)) (xs (i + 2)) (xs (i + 3)) wmL_13 dL_law_140 (by decide) hc (fun x0 ws2 hq => ?_)
  refine x_aload_n F 2 dL_law_143 rfl ?_
  refine x_aload_n F 0 dL_law_144 rfl ?_
  refine x_iload_n F 3 dL_law_145 rfl ?_
  refine x_iconst F (nI 1) dL_law_146 (by decide +kernel) ?_
  refine x_iadd F (nI (i + 1)) dL_law_147 (nI_add _ _) ?_
  refine x_sld F hX hbl hbA (k := i + 1) (by omega) (by omega) dL_law_148 ?_
  refine x_aload_n F 0 dL_law_149 rfl ?_
  refine x_iload_n F 3 dL_law_150 rfl ?_
  refine x_iconst F (nI 2) dL_law_151 (by decide +kernel) ?_
  refine x_iadd F (nI (i + 2)) dL_law_152 (nI_add _ _) ?_
  refine x_sld F hX hbl hbA (k := i + 2) (by omega) (by omega) dL_law_153 ?_
  refine x_aload_n F 0 dL_law_154 rfl ?_
  refine x_iload_n F 3 dL_law_155 rfl ?_
  refine x_iconst F (nI 3) dL_law_156 (by decide +kernel) ?_
  refine x_iadd F (nI (i + 3)) dL_law_157 (nI_add _ _) ?_
  refine x_sld F hX hbl hbA (k := i + 3) (by omega) (by omega) dL_law_158 ?_
  refine hq _ _ _ [.int x0] _ _ wmL_17 dL_law_159 (Nat.le_of_ble_eq_true rfl) (by omega) (by omega) (fun ws3 hR3 => ?_)
  refine x_icmp_eq F 887 dL_law_162 (by decide) (fun h162 => ?_) (fun h162 => ?_)
  · exact kk ws3 hR3
  · exact absurd rfl h162
set_option maxRecDepth 100000 in
theorem LC_go (F : Fx p m c cL_law 4 s args RL meth ret D cA A) (hX : va_X b L xs s s.heap) (hbl : b < s.heap.size) (hbA : ¬ A b) (hL : L ≤ 2560) (hi : i + 5 ≤ L) (hR : RelW cA T ax ar ws) (hc : cells + 20 ≤ 600000 ∧ slots + 200 ≤ 7302250) (hTT : T < 400000) (kk : ∀ ws2, RelW cA (T + 200) ax ar ws2 → Wx p l e room_1 s m args below meth c (cells + 20) (slots + 200) Q 4 D A 887 [(0, .ref b), (1, .ref ax), (2, .ref ar), (3, .int (nI i))] [] ws2) : Wx p l e room_1 s m args below meth c cells slots Q 4 D A 167 [(0, .ref b), (1, .ref ax), (2, .ref ar), (3, .int (nI i))] [] ws := by
  refine x_aload_n F 1 dL_law_167 rfl ?_
  refine x_aload_n F 0 dL_law_168 rfl ?_
  refine x_iload_n F 3 dL_law_169 rfl ?_
  refine x_iconst F (nI 1) dL_law_170 (by decide +kernel) ?_
  refine x_iadd F (nI (i + 1)) dL_law_171 (nI_add _ _) ?_
  refine x_sld F hX hbl hbA (k := i + 1) (by omega) (by omega) dL_law_172 ?_
  refine P_go F hR (xs (i + 1)) wmL_18 dL_law_173 (by decide) hc (fun x0 ws2 hq => ?_)
  refine x_aload_n F 2 dL_law_176 rfl ?_
  refine x_aload_n F 0 dL_law_177 rfl ?_
  refine x_iload_n F 3 dL_law_178 rfl ?_
  refine x_iconst F (nI 1) dL_law_179 (by decide +kernel) ?_
  refine x_iadd F (nI (i + 1)) dL_law_180 (nI_add _ _) ?_
  refine x_sld F hX hbl hbA (k := i + 1) (by omega) (by omega) dL_law_181 ?_
  refine hq _ _ _ [.int x0] _ _ wmL_22 dL_law_182 (Nat.le_of_ble_eq_true rfl) (by omega) (by omega) (fun ws3 hR3 => ?_)
  refine x_icmp_eq F 887 dL_law_185 (by decide) (fun h185 => ?_) (fun h185 => ?_)
  · exact kk ws3 hR3
  · exact absurd rfl h185
set_option maxRecDepth 100000 in
theorem LC_turn (F : Fx p m c cL_law 4 s args RL meth ret D cA A) (hX : va_X b L xs s s.heap) (hbl : b < s.heap.size) (hbA : ¬ A b) (hL : L ≤ 2560) (hi : i + 5 ≤ L) (hR : RelW cA T ax ar ws) (hc : cells + 20 ≤ 600000 ∧ slots + 200 ≤ 7302250) (hTT : T < 400000) (kk : ∀ ws2, RelW cA (T + 200) ax ar ws2 → Wx p l e room_1 s m args below meth c (cells + 20) (slots + 200) Q 4 D A 887 [(0, .ref b), (1, .ref ax), (2, .ref ar), (3, .int (nI i))] [] ws2) : Wx p l e room_1 s m args below meth c cells slots Q 4 D A 190 [(0, .ref b), (1, .ref ax), (2, .ref ar), (3, .int (nI i))] [] ws := by
  refine x_aload_n F 1 dL_law_190 rfl ?_
  refine x_aload_n F 0 dL_law_191 rfl ?_
  refine x_iload_n F 3 dL_law_192 rfl ?_
  refine x_iconst F (nI 1) dL_law_193 (by decide +kernel) ?_
  refine x_iadd F (nI (i + 1)) dL_law_194 (nI_add _ _) ?_
  refine x_sld F hX hbl hbA (k := i + 1) (by omega) (by omega) dL_law_195 ?_
  refine x_aload_n F 0 dL_law_196 rfl ?_
  refine x_iload_n F 3 dL_law_197 rfl ?_
  refine x_iconst F (nI 2) dL_law_198 (by decide +kernel) ?_
  refine x_iadd F (nI (i + 2)) dL_law_199 (nI_add _ _) ?_
  refine x_sld F hX hbl hbA (k := i + 2) (by omega) (by omega) dL_law_200 ?_
  refine x_aload_n F 0 dL_law_201 rfl ?_
  refine x_iload_n F 3 dL_law_202 rfl ?_
  refine x_iconst F (nI 3) dL_law_203 (by decide +kernel) ?_
  refine x_iadd F (nI (i + 3)) dL_law_204 (nI_add _ _) ?_
  refine x_sld F hX hbl hbA (k := i + 3) (by omega) (by omega) dL_law_205 ?_
  refine x_aload_n F 0 dL_law_206 rfl ?_
  refine x_iload_n F 3 dL_law_207 rfl ?_
  refine x_iconst F (nI 4) dL_law_208 (by decide +kernel) ?_
  refine x_iadd F (nI (i + 4)) dL_law_209 (nI_add _ _) ?_
  refine x_sld F hX hbl hbA (k := i + 4) (by omega) (by omega) dL_law_210 ?_
  refine P_turn F hR (xs (i + 1)) (xs (i + 2)) (xs (i + 3)) (xs (i + 4)) wmL_23 dL_law_211 (by decide) hc (fun x0 ws2 hq => ?_)
  refine x_aload_n F 2 dL_law_214 rfl ?_
  refine x_aload_n F 0 dL_law_215 rfl ?_
  refine x_iload_n F 3 dL_law_216 rfl ?_
  refine x_iconst F (nI 1) dL_law_217 (by decide +kernel) ?_
  refine x_iadd F (nI (i + 1)) dL_law_218 (nI_add _ _) ?_
  refine x_sld F hX hbl hbA (k := i + 1) (by omega) (by omega) dL_law_219 ?_
  refine x_aload_n F 0 dL_law_220 rfl ?_
  refine x_iload_n F 3 dL_law_221 rfl ?_
  refine x_iconst F (nI 2) dL_law_222 (by decide +kernel) ?_
  refine x_iadd F (nI (i + 2)) dL_law_223 (nI_add _ _) ?_
  refine x_sld F hX hbl hbA (k := i + 2) (by omega) (by omega) dL_law_224 ?_
  refine x_aload_n F 0 dL_law_225 rfl ?_
  refine x_iload_n F 3 dL_law_226 rfl ?_
  refine x_iconst F (nI 3) dL_law_227 (by decide +kernel) ?_
  refine x_iadd F (nI (i + 3)) dL_law_228 (nI_add _ _) ?_
  refine x_sld F hX hbl hbA (k := i + 3) (by omega) (by omega) dL_law_229 ?_
  refine x_aload_n F 0 dL_law_230 rfl ?_
  refine x_iload_n F 3 dL_law_231 rfl ?_
  refine x_iconst F (nI 4) dL_law_232 (by decide +kernel) ?_
  refine x_iadd F (nI (i + 4)) dL_law_233 (nI_add _ _) ?_
  refine x_sld F hX hbl hbA (k := i + 4) (by omega) (by omega) dL_law_234 ?_
  refine hq _ _ _ [.int x0] _ _ wmL_27 dL_law_235 (Nat.le_of_ble_eq_true rfl) (by omega) (by omega) (fun ws3 hR3 => ?_)
  refine x_icmp_eq F 887 dL_law_238 (by decide) (fun h238 => ?_) (fun h238 => ?_)
  · exact kk ws3 hR3
  · exact absurd rfl h238
set_option maxRecDepth 100000 in
theorem LC_size (F : Fx p m c cL_law 4 s args RL meth ret D cA A) (hX : va_X b L xs s s.heap) (hbl : b < s.heap.size) (hbA : ¬ A b) (hL : L ≤ 2560) (hi : i + 5 ≤ L) (hR : RelW cA T ax ar ws) (hc : cells + 20 ≤ 600000 ∧ slots + 200 ≤ 7302250) (hTT : T < 400000) (kk : ∀ ws2, RelW cA (T + 200) ax ar ws2 → Wx p l e room_1 s m args below meth c (cells + 20) (slots + 200) Q 4 D A 887 [(0, .ref b), (1, .ref ax), (2, .ref ar), (3, .int (nI i))] [] ws2) : Wx p l e room_1 s m args below meth c cells slots Q 4 D A 243 [(0, .ref b), (1, .ref ax), (2, .ref ar), (3, .int (nI i))] [] ws := by
  refine x_aload_n F 1 dL_law_243 rfl ?_
  refine x_aload_n F 0 dL_law_244 rfl ?_
  refine x_iload_n F 3 dL_law_245 rfl ?_
  refine x_iconst F (nI 1) dL_law_246 (by decide +kernel) ?_
  refine x_iadd F (nI (i + 1)) dL_law_247 (nI_add _ _) ?_
  refine x_sld F hX hbl hbA (k := i + 1) (by omega) (by omega) dL_law_248 ?_
  refine x_aload_n F 0 dL_law_249 rfl ?_
  refine x_iload_n F 3 dL_law_250 rfl ?_
  refine x_iconst F (nI 2) dL_law_251 (by decide +kernel) ?_
  refine x_iadd F (nI (i + 2)) dL_law_252 (nI_add _ _) ?_
  refine x_sld F hX hbl hbA (k := i + 2) (by omega) (by omega) dL_law_253 ?_
  refine P_size F hR (xs (i + 1)) (xs (i + 2)) wmL_28 dL_law_254 (by decide) hc (fun x0 ws2 hq => ?_)
  refine x_aload_n F 2 dL_law_257 rfl ?_
  refine x_aload_n F 0 dL_law_258 rfl ?_
  refine x_iload_n F 3 dL_law_259 rfl ?_
  refine x_iconst F (nI 1) dL_law_260 (by decide +kernel) ?_
  refine x_iadd F (nI (i + 1)) dL_law_261 (nI_add _ _) ?_
  refine x_sld F hX hbl hbA (k := i + 1) (by omega) (by omega) dL_law_262 ?_
  refine x_aload_n F 0 dL_law_263 rfl ?_
  refine x_iload_n F 3 dL_law_264 rfl ?_
  refine x_iconst F (nI 2) dL_law_265 (by decide +kernel) ?_
  refine x_iadd F (nI (i + 2)) dL_law_266 (nI_add _ _) ?_
  refine x_sld F hX hbl hbA (k := i + 2) (by omega) (by omega) dL_law_267 ?_
  refine hq _ _ _ [.int x0] _ _ wmL_32 dL_law_268 (Nat.le_of_ble_eq_true rfl) (by omega) (by omega) (fun ws3 hR3 => ?_)
  refine x_icmp_eq F 887 dL_law_271 (by decide) (fun h271 => ?_) (fun h271 => ?_)
  · exact kk ws3 hR3
  · exact absurd rfl h271
set_option maxRecDepth 100000 in
theorem LC_apart (F : Fx p m c cL_law 4 s args RL meth ret D cA A) (hX : va_X b L xs s s.heap) (hbl : b < s.heap.size) (hbA : ¬ A b) (hL : L ≤ 2560) (hi : i + 5 ≤ L) (hR : RelW cA T ax ar ws) (hc : cells + 20 ≤ 600000 ∧ slots + 200 ≤ 7302250) (hTT : T < 400000) (kk : ∀ ws2, RelW cA (T + 200) ax ar ws2 → Wx p l e room_1 s m args below meth c (cells + 20) (slots + 200) Q 4 D A 887 [(0, .ref b), (1, .ref ax), (2, .ref ar), (3, .int (nI i))] [] ws2) : Wx p l e room_1 s m args below meth c cells slots Q 4 D A 276 [(0, .ref b), (1, .ref ax), (2, .ref ar), (3, .int (nI i))] [] ws := by
  refine x_aload_n F 1 dL_law_276 rfl ?_
  refine x_aload_n F 0 dL_law_277 rfl ?_
  refine x_iload_n F 3 dL_law_278 rfl ?_
  refine x_iconst F (nI 1) dL_law_279 (by decide +kernel) ?_
  refine x_iadd F (nI (i + 1)) dL_law_280 (nI_add _ _) ?_
  refine x_sld F hX hbl hbA (k := i + 1) (by omega) (by omega) dL_law_281 ?_
  refine x_aload_n F 0 dL_law_282 rfl ?_
  refine x_iload_n F 3 dL_law_283 rfl ?_
  refine x_iconst F (nI 2) dL_law_284 (by decide +kernel) ?_
  refine x_iadd F (nI (i + 2)) dL_law_285 (nI_add _ _) ?_
  refine x_sld F hX hbl hbA (k := i + 2) (by omega) (by omega) dL_law_286 ?_
  refine x_aload_n F 0 dL_law_287 rfl ?_
  refine x_iload_n F 3 dL_law_288 rfl ?_
  refine x_iconst F (nI 3) dL_law_289 (by decide +kernel) ?_
  refine x_iadd F (nI (i + 3)) dL_law_290 (nI_add _ _) ?_
  refine x_sld F hX hbl hbA (k := i + 3) (by omega) (by omega) dL_law_291 ?_
  refine x_if_eq F 299 dL_law_292 (by decide) (fun h292 => ?_) (fun h292 => ?_)
  · refine x_iconst F (nI 0) dL_law_299 (by decide +kernel) ?_
    refine P_apart F hR (xs (i + 1)) (xs (i + 2)) (nI 0) wmL_33 dL_law_300 (by decide) hc (fun x0 ws2 hq => ?_)
    refine x_aload_n F 2 dL_law_303 rfl ?_
    refine x_aload_n F 0 dL_law_304 rfl ?_
    refine x_iload_n F 3 dL_law_305 rfl ?_
    refine x_iconst F (nI 1) dL_law_306 (by decide +kernel) ?_
    refine x_iadd F (nI (i + 1)) dL_law_307 (nI_add _ _) ?_
    refine x_sld F hX hbl hbA (k := i + 1) (by omega) (by omega) dL_law_308 ?_
    refine x_aload_n F 0 dL_law_309 rfl ?_
    refine x_iload_n F 3 dL_law_310 rfl ?_
    refine x_iconst F (nI 2) dL_law_311 (by decide +kernel) ?_
    refine x_iadd F (nI (i + 2)) dL_law_312 (nI_add _ _) ?_
    refine x_sld F hX hbl hbA (k := i + 2) (by omega) (by omega) dL_law_313 ?_
    refine x_aload_n F 0 dL_law_314 rfl ?_
    refine x_iload_n F 3 dL_law_315 rfl ?_
    refine x_iconst F (nI 3) dL_law_316 (by decide +kernel) ?_
    refine x_iadd F (nI (i + 3)) dL_law_317 (nI_add _ _) ?_
    refine x_sld F hX hbl hbA (k := i + 3) (by omega) (by omega) dL_law_318 ?_
    refine x_if_eq F 326 dL_law_319 (by decide) (fun h319 => ?_) (fun h319 => ?_)
    · refine x_iconst F (nI 0) dL_law_326 (by decide +kernel) ?_
      refine hq _ _ _ [.int x0] _ _ wmL_37 dL_law_327 (Nat.le_of_ble_eq_true rfl) (by omega) (by omega) (fun ws3 hR3 => ?_)
      refine x_icmp_eq F 887 dL_law_330 (by decide) (fun h330 => ?_) (fun h330 => ?_)
      · exact kk ws3 hR3
      · exact absurd rfl h330
    · exact absurd h292 h319
  · refine x_iconst F (nI 1) dL_law_295 (by decide +kernel) ?_
    refine x_goto F 300 dL_law_296 (by decide) ?_
    refine P_apart F hR (xs (i + 1)) (xs (i + 2)) (nI 1) wmL_33 dL_law_300 (by decide) hc (fun x0 ws2 hq => ?_)
    refine x_aload_n F 2 dL_law_303 rfl ?_
    refine x_aload_n F 0 dL_law_304 rfl ?_
    refine x_iload_n F 3 dL_law_305 rfl ?_
    refine x_iconst F (nI 1) dL_law_306 (by decide +kernel) ?_
    refine x_iadd F (nI (i + 1)) dL_law_307 (nI_add _ _) ?_
    refine x_sld F hX hbl hbA (k := i + 1) (by omega) (by omega) dL_law_308 ?_
    refine x_aload_n F 0 dL_law_309 rfl ?_
    refine x_iload_n F 3 dL_law_310 rfl ?_
    refine x_iconst F (nI 2) dL_law_311 (by decide +kernel) ?_
    refine x_iadd F (nI (i + 2)) dL_law_312 (nI_add _ _) ?_
    refine x_sld F hX hbl hbA (k := i + 2) (by omega) (by omega) dL_law_313 ?_
    refine x_aload_n F 0 dL_law_314 rfl ?_
    refine x_iload_n F 3 dL_law_315 rfl ?_
    refine x_iconst F (nI 3) dL_law_316 (by decide +kernel) ?_
    refine x_iadd F (nI (i + 3)) dL_law_317 (nI_add _ _) ?_
    refine x_sld F hX hbl hbA (k := i + 3) (by omega) (by omega) dL_law_318 ?_
    refine x_if_eq F 326 dL_law_319 (by decide) (fun h319 => ?_) (fun h319 => ?_)
    · exact absurd h319 h292
    · refine x_iconst F (nI 1) dL_law_322 (by decide +kernel) ?_
      refine x_goto F 327 dL_law_323 (by decide) ?_
      refine hq _ _ _ [.int x0] _ _ wmL_37 dL_law_327 (Nat.le_of_ble_eq_true rfl) (by omega) (by omega) (fun ws3 hR3 => ?_)
      refine x_icmp_eq F 887 dL_law_330 (by decide) (fun h330 => ?_) (fun h330 => ?_)
      · exact kk ws3 hR3
      · exact absurd rfl h330
set_option maxRecDepth 100000 in
theorem LC_lock (F : Fx p m c cL_law 4 s args RL meth ret D cA A) (hX : va_X b L xs s s.heap) (hbl : b < s.heap.size) (hbA : ¬ A b) (hL : L ≤ 2560) (hi : i + 5 ≤ L) (hR : RelW cA T ax ar ws) (hc : cells + 20 ≤ 600000 ∧ slots + 200 ≤ 7302250) (hTT : T < 400000) (kk : ∀ ws2, RelW cA (T + 200) ax ar ws2 → Wx p l e room_1 s m args below meth c (cells + 20) (slots + 200) Q 4 D A 887 [(0, .ref b), (1, .ref ax), (2, .ref ar), (3, .int (nI i))] [] ws2) : Wx p l e room_1 s m args below meth c cells slots Q 4 D A 335 [(0, .ref b), (1, .ref ax), (2, .ref ar), (3, .int (nI i))] [] ws := by
  refine x_aload_n F 1 dL_law_335 rfl ?_
  refine x_aload_n F 0 dL_law_336 rfl ?_
  refine x_iload_n F 3 dL_law_337 rfl ?_
  refine x_iconst F (nI 1) dL_law_338 (by decide +kernel) ?_
  refine x_iadd F (nI (i + 1)) dL_law_339 (nI_add _ _) ?_
  refine x_sld F hX hbl hbA (k := i + 1) (by omega) (by omega) dL_law_340 ?_
  refine x_aload_n F 0 dL_law_341 rfl ?_
  refine x_iload_n F 3 dL_law_342 rfl ?_
  refine x_iconst F (nI 2) dL_law_343 (by decide +kernel) ?_
  refine x_iadd F (nI (i + 2)) dL_law_344 (nI_add _ _) ?_
  refine x_sld F hX hbl hbA (k := i + 2) (by omega) (by omega) dL_law_345 ?_
  refine P_lock F hR (xs (i + 1)) (xs (i + 2)) wmL_38 dL_law_346 (by decide) hc (fun x0 ws2 hq => ?_)
  refine x_aload_n F 2 dL_law_349 rfl ?_
  refine x_aload_n F 0 dL_law_350 rfl ?_
  refine x_iload_n F 3 dL_law_351 rfl ?_
  refine x_iconst F (nI 1) dL_law_352 (by decide +kernel) ?_
  refine x_iadd F (nI (i + 1)) dL_law_353 (nI_add _ _) ?_
  refine x_sld F hX hbl hbA (k := i + 1) (by omega) (by omega) dL_law_354 ?_
  refine x_aload_n F 0 dL_law_355 rfl ?_
  refine x_iload_n F 3 dL_law_356 rfl ?_
  refine x_iconst F (nI 2) dL_law_357 (by decide +kernel) ?_
  refine x_iadd F (nI (i + 2)) dL_law_358 (nI_add _ _) ?_
  refine x_sld F hX hbl hbA (k := i + 2) (by omega) (by omega) dL_law_359 ?_
  refine hq _ _ _ [.int x0] _ _ wmL_41 dL_law_360 (Nat.le_of_ble_eq_true rfl) (by omega) (by omega) (fun ws3 hR3 => ?_)
  refine x_icmp_eq F 887 dL_law_363 (by decide) (fun h363 => ?_) (fun h363 => ?_)
  · exact kk ws3 hR3
  · exact absurd rfl h363
set_option maxRecDepth 100000 in
theorem LC_free (F : Fx p m c cL_law 4 s args RL meth ret D cA A) (hX : va_X b L xs s s.heap) (hbl : b < s.heap.size) (hbA : ¬ A b) (hL : L ≤ 2560) (hi : i + 5 ≤ L) (hR : RelW cA T ax ar ws) (hc : cells + 20 ≤ 600000 ∧ slots + 200 ≤ 7302250) (hTT : T < 400000) (kk : ∀ ws2, RelW cA (T + 200) ax ar ws2 → Wx p l e room_1 s m args below meth c (cells + 20) (slots + 200) Q 4 D A 887 [(0, .ref b), (1, .ref ax), (2, .ref ar), (3, .int (nI i))] [] ws2) : Wx p l e room_1 s m args below meth c cells slots Q 4 D A 368 [(0, .ref b), (1, .ref ax), (2, .ref ar), (3, .int (nI i))] [] ws := by
  refine x_aload_n F 1 dL_law_368 rfl ?_
  refine x_aload_n F 0 dL_law_369 rfl ?_
  refine x_iload_n F 3 dL_law_370 rfl ?_
  refine x_iconst F (nI 1) dL_law_371 (by decide +kernel) ?_
  refine x_iadd F (nI (i + 1)) dL_law_372 (nI_add _ _) ?_
  refine x_sld F hX hbl hbA (k := i + 1) (by omega) (by omega) dL_law_373 ?_
  refine P_free F hR (xs (i + 1)) wmL_42 dL_law_374 (by decide) hc (fun x0 ws2 hq => ?_)
  refine x_aload_n F 2 dL_law_377 rfl ?_
  refine x_aload_n F 0 dL_law_378 rfl ?_
  refine x_iload_n F 3 dL_law_379 rfl ?_
  refine x_iconst F (nI 1) dL_law_380 (by decide +kernel) ?_
  refine x_iadd F (nI (i + 1)) dL_law_381 (nI_add _ _) ?_
  refine x_sld F hX hbl hbA (k := i + 1) (by omega) (by omega) dL_law_382 ?_
  refine hq _ _ _ [.int x0] _ _ wmL_45 dL_law_383 (Nat.le_of_ble_eq_true rfl) (by omega) (by omega) (fun ws3 hR3 => ?_)
  refine x_icmp_eq F 887 dL_law_386 (by decide) (fun h386 => ?_) (fun h386 => ?_)
  · exact kk ws3 hR3
  · exact absurd rfl h386
set_option maxRecDepth 100000 in
theorem LC_solve (F : Fx p m c cL_law 4 s args RL meth ret D cA A) (hX : va_X b L xs s s.heap) (hbl : b < s.heap.size) (hbA : ¬ A b) (hL : L ≤ 2560) (hi : i + 5 ≤ L) (hR : RelW cA T ax ar ws) (hc : cells + 20 ≤ 600000 ∧ slots + 200 ≤ 7302250) (hTT : T < 400000) (kk : ∀ ws2, RelW cA (T + 200) ax ar ws2 → Wx p l e room_1 s m args below meth c (cells + 20) (slots + 200) Q 4 D A 887 [(0, .ref b), (1, .ref ax), (2, .ref ar), (3, .int (nI i))] [] ws2) : Wx p l e room_1 s m args below meth c cells slots Q 4 D A 391 [(0, .ref b), (1, .ref ax), (2, .ref ar), (3, .int (nI i))] [] ws := by
  refine x_aload_n F 1 dL_law_391 rfl ?_
  refine x_aload_n F 0 dL_law_392 rfl ?_
  refine x_iload_n F 3 dL_law_393 rfl ?_
  refine x_iconst F (nI 1) dL_law_394 (by decide +kernel) ?_
  refine x_iadd F (nI (i + 1)) dL_law_395 (nI_add _ _) ?_
  refine x_sld F hX hbl hbA (k := i + 1) (by omega) (by omega) dL_law_396 ?_
  refine x_aload_n F 0 dL_law_397 rfl ?_
  refine x_iload_n F 3 dL_law_398 rfl ?_
  refine x_iconst F (nI 2) dL_law_399 (by decide +kernel) ?_
  refine x_iadd F (nI (i + 2)) dL_law_400 (nI_add _ _) ?_
  refine x_sld F hX hbl hbA (k := i + 2) (by omega) (by omega) dL_law_401 ?_
  refine P_solve F hR (xs (i + 1)) (xs (i + 2)) wmL_46 dL_law_402 (by decide) hc (fun x0 ws2 hq => ?_)
  refine x_aload_n F 2 dL_law_405 rfl ?_
  refine x_aload_n F 0 dL_law_406 rfl ?_
  refine x_iload_n F 3 dL_law_407 rfl ?_
  refine x_iconst F (nI 1) dL_law_408 (by decide +kernel) ?_
  refine x_iadd F (nI (i + 1)) dL_law_409 (nI_add _ _) ?_
  refine x_sld F hX hbl hbA (k := i + 1) (by omega) (by omega) dL_law_410 ?_
  refine x_aload_n F 0 dL_law_411 rfl ?_
  refine x_iload_n F 3 dL_law_412 rfl ?_
  refine x_iconst F (nI 2) dL_law_413 (by decide +kernel) ?_
  refine x_iadd F (nI (i + 2)) dL_law_414 (nI_add _ _) ?_
  refine x_sld F hX hbl hbA (k := i + 2) (by omega) (by omega) dL_law_415 ?_
  refine hq _ _ _ [.int x0] _ _ wmL_49 dL_law_416 (Nat.le_of_ble_eq_true rfl) (by omega) (by omega) (fun ws3 hR3 => ?_)
  refine x_icmp_eq F 887 dL_law_419 (by decide) (fun h419 => ?_) (fun h419 => ?_)
  · exact kk ws3 hR3
  · exact absurd rfl h419
set_option maxRecDepth 100000 in
theorem LC_take (F : Fx p m c cL_law 4 s args RL meth ret D cA A) (hX : va_X b L xs s s.heap) (hbl : b < s.heap.size) (hbA : ¬ A b) (hL : L ≤ 2560) (hi : i + 5 ≤ L) (hR : RelW cA T ax ar ws) (hc : cells + 20 ≤ 600000 ∧ slots + 200 ≤ 7302250) (hTT : T < 400000) (kk : ∀ ws2, RelW cA (T + 200) ax ar ws2 → Wx p l e room_1 s m args below meth c (cells + 20) (slots + 200) Q 4 D A 887 [(0, .ref b), (1, .ref ax), (2, .ref ar), (3, .int (nI i))] [] ws2) : Wx p l e room_1 s m args below meth c cells slots Q 4 D A 424 [(0, .ref b), (1, .ref ax), (2, .ref ar), (3, .int (nI i))] [] ws := by
  refine x_aload_n F 1 dL_law_424 rfl ?_
  refine x_aload_n F 0 dL_law_425 rfl ?_
  refine x_iload_n F 3 dL_law_426 rfl ?_
  refine x_iconst F (nI 1) dL_law_427 (by decide +kernel) ?_
  refine x_iadd F (nI (i + 1)) dL_law_428 (nI_add _ _) ?_
  refine x_sld F hX hbl hbA (k := i + 1) (by omega) (by omega) dL_law_429 ?_
  refine x_aload_n F 0 dL_law_430 rfl ?_
  refine x_iload_n F 3 dL_law_431 rfl ?_
  refine x_iconst F (nI 2) dL_law_432 (by decide +kernel) ?_
  refine x_iadd F (nI (i + 2)) dL_law_433 (nI_add _ _) ?_
  refine x_sld F hX hbl hbA (k := i + 2) (by omega) (by omega) dL_law_434 ?_
  refine P_take F hR (xs (i + 1)) (xs (i + 2)) wmL_50 dL_law_435 (by decide) hc (fun x0 ws2 hq => ?_)
  refine x_aload_n F 2 dL_law_438 rfl ?_
  refine x_aload_n F 0 dL_law_439 rfl ?_
  refine x_iload_n F 3 dL_law_440 rfl ?_
  refine x_iconst F (nI 1) dL_law_441 (by decide +kernel) ?_
  refine x_iadd F (nI (i + 1)) dL_law_442 (nI_add _ _) ?_
  refine x_sld F hX hbl hbA (k := i + 1) (by omega) (by omega) dL_law_443 ?_
  refine x_aload_n F 0 dL_law_444 rfl ?_
  refine x_iload_n F 3 dL_law_445 rfl ?_
  refine x_iconst F (nI 2) dL_law_446 (by decide +kernel) ?_
  refine x_iadd F (nI (i + 2)) dL_law_447 (nI_add _ _) ?_
  refine x_sld F hX hbl hbA (k := i + 2) (by omega) (by omega) dL_law_448 ?_
  refine hq _ _ _ [.int x0] _ _ wmL_53 dL_law_449 (Nat.le_of_ble_eq_true rfl) (by omega) (by omega) (fun ws3 hR3 => ?_)
  refine x_icmp_eq F 887 dL_law_452 (by decide) (fun h452 => ?_) (fun h452 => ?_)
  · exact kk ws3 hR3
  · exact absurd rfl h452
set_option maxRecDepth 100000 in
theorem LC_step (F : Fx p m c cL_law 4 s args RL meth ret D cA A) (hX : va_X b L xs s s.heap) (hbl : b < s.heap.size) (hbA : ¬ A b) (hL : L ≤ 2560) (hi : i + 5 ≤ L) (hR : RelW cA T ax ar ws) (hc : cells + 20 ≤ 600000 ∧ slots + 200 ≤ 7302250) (hTT : T < 400000) (kk : ∀ ws2, RelW cA (T + 200) ax ar ws2 → Wx p l e room_1 s m args below meth c (cells + 20) (slots + 200) Q 4 D A 887 [(0, .ref b), (1, .ref ax), (2, .ref ar), (3, .int (nI i))] [] ws2) : Wx p l e room_1 s m args below meth c cells slots Q 4 D A 457 [(0, .ref b), (1, .ref ax), (2, .ref ar), (3, .int (nI i))] [] ws := by
  refine x_aload_n F 1 dL_law_457 rfl ?_
  refine x_aload_n F 0 dL_law_458 rfl ?_
  refine x_iload_n F 3 dL_law_459 rfl ?_
  refine x_iconst F (nI 1) dL_law_460 (by decide +kernel) ?_
  refine x_iadd F (nI (i + 1)) dL_law_461 (nI_add _ _) ?_
  refine x_sld F hX hbl hbA (k := i + 1) (by omega) (by omega) dL_law_462 ?_
  refine x_aload_n F 0 dL_law_463 rfl ?_
  refine x_iload_n F 3 dL_law_464 rfl ?_
  refine x_iconst F (nI 2) dL_law_465 (by decide +kernel) ?_
  refine x_iadd F (nI (i + 2)) dL_law_466 (nI_add _ _) ?_
  refine x_sld F hX hbl hbA (k := i + 2) (by omega) (by omega) dL_law_467 ?_
  refine P_step F hR (xs (i + 1)) (xs (i + 2)) wmL_54 dL_law_468 (by decide) hc hTT (fun x0 ws2 hq => ?_)
  refine x_aload_n F 2 dL_law_471 rfl ?_
  refine x_aload_n F 0 dL_law_472 rfl ?_
  refine x_iload_n F 3 dL_law_473 rfl ?_
  refine x_iconst F (nI 1) dL_law_474 (by decide +kernel) ?_
  refine x_iadd F (nI (i + 1)) dL_law_475 (nI_add _ _) ?_
  refine x_sld F hX hbl hbA (k := i + 1) (by omega) (by omega) dL_law_476 ?_
  refine x_aload_n F 0 dL_law_477 rfl ?_
  refine x_iload_n F 3 dL_law_478 rfl ?_
  refine x_iconst F (nI 2) dL_law_479 (by decide +kernel) ?_
  refine x_iadd F (nI (i + 2)) dL_law_480 (nI_add _ _) ?_
  refine x_sld F hX hbl hbA (k := i + 2) (by omega) (by omega) dL_law_481 ?_
  refine hq _ _ _ [.int x0] _ _ wmL_57 dL_law_482 (Nat.le_of_ble_eq_true rfl) (by omega) (by omega) (fun ws3 hR3 => ?_)
  refine x_icmp_eq F 887 dL_law_485 (by decide) (fun h485 => ?_) (fun h485 => ?_)
  · exact kk ws3 hR3
  · exact absurd rfl h485
set_option maxRecDepth 100000 in
theorem LC_mark (F : Fx p m c cL_law 4 s args RL meth ret D cA A) (hX : va_X b L xs s s.heap) (hbl : b < s.heap.size) (hbA : ¬ A b) (hL : L ≤ 2560) (hi : i + 5 ≤ L) (hR : RelW cA T ax ar ws) (hc : cells + 20 ≤ 600000 ∧ slots + 200 ≤ 7302250) (hTT : T < 400000) (kk : ∀ ws2, RelW cA (T + 200) ax ar ws2 → Wx p l e room_1 s m args below meth c (cells + 20) (slots + 200) Q 4 D A 887 [(0, .ref b), (1, .ref ax), (2, .ref ar), (3, .int (nI i))] [] ws2) : Wx p l e room_1 s m args below meth c cells slots Q 4 D A 490 [(0, .ref b), (1, .ref ax), (2, .ref ar), (3, .int (nI i))] [] ws := by
  refine x_aload_n F 1 dL_law_490 rfl ?_
  refine x_aload_n F 0 dL_law_491 rfl ?_
  refine x_iload_n F 3 dL_law_492 rfl ?_
  refine x_iconst F (nI 1) dL_law_493 (by decide +kernel) ?_
  refine x_iadd F (nI (i + 1)) dL_law_494 (nI_add _ _) ?_
  refine x_sld F hX hbl hbA (k := i + 1) (by omega) (by omega) dL_law_495 ?_
  refine x_aload_n F 0 dL_law_496 rfl ?_
  refine x_iload_n F 3 dL_law_497 rfl ?_
  refine x_iconst F (nI 2) dL_law_498 (by decide +kernel) ?_
  refine x_iadd F (nI (i + 2)) dL_law_499 (nI_add _ _) ?_
  refine x_sld F hX hbl hbA (k := i + 2) (by omega) (by omega) dL_law_500 ?_
  refine P_mark F hR (xs (i + 1)) (xs (i + 2)) wmL_58 dL_law_501 (by decide) hc (fun x0 ws2 hq => ?_)
  refine x_aload_n F 2 dL_law_504 rfl ?_
  refine x_aload_n F 0 dL_law_505 rfl ?_
  refine x_iload_n F 3 dL_law_506 rfl ?_
  refine x_iconst F (nI 1) dL_law_507 (by decide +kernel) ?_
  refine x_iadd F (nI (i + 1)) dL_law_508 (nI_add _ _) ?_
  refine x_sld F hX hbl hbA (k := i + 1) (by omega) (by omega) dL_law_509 ?_
  refine x_aload_n F 0 dL_law_510 rfl ?_
  refine x_iload_n F 3 dL_law_511 rfl ?_
  refine x_iconst F (nI 2) dL_law_512 (by decide +kernel) ?_
  refine x_iadd F (nI (i + 2)) dL_law_513 (nI_add _ _) ?_
  refine x_sld F hX hbl hbA (k := i + 2) (by omega) (by omega) dL_law_514 ?_
  refine hq _ _ _ [.int x0] _ _ wmL_61 dL_law_515 (Nat.le_of_ble_eq_true rfl) (by omega) (by omega) (fun ws3 hR3 => ?_)
  refine x_icmp_eq F 887 dL_law_518 (by decide) (fun h518 => ?_) (fun h518 => ?_)
  · exact kk ws3 hR3
  · exact absurd rfl h518
set_option maxRecDepth 100000 in
theorem LC_back (F : Fx p m c cL_law 4 s args RL meth ret D cA A) (hX : va_X b L xs s s.heap) (hbl : b < s.heap.size) (hbA : ¬ A b) (hL : L ≤ 2560) (hi : i + 5 ≤ L) (hR : RelW cA T ax ar ws) (hc : cells + 20 ≤ 600000 ∧ slots + 200 ≤ 7302250) (hTT : T < 400000) (kk : ∀ ws2, RelW cA (T + 200) ax ar ws2 → Wx p l e room_1 s m args below meth c (cells + 20) (slots + 200) Q 4 D A 887 [(0, .ref b), (1, .ref ax), (2, .ref ar), (3, .int (nI i))] [] ws2) : Wx p l e room_1 s m args below meth c cells slots Q 4 D A 523 [(0, .ref b), (1, .ref ax), (2, .ref ar), (3, .int (nI i))] [] ws := by
  refine x_aload_n F 1 dL_law_523 rfl ?_
  refine x_aload_n F 0 dL_law_524 rfl ?_
  refine x_iload_n F 3 dL_law_525 rfl ?_
  refine x_iconst F (nI 1) dL_law_526 (by decide +kernel) ?_
  refine x_iadd F (nI (i + 1)) dL_law_527 (nI_add _ _) ?_
  refine x_sld F hX hbl hbA (k := i + 1) (by omega) (by omega) dL_law_528 ?_
  refine x_aload_n F 0 dL_law_529 rfl ?_
  refine x_iload_n F 3 dL_law_530 rfl ?_
  refine x_iconst F (nI 2) dL_law_531 (by decide +kernel) ?_
  refine x_iadd F (nI (i + 2)) dL_law_532 (nI_add _ _) ?_
  refine x_sld F hX hbl hbA (k := i + 2) (by omega) (by omega) dL_law_533 ?_
  refine P_back F hR (xs (i + 1)) (xs (i + 2)) wmL_62 dL_law_534 (by decide) hc (fun x0 ws2 hq => ?_)
  refine x_aload_n F 2 dL_law_537 rfl ?_
  refine x_aload_n F 0 dL_law_538 rfl ?_
  refine x_iload_n F 3 dL_law_539 rfl ?_
  refine x_iconst F (nI 1) dL_law_540 (by decide +kernel) ?_
  refine x_iadd F (nI (i + 1)) dL_law_541 (nI_add _ _) ?_
  refine x_sld F hX hbl hbA (k := i + 1) (by omega) (by omega) dL_law_542 ?_
  refine x_aload_n F 0 dL_law_543 rfl ?_
  refine x_iload_n F 3 dL_law_544 rfl ?_
  refine x_iconst F (nI 2) dL_law_545 (by decide +kernel) ?_
  refine x_iadd F (nI (i + 2)) dL_law_546 (nI_add _ _) ?_
  refine x_sld F hX hbl hbA (k := i + 2) (by omega) (by omega) dL_law_547 ?_
  refine hq _ _ _ [.int x0] _ _ wmL_65 dL_law_548 (Nat.le_of_ble_eq_true rfl) (by omega) (by omega) (fun ws3 hR3 => ?_)
  refine x_icmp_eq F 887 dL_law_551 (by decide) (fun h551 => ?_) (fun h551 => ?_)
  · exact kk ws3 hR3
  · exact absurd rfl h551
set_option maxRecDepth 100000 in
theorem LC_room (F : Fx p m c cL_law 4 s args RL meth ret D cA A) (hX : va_X b L xs s s.heap) (hbl : b < s.heap.size) (hbA : ¬ A b) (hL : L ≤ 2560) (hi : i + 5 ≤ L) (hR : RelW cA T ax ar ws) (hc : cells + 20 ≤ 600000 ∧ slots + 200 ≤ 7302250) (hTT : T < 400000) (kk : ∀ ws2, RelW cA (T + 200) ax ar ws2 → Wx p l e room_1 s m args below meth c (cells + 20) (slots + 200) Q 4 D A 887 [(0, .ref b), (1, .ref ax), (2, .ref ar), (3, .int (nI i))] [] ws2) : Wx p l e room_1 s m args below meth c cells slots Q 4 D A 556 [(0, .ref b), (1, .ref ax), (2, .ref ar), (3, .int (nI i))] [] ws := by
  refine x_aload_n F 1 dL_law_556 rfl ?_
  refine x_aload_n F 0 dL_law_557 rfl ?_
  refine x_iload_n F 3 dL_law_558 rfl ?_
  refine x_iconst F (nI 1) dL_law_559 (by decide +kernel) ?_
  refine x_iadd F (nI (i + 1)) dL_law_560 (nI_add _ _) ?_
  refine x_sld F hX hbl hbA (k := i + 1) (by omega) (by omega) dL_law_561 ?_
  refine x_aload_n F 0 dL_law_562 rfl ?_
  refine x_iload_n F 3 dL_law_563 rfl ?_
  refine x_iconst F (nI 2) dL_law_564 (by decide +kernel) ?_
  refine x_iadd F (nI (i + 2)) dL_law_565 (nI_add _ _) ?_
  refine x_sld F hX hbl hbA (k := i + 2) (by omega) (by omega) dL_law_566 ?_
  refine x_if_eq F 574 dL_law_567 (by decide) (fun h567 => ?_) (fun h567 => ?_)
  · refine x_iconst F (nI 0) dL_law_574 (by decide +kernel) ?_
    refine x_aload_n F 0 dL_law_575 rfl ?_
    refine x_iload_n F 3 dL_law_576 rfl ?_
    refine x_iconst F (nI 3) dL_law_577 (by decide +kernel) ?_
    refine x_iadd F (nI (i + 3)) dL_law_578 (nI_add _ _) ?_
    refine x_sld F hX hbl hbA (k := i + 3) (by omega) (by omega) dL_law_579 ?_
    refine P_room F hR (xs (i + 1)) (nI 0) (xs (i + 3)) wmL_66 dL_law_580 (by decide) hc (fun x0 ws2 hq => ?_)
    refine x_aload_n F 2 dL_law_583 rfl ?_
    refine x_aload_n F 0 dL_law_584 rfl ?_
    refine x_iload_n F 3 dL_law_585 rfl ?_
    refine x_iconst F (nI 1) dL_law_586 (by decide +kernel) ?_
    refine x_iadd F (nI (i + 1)) dL_law_587 (nI_add _ _) ?_
    refine x_sld F hX hbl hbA (k := i + 1) (by omega) (by omega) dL_law_588 ?_
    refine x_aload_n F 0 dL_law_589 rfl ?_
    refine x_iload_n F 3 dL_law_590 rfl ?_
    refine x_iconst F (nI 2) dL_law_591 (by decide +kernel) ?_
    refine x_iadd F (nI (i + 2)) dL_law_592 (nI_add _ _) ?_
    refine x_sld F hX hbl hbA (k := i + 2) (by omega) (by omega) dL_law_593 ?_
    refine x_if_eq F 601 dL_law_594 (by decide) (fun h594 => ?_) (fun h594 => ?_)
    · refine x_iconst F (nI 0) dL_law_601 (by decide +kernel) ?_
      refine x_aload_n F 0 dL_law_602 rfl ?_
      refine x_iload_n F 3 dL_law_603 rfl ?_
      refine x_iconst F (nI 3) dL_law_604 (by decide +kernel) ?_
      refine x_iadd F (nI (i + 3)) dL_law_605 (nI_add _ _) ?_
      refine x_sld F hX hbl hbA (k := i + 3) (by omega) (by omega) dL_law_606 ?_
      refine hq _ _ _ [.int x0] _ _ wmL_70 dL_law_607 (Nat.le_of_ble_eq_true rfl) (by omega) (by omega) (fun ws3 hR3 => ?_)
      refine x_icmp_eq F 887 dL_law_610 (by decide) (fun h610 => ?_) (fun h610 => ?_)
      · exact kk ws3 hR3
      · exact absurd rfl h610
    · exact absurd h567 h594
  · refine x_iconst F (nI 1) dL_law_570 (by decide +kernel) ?_
    refine x_goto F 575 dL_law_571 (by decide) ?_
    refine x_aload_n F 0 dL_law_575 rfl ?_
    refine x_iload_n F 3 dL_law_576 rfl ?_
    refine x_iconst F (nI 3) dL_law_577 (by decide +kernel) ?_
    refine x_iadd F (nI (i + 3)) dL_law_578 (nI_add _ _) ?_
    refine x_sld F hX hbl hbA (k := i + 3) (by omega) (by omega) dL_law_579 ?_
    refine P_room F hR (xs (i + 1)) (nI 1) (xs (i + 3)) wmL_66 dL_law_580 (by decide) hc (fun x0 ws2 hq => ?_)
    refine x_aload_n F 2 dL_law_583 rfl ?_
    refine x_aload_n F 0 dL_law_584 rfl ?_
    refine x_iload_n F 3 dL_law_585 rfl ?_
    refine x_iconst F (nI 1) dL_law_586 (by decide +kernel) ?_
    refine x_iadd F (nI (i + 1)) dL_law_587 (nI_add _ _) ?_
    refine x_sld F hX hbl hbA (k := i + 1) (by omega) (by omega) dL_law_588 ?_
    refine x_aload_n F 0 dL_law_589 rfl ?_
    refine x_iload_n F 3 dL_law_590 rfl ?_
    refine x_iconst F (nI 2) dL_law_591 (by decide +kernel) ?_
    refine x_iadd F (nI (i + 2)) dL_law_592 (nI_add _ _) ?_
    refine x_sld F hX hbl hbA (k := i + 2) (by omega) (by omega) dL_law_593 ?_
    refine x_if_eq F 601 dL_law_594 (by decide) (fun h594 => ?_) (fun h594 => ?_)
    · exact absurd h594 h567
    · refine x_iconst F (nI 1) dL_law_597 (by decide +kernel) ?_
      refine x_goto F 602 dL_law_598 (by decide) ?_
      refine x_aload_n F 0 dL_law_602 rfl ?_
      refine x_iload_n F 3 dL_law_603 rfl ?_
      refine x_iconst F (nI 3) dL_law_604 (by decide +kernel) ?_
      refine x_iadd F (nI (i + 3)) dL_law_605 (nI_add _ _) ?_
      refine x_sld F hX hbl hbA (k := i + 3) (by omega) (by omega) dL_law_606 ?_
      refine hq _ _ _ [.int x0] _ _ wmL_70 dL_law_607 (Nat.le_of_ble_eq_true rfl) (by omega) (by omega) (fun ws3 hR3 => ?_)
      refine x_icmp_eq F 887 dL_law_610 (by decide) (fun h610 => ?_) (fun h610 => ?_)
      · exact kk ws3 hR3
      · exact absurd rfl h610
set_option maxRecDepth 100000 in
theorem LC_score (F : Fx p m c cL_law 4 s args RL meth ret D cA A) (hX : va_X b L xs s s.heap) (hbl : b < s.heap.size) (hbA : ¬ A b) (hL : L ≤ 2560) (hi : i + 5 ≤ L) (hR : RelW cA T ax ar ws) (hc : cells + 20 ≤ 600000 ∧ slots + 200 ≤ 7302250) (hTT : T < 400000) (kk : ∀ ws2, RelW cA (T + 200) ax ar ws2 → Wx p l e room_1 s m args below meth c (cells + 20) (slots + 200) Q 4 D A 887 [(0, .ref b), (1, .ref ax), (2, .ref ar), (3, .int (nI i))] [] ws2) : Wx p l e room_1 s m args below meth c cells slots Q 4 D A 615 [(0, .ref b), (1, .ref ax), (2, .ref ar), (3, .int (nI i))] [] ws := by
  refine x_aload_n F 1 dL_law_615 rfl ?_
  refine x_aload_n F 0 dL_law_616 rfl ?_
  refine x_iload_n F 3 dL_law_617 rfl ?_
  refine x_iconst F (nI 1) dL_law_618 (by decide +kernel) ?_
  refine x_iadd F (nI (i + 1)) dL_law_619 (nI_add _ _) ?_
  refine x_sld F hX hbl hbA (k := i + 1) (by omega) (by omega) dL_law_620 ?_
  refine x_aload_n F 0 dL_law_621 rfl ?_
  refine x_iload_n F 3 dL_law_622 rfl ?_
  refine x_iconst F (nI 2) dL_law_623 (by decide +kernel) ?_
  refine x_iadd F (nI (i + 2)) dL_law_624 (nI_add _ _) ?_
  refine x_sld F hX hbl hbA (k := i + 2) (by omega) (by omega) dL_law_625 ?_
  refine x_if_eq F 633 dL_law_626 (by decide) (fun h626 => ?_) (fun h626 => ?_)
  · refine x_iconst F (nI 0) dL_law_633 (by decide +kernel) ?_
    refine x_aload_n F 0 dL_law_634 rfl ?_
    refine x_iload_n F 3 dL_law_635 rfl ?_
    refine x_iconst F (nI 3) dL_law_636 (by decide +kernel) ?_
    refine x_iadd F (nI (i + 3)) dL_law_637 (nI_add _ _) ?_
    refine x_sld F hX hbl hbA (k := i + 3) (by omega) (by omega) dL_law_638 ?_
    refine x_if_eq F 646 dL_law_639 (by decide) (fun h639 => ?_) (fun h639 => ?_)
    · refine x_iconst F (nI 0) dL_law_646 (by decide +kernel) ?_
      refine P_score F hR (xs (i + 1)) (nI 0) (nI 0) wmL_71 dL_law_647 (by decide) hc (fun x0 ws2 hq => ?_)
      refine x_aload_n F 2 dL_law_650 rfl ?_
      refine x_aload_n F 0 dL_law_651 rfl ?_
      refine x_iload_n F 3 dL_law_652 rfl ?_
      refine x_iconst F (nI 1) dL_law_653 (by decide +kernel) ?_
      refine x_iadd F (nI (i + 1)) dL_law_654 (nI_add _ _) ?_
      refine x_sld F hX hbl hbA (k := i + 1) (by omega) (by omega) dL_law_655 ?_
      refine x_aload_n F 0 dL_law_656 rfl ?_
      refine x_iload_n F 3 dL_law_657 rfl ?_
      refine x_iconst F (nI 2) dL_law_658 (by decide +kernel) ?_
      refine x_iadd F (nI (i + 2)) dL_law_659 (nI_add _ _) ?_
      refine x_sld F hX hbl hbA (k := i + 2) (by omega) (by omega) dL_law_660 ?_
      refine x_if_eq F 668 dL_law_661 (by decide) (fun h661 => ?_) (fun h661 => ?_)
      · refine x_iconst F (nI 0) dL_law_668 (by decide +kernel) ?_
        refine x_aload_n F 0 dL_law_669 rfl ?_
        refine x_iload_n F 3 dL_law_670 rfl ?_
        refine x_iconst F (nI 3) dL_law_671 (by decide +kernel) ?_
        refine x_iadd F (nI (i + 3)) dL_law_672 (nI_add _ _) ?_
        refine x_sld F hX hbl hbA (k := i + 3) (by omega) (by omega) dL_law_673 ?_
        refine x_if_eq F 681 dL_law_674 (by decide) (fun h674 => ?_) (fun h674 => ?_)
        · refine x_iconst F (nI 0) dL_law_681 (by decide +kernel) ?_
          refine hq _ _ _ [.int x0] _ _ wmL_75 dL_law_682 (Nat.le_of_ble_eq_true rfl) (by omega) (by omega) (fun ws3 hR3 => ?_)
          refine x_icmp_eq F 887 dL_law_685 (by decide) (fun h685 => ?_) (fun h685 => ?_)
          · exact kk ws3 hR3
          · exact absurd rfl h685
        · exact absurd h639 h674
      · exact absurd h626 h661
    · refine x_iconst F (nI 1) dL_law_642 (by decide +kernel) ?_
      refine x_goto F 647 dL_law_643 (by decide) ?_
      refine P_score F hR (xs (i + 1)) (nI 0) (nI 1) wmL_71 dL_law_647 (by decide) hc (fun x0 ws2 hq => ?_)
      refine x_aload_n F 2 dL_law_650 rfl ?_
      refine x_aload_n F 0 dL_law_651 rfl ?_
      refine x_iload_n F 3 dL_law_652 rfl ?_
      refine x_iconst F (nI 1) dL_law_653 (by decide +kernel) ?_
      refine x_iadd F (nI (i + 1)) dL_law_654 (nI_add _ _) ?_
      refine x_sld F hX hbl hbA (k := i + 1) (by omega) (by omega) dL_law_655 ?_
      refine x_aload_n F 0 dL_law_656 rfl ?_
      refine x_iload_n F 3 dL_law_657 rfl ?_
      refine x_iconst F (nI 2) dL_law_658 (by decide +kernel) ?_
      refine x_iadd F (nI (i + 2)) dL_law_659 (nI_add _ _) ?_
      refine x_sld F hX hbl hbA (k := i + 2) (by omega) (by omega) dL_law_660 ?_
      refine x_if_eq F 668 dL_law_661 (by decide) (fun h661 => ?_) (fun h661 => ?_)
      · refine x_iconst F (nI 0) dL_law_668 (by decide +kernel) ?_
        refine x_aload_n F 0 dL_law_669 rfl ?_
        refine x_iload_n F 3 dL_law_670 rfl ?_
        refine x_iconst F (nI 3) dL_law_671 (by decide +kernel) ?_
        refine x_iadd F (nI (i + 3)) dL_law_672 (nI_add _ _) ?_
        refine x_sld F hX hbl hbA (k := i + 3) (by omega) (by omega) dL_law_673 ?_
        refine x_if_eq F 681 dL_law_674 (by decide) (fun h674 => ?_) (fun h674 => ?_)
        · exact absurd h674 h639
        · refine x_iconst F (nI 1) dL_law_677 (by decide +kernel) ?_
          refine x_goto F 682 dL_law_678 (by decide) ?_
          refine hq _ _ _ [.int x0] _ _ wmL_75 dL_law_682 (Nat.le_of_ble_eq_true rfl) (by omega) (by omega) (fun ws3 hR3 => ?_)
          refine x_icmp_eq F 887 dL_law_685 (by decide) (fun h685 => ?_) (fun h685 => ?_)
          · exact kk ws3 hR3
          · exact absurd rfl h685
      · exact absurd h626 h661
  · refine x_iconst F (nI 1) dL_law_629 (by decide +kernel) ?_
    refine x_goto F 634 dL_law_630 (by decide) ?_
    refine x_aload_n F 0 dL_law_634 rfl ?_
    refine x_iload_n F 3 dL_law_635 rfl ?_
    refine x_iconst F (nI 3) dL_law_636 (by decide +kernel) ?_
    refine x_iadd F (nI (i + 3)) dL_law_637 (nI_add _ _) ?_
    refine x_sld F hX hbl hbA (k := i + 3) (by omega) (by omega) dL_law_638 ?_
    refine x_if_eq F 646 dL_law_639 (by decide) (fun h639 => ?_) (fun h639 => ?_)
    · refine x_iconst F (nI 0) dL_law_646 (by decide +kernel) ?_
      refine P_score F hR (xs (i + 1)) (nI 1) (nI 0) wmL_71 dL_law_647 (by decide) hc (fun x0 ws2 hq => ?_)
      refine x_aload_n F 2 dL_law_650 rfl ?_
      refine x_aload_n F 0 dL_law_651 rfl ?_
      refine x_iload_n F 3 dL_law_652 rfl ?_
      refine x_iconst F (nI 1) dL_law_653 (by decide +kernel) ?_
      refine x_iadd F (nI (i + 1)) dL_law_654 (nI_add _ _) ?_
      refine x_sld F hX hbl hbA (k := i + 1) (by omega) (by omega) dL_law_655 ?_
      refine x_aload_n F 0 dL_law_656 rfl ?_
      refine x_iload_n F 3 dL_law_657 rfl ?_
      refine x_iconst F (nI 2) dL_law_658 (by decide +kernel) ?_
      refine x_iadd F (nI (i + 2)) dL_law_659 (nI_add _ _) ?_
      refine x_sld F hX hbl hbA (k := i + 2) (by omega) (by omega) dL_law_660 ?_
      refine x_if_eq F 668 dL_law_661 (by decide) (fun h661 => ?_) (fun h661 => ?_)
      · exact absurd h661 h626
      · refine x_iconst F (nI 1) dL_law_664 (by decide +kernel) ?_
        refine x_goto F 669 dL_law_665 (by decide) ?_
        refine x_aload_n F 0 dL_law_669 rfl ?_
        refine x_iload_n F 3 dL_law_670 rfl ?_
        refine x_iconst F (nI 3) dL_law_671 (by decide +kernel) ?_
        refine x_iadd F (nI (i + 3)) dL_law_672 (nI_add _ _) ?_
        refine x_sld F hX hbl hbA (k := i + 3) (by omega) (by omega) dL_law_673 ?_
        refine x_if_eq F 681 dL_law_674 (by decide) (fun h674 => ?_) (fun h674 => ?_)
        · refine x_iconst F (nI 0) dL_law_681 (by decide +kernel) ?_
          refine hq _ _ _ [.int x0] _ _ wmL_75 dL_law_682 (Nat.le_of_ble_eq_true rfl) (by omega) (by omega) (fun ws3 hR3 => ?_)
          refine x_icmp_eq F 887 dL_law_685 (by decide) (fun h685 => ?_) (fun h685 => ?_)
          · exact kk ws3 hR3
          · exact absurd rfl h685
        · exact absurd h639 h674
    · refine x_iconst F (nI 1) dL_law_642 (by decide +kernel) ?_
      refine x_goto F 647 dL_law_643 (by decide) ?_
      refine P_score F hR (xs (i + 1)) (nI 1) (nI 1) wmL_71 dL_law_647 (by decide) hc (fun x0 ws2 hq => ?_)
      refine x_aload_n F 2 dL_law_650 rfl ?_
      refine x_aload_n F 0 dL_law_651 rfl ?_
      refine x_iload_n F 3 dL_law_652 rfl ?_
      refine x_iconst F (nI 1) dL_law_653 (by decide +kernel) ?_
      refine x_iadd F (nI (i + 1)) dL_law_654 (nI_add _ _) ?_
      refine x_sld F hX hbl hbA (k := i + 1) (by omega) (by omega) dL_law_655 ?_
      refine x_aload_n F 0 dL_law_656 rfl ?_
      refine x_iload_n F 3 dL_law_657 rfl ?_
      refine x_iconst F (nI 2) dL_law_658 (by decide +kernel) ?_
      refine x_iadd F (nI (i + 2)) dL_law_659 (nI_add _ _) ?_
      refine x_sld F hX hbl hbA (k := i + 2) (by omega) (by omega) dL_law_660 ?_
      refine x_if_eq F 668 dL_law_661 (by decide) (fun h661 => ?_) (fun h661 => ?_)
      · exact absurd h661 h626
      · refine x_iconst F (nI 1) dL_law_664 (by decide +kernel) ?_
        refine x_goto F 669 dL_law_665 (by decide) ?_
        refine x_aload_n F 0 dL_law_669 rfl ?_
        refine x_iload_n F 3 dL_law_670 rfl ?_
        refine x_iconst F (nI 3) dL_law_671 (by decide +kernel) ?_
        refine x_iadd F (nI (i + 3)) dL_law_672 (nI_add _ _) ?_
        refine x_sld F hX hbl hbA (k := i + 3) (by omega) (by omega) dL_law_673 ?_
        refine x_if_eq F 681 dL_law_674 (by decide) (fun h674 => ?_) (fun h674 => ?_)
        · exact absurd h674 h639
        · refine x_iconst F (nI 1) dL_law_677 (by decide +kernel) ?_
          refine x_goto F 682 dL_law_678 (by decide) ?_
          refine hq _ _ _ [.int x0] _ _ wmL_75 dL_law_682 (Nat.le_of_ble_eq_true rfl) (by omega) (by omega) (fun ws3 hR3 => ?_)
          refine x_icmp_eq F 887 dL_law_685 (by decide) (fun h685 => ?_) (fun h685 => ?_)
          · exact kk ws3 hR3
          · exact absurd rfl h685
set_option maxRecDepth 100000 in
theorem LC_scoreBy (F : Fx p m c cL_law 4 s args RL meth ret D cA A) (hX : va_X b L xs s s.heap) (hbl : b < s.heap.size) (hbA : ¬ A b) (hL : L ≤ 2560) (hi : i + 5 ≤ L) (hR : RelW cA T ax ar ws) (hc : cells + 20 ≤ 600000 ∧ slots + 200 ≤ 7302250) (hTT : T < 400000) (kk : ∀ ws2, RelW cA (T + 200) ax ar ws2 → Wx p l e room_1 s m args below meth c (cells + 20) (slots + 200) Q 4 D A 887 [(0, .ref b), (1, .ref ax), (2, .ref ar), (3, .int (nI i))] [] ws2) : Wx p l e room_1 s m args below meth c cells slots Q 4 D A 690 [(0, .ref b), (1, .ref ax), (2, .ref ar), (3, .int (nI i))] [] ws := by
  refine x_aload_n F 1 dL_law_690 rfl ?_
  refine x_aload_n F 0 dL_law_691 rfl ?_
  refine x_iload_n F 3 dL_law_692 rfl ?_
  refine x_iconst F (nI 1) dL_law_693 (by decide +kernel) ?_
  refine x_iadd F (nI (i + 1)) dL_law_694 (nI_add _ _) ?_
  refine x_sld F hX hbl hbA (k := i + 1) (by omega) (by omega) dL_law_695 ?_
  refine x_aload_n F 0 dL_law_696 rfl ?_
  refine x_iload_n F 3 dL_law_697 rfl ?_
  refine x_iconst F (nI 2) dL_law_698 (by decide +kernel) ?_
  refine x_iadd F (nI (i + 2)) dL_law_699 (nI_add _ _) ?_
  refine x_sld F hX hbl hbA (k := i + 2) (by omega) (by omega) dL_law_700 ?_
  refine x_if_eq F 708 dL_law_701 (by decide) (fun h701 => ?_) (fun h701 => ?_)
  · refine x_iconst F (nI 0) dL_law_708 (by decide +kernel) ?_
    refine x_aload_n F 0 dL_law_709 rfl ?_
    refine x_iload_n F 3 dL_law_710 rfl ?_
    refine x_iconst F (nI 3) dL_law_711 (by decide +kernel) ?_
    refine x_iadd F (nI (i + 3)) dL_law_712 (nI_add _ _) ?_
    refine x_sld F hX hbl hbA (k := i + 3) (by omega) (by omega) dL_law_713 ?_
    refine x_if_eq F 721 dL_law_714 (by decide) (fun h714 => ?_) (fun h714 => ?_)
    · refine x_iconst F (nI 0) dL_law_721 (by decide +kernel) ?_
      refine x_aload_n F 0 dL_law_722 rfl ?_
      refine x_iload_n F 3 dL_law_723 rfl ?_
      refine x_iconst F (nI 4) dL_law_724 (by decide +kernel) ?_
      refine x_iadd F (nI (i + 4)) dL_law_725 (nI_add _ _) ?_
      refine x_sld F hX hbl hbA (k := i + 4) (by omega) (by omega) dL_law_726 ?_
      refine P_scoreBy F hR (xs (i + 1)) (nI 0) (nI 0) (xs (i + 4)) wmL_76 dL_law_727 (by decide) hc (fun x0 ws2 hq => ?_)
      refine x_aload_n F 2 dL_law_730 rfl ?_
      refine x_aload_n F 0 dL_law_731 rfl ?_
      refine x_iload_n F 3 dL_law_732 rfl ?_
      refine x_iconst F (nI 1) dL_law_733 (by decide +kernel) ?_
      refine x_iadd F (nI (i + 1)) dL_law_734 (nI_add _ _) ?_
      refine x_sld F hX hbl hbA (k := i + 1) (by omega) (by omega) dL_law_735 ?_
      refine x_aload_n F 0 dL_law_736 rfl ?_
      refine x_iload_n F 3 dL_law_737 rfl ?_
      refine x_iconst F (nI 2) dL_law_738 (by decide +kernel) ?_
      refine x_iadd F (nI (i + 2)) dL_law_739 (nI_add _ _) ?_
      refine x_sld F hX hbl hbA (k := i + 2) (by omega) (by omega) dL_law_740 ?_
      refine x_if_eq F 748 dL_law_741 (by decide) (fun h741 => ?_) (fun h741 => ?_)
      · refine x_iconst F (nI 0) dL_law_748 (by decide +kernel) ?_
        refine x_aload_n F 0 dL_law_749 rfl ?_
        refine x_iload_n F 3 dL_law_750 rfl ?_
        refine x_iconst F (nI 3) dL_law_751 (by decide +kernel) ?_
        refine x_iadd F (nI (i + 3)) dL_law_752 (nI_add _ _) ?_
        refine x_sld F hX hbl hbA (k := i + 3) (by omega) (by omega) dL_law_753 ?_
        refine x_if_eq F 761 dL_law_754 (by decide) (fun h754 => ?_) (fun h754 => ?_)
        · refine x_iconst F (nI 0) dL_law_761 (by decide +kernel) ?_
          refine x_aload_n F 0 dL_law_762 rfl ?_
          refine x_iload_n F 3 dL_law_763 rfl ?_
          refine x_iconst F (nI 4) dL_law_764 (by decide +kernel) ?_
          refine x_iadd F (nI (i + 4)) dL_law_765 (nI_add _ _) ?_
          refine x_sld F hX hbl hbA (k := i + 4) (by omega) (by omega) dL_law_766 ?_
          refine hq _ _ _ [.int x0] _ _ wmL_80 dL_law_767 (Nat.le_of_ble_eq_true rfl) (by omega) (by omega) (fun ws3 hR3 => ?_)
          refine x_icmp_eq F 887 dL_law_770 (by decide) (fun h770 => ?_) (fun h770 => ?_)
          · exact kk ws3 hR3
          · exact absurd rfl h770
        · exact absurd h714 h754
      · exact absurd h701 h741
    · refine x_iconst F (nI 1) dL_law_717 (by decide +kernel) ?_
      refine x_goto F 722 dL_law_718 (by decide) ?_
      refine x_aload_n F 0 dL_law_722 rfl ?_
      refine x_iload_n F 3 dL_law_723 rfl ?_
      refine x_iconst F (nI 4) dL_law_724 (by decide +kernel) ?_
      refine x_iadd F (nI (i + 4)) dL_law_725 (nI_add _ _) ?_
      refine x_sld F hX hbl hbA (k := i + 4) (by omega) (by omega) dL_law_726 ?_
      refine P_scoreBy F hR (xs (i + 1)) (nI 0) (nI 1) (xs (i + 4)) wmL_76 dL_law_727 (by decide) hc (fun x0 ws2 hq => ?_)
      refine x_aload_n F 2 dL_law_730 rfl ?_
      refine x_aload_n F 0 dL_law_731 rfl ?_
      refine x_iload_n F 3 dL_law_732 rfl ?_
      refine x_iconst F (nI 1) dL_law_733 (by decide +kernel) ?_
      refine x_iadd F (nI (i + 1)) dL_law_734 (nI_add _ _) ?_
      refine x_sld F hX hbl hbA (k := i + 1) (by omega) (by omega) dL_law_735 ?_
      refine x_aload_n F 0 dL_law_736 rfl ?_
      refine x_iload_n F 3 dL_law_737 rfl ?_
      refine x_iconst F (nI 2) dL_law_738 (by decide +kernel) ?_
      refine x_iadd F (nI (i + 2)) dL_law_739 (nI_add _ _) ?_
      refine x_sld F hX hbl hbA (k := i + 2) (by omega) (by omega) dL_law_740 ?_
      refine x_if_eq F 748 dL_law_741 (by decide) (fun h741 => ?_) (fun h741 => ?_)
      · refine x_iconst F (nI 0) dL_law_748 (by decide +kernel) ?_
        refine x_aload_n F 0 dL_law_749 rfl ?_
        refine x_iload_n F 3 dL_law_750 rfl ?_
        refine x_iconst F (nI 3) dL_law_751 (by decide +kernel) ?_
        refine x_iadd F (nI (i + 3)) dL_law_752 (nI_add _ _) ?_
        refine x_sld F hX hbl hbA (k := i + 3) (by omega) (by omega) dL_law_753 ?_
        refine x_if_eq F 761 dL_law_754 (by decide) (fun h754 => ?_) (fun h754 => ?_)
        · exact absurd h754 h714
        · refine x_iconst F (nI 1) dL_law_757 (by decide +kernel) ?_
          refine x_goto F 762 dL_law_758 (by decide) ?_
          refine x_aload_n F 0 dL_law_762 rfl ?_
          refine x_iload_n F 3 dL_law_763 rfl ?_
          refine x_iconst F (nI 4) dL_law_764 (by decide +kernel) ?_
          refine x_iadd F (nI (i + 4)) dL_law_765 (nI_add _ _) ?_
          refine x_sld F hX hbl hbA (k := i + 4) (by omega) (by omega) dL_law_766 ?_
          refine hq _ _ _ [.int x0] _ _ wmL_80 dL_law_767 (Nat.le_of_ble_eq_true rfl) (by omega) (by omega) (fun ws3 hR3 => ?_)
          refine x_icmp_eq F 887 dL_law_770 (by decide) (fun h770 => ?_) (fun h770 => ?_)
          · exact kk ws3 hR3
          · exact absurd rfl h770
      · exact absurd h701 h741
  · refine x_iconst F (nI 1) dL_law_704 (by decide +kernel) ?_
    refine x_goto F 709 dL_law_705 (by decide) ?_
    refine x_aload_n F 0 dL_law_709 rfl ?_
    refine x_iload_n F 3 dL_law_710 rfl ?_
    refine x_iconst F (nI 3) dL_law_711 (by decide +kernel) ?_
    refine x_iadd F (nI (i + 3)) dL_law_712 (nI_add _ _) ?_
    refine x_sld F hX hbl hbA (k := i + 3) (by omega) (by omega) dL_law_713 ?_
    refine x_if_eq F 721 dL_law_714 (by decide) (fun h714 => ?_) (fun h714 => ?_)
    · refine x_iconst F (nI 0) dL_law_721 (by decide +kernel) ?_
      refine x_aload_n F 0 dL_law_722 rfl ?_
      refine x_iload_n F 3 dL_law_723 rfl ?_
      refine x_iconst F (nI 4) dL_law_724 (by decide +kernel) ?_
      refine x_iadd F (nI (i + 4)) dL_law_725 (nI_add _ _) ?_
      refine x_sld F hX hbl hbA (k := i + 4) (by omega) (by omega) dL_law_726 ?_
      refine P_scoreBy F hR (xs (i + 1)) (nI 1) (nI 0) (xs (i + 4)) wmL_76 dL_law_727 (by decide) hc (fun x0 ws2 hq => ?_)
      refine x_aload_n F 2 dL_law_730 rfl ?_
      refine x_aload_n F 0 dL_law_731 rfl ?_
      refine x_iload_n F 3 dL_law_732 rfl ?_
      refine x_iconst F (nI 1) dL_law_733 (by decide +kernel) ?_
      refine x_iadd F (nI (i + 1)) dL_law_734 (nI_add _ _) ?_
      refine x_sld F hX hbl hbA (k := i + 1) (by omega) (by omega) dL_law_735 ?_
      refine x_aload_n F 0 dL_law_736 rfl ?_
      refine x_iload_n F 3 dL_law_737 rfl ?_
      refine x_iconst F (nI 2) dL_law_738 (by decide +kernel) ?_
      refine x_iadd F (nI (i + 2)) dL_law_739 (nI_add _ _) ?_
      refine x_sld F hX hbl hbA (k := i + 2) (by omega) (by omega) dL_law_740 ?_
      refine x_if_eq F 748 dL_law_741 (by decide) (fun h741 => ?_) (fun h741 => ?_)
      · exact absurd h741 h701
      · refine x_iconst F (nI 1) dL_law_744 (by decide +kernel) ?_
        refine x_goto F 749 dL_law_745 (by decide) ?_
        refine x_aload_n F 0 dL_law_749 rfl ?_
        refine x_iload_n F 3 dL_law_750 rfl ?_
        refine x_iconst F (nI 3) dL_law_751 (by decide +kernel) ?_
        refine x_iadd F (nI (i + 3)) dL_law_752 (nI_add _ _) ?_
        refine x_sld F hX hbl hbA (k := i + 3) (by omega) (by omega) dL_law_753 ?_
        refine x_if_eq F 761 dL_law_754 (by decide) (fun h754 => ?_) (fun h754 => ?_)
        · refine x_iconst F (nI 0) dL_law_761 (by decide +kernel) ?_
          refine x_aload_n F 0 dL_law_762 rfl ?_
          refine x_iload_n F 3 dL_law_763 rfl ?_
          refine x_iconst F (nI 4) dL_law_764 (by decide +kernel) ?_
          refine x_iadd F (nI (i + 4)) dL_law_765 (nI_add _ _) ?_
          refine x_sld F hX hbl hbA (k := i + 4) (by omega) (by omega) dL_law_766 ?_
          refine hq _ _ _ [.int x0] _ _ wmL_80 dL_law_767 (Nat.le_of_ble_eq_true rfl) (by omega) (by omega) (fun ws3 hR3 => ?_)
          refine x_icmp_eq F 887 dL_law_770 (by decide) (fun h770 => ?_) (fun h770 => ?_)
          · exact kk ws3 hR3
          · exact absurd rfl h770
        · exact absurd h714 h754
    · refine x_iconst F (nI 1) dL_law_717 (by decide +kernel) ?_
      refine x_goto F 722 dL_law_718 (by decide) ?_
      refine x_aload_n F 0 dL_law_722 rfl ?_
      refine x_iload_n F 3 dL_law_723 rfl ?_
      refine x_iconst F (nI 4) dL_law_724 (by decide +kernel) ?_
      refine x_iadd F (nI (i + 4)) dL_law_725 (nI_add _ _) ?_
      refine x_sld F hX hbl hbA (k := i + 4) (by omega) (by omega) dL_law_726 ?_
      refine P_scoreBy F hR (xs (i + 1)) (nI 1) (nI 1) (xs (i + 4)) wmL_76 dL_law_727 (by decide) hc (fun x0 ws2 hq => ?_)
      refine x_aload_n F 2 dL_law_730 rfl ?_
      refine x_aload_n F 0 dL_law_731 rfl ?_
      refine x_iload_n F 3 dL_law_732 rfl ?_
      refine x_iconst F (nI 1) dL_law_733 (by decide +kernel) ?_
      refine x_iadd F (nI (i + 1)) dL_law_734 (nI_add _ _) ?_
      refine x_sld F hX hbl hbA (k := i + 1) (by omega) (by omega) dL_law_735 ?_
      refine x_aload_n F 0 dL_law_736 rfl ?_
      refine x_iload_n F 3 dL_law_737 rfl ?_
      refine x_iconst F (nI 2) dL_law_738 (by decide +kernel) ?_
      refine x_iadd F (nI (i + 2)) dL_law_739 (nI_add _ _) ?_
      refine x_sld F hX hbl hbA (k := i + 2) (by omega) (by omega) dL_law_740 ?_
      refine x_if_eq F 748 dL_law_741 (by decide) (fun h741 => ?_) (fun h741 => ?_)
      · exact absurd h741 h701
      · refine x_iconst F (nI 1) dL_law_744 (by decide +kernel) ?_
        refine x_goto F 749 dL_law_745 (by decide) ?_
        refine x_aload_n F 0 dL_law_749 rfl ?_
        refine x_iload_n F 3 dL_law_750 rfl ?_
        refine x_iconst F (nI 3) dL_law_751 (by decide +kernel) ?_
        refine x_iadd F (nI (i + 3)) dL_law_752 (nI_add _ _) ?_
        refine x_sld F hX hbl hbA (k := i + 3) (by omega) (by omega) dL_law_753 ?_
        refine x_if_eq F 761 dL_law_754 (by decide) (fun h754 => ?_) (fun h754 => ?_)
        · exact absurd h754 h714
        · refine x_iconst F (nI 1) dL_law_757 (by decide +kernel) ?_
          refine x_goto F 762 dL_law_758 (by decide) ?_
          refine x_aload_n F 0 dL_law_762 rfl ?_
          refine x_iload_n F 3 dL_law_763 rfl ?_
          refine x_iconst F (nI 4) dL_law_764 (by decide +kernel) ?_
          refine x_iadd F (nI (i + 4)) dL_law_765 (nI_add _ _) ?_
          refine x_sld F hX hbl hbA (k := i + 4) (by omega) (by omega) dL_law_766 ?_
          refine hq _ _ _ [.int x0] _ _ wmL_80 dL_law_767 (Nat.le_of_ble_eq_true rfl) (by omega) (by omega) (fun ws3 hR3 => ?_)
          refine x_icmp_eq F 887 dL_law_770 (by decide) (fun h770 => ?_) (fun h770 => ?_)
          · exact kk ws3 hR3
          · exact absurd rfl h770
set_option maxRecDepth 100000 in
theorem LC_same (F : Fx p m c cL_law 4 s args RL meth ret D cA A) (hX : va_X b L xs s s.heap) (hbl : b < s.heap.size) (hbA : ¬ A b) (hL : L ≤ 2560) (hi : i + 5 ≤ L) (hR : RelW cA T ax ar ws) (hc : cells + 20 ≤ 600000 ∧ slots + 200 ≤ 7302250) (hTT : T < 400000) (kk : ∀ ws2, RelW cA (T + 200) ax ar ws2 → Wx p l e room_1 s m args below meth c (cells + 20) (slots + 200) Q 4 D A 887 [(0, .ref b), (1, .ref ax), (2, .ref ar), (3, .int (nI i))] [] ws2) : Wx p l e room_1 s m args below meth c cells slots Q 4 D A 775 [(0, .ref b), (1, .ref ax), (2, .ref ar), (3, .int (nI i))] [] ws := by
  refine x_aload_n F 1 dL_law_775 rfl ?_
  refine x_aload_n F 0 dL_law_776 rfl ?_
  refine x_iload_n F 3 dL_law_777 rfl ?_
  refine x_iconst F (nI 1) dL_law_778 (by decide +kernel) ?_
  refine x_iadd F (nI (i + 1)) dL_law_779 (nI_add _ _) ?_
  refine x_sld F hX hbl hbA (k := i + 1) (by omega) (by omega) dL_law_780 ?_
  refine x_aload_n F 0 dL_law_781 rfl ?_
  refine x_iload_n F 3 dL_law_782 rfl ?_
  refine x_iconst F (nI 2) dL_law_783 (by decide +kernel) ?_
  refine x_iadd F (nI (i + 2)) dL_law_784 (nI_add _ _) ?_
  refine x_sld F hX hbl hbA (k := i + 2) (by omega) (by omega) dL_law_785 ?_
  refine P_same F hR (xs (i + 1)) (xs (i + 2)) wmL_81 dL_law_786 (by decide) hc (fun x0 ws2 hq => ?_)
  refine x_aload_n F 2 dL_law_789 rfl ?_
  refine x_aload_n F 0 dL_law_790 rfl ?_
  refine x_iload_n F 3 dL_law_791 rfl ?_
  refine x_iconst F (nI 1) dL_law_792 (by decide +kernel) ?_
  refine x_iadd F (nI (i + 1)) dL_law_793 (nI_add _ _) ?_
  refine x_sld F hX hbl hbA (k := i + 1) (by omega) (by omega) dL_law_794 ?_
  refine x_aload_n F 0 dL_law_795 rfl ?_
  refine x_iload_n F 3 dL_law_796 rfl ?_
  refine x_iconst F (nI 2) dL_law_797 (by decide +kernel) ?_
  refine x_iadd F (nI (i + 2)) dL_law_798 (nI_add _ _) ?_
  refine x_sld F hX hbl hbA (k := i + 2) (by omega) (by omega) dL_law_799 ?_
  refine hq _ _ _ [.int x0] _ _ wmL_84 dL_law_800 (Nat.le_of_ble_eq_true rfl) (by omega) (by omega) (fun ws3 hR3 => ?_)
  refine x_icmp_eq F 887 dL_law_803 (by decide) (fun h803 => ?_) (fun h803 => ?_)
  · exact kk ws3 hR3
  · exact absurd rfl h803
set_option maxRecDepth 100000 in
theorem LC_told (F : Fx p m c cL_law 4 s args RL meth ret D cA A) (hX : va_X b L xs s s.heap) (hbl : b < s.heap.size) (hbA : ¬ A b) (hL : L ≤ 2560) (hi : i + 5 ≤ L) (hR : RelW cA T ax ar ws) (hc : cells + 20 ≤ 600000 ∧ slots + 200 ≤ 7302250) (hTT : T < 400000) (kk : ∀ ws2, RelW cA (T + 200) ax ar ws2 → Wx p l e room_1 s m args below meth c (cells + 20) (slots + 200) Q 4 D A 887 [(0, .ref b), (1, .ref ax), (2, .ref ar), (3, .int (nI i))] [] ws2) : Wx p l e room_1 s m args below meth c cells slots Q 4 D A 808 [(0, .ref b), (1, .ref ax), (2, .ref ar), (3, .int (nI i))] [] ws := by
  refine x_aload_n F 1 dL_law_808 rfl ?_
  refine x_aload_n F 0 dL_law_809 rfl ?_
  refine x_iload_n F 3 dL_law_810 rfl ?_
  refine x_iconst F (nI 1) dL_law_811 (by decide +kernel) ?_
  refine x_iadd F (nI (i + 1)) dL_law_812 (nI_add _ _) ?_
  refine x_sld F hX hbl hbA (k := i + 1) (by omega) (by omega) dL_law_813 ?_
  refine x_aload_n F 0 dL_law_814 rfl ?_
  refine x_iload_n F 3 dL_law_815 rfl ?_
  refine x_iconst F (nI 2) dL_law_816 (by decide +kernel) ?_
  refine x_iadd F (nI (i + 2)) dL_law_817 (nI_add _ _) ?_
  refine x_sld F hX hbl hbA (k := i + 2) (by omega) (by omega) dL_law_818 ?_
  refine P_told F hR (xs (i + 1)) (xs (i + 2)) wmL_85 dL_law_819 (by decide) hc hTT (fun x0 ws2 hq => ?_)
  refine x_aload_n F 2 dL_law_822 rfl ?_
  refine x_aload_n F 0 dL_law_823 rfl ?_
  refine x_iload_n F 3 dL_law_824 rfl ?_
  refine x_iconst F (nI 1) dL_law_825 (by decide +kernel) ?_
  refine x_iadd F (nI (i + 1)) dL_law_826 (nI_add _ _) ?_
  refine x_sld F hX hbl hbA (k := i + 1) (by omega) (by omega) dL_law_827 ?_
  refine x_aload_n F 0 dL_law_828 rfl ?_
  refine x_iload_n F 3 dL_law_829 rfl ?_
  refine x_iconst F (nI 2) dL_law_830 (by decide +kernel) ?_
  refine x_iadd F (nI (i + 2)) dL_law_831 (nI_add _ _) ?_
  refine x_sld F hX hbl hbA (k := i + 2) (by omega) (by omega) dL_law_832 ?_
  refine hq _ _ _ [.int x0] _ _ wmL_88 dL_law_833 (Nat.le_of_ble_eq_true rfl) (by omega) (by omega) (fun ws3 hR3 => ?_)
  refine x_icmp_eq F 887 dL_law_836 (by decide) (fun h836 => ?_) (fun h836 => ?_)
  · exact kk ws3 hR3
  · exact absurd rfl h836
set_option maxRecDepth 100000 in
theorem LC_fact (F : Fx p m c cL_law 4 s args RL meth ret D cA A) (hX : va_X b L xs s s.heap) (hbl : b < s.heap.size) (hbA : ¬ A b) (hL : L ≤ 2560) (hi : i + 5 ≤ L) (hR : RelW cA T ax ar ws) (hc : cells + 20 ≤ 600000 ∧ slots + 200 ≤ 7302250) (hTT : T < 400000) (kk : ∀ ws2, RelW cA (T + 200) ax ar ws2 → Wx p l e room_1 s m args below meth c (cells + 20) (slots + 200) Q 4 D A 887 [(0, .ref b), (1, .ref ax), (2, .ref ar), (3, .int (nI i))] [] ws2) : Wx p l e room_1 s m args below meth c cells slots Q 4 D A 841 [(0, .ref b), (1, .ref ax), (2, .ref ar), (3, .int (nI i))] [] ws := by
  refine x_aload_n F 1 dL_law_841 rfl ?_
  refine x_aload_n F 0 dL_law_842 rfl ?_
  refine x_iload_n F 3 dL_law_843 rfl ?_
  refine x_iconst F (nI 1) dL_law_844 (by decide +kernel) ?_
  refine x_iadd F (nI (i + 1)) dL_law_845 (nI_add _ _) ?_
  refine x_sld F hX hbl hbA (k := i + 1) (by omega) (by omega) dL_law_846 ?_
  refine P_fact F hR (xs (i + 1)) wmL_89 dL_law_847 (by decide) hc (fun x0 ws2 hq => ?_)
  refine x_aload_n F 2 dL_law_850 rfl ?_
  refine x_aload_n F 0 dL_law_851 rfl ?_
  refine x_iload_n F 3 dL_law_852 rfl ?_
  refine x_iconst F (nI 1) dL_law_853 (by decide +kernel) ?_
  refine x_iadd F (nI (i + 1)) dL_law_854 (nI_add _ _) ?_
  refine x_sld F hX hbl hbA (k := i + 1) (by omega) (by omega) dL_law_855 ?_
  refine hq _ _ _ [.int x0] _ _ wmL_92 dL_law_856 (Nat.le_of_ble_eq_true rfl) (by omega) (by omega) (fun ws3 hR3 => ?_)
  refine x_icmp_eq F 887 dL_law_859 (by decide) (fun h859 => ?_) (fun h859 => ?_)
  · exact kk ws3 hR3
  · exact absurd rfl h859
set_option maxRecDepth 100000 in
theorem LC_change (F : Fx p m c cL_law 4 s args RL meth ret D cA A) (hX : va_X b L xs s s.heap) (hbl : b < s.heap.size) (hbA : ¬ A b) (hL : L ≤ 2560) (hi : i + 5 ≤ L) (hR : RelW cA T ax ar ws) (hc : cells + 20 ≤ 600000 ∧ slots + 200 ≤ 7302250) (hTT : T < 400000) (kk : ∀ ws2, RelW cA (T + 200) ax ar ws2 → Wx p l e room_1 s m args below meth c (cells + 20) (slots + 200) Q 4 D A 887 [(0, .ref b), (1, .ref ax), (2, .ref ar), (3, .int (nI i))] [] ws2) : Wx p l e room_1 s m args below meth c cells slots Q 4 D A 864 [(0, .ref b), (1, .ref ax), (2, .ref ar), (3, .int (nI i))] [] ws := by
  refine x_aload_n F 1 dL_law_864 rfl ?_
  refine x_aload_n F 0 dL_law_865 rfl ?_
  refine x_iload_n F 3 dL_law_866 rfl ?_
  refine x_iconst F (nI 1) dL_law_867 (by decide +kernel) ?_
  refine x_iadd F (nI (i + 1)) dL_law_868 (nI_add _ _) ?_
  refine x_sld F hX hbl hbA (k := i + 1) (by omega) (by omega) dL_law_869 ?_
  refine P_change F hR (xs (i + 1)) wmL_93 dL_law_870 (by decide) hc (fun x0 ws2 hq => ?_)
  refine x_aload_n F 2 dL_law_873 rfl ?_
  refine x_aload_n F 0 dL_law_874 rfl ?_
  refine x_iload_n F 3 dL_law_875 rfl ?_
  refine x_iconst F (nI 1) dL_law_876 (by decide +kernel) ?_
  refine x_iadd F (nI (i + 1)) dL_law_877 (nI_add _ _) ?_
  refine x_sld F hX hbl hbA (k := i + 1) (by omega) (by omega) dL_law_878 ?_
  refine hq _ _ _ [.int x0] _ _ wmL_96 dL_law_879 (Nat.le_of_ble_eq_true rfl) (by omega) (by omega) (fun ws3 hR3 => ?_)
  refine x_icmp_eq F 887 dL_law_882 (by decide) (fun h882 => ?_) (fun h882 => ?_)
  · exact kk ws3 hR3
  · exact absurd rfl h882
end L2
