/-! THE LAW'S LOOP -/
section LWL
variable {p : Program} {l : Launch} {e : Env} {R : Room} {s : State} {m : MethodId} {args : Array Value} {below : List Frame} {meth : Method} {c : Code} {H : Heap} {locs : List Loc} {cells slots : Nat} {Q : State → Prop}
variable {pc : Nat} {ls : Array Slot} {rest st : List Value} {g : tb_G} {z : tb_M} {b L i N : Nat} {xs : Nat → Int32}
def lw_S (g : tb_G) (b L : Nat) (xs : Nat → Int32) (s : State) : Prop := va_X b L xs s s.heap ∧ b < s.heap.size ∧ (¬ tb_A g b) ∧ L ≤ 2560
def lw_hl (g : tb_G) (b i : Nat) (ls : Array Slot) : Prop := lv_has ls 4 [(0, .ref b), (1, .ref (tb_ad g 150)), (2, .ref (tb_ad g 157)), (3, .int (nI i))]
theorem lw_arg (X : tb_X RL cL_law 4 g p c s m args) (S : lw_S g b L xs s) (hH : tb_H g s.heap z H locs) (hl : lw_hl g b i ls) {k : Nat} {n : Int} (hk : i + k < L) (d0 : decode cL_law pc = .ok (.aload_n 0, 1)) (d1 : decode cL_law (pc + 1) = .ok (.iload_n 3, 1)) (d2 : decode cL_law (pc + 1 + 1) = .ok (.iconst n, 1)) (hn : Int32.ofInt n = nI k) (d3 : decode cL_law (pc + 1 + 1 + 1) = .ok (.iadd, 1)) (d4 : decode cL_law (pc + 1 + 1 + 1 + 1) = .ok (.iaload, 1))
    (kk : W p l e R s m args below meth c H locs cells slots Q (F0 m (pc + 1 + 1 + 1 + 1 + 1) ls (.int (xs (i + k)) :: rest))) : W p l e R s m args below meth c H locs cells slots Q (F0 m pc ls rest) := by
  have hL := S.2.2.2
  refine lv_aload_n X.1 X.2.1 d0 rfl (lv_at hl 0 rfl) ?_
  refine lv_iload_n X.1 X.2.1 d1 rfl (lv_at hl 3 rfl) ?_
  refine lv_iconst X.1 X.2.1 d2 hn ?_
  refine tb_iaddN X d3 ?_
  refine va_sld X.1 X.2.1 S.1 S.2.1 S.2.2.1 hH.2 (vp_in_nI hk (by omega)) d4 ?_
  rw [nI_clamp (by omega)]
  exact kk
theorem lw_bool (X : tb_X RL cL_law 4 g p c s m args) {x : Int32} (d0 : decode cL_law pc = .ok (.ifCond .eq 7, 3)) (d1 : decode cL_law (pc + 3) = .ok (.iconst 1, 1)) (d2 : decode cL_law (pc + 3 + 1) = .ok (.goto 4, 3)) (d3 : decode cL_law (pc + 7) = .ok (.iconst 0, 1))
    (kk : W p l e R s m args below meth c H locs cells slots Q (F0 m (pc + 8) ls (.int (tb_b (¬ x = 0)) :: rest))) : W p l e R s m args below meth c H locs cells slots Q (F0 m pc ls (.int x :: rest)) := by
  refine lv_if_eq (tgt := pc + 7) X.1 X.2.1 d0 (by omega) (fun h => ?_) (fun h => ?_)
  · refine lv_iconst (v := nI 0) X.1 X.2.1 d3 (by decide +kernel) ?_
    refine tb_top (x2 := tb_b (¬ x = 0)) (tb_b_f (fun k => k h)).symm ?_
    exact kk
  · refine lv_iconst (v := nI 1) X.1 X.2.1 d1 (by decide +kernel) ?_
    refine lv_goto (tgt := pc + 8) X.1 X.2.1 d2 (by omega) ?_
    refine tb_top (x2 := tb_b (¬ x = 0)) (tb_b_t h).symm ?_
    exact kk
def lw_long (x y : Int32) : Int64 := (x.toInt64 <<< ((nI 32).toInt64 &&& 63)) ||| (y.toInt64 &&& (4294967295 : Int64))
set_option maxHeartbeats 1000000 in
set_option maxRecDepth 100000 in
theorem lw_c0 (X : tb_X RL cL_law 4 g p c s m args) (S : lw_S g b L xs s) (hR : 11 ≤ R.frames ∧ 400 ≤ R.locals) (hcs : cells ≤ R.cells ∧ slots ≤ R.slots) (hH : tb_H g s.heap z H locs) (hl : lw_hl g b i ls) (hi : i + 5 ≤ L) (hJ : tb_J z z N) (hN : N + 4001 < 2 ^ 29) (kk : ∀ (z2 : tb_M) (H1 : Heap) (locs1 : List Loc), tb_H g s.heap z2 H1 locs1 → tb_J z2 z2 (N + 1001) → W p l e R s m args below meth c H1 locs1 cells slots Q (F0 m 865 ls [])) : W p l e R s m args below meth c H locs cells slots Q (F0 m 148 ls []) := by
  refine lv_aload_n X.1 X.2.1 dL_law_148 rfl (lv_at hl 1 rfl) ?_
  refine lw_arg X S hH hl (k := 1) (by omega) dL_law_149 dL_law_150 dL_law_151 (by decide +kernel) dL_law_152 dL_law_153 ?_
  refine lw_arg X S hH hl (k := 2) (by omega) dL_law_154 dL_law_155 dL_law_156 (by decide +kernel) dL_law_157 dL_law_158 ?_
  obtain ⟨r, z1, z2, n1, n2, h1, h2, m5, m6, hJ2⟩ := s_set l g hJ hN (xs (i + 1)) (xs (i + 2))
  refine tb_cVi X hH hl.1 m5 ky_X5_set.1 ky_X5_set.2 wm_109 tb_oT rfl rfl (Nat.le_of_ble_eq_true rfl) ⟨by omega, by omega⟩ hcs dL_law_159 (fun H locs hH => ?_)
  refine lv_aload_n X.1 X.2.1 dL_law_162 rfl (lv_at hl 2 rfl) ?_
  refine lw_arg X S hH hl (k := 1) (by omega) dL_law_163 dL_law_164 dL_law_165 (by decide +kernel) dL_law_166 dL_law_167 ?_
  refine lw_arg X S hH hl (k := 2) (by omega) dL_law_168 dL_law_169 dL_law_170 (by decide +kernel) dL_law_171 dL_law_172 ?_
  refine tb_cVi X hH hl.1 m6 ky_X6_set.1 ky_X6_set.2 wm_155 tb_oM rfl rfl (Nat.le_of_ble_eq_true rfl) ⟨by omega, by omega⟩ hcs dL_law_173 (fun H locs hH => ?_)
  refine lv_icmp_eq (tgt := 865) X.1 X.2.1 dL_law_176 (by decide) (fun _ => ?_) (fun h => (h rfl : False).elim)
  exact kk z2 H locs hH hJ2
set_option maxHeartbeats 1000000 in
set_option maxRecDepth 100000 in
theorem lw_c1 (X : tb_X RL cL_law 4 g p c s m args) (S : lw_S g b L xs s) (hR : 11 ≤ R.frames ∧ 400 ≤ R.locals) (hcs : cells ≤ R.cells ∧ slots ≤ R.slots) (hH : tb_H g s.heap z H locs) (hl : lw_hl g b i ls) (hi : i + 5 ≤ L) (hJ : tb_J z z N) (hN : N + 4001 < 2 ^ 29) (kk : ∀ (z2 : tb_M) (H1 : Heap) (locs1 : List Loc), tb_H g s.heap z2 H1 locs1 → tb_J z2 z2 (N + 1001) → W p l e R s m args below meth c H1 locs1 cells slots Q (F0 m 865 ls [])) : W p l e R s m args below meth c H locs cells slots Q (F0 m 181 ls []) := by
  refine lv_aload_n X.1 X.2.1 dL_law_181 rfl (lv_at hl 1 rfl) ?_
  refine lw_arg X S hH hl (k := 1) (by omega) dL_law_182 dL_law_183 dL_law_184 (by decide +kernel) dL_law_185 dL_law_186 ?_
  refine lw_arg X S hH hl (k := 2) (by omega) dL_law_187 dL_law_188 dL_law_189 (by decide +kernel) dL_law_190 dL_law_191 ?_
  refine lw_arg X S hH hl (k := 3) (by omega) dL_law_192 dL_law_193 dL_law_194 (by decide +kernel) dL_law_195 dL_law_196 ?_
  refine lw_arg X S hH hl (k := 4) (by omega) dL_law_197 dL_law_198 dL_law_199 (by decide +kernel) dL_law_200 dL_law_201 ?_
  obtain ⟨r, z1, z2, n1, n2, h1, h2, m5, m6, hJ2⟩ := s_begin l g hJ hN (xs (i + 1)) (xs (i + 2)) (xs (i + 3)) (xs (i + 4))
  refine tb_cVi X hH hl.1 m5 ky_X5_begin.1 ky_X5_begin.2 wm_173 tb_oT rfl rfl (Nat.le_of_ble_eq_true rfl) ⟨by omega, by omega⟩ hcs dL_law_202 (fun H locs hH => ?_)
  refine lv_aload_n X.1 X.2.1 dL_law_205 rfl (lv_at hl 2 rfl) ?_
  refine lw_arg X S hH hl (k := 1) (by omega) dL_law_206 dL_law_207 dL_law_208 (by decide +kernel) dL_law_209 dL_law_210 ?_
  refine lw_arg X S hH hl (k := 2) (by omega) dL_law_211 dL_law_212 dL_law_213 (by decide +kernel) dL_law_214 dL_law_215 ?_
  refine lw_arg X S hH hl (k := 3) (by omega) dL_law_216 dL_law_217 dL_law_218 (by decide +kernel) dL_law_219 dL_law_220 ?_
  refine lw_arg X S hH hl (k := 4) (by omega) dL_law_221 dL_law_222 dL_law_223 (by decide +kernel) dL_law_224 dL_law_225 ?_
  refine tb_cVi X hH hl.1 m6 ky_X6_begin.1 ky_X6_begin.2 wm_211 tb_oM rfl rfl (Nat.le_of_ble_eq_true rfl) ⟨by omega, by omega⟩ hcs dL_law_226 (fun H locs hH => ?_)
  refine lv_icmp_eq (tgt := 865) X.1 X.2.1 dL_law_229 (by decide) (fun _ => ?_) (fun h => (h rfl : False).elim)
  exact kk z2 H locs hH hJ2
set_option maxHeartbeats 1000000 in
set_option maxRecDepth 100000 in
theorem lw_c2 (X : tb_X RL cL_law 4 g p c s m args) (S : lw_S g b L xs s) (hR : 11 ≤ R.frames ∧ 400 ≤ R.locals) (hcs : cells ≤ R.cells ∧ slots ≤ R.slots) (hH : tb_H g s.heap z H locs) (hl : lw_hl g b i ls) (hi : i + 5 ≤ L) (hJ : tb_J z z N) (hN : N + 4001 < 2 ^ 29) (kk : ∀ (z2 : tb_M) (H1 : Heap) (locs1 : List Loc), tb_H g s.heap z2 H1 locs1 → tb_J z2 z2 (N + 1001) → W p l e R s m args below meth c H1 locs1 cells slots Q (F0 m 865 ls [])) : W p l e R s m args below meth c H locs cells slots Q (F0 m 234 ls []) := by
  refine lv_aload_n X.1 X.2.1 dL_law_234 rfl (lv_at hl 1 rfl) ?_
  refine lw_arg X S hH hl (k := 1) (by omega) dL_law_235 dL_law_236 dL_law_237 (by decide +kernel) dL_law_238 dL_law_239 ?_
  refine lw_arg X S hH hl (k := 2) (by omega) dL_law_240 dL_law_241 dL_law_242 (by decide +kernel) dL_law_243 dL_law_244 ?_
  obtain ⟨r, z1, z2, n1, n2, h1, h2, m5, m6, hJ2⟩ := s_fill l g hJ hN (xs (i + 1)) (xs (i + 2))
  refine tb_cVi X hH hl.1 m5 ky_X5_fill.1 ky_X5_fill.2 wm_241 tb_oT rfl rfl (Nat.le_of_ble_eq_true rfl) ⟨by omega, by omega⟩ hcs dL_law_245 (fun H locs hH => ?_)
  refine lv_aload_n X.1 X.2.1 dL_law_248 rfl (lv_at hl 2 rfl) ?_
  refine lw_arg X S hH hl (k := 1) (by omega) dL_law_249 dL_law_250 dL_law_251 (by decide +kernel) dL_law_252 dL_law_253 ?_
  refine lw_arg X S hH hl (k := 2) (by omega) dL_law_254 dL_law_255 dL_law_256 (by decide +kernel) dL_law_257 dL_law_258 ?_
  refine tb_cVi X hH hl.1 m6 ky_X6_fill.1 ky_X6_fill.2 wm_252 tb_oM rfl rfl (Nat.le_of_ble_eq_true rfl) ⟨by omega, by omega⟩ hcs dL_law_259 (fun H locs hH => ?_)
  refine lv_icmp_eq (tgt := 865) X.1 X.2.1 dL_law_262 (by decide) (fun _ => ?_) (fun h => (h rfl : False).elim)
  exact kk z2 H locs hH hJ2
set_option maxHeartbeats 1000000 in
set_option maxRecDepth 100000 in
theorem lw_c3 (X : tb_X RL cL_law 4 g p c s m args) (S : lw_S g b L xs s) (hR : 11 ≤ R.frames ∧ 400 ≤ R.locals) (hcs : cells ≤ R.cells ∧ slots ≤ R.slots) (hH : tb_H g s.heap z H locs) (hl : lw_hl g b i ls) (hi : i + 5 ≤ L) (hJ : tb_J z z N) (hN : N + 4001 < 2 ^ 29) (kk : ∀ (z2 : tb_M) (H1 : Heap) (locs1 : List Loc), tb_H g s.heap z2 H1 locs1 → tb_J z2 z2 (N + 1001) → W p l e R s m args below meth c H1 locs1 cells slots Q (F0 m 865 ls [])) : W p l e R s m args below meth c H locs cells slots Q (F0 m 267 ls []) := by
  refine lv_aload_n X.1 X.2.1 dL_law_267 rfl (lv_at hl 1 rfl) ?_
  refine lw_arg X S hH hl (k := 1) (by omega) dL_law_268 dL_law_269 dL_law_270 (by decide +kernel) dL_law_271 dL_law_272 ?_
  obtain ⟨r, z1, z2, n1, n2, h1, h2, m5, m6, hJ2⟩ := s_fillAll l g hJ hN (xs (i + 1))
  refine tb_cVi X hH hl.1 m5 ky_X5_fillAll.1 ky_X5_fillAll.2 wm_268 tb_oT rfl rfl (Nat.le_of_ble_eq_true rfl) ⟨by omega, by omega⟩ hcs dL_law_273 (fun H locs hH => ?_)
  refine lv_aload_n X.1 X.2.1 dL_law_276 rfl (lv_at hl 2 rfl) ?_
  refine lw_arg X S hH hl (k := 1) (by omega) dL_law_277 dL_law_278 dL_law_279 (by decide +kernel) dL_law_280 dL_law_281 ?_
  refine tb_cVi X hH hl.1 m6 ky_X6_fillAll.1 ky_X6_fillAll.2 wm_293 tb_oM rfl rfl (Nat.le_of_ble_eq_true rfl) ⟨by omega, by omega⟩ hcs dL_law_282 (fun H locs hH => ?_)
  refine lv_icmp_eq (tgt := 865) X.1 X.2.1 dL_law_285 (by decide) (fun _ => ?_) (fun h => (h rfl : False).elim)
  exact kk z2 H locs hH hJ2
set_option maxHeartbeats 1000000 in
set_option maxRecDepth 100000 in
theorem lw_c4 (X : tb_X RL cL_law 4 g p c s m args) (S : lw_S g b L xs s) (hR : 11 ≤ R.frames ∧ 400 ≤ R.locals) (hcs : cells ≤ R.cells ∧ slots ≤ R.slots) (hH : tb_H g s.heap z H locs) (hl : lw_hl g b i ls) (hi : i + 5 ≤ L) (hJ : tb_J z z N) (hN : N + 4001 < 2 ^ 29) (kk : ∀ (z2 : tb_M) (H1 : Heap) (locs1 : List Loc), tb_H g s.heap z2 H1 locs1 → tb_J z2 z2 (N + 1001) → W p l e R s m args below meth c H1 locs1 cells slots Q (F0 m 865 ls [])) : W p l e R s m args below meth c H locs cells slots Q (F0 m 290 ls []) := by
  refine lv_aload_n X.1 X.2.1 dL_law_290 rfl (lv_at hl 1 rfl) ?_
  refine lw_arg X S hH hl (k := 1) (by omega) dL_law_291 dL_law_292 dL_law_293 (by decide +kernel) dL_law_294 dL_law_295 ?_
  obtain ⟨r, z1, z2, n1, n2, h1, h2, m5, m6, hJ2⟩ := s_finish l g hJ hN (xs (i + 1))
  refine tb_cVi X hH hl.1 m5 ky_X5_finish.1 ky_X5_finish.2 wm_309 tb_oT rfl rfl (Nat.le_of_ble_eq_true rfl) ⟨by omega, by omega⟩ hcs dL_law_296 (fun H locs hH => ?_)
  refine lv_aload_n X.1 X.2.1 dL_law_299 rfl (lv_at hl 2 rfl) ?_
  refine lw_arg X S hH hl (k := 1) (by omega) dL_law_300 dL_law_301 dL_law_302 (by decide +kernel) dL_law_303 dL_law_304 ?_
  refine tb_cVi X hH hl.1 m6 ky_X6_finish.1 ky_X6_finish.2 wm_318 tb_oM rfl rfl (Nat.le_of_ble_eq_true rfl) ⟨by omega, by omega⟩ hcs dL_law_305 (fun H locs hH => ?_)
  refine lv_icmp_eq (tgt := 865) X.1 X.2.1 dL_law_308 (by decide) (fun _ => ?_) (fun h => (h rfl : False).elim)
  exact kk z2 H locs hH hJ2
set_option maxHeartbeats 1000000 in
set_option maxRecDepth 100000 in
theorem lw_c5 (X : tb_X RL cL_law 4 g p c s m args) (S : lw_S g b L xs s) (hR : 11 ≤ R.frames ∧ 400 ≤ R.locals) (hcs : cells ≤ R.cells ∧ slots ≤ R.slots) (hH : tb_H g s.heap z H locs) (hl : lw_hl g b i ls) (hi : i + 5 ≤ L) (hJ : tb_J z z N) (hN : N + 4001 < 2 ^ 29) (kk : ∀ (z2 : tb_M) (H1 : Heap) (locs1 : List Loc), tb_H g s.heap z2 H1 locs1 → tb_J z2 z2 (N + 1001) → W p l e R s m args below meth c H1 locs1 cells slots Q (F0 m 865 ls [])) : W p l e R s m args below meth c H locs cells slots Q (F0 m 313 ls []) := by
  refine lv_aload_n X.1 X.2.1 dL_law_313 rfl (lv_at hl 1 rfl) ?_
  refine lw_arg X S hH hl (k := 1) (by omega) dL_law_314 dL_law_315 dL_law_316 (by decide +kernel) dL_law_317 dL_law_318 ?_
  refine lw_arg X S hH hl (k := 2) (by omega) dL_law_319 dL_law_320 dL_law_321 (by decide +kernel) dL_law_322 dL_law_323 ?_
  refine lw_arg X S hH hl (k := 3) (by omega) dL_law_324 dL_law_325 dL_law_326 (by decide +kernel) dL_law_327 dL_law_328 ?_
  obtain ⟨r, z1, z2, n1, n2, h1, h2, m5, m6, hJ2⟩ := s_damage l g hJ hN (xs (i + 1)) (xs (i + 2)) (xs (i + 3))
  refine tb_cVi X hH hl.1 m5 ky_X5_damage.1 ky_X5_damage.2 wm_334 tb_oT rfl rfl (Nat.le_of_ble_eq_true rfl) ⟨by omega, by omega⟩ hcs dL_law_329 (fun H locs hH => ?_)
  refine lv_aload_n X.1 X.2.1 dL_law_332 rfl (lv_at hl 2 rfl) ?_
  refine lw_arg X S hH hl (k := 1) (by omega) dL_law_333 dL_law_334 dL_law_335 (by decide +kernel) dL_law_336 dL_law_337 ?_
  refine lw_arg X S hH hl (k := 2) (by omega) dL_law_338 dL_law_339 dL_law_340 (by decide +kernel) dL_law_341 dL_law_342 ?_
  refine lw_arg X S hH hl (k := 3) (by omega) dL_law_343 dL_law_344 dL_law_345 (by decide +kernel) dL_law_346 dL_law_347 ?_
  refine tb_cVi X hH hl.1 m6 ky_X6_damage.1 ky_X6_damage.2 wm_339 tb_oM rfl rfl (Nat.le_of_ble_eq_true rfl) ⟨by omega, by omega⟩ hcs dL_law_348 (fun H locs hH => ?_)
  refine lv_icmp_eq (tgt := 865) X.1 X.2.1 dL_law_351 (by decide) (fun _ => ?_) (fun h => (h rfl : False).elim)
  exact kk z2 H locs hH hJ2
set_option maxHeartbeats 1000000 in
set_option maxRecDepth 100000 in
theorem lw_c6 (X : tb_X RL cL_law 4 g p c s m args) (S : lw_S g b L xs s) (hR : 11 ≤ R.frames ∧ 400 ≤ R.locals) (hcs : cells ≤ R.cells ∧ slots ≤ R.slots) (hH : tb_H g s.heap z H locs) (hl : lw_hl g b i ls) (hi : i + 5 ≤ L) (hJ : tb_J z z N) (hN : N + 4001 < 2 ^ 29) (kk : ∀ (z2 : tb_M) (H1 : Heap) (locs1 : List Loc), tb_H g s.heap z2 H1 locs1 → tb_J z2 z2 (N + 1001) → W p l e R s m args below meth c H1 locs1 cells slots Q (F0 m 865 ls [])) : W p l e R s m args below meth c H locs cells slots Q (F0 m 356 ls []) := by
  refine lv_aload_n X.1 X.2.1 dL_law_356 rfl (lv_at hl 1 rfl) ?_
  refine lw_arg X S hH hl (k := 1) (by omega) dL_law_357 dL_law_358 dL_law_359 (by decide +kernel) dL_law_360 dL_law_361 ?_
  obtain ⟨r, z1, z2, n1, n2, h1, h2, m5, m6, hJ2⟩ := s_repair l g hJ hN (xs (i + 1))
  refine tb_cVi X hH hl.1 m5 ky_X5_repair.1 ky_X5_repair.2 wm_343 tb_oT rfl rfl (Nat.le_of_ble_eq_true rfl) ⟨by omega, by omega⟩ hcs dL_law_362 (fun H locs hH => ?_)
  refine lv_aload_n X.1 X.2.1 dL_law_365 rfl (lv_at hl 2 rfl) ?_
  refine lw_arg X S hH hl (k := 1) (by omega) dL_law_366 dL_law_367 dL_law_368 (by decide +kernel) dL_law_369 dL_law_370 ?_
  refine tb_cVi X hH hl.1 m6 ky_X6_repair.1 ky_X6_repair.2 wm_348 tb_oM rfl rfl (Nat.le_of_ble_eq_true rfl) ⟨by omega, by omega⟩ hcs dL_law_371 (fun H locs hH => ?_)
  refine lv_icmp_eq (tgt := 865) X.1 X.2.1 dL_law_374 (by decide) (fun _ => ?_) (fun h => (h rfl : False).elim)
  exact kk z2 H locs hH hJ2
set_option maxHeartbeats 1000000 in
set_option maxRecDepth 100000 in
theorem lw_c7 (X : tb_X RL cL_law 4 g p c s m args) (S : lw_S g b L xs s) (hR : 11 ≤ R.frames ∧ 400 ≤ R.locals) (hcs : cells ≤ R.cells ∧ slots ≤ R.slots) (hH : tb_H g s.heap z H locs) (hl : lw_hl g b i ls) (hi : i + 5 ≤ L) (hJ : tb_J z z N) (hN : N + 4001 < 2 ^ 29) (kk : ∀ (z2 : tb_M) (H1 : Heap) (locs1 : List Loc), tb_H g s.heap z2 H1 locs1 → tb_J z2 z2 (N + 1001) → W p l e R s m args below meth c H1 locs1 cells slots Q (F0 m 865 ls [])) : W p l e R s m args below meth c H locs cells slots Q (F0 m 379 ls []) := by
  refine lv_aload_n X.1 X.2.1 dL_law_379 rfl (lv_at hl 1 rfl) ?_
  refine lw_arg X S hH hl (k := 1) (by omega) dL_law_380 dL_law_381 dL_law_382 (by decide +kernel) dL_law_383 dL_law_384 ?_
  refine lw_bool X dL_law_385 dL_law_388 dL_law_389 dL_law_392 ?_
  obtain ⟨r, z1, z2, n1, n2, h1, h2, m5, m6, hJ2⟩ := s_start l g hJ hN (¬ (xs (i + 1)) = 0)
  refine tb_cVi X hH hl.1 m5 ky_X5_start.1 ky_X5_start.2 wm_352 tb_oT rfl rfl (Nat.le_of_ble_eq_true rfl) ⟨by omega, by omega⟩ hcs dL_law_393 (fun H locs hH => ?_)
  refine lv_aload_n X.1 X.2.1 dL_law_396 rfl (lv_at hl 2 rfl) ?_
  refine lw_arg X S hH hl (k := 1) (by omega) dL_law_397 dL_law_398 dL_law_399 (by decide +kernel) dL_law_400 dL_law_401 ?_
  refine lw_bool X dL_law_402 dL_law_405 dL_law_406 dL_law_409 ?_
  refine tb_cVi X hH hl.1 m6 ky_X6_start.1 ky_X6_start.2 wm_397 tb_oM rfl rfl (Nat.le_of_ble_eq_true rfl) ⟨by omega, by omega⟩ hcs dL_law_410 (fun H locs hH => ?_)
  refine lv_icmp_eq (tgt := 865) X.1 X.2.1 dL_law_413 (by decide) (fun _ => ?_) (fun h => (h rfl : False).elim)
  exact kk z2 H locs hH hJ2
set_option maxHeartbeats 1000000 in
set_option maxRecDepth 100000 in
theorem lw_c8 (X : tb_X RL cL_law 4 g p c s m args) (S : lw_S g b L xs s) (hR : 11 ≤ R.frames ∧ 400 ≤ R.locals) (hcs : cells ≤ R.cells ∧ slots ≤ R.slots) (hH : tb_H g s.heap z H locs) (hl : lw_hl g b i ls) (hi : i + 5 ≤ L) (hJ : tb_J z z N) (hN : N + 4001 < 2 ^ 29) (kk : ∀ (z2 : tb_M) (H1 : Heap) (locs1 : List Loc), tb_H g s.heap z2 H1 locs1 → tb_J z2 z2 (N + 1001) → W p l e R s m args below meth c H1 locs1 cells slots Q (F0 m 865 ls [])) : W p l e R s m args below meth c H locs cells slots Q (F0 m 418 ls []) := by
  refine lv_aload_n X.1 X.2.1 dL_law_418 rfl (lv_at hl 1 rfl) ?_
  refine lw_arg X S hH hl (k := 1) (by omega) dL_law_419 dL_law_420 dL_law_421 (by decide +kernel) dL_law_422 dL_law_423 ?_
  obtain ⟨r, z1, z2, n1, n2, h1, h2, m5, m6, hJ2⟩ := s_pass l g hJ hN (xs (i + 1))
  refine tb_cVi X hH hl.1 m5 ky_X5_pass.1 ky_X5_pass.2 wm_421 tb_oT rfl rfl (Nat.le_of_ble_eq_true rfl) ⟨by omega, by omega⟩ hcs dL_law_424 (fun H locs hH => ?_)
  refine lv_aload_n X.1 X.2.1 dL_law_427 rfl (lv_at hl 2 rfl) ?_
  refine lw_arg X S hH hl (k := 1) (by omega) dL_law_428 dL_law_429 dL_law_430 (by decide +kernel) dL_law_431 dL_law_432 ?_
  refine tb_cVi X hH hl.1 m6 ky_X6_pass.1 ky_X6_pass.2 wm_435 tb_oM rfl rfl (Nat.le_of_ble_eq_true rfl) ⟨by omega, by omega⟩ hcs dL_law_433 (fun H locs hH => ?_)
  refine lv_icmp_eq (tgt := 865) X.1 X.2.1 dL_law_436 (by decide) (fun _ => ?_) (fun h => (h rfl : False).elim)
  exact kk z2 H locs hH hJ2
set_option maxHeartbeats 1000000 in
set_option maxRecDepth 100000 in
theorem lw_c9 (X : tb_X RL cL_law 4 g p c s m args) (S : lw_S g b L xs s) (hR : 11 ≤ R.frames ∧ 400 ≤ R.locals) (hcs : cells ≤ R.cells ∧ slots ≤ R.slots) (hH : tb_H g s.heap z H locs) (hl : lw_hl g b i ls) (hi : i + 5 ≤ L) (hJ : tb_J z z N) (hN : N + 4001 < 2 ^ 29) (kk : ∀ (z2 : tb_M) (H1 : Heap) (locs1 : List Loc), tb_H g s.heap z2 H1 locs1 → tb_J z2 z2 (N + 1001) → W p l e R s m args below meth c H1 locs1 cells slots Q (F0 m 865 ls [])) : W p l e R s m args below meth c H locs cells slots Q (F0 m 441 ls []) := by
  refine lv_aload_n X.1 X.2.1 dL_law_441 rfl (lv_at hl 1 rfl) ?_
  refine lw_arg X S hH hl (k := 1) (by omega) dL_law_442 dL_law_443 dL_law_444 (by decide +kernel) dL_law_445 dL_law_446 ?_
  refine lw_arg X S hH hl (k := 2) (by omega) dL_law_447 dL_law_448 dL_law_449 (by decide +kernel) dL_law_450 dL_law_451 ?_
  obtain ⟨r, z1, z2, n1, n2, h1, h2, m5, m6, hJ2⟩ := s_slot l g hJ hN (xs (i + 1)) (xs (i + 2))
  refine tb_cVi X hH hl.1 m5 ky_X5_slot.1 ky_X5_slot.2 wm_455 tb_oT rfl rfl (Nat.le_of_ble_eq_true rfl) ⟨by omega, by omega⟩ hcs dL_law_452 (fun H locs hH => ?_)
  refine lv_aload_n X.1 X.2.1 dL_law_455 rfl (lv_at hl 2 rfl) ?_
  refine lw_arg X S hH hl (k := 1) (by omega) dL_law_456 dL_law_457 dL_law_458 (by decide +kernel) dL_law_459 dL_law_460 ?_
  refine lw_arg X S hH hl (k := 2) (by omega) dL_law_461 dL_law_462 dL_law_463 (by decide +kernel) dL_law_464 dL_law_465 ?_
  refine tb_cVi X hH hl.1 m6 ky_X6_slot.1 ky_X6_slot.2 wm_467 tb_oM rfl rfl (Nat.le_of_ble_eq_true rfl) ⟨by omega, by omega⟩ hcs dL_law_466 (fun H locs hH => ?_)
  refine lv_icmp_eq (tgt := 865) X.1 X.2.1 dL_law_469 (by decide) (fun _ => ?_) (fun h => (h rfl : False).elim)
  exact kk z2 H locs hH hJ2
set_option maxHeartbeats 1000000 in
set_option maxRecDepth 100000 in
theorem lw_c10 (X : tb_X RL cL_law 4 g p c s m args) (S : lw_S g b L xs s) (hR : 11 ≤ R.frames ∧ 400 ≤ R.locals) (hcs : cells ≤ R.cells ∧ slots ≤ R.slots) (hH : tb_H g s.heap z H locs) (hl : lw_hl g b i ls) (hi : i + 5 ≤ L) (hJ : tb_J z z N) (hN : N + 4001 < 2 ^ 29) (kk : ∀ (z2 : tb_M) (H1 : Heap) (locs1 : List Loc), tb_H g s.heap z2 H1 locs1 → tb_J z2 z2 (N + 1001) → W p l e R s m args below meth c H1 locs1 cells slots Q (F0 m 865 ls [])) : W p l e R s m args below meth c H locs cells slots Q (F0 m 474 ls []) := by
  refine lv_aload_n X.1 X.2.1 dL_law_474 rfl (lv_at hl 1 rfl) ?_
  refine lw_arg X S hH hl (k := 1) (by omega) dL_law_475 dL_law_476 dL_law_477 (by decide +kernel) dL_law_478 dL_law_479 ?_
  refine lw_arg X S hH hl (k := 2) (by omega) dL_law_480 dL_law_481 dL_law_482 (by decide +kernel) dL_law_483 dL_law_484 ?_
  obtain ⟨r, z1, z2, n1, n2, h1, h2, m5, m6, hJ2⟩ := s_word l g hJ hN (xs (i + 1)) (xs (i + 2))
  refine tb_cVi X hH hl.1 m5 ky_X5_word.1 ky_X5_word.2 wm_475 tb_oT rfl rfl (Nat.le_of_ble_eq_true rfl) ⟨by omega, by omega⟩ hcs dL_law_485 (fun H locs hH => ?_)
  refine lv_aload_n X.1 X.2.1 dL_law_488 rfl (lv_at hl 2 rfl) ?_
  refine lw_arg X S hH hl (k := 1) (by omega) dL_law_489 dL_law_490 dL_law_491 (by decide +kernel) dL_law_492 dL_law_493 ?_
  refine lw_arg X S hH hl (k := 2) (by omega) dL_law_494 dL_law_495 dL_law_496 (by decide +kernel) dL_law_497 dL_law_498 ?_
  refine tb_cVi X hH hl.1 m6 ky_X6_word.1 ky_X6_word.2 wm_479 tb_oM rfl rfl (Nat.le_of_ble_eq_true rfl) ⟨by omega, by omega⟩ hcs dL_law_499 (fun H locs hH => ?_)
  refine lv_icmp_eq (tgt := 865) X.1 X.2.1 dL_law_502 (by decide) (fun _ => ?_) (fun h => (h rfl : False).elim)
  exact kk z2 H locs hH hJ2
set_option maxHeartbeats 1000000 in
set_option maxRecDepth 100000 in
theorem lw_c11 (X : tb_X RL cL_law 4 g p c s m args) (S : lw_S g b L xs s) (hR : 11 ≤ R.frames ∧ 400 ≤ R.locals) (hcs : cells ≤ R.cells ∧ slots ≤ R.slots) (hH : tb_H g s.heap z H locs) (hl : lw_hl g b i ls) (hi : i + 5 ≤ L) (hJ : tb_J z z N) (hN : N + 4001 < 2 ^ 29) (kk : ∀ (z2 : tb_M) (H1 : Heap) (locs1 : List Loc), tb_H g s.heap z2 H1 locs1 → tb_J z2 z2 (N + 1001) → W p l e R s m args below meth c H1 locs1 cells slots Q (F0 m 865 ls [])) : W p l e R s m args below meth c H locs cells slots Q (F0 m 507 ls []) := by
  refine lv_aload_n X.1 X.2.1 dL_law_507 rfl (lv_at hl 1 rfl) ?_
  refine lw_arg X S hH hl (k := 1) (by omega) dL_law_508 dL_law_509 dL_law_510 (by decide +kernel) dL_law_511 dL_law_512 ?_
  refine lw_arg X S hH hl (k := 2) (by omega) dL_law_513 dL_law_514 dL_law_515 (by decide +kernel) dL_law_516 dL_law_517 ?_
  obtain ⟨r, z1, z2, n1, n2, h1, h2, m5, m6, hJ2⟩ := s_wear l g hJ hN (xs (i + 1)) (xs (i + 2))
  refine tb_cVi X hH hl.1 m5 ky_X5_wear.1 ky_X5_wear.2 wm_483 tb_oT rfl rfl (Nat.le_of_ble_eq_true rfl) ⟨by omega, by omega⟩ hcs dL_law_518 (fun H locs hH => ?_)
  refine lv_aload_n X.1 X.2.1 dL_law_521 rfl (lv_at hl 2 rfl) ?_
  refine lw_arg X S hH hl (k := 1) (by omega) dL_law_522 dL_law_523 dL_law_524 (by decide +kernel) dL_law_525 dL_law_526 ?_
  refine lw_arg X S hH hl (k := 2) (by omega) dL_law_527 dL_law_528 dL_law_529 (by decide +kernel) dL_law_530 dL_law_531 ?_
  refine tb_cVi X hH hl.1 m6 ky_X6_wear.1 ky_X6_wear.2 wm_488 tb_oM rfl rfl (Nat.le_of_ble_eq_true rfl) ⟨by omega, by omega⟩ hcs dL_law_532 (fun H locs hH => ?_)
  refine lv_icmp_eq (tgt := 865) X.1 X.2.1 dL_law_535 (by decide) (fun _ => ?_) (fun h => (h rfl : False).elim)
  exact kk z2 H locs hH hJ2
set_option maxHeartbeats 1000000 in
set_option maxRecDepth 100000 in
theorem lw_c12 (X : tb_X RL cL_law 4 g p c s m args) (S : lw_S g b L xs s) (hR : 11 ≤ R.frames ∧ 400 ≤ R.locals) (hcs : cells ≤ R.cells ∧ slots ≤ R.slots) (hH : tb_H g s.heap z H locs) (hl : lw_hl g b i ls) (hi : i + 5 ≤ L) (hJ : tb_J z z N) (hN : N + 4001 < 2 ^ 29) (kk : ∀ (z2 : tb_M) (H1 : Heap) (locs1 : List Loc), tb_H g s.heap z2 H1 locs1 → tb_J z2 z2 (N + 1001) → W p l e R s m args below meth c H1 locs1 cells slots Q (F0 m 865 ls [])) : W p l e R s m args below meth c H locs cells slots Q (F0 m 540 ls []) := by
  refine lv_aload_n X.1 X.2.1 dL_law_540 rfl (lv_at hl 1 rfl) ?_
  refine lw_arg X S hH hl (k := 1) (by omega) dL_law_541 dL_law_542 dL_law_543 (by decide +kernel) dL_law_544 dL_law_545 ?_
  refine lw_arg X S hH hl (k := 2) (by omega) dL_law_546 dL_law_547 dL_law_548 (by decide +kernel) dL_law_549 dL_law_550 ?_
  obtain ⟨r, z1, z2, n1, n2, h1, h2, m5, m6, hJ2⟩ := s_past l g hJ hN (xs (i + 1)) (xs (i + 2))
  refine tb_cVi X hH hl.1 m5 ky_X5_past.1 ky_X5_past.2 wm_492 tb_oT rfl rfl (Nat.le_of_ble_eq_true rfl) ⟨by omega, by omega⟩ hcs dL_law_551 (fun H locs hH => ?_)
  refine lv_aload_n X.1 X.2.1 dL_law_554 rfl (lv_at hl 2 rfl) ?_
  refine lw_arg X S hH hl (k := 1) (by omega) dL_law_555 dL_law_556 dL_law_557 (by decide +kernel) dL_law_558 dL_law_559 ?_
  refine lw_arg X S hH hl (k := 2) (by omega) dL_law_560 dL_law_561 dL_law_562 (by decide +kernel) dL_law_563 dL_law_564 ?_
  refine tb_cVi X hH hl.1 m6 ky_X6_past.1 ky_X6_past.2 wm_502 tb_oM rfl rfl (Nat.le_of_ble_eq_true rfl) ⟨by omega, by omega⟩ hcs dL_law_565 (fun H locs hH => ?_)
  refine lv_icmp_eq (tgt := 865) X.1 X.2.1 dL_law_568 (by decide) (fun _ => ?_) (fun h => (h rfl : False).elim)
  exact kk z2 H locs hH hJ2
set_option maxHeartbeats 1000000 in
set_option maxRecDepth 100000 in
theorem lw_c13 (X : tb_X RL cL_law 4 g p c s m args) (S : lw_S g b L xs s) (hR : 11 ≤ R.frames ∧ 400 ≤ R.locals) (hcs : cells ≤ R.cells ∧ slots ≤ R.slots) (hH : tb_H g s.heap z H locs) (hl : lw_hl g b i ls) (hi : i + 5 ≤ L) (hJ : tb_J z z N) (hN : N + 4001 < 2 ^ 29) (kk : ∀ (z2 : tb_M) (H1 : Heap) (locs1 : List Loc), tb_H g s.heap z2 H1 locs1 → tb_J z2 z2 (N + 1001) → W p l e R s m args below meth c H1 locs1 cells slots Q (F0 m 865 ls [])) : W p l e R s m args below meth c H locs cells slots Q (F0 m 573 ls []) := by
  refine lv_aload_n X.1 X.2.1 dL_law_573 rfl (lv_at hl 1 rfl) ?_
  refine lw_arg X S hH hl (k := 1) (by omega) dL_law_574 dL_law_575 dL_law_576 (by decide +kernel) dL_law_577 dL_law_578 ?_
  obtain ⟨r, z1, z2, n1, n2, h1, h2, m5, m6, hJ2⟩ := s_count l g hJ hN (xs (i + 1))
  refine tb_cVi X hH hl.1 m5 ky_X5_count.1 ky_X5_count.2 wm_506 tb_oT rfl rfl (Nat.le_of_ble_eq_true rfl) ⟨by omega, by omega⟩ hcs dL_law_579 (fun H locs hH => ?_)
  refine lv_aload_n X.1 X.2.1 dL_law_582 rfl (lv_at hl 2 rfl) ?_
  refine lw_arg X S hH hl (k := 1) (by omega) dL_law_583 dL_law_584 dL_law_585 (by decide +kernel) dL_law_586 dL_law_587 ?_
  refine tb_cVi X hH hl.1 m6 ky_X6_count.1 ky_X6_count.2 wm_517 tb_oM rfl rfl (Nat.le_of_ble_eq_true rfl) ⟨by omega, by omega⟩ hcs dL_law_588 (fun H locs hH => ?_)
  refine lv_icmp_eq (tgt := 865) X.1 X.2.1 dL_law_591 (by decide) (fun _ => ?_) (fun h => (h rfl : False).elim)
  exact kk z2 H locs hH hJ2
set_option maxHeartbeats 1000000 in
set_option maxRecDepth 100000 in
theorem lw_c14 (X : tb_X RL cL_law 4 g p c s m args) (S : lw_S g b L xs s) (hR : 11 ≤ R.frames ∧ 400 ≤ R.locals) (hcs : cells ≤ R.cells ∧ slots ≤ R.slots) (hH : tb_H g s.heap z H locs) (hl : lw_hl g b i ls) (hi : i + 5 ≤ L) (hJ : tb_J z z N) (hN : N + 4001 < 2 ^ 29) (kk : ∀ (z2 : tb_M) (H1 : Heap) (locs1 : List Loc), tb_H g s.heap z2 H1 locs1 → tb_J z2 z2 (N + 1001) → W p l e R s m args below meth c H1 locs1 cells slots Q (F0 m 865 ls [])) : W p l e R s m args below meth c H locs cells slots Q (F0 m 596 ls []) := by
  refine lv_aload_n X.1 X.2.1 dL_law_596 rfl (lv_at hl 1 rfl) ?_
  obtain ⟨r, z1, z2, n1, n2, h1, h2, m5, m6, hJ2⟩ := s_padSum l g hJ hN 
  refine tb_cVi X hH hl.1 m5 ky_X5_padSum.1 ky_X5_padSum.2 wm_521 tb_oT rfl rfl (Nat.le_of_ble_eq_true rfl) ⟨by omega, by omega⟩ hcs dL_law_597 (fun H locs hH => ?_)
  refine lv_aload_n X.1 X.2.1 dL_law_600 rfl (lv_at hl 2 rfl) ?_
  refine tb_cVi X hH hl.1 m6 ky_X6_padSum.1 ky_X6_padSum.2 wm_531 tb_oM rfl rfl (Nat.le_of_ble_eq_true rfl) ⟨by omega, by omega⟩ hcs dL_law_601 (fun H locs hH => ?_)
  refine lv_icmp_eq (tgt := 865) X.1 X.2.1 dL_law_604 (by decide) (fun _ => ?_) (fun h => (h rfl : False).elim)
  exact kk z2 H locs hH hJ2
set_option maxHeartbeats 1000000 in
set_option maxRecDepth 100000 in
theorem lw_c15 (X : tb_X RL cL_law 4 g p c s m args) (S : lw_S g b L xs s) (hR : 11 ≤ R.frames ∧ 400 ≤ R.locals) (hcs : cells ≤ R.cells ∧ slots ≤ R.slots) (hH : tb_H g s.heap z H locs) (hl : lw_hl g b i ls) (hi : i + 5 ≤ L) (hJ : tb_J z z N) (hN : N + 4001 < 2 ^ 29) (kk : ∀ (z2 : tb_M) (H1 : Heap) (locs1 : List Loc), tb_H g s.heap z2 H1 locs1 → tb_J z2 z2 (N + 1001) → W p l e R s m args below meth c H1 locs1 cells slots Q (F0 m 865 ls [])) : W p l e R s m args below meth c H locs cells slots Q (F0 m 609 ls []) := by
  refine lv_aload_n X.1 X.2.1 dL_law_609 rfl (lv_at hl 1 rfl) ?_
  refine lw_arg X S hH hl (k := 1) (by omega) dL_law_610 dL_law_611 dL_law_612 (by decide +kernel) dL_law_613 dL_law_614 ?_
  refine lw_bool X dL_law_615 dL_law_618 dL_law_619 dL_law_622 ?_
  obtain ⟨r, z1, z2, n1, n2, h1, h2, m5, m6, hJ2⟩ := s_ifStarted l g hJ hN (¬ (xs (i + 1)) = 0)
  refine tb_cVi X hH hl.1 m5 ky_X5_ifStarted.1 ky_X5_ifStarted.2 wm_535 tb_oT rfl rfl (Nat.le_of_ble_eq_true rfl) ⟨by omega, by omega⟩ hcs dL_law_623 (fun H locs hH => ?_)
  refine lv_aload_n X.1 X.2.1 dL_law_626 rfl (lv_at hl 2 rfl) ?_
  refine lw_arg X S hH hl (k := 1) (by omega) dL_law_627 dL_law_628 dL_law_629 (by decide +kernel) dL_law_630 dL_law_631 ?_
  refine lw_bool X dL_law_632 dL_law_635 dL_law_636 dL_law_639 ?_
  refine tb_cVi X hH hl.1 m6 ky_X6_ifStarted.1 ky_X6_ifStarted.2 wm_544 tb_oM rfl rfl (Nat.le_of_ble_eq_true rfl) ⟨by omega, by omega⟩ hcs dL_law_640 (fun H locs hH => ?_)
  refine lv_icmp_eq (tgt := 865) X.1 X.2.1 dL_law_643 (by decide) (fun _ => ?_) (fun h => (h rfl : False).elim)
  exact kk z2 H locs hH hJ2
set_option maxHeartbeats 1000000 in
set_option maxRecDepth 100000 in
theorem lw_c16 (X : tb_X RL cL_law 4 g p c s m args) (S : lw_S g b L xs s) (hR : 11 ≤ R.frames ∧ 400 ≤ R.locals) (hcs : cells ≤ R.cells ∧ slots ≤ R.slots) (hH : tb_H g s.heap z H locs) (hl : lw_hl g b i ls) (hi : i + 5 ≤ L) (hJ : tb_J z z N) (hN : N + 4001 < 2 ^ 29) (kk : ∀ (z2 : tb_M) (H1 : Heap) (locs1 : List Loc), tb_H g s.heap z2 H1 locs1 → tb_J z2 z2 (N + 1001) → W p l e R s m args below meth c H1 locs1 cells slots Q (F0 m 865 ls [])) : W p l e R s m args below meth c H locs cells slots Q (F0 m 648 ls []) := by
  refine lv_aload_n X.1 X.2.1 dL_law_648 rfl (lv_at hl 1 rfl) ?_
  refine lw_arg X S hH hl (k := 1) (by omega) dL_law_649 dL_law_650 dL_law_651 (by decide +kernel) dL_law_652 dL_law_653 ?_
  refine lw_arg X S hH hl (k := 2) (by omega) dL_law_654 dL_law_655 dL_law_656 (by decide +kernel) dL_law_657 dL_law_658 ?_
  obtain ⟨r, z1, z2, n1, n2, h1, h2, m5, m6, hJ2⟩ := s_ifPassed l g hJ hN (xs (i + 1)) (xs (i + 2))
  refine tb_cVi X hH hl.1 m5 ky_X5_ifPassed.1 ky_X5_ifPassed.2 wm_552 tb_oT rfl rfl (Nat.le_of_ble_eq_true rfl) ⟨by omega, by omega⟩ hcs dL_law_659 (fun H locs hH => ?_)
  refine lv_aload_n X.1 X.2.1 dL_law_662 rfl (lv_at hl 2 rfl) ?_
  refine lw_arg X S hH hl (k := 1) (by omega) dL_law_663 dL_law_664 dL_law_665 (by decide +kernel) dL_law_666 dL_law_667 ?_
  refine lw_arg X S hH hl (k := 2) (by omega) dL_law_668 dL_law_669 dL_law_670 (by decide +kernel) dL_law_671 dL_law_672 ?_
  refine tb_cVi X hH hl.1 m6 ky_X6_ifPassed.1 ky_X6_ifPassed.2 wm_556 tb_oM rfl rfl (Nat.le_of_ble_eq_true rfl) ⟨by omega, by omega⟩ hcs dL_law_673 (fun H locs hH => ?_)
  refine lv_icmp_eq (tgt := 865) X.1 X.2.1 dL_law_676 (by decide) (fun _ => ?_) (fun h => (h rfl : False).elim)
  exact kk z2 H locs hH hJ2
set_option maxHeartbeats 1000000 in
set_option maxRecDepth 100000 in
theorem lw_c17 (X : tb_X RL cL_law 4 g p c s m args) (S : lw_S g b L xs s) (hR : 11 ≤ R.frames ∧ 400 ≤ R.locals) (hcs : cells ≤ R.cells ∧ slots ≤ R.slots) (hH : tb_H g s.heap z H locs) (hl : lw_hl g b i ls) (hi : i + 5 ≤ L) (hJ : tb_J z z N) (hN : N + 4001 < 2 ^ 29) (kk : ∀ (z2 : tb_M) (H1 : Heap) (locs1 : List Loc), tb_H g s.heap z2 H1 locs1 → tb_J z2 z2 (N + 1001) → W p l e R s m args below meth c H1 locs1 cells slots Q (F0 m 865 ls [])) : W p l e R s m args below meth c H locs cells slots Q (F0 m 681 ls []) := by
  refine lv_aload_n X.1 X.2.1 dL_law_681 rfl (lv_at hl 1 rfl) ?_
  obtain ⟨r, z1, z2, n1, n2, h1, h2, m5, m6, hJ2⟩ := s_nextStart l g hJ hN 
  refine tb_cVi X hH hl.1 m5 ky_X5_nextStart.1 ky_X5_nextStart.2 wm_560 tb_oT rfl rfl (Nat.le_of_ble_eq_true rfl) ⟨by omega, by omega⟩ hcs dL_law_682 (fun H locs hH => ?_)
  refine lv_aload_n X.1 X.2.1 dL_law_685 rfl (lv_at hl 2 rfl) ?_
  refine tb_cVi X hH hl.1 m6 ky_X6_nextStart.1 ky_X6_nextStart.2 wm_565 tb_oM rfl rfl (Nat.le_of_ble_eq_true rfl) ⟨by omega, by omega⟩ hcs dL_law_686 (fun H locs hH => ?_)
  refine lv_icmp_eq (tgt := 865) X.1 X.2.1 dL_law_689 (by decide) (fun _ => ?_) (fun h => (h rfl : False).elim)
  exact kk z2 H locs hH hJ2
set_option maxHeartbeats 1000000 in
set_option maxRecDepth 100000 in
theorem lw_c18 (X : tb_X RL cL_law 4 g p c s m args) (S : lw_S g b L xs s) (hR : 11 ≤ R.frames ∧ 400 ≤ R.locals) (hcs : cells ≤ R.cells ∧ slots ≤ R.slots) (hH : tb_H g s.heap z H locs) (hl : lw_hl g b i ls) (hi : i + 5 ≤ L) (hJ : tb_J z z N) (hN : N + 4001 < 2 ^ 29) (kk : ∀ (z2 : tb_M) (H1 : Heap) (locs1 : List Loc), tb_H g s.heap z2 H1 locs1 → tb_J z2 z2 (N + 1001) → W p l e R s m args below meth c H1 locs1 cells slots Q (F0 m 865 ls [])) : W p l e R s m args below meth c H locs cells slots Q (F0 m 694 ls []) := by
  refine lv_aload_n X.1 X.2.1 dL_law_694 rfl (lv_at hl 1 rfl) ?_
  refine lw_arg X S hH hl (k := 1) (by omega) dL_law_695 dL_law_696 dL_law_697 (by decide +kernel) dL_law_698 dL_law_699 ?_
  refine lw_arg X S hH hl (k := 2) (by omega) dL_law_700 dL_law_701 dL_law_702 (by decide +kernel) dL_law_703 dL_law_704 ?_
  obtain ⟨r, z1, z2, n1, n2, h1, h2, m5, m6, hJ2⟩ := s_lasts l g hJ hN (xs (i + 1)) (xs (i + 2))
  refine tb_cVi X hH hl.1 m5 ky_X5_lasts.1 ky_X5_lasts.2 wm_569 tb_oT rfl rfl (Nat.le_of_ble_eq_true rfl) ⟨by omega, by omega⟩ hcs dL_law_705 (fun H locs hH => ?_)
  refine lv_aload_n X.1 X.2.1 dL_law_708 rfl (lv_at hl 2 rfl) ?_
  refine lw_arg X S hH hl (k := 1) (by omega) dL_law_709 dL_law_710 dL_law_711 (by decide +kernel) dL_law_712 dL_law_713 ?_
  refine lw_arg X S hH hl (k := 2) (by omega) dL_law_714 dL_law_715 dL_law_716 (by decide +kernel) dL_law_717 dL_law_718 ?_
  refine tb_cVi X hH hl.1 m6 ky_X6_lasts.1 ky_X6_lasts.2 wm_573 tb_oM rfl rfl (Nat.le_of_ble_eq_true rfl) ⟨by omega, by omega⟩ hcs dL_law_719 (fun H locs hH => ?_)
  refine lv_icmp_eq (tgt := 865) X.1 X.2.1 dL_law_722 (by decide) (fun _ => ?_) (fun h => (h rfl : False).elim)
  exact kk z2 H locs hH hJ2
set_option maxHeartbeats 1000000 in
set_option maxRecDepth 100000 in
theorem lw_c19 (X : tb_X RL cL_law 4 g p c s m args) (S : lw_S g b L xs s) (hR : 11 ≤ R.frames ∧ 400 ≤ R.locals) (hcs : cells ≤ R.cells ∧ slots ≤ R.slots) (hH : tb_H g s.heap z H locs) (hl : lw_hl g b i ls) (hi : i + 5 ≤ L) (hJ : tb_J z z N) (hN : N + 4001 < 2 ^ 29) (kk : ∀ (z2 : tb_M) (H1 : Heap) (locs1 : List Loc), tb_H g s.heap z2 H1 locs1 → tb_J z2 z2 (N + 1001) → W p l e R s m args below meth c H1 locs1 cells slots Q (F0 m 865 ls [])) : W p l e R s m args below meth c H locs cells slots Q (F0 m 727 ls []) := by
  refine lv_aload_n X.1 X.2.1 dL_law_727 rfl (lv_at hl 1 rfl) ?_
  refine lw_arg X S hH hl (k := 1) (by omega) dL_law_728 dL_law_729 dL_law_730 (by decide +kernel) dL_law_731 dL_law_732 ?_
  refine lv_i2l X.1 X.2.1 dL_law_733 rfl ?_
  refine lv_bipush (v := nI 32) X.1 X.2.1 dL_law_734 (by decide +kernel) ?_
  refine lv_lshl X.1 X.2.1 dL_law_736 rfl ?_
  refine lw_arg X S hH hl (k := 2) (by omega) dL_law_737 dL_law_738 dL_law_739 (by decide +kernel) dL_law_740 dL_law_741 ?_
  refine lv_i2l X.1 X.2.1 dL_law_742 rfl ?_
  refine lv_ldc2 X.1 X.2.1 X.2.2.2.1 (X.2.2.1 _ wm_6) dL_law_743 ?_
  refine lv_land X.1 X.2.1 dL_law_746 ?_
  refine lv_lor X.1 X.2.1 dL_law_747 ?_
  obtain ⟨r, z1, z2, n1, n2, h1, h2, m5, m6, hJ2⟩ := s_put l g hJ hN (lw_long (xs (i + 1)) (xs (i + 2)))
  refine tb_cVi X hH hl.1 m5 ky_X5_put.1 ky_X5_put.2 wm_577 tb_oT rfl rfl (Nat.le_of_ble_eq_true rfl) ⟨by omega, by omega⟩ hcs dL_law_748 (fun H locs hH => ?_)
  refine lv_aload_n X.1 X.2.1 dL_law_751 rfl (lv_at hl 2 rfl) ?_
  refine lw_arg X S hH hl (k := 1) (by omega) dL_law_752 dL_law_753 dL_law_754 (by decide +kernel) dL_law_755 dL_law_756 ?_
  refine lv_i2l X.1 X.2.1 dL_law_757 rfl ?_
  refine lv_bipush (v := nI 32) X.1 X.2.1 dL_law_758 (by decide +kernel) ?_
  refine lv_lshl X.1 X.2.1 dL_law_760 rfl ?_
  refine lw_arg X S hH hl (k := 2) (by omega) dL_law_761 dL_law_762 dL_law_763 (by decide +kernel) dL_law_764 dL_law_765 ?_
  refine lv_i2l X.1 X.2.1 dL_law_766 rfl ?_
  refine lv_ldc2 X.1 X.2.1 X.2.2.2.1 (X.2.2.1 _ wm_6) dL_law_767 ?_
  refine lv_land X.1 X.2.1 dL_law_770 ?_
  refine lv_lor X.1 X.2.1 dL_law_771 ?_
  refine tb_cVi X hH hl.1 m6 ky_X6_put.1 ky_X6_put.2 wm_589 tb_oM rfl rfl (Nat.le_of_ble_eq_true rfl) ⟨by omega, by omega⟩ hcs dL_law_772 (fun H locs hH => ?_)
  refine lv_icmp_eq (tgt := 865) X.1 X.2.1 dL_law_775 (by decide) (fun _ => ?_) (fun h => (h rfl : False).elim)
  exact kk z2 H locs hH hJ2
set_option maxHeartbeats 1000000 in
set_option maxRecDepth 100000 in
theorem lw_c20 (X : tb_X RL cL_law 4 g p c s m args) (S : lw_S g b L xs s) (hR : 11 ≤ R.frames ∧ 400 ≤ R.locals) (hcs : cells ≤ R.cells ∧ slots ≤ R.slots) (hH : tb_H g s.heap z H locs) (hl : lw_hl g b i ls) (hi : i + 5 ≤ L) (hJ : tb_J z z N) (hN : N + 4001 < 2 ^ 29) (kk : ∀ (z2 : tb_M) (H1 : Heap) (locs1 : List Loc), tb_H g s.heap z2 H1 locs1 → tb_J z2 z2 (N + 1001) → W p l e R s m args below meth c H1 locs1 cells slots Q (F0 m 865 ls [])) : W p l e R s m args below meth c H locs cells slots Q (F0 m 780 ls []) := by
  refine lv_aload_n X.1 X.2.1 dL_law_780 rfl (lv_at hl 1 rfl) ?_
  obtain ⟨r, z1, z2, n1, n2, h1, h2, m5, m6, hJ2⟩ := s_wipe l g hJ hN 
  refine tb_cVi X hH hl.1 m5 ky_X5_wipe.1 ky_X5_wipe.2 wm_594 tb_oT rfl rfl (Nat.le_of_ble_eq_true rfl) ⟨by omega, by omega⟩ hcs dL_law_781 (fun H locs hH => ?_)
  refine lv_aload_n X.1 X.2.1 dL_law_784 rfl (lv_at hl 2 rfl) ?_
  refine tb_cVi X hH hl.1 m6 ky_X6_wipe.1 ky_X6_wipe.2 wm_598 tb_oM rfl rfl (Nat.le_of_ble_eq_true rfl) ⟨by omega, by omega⟩ hcs dL_law_785 (fun H locs hH => ?_)
  refine lv_icmp_eq (tgt := 865) X.1 X.2.1 dL_law_788 (by decide) (fun _ => ?_) (fun h => (h rfl : False).elim)
  exact kk z2 H locs hH hJ2
set_option maxHeartbeats 1000000 in
set_option maxRecDepth 100000 in
theorem lw_c21 (X : tb_X RL cL_law 4 g p c s m args) (S : lw_S g b L xs s) (hR : 11 ≤ R.frames ∧ 400 ≤ R.locals) (hcs : cells ≤ R.cells ∧ slots ≤ R.slots) (hH : tb_H g s.heap z H locs) (hl : lw_hl g b i ls) (hi : i + 5 ≤ L) (hJ : tb_J z z N) (hN : N + 4001 < 2 ^ 29) (kk : ∀ (z2 : tb_M) (H1 : Heap) (locs1 : List Loc), tb_H g s.heap z2 H1 locs1 → tb_J z2 z2 (N + 1001) → W p l e R s m args below meth c H1 locs1 cells slots Q (F0 m 865 ls [])) : W p l e R s m args below meth c H locs cells slots Q (F0 m 793 ls []) := by
  refine lv_aload_n X.1 X.2.1 dL_law_793 rfl (lv_at hl 1 rfl) ?_
  obtain ⟨r, z1, z2, n1, n2, h1, h2, m5, m6, hJ2⟩ := s_fault l g hJ hN 
  refine tb_cVi X hH hl.1 m5 ky_X5_fault.1 ky_X5_fault.2 wm_602 tb_oT rfl rfl (Nat.le_of_ble_eq_true rfl) ⟨by omega, by omega⟩ hcs dL_law_794 (fun H locs hH => ?_)
  refine lv_aload_n X.1 X.2.1 dL_law_797 rfl (lv_at hl 2 rfl) ?_
  refine tb_cVi X hH hl.1 m6 ky_X6_fault.1 ky_X6_fault.2 wm_606 tb_oM rfl rfl (Nat.le_of_ble_eq_true rfl) ⟨by omega, by omega⟩ hcs dL_law_798 (fun H locs hH => ?_)
  refine lv_icmp_eq (tgt := 865) X.1 X.2.1 dL_law_801 (by decide) (fun _ => ?_) (fun h => (h rfl : False).elim)
  exact kk z2 H locs hH hJ2
set_option maxHeartbeats 1000000 in
set_option maxRecDepth 100000 in
theorem lw_c22 (X : tb_X RL cL_law 4 g p c s m args) (S : lw_S g b L xs s) (hR : 11 ≤ R.frames ∧ 400 ≤ R.locals) (hcs : cells ≤ R.cells ∧ slots ≤ R.slots) (hH : tb_H g s.heap z H locs) (hl : lw_hl g b i ls) (hi : i + 5 ≤ L) (hJ : tb_J z z N) (hN : N + 4001 < 2 ^ 29) (kk : ∀ (z2 : tb_M) (H1 : Heap) (locs1 : List Loc), tb_H g s.heap z2 H1 locs1 → tb_J z2 z2 (N + 1001) → W p l e R s m args below meth c H1 locs1 cells slots Q (F0 m 865 ls [])) : W p l e R s m args below meth c H locs cells slots Q (F0 m 806 ls []) := by
  refine lv_aload_n X.1 X.2.1 dL_law_806 rfl (lv_at hl 1 rfl) ?_
  obtain ⟨r, z1, z2, n1, n2, h1, h2, m5, m6, hJ2⟩ := s_undo l g hJ hN 
  refine tb_cVi X hH hl.1 m5 ky_X5_undo.1 ky_X5_undo.2 wm_610 tb_oT rfl rfl (Nat.le_of_ble_eq_true rfl) ⟨by omega, by omega⟩ hcs dL_law_807 (fun H locs hH => ?_)
  refine lv_aload_n X.1 X.2.1 dL_law_810 rfl (lv_at hl 2 rfl) ?_
  refine tb_cVi X hH hl.1 m6 ky_X6_undo.1 ky_X6_undo.2 wm_618 tb_oM rfl rfl (Nat.le_of_ble_eq_true rfl) ⟨by omega, by omega⟩ hcs dL_law_811 (fun H locs hH => ?_)
  refine lv_icmp_eq (tgt := 865) X.1 X.2.1 dL_law_814 (by decide) (fun _ => ?_) (fun h => (h rfl : False).elim)
  exact kk z2 H locs hH hJ2
set_option maxHeartbeats 1000000 in
set_option maxRecDepth 100000 in
theorem lw_c23 (X : tb_X RL cL_law 4 g p c s m args) (S : lw_S g b L xs s) (hR : 11 ≤ R.frames ∧ 400 ≤ R.locals) (hcs : cells ≤ R.cells ∧ slots ≤ R.slots) (hH : tb_H g s.heap z H locs) (hl : lw_hl g b i ls) (hi : i + 5 ≤ L) (hJ : tb_J z z N) (hN : N + 4001 < 2 ^ 29) (kk : ∀ (z2 : tb_M) (H1 : Heap) (locs1 : List Loc), tb_H g s.heap z2 H1 locs1 → tb_J z2 z2 (N + 1001) → W p l e R s m args below meth c H1 locs1 cells slots Q (F0 m 865 ls [])) : W p l e R s m args below meth c H locs cells slots Q (F0 m 819 ls []) := by
  refine lv_aload_n X.1 X.2.1 dL_law_819 rfl (lv_at hl 1 rfl) ?_
  refine lw_arg X S hH hl (k := 1) (by omega) dL_law_820 dL_law_821 dL_law_822 (by decide +kernel) dL_law_823 dL_law_824 ?_
  obtain ⟨r, z1, z2, n1, n2, h1, h2, m5, m6, hJ2⟩ := s_save l g hJ hN (xs (i + 1))
  refine tb_cVi X hH hl.1 m5 ky_X5_save.1 ky_X5_save.2 wm_622 tb_oT rfl rfl (Nat.le_of_ble_eq_true rfl) ⟨by omega, by omega⟩ hcs dL_law_825 (fun H locs hH => ?_)
  refine lv_aload_n X.1 X.2.1 dL_law_828 rfl (lv_at hl 2 rfl) ?_
  refine lw_arg X S hH hl (k := 1) (by omega) dL_law_829 dL_law_830 dL_law_831 (by decide +kernel) dL_law_832 dL_law_833 ?_
  refine tb_cVi X hH hl.1 m6 ky_X6_save.1 ky_X6_save.2 wm_626 tb_oM rfl rfl (Nat.le_of_ble_eq_true rfl) ⟨by omega, by omega⟩ hcs dL_law_834 (fun H locs hH => ?_)
  refine lv_icmp_eq (tgt := 865) X.1 X.2.1 dL_law_837 (by decide) (fun _ => ?_) (fun h => (h rfl : False).elim)
  exact kk z2 H locs hH hJ2
set_option maxHeartbeats 1000000 in
set_option maxRecDepth 100000 in
theorem lw_c24 (X : tb_X RL cL_law 4 g p c s m args) (S : lw_S g b L xs s) (hR : 11 ≤ R.frames ∧ 400 ≤ R.locals) (hcs : cells ≤ R.cells ∧ slots ≤ R.slots) (hH : tb_H g s.heap z H locs) (hl : lw_hl g b i ls) (hi : i + 5 ≤ L) (hJ : tb_J z z N) (hN : N + 4001 < 2 ^ 29) (kk : ∀ (z2 : tb_M) (H1 : Heap) (locs1 : List Loc), tb_H g s.heap z2 H1 locs1 → tb_J z2 z2 (N + 1001) → W p l e R s m args below meth c H1 locs1 cells slots Q (F0 m 865 ls [])) : W p l e R s m args below meth c H locs cells slots Q (F0 m 842 ls []) := by
  refine lv_aload_n X.1 X.2.1 dL_law_842 rfl (lv_at hl 1 rfl) ?_
  refine lw_arg X S hH hl (k := 1) (by omega) dL_law_843 dL_law_844 dL_law_845 (by decide +kernel) dL_law_846 dL_law_847 ?_
  obtain ⟨r, z1, z2, n1, n2, h1, h2, m5, m6, hJ2⟩ := s_restore l g hJ hN (xs (i + 1))
  refine tb_cVi X hH hl.1 m5 ky_X5_restore.1 ky_X5_restore.2 wm_630 tb_oT rfl rfl (Nat.le_of_ble_eq_true rfl) ⟨by omega, by omega⟩ hcs dL_law_848 (fun H locs hH => ?_)
  refine lv_aload_n X.1 X.2.1 dL_law_851 rfl (lv_at hl 2 rfl) ?_
  refine lw_arg X S hH hl (k := 1) (by omega) dL_law_852 dL_law_853 dL_law_854 (by decide +kernel) dL_law_855 dL_law_856 ?_
  refine tb_cVi X hH hl.1 m6 ky_X6_restore.1 ky_X6_restore.2 wm_634 tb_oM rfl rfl (Nat.le_of_ble_eq_true rfl) ⟨by omega, by omega⟩ hcs dL_law_857 (fun H locs hH => ?_)
  refine lv_icmp_eq (tgt := 865) X.1 X.2.1 dL_law_860 (by decide) (fun _ => ?_) (fun h => (h rfl : False).elim)
  exact kk z2 H locs hH hJ2
set_option maxHeartbeats 1000000 in
set_option maxRecDepth 100000 in
/-- one round of the loop, from the switch -/
theorem lw_switch (X : tb_X RL cL_law 4 g p c s m args) (S : lw_S g b L xs s) (hR : 11 ≤ R.frames ∧ 400 ≤ R.locals) (hcs : cells ≤ R.cells ∧ slots ≤ R.slots) (hH : tb_H g s.heap z H locs) (hl : lw_hl g b i ls) (hi : i + 5 ≤ L) (hJ : tb_J z z N) (hN : N + 4001 < 2 ^ 29) (x : Int32) (kk : ∀ (z2 : tb_M) (H1 : Heap) (locs1 : List Loc), tb_H g s.heap z2 H1 locs1 → tb_J z2 z2 (N + 1001) → W p l e R s m args below meth c H1 locs1 cells slots Q (F0 m 865 ls [])) : W p l e R s m args below meth c H locs cells slots Q (F0 m 32 ls [.int x]) := by
  by_cases hx : x.toInt < 0 ∨ 24 < x.toInt
  · exact lv_tableOut (tgt := 865) X.1 X.2.1 dL_law_32 hx (by decide) (kk z H locs hH (hJ.mono (by omega)))
  have h1 : ¬ x.toInt < 0 := fun h => hx (Or.inl h)
  have h2 : ¬ 24 < x.toInt := fun h => hx (Or.inr h)
  have hc : x.toInt = 0 ∨ x.toInt = 1 ∨ x.toInt = 2 ∨ x.toInt = 3 ∨ x.toInt = 4 ∨ x.toInt = 5 ∨ x.toInt = 6 ∨ x.toInt = 7 ∨ x.toInt = 8 ∨ x.toInt = 9 ∨ x.toInt = 10 ∨ x.toInt = 11 ∨ x.toInt = 12 ∨ x.toInt = 13 ∨ x.toInt = 14 ∨ x.toInt = 15 ∨ x.toInt = 16 ∨ x.toInt = 17 ∨ x.toInt = 18 ∨ x.toInt = 19 ∨ x.toInt = 20 ∨ x.toInt = 21 ∨ x.toInt = 22 ∨ x.toInt = 23 ∨ x.toInt = 24 := by omega
  rcases hc with h | h | h | h | h | h | h | h | h | h | h | h | h | h | h | h | h | h | h | h | h | h | h | h | h
  · exact lv_tableIn (off := 116) (tgt := 148) X.1 X.2.1 dL_law_32 h1 h2 (by rw [h]; rfl) (by decide) (lw_c0 X S hR hcs hH hl hi hJ hN kk)
  · exact lv_tableIn (off := 149) (tgt := 181) X.1 X.2.1 dL_law_32 h1 h2 (by rw [h]; rfl) (by decide) (lw_c1 X S hR hcs hH hl hi hJ hN kk)
  · exact lv_tableIn (off := 202) (tgt := 234) X.1 X.2.1 dL_law_32 h1 h2 (by rw [h]; rfl) (by decide) (lw_c2 X S hR hcs hH hl hi hJ hN kk)
  · exact lv_tableIn (off := 235) (tgt := 267) X.1 X.2.1 dL_law_32 h1 h2 (by rw [h]; rfl) (by decide) (lw_c3 X S hR hcs hH hl hi hJ hN kk)
  · exact lv_tableIn (off := 258) (tgt := 290) X.1 X.2.1 dL_law_32 h1 h2 (by rw [h]; rfl) (by decide) (lw_c4 X S hR hcs hH hl hi hJ hN kk)
  · exact lv_tableIn (off := 281) (tgt := 313) X.1 X.2.1 dL_law_32 h1 h2 (by rw [h]; rfl) (by decide) (lw_c5 X S hR hcs hH hl hi hJ hN kk)
  · exact lv_tableIn (off := 324) (tgt := 356) X.1 X.2.1 dL_law_32 h1 h2 (by rw [h]; rfl) (by decide) (lw_c6 X S hR hcs hH hl hi hJ hN kk)
  · exact lv_tableIn (off := 347) (tgt := 379) X.1 X.2.1 dL_law_32 h1 h2 (by rw [h]; rfl) (by decide) (lw_c7 X S hR hcs hH hl hi hJ hN kk)
  · exact lv_tableIn (off := 386) (tgt := 418) X.1 X.2.1 dL_law_32 h1 h2 (by rw [h]; rfl) (by decide) (lw_c8 X S hR hcs hH hl hi hJ hN kk)
  · exact lv_tableIn (off := 409) (tgt := 441) X.1 X.2.1 dL_law_32 h1 h2 (by rw [h]; rfl) (by decide) (lw_c9 X S hR hcs hH hl hi hJ hN kk)
  · exact lv_tableIn (off := 442) (tgt := 474) X.1 X.2.1 dL_law_32 h1 h2 (by rw [h]; rfl) (by decide) (lw_c10 X S hR hcs hH hl hi hJ hN kk)
  · exact lv_tableIn (off := 475) (tgt := 507) X.1 X.2.1 dL_law_32 h1 h2 (by rw [h]; rfl) (by decide) (lw_c11 X S hR hcs hH hl hi hJ hN kk)
  · exact lv_tableIn (off := 508) (tgt := 540) X.1 X.2.1 dL_law_32 h1 h2 (by rw [h]; rfl) (by decide) (lw_c12 X S hR hcs hH hl hi hJ hN kk)
  · exact lv_tableIn (off := 541) (tgt := 573) X.1 X.2.1 dL_law_32 h1 h2 (by rw [h]; rfl) (by decide) (lw_c13 X S hR hcs hH hl hi hJ hN kk)
  · exact lv_tableIn (off := 564) (tgt := 596) X.1 X.2.1 dL_law_32 h1 h2 (by rw [h]; rfl) (by decide) (lw_c14 X S hR hcs hH hl hi hJ hN kk)
  · exact lv_tableIn (off := 577) (tgt := 609) X.1 X.2.1 dL_law_32 h1 h2 (by rw [h]; rfl) (by decide) (lw_c15 X S hR hcs hH hl hi hJ hN kk)
  · exact lv_tableIn (off := 616) (tgt := 648) X.1 X.2.1 dL_law_32 h1 h2 (by rw [h]; rfl) (by decide) (lw_c16 X S hR hcs hH hl hi hJ hN kk)
  · exact lv_tableIn (off := 649) (tgt := 681) X.1 X.2.1 dL_law_32 h1 h2 (by rw [h]; rfl) (by decide) (lw_c17 X S hR hcs hH hl hi hJ hN kk)
  · exact lv_tableIn (off := 662) (tgt := 694) X.1 X.2.1 dL_law_32 h1 h2 (by rw [h]; rfl) (by decide) (lw_c18 X S hR hcs hH hl hi hJ hN kk)
  · exact lv_tableIn (off := 695) (tgt := 727) X.1 X.2.1 dL_law_32 h1 h2 (by rw [h]; rfl) (by decide) (lw_c19 X S hR hcs hH hl hi hJ hN kk)
  · exact lv_tableIn (off := 748) (tgt := 780) X.1 X.2.1 dL_law_32 h1 h2 (by rw [h]; rfl) (by decide) (lw_c20 X S hR hcs hH hl hi hJ hN kk)
  · exact lv_tableIn (off := 761) (tgt := 793) X.1 X.2.1 dL_law_32 h1 h2 (by rw [h]; rfl) (by decide) (lw_c21 X S hR hcs hH hl hi hJ hN kk)
  · exact lv_tableIn (off := 774) (tgt := 806) X.1 X.2.1 dL_law_32 h1 h2 (by rw [h]; rfl) (by decide) (lw_c22 X S hR hcs hH hl hi hJ hN kk)
  · exact lv_tableIn (off := 787) (tgt := 819) X.1 X.2.1 dL_law_32 h1 h2 (by rw [h]; rfl) (by decide) (lw_c23 X S hR hcs hH hl hi hJ hN kk)
  · exact lv_tableIn (off := 810) (tgt := 842) X.1 X.2.1 dL_law_32 h1 h2 (by rw [h]; rfl) (by decide) (lw_c24 X S hR hcs hH hl hi hJ hN kk)
set_option maxHeartbeats 1000000 in
set_option maxRecDepth 100000 in
/-- the loop: k rounds at most are left -/
theorem lw_loop (X : tb_X RL cL_law 4 g p c s m args) (S : lw_S g b L xs s) (hR : 11 ≤ R.frames ∧ 400 ≤ R.locals) (hcs : cells ≤ R.cells ∧ slots ≤ R.slots)
    (kend : ∀ (z2 : tb_M) (H1 : Heap) (locs1 : List Loc) (ls : Array Slot), tb_H g s.heap z2 H1 locs1 → W p l e R s m args below meth c H1 locs1 cells slots Q (F0 m 871 ls [])) : ∀ (k i N : Nat) (z : tb_M) (H : Heap) (locs : List Loc) (ls : Array Slot), i ≤ L → L < i + 5 * k + 5 → N + 1001 * k + 4001 < 2 ^ 29 → tb_J z z N → tb_H g s.heap z H locs → lw_hl g b i ls → W p l e R s m args below meth c H locs cells slots Q (F0 m 18 ls []) := by
  have hL := S.2.2.2
  intro k
  induction k with
  | zero =>
    intro i N z H locs ls hi hk hN hJ hH hl
    refine lv_iload_n X.1 X.2.1 dL_law_18 rfl (lv_at hl 3 rfl) ?_
    refine lv_aload_n X.1 X.2.1 dL_law_19 rfl (lv_at hl 0 rfl) ?_
    refine va_slen X.1 X.2.1 S.1 S.2.1 S.2.2.1 hH.2 dL_law_20 ?_
    refine lv_iconst (v := nI 5) X.1 X.2.1 dL_law_21 (by decide +kernel) ?_
    refine lv_isub X.1 X.2.1 dL_law_22 ?_
    refine lv_icmp_gt (tgt := 871) X.1 X.2.1 dL_law_23 (by decide) (fun _ => kend z H locs ls hH) (fun h => ?_)
    exfalso
    apply h
    have e := tb_sub_pos (t := L) (g := nI 5) (by omega) (by decide)
    have e5 : (nI 5).toInt = 5 := rfl
    show nI L - nI 5 < nI i
    rw [Int32.lt_iff_toInt_lt, e, e5, nI_toInt (by omega)]
    omega
  | succ k ih =>
    intro i N z H locs ls hi hk hN hJ hH hl
    refine lv_iload_n X.1 X.2.1 dL_law_18 rfl (lv_at hl 3 rfl) ?_
    refine lv_aload_n X.1 X.2.1 dL_law_19 rfl (lv_at hl 0 rfl) ?_
    refine va_slen X.1 X.2.1 S.1 S.2.1 S.2.2.1 hH.2 dL_law_20 ?_
    refine lv_iconst (v := nI 5) X.1 X.2.1 dL_law_21 (by decide +kernel) ?_
    refine lv_isub X.1 X.2.1 dL_law_22 ?_
    refine lv_icmp_gt (tgt := 871) X.1 X.2.1 dL_law_23 (by decide) (fun _ => kend z H locs ls hH) (fun h => ?_)
    have hi5 : i + 5 ≤ L := by
      have e := tb_sub_pos (t := L) (g := nI 5) (by omega) (by decide)
      have e5 : (nI 5).toInt = 5 := rfl
      have h : ¬ nI L - nI 5 < nI i := h
      rw [Int32.lt_iff_toInt_lt, e, e5, nI_toInt (by omega)] at h
      omega
    refine lv_aload_n X.1 X.2.1 dL_law_26 rfl (lv_at hl 0 rfl) ?_
    refine lv_iload_n X.1 X.2.1 dL_law_27 rfl (lv_at hl 3 rfl) ?_
    refine va_sld X.1 X.2.1 S.1 S.2.1 S.2.2.1 hH.2 (vp_in_nI (by omega) (by omega)) dL_law_28 ?_
    refine lv_bipush (v := nI 31) X.1 X.2.1 dL_law_29 (by decide +kernel) ?_
    refine lv_iand X.1 X.2.1 dL_law_31 ?_
    refine lw_switch X S hR hcs hH hl hi5 hJ (by omega) _ (fun z2 H1 locs1 hH1 hJ1 => ?_)
    refine lv_iinc (v := nI (i + 5)) (lv' := [(3, .int (nI (i + 5))), (0, .ref b), (1, .ref (tb_ad g 150)), (2, .ref (tb_ad g 157))]) X.1 X.2.1 dL_law_865 hl (k := 3) rfl (nI_add _ _) (by decide) rfl (fun ls hl => ?_)
    refine lv_goto (tgt := 18) X.1 X.2.1 dL_law_868 (by decide) ?_
    exact ih (i + 5) (N + 1001) z2 H1 locs1 ls hi5 (by omega) (by omega) hJ1 hH1 (lv_sub hl [1, 2, 3, 0] rfl)
end LWL
