set_option maxHeartbeats 4000000 in
set_option maxRecDepth 100000 in
theorem o_columns {nm : String} {b L : Nat} {xs : Nat → Int32} (hL : L ≤ 2560) (i : Int) (i0 : 0 ≤ i) (i5 : i + 5 ≤ (L : Int)) (c : qC) (hI : Iv c) (hJ : ∀ c', Iv c' → qG (YL nm b L xs) wL 804 (lo4 b i) [] c') : qG (YL nm b L xs) wL 124 (lo4 b i) [] c := by
  obtain ⟨n, wd, N, S, mm, md, T, hC, hT, hK⟩ := hI
  refine g_aload_n (i := 1) dL_law_124 rfl rfl ?_
  refine g_aloadO_n (i := 0) dL_law_125 rfl rfl ?_
  refine g_iload_n (i := 3) dL_law_126 rfl rfl ?_
  refine g_iconst dL_law_127 ?_
  refine g_iadd dL_law_128 ?_
  refine g_sld dL_law_129 ?_ hL (by omega) (by omega)
  refine l_callVi (k_X7_columns c n wd N S mm md T hC (sx xs (i + 1)) (sx_r _ _)) dL_law_130 lkL_13 im_X7_columns rfl (by decide) rfl rfl rfl rfl rfl rfl rfl (fun z1 c1 hz1 => ?_)
  obtain ⟨e1, hC1, hF1⟩ := hz1
  have hT1 := hT.fr (fun k h1 _ => hF1 k h1)
  refine g_aload_n (i := 2) dL_law_133 rfl rfl ?_
  refine g_aloadO_n (i := 0) dL_law_134 rfl rfl ?_
  refine g_iload_n (i := 3) dL_law_135 rfl rfl ?_
  refine g_iconst dL_law_136 ?_
  refine g_iadd dL_law_137 ?_
  refine g_sld dL_law_138 ?_ hL (by omega) (by omega)
  refine l_callVi (k_X8_columns c1 n wd N S mm md T hT1 (sx xs (i + 1)) (sx_r _ _)) dL_law_139 lkL_17 im_X8_columns rfl (by decide) rfl rfl rfl rfl rfl rfl rfl (fun z2 c2 hz2 => ?_)
  obtain ⟨e2, hT2, hF2⟩ := hz2
  have hC2 := hC1.fr (fun k h1 => hF2 k (by omega))
  rw [e1, e2]
  exact g_same 804 dL_law_142 (by decide) (hJ _ ⟨_, _, _, _, _, _, _, hC2, hT2, hK⟩)
set_option maxHeartbeats 4000000 in
set_option maxRecDepth 100000 in
theorem o_row {nm : String} {b L : Nat} {xs : Nat → Int32} (hL : L ≤ 2560) (i : Int) (i0 : 0 ≤ i) (i5 : i + 5 ≤ (L : Int)) (c : qC) (hI : Iv c) (hJ : ∀ c', Iv c' → qG (YL nm b L xs) wL 804 (lo4 b i) [] c') : qG (YL nm b L xs) wL 147 (lo4 b i) [] c := by
  obtain ⟨n, wd, N, S, mm, md, T, hC, hT, hK⟩ := hI
  refine g_aload_n (i := 1) dL_law_147 rfl rfl ?_
  refine g_aloadO_n (i := 0) dL_law_148 rfl rfl ?_
  refine g_iload_n (i := 3) dL_law_149 rfl rfl ?_
  refine g_iconst dL_law_150 ?_
  refine g_iadd dL_law_151 ?_
  refine g_sld dL_law_152 ?_ hL (by omega) (by omega)
  refine g_aloadO_n (i := 0) dL_law_153 rfl rfl ?_
  refine g_iload_n (i := 3) dL_law_154 rfl rfl ?_
  refine g_iconst dL_law_155 ?_
  refine g_iadd dL_law_156 ?_
  refine g_sld dL_law_157 ?_ hL (by omega) (by omega)
  refine g_aloadO_n (i := 0) dL_law_158 rfl rfl ?_
  refine g_iload_n (i := 3) dL_law_159 rfl rfl ?_
  refine g_iconst dL_law_160 ?_
  refine g_iadd dL_law_161 ?_
  refine g_sld dL_law_162 ?_ hL (by omega) (by omega)
  refine g_aloadO_n (i := 0) dL_law_163 rfl rfl ?_
  refine g_iload_n (i := 3) dL_law_164 rfl rfl ?_
  refine g_iconst dL_law_165 ?_
  refine g_iadd dL_law_166 ?_
  refine g_sld dL_law_167 ?_ hL (by omega) (by omega)
  refine l_callVi (k_X7_row c n wd N S mm md T hC (sx xs (i + 1)) (sx xs (i + 2)) (sx xs (i + 3)) (sx xs (i + 4)) (sx_r _ _) (sx_r _ _) (sx_r _ _) (sx_r _ _)) dL_law_168 lkL_18 im_X7_row rfl (by decide) rfl rfl rfl rfl rfl rfl rfl (fun z1 c1 hz1 => ?_)
  obtain ⟨r1, r2, r3, hF1⟩ := hz1
  have hT1 := hT.fr (fun k h1 _ => hF1 k h1)
  refine g_aload_n (i := 2) dL_law_171 rfl rfl ?_
  refine g_aloadO_n (i := 0) dL_law_172 rfl rfl ?_
  refine g_iload_n (i := 3) dL_law_173 rfl rfl ?_
  refine g_iconst dL_law_174 ?_
  refine g_iadd dL_law_175 ?_
  refine g_sld dL_law_176 ?_ hL (by omega) (by omega)
  refine g_aloadO_n (i := 0) dL_law_177 rfl rfl ?_
  refine g_iload_n (i := 3) dL_law_178 rfl rfl ?_
  refine g_iconst dL_law_179 ?_
  refine g_iadd dL_law_180 ?_
  refine g_sld dL_law_181 ?_ hL (by omega) (by omega)
  refine g_aloadO_n (i := 0) dL_law_182 rfl rfl ?_
  refine g_iload_n (i := 3) dL_law_183 rfl rfl ?_
  refine g_iconst dL_law_184 ?_
  refine g_iadd dL_law_185 ?_
  refine g_sld dL_law_186 ?_ hL (by omega) (by omega)
  refine g_aloadO_n (i := 0) dL_law_187 rfl rfl ?_
  refine g_iload_n (i := 3) dL_law_188 rfl rfl ?_
  refine g_iconst dL_law_189 ?_
  refine g_iadd dL_law_190 ?_
  refine g_sld dL_law_191 ?_ hL (by omega) (by omega)
  refine l_callVi (k_X8_row c1 n wd N S mm md T hT1 (sx xs (i + 1)) (sx xs (i + 2)) (sx xs (i + 3)) (sx xs (i + 4)) (sx_r _ _) (sx_r _ _) (sx_r _ _) (sx_r _ _)) dL_law_192 lkL_22 im_X8_row rfl (by decide) rfl rfl rfl rfl rfl rfl rfl (fun z2 c2 hz2 => ?_)
  obtain ⟨t1, t2, t3, hF2⟩ := hz2
  by_cases hb : inb wd (sx xs (i + 1)) (sx xs (i + 2)) (sx xs (i + 3)) (sx xs (i + 4))
  · by_cases h30 : n < 30
    · obtain ⟨e1, hC1⟩ := r1 hb h30
      obtain ⟨e2, hT2⟩ := t1 hb h30
      have hC2 := hC1.fr (fun k h1 => hF2 k (by omega))
      rw [e1, e2]
      exact g_same 804 dL_law_195 (by decide) (hJ _ ⟨_, _, _, _, _, _, _, hC2, hT2, trivial⟩)
    · obtain ⟨e1, hC1⟩ := r2 hb h30
      obtain ⟨e2, hT2⟩ := t2 hb h30
      have hC2 := hC1.fr (fun k h1 => hF2 k (by omega))
      rw [e1, e2]
      exact g_same 804 dL_law_195 (by decide) (hJ _ ⟨_, _, _, _, _, _, _, hC2, hT2, hK⟩)
  · obtain ⟨e1, hC1⟩ := r3 hb
    obtain ⟨e2, hT2⟩ := t3 hb
    have hC2 := hC1.fr (fun k h1 => hF2 k (by omega))
    rw [e1, e2]
    exact g_same 804 dL_law_195 (by decide) (hJ _ ⟨_, _, _, _, _, _, _, hC2, hT2, hK⟩)
set_option maxHeartbeats 4000000 in
set_option maxRecDepth 100000 in
theorem o_clear {nm : String} {b L : Nat} {xs : Nat → Int32} (hL : L ≤ 2560) (i : Int) (i0 : 0 ≤ i) (i5 : i + 5 ≤ (L : Int)) (c : qC) (hI : Iv c) (hJ : ∀ c', Iv c' → qG (YL nm b L xs) wL 804 (lo4 b i) [] c') : qG (YL nm b L xs) wL 200 (lo4 b i) [] c := by
  obtain ⟨n, wd, N, S, mm, md, T, hC, hT, hK⟩ := hI
  refine g_aload_n (i := 1) dL_law_200 rfl rfl ?_
  refine l_callVi (k_X7_clear c n wd N S mm md T hC  ) dL_law_201 lkL_23 im_X7_clear rfl (by decide) rfl rfl rfl rfl rfl rfl rfl (fun z1 c1 hz1 => ?_)
  obtain ⟨e1, hC1, hF1⟩ := hz1
  have hT1 := hT.fr (fun k h1 _ => hF1 k h1)
  refine g_aload_n (i := 2) dL_law_204 rfl rfl ?_
  refine l_callVi (k_X8_clear c1 n wd N S mm md T hT1  ) dL_law_205 lkL_27 im_X8_clear rfl (by decide) rfl rfl rfl rfl rfl rfl rfl (fun z2 c2 hz2 => ?_)
  obtain ⟨e2, hT2, hF2⟩ := hz2
  have hC2 := hC1.fr (fun k h1 => hF2 k (by omega))
  rw [e1, e2]
  exact g_same 804 dL_law_208 (by decide) (hJ _ ⟨_, _, _, _, _, _, _, hC2, hT2, trivial⟩)
set_option maxHeartbeats 4000000 in
set_option maxRecDepth 100000 in
theorem o_count {nm : String} {b L : Nat} {xs : Nat → Int32} (hL : L ≤ 2560) (i : Int) (i0 : 0 ≤ i) (i5 : i + 5 ≤ (L : Int)) (c : qC) (hI : Iv c) (hJ : ∀ c', Iv c' → qG (YL nm b L xs) wL 804 (lo4 b i) [] c') : qG (YL nm b L xs) wL 213 (lo4 b i) [] c := by
  obtain ⟨n, wd, N, S, mm, md, T, hC, hT, hK⟩ := hI
  refine g_aload_n (i := 1) dL_law_213 rfl rfl ?_
  refine g_aloadO_n (i := 0) dL_law_214 rfl rfl ?_
  refine g_iload_n (i := 3) dL_law_215 rfl rfl ?_
  refine g_iconst dL_law_216 ?_
  refine g_iadd dL_law_217 ?_
  refine g_sld dL_law_218 ?_ hL (by omega) (by omega)
  refine l_callVi (k_X7_count c n wd N S mm md T hC (sx xs (i + 1)) (sx_r _ _)) dL_law_219 lkL_28 im_X7_count rfl (by decide) rfl rfl rfl rfl rfl rfl rfl (fun z1 c1 hz1 => ?_)
  obtain ⟨e1, hC1, hF1⟩ := hz1
  have hT1 := hT.fr (fun k h1 _ => hF1 k h1)
  refine g_aload_n (i := 2) dL_law_222 rfl rfl ?_
  refine g_aloadO_n (i := 0) dL_law_223 rfl rfl ?_
  refine g_iload_n (i := 3) dL_law_224 rfl rfl ?_
  refine g_iconst dL_law_225 ?_
  refine g_iadd dL_law_226 ?_
  refine g_sld dL_law_227 ?_ hL (by omega) (by omega)
  refine l_callVi (k_X8_count c1 n wd N S mm md T hT1 (sx xs (i + 1)) (sx_r _ _)) dL_law_228 lkL_31 im_X8_count rfl (by decide) rfl rfl rfl rfl rfl rfl rfl (fun z2 c2 hz2 => ?_)
  obtain ⟨e2, hT2, hF2⟩ := hz2
  have hC2 := hC1.fr (fun k h1 => hF2 k (by omega))
  rw [e1, e2]
  exact g_same 804 dL_law_231 (by decide) (hJ _ ⟨_, _, _, _, _, _, _, hC2, hT2, hK⟩)
set_option maxHeartbeats 4000000 in
set_option maxRecDepth 100000 in
theorem o_distance {nm : String} {b L : Nat} {xs : Nat → Int32} (hL : L ≤ 2560) (i : Int) (i0 : 0 ≤ i) (i5 : i + 5 ≤ (L : Int)) (c : qC) (hI : Iv c) (hJ : ∀ c', Iv c' → qG (YL nm b L xs) wL 804 (lo4 b i) [] c') : qG (YL nm b L xs) wL 236 (lo4 b i) [] c := by
  obtain ⟨n, wd, N, S, mm, md, T, hC, hT, hK⟩ := hI
  refine g_aload_n (i := 1) dL_law_236 rfl rfl ?_
  refine g_aloadO_n (i := 0) dL_law_237 rfl rfl ?_
  refine g_iload_n (i := 3) dL_law_238 rfl rfl ?_
  refine g_iconst dL_law_239 ?_
  refine g_iadd dL_law_240 ?_
  refine g_sld dL_law_241 ?_ hL (by omega) (by omega)
  refine g_aloadO_n (i := 0) dL_law_242 rfl rfl ?_
  refine g_iload_n (i := 3) dL_law_243 rfl rfl ?_
  refine g_iconst dL_law_244 ?_
  refine g_iadd dL_law_245 ?_
  refine g_sld dL_law_246 ?_ hL (by omega) (by omega)
  refine g_aloadO_n (i := 0) dL_law_247 rfl rfl ?_
  refine g_iload_n (i := 3) dL_law_248 rfl rfl ?_
  refine g_iconst dL_law_249 ?_
  refine g_iadd dL_law_250 ?_
  refine g_sld dL_law_251 ?_ hL (by omega) (by omega)
  refine l_callVi (k_X7_distance c n wd N S mm md T hC (sx xs (i + 1)) (sx xs (i + 2)) (sx xs (i + 3)) (sx_r _ _) (sx_r _ _) (sx_r _ _)) dL_law_252 lkL_32 im_X7_distance rfl (by decide) rfl rfl rfl rfl rfl rfl rfl (fun z1 c1 hz1 => ?_)
  obtain ⟨e1, hC1, hF1⟩ := hz1
  have hT1 := hT.fr (fun k h1 _ => hF1 k h1)
  refine g_aload_n (i := 2) dL_law_255 rfl rfl ?_
  refine g_aloadO_n (i := 0) dL_law_256 rfl rfl ?_
  refine g_iload_n (i := 3) dL_law_257 rfl rfl ?_
  refine g_iconst dL_law_258 ?_
  refine g_iadd dL_law_259 ?_
  refine g_sld dL_law_260 ?_ hL (by omega) (by omega)
  refine g_aloadO_n (i := 0) dL_law_261 rfl rfl ?_
  refine g_iload_n (i := 3) dL_law_262 rfl rfl ?_
  refine g_iconst dL_law_263 ?_
  refine g_iadd dL_law_264 ?_
  refine g_sld dL_law_265 ?_ hL (by omega) (by omega)
  refine g_aloadO_n (i := 0) dL_law_266 rfl rfl ?_
  refine g_iload_n (i := 3) dL_law_267 rfl rfl ?_
  refine g_iconst dL_law_268 ?_
  refine g_iadd dL_law_269 ?_
  refine g_sld dL_law_270 ?_ hL (by omega) (by omega)
  refine l_callVi (k_X8_distance c1 n wd N S mm md T hT1 (sx xs (i + 1)) (sx xs (i + 2)) (sx xs (i + 3)) (sx_r _ _) (sx_r _ _) (sx_r _ _)) dL_law_271 lkL_36 im_X8_distance rfl (by decide) rfl rfl rfl rfl rfl rfl rfl (fun z2 c2 hz2 => ?_)
  obtain ⟨e2, hT2, hF2⟩ := hz2
  have hC2 := hC1.fr (fun k h1 => hF2 k (by omega))
  rw [e1, e2]
  exact g_same 804 dL_law_274 (by decide) (hJ _ ⟨_, _, _, _, _, _, _, hC2, hT2, hK⟩)
set_option maxHeartbeats 4000000 in
set_option maxRecDepth 100000 in
theorem o_near {nm : String} {b L : Nat} {xs : Nat → Int32} (hL : L ≤ 2560) (i : Int) (i0 : 0 ≤ i) (i5 : i + 5 ≤ (L : Int)) (c : qC) (hI : Iv c) (hJ : ∀ c', Iv c' → qG (YL nm b L xs) wL 804 (lo4 b i) [] c') : qG (YL nm b L xs) wL 279 (lo4 b i) [] c := by
  obtain ⟨n, wd, N, S, mm, md, T, hC, hT, hK⟩ := hI
  refine g_aload_n (i := 1) dL_law_279 rfl rfl ?_
  refine g_aloadO_n (i := 0) dL_law_280 rfl rfl ?_
  refine g_iload_n (i := 3) dL_law_281 rfl rfl ?_
  refine g_iconst dL_law_282 ?_
  refine g_iadd dL_law_283 ?_
  refine g_sld dL_law_284 ?_ hL (by omega) (by omega)
  refine g_aloadO_n (i := 0) dL_law_285 rfl rfl ?_
  refine g_iload_n (i := 3) dL_law_286 rfl rfl ?_
  refine g_iconst dL_law_287 ?_
  refine g_iadd dL_law_288 ?_
  refine g_sld dL_law_289 ?_ hL (by omega) (by omega)
  refine g_aloadO_n (i := 0) dL_law_290 rfl rfl ?_
  refine g_iload_n (i := 3) dL_law_291 rfl rfl ?_
  refine g_iconst dL_law_292 ?_
  refine g_iadd dL_law_293 ?_
  refine g_sld dL_law_294 ?_ hL (by omega) (by omega)
  refine l_callVi (k_X7_near c n wd N S mm md T hC (sx xs (i + 1)) (sx xs (i + 2)) (sx xs (i + 3)) (sx_r _ _) (sx_r _ _) (sx_r _ _)) dL_law_295 lkL_37 im_X7_near rfl (by decide) rfl rfl rfl rfl rfl rfl rfl (fun z1 c1 hz1 => ?_)
  obtain ⟨e1, hC1, hF1⟩ := hz1
  have hT1 := hT.fr (fun k h1 _ => hF1 k h1)
  refine g_aload_n (i := 2) dL_law_298 rfl rfl ?_
  refine g_aloadO_n (i := 0) dL_law_299 rfl rfl ?_
  refine g_iload_n (i := 3) dL_law_300 rfl rfl ?_
  refine g_iconst dL_law_301 ?_
  refine g_iadd dL_law_302 ?_
  refine g_sld dL_law_303 ?_ hL (by omega) (by omega)
  refine g_aloadO_n (i := 0) dL_law_304 rfl rfl ?_
  refine g_iload_n (i := 3) dL_law_305 rfl rfl ?_
  refine g_iconst dL_law_306 ?_
  refine g_iadd dL_law_307 ?_
  refine g_sld dL_law_308 ?_ hL (by omega) (by omega)
  refine g_aloadO_n (i := 0) dL_law_309 rfl rfl ?_
  refine g_iload_n (i := 3) dL_law_310 rfl rfl ?_
  refine g_iconst dL_law_311 ?_
  refine g_iadd dL_law_312 ?_
  refine g_sld dL_law_313 ?_ hL (by omega) (by omega)
  refine l_callVi (k_X8_near c1 n wd N S mm md T hT1 (sx xs (i + 1)) (sx xs (i + 2)) (sx xs (i + 3)) (sx_r _ _) (sx_r _ _) (sx_r _ _)) dL_law_314 lkL_40 im_X8_near rfl (by decide) rfl rfl rfl rfl rfl rfl rfl (fun z2 c2 hz2 => ?_)
  obtain ⟨e2, hT2, hF2⟩ := hz2
  have hC2 := hC1.fr (fun k h1 => hF2 k (by omega))
  rw [e1, e2]
  exact g_same 804 dL_law_317 (by decide) (hJ _ ⟨_, _, _, _, _, _, _, hC2, hT2, hK⟩)
set_option maxHeartbeats 4000000 in
set_option maxRecDepth 100000 in
theorem o_means {nm : String} {b L : Nat} {xs : Nat → Int32} (hL : L ≤ 2560) (i : Int) (i0 : 0 ≤ i) (i5 : i + 5 ≤ (L : Int)) (c : qC) (hI : Iv c) (hJ : ∀ c', Iv c' → qG (YL nm b L xs) wL 804 (lo4 b i) [] c') : qG (YL nm b L xs) wL 322 (lo4 b i) [] c := by
  obtain ⟨n, wd, N, S, mm, md, T, hC, hT, hK⟩ := hI
  refine g_aload_n (i := 1) dL_law_322 rfl rfl ?_
  refine g_aloadO_n (i := 0) dL_law_323 rfl rfl ?_
  refine g_iload_n (i := 3) dL_law_324 rfl rfl ?_
  refine g_iconst dL_law_325 ?_
  refine g_iadd dL_law_326 ?_
  refine g_sld dL_law_327 ?_ hL (by omega) (by omega)
  refine g_aloadO_n (i := 0) dL_law_328 rfl rfl ?_
  refine g_iload_n (i := 3) dL_law_329 rfl rfl ?_
  refine g_iconst dL_law_330 ?_
  refine g_iadd dL_law_331 ?_
  refine g_sld dL_law_332 ?_ hL (by omega) (by omega)
  refine l_callVi (k_X7_means c n wd N S mm md T hC (sx xs (i + 1)) (sx xs (i + 2)) (sx_r _ _) (sx_r _ _)) dL_law_333 lkL_41 im_X7_means rfl (by decide) rfl rfl rfl rfl rfl rfl rfl (fun z1 c1 hz1 => ?_)
  obtain ⟨e1, hC1, hF1⟩ := hz1
  have hT1 := hT.fr (fun k h1 _ => hF1 k h1)
  refine g_aload_n (i := 2) dL_law_336 rfl rfl ?_
  refine g_aloadO_n (i := 0) dL_law_337 rfl rfl ?_
  refine g_iload_n (i := 3) dL_law_338 rfl rfl ?_
  refine g_iconst dL_law_339 ?_
  refine g_iadd dL_law_340 ?_
  refine g_sld dL_law_341 ?_ hL (by omega) (by omega)
  refine g_aloadO_n (i := 0) dL_law_342 rfl rfl ?_
  refine g_iload_n (i := 3) dL_law_343 rfl rfl ?_
  refine g_iconst dL_law_344 ?_
  refine g_iadd dL_law_345 ?_
  refine g_sld dL_law_346 ?_ hL (by omega) (by omega)
  refine l_callVi (k_X8_means c1 n wd N S mm md T hT1 (sx xs (i + 1)) (sx xs (i + 2)) (sx_r _ _) (sx_r _ _)) dL_law_347 lkL_45 im_X8_means rfl (by decide) rfl rfl rfl rfl rfl rfl rfl (fun z2 c2 hz2 => ?_)
  obtain ⟨e2, hT2, hF2⟩ := hz2
  have hC2 := hC1.fr (fun k h1 => hF2 k (by omega))
  rw [e1, e2]
  exact g_same 804 dL_law_350 (by decide) (hJ _ ⟨_, _, _, _, _, _, _, hC2, hT2, hK⟩)
set_option maxHeartbeats 4000000 in
set_option maxRecDepth 100000 in
theorem o_medoids {nm : String} {b L : Nat} {xs : Nat → Int32} (hL : L ≤ 2560) (i : Int) (i0 : 0 ≤ i) (i5 : i + 5 ≤ (L : Int)) (c : qC) (hI : Iv c) (hJ : ∀ c', Iv c' → qG (YL nm b L xs) wL 804 (lo4 b i) [] c') : qG (YL nm b L xs) wL 355 (lo4 b i) [] c := by
  obtain ⟨n, wd, N, S, mm, md, T, hC, hT, hK⟩ := hI
  refine g_aload_n (i := 1) dL_law_355 rfl rfl ?_
  refine g_aloadO_n (i := 0) dL_law_356 rfl rfl ?_
  refine g_iload_n (i := 3) dL_law_357 rfl rfl ?_
  refine g_iconst dL_law_358 ?_
  refine g_iadd dL_law_359 ?_
  refine g_sld dL_law_360 ?_ hL (by omega) (by omega)
  refine g_aloadO_n (i := 0) dL_law_361 rfl rfl ?_
  refine g_iload_n (i := 3) dL_law_362 rfl rfl ?_
  refine g_iconst dL_law_363 ?_
  refine g_iadd dL_law_364 ?_
  refine g_sld dL_law_365 ?_ hL (by omega) (by omega)
  refine g_aloadO_n (i := 0) dL_law_366 rfl rfl ?_
  refine g_iload_n (i := 3) dL_law_367 rfl rfl ?_
  refine g_iconst dL_law_368 ?_
  refine g_iadd dL_law_369 ?_
  refine g_sld dL_law_370 ?_ hL (by omega) (by omega)
  refine l_callVi (k_X7_medoids c n wd N S mm md T hC (sx xs (i + 1)) (sx xs (i + 2)) (sx xs (i + 3)) (sx_r _ _) (sx_r _ _) (sx_r _ _)) dL_law_371 lkL_46 im_X7_medoids rfl (by decide) rfl rfl rfl rfl rfl rfl rfl (fun z1 c1 hz1 => ?_)
  obtain ⟨e1, hC1, hF1⟩ := hz1
  have hT1 := hT.fr (fun k h1 _ => hF1 k h1)
  refine g_aload_n (i := 2) dL_law_374 rfl rfl ?_
  refine g_aloadO_n (i := 0) dL_law_375 rfl rfl ?_
  refine g_iload_n (i := 3) dL_law_376 rfl rfl ?_
  refine g_iconst dL_law_377 ?_
  refine g_iadd dL_law_378 ?_
  refine g_sld dL_law_379 ?_ hL (by omega) (by omega)
  refine g_aloadO_n (i := 0) dL_law_380 rfl rfl ?_
  refine g_iload_n (i := 3) dL_law_381 rfl rfl ?_
  refine g_iconst dL_law_382 ?_
  refine g_iadd dL_law_383 ?_
  refine g_sld dL_law_384 ?_ hL (by omega) (by omega)
  refine g_aloadO_n (i := 0) dL_law_385 rfl rfl ?_
  refine g_iload_n (i := 3) dL_law_386 rfl rfl ?_
  refine g_iconst dL_law_387 ?_
  refine g_iadd dL_law_388 ?_
  refine g_sld dL_law_389 ?_ hL (by omega) (by omega)
  refine l_callVi (k_X8_medoids c1 n wd N S mm md T hT1 (sx xs (i + 1)) (sx xs (i + 2)) (sx xs (i + 3)) (sx_r _ _) (sx_r _ _) (sx_r _ _)) dL_law_390 lkL_49 im_X8_medoids rfl (by decide) rfl rfl rfl rfl rfl rfl rfl (fun z2 c2 hz2 => ?_)
  obtain ⟨e2, hT2, hF2⟩ := hz2
  have hC2 := hC1.fr (fun k h1 => hF2 k (by omega))
  rw [e1, e2]
  exact g_same 804 dL_law_393 (by decide) (hJ _ ⟨_, _, _, _, _, _, _, hC2, hT2, hK⟩)
set_option maxHeartbeats 4000000 in
set_option maxRecDepth 100000 in
theorem o_medoid {nm : String} {b L : Nat} {xs : Nat → Int32} (hL : L ≤ 2560) (i : Int) (i0 : 0 ≤ i) (i5 : i + 5 ≤ (L : Int)) (c : qC) (hI : Iv c) (hJ : ∀ c', Iv c' → qG (YL nm b L xs) wL 804 (lo4 b i) [] c') : qG (YL nm b L xs) wL 398 (lo4 b i) [] c := by
  obtain ⟨n, wd, N, S, mm, md, T, hC, hT, hK⟩ := hI
  refine g_aload_n (i := 1) dL_law_398 rfl rfl ?_
  refine g_aloadO_n (i := 0) dL_law_399 rfl rfl ?_
  refine g_iload_n (i := 3) dL_law_400 rfl rfl ?_
  refine g_iconst dL_law_401 ?_
  refine g_iadd dL_law_402 ?_
  refine g_sld dL_law_403 ?_ hL (by omega) (by omega)
  refine l_callVi (k_X7_medoid c n wd N S mm md T hC (sx xs (i + 1)) (sx_r _ _)) dL_law_404 lkL_50 im_X7_medoid rfl (by decide) rfl rfl rfl rfl rfl rfl rfl (fun z1 c1 hz1 => ?_)
  obtain ⟨e1, hC1, hF1⟩ := hz1
  have hT1 := hT.fr (fun k h1 _ => hF1 k h1)
  refine g_aload_n (i := 2) dL_law_407 rfl rfl ?_
  refine g_aloadO_n (i := 0) dL_law_408 rfl rfl ?_
  refine g_iload_n (i := 3) dL_law_409 rfl rfl ?_
  refine g_iconst dL_law_410 ?_
  refine g_iadd dL_law_411 ?_
  refine g_sld dL_law_412 ?_ hL (by omega) (by omega)
  refine l_callVi (k_X8_medoid c1 n wd N S mm md T hT1 (sx xs (i + 1)) (sx_r _ _)) dL_law_413 lkL_53 im_X8_medoid rfl (by decide) rfl rfl rfl rfl rfl rfl rfl (fun z2 c2 hz2 => ?_)
  obtain ⟨e2, hT2, hF2⟩ := hz2
  have hC2 := hC1.fr (fun k h1 => hF2 k (by omega))
  rw [e1, e2]
  exact g_same 804 dL_law_416 (by decide) (hJ _ ⟨_, _, _, _, _, _, _, hC2, hT2, hK⟩)
set_option maxHeartbeats 4000000 in
set_option maxRecDepth 100000 in
theorem o_density {nm : String} {b L : Nat} {xs : Nat → Int32} (hL : L ≤ 2560) (i : Int) (i0 : 0 ≤ i) (i5 : i + 5 ≤ (L : Int)) (c : qC) (hI : Iv c) (hJ : ∀ c', Iv c' → qG (YL nm b L xs) wL 804 (lo4 b i) [] c') : qG (YL nm b L xs) wL 421 (lo4 b i) [] c := by
  obtain ⟨n, wd, N, S, mm, md, T, hC, hT, hK⟩ := hI
  refine g_aload_n (i := 1) dL_law_421 rfl rfl ?_
  refine g_aloadO_n (i := 0) dL_law_422 rfl rfl ?_
  refine g_iload_n (i := 3) dL_law_423 rfl rfl ?_
  refine g_iconst dL_law_424 ?_
  refine g_iadd dL_law_425 ?_
  refine g_sld dL_law_426 ?_ hL (by omega) (by omega)
  refine g_aloadO_n (i := 0) dL_law_427 rfl rfl ?_
  refine g_iload_n (i := 3) dL_law_428 rfl rfl ?_
  refine g_iconst dL_law_429 ?_
  refine g_iadd dL_law_430 ?_
  refine g_sld dL_law_431 ?_ hL (by omega) (by omega)
  refine g_aloadO_n (i := 0) dL_law_432 rfl rfl ?_
  refine g_iload_n (i := 3) dL_law_433 rfl rfl ?_
  refine g_iconst dL_law_434 ?_
  refine g_iadd dL_law_435 ?_
  refine g_sld dL_law_436 ?_ hL (by omega) (by omega)
  refine g_aloadO_n (i := 0) dL_law_437 rfl rfl ?_
  refine g_iload_n (i := 3) dL_law_438 rfl rfl ?_
  refine g_iconst dL_law_439 ?_
  refine g_iadd dL_law_440 ?_
  refine g_sld dL_law_441 ?_ hL (by omega) (by omega)
  refine l_callVi (k_X7_density c n wd N S mm md T hC (sx xs (i + 1)) (sx xs (i + 2)) (sx xs (i + 3)) (sx xs (i + 4)) (sx_r _ _) (sx_r _ _) (sx_r _ _) (sx_r _ _)) dL_law_442 lkL_54 im_X7_density rfl (by decide) rfl rfl rfl rfl rfl rfl rfl (fun z1 c1 hz1 => ?_)
  obtain ⟨e1, hC1, hF1⟩ := hz1
  have hT1 := hT.fr (fun k h1 _ => hF1 k h1)
  refine g_aload_n (i := 2) dL_law_445 rfl rfl ?_
  refine g_aloadO_n (i := 0) dL_law_446 rfl rfl ?_
  refine g_iload_n (i := 3) dL_law_447 rfl rfl ?_
  refine g_iconst dL_law_448 ?_
  refine g_iadd dL_law_449 ?_
  refine g_sld dL_law_450 ?_ hL (by omega) (by omega)
  refine g_aloadO_n (i := 0) dL_law_451 rfl rfl ?_
  refine g_iload_n (i := 3) dL_law_452 rfl rfl ?_
  refine g_iconst dL_law_453 ?_
  refine g_iadd dL_law_454 ?_
  refine g_sld dL_law_455 ?_ hL (by omega) (by omega)
  refine g_aloadO_n (i := 0) dL_law_456 rfl rfl ?_
  refine g_iload_n (i := 3) dL_law_457 rfl rfl ?_
  refine g_iconst dL_law_458 ?_
  refine g_iadd dL_law_459 ?_
  refine g_sld dL_law_460 ?_ hL (by omega) (by omega)
  refine g_aloadO_n (i := 0) dL_law_461 rfl rfl ?_
  refine g_iload_n (i := 3) dL_law_462 rfl rfl ?_
  refine g_iconst dL_law_463 ?_
  refine g_iadd dL_law_464 ?_
  refine g_sld dL_law_465 ?_ hL (by omega) (by omega)
  refine l_callVi (k_X8_density c1 n wd N S mm md T hT1 (sx xs (i + 1)) (sx xs (i + 2)) (sx xs (i + 3)) (sx xs (i + 4)) (sx_r _ _) (sx_r _ _) (sx_r _ _) (sx_r _ _)) dL_law_466 lkL_57 im_X8_density rfl (by decide) rfl rfl rfl rfl rfl rfl rfl (fun z2 c2 hz2 => ?_)
  obtain ⟨e2, hT2, hF2⟩ := hz2
  have hC2 := hC1.fr (fun k h1 => hF2 k (by omega))
  rw [e1, e2]
  exact g_same 804 dL_law_469 (by decide) (hJ _ ⟨_, _, _, _, _, _, _, hC2, hT2, hK⟩)
set_option maxHeartbeats 4000000 in
set_option maxRecDepth 100000 in
theorem o_tree {nm : String} {b L : Nat} {xs : Nat → Int32} (hL : L ≤ 2560) (i : Int) (i0 : 0 ≤ i) (i5 : i + 5 ≤ (L : Int)) (c : qC) (hI : Iv c) (hJ : ∀ c', Iv c' → qG (YL nm b L xs) wL 804 (lo4 b i) [] c') : qG (YL nm b L xs) wL 474 (lo4 b i) [] c := by
  obtain ⟨n, wd, N, S, mm, md, T, hC, hT, hK⟩ := hI
  refine g_aload_n (i := 1) dL_law_474 rfl rfl ?_
  refine g_aloadO_n (i := 0) dL_law_475 rfl rfl ?_
  refine g_iload_n (i := 3) dL_law_476 rfl rfl ?_
  refine g_iconst dL_law_477 ?_
  refine g_iadd dL_law_478 ?_
  refine g_sld dL_law_479 ?_ hL (by omega) (by omega)
  refine g_aloadO_n (i := 0) dL_law_480 rfl rfl ?_
  refine g_iload_n (i := 3) dL_law_481 rfl rfl ?_
  refine g_iconst dL_law_482 ?_
  refine g_iadd dL_law_483 ?_
  refine g_sld dL_law_484 ?_ hL (by omega) (by omega)
  refine l_callVi (k_X7_tree c n wd N S mm md T hC (sx xs (i + 1)) (sx xs (i + 2)) (sx_r _ _) (sx_r _ _)) dL_law_485 lkL_58 im_X7_tree rfl (by decide) rfl rfl rfl rfl rfl rfl rfl (fun z1 c1 hz1 => ?_)
  obtain ⟨e1, hC1, hF1⟩ := hz1
  have hT1 := hT.fr (fun k h1 _ => hF1 k h1)
  refine g_aload_n (i := 2) dL_law_488 rfl rfl ?_
  refine g_aloadO_n (i := 0) dL_law_489 rfl rfl ?_
  refine g_iload_n (i := 3) dL_law_490 rfl rfl ?_
  refine g_iconst dL_law_491 ?_
  refine g_iadd dL_law_492 ?_
  refine g_sld dL_law_493 ?_ hL (by omega) (by omega)
  refine g_aloadO_n (i := 0) dL_law_494 rfl rfl ?_
  refine g_iload_n (i := 3) dL_law_495 rfl rfl ?_
  refine g_iconst dL_law_496 ?_
  refine g_iadd dL_law_497 ?_
  refine g_sld dL_law_498 ?_ hL (by omega) (by omega)
  refine l_callVi (k_X8_tree c1 n wd N S mm md T hT1 (sx xs (i + 1)) (sx xs (i + 2)) (sx_r _ _) (sx_r _ _)) dL_law_499 lkL_61 im_X8_tree rfl (by decide) rfl rfl rfl rfl rfl rfl rfl (fun z2 c2 hz2 => ?_)
  obtain ⟨e2, hT2, hF2⟩ := hz2
  have hC2 := hC1.fr (fun k h1 => hF2 k (by omega))
  rw [e1, e2]
  exact g_same 804 dL_law_502 (by decide) (hJ _ ⟨_, _, _, _, _, _, _, hC2, hT2, (t_tre_ok hC.1.2.2.1.1 hK)⟩)
set_option maxHeartbeats 4000000 in
set_option maxRecDepth 100000 in
theorem o_join {nm : String} {b L : Nat} {xs : Nat → Int32} (hL : L ≤ 2560) (i : Int) (i0 : 0 ≤ i) (i5 : i + 5 ≤ (L : Int)) (c : qC) (hI : Iv c) (hJ : ∀ c', Iv c' → qG (YL nm b L xs) wL 804 (lo4 b i) [] c') : qG (YL nm b L xs) wL 507 (lo4 b i) [] c := by
  obtain ⟨n, wd, N, S, mm, md, T, hC, hT, hK⟩ := hI
  refine g_aload_n (i := 1) dL_law_507 rfl rfl ?_
  refine g_aloadO_n (i := 0) dL_law_508 rfl rfl ?_
  refine g_iload_n (i := 3) dL_law_509 rfl rfl ?_
  refine g_iconst dL_law_510 ?_
  refine g_iadd dL_law_511 ?_
  refine g_sld dL_law_512 ?_ hL (by omega) (by omega)
  refine g_aloadO_n (i := 0) dL_law_513 rfl rfl ?_
  refine g_iload_n (i := 3) dL_law_514 rfl rfl ?_
  refine g_iconst dL_law_515 ?_
  refine g_iadd dL_law_516 ?_
  refine g_sld dL_law_517 ?_ hL (by omega) (by omega)
  refine l_callVj (k_X7_join c n wd N S mm md T hC (sx xs (i + 1)) (sx xs (i + 2)) (sx_r _ _) (sx_r _ _)) dL_law_518 lkL_62 im_X7_join rfl (by decide) rfl rfl rfl rfl rfl rfl rfl (fun z1 c1 hz1 => ?_)
  obtain ⟨e1, hC1, hF1⟩ := hz1
  have hT1 := hT.fr (fun k h1 _ => hF1 k h1)
  refine g_aload_n (i := 2) dL_law_521 rfl rfl ?_
  refine g_aloadO_n (i := 0) dL_law_522 rfl rfl ?_
  refine g_iload_n (i := 3) dL_law_523 rfl rfl ?_
  refine g_iconst dL_law_524 ?_
  refine g_iadd dL_law_525 ?_
  refine g_sld dL_law_526 ?_ hL (by omega) (by omega)
  refine g_aloadO_n (i := 0) dL_law_527 rfl rfl ?_
  refine g_iload_n (i := 3) dL_law_528 rfl rfl ?_
  refine g_iconst dL_law_529 ?_
  refine g_iadd dL_law_530 ?_
  refine g_sld dL_law_531 ?_ hL (by omega) (by omega)
  refine l_callVj (k_X8_join c1 n wd N S mm md T hT1 (sx xs (i + 1)) (sx xs (i + 2)) (sx_r _ _) (sx_r _ _)) dL_law_532 lkL_66 im_X8_join rfl (by decide) rfl rfl rfl rfl rfl rfl rfl (fun z2 c2 hz2 => ?_)
  obtain ⟨e2, hT2, hF2⟩ := hz2
  have hC2 := hC1.fr (fun k h1 => hF2 k (by omega))
  rw [e1, e2]
  exact g_sameJ 804 dL_law_535 dL_law_536 (by decide) (hJ _ ⟨_, _, _, _, _, _, _, hC2, hT2, hK⟩)
set_option maxHeartbeats 4000000 in
set_option maxRecDepth 100000 in
theorem o_cut {nm : String} {b L : Nat} {xs : Nat → Int32} (hL : L ≤ 2560) (i : Int) (i0 : 0 ≤ i) (i5 : i + 5 ≤ (L : Int)) (c : qC) (hI : Iv c) (hJ : ∀ c', Iv c' → qG (YL nm b L xs) wL 804 (lo4 b i) [] c') : qG (YL nm b L xs) wL 541 (lo4 b i) [] c := by
  obtain ⟨n, wd, N, S, mm, md, T, hC, hT, hK⟩ := hI
  refine g_aload_n (i := 1) dL_law_541 rfl rfl ?_
  refine g_aloadO_n (i := 0) dL_law_542 rfl rfl ?_
  refine g_iload_n (i := 3) dL_law_543 rfl rfl ?_
  refine g_iconst dL_law_544 ?_
  refine g_iadd dL_law_545 ?_
  refine g_sld dL_law_546 ?_ hL (by omega) (by omega)
  refine g_aloadO_n (i := 0) dL_law_547 rfl rfl ?_
  refine g_iload_n (i := 3) dL_law_548 rfl rfl ?_
  refine g_iconst dL_law_549 ?_
  refine g_iadd dL_law_550 ?_
  refine g_sld dL_law_551 ?_ hL (by omega) (by omega)
  refine l_callVi (k_X7_cut c n wd N S mm md T hC hK (sx xs (i + 1)) (sx xs (i + 2)) (sx_r _ _) (sx_r _ _)) dL_law_552 lkL_67 im_X7_cut rfl (by decide) rfl rfl rfl rfl rfl rfl rfl (fun z1 c1 hz1 => ?_)
  obtain ⟨e1, hC1, hF1⟩ := hz1
  have hT1 := hT.fr (fun k h1 _ => hF1 k h1)
  refine g_aload_n (i := 2) dL_law_555 rfl rfl ?_
  refine g_aloadO_n (i := 0) dL_law_556 rfl rfl ?_
  refine g_iload_n (i := 3) dL_law_557 rfl rfl ?_
  refine g_iconst dL_law_558 ?_
  refine g_iadd dL_law_559 ?_
  refine g_sld dL_law_560 ?_ hL (by omega) (by omega)
  refine g_aloadO_n (i := 0) dL_law_561 rfl rfl ?_
  refine g_iload_n (i := 3) dL_law_562 rfl rfl ?_
  refine g_iconst dL_law_563 ?_
  refine g_iadd dL_law_564 ?_
  refine g_sld dL_law_565 ?_ hL (by omega) (by omega)
  refine l_callVi (k_X8_cut c1 n wd N S mm md T hT1 hK (sx xs (i + 1)) (sx xs (i + 2)) (sx_r _ _) (sx_r _ _)) dL_law_566 lkL_70 im_X8_cut rfl (by decide) rfl rfl rfl rfl rfl rfl rfl (fun z2 c2 hz2 => ?_)
  obtain ⟨e2, hT2, hF2⟩ := hz2
  have hC2 := hC1.fr (fun k h1 => hF2 k (by omega))
  rw [e1, e2]
  exact g_same 804 dL_law_569 (by decide) (hJ _ ⟨_, _, _, _, _, _, _, hC2, hT2, hK⟩)
set_option maxHeartbeats 4000000 in
set_option maxRecDepth 100000 in
theorem o_of {nm : String} {b L : Nat} {xs : Nat → Int32} (hL : L ≤ 2560) (i : Int) (i0 : 0 ≤ i) (i5 : i + 5 ≤ (L : Int)) (c : qC) (hI : Iv c) (hJ : ∀ c', Iv c' → qG (YL nm b L xs) wL 804 (lo4 b i) [] c') : qG (YL nm b L xs) wL 574 (lo4 b i) [] c := by
  obtain ⟨n, wd, N, S, mm, md, T, hC, hT, hK⟩ := hI
  refine g_aload_n (i := 1) dL_law_574 rfl rfl ?_
  refine g_aloadO_n (i := 0) dL_law_575 rfl rfl ?_
  refine g_iload_n (i := 3) dL_law_576 rfl rfl ?_
  refine g_iconst dL_law_577 ?_
  refine g_iadd dL_law_578 ?_
  refine g_sld dL_law_579 ?_ hL (by omega) (by omega)
  refine g_aloadO_n (i := 0) dL_law_580 rfl rfl ?_
  refine g_iload_n (i := 3) dL_law_581 rfl rfl ?_
  refine g_iconst dL_law_582 ?_
  refine g_iadd dL_law_583 ?_
  refine g_sld dL_law_584 ?_ hL (by omega) (by omega)
  refine l_callVi (k_X7_of c n wd N S mm md T hC (sx xs (i + 1)) (sx xs (i + 2)) (sx_r _ _) (sx_r _ _)) dL_law_585 lkL_71 im_X7_of rfl (by decide) rfl rfl rfl rfl rfl rfl rfl (fun z1 c1 hz1 => ?_)
  obtain ⟨e1, hC1, hF1⟩ := hz1
  have hT1 := hT.fr (fun k h1 _ => hF1 k h1)
  refine g_aload_n (i := 2) dL_law_588 rfl rfl ?_
  refine g_aloadO_n (i := 0) dL_law_589 rfl rfl ?_
  refine g_iload_n (i := 3) dL_law_590 rfl rfl ?_
  refine g_iconst dL_law_591 ?_
  refine g_iadd dL_law_592 ?_
  refine g_sld dL_law_593 ?_ hL (by omega) (by omega)
  refine g_aloadO_n (i := 0) dL_law_594 rfl rfl ?_
  refine g_iload_n (i := 3) dL_law_595 rfl rfl ?_
  refine g_iconst dL_law_596 ?_
  refine g_iadd dL_law_597 ?_
  refine g_sld dL_law_598 ?_ hL (by omega) (by omega)
  refine l_callVi (k_X8_of c1 n wd N S mm md T hT1 (sx xs (i + 1)) (sx xs (i + 2)) (sx_r _ _) (sx_r _ _)) dL_law_599 lkL_74 im_X8_of rfl (by decide) rfl rfl rfl rfl rfl rfl rfl (fun z2 c2 hz2 => ?_)
  obtain ⟨e2, hT2, hF2⟩ := hz2
  have hC2 := hC1.fr (fun k h1 => hF2 k (by omega))
  rw [e1, e2]
  exact g_same 804 dL_law_602 (by decide) (hJ _ ⟨_, _, _, _, _, _, _, hC2, hT2, hK⟩)
set_option maxHeartbeats 4000000 in
set_option maxRecDepth 100000 in
theorem o_size {nm : String} {b L : Nat} {xs : Nat → Int32} (hL : L ≤ 2560) (i : Int) (i0 : 0 ≤ i) (i5 : i + 5 ≤ (L : Int)) (c : qC) (hI : Iv c) (hJ : ∀ c', Iv c' → qG (YL nm b L xs) wL 804 (lo4 b i) [] c') : qG (YL nm b L xs) wL 607 (lo4 b i) [] c := by
  obtain ⟨n, wd, N, S, mm, md, T, hC, hT, hK⟩ := hI
  refine g_aload_n (i := 1) dL_law_607 rfl rfl ?_
  refine g_aloadO_n (i := 0) dL_law_608 rfl rfl ?_
  refine g_iload_n (i := 3) dL_law_609 rfl rfl ?_
  refine g_iconst dL_law_610 ?_
  refine g_iadd dL_law_611 ?_
  refine g_sld dL_law_612 ?_ hL (by omega) (by omega)
  refine g_aloadO_n (i := 0) dL_law_613 rfl rfl ?_
  refine g_iload_n (i := 3) dL_law_614 rfl rfl ?_
  refine g_iconst dL_law_615 ?_
  refine g_iadd dL_law_616 ?_
  refine g_sld dL_law_617 ?_ hL (by omega) (by omega)
  refine l_callVi (k_X7_size c n wd N S mm md T hC (sx xs (i + 1)) (sx xs (i + 2)) (sx_r _ _) (sx_r _ _)) dL_law_618 lkL_75 im_X7_size rfl (by decide) rfl rfl rfl rfl rfl rfl rfl (fun z1 c1 hz1 => ?_)
  obtain ⟨e1, hC1, hF1⟩ := hz1
  have hT1 := hT.fr (fun k h1 _ => hF1 k h1)
  refine g_aload_n (i := 2) dL_law_621 rfl rfl ?_
  refine g_aloadO_n (i := 0) dL_law_622 rfl rfl ?_
  refine g_iload_n (i := 3) dL_law_623 rfl rfl ?_
  refine g_iconst dL_law_624 ?_
  refine g_iadd dL_law_625 ?_
  refine g_sld dL_law_626 ?_ hL (by omega) (by omega)
  refine g_aloadO_n (i := 0) dL_law_627 rfl rfl ?_
  refine g_iload_n (i := 3) dL_law_628 rfl rfl ?_
  refine g_iconst dL_law_629 ?_
  refine g_iadd dL_law_630 ?_
  refine g_sld dL_law_631 ?_ hL (by omega) (by omega)
  refine l_callVi (k_X8_size c1 n wd N S mm md T hT1 (sx xs (i + 1)) (sx xs (i + 2)) (sx_r _ _) (sx_r _ _)) dL_law_632 lkL_78 im_X8_size rfl (by decide) rfl rfl rfl rfl rfl rfl rfl (fun z2 c2 hz2 => ?_)
  obtain ⟨e2, hT2, hF2⟩ := hz2
  have hC2 := hC1.fr (fun k h1 => hF2 k (by omega))
  rw [e1, e2]
  exact g_same 804 dL_law_635 (by decide) (hJ _ ⟨_, _, _, _, _, _, _, hC2, hT2, hK⟩)
set_option maxHeartbeats 4000000 in
set_option maxRecDepth 100000 in
theorem o_mean {nm : String} {b L : Nat} {xs : Nat → Int32} (hL : L ≤ 2560) (i : Int) (i0 : 0 ≤ i) (i5 : i + 5 ≤ (L : Int)) (c : qC) (hI : Iv c) (hJ : ∀ c', Iv c' → qG (YL nm b L xs) wL 804 (lo4 b i) [] c') : qG (YL nm b L xs) wL 640 (lo4 b i) [] c := by
  obtain ⟨n, wd, N, S, mm, md, T, hC, hT, hK⟩ := hI
  refine g_aload_n (i := 1) dL_law_640 rfl rfl ?_
  refine g_aloadO_n (i := 0) dL_law_641 rfl rfl ?_
  refine g_iload_n (i := 3) dL_law_642 rfl rfl ?_
  refine g_iconst dL_law_643 ?_
  refine g_iadd dL_law_644 ?_
  refine g_sld dL_law_645 ?_ hL (by omega) (by omega)
  refine g_aloadO_n (i := 0) dL_law_646 rfl rfl ?_
  refine g_iload_n (i := 3) dL_law_647 rfl rfl ?_
  refine g_iconst dL_law_648 ?_
  refine g_iadd dL_law_649 ?_
  refine g_sld dL_law_650 ?_ hL (by omega) (by omega)
  refine g_aloadO_n (i := 0) dL_law_651 rfl rfl ?_
  refine g_iload_n (i := 3) dL_law_652 rfl rfl ?_
  refine g_iconst dL_law_653 ?_
  refine g_iadd dL_law_654 ?_
  refine g_sld dL_law_655 ?_ hL (by omega) (by omega)
  refine g_aloadO_n (i := 0) dL_law_656 rfl rfl ?_
  refine g_iload_n (i := 3) dL_law_657 rfl rfl ?_
  refine g_iconst dL_law_658 ?_
  refine g_iadd dL_law_659 ?_
  refine g_sld dL_law_660 ?_ hL (by omega) (by omega)
  refine l_callVi (k_X7_mean c n wd N S mm md T hC (sx xs (i + 1)) (sx xs (i + 2)) (sx xs (i + 3)) (sx xs (i + 4)) (sx_r _ _) (sx_r _ _) (sx_r _ _) (sx_r _ _)) dL_law_661 lkL_79 im_X7_mean rfl (by decide) rfl rfl rfl rfl rfl rfl rfl (fun z1 c1 hz1 => ?_)
  obtain ⟨e1, hC1, hF1⟩ := hz1
  have hT1 := hT.fr (fun k h1 _ => hF1 k h1)
  refine g_aload_n (i := 2) dL_law_664 rfl rfl ?_
  refine g_aloadO_n (i := 0) dL_law_665 rfl rfl ?_
  refine g_iload_n (i := 3) dL_law_666 rfl rfl ?_
  refine g_iconst dL_law_667 ?_
  refine g_iadd dL_law_668 ?_
  refine g_sld dL_law_669 ?_ hL (by omega) (by omega)
  refine g_aloadO_n (i := 0) dL_law_670 rfl rfl ?_
  refine g_iload_n (i := 3) dL_law_671 rfl rfl ?_
  refine g_iconst dL_law_672 ?_
  refine g_iadd dL_law_673 ?_
  refine g_sld dL_law_674 ?_ hL (by omega) (by omega)
  refine g_aloadO_n (i := 0) dL_law_675 rfl rfl ?_
  refine g_iload_n (i := 3) dL_law_676 rfl rfl ?_
  refine g_iconst dL_law_677 ?_
  refine g_iadd dL_law_678 ?_
  refine g_sld dL_law_679 ?_ hL (by omega) (by omega)
  refine g_aloadO_n (i := 0) dL_law_680 rfl rfl ?_
  refine g_iload_n (i := 3) dL_law_681 rfl rfl ?_
  refine g_iconst dL_law_682 ?_
  refine g_iadd dL_law_683 ?_
  refine g_sld dL_law_684 ?_ hL (by omega) (by omega)
  refine l_callVi (k_X8_mean c1 n wd N S mm md T hT1 (sx xs (i + 1)) (sx xs (i + 2)) (sx xs (i + 3)) (sx xs (i + 4)) (sx_r _ _) (sx_r _ _) (sx_r _ _) (sx_r _ _)) dL_law_685 lkL_82 im_X8_mean rfl (by decide) rfl rfl rfl rfl rfl rfl rfl (fun z2 c2 hz2 => ?_)
  obtain ⟨e2, hT2, hF2⟩ := hz2
  have hC2 := hC1.fr (fun k h1 => hF2 k (by omega))
  rw [e1, e2]
  exact g_same 804 dL_law_688 (by decide) (hJ _ ⟨_, _, _, _, _, _, _, hC2, hT2, hK⟩)
set_option maxHeartbeats 4000000 in
set_option maxRecDepth 100000 in
theorem o_sum {nm : String} {b L : Nat} {xs : Nat → Int32} (hL : L ≤ 2560) (i : Int) (i0 : 0 ≤ i) (i5 : i + 5 ≤ (L : Int)) (c : qC) (hI : Iv c) (hJ : ∀ c', Iv c' → qG (YL nm b L xs) wL 804 (lo4 b i) [] c') : qG (YL nm b L xs) wL 693 (lo4 b i) [] c := by
  obtain ⟨n, wd, N, S, mm, md, T, hC, hT, hK⟩ := hI
  refine g_aload_n (i := 1) dL_law_693 rfl rfl ?_
  refine g_aloadO_n (i := 0) dL_law_694 rfl rfl ?_
  refine g_iload_n (i := 3) dL_law_695 rfl rfl ?_
  refine g_iconst dL_law_696 ?_
  refine g_iadd dL_law_697 ?_
  refine g_sld dL_law_698 ?_ hL (by omega) (by omega)
  refine g_aloadO_n (i := 0) dL_law_699 rfl rfl ?_
  refine g_iload_n (i := 3) dL_law_700 rfl rfl ?_
  refine g_iconst dL_law_701 ?_
  refine g_iadd dL_law_702 ?_
  refine g_sld dL_law_703 ?_ hL (by omega) (by omega)
  refine l_callVj (k_X7_sum c n wd N S mm md T hC (sx xs (i + 1)) (sx xs (i + 2)) (sx_r _ _) (sx_r _ _)) dL_law_704 lkL_83 im_X7_sum rfl (by decide) rfl rfl rfl rfl rfl rfl rfl (fun z1 c1 hz1 => ?_)
  obtain ⟨e1, hC1, hF1⟩ := hz1
  have hT1 := hT.fr (fun k h1 _ => hF1 k h1)
  refine g_aload_n (i := 2) dL_law_707 rfl rfl ?_
  refine g_aloadO_n (i := 0) dL_law_708 rfl rfl ?_
  refine g_iload_n (i := 3) dL_law_709 rfl rfl ?_
  refine g_iconst dL_law_710 ?_
  refine g_iadd dL_law_711 ?_
  refine g_sld dL_law_712 ?_ hL (by omega) (by omega)
  refine g_aloadO_n (i := 0) dL_law_713 rfl rfl ?_
  refine g_iload_n (i := 3) dL_law_714 rfl rfl ?_
  refine g_iconst dL_law_715 ?_
  refine g_iadd dL_law_716 ?_
  refine g_sld dL_law_717 ?_ hL (by omega) (by omega)
  refine l_callVj (k_X8_sum c1 n wd N S mm md T hT1 (sx xs (i + 1)) (sx xs (i + 2)) (sx_r _ _) (sx_r _ _)) dL_law_718 lkL_86 im_X8_sum rfl (by decide) rfl rfl rfl rfl rfl rfl rfl (fun z2 c2 hz2 => ?_)
  obtain ⟨e2, hT2, hF2⟩ := hz2
  have hC2 := hC1.fr (fun k h1 => hF2 k (by omega))
  rw [e1, e2]
  exact g_sameJ 804 dL_law_721 dL_law_722 (by decide) (hJ _ ⟨_, _, _, _, _, _, _, hC2, hT2, hK⟩)
set_option maxHeartbeats 4000000 in
set_option maxRecDepth 100000 in
theorem o_well {nm : String} {b L : Nat} {xs : Nat → Int32} (hL : L ≤ 2560) (i : Int) (i0 : 0 ≤ i) (i5 : i + 5 ≤ (L : Int)) (c : qC) (hI : Iv c) (hJ : ∀ c', Iv c' → qG (YL nm b L xs) wL 804 (lo4 b i) [] c') : qG (YL nm b L xs) wL 727 (lo4 b i) [] c := by
  obtain ⟨n, wd, N, S, mm, md, T, hC, hT, hK⟩ := hI
  refine g_aload_n (i := 1) dL_law_727 rfl rfl ?_
  refine g_aloadO_n (i := 0) dL_law_728 rfl rfl ?_
  refine g_iload_n (i := 3) dL_law_729 rfl rfl ?_
  refine g_iconst dL_law_730 ?_
  refine g_iadd dL_law_731 ?_
  refine g_sld dL_law_732 ?_ hL (by omega) (by omega)
  refine g_aloadO_n (i := 0) dL_law_733 rfl rfl ?_
  refine g_iload_n (i := 3) dL_law_734 rfl rfl ?_
  refine g_iconst dL_law_735 ?_
  refine g_iadd dL_law_736 ?_
  refine g_sld dL_law_737 ?_ hL (by omega) (by omega)
  refine g_aloadO_n (i := 0) dL_law_738 rfl rfl ?_
  refine g_iload_n (i := 3) dL_law_739 rfl rfl ?_
  refine g_iconst dL_law_740 ?_
  refine g_iadd dL_law_741 ?_
  refine g_sld dL_law_742 ?_ hL (by omega) (by omega)
  refine g_aloadO_n (i := 0) dL_law_743 rfl rfl ?_
  refine g_iload_n (i := 3) dL_law_744 rfl rfl ?_
  refine g_iconst dL_law_745 ?_
  refine g_iadd dL_law_746 ?_
  refine g_sld dL_law_747 ?_ hL (by omega) (by omega)
  refine l_callVj (k_X7_well c n wd N S mm md T hC (sx xs (i + 1)) (sx xs (i + 2)) (sx xs (i + 3)) (sx xs (i + 4)) (sx_r _ _) (sx_r _ _) (sx_r _ _) (sx_r _ _)) dL_law_748 lkL_87 im_X7_well rfl (by decide) rfl rfl rfl rfl rfl rfl rfl (fun z1 c1 hz1 => ?_)
  obtain ⟨e1, hC1, hF1⟩ := hz1
  have hT1 := hT.fr (fun k h1 _ => hF1 k h1)
  refine g_aload_n (i := 2) dL_law_751 rfl rfl ?_
  refine g_aloadO_n (i := 0) dL_law_752 rfl rfl ?_
  refine g_iload_n (i := 3) dL_law_753 rfl rfl ?_
  refine g_iconst dL_law_754 ?_
  refine g_iadd dL_law_755 ?_
  refine g_sld dL_law_756 ?_ hL (by omega) (by omega)
  refine g_aloadO_n (i := 0) dL_law_757 rfl rfl ?_
  refine g_iload_n (i := 3) dL_law_758 rfl rfl ?_
  refine g_iconst dL_law_759 ?_
  refine g_iadd dL_law_760 ?_
  refine g_sld dL_law_761 ?_ hL (by omega) (by omega)
  refine g_aloadO_n (i := 0) dL_law_762 rfl rfl ?_
  refine g_iload_n (i := 3) dL_law_763 rfl rfl ?_
  refine g_iconst dL_law_764 ?_
  refine g_iadd dL_law_765 ?_
  refine g_sld dL_law_766 ?_ hL (by omega) (by omega)
  refine g_aloadO_n (i := 0) dL_law_767 rfl rfl ?_
  refine g_iload_n (i := 3) dL_law_768 rfl rfl ?_
  refine g_iconst dL_law_769 ?_
  refine g_iadd dL_law_770 ?_
  refine g_sld dL_law_771 ?_ hL (by omega) (by omega)
  refine l_callVj (k_X8_well c1 n wd N S mm md T hT1 (sx xs (i + 1)) (sx xs (i + 2)) (sx xs (i + 3)) (sx xs (i + 4)) (sx_r _ _) (sx_r _ _) (sx_r _ _) (sx_r _ _)) dL_law_772 lkL_91 im_X8_well rfl (by decide) rfl rfl rfl rfl rfl rfl rfl (fun z2 c2 hz2 => ?_)
  obtain ⟨e2, hT2, hF2⟩ := hz2
  have hC2 := hC1.fr (fun k h1 => hF2 k (by omega))
  rw [e1, e2]
  exact g_sameJ 804 dL_law_775 dL_law_776 (by decide) (hJ _ ⟨_, _, _, _, _, _, _, hC2, hT2, hK⟩)
set_option maxHeartbeats 4000000 in
set_option maxRecDepth 100000 in
theorem o_agree {nm : String} {b L : Nat} {xs : Nat → Int32} (hL : L ≤ 2560) (i : Int) (i0 : 0 ≤ i) (i5 : i + 5 ≤ (L : Int)) (c : qC) (hI : Iv c) (hJ : ∀ c', Iv c' → qG (YL nm b L xs) wL 804 (lo4 b i) [] c') : qG (YL nm b L xs) wL 781 (lo4 b i) [] c := by
  obtain ⟨n, wd, N, S, mm, md, T, hC, hT, hK⟩ := hI
  refine g_aload_n (i := 1) dL_law_781 rfl rfl ?_
  refine g_aloadO_n (i := 0) dL_law_782 rfl rfl ?_
  refine g_iload_n (i := 3) dL_law_783 rfl rfl ?_
  refine g_iconst dL_law_784 ?_
  refine g_iadd dL_law_785 ?_
  refine g_sld dL_law_786 ?_ hL (by omega) (by omega)
  refine l_callVi (k_X7_agree c n wd N S mm md T hC (sx xs (i + 1)) (sx_r _ _)) dL_law_787 lkL_92 im_X7_agree rfl (by decide) rfl rfl rfl rfl rfl rfl rfl (fun z1 c1 hz1 => ?_)
  obtain ⟨e1, hC1, hF1⟩ := hz1
  have hT1 := hT.fr (fun k h1 _ => hF1 k h1)
  refine g_aload_n (i := 2) dL_law_790 rfl rfl ?_
  refine g_aloadO_n (i := 0) dL_law_791 rfl rfl ?_
  refine g_iload_n (i := 3) dL_law_792 rfl rfl ?_
  refine g_iconst dL_law_793 ?_
  refine g_iadd dL_law_794 ?_
  refine g_sld dL_law_795 ?_ hL (by omega) (by omega)
  refine l_callVi (k_X8_agree c1 n wd N S mm md T hT1 (sx xs (i + 1)) (sx_r _ _)) dL_law_796 lkL_95 im_X8_agree rfl (by decide) rfl rfl rfl rfl rfl rfl rfl (fun z2 c2 hz2 => ?_)
  obtain ⟨e2, hT2, hF2⟩ := hz2
  have hC2 := hC1.fr (fun k h1 => hF2 k (by omega))
  rw [e1, e2]
  exact g_same 804 dL_law_799 (by decide) (hJ _ ⟨_, _, _, _, _, _, _, hC2, hT2, hK⟩)
