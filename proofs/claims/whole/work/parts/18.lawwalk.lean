theorem w_L_law_984 {X : gX} {L : Nat} {xs : Nat → Int32} {x3 : Int32} {σ : sg} {r0 : Int32} {r1 : ((Int32 × sg) ⊕ Int32)} (C : gC X cL_law 4 RL (some .boolean) room_1)  {sb : Nat} (hQ : lawQ X sb L xs r0) (A1 : ∀ b, r1 = .inl b → G X 4 b.2 18 [(0, .ref sb), (1, .ref (Xd X 0)), (2, .ref (Xd X 157)), (3, .int b.1)] []) (B1 : ∀ b, r1 = .inr b → b = r0) (hf : J_L_law_984 L xs x3 σ = some r1) : G X 4 σ 984 [(0, .ref sb), (1, .ref (Xd X 0)), (2, .ref (Xd X 157)), (3, .int x3)] [] := by
  unfold J_L_law_984 at hf
  refine g_iinc C (v := x3 + (6 : Int32)) (lv' := [(3, .int (x3 + (6 : Int32))), (0, .ref sb), (1, .ref (Xd X 0)), (2, .ref (Xd X 157))]) 3 dL_law_984 rfl rfl (by decide) rfl ?_
  refine g_goto C 18 dL_law_987 (by decide) ?_
  refine g_sub [1, 2, 3, 0] rfl ?_
  exact A1 (x3 + (6 : Int32), σ) (Option.some.inj hf).symm
theorem w_L_law_18 {X : gX} {L : Nat} {xs : Nat → Int32} {x3 : Int32} {σ : sg} {r0 : Int32} {r1 : ((Int32 × sg) ⊕ Int32)} (C : gC X cL_law 4 RL (some .boolean) room_1)  {sb : Nat} (hQ : lawQ X sb L xs r0) (A1 : ∀ b, r1 = .inl b → G X 4 b.2 18 [(0, .ref sb), (1, .ref (Xd X 0)), (2, .ref (Xd X 157)), (3, .int b.1)] []) (B1 : ∀ b, r1 = .inr b → b = r0) (hf : B_L_law_18 L xs x3 σ = some r1) : G X 4 σ 18 [(0, .ref sb), (1, .ref (Xd X 0)), (2, .ref (Xd X 157)), (3, .int x3)] [] := by
  unfold B_L_law_18 at hf
  refine g_iload_n C 3 dL_law_18 rfl ?_
  refine g_aload_n C 0 dL_law_19 rfl ?_
  refine g_slen C hQ.1 dL_law_20 ?_
  refine g_bipush C (v := 6) dL_law_21 rfl ?_
  refine g_isub C dL_law_23 ?_
  refine g_icmp_gt C 990 hf dL_law_24 (by decide) (fun hf => ?_) (fun hf => ?_)
  · refine g_iconst C (v := 1) dL_law_990 rfl ?_
    exact hQ.2.1 _ _ _ dL_law_991
  · refine g_aload_n C 0 dL_law_27 rfl ?_
    refine g_iload_n C 3 dL_law_28 rfl ?_
    obtain ⟨v29, h1, hf⟩ := g_bind hf
    refine g_sld C hQ.1 h1 dL_law_29 ?_
    clear h1
    refine g_bipush C (v := 31) dL_law_30 rfl ?_
    refine g_iand C dL_law_32 ?_
    refine g_if hf (fun hf e1 => ?_) (fun hf n0 => ?_)
    · refine g_tcase C (0 : Int32) 176 dL_law_33 e1 (by decide) (by decide) rfl (by decide) ?_
      refine g_aload_n C 1 dL_law_176 rfl ?_
      refine g_aload_n C 0 dL_law_177 rfl ?_
      refine g_iload_n C 3 dL_law_178 rfl ?_
      refine g_iconst C (v := 1) dL_law_179 rfl ?_
      refine g_iadd C dL_law_180 ?_
      obtain ⟨v181, h1, hf⟩ := g_bind hf
      refine g_sld C hQ.1 h1 dL_law_181 ?_
      clear h1
      refine g_aload_n C 0 dL_law_182 rfl ?_
      refine g_iload_n C 3 dL_law_183 rfl ?_
      refine g_iconst C (v := 2) dL_law_184 rfl ?_
      refine g_iadd C dL_law_185 ?_
      obtain ⟨v186, h1, hf⟩ := g_bind hf
      refine g_sld C hQ.1 h1 dL_law_186 ?_
      clear h1
      refine g_aload_n C 0 dL_law_187 rfl ?_
      refine g_iload_n C 3 dL_law_188 rfl ?_
      refine g_iconst C (v := 3) dL_law_189 rfl ?_
      refine g_iadd C dL_law_190 ?_
      obtain ⟨v191, h1, hf⟩ := g_bind hf
      refine g_sld C hQ.1 h1 dL_law_191 ?_
      clear h1
      refine g_aload_n C 0 dL_law_192 rfl ?_
      refine g_iload_n C 3 dL_law_193 rfl ?_
      refine g_iconst C (v := 4) dL_law_194 rfl ?_
      refine g_iadd C dL_law_195 ?_
      obtain ⟨v196, h1, hf⟩ := g_bind hf
      refine g_sld C hQ.1 h1 dL_law_196 ?_
      clear h1
      obtain ⟨q197, h1, hf⟩ := g_bind hf
      refine g_callVi C 4 [.int v181, .int v186, .int v191, .int v196] (c_X8_add (Xl X) (gC_I C)  h1) ⟨wml_290, wim_291, wse_292, win_1, wcd_293⟩ (by decide) sh_0 vc_8 rfl hd_X8_add ⟨rfl, rfl⟩ ⟨Nat.le_of_ble_eq_true rfl, Nat.le_of_ble_eq_true rfl⟩ rfl rfl (Nat.le_of_ble_eq_true rfl) dL_law_197 ?_
      clear h1
      refine g_aload_n C 2 dL_law_200 rfl ?_
      refine g_aload_n C 0 dL_law_201 rfl ?_
      refine g_iload_n C 3 dL_law_202 rfl ?_
      refine g_iconst C (v := 1) dL_law_203 rfl ?_
      refine g_iadd C dL_law_204 ?_
      obtain ⟨v205, h1, hf⟩ := g_bind hf
      refine g_sld C hQ.1 h1 dL_law_205 ?_
      clear h1
      refine g_aload_n C 0 dL_law_206 rfl ?_
      refine g_iload_n C 3 dL_law_207 rfl ?_
      refine g_iconst C (v := 2) dL_law_208 rfl ?_
      refine g_iadd C dL_law_209 ?_
      obtain ⟨v210, h1, hf⟩ := g_bind hf
      refine g_sld C hQ.1 h1 dL_law_210 ?_
      clear h1
      refine g_aload_n C 0 dL_law_211 rfl ?_
      refine g_iload_n C 3 dL_law_212 rfl ?_
      refine g_iconst C (v := 3) dL_law_213 rfl ?_
      refine g_iadd C dL_law_214 ?_
      obtain ⟨v215, h1, hf⟩ := g_bind hf
      refine g_sld C hQ.1 h1 dL_law_215 ?_
      clear h1
      refine g_aload_n C 0 dL_law_216 rfl ?_
      refine g_iload_n C 3 dL_law_217 rfl ?_
      refine g_iconst C (v := 4) dL_law_218 rfl ?_
      refine g_iadd C dL_law_219 ?_
      obtain ⟨v220, h1, hf⟩ := g_bind hf
      refine g_sld C hQ.1 h1 dL_law_220 ?_
      clear h1
      obtain ⟨q221, h1, hf⟩ := g_bind hf
      refine g_callVi C 4 [.int v205, .int v210, .int v215, .int v220] (c_X9_add (Xl X) (gC_I C)  h1) ⟨wml_764, wim_765, wse_766, win_10, wcd_767⟩ (by decide) sh_157 vc_9 rfl hd_X9_add ⟨rfl, rfl⟩ ⟨Nat.le_of_ble_eq_true rfl, Nat.le_of_ble_eq_true rfl⟩ rfl rfl (Nat.le_of_ble_eq_true rfl) dL_law_221 ?_
      clear h1
      refine g_icmp_eq C 984 hf dL_law_224 (by decide) (fun hf => ?_) (fun hf => ?_)
      · exact w_L_law_984 C  hQ A1 B1 hf
      · refine g_iconst C (v := 0) dL_law_227 rfl ?_
        have e0 : r0 = (0 : Int32) := (B1 _ (Option.some.inj hf).symm).symm
        exact absurd (hQ.2.2.symm.trans e0) (by decide)
    · refine g_if hf (fun hf e1 => ?_) (fun hf n1 => ?_)
      · refine g_tcase C (1 : Int32) 229 dL_law_33 e1 (by decide) (by decide) rfl (by decide) ?_
        refine g_aload_n C 1 dL_law_229 rfl ?_
        refine g_aload_n C 0 dL_law_230 rfl ?_
        refine g_iload_n C 3 dL_law_231 rfl ?_
        refine g_iconst C (v := 1) dL_law_232 rfl ?_
        refine g_iadd C dL_law_233 ?_
        obtain ⟨v234, h1, hf⟩ := g_bind hf
        refine g_sld C hQ.1 h1 dL_law_234 ?_
        clear h1
        refine g_aload_n C 0 dL_law_235 rfl ?_
        refine g_iload_n C 3 dL_law_236 rfl ?_
        refine g_iconst C (v := 2) dL_law_237 rfl ?_
        refine g_iadd C dL_law_238 ?_
        obtain ⟨v239, h1, hf⟩ := g_bind hf
        refine g_sld C hQ.1 h1 dL_law_239 ?_
        clear h1
        refine g_aload_n C 0 dL_law_240 rfl ?_
        refine g_iload_n C 3 dL_law_241 rfl ?_
        refine g_iconst C (v := 3) dL_law_242 rfl ?_
        refine g_iadd C dL_law_243 ?_
        obtain ⟨v244, h1, hf⟩ := g_bind hf
        refine g_sld C hQ.1 h1 dL_law_244 ?_
        clear h1
        refine g_aload_n C 0 dL_law_245 rfl ?_
        refine g_iload_n C 3 dL_law_246 rfl ?_
        refine g_iconst C (v := 4) dL_law_247 rfl ?_
        refine g_iadd C dL_law_248 ?_
        obtain ⟨v249, h1, hf⟩ := g_bind hf
        refine g_sld C hQ.1 h1 dL_law_249 ?_
        clear h1
        refine g_aload_n C 0 dL_law_250 rfl ?_
        refine g_iload_n C 3 dL_law_251 rfl ?_
        refine g_iconst C (v := 5) dL_law_252 rfl ?_
        refine g_iadd C dL_law_253 ?_
        obtain ⟨v254, h1, hf⟩ := g_bind hf
        refine g_sld C hQ.1 h1 dL_law_254 ?_
        clear h1
        obtain ⟨q255, h1, hf⟩ := g_bind hf
        refine g_callVi C 5 [.int v234, .int v239, .int v244, .int v249, .int v254] (c_X8_set (Xl X) (gC_I C)  h1) ⟨wml_355, wim_356, wse_357, win_1, wcd_358⟩ (by decide) sh_0 vc_8 rfl hd_X8_set ⟨rfl, rfl⟩ ⟨Nat.le_of_ble_eq_true rfl, Nat.le_of_ble_eq_true rfl⟩ rfl rfl (Nat.le_of_ble_eq_true rfl) dL_law_255 ?_
        clear h1
        refine g_aload_n C 2 dL_law_258 rfl ?_
        refine g_aload_n C 0 dL_law_259 rfl ?_
        refine g_iload_n C 3 dL_law_260 rfl ?_
        refine g_iconst C (v := 1) dL_law_261 rfl ?_
        refine g_iadd C dL_law_262 ?_
        obtain ⟨v263, h1, hf⟩ := g_bind hf
        refine g_sld C hQ.1 h1 dL_law_263 ?_
        clear h1
        refine g_aload_n C 0 dL_law_264 rfl ?_
        refine g_iload_n C 3 dL_law_265 rfl ?_
        refine g_iconst C (v := 2) dL_law_266 rfl ?_
        refine g_iadd C dL_law_267 ?_
        obtain ⟨v268, h1, hf⟩ := g_bind hf
        refine g_sld C hQ.1 h1 dL_law_268 ?_
        clear h1
        refine g_aload_n C 0 dL_law_269 rfl ?_
        refine g_iload_n C 3 dL_law_270 rfl ?_
        refine g_iconst C (v := 3) dL_law_271 rfl ?_
        refine g_iadd C dL_law_272 ?_
        obtain ⟨v273, h1, hf⟩ := g_bind hf
        refine g_sld C hQ.1 h1 dL_law_273 ?_
        clear h1
        refine g_aload_n C 0 dL_law_274 rfl ?_
        refine g_iload_n C 3 dL_law_275 rfl ?_
        refine g_iconst C (v := 4) dL_law_276 rfl ?_
        refine g_iadd C dL_law_277 ?_
        obtain ⟨v278, h1, hf⟩ := g_bind hf
        refine g_sld C hQ.1 h1 dL_law_278 ?_
        clear h1
        refine g_aload_n C 0 dL_law_279 rfl ?_
        refine g_iload_n C 3 dL_law_280 rfl ?_
        refine g_iconst C (v := 5) dL_law_281 rfl ?_
        refine g_iadd C dL_law_282 ?_
        obtain ⟨v283, h1, hf⟩ := g_bind hf
        refine g_sld C hQ.1 h1 dL_law_283 ?_
        clear h1
        obtain ⟨q284, h1, hf⟩ := g_bind hf
        refine g_callVi C 5 [.int v263, .int v268, .int v273, .int v278, .int v283] (c_X9_set (Xl X) (gC_I C)  h1) ⟨wml_788, wim_789, wse_790, win_10, wcd_791⟩ (by decide) sh_157 vc_9 rfl hd_X9_set ⟨rfl, rfl⟩ ⟨Nat.le_of_ble_eq_true rfl, Nat.le_of_ble_eq_true rfl⟩ rfl rfl (Nat.le_of_ble_eq_true rfl) dL_law_284 ?_
        clear h1
        refine g_icmp_eq C 984 hf dL_law_287 (by decide) (fun hf => ?_) (fun hf => ?_)
        · exact w_L_law_984 C  hQ A1 B1 hf
        · refine g_iconst C (v := 0) dL_law_290 rfl ?_
          have e0 : r0 = (0 : Int32) := (B1 _ (Option.some.inj hf).symm).symm
          exact absurd (hQ.2.2.symm.trans e0) (by decide)
      · refine g_if hf (fun hf e1 => ?_) (fun hf n2 => ?_)
        · refine g_tcase C (2 : Int32) 292 dL_law_33 e1 (by decide) (by decide) rfl (by decide) ?_
          refine g_aload_n C 1 dL_law_292 rfl ?_
          obtain ⟨q293, h1, hf⟩ := g_bind hf
          refine g_callVi C 0 [] (c_X8_removeLast (Xl X) (gC_I C)  h1) ⟨wml_361, wim_362, wse_363, win_1, wcd_364⟩ (by decide) sh_0 vc_8 rfl hd_X8_removeLast ⟨rfl, rfl⟩ ⟨Nat.le_of_ble_eq_true rfl, Nat.le_of_ble_eq_true rfl⟩ rfl rfl (Nat.le_of_ble_eq_true rfl) dL_law_293 ?_
          clear h1
          refine g_aload_n C 2 dL_law_296 rfl ?_
          obtain ⟨q297, h1, hf⟩ := g_bind hf
          refine g_callVi C 0 [] (c_X9_removeLast (Xl X) (gC_I C)  h1) ⟨wml_796, wim_797, wse_798, win_10, wcd_799⟩ (by decide) sh_157 vc_9 rfl hd_X9_removeLast ⟨rfl, rfl⟩ ⟨Nat.le_of_ble_eq_true rfl, Nat.le_of_ble_eq_true rfl⟩ rfl rfl (Nat.le_of_ble_eq_true rfl) dL_law_297 ?_
          clear h1
          refine g_icmp_eq C 984 hf dL_law_300 (by decide) (fun hf => ?_) (fun hf => ?_)
          · exact w_L_law_984 C  hQ A1 B1 hf
          · refine g_iconst C (v := 0) dL_law_303 rfl ?_
            have e0 : r0 = (0 : Int32) := (B1 _ (Option.some.inj hf).symm).symm
            exact absurd (hQ.2.2.symm.trans e0) (by decide)
        · refine g_if hf (fun hf e1 => ?_) (fun hf n3 => ?_)
          · refine g_tcase C (3 : Int32) 305 dL_law_33 e1 (by decide) (by decide) rfl (by decide) ?_
            refine g_aload_n C 1 dL_law_305 rfl ?_
            obtain ⟨v306, h1, hf⟩ := g_bind hf
            refine g_callVi C 0 [] (c_X8_size (Xl X) (gC_I C)  h1) ⟨wml_365, wim_366, wse_367, win_1, wcd_368⟩ (by decide) sh_0 vc_8 rfl hd_X8_size ⟨rfl, rfl⟩ ⟨Nat.le_of_ble_eq_true rfl, Nat.le_of_ble_eq_true rfl⟩ rfl rfl (Nat.le_of_ble_eq_true rfl) dL_law_306 ?_
            clear h1
            refine g_aload_n C 2 dL_law_309 rfl ?_
            obtain ⟨v310, h1, hf⟩ := g_bind hf
            refine g_callVi C 0 [] (c_X9_size (Xl X) (gC_I C)  h1) ⟨wml_800, wim_801, wse_802, win_10, wcd_803⟩ (by decide) sh_157 vc_9 rfl hd_X9_size ⟨rfl, rfl⟩ ⟨Nat.le_of_ble_eq_true rfl, Nat.le_of_ble_eq_true rfl⟩ rfl rfl (Nat.le_of_ble_eq_true rfl) dL_law_310 ?_
            clear h1
            refine g_icmp_eq C 984 hf dL_law_313 (by decide) (fun hf => ?_) (fun hf => ?_)
            · exact w_L_law_984 C  hQ A1 B1 hf
            · refine g_iconst C (v := 0) dL_law_316 rfl ?_
              have e0 : r0 = (0 : Int32) := (B1 _ (Option.some.inj hf).symm).symm
              exact absurd (hQ.2.2.symm.trans e0) (by decide)
          · refine g_if hf (fun hf e1 => ?_) (fun hf n4 => ?_)
            · refine g_tcase C (4 : Int32) 318 dL_law_33 e1 (by decide) (by decide) rfl (by decide) ?_
              refine g_aload_n C 1 dL_law_318 rfl ?_
              refine g_aload_n C 0 dL_law_319 rfl ?_
              refine g_iload_n C 3 dL_law_320 rfl ?_
              refine g_iconst C (v := 1) dL_law_321 rfl ?_
              refine g_iadd C dL_law_322 ?_
              obtain ⟨v323, h1, hf⟩ := g_bind hf
              refine g_sld C hQ.1 h1 dL_law_323 ?_
              clear h1
              refine g_aload_n C 0 dL_law_324 rfl ?_
              refine g_iload_n C 3 dL_law_325 rfl ?_
              refine g_iconst C (v := 2) dL_law_326 rfl ?_
              refine g_iadd C dL_law_327 ?_
              obtain ⟨v328, h1, hf⟩ := g_bind hf
              refine g_sld C hQ.1 h1 dL_law_328 ?_
              clear h1
              obtain ⟨v329, h1, hf⟩ := g_bind hf
              refine g_callVi C 2 [.int v323, .int v328] (c_X8_part (Xl X) (gC_I C)  h1) ⟨wml_369, wim_370, wse_371, win_1, wcd_372⟩ (by decide) sh_0 vc_8 rfl hd_X8_part ⟨rfl, rfl⟩ ⟨Nat.le_of_ble_eq_true rfl, Nat.le_of_ble_eq_true rfl⟩ rfl rfl (Nat.le_of_ble_eq_true rfl) dL_law_329 ?_
              clear h1
              refine g_aload_n C 2 dL_law_332 rfl ?_
              refine g_aload_n C 0 dL_law_333 rfl ?_
              refine g_iload_n C 3 dL_law_334 rfl ?_
              refine g_iconst C (v := 1) dL_law_335 rfl ?_
              refine g_iadd C dL_law_336 ?_
              obtain ⟨v337, h1, hf⟩ := g_bind hf
              refine g_sld C hQ.1 h1 dL_law_337 ?_
              clear h1
              refine g_aload_n C 0 dL_law_338 rfl ?_
              refine g_iload_n C 3 dL_law_339 rfl ?_
              refine g_iconst C (v := 2) dL_law_340 rfl ?_
              refine g_iadd C dL_law_341 ?_
              obtain ⟨v342, h1, hf⟩ := g_bind hf
              refine g_sld C hQ.1 h1 dL_law_342 ?_
              clear h1
              obtain ⟨v343, h1, hf⟩ := g_bind hf
              refine g_callVi C 2 [.int v337, .int v342] (c_X9_part (Xl X) (gC_I C)  h1) ⟨wml_804, wim_805, wse_806, win_10, wcd_807⟩ (by decide) sh_157 vc_9 rfl hd_X9_part ⟨rfl, rfl⟩ ⟨Nat.le_of_ble_eq_true rfl, Nat.le_of_ble_eq_true rfl⟩ rfl rfl (Nat.le_of_ble_eq_true rfl) dL_law_343 ?_
              clear h1
              refine g_icmp_eq C 984 hf dL_law_346 (by decide) (fun hf => ?_) (fun hf => ?_)
              · exact w_L_law_984 C  hQ A1 B1 hf
              · refine g_iconst C (v := 0) dL_law_349 rfl ?_
                have e0 : r0 = (0 : Int32) := (B1 _ (Option.some.inj hf).symm).symm
                exact absurd (hQ.2.2.symm.trans e0) (by decide)
            · refine g_if hf (fun hf e1 => ?_) (fun hf n5 => ?_)
              · refine g_tcase C (5 : Int32) 351 dL_law_33 e1 (by decide) (by decide) rfl (by decide) ?_
                refine g_aload_n C 1 dL_law_351 rfl ?_
                obtain ⟨q352, h1, hf⟩ := g_bind hf
                refine g_callVi C 0 [] (c_X8_undo (Xl X) (gC_I C)  h1) ⟨wml_373, wim_374, wse_375, win_1, wcd_376⟩ (by decide) sh_0 vc_8 rfl hd_X8_undo ⟨rfl, rfl⟩ ⟨Nat.le_of_ble_eq_true rfl, Nat.le_of_ble_eq_true rfl⟩ rfl rfl (Nat.le_of_ble_eq_true rfl) dL_law_352 ?_
                clear h1
                refine g_aload_n C 2 dL_law_355 rfl ?_
                obtain ⟨q356, h1, hf⟩ := g_bind hf
                refine g_callVi C 0 [] (c_X9_undo (Xl X) (gC_I C)  h1) ⟨wml_808, wim_809, wse_810, win_10, wcd_811⟩ (by decide) sh_157 vc_9 rfl hd_X9_undo ⟨rfl, rfl⟩ ⟨Nat.le_of_ble_eq_true rfl, Nat.le_of_ble_eq_true rfl⟩ rfl rfl (Nat.le_of_ble_eq_true rfl) dL_law_356 ?_
                clear h1
                refine g_icmp_eq C 984 hf dL_law_359 (by decide) (fun hf => ?_) (fun hf => ?_)
                · exact w_L_law_984 C  hQ A1 B1 hf
                · refine g_iconst C (v := 0) dL_law_362 rfl ?_
                  have e0 : r0 = (0 : Int32) := (B1 _ (Option.some.inj hf).symm).symm
                  exact absurd (hQ.2.2.symm.trans e0) (by decide)
              · refine g_if hf (fun hf e1 => ?_) (fun hf n6 => ?_)
                · refine g_tcase C (6 : Int32) 364 dL_law_33 e1 (by decide) (by decide) rfl (by decide) ?_
                  refine g_aload_n C 1 dL_law_364 rfl ?_
                  obtain ⟨v365, h1, hf⟩ := g_bind hf
                  refine g_callVi C 0 [] (c_X8_blockCount (Xl X) (gC_I C)  h1) ⟨wml_381, wim_382, wse_383, win_1, wcd_384⟩ (by decide) sh_0 vc_8 rfl hd_X8_blockCount ⟨rfl, rfl⟩ ⟨Nat.le_of_ble_eq_true rfl, Nat.le_of_ble_eq_true rfl⟩ rfl rfl (Nat.le_of_ble_eq_true rfl) dL_law_365 ?_
                  clear h1
                  refine g_aload_n C 2 dL_law_368 rfl ?_
                  obtain ⟨q369, h1, hf⟩ := g_bind hf
                  refine g_callVi C 0 [] (c_X9_blockCount (Xl X) (gC_I C)  h1) ⟨wml_812, wim_813, wse_814, win_10, wcd_815⟩ (by decide) sh_157 vc_9 rfl hd_X9_blockCount ⟨rfl, rfl⟩ ⟨Nat.le_of_ble_eq_true rfl, Nat.le_of_ble_eq_true rfl⟩ rfl rfl (Nat.le_of_ble_eq_true rfl) dL_law_369 ?_
                  clear h1
                  refine g_icmp_eq C 984 hf dL_law_372 (by decide) (fun hf => ?_) (fun hf => ?_)
                  · exact w_L_law_984 C  hQ A1 B1 hf
                  · refine g_iconst C (v := 0) dL_law_375 rfl ?_
                    have e0 : r0 = (0 : Int32) := (B1 _ (Option.some.inj hf).symm).symm
                    exact absurd (hQ.2.2.symm.trans e0) (by decide)
                · refine g_if hf (fun hf e1 => ?_) (fun hf n7 => ?_)
                  · refine g_tcase C (7 : Int32) 377 dL_law_33 e1 (by decide) (by decide) rfl (by decide) ?_
                    refine g_aload_n C 1 dL_law_377 rfl ?_
                    refine g_aload_n C 0 dL_law_378 rfl ?_
                    refine g_iload_n C 3 dL_law_379 rfl ?_
                    refine g_iconst C (v := 1) dL_law_380 rfl ?_
                    refine g_iadd C dL_law_381 ?_
                    obtain ⟨v382, h1, hf⟩ := g_bind hf
                    refine g_sld C hQ.1 h1 dL_law_382 ?_
                    clear h1
                    obtain ⟨v383, h1, hf⟩ := g_bind hf
                    refine g_callVi C 1 [.int v382] (c_X8_blockOf (Xl X) (gC_I C)  h1) ⟨wml_385, wim_386, wse_387, win_1, wcd_388⟩ (by decide) sh_0 vc_8 rfl hd_X8_blockOf ⟨rfl, rfl⟩ ⟨Nat.le_of_ble_eq_true rfl, Nat.le_of_ble_eq_true rfl⟩ rfl rfl (Nat.le_of_ble_eq_true rfl) dL_law_383 ?_
                    clear h1
                    refine g_aload_n C 2 dL_law_386 rfl ?_
                    refine g_aload_n C 0 dL_law_387 rfl ?_
                    refine g_iload_n C 3 dL_law_388 rfl ?_
                    refine g_iconst C (v := 1) dL_law_389 rfl ?_
                    refine g_iadd C dL_law_390 ?_
                    obtain ⟨v391, h1, hf⟩ := g_bind hf
                    refine g_sld C hQ.1 h1 dL_law_391 ?_
                    clear h1
                    obtain ⟨q392, h1, hf⟩ := g_bind hf
                    refine g_callVi C 1 [.int v391] (c_X9_blockOf (Xl X) (gC_I C)  h1) ⟨wml_840, wim_841, wse_842, win_10, wcd_843⟩ (by decide) sh_157 vc_9 rfl hd_X9_blockOf ⟨rfl, rfl⟩ ⟨Nat.le_of_ble_eq_true rfl, Nat.le_of_ble_eq_true rfl⟩ rfl rfl (Nat.le_of_ble_eq_true rfl) dL_law_392 ?_
                    clear h1
                    refine g_icmp_eq C 984 hf dL_law_395 (by decide) (fun hf => ?_) (fun hf => ?_)
                    · exact w_L_law_984 C  hQ A1 B1 hf
                    · refine g_iconst C (v := 0) dL_law_398 rfl ?_
                      have e0 : r0 = (0 : Int32) := (B1 _ (Option.some.inj hf).symm).symm
                      exact absurd (hQ.2.2.symm.trans e0) (by decide)
                  · refine g_if hf (fun hf e1 => ?_) (fun hf n8 => ?_)
                    · refine g_tcase C (8 : Int32) 400 dL_law_33 e1 (by decide) (by decide) rfl (by decide) ?_
                      refine g_aload_n C 1 dL_law_400 rfl ?_
                      refine g_aload_n C 0 dL_law_401 rfl ?_
                      refine g_iload_n C 3 dL_law_402 rfl ?_
                      refine g_iconst C (v := 1) dL_law_403 rfl ?_
                      refine g_iadd C dL_law_404 ?_
                      obtain ⟨v405, h1, hf⟩ := g_bind hf
                      refine g_sld C hQ.1 h1 dL_law_405 ?_
                      clear h1
                      obtain ⟨v406, h1, hf⟩ := g_bind hf
                      refine g_callVi C 1 [.int v405] (c_X8_blockBegin (Xl X) (gC_I C)  h1) ⟨wml_389, wim_390, wse_391, win_1, wcd_392⟩ (by decide) sh_0 vc_8 rfl hd_X8_blockBegin ⟨rfl, rfl⟩ ⟨Nat.le_of_ble_eq_true rfl, Nat.le_of_ble_eq_true rfl⟩ rfl rfl (Nat.le_of_ble_eq_true rfl) dL_law_406 ?_
                      clear h1
                      refine g_aload_n C 2 dL_law_409 rfl ?_
                      refine g_aload_n C 0 dL_law_410 rfl ?_
                      refine g_iload_n C 3 dL_law_411 rfl ?_
                      refine g_iconst C (v := 1) dL_law_412 rfl ?_
                      refine g_iadd C dL_law_413 ?_
                      obtain ⟨v414, h1, hf⟩ := g_bind hf
                      refine g_sld C hQ.1 h1 dL_law_414 ?_
                      clear h1
                      obtain ⟨q415, h1, hf⟩ := g_bind hf
                      refine g_callVi C 1 [.int v414] (c_X9_blockBegin (Xl X) (gC_I C)  h1) ⟨wml_844, wim_845, wse_846, win_10, wcd_847⟩ (by decide) sh_157 vc_9 rfl hd_X9_blockBegin ⟨rfl, rfl⟩ ⟨Nat.le_of_ble_eq_true rfl, Nat.le_of_ble_eq_true rfl⟩ rfl rfl (Nat.le_of_ble_eq_true rfl) dL_law_415 ?_
                      clear h1
                      refine g_icmp_eq C 984 hf dL_law_418 (by decide) (fun hf => ?_) (fun hf => ?_)
                      · exact w_L_law_984 C  hQ A1 B1 hf
                      · refine g_iconst C (v := 0) dL_law_421 rfl ?_
                        have e0 : r0 = (0 : Int32) := (B1 _ (Option.some.inj hf).symm).symm
                        exact absurd (hQ.2.2.symm.trans e0) (by decide)
                    · refine g_if hf (fun hf e1 => ?_) (fun hf n9 => ?_)
                      · refine g_tcase C (9 : Int32) 423 dL_law_33 e1 (by decide) (by decide) rfl (by decide) ?_
                        refine g_aload_n C 1 dL_law_423 rfl ?_
                        refine g_aload_n C 0 dL_law_424 rfl ?_
                        refine g_iload_n C 3 dL_law_425 rfl ?_
                        refine g_iconst C (v := 1) dL_law_426 rfl ?_
                        refine g_iadd C dL_law_427 ?_
                        obtain ⟨v428, h1, hf⟩ := g_bind hf
                        refine g_sld C hQ.1 h1 dL_law_428 ?_
                        clear h1
                        refine g_aload_n C 0 dL_law_429 rfl ?_
                        refine g_iload_n C 3 dL_law_430 rfl ?_
                        refine g_iconst C (v := 2) dL_law_431 rfl ?_
                        refine g_iadd C dL_law_432 ?_
                        obtain ⟨v433, h1, hf⟩ := g_bind hf
                        refine g_sld C hQ.1 h1 dL_law_433 ?_
                        clear h1
                        obtain ⟨v434, h1, hf⟩ := g_bind hf
                        refine g_callVi C 2 [.int v428, .int v433] (c_X8_distance (Xl X) (gC_I C)  h1) ⟨wml_397, wim_398, wse_399, win_1, wcd_400⟩ (by decide) sh_0 vc_8 rfl hd_X8_distance ⟨rfl, rfl⟩ ⟨Nat.le_of_ble_eq_true rfl, Nat.le_of_ble_eq_true rfl⟩ rfl rfl (Nat.le_of_ble_eq_true rfl) dL_law_434 ?_
                        clear h1
                        refine g_aload_n C 2 dL_law_437 rfl ?_
                        refine g_aload_n C 0 dL_law_438 rfl ?_
                        refine g_iload_n C 3 dL_law_439 rfl ?_
                        refine g_iconst C (v := 1) dL_law_440 rfl ?_
                        refine g_iadd C dL_law_441 ?_
                        obtain ⟨v442, h1, hf⟩ := g_bind hf
                        refine g_sld C hQ.1 h1 dL_law_442 ?_
                        clear h1
                        refine g_aload_n C 0 dL_law_443 rfl ?_
                        refine g_iload_n C 3 dL_law_444 rfl ?_
                        refine g_iconst C (v := 2) dL_law_445 rfl ?_
                        refine g_iadd C dL_law_446 ?_
                        obtain ⟨v447, h1, hf⟩ := g_bind hf
                        refine g_sld C hQ.1 h1 dL_law_447 ?_
                        clear h1
                        obtain ⟨q448, h1, hf⟩ := g_bind hf
                        refine g_callVi C 2 [.int v442, .int v447] (c_X9_distance (Xl X) (gC_I C)  h1) ⟨wml_848, wim_849, wse_850, win_10, wcd_851⟩ (by decide) sh_157 vc_9 rfl hd_X9_distance ⟨rfl, rfl⟩ ⟨Nat.le_of_ble_eq_true rfl, Nat.le_of_ble_eq_true rfl⟩ rfl rfl (Nat.le_of_ble_eq_true rfl) dL_law_448 ?_
                        clear h1
                        refine g_icmp_eq C 984 hf dL_law_451 (by decide) (fun hf => ?_) (fun hf => ?_)
                        · exact w_L_law_984 C  hQ A1 B1 hf
                        · refine g_iconst C (v := 0) dL_law_454 rfl ?_
                          have e0 : r0 = (0 : Int32) := (B1 _ (Option.some.inj hf).symm).symm
                          exact absurd (hQ.2.2.symm.trans e0) (by decide)
                      · refine g_if hf (fun hf e1 => ?_) (fun hf n10 => ?_)
                        · refine g_tcase C (10 : Int32) 456 dL_law_33 e1 (by decide) (by decide) rfl (by decide) ?_
                          refine g_aload_n C 1 dL_law_456 rfl ?_
                          refine g_aload_n C 0 dL_law_457 rfl ?_
                          refine g_iload_n C 3 dL_law_458 rfl ?_
                          refine g_iconst C (v := 1) dL_law_459 rfl ?_
                          refine g_iadd C dL_law_460 ?_
                          obtain ⟨v461, h1, hf⟩ := g_bind hf
                          refine g_sld C hQ.1 h1 dL_law_461 ?_
                          clear h1
                          refine g_aload_n C 0 dL_law_462 rfl ?_
                          refine g_iload_n C 3 dL_law_463 rfl ?_
                          refine g_iconst C (v := 2) dL_law_464 rfl ?_
                          refine g_iadd C dL_law_465 ?_
                          obtain ⟨v466, h1, hf⟩ := g_bind hf
                          refine g_sld C hQ.1 h1 dL_law_466 ?_
                          clear h1
                          refine g_aload_n C 0 dL_law_467 rfl ?_
                          refine g_iload_n C 3 dL_law_468 rfl ?_
                          refine g_iconst C (v := 3) dL_law_469 rfl ?_
                          refine g_iadd C dL_law_470 ?_
                          obtain ⟨v471, h1, hf⟩ := g_bind hf
                          refine g_sld C hQ.1 h1 dL_law_471 ?_
                          clear h1
                          refine g_aload_n C 0 dL_law_472 rfl ?_
                          refine g_iload_n C 3 dL_law_473 rfl ?_
                          refine g_iconst C (v := 4) dL_law_474 rfl ?_
                          refine g_iadd C dL_law_475 ?_
                          obtain ⟨v476, h1, hf⟩ := g_bind hf
                          refine g_sld C hQ.1 h1 dL_law_476 ?_
                          clear h1
                          obtain ⟨q477, h1, hf⟩ := g_bind hf
                          refine g_callVi C 4 [.int v461, .int v466, .int v471, .int v476] (c_X8_addTemplate (Xl X) (gC_I C)  h1) ⟨wml_420, wim_421, wse_422, win_1, wcd_423⟩ (by decide) sh_0 vc_8 rfl hd_X8_addTemplate ⟨rfl, rfl⟩ ⟨Nat.le_of_ble_eq_true rfl, Nat.le_of_ble_eq_true rfl⟩ rfl rfl (Nat.le_of_ble_eq_true rfl) dL_law_477 ?_
                          clear h1
                          refine g_aload_n C 2 dL_law_480 rfl ?_
                          refine g_aload_n C 0 dL_law_481 rfl ?_
                          refine g_iload_n C 3 dL_law_482 rfl ?_
                          refine g_iconst C (v := 1) dL_law_483 rfl ?_
                          refine g_iadd C dL_law_484 ?_
                          obtain ⟨v485, h1, hf⟩ := g_bind hf
                          refine g_sld C hQ.1 h1 dL_law_485 ?_
                          clear h1
                          refine g_aload_n C 0 dL_law_486 rfl ?_
                          refine g_iload_n C 3 dL_law_487 rfl ?_
                          refine g_iconst C (v := 2) dL_law_488 rfl ?_
                          refine g_iadd C dL_law_489 ?_
                          obtain ⟨v490, h1, hf⟩ := g_bind hf
                          refine g_sld C hQ.1 h1 dL_law_490 ?_
                          clear h1
                          refine g_aload_n C 0 dL_law_491 rfl ?_
                          refine g_iload_n C 3 dL_law_492 rfl ?_
                          refine g_iconst C (v := 3) dL_law_493 rfl ?_
                          refine g_iadd C dL_law_494 ?_
                          obtain ⟨v495, h1, hf⟩ := g_bind hf
                          refine g_sld C hQ.1 h1 dL_law_495 ?_
                          clear h1
                          refine g_aload_n C 0 dL_law_496 rfl ?_
                          refine g_iload_n C 3 dL_law_497 rfl ?_
                          refine g_iconst C (v := 4) dL_law_498 rfl ?_
                          refine g_iadd C dL_law_499 ?_
                          obtain ⟨v500, h1, hf⟩ := g_bind hf
                          refine g_sld C hQ.1 h1 dL_law_500 ?_
                          clear h1
                          obtain ⟨q501, h1, hf⟩ := g_bind hf
                          refine g_callVi C 4 [.int v485, .int v490, .int v495, .int v500] (c_X9_addTemplate (Xl X) (gC_I C)  h1) ⟨wml_868, wim_869, wse_870, win_10, wcd_871⟩ (by decide) sh_157 vc_9 rfl hd_X9_addTemplate ⟨rfl, rfl⟩ ⟨Nat.le_of_ble_eq_true rfl, Nat.le_of_ble_eq_true rfl⟩ rfl rfl (Nat.le_of_ble_eq_true rfl) dL_law_501 ?_
                          clear h1
                          refine g_icmp_eq C 984 hf dL_law_504 (by decide) (fun hf => ?_) (fun hf => ?_)
                          · exact w_L_law_984 C  hQ A1 B1 hf
                          · refine g_iconst C (v := 0) dL_law_507 rfl ?_
                            have e0 : r0 = (0 : Int32) := (B1 _ (Option.some.inj hf).symm).symm
                            exact absurd (hQ.2.2.symm.trans e0) (by decide)
                        · refine g_if hf (fun hf e1 => ?_) (fun hf n11 => ?_)
                          · refine g_tcase C (11 : Int32) 509 dL_law_33 e1 (by decide) (by decide) rfl (by decide) ?_
                            refine g_aload_n C 1 dL_law_509 rfl ?_
                            obtain ⟨q510, h1, hf⟩ := g_bind hf
                            refine g_callVi C 0 [] (c_X8_clearTemplates (Xl X) (gC_I C)  h1) ⟨wml_431, wim_432, wse_433, win_1, wcd_434⟩ (by decide) sh_0 vc_8 rfl hd_X8_clearTemplates ⟨rfl, rfl⟩ ⟨Nat.le_of_ble_eq_true rfl, Nat.le_of_ble_eq_true rfl⟩ rfl rfl (Nat.le_of_ble_eq_true rfl) dL_law_510 ?_
                            clear h1
                            refine g_aload_n C 2 dL_law_513 rfl ?_
                            obtain ⟨q514, h1, hf⟩ := g_bind hf
                            refine g_callVi C 0 [] (c_X9_clearTemplates (Xl X) (gC_I C)  h1) ⟨wml_875, wim_876, wse_877, win_10, wcd_878⟩ (by decide) sh_157 vc_9 rfl hd_X9_clearTemplates ⟨rfl, rfl⟩ ⟨Nat.le_of_ble_eq_true rfl, Nat.le_of_ble_eq_true rfl⟩ rfl rfl (Nat.le_of_ble_eq_true rfl) dL_law_514 ?_
                            clear h1
                            refine g_icmp_eq C 984 hf dL_law_517 (by decide) (fun hf => ?_) (fun hf => ?_)
                            · exact w_L_law_984 C  hQ A1 B1 hf
                            · refine g_iconst C (v := 0) dL_law_520 rfl ?_
                              have e0 : r0 = (0 : Int32) := (B1 _ (Option.some.inj hf).symm).symm
                              exact absurd (hQ.2.2.symm.trans e0) (by decide)
                          · refine g_if hf (fun hf e1 => ?_) (fun hf n12 => ?_)
                            · refine g_tcase C (12 : Int32) 522 dL_law_33 e1 (by decide) (by decide) rfl (by decide) ?_
                              refine g_aload_n C 1 dL_law_522 rfl ?_
                              obtain ⟨v523, h1, hf⟩ := g_bind hf
                              refine g_callVi C 0 [] (c_X8_templateCount (Xl X) (gC_I C)  h1) ⟨wml_435, wim_436, wse_437, win_1, wcd_438⟩ (by decide) sh_0 vc_8 rfl hd_X8_templateCount ⟨rfl, rfl⟩ ⟨Nat.le_of_ble_eq_true rfl, Nat.le_of_ble_eq_true rfl⟩ rfl rfl (Nat.le_of_ble_eq_true rfl) dL_law_523 ?_
                              clear h1
                              refine g_aload_n C 2 dL_law_526 rfl ?_
                              obtain ⟨v527, h1, hf⟩ := g_bind hf
                              refine g_callVi C 0 [] (c_X9_templateCount (Xl X) (gC_I C)  h1) ⟨wml_879, wim_880, wse_881, win_10, wcd_882⟩ (by decide) sh_157 vc_9 rfl hd_X9_templateCount ⟨rfl, rfl⟩ ⟨Nat.le_of_ble_eq_true rfl, Nat.le_of_ble_eq_true rfl⟩ rfl rfl (Nat.le_of_ble_eq_true rfl) dL_law_527 ?_
                              clear h1
                              refine g_icmp_eq C 984 hf dL_law_530 (by decide) (fun hf => ?_) (fun hf => ?_)
                              · exact w_L_law_984 C  hQ A1 B1 hf
                              · refine g_iconst C (v := 0) dL_law_533 rfl ?_
                                have e0 : r0 = (0 : Int32) := (B1 _ (Option.some.inj hf).symm).symm
                                exact absurd (hQ.2.2.symm.trans e0) (by decide)
                            · refine g_if hf (fun hf e1 => ?_) (fun hf n13 => ?_)
                              · refine g_tcase C (13 : Int32) 535 dL_law_33 e1 (by decide) (by decide) rfl (by decide) ?_
                                refine g_aload_n C 1 dL_law_535 rfl ?_
                                refine g_aload_n C 0 dL_law_536 rfl ?_
                                refine g_iload_n C 3 dL_law_537 rfl ?_
                                refine g_iconst C (v := 1) dL_law_538 rfl ?_
                                refine g_iadd C dL_law_539 ?_
                                obtain ⟨v540, h1, hf⟩ := g_bind hf
                                refine g_sld C hQ.1 h1 dL_law_540 ?_
                                clear h1
                                refine g_aload_n C 0 dL_law_541 rfl ?_
                                refine g_iload_n C 3 dL_law_542 rfl ?_
                                refine g_iconst C (v := 2) dL_law_543 rfl ?_
                                refine g_iadd C dL_law_544 ?_
                                obtain ⟨v545, h1, hf⟩ := g_bind hf
                                refine g_sld C hQ.1 h1 dL_law_545 ?_
                                clear h1
                                obtain ⟨v546, h1, hf⟩ := g_bind hf
                                refine g_callVi C 2 [.int v540, .int v545] (c_X8_template (Xl X) (gC_I C)  h1) ⟨wml_439, wim_440, wse_441, win_1, wcd_442⟩ (by decide) sh_0 vc_8 rfl hd_X8_template ⟨rfl, rfl⟩ ⟨Nat.le_of_ble_eq_true rfl, Nat.le_of_ble_eq_true rfl⟩ rfl rfl (Nat.le_of_ble_eq_true rfl) dL_law_546 ?_
                                clear h1
                                refine g_aload_n C 2 dL_law_549 rfl ?_
                                refine g_aload_n C 0 dL_law_550 rfl ?_
                                refine g_iload_n C 3 dL_law_551 rfl ?_
                                refine g_iconst C (v := 1) dL_law_552 rfl ?_
                                refine g_iadd C dL_law_553 ?_
                                obtain ⟨v554, h1, hf⟩ := g_bind hf
                                refine g_sld C hQ.1 h1 dL_law_554 ?_
                                clear h1
                                refine g_aload_n C 0 dL_law_555 rfl ?_
                                refine g_iload_n C 3 dL_law_556 rfl ?_
                                refine g_iconst C (v := 2) dL_law_557 rfl ?_
                                refine g_iadd C dL_law_558 ?_
                                obtain ⟨v559, h1, hf⟩ := g_bind hf
                                refine g_sld C hQ.1 h1 dL_law_559 ?_
                                clear h1
                                obtain ⟨v560, h1, hf⟩ := g_bind hf
                                refine g_callVi C 2 [.int v554, .int v559] (c_X9_template (Xl X) (gC_I C)  h1) ⟨wml_883, wim_884, wse_885, win_10, wcd_886⟩ (by decide) sh_157 vc_9 rfl hd_X9_template ⟨rfl, rfl⟩ ⟨Nat.le_of_ble_eq_true rfl, Nat.le_of_ble_eq_true rfl⟩ rfl rfl (Nat.le_of_ble_eq_true rfl) dL_law_560 ?_
                                clear h1
                                refine g_icmp_eq C 984 hf dL_law_563 (by decide) (fun hf => ?_) (fun hf => ?_)
                                · exact w_L_law_984 C  hQ A1 B1 hf
                                · refine g_iconst C (v := 0) dL_law_566 rfl ?_
                                  have e0 : r0 = (0 : Int32) := (B1 _ (Option.some.inj hf).symm).symm
                                  exact absurd (hQ.2.2.symm.trans e0) (by decide)
                              · refine g_if hf (fun hf e1 => ?_) (fun hf n14 => ?_)
                                · refine g_tcase C (14 : Int32) 568 dL_law_33 e1 (by decide) (by decide) rfl (by decide) ?_
                                  refine g_aload_n C 1 dL_law_568 rfl ?_
                                  obtain ⟨q569, h1, hf⟩ := g_bind hf
                                  refine g_callVi C 0 [] (c_X8_pack (Xl X) (gC_I C)  h1) ⟨wml_443, wim_444, wse_445, win_1, wcd_446⟩ (by decide) sh_0 vc_8 rfl hd_X8_pack ⟨rfl, rfl⟩ ⟨Nat.le_of_ble_eq_true rfl, Nat.le_of_ble_eq_true rfl⟩ rfl rfl (Nat.le_of_ble_eq_true rfl) dL_law_569 ?_
                                  clear h1
                                  refine g_aload_n C 2 dL_law_572 rfl ?_
                                  obtain ⟨q573, h1, hf⟩ := g_bind hf
                                  refine g_callVi C 0 [] (c_X9_pack (Xl X) (gC_I C)  h1) ⟨wml_887, wim_888, wse_889, win_10, wcd_890⟩ (by decide) sh_157 vc_9 rfl hd_X9_pack ⟨rfl, rfl⟩ ⟨Nat.le_of_ble_eq_true rfl, Nat.le_of_ble_eq_true rfl⟩ rfl rfl (Nat.le_of_ble_eq_true rfl) dL_law_573 ?_
                                  clear h1
                                  refine g_icmp_eq C 984 hf dL_law_576 (by decide) (fun hf => ?_) (fun hf => ?_)
                                  · exact w_L_law_984 C  hQ A1 B1 hf
                                  · refine g_iconst C (v := 0) dL_law_579 rfl ?_
                                    have e0 : r0 = (0 : Int32) := (B1 _ (Option.some.inj hf).symm).symm
                                    exact absurd (hQ.2.2.symm.trans e0) (by decide)
                                · refine g_if hf (fun hf e1 => ?_) (fun hf n15 => ?_)
                                  · refine g_tcase C (15 : Int32) 581 dL_law_33 e1 (by decide) (by decide) rfl (by decide) ?_
                                    refine g_aload_n C 1 dL_law_581 rfl ?_
                                    obtain ⟨q582, h1, hf⟩ := g_bind hf
                                    refine g_callVi C 0 [] (c_X8_unpack (Xl X) (gC_I C)  h1) ⟨wml_521, wim_522, wse_523, win_1, wcd_524⟩ (by decide) sh_0 vc_8 rfl hd_X8_unpack ⟨rfl, rfl⟩ ⟨Nat.le_of_ble_eq_true rfl, Nat.le_of_ble_eq_true rfl⟩ rfl rfl (Nat.le_of_ble_eq_true rfl) dL_law_582 ?_
                                    clear h1
                                    refine g_aload_n C 2 dL_law_585 rfl ?_
                                    obtain ⟨q586, h1, hf⟩ := g_bind hf
                                    refine g_callVi C 0 [] (c_X9_unpack (Xl X) (gC_I C)  h1) ⟨wml_914, wim_915, wse_916, win_10, wcd_917⟩ (by decide) sh_157 vc_9 rfl hd_X9_unpack ⟨rfl, rfl⟩ ⟨Nat.le_of_ble_eq_true rfl, Nat.le_of_ble_eq_true rfl⟩ rfl rfl (Nat.le_of_ble_eq_true rfl) dL_law_586 ?_
                                    clear h1
                                    refine g_icmp_eq C 984 hf dL_law_589 (by decide) (fun hf => ?_) (fun hf => ?_)
                                    · exact w_L_law_984 C  hQ A1 B1 hf
                                    · refine g_iconst C (v := 0) dL_law_592 rfl ?_
                                      have e0 : r0 = (0 : Int32) := (B1 _ (Option.some.inj hf).symm).symm
                                      exact absurd (hQ.2.2.symm.trans e0) (by decide)
                                  · refine g_if hf (fun hf e1 => ?_) (fun hf n16 => ?_)
                                    · refine g_tcase C (16 : Int32) 594 dL_law_33 e1 (by decide) (by decide) rfl (by decide) ?_
                                      refine g_aload_n C 1 dL_law_594 rfl ?_
                                      obtain ⟨v595, h1, hf⟩ := g_bind hf
                                      refine g_callVi C 0 [] (c_X8_bundleCount (Xl X) (gC_I C)  h1) ⟨wml_525, wim_526, wse_527, win_1, wcd_528⟩ (by decide) sh_0 vc_8 rfl hd_X8_bundleCount ⟨rfl, rfl⟩ ⟨Nat.le_of_ble_eq_true rfl, Nat.le_of_ble_eq_true rfl⟩ rfl rfl (Nat.le_of_ble_eq_true rfl) dL_law_595 ?_
                                      clear h1
                                      refine g_aload_n C 2 dL_law_598 rfl ?_
                                      obtain ⟨v599, h1, hf⟩ := g_bind hf
                                      refine g_callVi C 0 [] (c_X9_bundleCount (Xl X) (gC_I C)  h1) ⟨wml_918, wim_919, wse_920, win_10, wcd_921⟩ (by decide) sh_157 vc_9 rfl hd_X9_bundleCount ⟨rfl, rfl⟩ ⟨Nat.le_of_ble_eq_true rfl, Nat.le_of_ble_eq_true rfl⟩ rfl rfl (Nat.le_of_ble_eq_true rfl) dL_law_599 ?_
                                      clear h1
                                      refine g_icmp_eq C 984 hf dL_law_602 (by decide) (fun hf => ?_) (fun hf => ?_)
                                      · exact w_L_law_984 C  hQ A1 B1 hf
                                      · refine g_iconst C (v := 0) dL_law_605 rfl ?_
                                        have e0 : r0 = (0 : Int32) := (B1 _ (Option.some.inj hf).symm).symm
                                        exact absurd (hQ.2.2.symm.trans e0) (by decide)
                                    · refine g_if hf (fun hf e1 => ?_) (fun hf n17 => ?_)
                                      · refine g_tcase C (17 : Int32) 607 dL_law_33 e1 (by decide) (by decide) rfl (by decide) ?_
                                        refine g_aload_n C 1 dL_law_607 rfl ?_
                                        refine g_aload_n C 0 dL_law_608 rfl ?_
                                        refine g_iload_n C 3 dL_law_609 rfl ?_
                                        refine g_iconst C (v := 1) dL_law_610 rfl ?_
                                        refine g_iadd C dL_law_611 ?_
                                        obtain ⟨v612, h1, hf⟩ := g_bind hf
                                        refine g_sld C hQ.1 h1 dL_law_612 ?_
                                        clear h1
                                        refine g_aload_n C 0 dL_law_613 rfl ?_
                                        refine g_iload_n C 3 dL_law_614 rfl ?_
                                        refine g_iconst C (v := 2) dL_law_615 rfl ?_
                                        refine g_iadd C dL_law_616 ?_
                                        obtain ⟨v617, h1, hf⟩ := g_bind hf
                                        refine g_sld C hQ.1 h1 dL_law_617 ?_
                                        clear h1
                                        obtain ⟨v618, h1, hf⟩ := g_bind hf
                                        refine g_callVi C 2 [.int v612, .int v617] (c_X8_bundle (Xl X) (gC_I C)  h1) ⟨wml_529, wim_530, wse_531, win_1, wcd_532⟩ (by decide) sh_0 vc_8 rfl hd_X8_bundle ⟨rfl, rfl⟩ ⟨Nat.le_of_ble_eq_true rfl, Nat.le_of_ble_eq_true rfl⟩ rfl rfl (Nat.le_of_ble_eq_true rfl) dL_law_618 ?_
                                        clear h1
                                        refine g_aload_n C 2 dL_law_621 rfl ?_
                                        refine g_aload_n C 0 dL_law_622 rfl ?_
                                        refine g_iload_n C 3 dL_law_623 rfl ?_
                                        refine g_iconst C (v := 1) dL_law_624 rfl ?_
                                        refine g_iadd C dL_law_625 ?_
                                        obtain ⟨v626, h1, hf⟩ := g_bind hf
                                        refine g_sld C hQ.1 h1 dL_law_626 ?_
                                        clear h1
                                        refine g_aload_n C 0 dL_law_627 rfl ?_
                                        refine g_iload_n C 3 dL_law_628 rfl ?_
                                        refine g_iconst C (v := 2) dL_law_629 rfl ?_
                                        refine g_iadd C dL_law_630 ?_
                                        obtain ⟨v631, h1, hf⟩ := g_bind hf
                                        refine g_sld C hQ.1 h1 dL_law_631 ?_
                                        clear h1
                                        obtain ⟨v632, h1, hf⟩ := g_bind hf
                                        refine g_callVi C 2 [.int v626, .int v631] (c_X9_bundle (Xl X) (gC_I C)  h1) ⟨wml_922, wim_923, wse_924, win_10, wcd_925⟩ (by decide) sh_157 vc_9 rfl hd_X9_bundle ⟨rfl, rfl⟩ ⟨Nat.le_of_ble_eq_true rfl, Nat.le_of_ble_eq_true rfl⟩ rfl rfl (Nat.le_of_ble_eq_true rfl) dL_law_632 ?_
                                        clear h1
                                        refine g_icmp_eq C 984 hf dL_law_635 (by decide) (fun hf => ?_) (fun hf => ?_)
                                        · exact w_L_law_984 C  hQ A1 B1 hf
                                        · refine g_iconst C (v := 0) dL_law_638 rfl ?_
                                          have e0 : r0 = (0 : Int32) := (B1 _ (Option.some.inj hf).symm).symm
                                          exact absurd (hQ.2.2.symm.trans e0) (by decide)
                                      · refine g_if hf (fun hf e1 => ?_) (fun hf n18 => ?_)
                                        · refine g_tcase C (18 : Int32) 640 dL_law_33 e1 (by decide) (by decide) rfl (by decide) ?_
                                          refine g_aload_n C 1 dL_law_640 rfl ?_
                                          refine g_aload_n C 0 dL_law_641 rfl ?_
                                          refine g_iload_n C 3 dL_law_642 rfl ?_
                                          refine g_iconst C (v := 1) dL_law_643 rfl ?_
                                          refine g_iadd C dL_law_644 ?_
                                          obtain ⟨v645, h1, hf⟩ := g_bind hf
                                          refine g_sld C hQ.1 h1 dL_law_645 ?_
                                          clear h1
                                          refine g_aload_n C 0 dL_law_646 rfl ?_
                                          refine g_iload_n C 3 dL_law_647 rfl ?_
                                          refine g_iconst C (v := 2) dL_law_648 rfl ?_
                                          refine g_iadd C dL_law_649 ?_
                                          obtain ⟨v650, h1, hf⟩ := g_bind hf
                                          refine g_sld C hQ.1 h1 dL_law_650 ?_
                                          clear h1
                                          obtain ⟨v651, h1, hf⟩ := g_bind hf
                                          refine g_callVi C 2 [.int v645, .int v650] (c_X8_placeOf (Xl X) (gC_I C)  h1) ⟨wml_533, wim_534, wse_535, win_1, wcd_536⟩ (by decide) sh_0 vc_8 rfl hd_X8_placeOf ⟨rfl, rfl⟩ ⟨Nat.le_of_ble_eq_true rfl, Nat.le_of_ble_eq_true rfl⟩ rfl rfl (Nat.le_of_ble_eq_true rfl) dL_law_651 ?_
                                          clear h1
                                          refine g_aload_n C 2 dL_law_654 rfl ?_
                                          refine g_aload_n C 0 dL_law_655 rfl ?_
                                          refine g_iload_n C 3 dL_law_656 rfl ?_
                                          refine g_iconst C (v := 1) dL_law_657 rfl ?_
                                          refine g_iadd C dL_law_658 ?_
                                          obtain ⟨v659, h1, hf⟩ := g_bind hf
                                          refine g_sld C hQ.1 h1 dL_law_659 ?_
                                          clear h1
                                          refine g_aload_n C 0 dL_law_660 rfl ?_
                                          refine g_iload_n C 3 dL_law_661 rfl ?_
                                          refine g_iconst C (v := 2) dL_law_662 rfl ?_
                                          refine g_iadd C dL_law_663 ?_
                                          obtain ⟨v664, h1, hf⟩ := g_bind hf
                                          refine g_sld C hQ.1 h1 dL_law_664 ?_
                                          clear h1
                                          obtain ⟨v665, h1, hf⟩ := g_bind hf
                                          refine g_callVi C 2 [.int v659, .int v664] (c_X9_placeOf (Xl X) (gC_I C)  h1) ⟨wml_926, wim_927, wse_928, win_10, wcd_929⟩ (by decide) sh_157 vc_9 rfl hd_X9_placeOf ⟨rfl, rfl⟩ ⟨Nat.le_of_ble_eq_true rfl, Nat.le_of_ble_eq_true rfl⟩ rfl rfl (Nat.le_of_ble_eq_true rfl) dL_law_665 ?_
                                          clear h1
                                          refine g_icmp_eq C 984 hf dL_law_668 (by decide) (fun hf => ?_) (fun hf => ?_)
                                          · exact w_L_law_984 C  hQ A1 B1 hf
                                          · refine g_iconst C (v := 0) dL_law_671 rfl ?_
                                            have e0 : r0 = (0 : Int32) := (B1 _ (Option.some.inj hf).symm).symm
                                            exact absurd (hQ.2.2.symm.trans e0) (by decide)
                                        · refine g_if hf (fun hf e1 => ?_) (fun hf n19 => ?_)
                                          · refine g_tcase C (19 : Int32) 673 dL_law_33 e1 (by decide) (by decide) rfl (by decide) ?_
                                            refine g_aload_n C 1 dL_law_673 rfl ?_
                                            refine g_aload_n C 0 dL_law_674 rfl ?_
                                            refine g_iload_n C 3 dL_law_675 rfl ?_
                                            refine g_iconst C (v := 1) dL_law_676 rfl ?_
                                            refine g_iadd C dL_law_677 ?_
                                            obtain ⟨v678, h1, hf⟩ := g_bind hf
                                            refine g_sld C hQ.1 h1 dL_law_678 ?_
                                            clear h1
                                            obtain ⟨v679, h1, hf⟩ := g_bind hf
                                            refine g_callVi C 1 [.int v678] (c_X8_cycles (Xl X) (gC_I C)  h1) ⟨wml_537, wim_538, wse_539, win_1, wcd_540⟩ (by decide) sh_0 vc_8 rfl hd_X8_cycles ⟨rfl, rfl⟩ ⟨Nat.le_of_ble_eq_true rfl, Nat.le_of_ble_eq_true rfl⟩ rfl rfl (Nat.le_of_ble_eq_true rfl) dL_law_679 ?_
                                            clear h1
                                            refine g_aload_n C 2 dL_law_682 rfl ?_
                                            refine g_aload_n C 0 dL_law_683 rfl ?_
                                            refine g_iload_n C 3 dL_law_684 rfl ?_
                                            refine g_iconst C (v := 1) dL_law_685 rfl ?_
                                            refine g_iadd C dL_law_686 ?_
                                            obtain ⟨v687, h1, hf⟩ := g_bind hf
                                            refine g_sld C hQ.1 h1 dL_law_687 ?_
                                            clear h1
                                            obtain ⟨q688, h1, hf⟩ := g_bind hf
                                            refine g_callVi C 1 [.int v687] (c_X9_cycles (Xl X) (gC_I C)  h1) ⟨wml_930, wim_931, wse_932, win_10, wcd_933⟩ (by decide) sh_157 vc_9 rfl hd_X9_cycles ⟨rfl, rfl⟩ ⟨Nat.le_of_ble_eq_true rfl, Nat.le_of_ble_eq_true rfl⟩ rfl rfl (Nat.le_of_ble_eq_true rfl) dL_law_688 ?_
                                            clear h1
                                            refine g_icmp_eq C 984 hf dL_law_691 (by decide) (fun hf => ?_) (fun hf => ?_)
                                            · exact w_L_law_984 C  hQ A1 B1 hf
                                            · refine g_iconst C (v := 0) dL_law_694 rfl ?_
                                              have e0 : r0 = (0 : Int32) := (B1 _ (Option.some.inj hf).symm).symm
                                              exact absurd (hQ.2.2.symm.trans e0) (by decide)
                                          · refine g_if hf (fun hf e1 => ?_) (fun hf n20 => ?_)
                                            · refine g_tcase C (20 : Int32) 696 dL_law_33 e1 (by decide) (by decide) rfl (by decide) ?_
                                              refine g_aload_n C 1 dL_law_696 rfl ?_
                                              obtain ⟨v697, h1, hf⟩ := g_bind hf
                                              refine g_callVi C 0 [] (c_X8_emptySlots (Xl X) (gC_I C)  h1) ⟨wml_541, wim_542, wse_543, win_1, wcd_544⟩ (by decide) sh_0 vc_8 rfl hd_X8_emptySlots ⟨rfl, rfl⟩ ⟨Nat.le_of_ble_eq_true rfl, Nat.le_of_ble_eq_true rfl⟩ rfl rfl (Nat.le_of_ble_eq_true rfl) dL_law_697 ?_
                                              clear h1
                                              refine g_aload_n C 2 dL_law_700 rfl ?_
                                              obtain ⟨v701, h1, hf⟩ := g_bind hf
                                              refine g_callVi C 0 [] (c_X9_emptySlots (Xl X) (gC_I C)  h1) ⟨wml_938, wim_939, wse_940, win_10, wcd_941⟩ (by decide) sh_157 vc_9 rfl hd_X9_emptySlots ⟨rfl, rfl⟩ ⟨Nat.le_of_ble_eq_true rfl, Nat.le_of_ble_eq_true rfl⟩ rfl rfl (Nat.le_of_ble_eq_true rfl) dL_law_701 ?_
                                              clear h1
                                              refine g_icmp_eq C 984 hf dL_law_704 (by decide) (fun hf => ?_) (fun hf => ?_)
                                              · exact w_L_law_984 C  hQ A1 B1 hf
                                              · refine g_iconst C (v := 0) dL_law_707 rfl ?_
                                                have e0 : r0 = (0 : Int32) := (B1 _ (Option.some.inj hf).symm).symm
                                                exact absurd (hQ.2.2.symm.trans e0) (by decide)
                                            · refine g_if hf (fun hf e1 => ?_) (fun hf n21 => ?_)
                                              · refine g_tcase C (21 : Int32) 709 dL_law_33 e1 (by decide) (by decide) rfl (by decide) ?_
                                                refine g_aload_n C 1 dL_law_709 rfl ?_
                                                refine g_aload_n C 0 dL_law_710 rfl ?_
                                                refine g_iload_n C 3 dL_law_711 rfl ?_
                                                refine g_iconst C (v := 1) dL_law_712 rfl ?_
                                                refine g_iadd C dL_law_713 ?_
                                                obtain ⟨v714, h1, hf⟩ := g_bind hf
                                                refine g_sld C hQ.1 h1 dL_law_714 ?_
                                                clear h1
                                                refine g_aload_n C 0 dL_law_715 rfl ?_
                                                refine g_iload_n C 3 dL_law_716 rfl ?_
                                                refine g_iconst C (v := 2) dL_law_717 rfl ?_
                                                refine g_iadd C dL_law_718 ?_
                                                obtain ⟨v719, h1, hf⟩ := g_bind hf
                                                refine g_sld C hQ.1 h1 dL_law_719 ?_
                                                clear h1
                                                obtain ⟨q720, h1, hf⟩ := g_bind hf
                                                refine g_callVi C 2 [.int v714, .int v719] (c_X8_least (Xl X) (gC_I C)  h1) ⟨wml_545, wim_546, wse_547, win_1, wcd_548⟩ (by decide) sh_0 vc_8 rfl hd_X8_least ⟨rfl, rfl⟩ ⟨Nat.le_of_ble_eq_true rfl, Nat.le_of_ble_eq_true rfl⟩ rfl rfl (Nat.le_of_ble_eq_true rfl) dL_law_720 ?_
                                                clear h1
                                                refine g_aload_n C 2 dL_law_723 rfl ?_
                                                refine g_aload_n C 0 dL_law_724 rfl ?_
                                                refine g_iload_n C 3 dL_law_725 rfl ?_
                                                refine g_iconst C (v := 1) dL_law_726 rfl ?_
                                                refine g_iadd C dL_law_727 ?_
                                                obtain ⟨v728, h1, hf⟩ := g_bind hf
                                                refine g_sld C hQ.1 h1 dL_law_728 ?_
                                                clear h1
                                                refine g_aload_n C 0 dL_law_729 rfl ?_
                                                refine g_iload_n C 3 dL_law_730 rfl ?_
                                                refine g_iconst C (v := 2) dL_law_731 rfl ?_
                                                refine g_iadd C dL_law_732 ?_
                                                obtain ⟨v733, h1, hf⟩ := g_bind hf
                                                refine g_sld C hQ.1 h1 dL_law_733 ?_
                                                clear h1
                                                obtain ⟨q734, h1, hf⟩ := g_bind hf
                                                refine g_callVi C 2 [.int v728, .int v733] (c_X9_least (Xl X) (gC_I C)  h1) ⟨wml_942, wim_943, wse_944, win_10, wcd_945⟩ (by decide) sh_157 vc_9 rfl hd_X9_least ⟨rfl, rfl⟩ ⟨Nat.le_of_ble_eq_true rfl, Nat.le_of_ble_eq_true rfl⟩ rfl rfl (Nat.le_of_ble_eq_true rfl) dL_law_734 ?_
                                                clear h1
                                                refine g_icmp_eq C 984 hf dL_law_737 (by decide) (fun hf => ?_) (fun hf => ?_)
                                                · exact w_L_law_984 C  hQ A1 B1 hf
                                                · refine g_iconst C (v := 0) dL_law_740 rfl ?_
                                                  have e0 : r0 = (0 : Int32) := (B1 _ (Option.some.inj hf).symm).symm
                                                  exact absurd (hQ.2.2.symm.trans e0) (by decide)
                                              · refine g_if hf (fun hf e1 => ?_) (fun hf n22 => ?_)
                                                · refine g_tcase C (22 : Int32) 742 dL_law_33 e1 (by decide) (by decide) rfl (by decide) ?_
                                                  refine g_aload_n C 1 dL_law_742 rfl ?_
                                                  obtain ⟨v743, h1, hf⟩ := g_bind hf
                                                  refine g_callVi C 0 [] (c_X8_codeLength (Xl X) (gC_I C)  h1) ⟨wml_553, wim_554, wse_555, win_1, wcd_556⟩ (by decide) sh_0 vc_8 rfl hd_X8_codeLength ⟨rfl, rfl⟩ ⟨Nat.le_of_ble_eq_true rfl, Nat.le_of_ble_eq_true rfl⟩ rfl rfl (Nat.le_of_ble_eq_true rfl) dL_law_743 ?_
                                                  clear h1
                                                  refine g_aload_n C 2 dL_law_746 rfl ?_
                                                  obtain ⟨q747, h1, hf⟩ := g_bind hf
                                                  refine g_callVi C 0 [] (c_X9_codeLength (Xl X) (gC_I C)  h1) ⟨wml_950, wim_951, wse_952, win_10, wcd_953⟩ (by decide) sh_157 vc_9 rfl hd_X9_codeLength ⟨rfl, rfl⟩ ⟨Nat.le_of_ble_eq_true rfl, Nat.le_of_ble_eq_true rfl⟩ rfl rfl (Nat.le_of_ble_eq_true rfl) dL_law_747 ?_
                                                  clear h1
                                                  refine g_icmp_eq C 984 hf dL_law_750 (by decide) (fun hf => ?_) (fun hf => ?_)
                                                  · exact w_L_law_984 C  hQ A1 B1 hf
                                                  · refine g_iconst C (v := 0) dL_law_753 rfl ?_
                                                    have e0 : r0 = (0 : Int32) := (B1 _ (Option.some.inj hf).symm).symm
                                                    exact absurd (hQ.2.2.symm.trans e0) (by decide)
                                                · refine g_if hf (fun hf e1 => ?_) (fun hf n23 => ?_)
                                                  · refine g_tcase C (23 : Int32) 755 dL_law_33 e1 (by decide) (by decide) rfl (by decide) ?_
                                                    refine g_aload_n C 1 dL_law_755 rfl ?_
                                                    refine g_aload_n C 0 dL_law_756 rfl ?_
                                                    refine g_iload_n C 3 dL_law_757 rfl ?_
                                                    refine g_iconst C (v := 1) dL_law_758 rfl ?_
                                                    refine g_iadd C dL_law_759 ?_
                                                    obtain ⟨v760, h1, hf⟩ := g_bind hf
                                                    refine g_sld C hQ.1 h1 dL_law_760 ?_
                                                    clear h1
                                                    obtain ⟨v761, h1, hf⟩ := g_bind hf
                                                    refine g_callVi C 1 [.int v760] (c_X8_code (Xl X) (gC_I C)  h1) ⟨wml_557, wim_558, wse_559, win_1, wcd_560⟩ (by decide) sh_0 vc_8 rfl hd_X8_code ⟨rfl, rfl⟩ ⟨Nat.le_of_ble_eq_true rfl, Nat.le_of_ble_eq_true rfl⟩ rfl rfl (Nat.le_of_ble_eq_true rfl) dL_law_761 ?_
                                                    clear h1
                                                    refine g_aload_n C 2 dL_law_764 rfl ?_
                                                    refine g_aload_n C 0 dL_law_765 rfl ?_
                                                    refine g_iload_n C 3 dL_law_766 rfl ?_
                                                    refine g_iconst C (v := 1) dL_law_767 rfl ?_
                                                    refine g_iadd C dL_law_768 ?_
                                                    obtain ⟨v769, h1, hf⟩ := g_bind hf
                                                    refine g_sld C hQ.1 h1 dL_law_769 ?_
                                                    clear h1
                                                    obtain ⟨q770, h1, hf⟩ := g_bind hf
                                                    refine g_callVi C 1 [.int v769] (c_X9_code (Xl X) (gC_I C)  h1) ⟨wml_966, wim_967, wse_968, win_10, wcd_969⟩ (by decide) sh_157 vc_9 rfl hd_X9_code ⟨rfl, rfl⟩ ⟨Nat.le_of_ble_eq_true rfl, Nat.le_of_ble_eq_true rfl⟩ rfl rfl (Nat.le_of_ble_eq_true rfl) dL_law_770 ?_
                                                    clear h1
                                                    refine g_icmp_eq C 984 hf dL_law_773 (by decide) (fun hf => ?_) (fun hf => ?_)
                                                    · exact w_L_law_984 C  hQ A1 B1 hf
                                                    · refine g_iconst C (v := 0) dL_law_776 rfl ?_
                                                      have e0 : r0 = (0 : Int32) := (B1 _ (Option.some.inj hf).symm).symm
                                                      exact absurd (hQ.2.2.symm.trans e0) (by decide)
                                                  · refine g_if hf (fun hf e1 => ?_) (fun hf n24 => ?_)
                                                    · refine g_tcase C (24 : Int32) 778 dL_law_33 e1 (by decide) (by decide) rfl (by decide) ?_
                                                      refine g_aload_n C 1 dL_law_778 rfl ?_
                                                      refine g_aload_n C 0 dL_law_779 rfl ?_
                                                      refine g_iload_n C 3 dL_law_780 rfl ?_
                                                      refine g_iconst C (v := 1) dL_law_781 rfl ?_
                                                      refine g_iadd C dL_law_782 ?_
                                                      obtain ⟨v783, h1, hf⟩ := g_bind hf
                                                      refine g_sld C hQ.1 h1 dL_law_783 ?_
                                                      clear h1
                                                      obtain ⟨v784, h1, hf⟩ := g_bind hf
                                                      refine g_callVi C 1 [.int v783] (c_X8_codeIndex (Xl X) (gC_I C)  h1) ⟨wml_561, wim_562, wse_563, win_1, wcd_564⟩ (by decide) sh_0 vc_8 rfl hd_X8_codeIndex ⟨rfl, rfl⟩ ⟨Nat.le_of_ble_eq_true rfl, Nat.le_of_ble_eq_true rfl⟩ rfl rfl (Nat.le_of_ble_eq_true rfl) dL_law_784 ?_
                                                      clear h1
                                                      refine g_aload_n C 2 dL_law_787 rfl ?_
                                                      refine g_aload_n C 0 dL_law_788 rfl ?_
                                                      refine g_iload_n C 3 dL_law_789 rfl ?_
                                                      refine g_iconst C (v := 1) dL_law_790 rfl ?_
                                                      refine g_iadd C dL_law_791 ?_
                                                      obtain ⟨v792, h1, hf⟩ := g_bind hf
                                                      refine g_sld C hQ.1 h1 dL_law_792 ?_
                                                      clear h1
                                                      obtain ⟨q793, h1, hf⟩ := g_bind hf
                                                      refine g_callVi C 1 [.int v792] (c_X9_codeIndex (Xl X) (gC_I C)  h1) ⟨wml_970, wim_971, wse_972, win_10, wcd_973⟩ (by decide) sh_157 vc_9 rfl hd_X9_codeIndex ⟨rfl, rfl⟩ ⟨Nat.le_of_ble_eq_true rfl, Nat.le_of_ble_eq_true rfl⟩ rfl rfl (Nat.le_of_ble_eq_true rfl) dL_law_793 ?_
                                                      clear h1
                                                      refine g_icmp_eq C 984 hf dL_law_796 (by decide) (fun hf => ?_) (fun hf => ?_)
                                                      · exact w_L_law_984 C  hQ A1 B1 hf
                                                      · refine g_iconst C (v := 0) dL_law_799 rfl ?_
                                                        have e0 : r0 = (0 : Int32) := (B1 _ (Option.some.inj hf).symm).symm
                                                        exact absurd (hQ.2.2.symm.trans e0) (by decide)
                                                    · refine g_if hf (fun hf e1 => ?_) (fun hf n25 => ?_)
                                                      · refine g_tcase C (25 : Int32) 801 dL_law_33 e1 (by decide) (by decide) rfl (by decide) ?_
                                                        refine g_aload_n C 1 dL_law_801 rfl ?_
                                                        refine g_aload_n C 0 dL_law_802 rfl ?_
                                                        refine g_iload_n C 3 dL_law_803 rfl ?_
                                                        refine g_iconst C (v := 1) dL_law_804 rfl ?_
                                                        refine g_iadd C dL_law_805 ?_
                                                        obtain ⟨v806, h1, hf⟩ := g_bind hf
                                                        refine g_sld C hQ.1 h1 dL_law_806 ?_
                                                        clear h1
                                                        refine g_aload_n C 0 dL_law_807 rfl ?_
                                                        refine g_iload_n C 3 dL_law_808 rfl ?_
                                                        refine g_iconst C (v := 2) dL_law_809 rfl ?_
                                                        refine g_iadd C dL_law_810 ?_
                                                        obtain ⟨v811, h1, hf⟩ := g_bind hf
                                                        refine g_sld C hQ.1 h1 dL_law_811 ?_
                                                        clear h1
                                                        obtain ⟨q812, h1, hf⟩ := g_bind hf
                                                        refine g_callVi C 2 [.int v806, .int v811] (c_X8_setRegister (Xl X) (gC_I C)  h1) ⟨wml_565, wim_566, wse_567, win_1, wcd_568⟩ (by decide) sh_0 vc_8 rfl hd_X8_setRegister ⟨rfl, rfl⟩ ⟨Nat.le_of_ble_eq_true rfl, Nat.le_of_ble_eq_true rfl⟩ rfl rfl (Nat.le_of_ble_eq_true rfl) dL_law_812 ?_
                                                        clear h1
                                                        refine g_aload_n C 2 dL_law_815 rfl ?_
                                                        refine g_aload_n C 0 dL_law_816 rfl ?_
                                                        refine g_iload_n C 3 dL_law_817 rfl ?_
                                                        refine g_iconst C (v := 1) dL_law_818 rfl ?_
                                                        refine g_iadd C dL_law_819 ?_
                                                        obtain ⟨v820, h1, hf⟩ := g_bind hf
                                                        refine g_sld C hQ.1 h1 dL_law_820 ?_
                                                        clear h1
                                                        refine g_aload_n C 0 dL_law_821 rfl ?_
                                                        refine g_iload_n C 3 dL_law_822 rfl ?_
                                                        refine g_iconst C (v := 2) dL_law_823 rfl ?_
                                                        refine g_iadd C dL_law_824 ?_
                                                        obtain ⟨v825, h1, hf⟩ := g_bind hf
                                                        refine g_sld C hQ.1 h1 dL_law_825 ?_
                                                        clear h1
                                                        obtain ⟨q826, h1, hf⟩ := g_bind hf
                                                        refine g_callVi C 2 [.int v820, .int v825] (c_X9_setRegister (Xl X) (gC_I C)  h1) ⟨wml_974, wim_975, wse_976, win_10, wcd_977⟩ (by decide) sh_157 vc_9 rfl hd_X9_setRegister ⟨rfl, rfl⟩ ⟨Nat.le_of_ble_eq_true rfl, Nat.le_of_ble_eq_true rfl⟩ rfl rfl (Nat.le_of_ble_eq_true rfl) dL_law_826 ?_
                                                        clear h1
                                                        refine g_icmp_eq C 984 hf dL_law_829 (by decide) (fun hf => ?_) (fun hf => ?_)
                                                        · exact w_L_law_984 C  hQ A1 B1 hf
                                                        · refine g_iconst C (v := 0) dL_law_832 rfl ?_
                                                          have e0 : r0 = (0 : Int32) := (B1 _ (Option.some.inj hf).symm).symm
                                                          exact absurd (hQ.2.2.symm.trans e0) (by decide)
                                                      · refine g_if hf (fun hf e1 => ?_) (fun hf n26 => ?_)
                                                        · refine g_tcase C (26 : Int32) 834 dL_law_33 e1 (by decide) (by decide) rfl (by decide) ?_
                                                          refine g_aload_n C 1 dL_law_834 rfl ?_
                                                          refine g_aload_n C 0 dL_law_835 rfl ?_
                                                          refine g_iload_n C 3 dL_law_836 rfl ?_
                                                          refine g_iconst C (v := 1) dL_law_837 rfl ?_
                                                          refine g_iadd C dL_law_838 ?_
                                                          obtain ⟨v839, h1, hf⟩ := g_bind hf
                                                          refine g_sld C hQ.1 h1 dL_law_839 ?_
                                                          clear h1
                                                          obtain ⟨v840, h1, hf⟩ := g_bind hf
                                                          refine g_callVl C 1 [.int v839] (c_X8_register (Xl X) (gC_I C)  h1) ⟨wml_569, wim_570, wse_571, win_1, wcd_572⟩ (by decide) sh_0 vc_8 rfl hd_X8_register ⟨rfl, rfl⟩ ⟨Nat.le_of_ble_eq_true rfl, Nat.le_of_ble_eq_true rfl⟩ rfl rfl (Nat.le_of_ble_eq_true rfl) dL_law_840 ?_
                                                          clear h1
                                                          refine g_aload_n C 2 dL_law_843 rfl ?_
                                                          refine g_aload_n C 0 dL_law_844 rfl ?_
                                                          refine g_iload_n C 3 dL_law_845 rfl ?_
                                                          refine g_iconst C (v := 1) dL_law_846 rfl ?_
                                                          refine g_iadd C dL_law_847 ?_
                                                          obtain ⟨v848, h1, hf⟩ := g_bind hf
                                                          refine g_sld C hQ.1 h1 dL_law_848 ?_
                                                          clear h1
                                                          obtain ⟨v849, h1, hf⟩ := g_bind hf
                                                          refine g_callVl C 1 [.int v848] (c_X9_register (Xl X) (gC_I C)  h1) ⟨wml_978, wim_979, wse_980, win_10, wcd_981⟩ (by decide) sh_157 vc_9 rfl hd_X9_register ⟨rfl, rfl⟩ ⟨Nat.le_of_ble_eq_true rfl, Nat.le_of_ble_eq_true rfl⟩ rfl rfl (Nat.le_of_ble_eq_true rfl) dL_law_849 ?_
                                                          clear h1
                                                          refine g_lcmp C dL_law_852 ?_
                                                          refine g_if_eq C 984 hf dL_law_853 (by decide) (fun hf => ?_) (fun hf => ?_)
                                                          · exact w_L_law_984 C  hQ A1 B1 hf
                                                          · refine g_iconst C (v := 0) dL_law_856 rfl ?_
                                                            have e0 : r0 = (0 : Int32) := (B1 _ (Option.some.inj hf).symm).symm
                                                            exact absurd (hQ.2.2.symm.trans e0) (by decide)
                                                        · refine g_if hf (fun hf e1 => ?_) (fun hf n27 => ?_)
                                                          · refine g_tcase C (27 : Int32) 858 dL_law_33 e1 (by decide) (by decide) rfl (by decide) ?_
                                                            refine g_aload_n C 1 dL_law_858 rfl ?_
                                                            refine g_aload_n C 0 dL_law_859 rfl ?_
                                                            refine g_iload_n C 3 dL_law_860 rfl ?_
                                                            refine g_iconst C (v := 1) dL_law_861 rfl ?_
                                                            refine g_iadd C dL_law_862 ?_
                                                            obtain ⟨v863, h1, hf⟩ := g_bind hf
                                                            refine g_sld C hQ.1 h1 dL_law_863 ?_
                                                            clear h1
                                                            refine g_aload_n C 0 dL_law_864 rfl ?_
                                                            refine g_iload_n C 3 dL_law_865 rfl ?_
                                                            refine g_iconst C (v := 2) dL_law_866 rfl ?_
                                                            refine g_iadd C dL_law_867 ?_
                                                            obtain ⟨v868, h1, hf⟩ := g_bind hf
                                                            refine g_sld C hQ.1 h1 dL_law_868 ?_
                                                            clear h1
                                                            obtain ⟨q869, h1, hf⟩ := g_bind hf
                                                            refine g_callVi C 2 [.int v863, .int v868] (c_X8_setMemory (Xl X) (gC_I C)  h1) ⟨wml_574, wim_575, wse_576, win_1, wcd_577⟩ (by decide) sh_0 vc_8 rfl hd_X8_setMemory ⟨rfl, rfl⟩ ⟨Nat.le_of_ble_eq_true rfl, Nat.le_of_ble_eq_true rfl⟩ rfl rfl (Nat.le_of_ble_eq_true rfl) dL_law_869 ?_
                                                            clear h1
                                                            refine g_aload_n C 2 dL_law_872 rfl ?_
                                                            refine g_aload_n C 0 dL_law_873 rfl ?_
                                                            refine g_iload_n C 3 dL_law_874 rfl ?_
                                                            refine g_iconst C (v := 1) dL_law_875 rfl ?_
                                                            refine g_iadd C dL_law_876 ?_
                                                            obtain ⟨v877, h1, hf⟩ := g_bind hf
                                                            refine g_sld C hQ.1 h1 dL_law_877 ?_
                                                            clear h1
                                                            refine g_aload_n C 0 dL_law_878 rfl ?_
                                                            refine g_iload_n C 3 dL_law_879 rfl ?_
                                                            refine g_iconst C (v := 2) dL_law_880 rfl ?_
                                                            refine g_iadd C dL_law_881 ?_
                                                            obtain ⟨v882, h1, hf⟩ := g_bind hf
                                                            refine g_sld C hQ.1 h1 dL_law_882 ?_
                                                            clear h1
                                                            obtain ⟨q883, h1, hf⟩ := g_bind hf
                                                            refine g_callVi C 2 [.int v877, .int v882] (c_X9_setMemory (Xl X) (gC_I C)  h1) ⟨wml_983, wim_984, wse_985, win_10, wcd_986⟩ (by decide) sh_157 vc_9 rfl hd_X9_setMemory ⟨rfl, rfl⟩ ⟨Nat.le_of_ble_eq_true rfl, Nat.le_of_ble_eq_true rfl⟩ rfl rfl (Nat.le_of_ble_eq_true rfl) dL_law_883 ?_
                                                            clear h1
                                                            refine g_icmp_eq C 984 hf dL_law_886 (by decide) (fun hf => ?_) (fun hf => ?_)
                                                            · exact w_L_law_984 C  hQ A1 B1 hf
                                                            · refine g_iconst C (v := 0) dL_law_889 rfl ?_
                                                              have e0 : r0 = (0 : Int32) := (B1 _ (Option.some.inj hf).symm).symm
                                                              exact absurd (hQ.2.2.symm.trans e0) (by decide)
                                                          · refine g_if hf (fun hf e1 => ?_) (fun hf n28 => ?_)
                                                            · refine g_tcase C (28 : Int32) 891 dL_law_33 e1 (by decide) (by decide) rfl (by decide) ?_
                                                              refine g_aload_n C 1 dL_law_891 rfl ?_
                                                              refine g_aload_n C 0 dL_law_892 rfl ?_
                                                              refine g_iload_n C 3 dL_law_893 rfl ?_
                                                              refine g_iconst C (v := 1) dL_law_894 rfl ?_
                                                              refine g_iadd C dL_law_895 ?_
                                                              obtain ⟨v896, h1, hf⟩ := g_bind hf
                                                              refine g_sld C hQ.1 h1 dL_law_896 ?_
                                                              clear h1
                                                              obtain ⟨v897, h1, hf⟩ := g_bind hf
                                                              refine g_callVl C 1 [.int v896] (c_X8_memory (Xl X) (gC_I C)  h1) ⟨wml_578, wim_579, wse_580, win_1, wcd_581⟩ (by decide) sh_0 vc_8 rfl hd_X8_memory ⟨rfl, rfl⟩ ⟨Nat.le_of_ble_eq_true rfl, Nat.le_of_ble_eq_true rfl⟩ rfl rfl (Nat.le_of_ble_eq_true rfl) dL_law_897 ?_
                                                              clear h1
                                                              refine g_aload_n C 2 dL_law_900 rfl ?_
                                                              refine g_aload_n C 0 dL_law_901 rfl ?_
                                                              refine g_iload_n C 3 dL_law_902 rfl ?_
                                                              refine g_iconst C (v := 1) dL_law_903 rfl ?_
                                                              refine g_iadd C dL_law_904 ?_
                                                              obtain ⟨v905, h1, hf⟩ := g_bind hf
                                                              refine g_sld C hQ.1 h1 dL_law_905 ?_
                                                              clear h1
                                                              obtain ⟨v906, h1, hf⟩ := g_bind hf
                                                              refine g_callVl C 1 [.int v905] (c_X9_memory (Xl X) (gC_I C)  h1) ⟨wml_987, wim_988, wse_989, win_10, wcd_990⟩ (by decide) sh_157 vc_9 rfl hd_X9_memory ⟨rfl, rfl⟩ ⟨Nat.le_of_ble_eq_true rfl, Nat.le_of_ble_eq_true rfl⟩ rfl rfl (Nat.le_of_ble_eq_true rfl) dL_law_906 ?_
                                                              clear h1
                                                              refine g_lcmp C dL_law_909 ?_
                                                              refine g_if_eq C 984 hf dL_law_910 (by decide) (fun hf => ?_) (fun hf => ?_)
                                                              · exact w_L_law_984 C  hQ A1 B1 hf
                                                              · refine g_iconst C (v := 0) dL_law_913 rfl ?_
                                                                have e0 : r0 = (0 : Int32) := (B1 _ (Option.some.inj hf).symm).symm
                                                                exact absurd (hQ.2.2.symm.trans e0) (by decide)
                                                            · refine g_if hf (fun hf e1 => ?_) (fun hf n29 => ?_)
                                                              · refine g_tcase C (29 : Int32) 915 dL_law_33 e1 (by decide) (by decide) rfl (by decide) ?_
                                                                refine g_aload_n C 1 dL_law_915 rfl ?_
                                                                refine g_aload_n C 0 dL_law_916 rfl ?_
                                                                refine g_iload_n C 3 dL_law_917 rfl ?_
                                                                refine g_iconst C (v := 1) dL_law_918 rfl ?_
                                                                refine g_iadd C dL_law_919 ?_
                                                                obtain ⟨v920, h1, hf⟩ := g_bind hf
                                                                refine g_sld C hQ.1 h1 dL_law_920 ?_
                                                                clear h1
                                                                obtain ⟨q921, h1, hf⟩ := g_bind hf
                                                                refine g_callVi C 1 [.int v920] (c_X8_run (Xl X) (gC_I C)  h1) ⟨wml_582, wim_583, wse_584, win_1, wcd_585⟩ (by decide) sh_0 vc_8 rfl hd_X8_run ⟨rfl, rfl⟩ ⟨Nat.le_of_ble_eq_true rfl, Nat.le_of_ble_eq_true rfl⟩ rfl rfl (Nat.le_of_ble_eq_true rfl) dL_law_921 ?_
                                                                clear h1
                                                                refine g_aload_n C 2 dL_law_924 rfl ?_
                                                                refine g_aload_n C 0 dL_law_925 rfl ?_
                                                                refine g_iload_n C 3 dL_law_926 rfl ?_
                                                                refine g_iconst C (v := 1) dL_law_927 rfl ?_
                                                                refine g_iadd C dL_law_928 ?_
                                                                obtain ⟨v929, h1, hf⟩ := g_bind hf
                                                                refine g_sld C hQ.1 h1 dL_law_929 ?_
                                                                clear h1
                                                                obtain ⟨q930, h1, hf⟩ := g_bind hf
                                                                refine g_callVi C 1 [.int v929] (c_X9_run (Xl X) (gC_I C)  h1) ⟨wml_991, wim_992, wse_993, win_10, wcd_994⟩ (by decide) sh_157 vc_9 rfl hd_X9_run ⟨rfl, rfl⟩ ⟨Nat.le_of_ble_eq_true rfl, Nat.le_of_ble_eq_true rfl⟩ rfl rfl (Nat.le_of_ble_eq_true rfl) dL_law_930 ?_
                                                                clear h1
                                                                refine g_icmp_eq C 984 hf dL_law_933 (by decide) (fun hf => ?_) (fun hf => ?_)
                                                                · exact w_L_law_984 C  hQ A1 B1 hf
                                                                · refine g_iconst C (v := 0) dL_law_936 rfl ?_
                                                                  have e0 : r0 = (0 : Int32) := (B1 _ (Option.some.inj hf).symm).symm
                                                                  exact absurd (hQ.2.2.symm.trans e0) (by decide)
                                                              · refine g_if hf (fun hf e1 => ?_) (fun hf n30 => ?_)
                                                                · refine g_tcase C (30 : Int32) 938 dL_law_33 e1 (by decide) (by decide) rfl (by decide) ?_
                                                                  refine g_aload_n C 1 dL_law_938 rfl ?_
                                                                  refine g_aload_n C 0 dL_law_939 rfl ?_
                                                                  refine g_iload_n C 3 dL_law_940 rfl ?_
                                                                  refine g_iconst C (v := 1) dL_law_941 rfl ?_
                                                                  refine g_iadd C dL_law_942 ?_
                                                                  obtain ⟨v943, h1, hf⟩ := g_bind hf
                                                                  refine g_sld C hQ.1 h1 dL_law_943 ?_
                                                                  clear h1
                                                                  obtain ⟨q944, h1, hf⟩ := g_bind hf
                                                                  refine g_callVi C 1 [.int v943] (c_X8_runBundles (Xl X) (gC_I C)  h1) ⟨wml_613, wim_614, wse_615, win_1, wcd_616⟩ (by decide) sh_0 vc_8 rfl hd_X8_runBundles ⟨rfl, rfl⟩ ⟨Nat.le_of_ble_eq_true rfl, Nat.le_of_ble_eq_true rfl⟩ rfl rfl (Nat.le_of_ble_eq_true rfl) dL_law_944 ?_
                                                                  clear h1
                                                                  refine g_aload_n C 2 dL_law_947 rfl ?_
                                                                  refine g_aload_n C 0 dL_law_948 rfl ?_
                                                                  refine g_iload_n C 3 dL_law_949 rfl ?_
                                                                  refine g_iconst C (v := 1) dL_law_950 rfl ?_
                                                                  refine g_iadd C dL_law_951 ?_
                                                                  obtain ⟨v952, h1, hf⟩ := g_bind hf
                                                                  refine g_sld C hQ.1 h1 dL_law_952 ?_
                                                                  clear h1
                                                                  obtain ⟨q953, h1, hf⟩ := g_bind hf
                                                                  refine g_callVi C 1 [.int v952] (c_X9_runBundles (Xl X) (gC_I C)  h1) ⟨wml_1011, wim_1012, wse_1013, win_10, wcd_1014⟩ (by decide) sh_157 vc_9 rfl hd_X9_runBundles ⟨rfl, rfl⟩ ⟨Nat.le_of_ble_eq_true rfl, Nat.le_of_ble_eq_true rfl⟩ rfl rfl (Nat.le_of_ble_eq_true rfl) dL_law_953 ?_
                                                                  clear h1
                                                                  refine g_icmp_eq C 984 hf dL_law_956 (by decide) (fun hf => ?_) (fun hf => ?_)
                                                                  · exact w_L_law_984 C  hQ A1 B1 hf
                                                                  · refine g_iconst C (v := 0) dL_law_959 rfl ?_
                                                                    have e0 : r0 = (0 : Int32) := (B1 _ (Option.some.inj hf).symm).symm
                                                                    exact absurd (hQ.2.2.symm.trans e0) (by decide)
                                                                · refine g_if hf (fun hf e1 => ?_) (fun hf n31 => ?_)
                                                                  · refine g_tcase C (31 : Int32) 961 dL_law_33 e1 (by decide) (by decide) rfl (by decide) ?_
                                                                    refine g_aload_n C 1 dL_law_961 rfl ?_
                                                                    refine g_aload_n C 0 dL_law_962 rfl ?_
                                                                    refine g_iload_n C 3 dL_law_963 rfl ?_
                                                                    refine g_iconst C (v := 1) dL_law_964 rfl ?_
                                                                    refine g_iadd C dL_law_965 ?_
                                                                    obtain ⟨v966, h1, hf⟩ := g_bind hf
                                                                    refine g_sld C hQ.1 h1 dL_law_966 ?_
                                                                    clear h1
                                                                    obtain ⟨q967, h1, hf⟩ := g_bind hf
                                                                    refine g_callVi C 1 [.int v966] (c_X8_compare (Xl X) (gC_I C)  h1) ⟨wml_639, wim_640, wse_641, win_1, wcd_642⟩ (by decide) sh_0 vc_8 rfl hd_X8_compare ⟨rfl, rfl⟩ ⟨Nat.le_of_ble_eq_true rfl, Nat.le_of_ble_eq_true rfl⟩ rfl rfl (Nat.le_of_ble_eq_true rfl) dL_law_967 ?_
                                                                    clear h1
                                                                    refine g_aload_n C 2 dL_law_970 rfl ?_
                                                                    refine g_aload_n C 0 dL_law_971 rfl ?_
                                                                    refine g_iload_n C 3 dL_law_972 rfl ?_
                                                                    refine g_iconst C (v := 1) dL_law_973 rfl ?_
                                                                    refine g_iadd C dL_law_974 ?_
                                                                    obtain ⟨v975, h1, hf⟩ := g_bind hf
                                                                    refine g_sld C hQ.1 h1 dL_law_975 ?_
                                                                    clear h1
                                                                    obtain ⟨q976, h1, hf⟩ := g_bind hf
                                                                    refine g_callVi C 1 [.int v975] (c_X9_compare (Xl X) (gC_I C)  h1) ⟨wml_1023, wim_1024, wse_1025, win_10, wcd_1026⟩ (by decide) sh_157 vc_9 rfl hd_X9_compare ⟨rfl, rfl⟩ ⟨Nat.le_of_ble_eq_true rfl, Nat.le_of_ble_eq_true rfl⟩ rfl rfl (Nat.le_of_ble_eq_true rfl) dL_law_976 ?_
                                                                    clear h1
                                                                    refine g_icmp_eq C 984 hf dL_law_979 (by decide) (fun hf => ?_) (fun hf => ?_)
                                                                    · exact w_L_law_984 C  hQ A1 B1 hf
                                                                    · refine g_iconst C (v := 0) dL_law_982 rfl ?_
                                                                      have e0 : r0 = (0 : Int32) := (B1 _ (Option.some.inj hf).symm).symm
                                                                      exact absurd (hQ.2.2.symm.trans e0) (by decide)
                                                                  · refine g_tout C 984 dL_law_33 (by have := lv_neT (a := 0) n0 rfl; have := lv_neT (a := 1) n1 rfl; have := lv_neT (a := 2) n2 rfl; have := lv_neT (a := 3) n3 rfl; have := lv_neT (a := 4) n4 rfl; have := lv_neT (a := 5) n5 rfl; have := lv_neT (a := 6) n6 rfl; have := lv_neT (a := 7) n7 rfl; have := lv_neT (a := 8) n8 rfl; have := lv_neT (a := 9) n9 rfl; have := lv_neT (a := 10) n10 rfl; have := lv_neT (a := 11) n11 rfl; have := lv_neT (a := 12) n12 rfl; have := lv_neT (a := 13) n13 rfl; have := lv_neT (a := 14) n14 rfl; have := lv_neT (a := 15) n15 rfl; have := lv_neT (a := 16) n16 rfl; have := lv_neT (a := 17) n17 rfl; have := lv_neT (a := 18) n18 rfl; have := lv_neT (a := 19) n19 rfl; have := lv_neT (a := 20) n20 rfl; have := lv_neT (a := 21) n21 rfl; have := lv_neT (a := 22) n22 rfl; have := lv_neT (a := 23) n23 rfl; have := lv_neT (a := 24) n24 rfl; have := lv_neT (a := 25) n25 rfl; have := lv_neT (a := 26) n26 rfl; have := lv_neT (a := 27) n27 rfl; have := lv_neT (a := 28) n28 rfl; have := lv_neT (a := 29) n29 rfl; have := lv_neT (a := 30) n30 rfl; have := lv_neT (a := 31) n31 rfl; omega) (by decide) ?_
                                                                    exact w_L_law_984 C  hQ A1 B1 hf
theorem wl_L_law_18 {X : gX} {L : Nat} {xs : Nat → Int32} {r0 : Int32} (C : gC X cL_law 4 RL (some .boolean) room_1)  {sb : Nat} (hQ : lawQ X sb L xs r0)  {n : Nat} {a : (Int32 × sg)} (hf : L_L_law_18 L xs n a = some r0) : G X 4 a.2 18 [(0, .ref sb), (1, .ref (Xd X 0)), (2, .ref (Xd X 157)), (3, .int a.1)] [] := by
  unfold L_L_law_18 at hf
  have key := g_loop_ind (res := r0) (f := fun a => B_L_law_18 L xs a.1 a.2) (P := fun a => G X 4 a.2 18 [(0, .ref sb), (1, .ref (Xd X 0)), (2, .ref (Xd X 157)), (3, .int a.1)] []) (fun a r1 h1 k1 k2 => w_L_law_18 (x3 := a.1) (σ := a.2) C  hQ  k1 k2 h1)
  exact key n a hf
