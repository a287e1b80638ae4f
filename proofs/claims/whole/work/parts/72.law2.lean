/-! ===== the law: its cases ===== -/
section LawC
variable {X : Cx} {b Ln : Nat} {xs : Nat → Int32}
theorem law_letter (hX : Fx X code RL ret 13 600000 7302250) (hL : LX X b Ln xs) (hLn : Ln ≤ 2048) {W : Wp} {M : Md} (h : Rel W M) {i : Nat} (hi : i + 4 ≤ Ln) {kc ks : Nat} (hk1 : kc + 1 ≤ 600000) (hk2 : ks + 20 ≤ 7302250) (nx : ∀ W' M', Rel W' M' → PW X 18 [some (.ref 1500), some (.ref 0), some (.ref 45), some (.int (nI (i + 4)))] [] (LH W' M') (kc + 1) (ks + 20)) : PW X 176 [some (.ref 1500), some (.ref 0), some (.ref 45), some (.int (nI i))] [] (LH W M) kc ks := by
  obtain ⟨r, W', M', cx, cm, hr⟩ := cs_letter h (xs (i + 1))
  have n2 := nx W' M' hr
  refine PW.aload_n hX dL_law_176 rfl rfl ?_
  refine PW.aload_n hX dL_law_177 rfl rfl ?_
  refine PW.iload_n hX dL_law_178 rfl rfl ?_
  refine PW.iconst (v := nI 1) hX dL_law_179 (by decide) ?_
  refine PW.iadd hX dL_law_180 ?_
  refine PW.top (nI_add i 1) ?_
  refine PW.sld hX hL (k := i + 1) (by omega) (by omega) dL_law_181 rfl ?_
  refine PW.vG hX ml_L_13 cx dL_law_182 LI1 (le_x W M) rfl rfl rfl rfl rfl rfl rfl (by omega) (by omega) rfl rfl rfl rfl (lh_x W W' M) ?_
  refine PW.aload_n hX dL_law_185 rfl rfl ?_
  refine PW.aload_n hX dL_law_186 rfl rfl ?_
  refine PW.iload_n hX dL_law_187 rfl rfl ?_
  refine PW.iconst (v := nI 1) hX dL_law_188 (by decide) ?_
  refine PW.iadd hX dL_law_189 ?_
  refine PW.top (nI_add i 1) ?_
  refine PW.sld hX hL (k := i + 1) (by omega) (by omega) dL_law_190 rfl ?_
  refine PW.vG hX ml_L_17 cm dL_law_191 LI2 (le_m W' M) rfl rfl rfl rfl rfl rfl rfl (by omega) (by omega) rfl rfl rfl rfl (lh_m W' M M') ?_
  refine PW.icmp_eq (tgt := 1002) hX dL_law_194 (by decide) (fun c194 => ?_) (fun c194 => ?_)
  · refine PW.iinc (v := nI (i + 4)) hX dL_law_1002 rfl (show nI i + Int32.ofInt 4 = nI (i + 4) from nI_add i 4) ?_
    refine PW.goto (tgt := 18) hX dL_law_1005 (by decide) ?_
    exact PW.widen (by omega) (by omega) n2
  · exact absurd rfl c194 -- CLOSED
theorem law_floor (hX : Fx X code RL ret 13 600000 7302250) (hL : LX X b Ln xs) (hLn : Ln ≤ 2048) {W : Wp} {M : Md} (h : Rel W M) {i : Nat} (hi : i + 4 ≤ Ln) {kc ks : Nat} (hk1 : kc + 1 ≤ 600000) (hk2 : ks + 20 ≤ 7302250) (nx : ∀ W' M', Rel W' M' → PW X 18 [some (.ref 1500), some (.ref 0), some (.ref 45), some (.int (nI (i + 4)))] [] (LH W' M') (kc + 1) (ks + 20)) : PW X 199 [some (.ref 1500), some (.ref 0), some (.ref 45), some (.int (nI i))] [] (LH W M) kc ks := by
  obtain ⟨r, W', M', cx, cm, hr⟩ := cs_floor h 
  have n2 := nx W' M' hr
  refine PW.aload_n hX dL_law_199 rfl rfl ?_
  refine PW.vG hX ml_L_18 cx dL_law_200 LI1 (le_x W M) rfl rfl rfl rfl rfl rfl rfl (by omega) (by omega) rfl rfl rfl rfl (lh_x W W' M) ?_
  refine PW.aload_n hX dL_law_203 rfl rfl ?_
  refine PW.vG hX ml_L_22 cm dL_law_204 LI2 (le_m W' M) rfl rfl rfl rfl rfl rfl rfl (by omega) (by omega) rfl rfl rfl rfl (lh_m W' M M') ?_
  refine PW.icmp_eq (tgt := 1002) hX dL_law_207 (by decide) (fun c207 => ?_) (fun c207 => ?_)
  · refine PW.iinc (v := nI (i + 4)) hX dL_law_1002 rfl (show nI i + Int32.ofInt 4 = nI (i + 4) from nI_add i 4) ?_
    refine PW.goto (tgt := 18) hX dL_law_1005 (by decide) ?_
    exact PW.widen (by omega) (by omega) n2
  · exact absurd rfl c207 -- CLOSED
theorem law_job (hX : Fx X code RL ret 13 600000 7302250) (hL : LX X b Ln xs) (hLn : Ln ≤ 2048) {W : Wp} {M : Md} (h : Rel W M) {i : Nat} (hi : i + 4 ≤ Ln) {kc ks : Nat} (hk1 : kc + 1 ≤ 600000) (hk2 : ks + 20 ≤ 7302250) (nx : ∀ W' M', Rel W' M' → PW X 18 [some (.ref 1500), some (.ref 0), some (.ref 45), some (.int (nI (i + 4)))] [] (LH W' M') (kc + 1) (ks + 20)) : PW X 212 [some (.ref 1500), some (.ref 0), some (.ref 45), some (.int (nI i))] [] (LH W M) kc ks := by
  obtain ⟨r, W', M', cx, cm, hr⟩ := cs_job h (xs (i + 1)) (xs (i + 2))
  have n2 := nx W' M' hr
  refine PW.aload_n hX dL_law_212 rfl rfl ?_
  refine PW.aload_n hX dL_law_213 rfl rfl ?_
  refine PW.iload_n hX dL_law_214 rfl rfl ?_
  refine PW.iconst (v := nI 1) hX dL_law_215 (by decide) ?_
  refine PW.iadd hX dL_law_216 ?_
  refine PW.top (nI_add i 1) ?_
  refine PW.sld hX hL (k := i + 1) (by omega) (by omega) dL_law_217 rfl ?_
  refine PW.aload_n hX dL_law_218 rfl rfl ?_
  refine PW.iload_n hX dL_law_219 rfl rfl ?_
  refine PW.iconst (v := nI 2) hX dL_law_220 (by decide) ?_
  refine PW.iadd hX dL_law_221 ?_
  refine PW.top (nI_add i 2) ?_
  refine PW.sld hX hL (k := i + 2) (by omega) (by omega) dL_law_222 rfl ?_
  refine PW.vG hX ml_L_23 cx dL_law_223 LI1 (le_x W M) rfl rfl rfl rfl rfl rfl rfl (by omega) (by omega) rfl rfl rfl rfl (lh_x W W' M) ?_
  refine PW.aload_n hX dL_law_226 rfl rfl ?_
  refine PW.aload_n hX dL_law_227 rfl rfl ?_
  refine PW.iload_n hX dL_law_228 rfl rfl ?_
  refine PW.iconst (v := nI 1) hX dL_law_229 (by decide) ?_
  refine PW.iadd hX dL_law_230 ?_
  refine PW.top (nI_add i 1) ?_
  refine PW.sld hX hL (k := i + 1) (by omega) (by omega) dL_law_231 rfl ?_
  refine PW.aload_n hX dL_law_232 rfl rfl ?_
  refine PW.iload_n hX dL_law_233 rfl rfl ?_
  refine PW.iconst (v := nI 2) hX dL_law_234 (by decide) ?_
  refine PW.iadd hX dL_law_235 ?_
  refine PW.top (nI_add i 2) ?_
  refine PW.sld hX hL (k := i + 2) (by omega) (by omega) dL_law_236 rfl ?_
  refine PW.vG hX ml_L_27 cm dL_law_237 LI2 (le_m W' M) rfl rfl rfl rfl rfl rfl rfl (by omega) (by omega) rfl rfl rfl rfl (lh_m W' M M') ?_
  refine PW.icmp_eq (tgt := 1002) hX dL_law_240 (by decide) (fun c240 => ?_) (fun c240 => ?_)
  · refine PW.iinc (v := nI (i + 4)) hX dL_law_1002 rfl (show nI i + Int32.ofInt 4 = nI (i + 4) from nI_add i 4) ?_
    refine PW.goto (tgt := 18) hX dL_law_1005 (by decide) ?_
    exact PW.widen (by omega) (by omega) n2
  · exact absurd rfl c240 -- CLOSED
theorem law_taker (hX : Fx X code RL ret 13 600000 7302250) (hL : LX X b Ln xs) (hLn : Ln ≤ 2048) {W : Wp} {M : Md} (h : Rel W M) {i : Nat} (hi : i + 4 ≤ Ln) {kc ks : Nat} (hk1 : kc + 1 ≤ 600000) (hk2 : ks + 20 ≤ 7302250) (nx : ∀ W' M', Rel W' M' → PW X 18 [some (.ref 1500), some (.ref 0), some (.ref 45), some (.int (nI (i + 4)))] [] (LH W' M') (kc + 1) (ks + 20)) : PW X 245 [some (.ref 1500), some (.ref 0), some (.ref 45), some (.int (nI i))] [] (LH W M) kc ks := by
  obtain ⟨r, W', M', cx, cm, hr⟩ := cs_taker h (xs (i + 1)) (xs (i + 2))
  have n2 := nx W' M' hr
  refine PW.aload_n hX dL_law_245 rfl rfl ?_
  refine PW.aload_n hX dL_law_246 rfl rfl ?_
  refine PW.iload_n hX dL_law_247 rfl rfl ?_
  refine PW.iconst (v := nI 1) hX dL_law_248 (by decide) ?_
  refine PW.iadd hX dL_law_249 ?_
  refine PW.top (nI_add i 1) ?_
  refine PW.sld hX hL (k := i + 1) (by omega) (by omega) dL_law_250 rfl ?_
  refine PW.aload_n hX dL_law_251 rfl rfl ?_
  refine PW.iload_n hX dL_law_252 rfl rfl ?_
  refine PW.iconst (v := nI 2) hX dL_law_253 (by decide) ?_
  refine PW.iadd hX dL_law_254 ?_
  refine PW.top (nI_add i 2) ?_
  refine PW.sld hX hL (k := i + 2) (by omega) (by omega) dL_law_255 rfl ?_
  refine PW.vG hX ml_L_28 cx dL_law_256 LI1 (le_x W M) rfl rfl rfl rfl rfl rfl rfl (by omega) (by omega) rfl rfl rfl rfl (lh_x W W' M) ?_
  refine PW.aload_n hX dL_law_259 rfl rfl ?_
  refine PW.aload_n hX dL_law_260 rfl rfl ?_
  refine PW.iload_n hX dL_law_261 rfl rfl ?_
  refine PW.iconst (v := nI 1) hX dL_law_262 (by decide) ?_
  refine PW.iadd hX dL_law_263 ?_
  refine PW.top (nI_add i 1) ?_
  refine PW.sld hX hL (k := i + 1) (by omega) (by omega) dL_law_264 rfl ?_
  refine PW.aload_n hX dL_law_265 rfl rfl ?_
  refine PW.iload_n hX dL_law_266 rfl rfl ?_
  refine PW.iconst (v := nI 2) hX dL_law_267 (by decide) ?_
  refine PW.iadd hX dL_law_268 ?_
  refine PW.top (nI_add i 2) ?_
  refine PW.sld hX hL (k := i + 2) (by omega) (by omega) dL_law_269 rfl ?_
  refine PW.vG hX ml_L_31 cm dL_law_270 LI2 (le_m W' M) rfl rfl rfl rfl rfl rfl rfl (by omega) (by omega) rfl rfl rfl rfl (lh_m W' M M') ?_
  refine PW.icmp_eq (tgt := 1002) hX dL_law_273 (by decide) (fun c273 => ?_) (fun c273 => ?_)
  · refine PW.iinc (v := nI (i + 4)) hX dL_law_1002 rfl (show nI i + Int32.ofInt 4 = nI (i + 4) from nI_add i 4) ?_
    refine PW.goto (tgt := 18) hX dL_law_1005 (by decide) ?_
    exact PW.widen (by omega) (by omega) n2
  · exact absurd rfl c273 -- CLOSED
theorem law_sent (hX : Fx X code RL ret 13 600000 7302250) (hL : LX X b Ln xs) (hLn : Ln ≤ 2048) {W : Wp} {M : Md} (h : Rel W M) {i : Nat} (hi : i + 4 ≤ Ln) {kc ks : Nat} (hk1 : kc + 1 ≤ 600000) (hk2 : ks + 20 ≤ 7302250) (nx : ∀ W' M', Rel W' M' → PW X 18 [some (.ref 1500), some (.ref 0), some (.ref 45), some (.int (nI (i + 4)))] [] (LH W' M') (kc + 1) (ks + 20)) : PW X 278 [some (.ref 1500), some (.ref 0), some (.ref 45), some (.int (nI i))] [] (LH W M) kc ks := by
  obtain ⟨r, W', M', cx, cm, hr⟩ := cs_sent h (xs (i + 1)) (xs (i + 2))
  have n2 := nx W' M' hr
  refine PW.aload_n hX dL_law_278 rfl rfl ?_
  refine PW.aload_n hX dL_law_279 rfl rfl ?_
  refine PW.iload_n hX dL_law_280 rfl rfl ?_
  refine PW.iconst (v := nI 1) hX dL_law_281 (by decide) ?_
  refine PW.iadd hX dL_law_282 ?_
  refine PW.top (nI_add i 1) ?_
  refine PW.sld hX hL (k := i + 1) (by omega) (by omega) dL_law_283 rfl ?_
  refine PW.aload_n hX dL_law_284 rfl rfl ?_
  refine PW.iload_n hX dL_law_285 rfl rfl ?_
  refine PW.iconst (v := nI 2) hX dL_law_286 (by decide) ?_
  refine PW.iadd hX dL_law_287 ?_
  refine PW.top (nI_add i 2) ?_
  refine PW.sld hX hL (k := i + 2) (by omega) (by omega) dL_law_288 rfl ?_
  refine PW.vG hX ml_L_32 cx dL_law_289 LI1 (le_x W M) rfl rfl rfl rfl rfl rfl rfl (by omega) (by omega) rfl rfl rfl rfl (lh_x W W' M) ?_
  refine PW.aload_n hX dL_law_292 rfl rfl ?_
  refine PW.aload_n hX dL_law_293 rfl rfl ?_
  refine PW.iload_n hX dL_law_294 rfl rfl ?_
  refine PW.iconst (v := nI 1) hX dL_law_295 (by decide) ?_
  refine PW.iadd hX dL_law_296 ?_
  refine PW.top (nI_add i 1) ?_
  refine PW.sld hX hL (k := i + 1) (by omega) (by omega) dL_law_297 rfl ?_
  refine PW.aload_n hX dL_law_298 rfl rfl ?_
  refine PW.iload_n hX dL_law_299 rfl rfl ?_
  refine PW.iconst (v := nI 2) hX dL_law_300 (by decide) ?_
  refine PW.iadd hX dL_law_301 ?_
  refine PW.top (nI_add i 2) ?_
  refine PW.sld hX hL (k := i + 2) (by omega) (by omega) dL_law_302 rfl ?_
  refine PW.vG hX ml_L_35 cm dL_law_303 LI2 (le_m W' M) rfl rfl rfl rfl rfl rfl rfl (by omega) (by omega) rfl rfl rfl rfl (lh_m W' M M') ?_
  refine PW.icmp_eq (tgt := 1002) hX dL_law_306 (by decide) (fun c306 => ?_) (fun c306 => ?_)
  · refine PW.iinc (v := nI (i + 4)) hX dL_law_1002 rfl (show nI i + Int32.ofInt 4 = nI (i + 4) from nI_add i 4) ?_
    refine PW.goto (tgt := 18) hX dL_law_1005 (by decide) ?_
    exact PW.widen (by omega) (by omega) n2
  · exact absurd rfl c306 -- CLOSED
theorem law_machine (hX : Fx X code RL ret 13 600000 7302250) (hL : LX X b Ln xs) (hLn : Ln ≤ 2048) {W : Wp} {M : Md} (h : Rel W M) {i : Nat} (hi : i + 4 ≤ Ln) {kc ks : Nat} (hk1 : kc + 1 ≤ 600000) (hk2 : ks + 20 ≤ 7302250) (nx : ∀ W' M', Rel W' M' → PW X 18 [some (.ref 1500), some (.ref 0), some (.ref 45), some (.int (nI (i + 4)))] [] (LH W' M') (kc + 1) (ks + 20)) : PW X 311 [some (.ref 1500), some (.ref 0), some (.ref 45), some (.int (nI i))] [] (LH W M) kc ks := by
  obtain ⟨r, W', M', cx, cm, hr⟩ := cs_machine h (xs (i + 1)) (xs (i + 2))
  have n2 := nx W' M' hr
  refine PW.aload_n hX dL_law_311 rfl rfl ?_
  refine PW.aload_n hX dL_law_312 rfl rfl ?_
  refine PW.iload_n hX dL_law_313 rfl rfl ?_
  refine PW.iconst (v := nI 1) hX dL_law_314 (by decide) ?_
  refine PW.iadd hX dL_law_315 ?_
  refine PW.top (nI_add i 1) ?_
  refine PW.sld hX hL (k := i + 1) (by omega) (by omega) dL_law_316 rfl ?_
  refine PW.aload_n hX dL_law_317 rfl rfl ?_
  refine PW.iload_n hX dL_law_318 rfl rfl ?_
  refine PW.iconst (v := nI 2) hX dL_law_319 (by decide) ?_
  refine PW.iadd hX dL_law_320 ?_
  refine PW.top (nI_add i 2) ?_
  refine PW.sld hX hL (k := i + 2) (by omega) (by omega) dL_law_321 rfl ?_
  refine PW.vG hX ml_L_36 cx dL_law_322 LI1 (le_x W M) rfl rfl rfl rfl rfl rfl rfl (by omega) (by omega) rfl rfl rfl rfl (lh_x W W' M) ?_
  refine PW.aload_n hX dL_law_325 rfl rfl ?_
  refine PW.aload_n hX dL_law_326 rfl rfl ?_
  refine PW.iload_n hX dL_law_327 rfl rfl ?_
  refine PW.iconst (v := nI 1) hX dL_law_328 (by decide) ?_
  refine PW.iadd hX dL_law_329 ?_
  refine PW.top (nI_add i 1) ?_
  refine PW.sld hX hL (k := i + 1) (by omega) (by omega) dL_law_330 rfl ?_
  refine PW.aload_n hX dL_law_331 rfl rfl ?_
  refine PW.iload_n hX dL_law_332 rfl rfl ?_
  refine PW.iconst (v := nI 2) hX dL_law_333 (by decide) ?_
  refine PW.iadd hX dL_law_334 ?_
  refine PW.top (nI_add i 2) ?_
  refine PW.sld hX hL (k := i + 2) (by omega) (by omega) dL_law_335 rfl ?_
  refine PW.vG hX ml_L_39 cm dL_law_336 LI2 (le_m W' M) rfl rfl rfl rfl rfl rfl rfl (by omega) (by omega) rfl rfl rfl rfl (lh_m W' M M') ?_
  refine PW.icmp_eq (tgt := 1002) hX dL_law_339 (by decide) (fun c339 => ?_) (fun c339 => ?_)
  · refine PW.iinc (v := nI (i + 4)) hX dL_law_1002 rfl (show nI i + Int32.ofInt 4 = nI (i + 4) from nI_add i 4) ?_
    refine PW.goto (tgt := 18) hX dL_law_1005 (by decide) ?_
    exact PW.widen (by omega) (by omega) n2
  · exact absurd rfl c339 -- CLOSED
theorem law_comes (hX : Fx X code RL ret 13 600000 7302250) (hL : LX X b Ln xs) (hLn : Ln ≤ 2048) {W : Wp} {M : Md} (h : Rel W M) {i : Nat} (hi : i + 4 ≤ Ln) {kc ks : Nat} (hk1 : kc + 1 ≤ 600000) (hk2 : ks + 20 ≤ 7302250) (nx : ∀ W' M', Rel W' M' → PW X 18 [some (.ref 1500), some (.ref 0), some (.ref 45), some (.int (nI (i + 4)))] [] (LH W' M') (kc + 1) (ks + 20)) : PW X 344 [some (.ref 1500), some (.ref 0), some (.ref 45), some (.int (nI i))] [] (LH W M) kc ks := by
  obtain ⟨r, W', M', cx, cm, hr⟩ := cs_comes h (xs (i + 1)) (xs (i + 2))
  have n2 := nx W' M' hr
  refine PW.aload_n hX dL_law_344 rfl rfl ?_
  refine PW.aload_n hX dL_law_345 rfl rfl ?_
  refine PW.iload_n hX dL_law_346 rfl rfl ?_
  refine PW.iconst (v := nI 1) hX dL_law_347 (by decide) ?_
  refine PW.iadd hX dL_law_348 ?_
  refine PW.top (nI_add i 1) ?_
  refine PW.sld hX hL (k := i + 1) (by omega) (by omega) dL_law_349 rfl ?_
  refine PW.aload_n hX dL_law_350 rfl rfl ?_
  refine PW.iload_n hX dL_law_351 rfl rfl ?_
  refine PW.iconst (v := nI 2) hX dL_law_352 (by decide) ?_
  refine PW.iadd hX dL_law_353 ?_
  refine PW.top (nI_add i 2) ?_
  refine PW.sld hX hL (k := i + 2) (by omega) (by omega) dL_law_354 rfl ?_
  refine PW.vG hX ml_L_40 cx dL_law_355 LI1 (le_x W M) rfl rfl rfl rfl rfl rfl rfl (by omega) (by omega) rfl rfl rfl rfl (lh_x W W' M) ?_
  refine PW.aload_n hX dL_law_358 rfl rfl ?_
  refine PW.aload_n hX dL_law_359 rfl rfl ?_
  refine PW.iload_n hX dL_law_360 rfl rfl ?_
  refine PW.iconst (v := nI 1) hX dL_law_361 (by decide) ?_
  refine PW.iadd hX dL_law_362 ?_
  refine PW.top (nI_add i 1) ?_
  refine PW.sld hX hL (k := i + 1) (by omega) (by omega) dL_law_363 rfl ?_
  refine PW.aload_n hX dL_law_364 rfl rfl ?_
  refine PW.iload_n hX dL_law_365 rfl rfl ?_
  refine PW.iconst (v := nI 2) hX dL_law_366 (by decide) ?_
  refine PW.iadd hX dL_law_367 ?_
  refine PW.top (nI_add i 2) ?_
  refine PW.sld hX hL (k := i + 2) (by omega) (by omega) dL_law_368 rfl ?_
  refine PW.vG hX ml_L_43 cm dL_law_369 LI2 (le_m W' M) rfl rfl rfl rfl rfl rfl rfl (by omega) (by omega) rfl rfl rfl rfl (lh_m W' M M') ?_
  refine PW.icmp_eq (tgt := 1002) hX dL_law_372 (by decide) (fun c372 => ?_) (fun c372 => ?_)
  · refine PW.iinc (v := nI (i + 4)) hX dL_law_1002 rfl (show nI i + Int32.ofInt 4 = nI (i + 4) from nI_add i 4) ?_
    refine PW.goto (tgt := 18) hX dL_law_1005 (by decide) ?_
    exact PW.widen (by omega) (by omega) n2
  · exact absurd rfl c372 -- CLOSED
theorem law_out (hX : Fx X code RL ret 13 600000 7302250) (hL : LX X b Ln xs) (hLn : Ln ≤ 2048) {W : Wp} {M : Md} (h : Rel W M) {i : Nat} (hi : i + 4 ≤ Ln) {kc ks : Nat} (hk1 : kc + 1 ≤ 600000) (hk2 : ks + 20 ≤ 7302250) (nx : ∀ W' M', Rel W' M' → PW X 18 [some (.ref 1500), some (.ref 0), some (.ref 45), some (.int (nI (i + 4)))] [] (LH W' M') (kc + 1) (ks + 20)) : PW X 377 [some (.ref 1500), some (.ref 0), some (.ref 45), some (.int (nI i))] [] (LH W M) kc ks := by
  obtain ⟨r, W', M', cx, cm, hr⟩ := cs_out h (xs (i + 1)) (xs (i + 2))
  have n2 := nx W' M' hr
  refine PW.aload_n hX dL_law_377 rfl rfl ?_
  refine PW.aload_n hX dL_law_378 rfl rfl ?_
  refine PW.iload_n hX dL_law_379 rfl rfl ?_
  refine PW.iconst (v := nI 1) hX dL_law_380 (by decide) ?_
  refine PW.iadd hX dL_law_381 ?_
  refine PW.top (nI_add i 1) ?_
  refine PW.sld hX hL (k := i + 1) (by omega) (by omega) dL_law_382 rfl ?_
  refine PW.aload_n hX dL_law_383 rfl rfl ?_
  refine PW.iload_n hX dL_law_384 rfl rfl ?_
  refine PW.iconst (v := nI 2) hX dL_law_385 (by decide) ?_
  refine PW.iadd hX dL_law_386 ?_
  refine PW.top (nI_add i 2) ?_
  refine PW.sld hX hL (k := i + 2) (by omega) (by omega) dL_law_387 rfl ?_
  refine PW.vG hX ml_L_44 cx dL_law_388 LI1 (le_x W M) rfl rfl rfl rfl rfl rfl rfl (by omega) (by omega) rfl rfl rfl rfl (lh_x W W' M) ?_
  refine PW.aload_n hX dL_law_391 rfl rfl ?_
  refine PW.aload_n hX dL_law_392 rfl rfl ?_
  refine PW.iload_n hX dL_law_393 rfl rfl ?_
  refine PW.iconst (v := nI 1) hX dL_law_394 (by decide) ?_
  refine PW.iadd hX dL_law_395 ?_
  refine PW.top (nI_add i 1) ?_
  refine PW.sld hX hL (k := i + 1) (by omega) (by omega) dL_law_396 rfl ?_
  refine PW.aload_n hX dL_law_397 rfl rfl ?_
  refine PW.iload_n hX dL_law_398 rfl rfl ?_
  refine PW.iconst (v := nI 2) hX dL_law_399 (by decide) ?_
  refine PW.iadd hX dL_law_400 ?_
  refine PW.top (nI_add i 2) ?_
  refine PW.sld hX hL (k := i + 2) (by omega) (by omega) dL_law_401 rfl ?_
  refine PW.vG hX ml_L_47 cm dL_law_402 LI2 (le_m W' M) rfl rfl rfl rfl rfl rfl rfl (by omega) (by omega) rfl rfl rfl rfl (lh_m W' M M') ?_
  refine PW.icmp_eq (tgt := 1002) hX dL_law_405 (by decide) (fun c405 => ?_) (fun c405 => ?_)
  · refine PW.iinc (v := nI (i + 4)) hX dL_law_1002 rfl (show nI i + Int32.ofInt 4 = nI (i + 4) from nI_add i 4) ?_
    refine PW.goto (tgt := 18) hX dL_law_1005 (by decide) ?_
    exact PW.widen (by omega) (by omega) n2
  · exact absurd rfl c405 -- CLOSED
theorem law_outMany (hX : Fx X code RL ret 13 600000 7302250) (hL : LX X b Ln xs) (hLn : Ln ≤ 2048) {W : Wp} {M : Md} (h : Rel W M) {i : Nat} (hi : i + 4 ≤ Ln) {kc ks : Nat} (hk1 : kc + 1 ≤ 600000) (hk2 : ks + 20 ≤ 7302250) (nx : ∀ W' M', Rel W' M' → PW X 18 [some (.ref 1500), some (.ref 0), some (.ref 45), some (.int (nI (i + 4)))] [] (LH W' M') (kc + 1) (ks + 20)) : PW X 410 [some (.ref 1500), some (.ref 0), some (.ref 45), some (.int (nI i))] [] (LH W M) kc ks := by
  obtain ⟨r, W', M', cx, cm, hr⟩ := cs_outMany h 
  have n2 := nx W' M' hr
  refine PW.aload_n hX dL_law_410 rfl rfl ?_
  refine PW.vG hX ml_L_48 cx dL_law_411 LI1 (le_x W M) rfl rfl rfl rfl rfl rfl rfl (by omega) (by omega) rfl rfl rfl rfl (lh_x W W' M) ?_
  refine PW.aload_n hX dL_law_414 rfl rfl ?_
  refine PW.vG hX ml_L_51 cm dL_law_415 LI2 (le_m W' M) rfl rfl rfl rfl rfl rfl rfl (by omega) (by omega) rfl rfl rfl rfl (lh_m W' M M') ?_
  refine PW.icmp_eq (tgt := 1002) hX dL_law_418 (by decide) (fun c418 => ?_) (fun c418 => ?_)
  · refine PW.iinc (v := nI (i + 4)) hX dL_law_1002 rfl (show nI i + Int32.ofInt 4 = nI (i + 4) from nI_add i 4) ?_
    refine PW.goto (tgt := 18) hX dL_law_1005 (by decide) ?_
    exact PW.widen (by omega) (by omega) n2
  · exact absurd rfl c418 -- CLOSED
theorem law_lies (hX : Fx X code RL ret 13 600000 7302250) (hL : LX X b Ln xs) (hLn : Ln ≤ 2048) {W : Wp} {M : Md} (h : Rel W M) {i : Nat} (hi : i + 4 ≤ Ln) {kc ks : Nat} (hk1 : kc + 1 ≤ 600000) (hk2 : ks + 20 ≤ 7302250) (nx : ∀ W' M', Rel W' M' → PW X 18 [some (.ref 1500), some (.ref 0), some (.ref 45), some (.int (nI (i + 4)))] [] (LH W' M') (kc + 1) (ks + 20)) : PW X 423 [some (.ref 1500), some (.ref 0), some (.ref 45), some (.int (nI i))] [] (LH W M) kc ks := by
  obtain ⟨r, W', M', cx, cm, hr⟩ := cs_lies h (xs (i + 1)) (xs (i + 2))
  have n2 := nx W' M' hr
  refine PW.aload_n hX dL_law_423 rfl rfl ?_
  refine PW.aload_n hX dL_law_424 rfl rfl ?_
  refine PW.iload_n hX dL_law_425 rfl rfl ?_
  refine PW.iconst (v := nI 1) hX dL_law_426 (by decide) ?_
  refine PW.iadd hX dL_law_427 ?_
  refine PW.top (nI_add i 1) ?_
  refine PW.sld hX hL (k := i + 1) (by omega) (by omega) dL_law_428 rfl ?_
  refine PW.aload_n hX dL_law_429 rfl rfl ?_
  refine PW.iload_n hX dL_law_430 rfl rfl ?_
  refine PW.iconst (v := nI 2) hX dL_law_431 (by decide) ?_
  refine PW.iadd hX dL_law_432 ?_
  refine PW.top (nI_add i 2) ?_
  refine PW.sld hX hL (k := i + 2) (by omega) (by omega) dL_law_433 rfl ?_
  refine PW.vG hX ml_L_52 cx dL_law_434 LI1 (le_x W M) rfl rfl rfl rfl rfl rfl rfl (by omega) (by omega) rfl rfl rfl rfl (lh_x W W' M) ?_
  refine PW.aload_n hX dL_law_437 rfl rfl ?_
  refine PW.aload_n hX dL_law_438 rfl rfl ?_
  refine PW.iload_n hX dL_law_439 rfl rfl ?_
  refine PW.iconst (v := nI 1) hX dL_law_440 (by decide) ?_
  refine PW.iadd hX dL_law_441 ?_
  refine PW.top (nI_add i 1) ?_
  refine PW.sld hX hL (k := i + 1) (by omega) (by omega) dL_law_442 rfl ?_
  refine PW.aload_n hX dL_law_443 rfl rfl ?_
  refine PW.iload_n hX dL_law_444 rfl rfl ?_
  refine PW.iconst (v := nI 2) hX dL_law_445 (by decide) ?_
  refine PW.iadd hX dL_law_446 ?_
  refine PW.top (nI_add i 2) ?_
  refine PW.sld hX hL (k := i + 2) (by omega) (by omega) dL_law_447 rfl ?_
  refine PW.vG hX ml_L_55 cm dL_law_448 LI2 (le_m W' M) rfl rfl rfl rfl rfl rfl rfl (by omega) (by omega) rfl rfl rfl rfl (lh_m W' M M') ?_
  refine PW.icmp_eq (tgt := 1002) hX dL_law_451 (by decide) (fun c451 => ?_) (fun c451 => ?_)
  · refine PW.iinc (v := nI (i + 4)) hX dL_law_1002 rfl (show nI i + Int32.ofInt 4 = nI (i + 4) from nI_add i 4) ?_
    refine PW.goto (tgt := 18) hX dL_law_1005 (by decide) ?_
    exact PW.widen (by omega) (by omega) n2
  · exact absurd rfl c451 -- CLOSED
theorem law_held (hX : Fx X code RL ret 13 600000 7302250) (hL : LX X b Ln xs) (hLn : Ln ≤ 2048) {W : Wp} {M : Md} (h : Rel W M) {i : Nat} (hi : i + 4 ≤ Ln) {kc ks : Nat} (hk1 : kc + 1 ≤ 600000) (hk2 : ks + 20 ≤ 7302250) (nx : ∀ W' M', Rel W' M' → PW X 18 [some (.ref 1500), some (.ref 0), some (.ref 45), some (.int (nI (i + 4)))] [] (LH W' M') (kc + 1) (ks + 20)) : PW X 456 [some (.ref 1500), some (.ref 0), some (.ref 45), some (.int (nI i))] [] (LH W M) kc ks := by
  obtain ⟨r, W', M', cx, cm, hr⟩ := cs_held h (xs (i + 1)) (xs (i + 2))
  have n2 := nx W' M' hr
  refine PW.aload_n hX dL_law_456 rfl rfl ?_
  refine PW.aload_n hX dL_law_457 rfl rfl ?_
  refine PW.iload_n hX dL_law_458 rfl rfl ?_
  refine PW.iconst (v := nI 1) hX dL_law_459 (by decide) ?_
  refine PW.iadd hX dL_law_460 ?_
  refine PW.top (nI_add i 1) ?_
  refine PW.sld hX hL (k := i + 1) (by omega) (by omega) dL_law_461 rfl ?_
  refine PW.aload_n hX dL_law_462 rfl rfl ?_
  refine PW.iload_n hX dL_law_463 rfl rfl ?_
  refine PW.iconst (v := nI 2) hX dL_law_464 (by decide) ?_
  refine PW.iadd hX dL_law_465 ?_
  refine PW.top (nI_add i 2) ?_
  refine PW.sld hX hL (k := i + 2) (by omega) (by omega) dL_law_466 rfl ?_
  refine PW.vG hX ml_L_56 cx dL_law_467 LI1 (le_x W M) rfl rfl rfl rfl rfl rfl rfl (by omega) (by omega) rfl rfl rfl rfl (lh_x W W' M) ?_
  refine PW.aload_n hX dL_law_470 rfl rfl ?_
  refine PW.aload_n hX dL_law_471 rfl rfl ?_
  refine PW.iload_n hX dL_law_472 rfl rfl ?_
  refine PW.iconst (v := nI 1) hX dL_law_473 (by decide) ?_
  refine PW.iadd hX dL_law_474 ?_
  refine PW.top (nI_add i 1) ?_
  refine PW.sld hX hL (k := i + 1) (by omega) (by omega) dL_law_475 rfl ?_
  refine PW.aload_n hX dL_law_476 rfl rfl ?_
  refine PW.iload_n hX dL_law_477 rfl rfl ?_
  refine PW.iconst (v := nI 2) hX dL_law_478 (by decide) ?_
  refine PW.iadd hX dL_law_479 ?_
  refine PW.top (nI_add i 2) ?_
  refine PW.sld hX hL (k := i + 2) (by omega) (by omega) dL_law_480 rfl ?_
  refine PW.vG hX ml_L_59 cm dL_law_481 LI2 (le_m W' M) rfl rfl rfl rfl rfl rfl rfl (by omega) (by omega) rfl rfl rfl rfl (lh_m W' M M') ?_
  refine PW.icmp_eq (tgt := 1002) hX dL_law_484 (by decide) (fun c484 => ?_) (fun c484 => ?_)
  · refine PW.iinc (v := nI (i + 4)) hX dL_law_1002 rfl (show nI i + Int32.ofInt 4 = nI (i + 4) from nI_add i 4) ?_
    refine PW.goto (tgt := 18) hX dL_law_1005 (by decide) ?_
    exact PW.widen (by omega) (by omega) n2
  · exact absurd rfl c484 -- CLOSED
theorem law_who (hX : Fx X code RL ret 13 600000 7302250) (hL : LX X b Ln xs) (hLn : Ln ≤ 2048) {W : Wp} {M : Md} (h : Rel W M) {i : Nat} (hi : i + 4 ≤ Ln) {kc ks : Nat} (hk1 : kc + 1 ≤ 600000) (hk2 : ks + 20 ≤ 7302250) (nx : ∀ W' M', Rel W' M' → PW X 18 [some (.ref 1500), some (.ref 0), some (.ref 45), some (.int (nI (i + 4)))] [] (LH W' M') (kc + 1) (ks + 20)) : PW X 489 [some (.ref 1500), some (.ref 0), some (.ref 45), some (.int (nI i))] [] (LH W M) kc ks := by
  obtain ⟨r, W', M', cx, cm, hr⟩ := cs_who h (xs (i + 1))
  have n2 := nx W' M' hr
  refine PW.aload_n hX dL_law_489 rfl rfl ?_
  refine PW.aload_n hX dL_law_490 rfl rfl ?_
  refine PW.iload_n hX dL_law_491 rfl rfl ?_
  refine PW.iconst (v := nI 1) hX dL_law_492 (by decide) ?_
  refine PW.iadd hX dL_law_493 ?_
  refine PW.top (nI_add i 1) ?_
  refine PW.sld hX hL (k := i + 1) (by omega) (by omega) dL_law_494 rfl ?_
  refine PW.vG hX ml_L_60 cx dL_law_495 LI1 (le_x W M) rfl rfl rfl rfl rfl rfl rfl (by omega) (by omega) rfl rfl rfl rfl (lh_x W W' M) ?_
  refine PW.aload_n hX dL_law_498 rfl rfl ?_
  refine PW.aload_n hX dL_law_499 rfl rfl ?_
  refine PW.iload_n hX dL_law_500 rfl rfl ?_
  refine PW.iconst (v := nI 1) hX dL_law_501 (by decide) ?_
  refine PW.iadd hX dL_law_502 ?_
  refine PW.top (nI_add i 1) ?_
  refine PW.sld hX hL (k := i + 1) (by omega) (by omega) dL_law_503 rfl ?_
  refine PW.vG hX ml_L_63 cm dL_law_504 LI2 (le_m W' M) rfl rfl rfl rfl rfl rfl rfl (by omega) (by omega) rfl rfl rfl rfl (lh_m W' M M') ?_
  refine PW.icmp_eq (tgt := 1002) hX dL_law_507 (by decide) (fun c507 => ?_) (fun c507 => ?_)
  · refine PW.iinc (v := nI (i + 4)) hX dL_law_1002 rfl (show nI i + Int32.ofInt 4 = nI (i + 4) from nI_add i 4) ?_
    refine PW.goto (tgt := 18) hX dL_law_1005 (by decide) ?_
    exact PW.widen (by omega) (by omega) n2
  · exact absurd rfl c507 -- CLOSED
theorem law_missing (hX : Fx X code RL ret 13 600000 7302250) (hL : LX X b Ln xs) (hLn : Ln ≤ 2048) {W : Wp} {M : Md} (h : Rel W M) {i : Nat} (hi : i + 4 ≤ Ln) {kc ks : Nat} (hk1 : kc + 1 ≤ 600000) (hk2 : ks + 20 ≤ 7302250) (nx : ∀ W' M', Rel W' M' → PW X 18 [some (.ref 1500), some (.ref 0), some (.ref 45), some (.int (nI (i + 4)))] [] (LH W' M') (kc + 1) (ks + 20)) : PW X 512 [some (.ref 1500), some (.ref 0), some (.ref 45), some (.int (nI i))] [] (LH W M) kc ks := by
  obtain ⟨r, W', M', cx, cm, hr⟩ := cs_missing h (xs (i + 1))
  have n2 := nx W' M' hr
  refine PW.aload_n hX dL_law_512 rfl rfl ?_
  refine PW.aload_n hX dL_law_513 rfl rfl ?_
  refine PW.iload_n hX dL_law_514 rfl rfl ?_
  refine PW.iconst (v := nI 1) hX dL_law_515 (by decide) ?_
  refine PW.iadd hX dL_law_516 ?_
  refine PW.top (nI_add i 1) ?_
  refine PW.sld hX hL (k := i + 1) (by omega) (by omega) dL_law_517 rfl ?_
  refine PW.vG hX ml_L_64 cx dL_law_518 LI1 (le_x W M) rfl rfl rfl rfl rfl rfl rfl (by omega) (by omega) rfl rfl rfl rfl (lh_x W W' M) ?_
  refine PW.aload_n hX dL_law_521 rfl rfl ?_
  refine PW.aload_n hX dL_law_522 rfl rfl ?_
  refine PW.iload_n hX dL_law_523 rfl rfl ?_
  refine PW.iconst (v := nI 1) hX dL_law_524 (by decide) ?_
  refine PW.iadd hX dL_law_525 ?_
  refine PW.top (nI_add i 1) ?_
  refine PW.sld hX hL (k := i + 1) (by omega) (by omega) dL_law_526 rfl ?_
  refine PW.vG hX ml_L_67 cm dL_law_527 LI2 (le_m W' M) rfl rfl rfl rfl rfl rfl rfl (by omega) (by omega) rfl rfl rfl rfl (lh_m W' M M') ?_
  refine PW.icmp_eq (tgt := 1002) hX dL_law_530 (by decide) (fun c530 => ?_) (fun c530 => ?_)
  · refine PW.iinc (v := nI (i + 4)) hX dL_law_1002 rfl (show nI i + Int32.ofInt 4 = nI (i + 4) from nI_add i 4) ?_
    refine PW.goto (tgt := 18) hX dL_law_1005 (by decide) ?_
    exact PW.widen (by omega) (by omega) n2
  · exact absurd rfl c530 -- CLOSED
theorem law_ask (hX : Fx X code RL ret 13 600000 7302250) (hL : LX X b Ln xs) (hLn : Ln ≤ 2048) {W : Wp} {M : Md} (h : Rel W M) {i : Nat} (hi : i + 4 ≤ Ln) {kc ks : Nat} (hk1 : kc + 1 ≤ 600000) (hk2 : ks + 20 ≤ 7302250) (nx : ∀ W' M', Rel W' M' → PW X 18 [some (.ref 1500), some (.ref 0), some (.ref 45), some (.int (nI (i + 4)))] [] (LH W' M') (kc + 1) (ks + 20)) : PW X 535 [some (.ref 1500), some (.ref 0), some (.ref 45), some (.int (nI i))] [] (LH W M) kc ks := by
  obtain ⟨r, W', M', cx, cm, hr⟩ := cs_ask h (xs (i + 1))
  have n2 := nx W' M' hr
  refine PW.aload_n hX dL_law_535 rfl rfl ?_
  refine PW.aload_n hX dL_law_536 rfl rfl ?_
  refine PW.iload_n hX dL_law_537 rfl rfl ?_
  refine PW.iconst (v := nI 1) hX dL_law_538 (by decide) ?_
  refine PW.iadd hX dL_law_539 ?_
  refine PW.top (nI_add i 1) ?_
  refine PW.sld hX hL (k := i + 1) (by omega) (by omega) dL_law_540 rfl ?_
  refine PW.vG hX ml_L_68 cx dL_law_541 LI1 (le_x W M) rfl rfl rfl rfl rfl rfl rfl (by omega) (by omega) rfl rfl rfl rfl (lh_x W W' M) ?_
  refine PW.aload_n hX dL_law_544 rfl rfl ?_
  refine PW.aload_n hX dL_law_545 rfl rfl ?_
  refine PW.iload_n hX dL_law_546 rfl rfl ?_
  refine PW.iconst (v := nI 1) hX dL_law_547 (by decide) ?_
  refine PW.iadd hX dL_law_548 ?_
  refine PW.top (nI_add i 1) ?_
  refine PW.sld hX hL (k := i + 1) (by omega) (by omega) dL_law_549 rfl ?_
  refine PW.vG hX ml_L_71 cm dL_law_550 LI2 (le_m W' M) rfl rfl rfl rfl rfl rfl rfl (by omega) (by omega) rfl rfl rfl rfl (lh_m W' M M') ?_
  refine PW.icmp_eq (tgt := 1002) hX dL_law_553 (by decide) (fun c553 => ?_) (fun c553 => ?_)
  · refine PW.iinc (v := nI (i + 4)) hX dL_law_1002 rfl (show nI i + Int32.ofInt 4 = nI (i + 4) from nI_add i 4) ?_
    refine PW.goto (tgt := 18) hX dL_law_1005 (by decide) ?_
    exact PW.widen (by omega) (by omega) n2
  · exact absurd rfl c553 -- CLOSED
theorem law_ready (hX : Fx X code RL ret 13 600000 7302250) (hL : LX X b Ln xs) (hLn : Ln ≤ 2048) {W : Wp} {M : Md} (h : Rel W M) {i : Nat} (hi : i + 4 ≤ Ln) {kc ks : Nat} (hk1 : kc + 1 ≤ 600000) (hk2 : ks + 20 ≤ 7302250) (nx : ∀ W' M', Rel W' M' → PW X 18 [some (.ref 1500), some (.ref 0), some (.ref 45), some (.int (nI (i + 4)))] [] (LH W' M') (kc + 1) (ks + 20)) : PW X 558 [some (.ref 1500), some (.ref 0), some (.ref 45), some (.int (nI i))] [] (LH W M) kc ks := by
  obtain ⟨r, W', M', cx, cm, hr⟩ := cs_ready h (xs (i + 1))
  have n2 := nx W' M' hr
  refine PW.aload_n hX dL_law_558 rfl rfl ?_
  refine PW.aload_n hX dL_law_559 rfl rfl ?_
  refine PW.iload_n hX dL_law_560 rfl rfl ?_
  refine PW.iconst (v := nI 1) hX dL_law_561 (by decide) ?_
  refine PW.iadd hX dL_law_562 ?_
  refine PW.top (nI_add i 1) ?_
  refine PW.sld hX hL (k := i + 1) (by omega) (by omega) dL_law_563 rfl ?_
  refine PW.vG hX ml_L_72 cx dL_law_564 LI1 (le_x W M) rfl rfl rfl rfl rfl rfl rfl (by omega) (by omega) rfl rfl rfl rfl (lh_x W W' M) ?_
  refine PW.aload_n hX dL_law_567 rfl rfl ?_
  refine PW.aload_n hX dL_law_568 rfl rfl ?_
  refine PW.iload_n hX dL_law_569 rfl rfl ?_
  refine PW.iconst (v := nI 1) hX dL_law_570 (by decide) ?_
  refine PW.iadd hX dL_law_571 ?_
  refine PW.top (nI_add i 1) ?_
  refine PW.sld hX hL (k := i + 1) (by omega) (by omega) dL_law_572 rfl ?_
  refine PW.vG hX ml_L_75 cm dL_law_573 LI2 (le_m W' M) rfl rfl rfl rfl rfl rfl rfl (by omega) (by omega) rfl rfl rfl rfl (lh_m W' M M') ?_
  refine PW.icmp_eq (tgt := 1002) hX dL_law_576 (by decide) (fun c576 => ?_) (fun c576 => ?_)
  · refine PW.iinc (v := nI (i + 4)) hX dL_law_1002 rfl (show nI i + Int32.ofInt 4 = nI (i + 4) from nI_add i 4) ?_
    refine PW.goto (tgt := 18) hX dL_law_1005 (by decide) ?_
    exact PW.widen (by omega) (by omega) n2
  · exact absurd rfl c576 -- CLOSED
theorem law_mixed (hX : Fx X code RL ret 13 600000 7302250) (hL : LX X b Ln xs) (hLn : Ln ≤ 2048) {W : Wp} {M : Md} (h : Rel W M) {i : Nat} (hi : i + 4 ≤ Ln) {kc ks : Nat} (hk1 : kc + 1 ≤ 600000) (hk2 : ks + 20 ≤ 7302250) (nx : ∀ W' M', Rel W' M' → PW X 18 [some (.ref 1500), some (.ref 0), some (.ref 45), some (.int (nI (i + 4)))] [] (LH W' M') (kc + 1) (ks + 20)) : PW X 581 [some (.ref 1500), some (.ref 0), some (.ref 45), some (.int (nI i))] [] (LH W M) kc ks := by
  obtain ⟨r, W', M', cx, cm, hr⟩ := cs_mixed h 
  have n2 := nx W' M' hr
  refine PW.aload_n hX dL_law_581 rfl rfl ?_
  refine PW.vG hX ml_L_76 cx dL_law_582 LI1 (le_x W M) rfl rfl rfl rfl rfl rfl rfl (by omega) (by omega) rfl rfl rfl rfl (lh_x W W' M) ?_
  refine PW.aload_n hX dL_law_585 rfl rfl ?_
  refine PW.vG hX ml_L_79 cm dL_law_586 LI2 (le_m W' M) rfl rfl rfl rfl rfl rfl rfl (by omega) (by omega) rfl rfl rfl rfl (lh_m W' M M') ?_
  refine PW.icmp_eq (tgt := 1002) hX dL_law_589 (by decide) (fun c589 => ?_) (fun c589 => ?_)
  · refine PW.iinc (v := nI (i + 4)) hX dL_law_1002 rfl (show nI i + Int32.ofInt 4 = nI (i + 4) from nI_add i 4) ?_
    refine PW.goto (tgt := 18) hX dL_law_1005 (by decide) ?_
    exact PW.widen (by omega) (by omega) n2
  · exact absurd rfl c589 -- CLOSED
theorem law_byKind (hX : Fx X code RL ret 13 600000 7302250) (hL : LX X b Ln xs) (hLn : Ln ≤ 2048) {W : Wp} {M : Md} (h : Rel W M) {i : Nat} (hi : i + 4 ≤ Ln) {kc ks : Nat} (hk1 : kc + 1 ≤ 600000) (hk2 : ks + 20 ≤ 7302250) (nx : ∀ W' M', Rel W' M' → PW X 18 [some (.ref 1500), some (.ref 0), some (.ref 45), some (.int (nI (i + 4)))] [] (LH W' M') (kc + 1) (ks + 20)) : PW X 594 [some (.ref 1500), some (.ref 0), some (.ref 45), some (.int (nI i))] [] (LH W M) kc ks := by
  obtain ⟨r, W', M', cx, cm, hr⟩ := cs_byKind h 
  have n2 := nx W' M' hr
  refine PW.aload_n hX dL_law_594 rfl rfl ?_
  refine PW.vG hX ml_L_80 cx dL_law_595 LI1 (le_x W M) rfl rfl rfl rfl rfl rfl rfl (by omega) (by omega) rfl rfl rfl rfl (lh_x W W' M) ?_
  refine PW.aload_n hX dL_law_598 rfl rfl ?_
  refine PW.vG hX ml_L_83 cm dL_law_599 LI2 (le_m W' M) rfl rfl rfl rfl rfl rfl rfl (by omega) (by omega) rfl rfl rfl rfl (lh_m W' M M') ?_
  refine PW.icmp_eq (tgt := 1002) hX dL_law_602 (by decide) (fun c602 => ?_) (fun c602 => ?_)
  · refine PW.iinc (v := nI (i + 4)) hX dL_law_1002 rfl (show nI i + Int32.ofInt 4 = nI (i + 4) from nI_add i 4) ?_
    refine PW.goto (tgt := 18) hX dL_law_1005 (by decide) ?_
    exact PW.widen (by omega) (by omega) n2
  · exact absurd rfl c602 -- CLOSED
theorem law_send (hX : Fx X code RL ret 13 600000 7302250) (hL : LX X b Ln xs) (hLn : Ln ≤ 2048) {W : Wp} {M : Md} (h : Rel W M) {i : Nat} (hi : i + 4 ≤ Ln) {kc ks : Nat} (hk1 : kc + 1 ≤ 600000) (hk2 : ks + 20 ≤ 7302250) (nx : ∀ W' M', Rel W' M' → PW X 18 [some (.ref 1500), some (.ref 0), some (.ref 45), some (.int (nI (i + 4)))] [] (LH W' M') (kc + 1) (ks + 20)) : PW X 607 [some (.ref 1500), some (.ref 0), some (.ref 45), some (.int (nI i))] [] (LH W M) kc ks := by
  obtain ⟨r, W', M', cx, cm, hr⟩ := cs_send h (xs (i + 1)) (xs (i + 2))
  have n2 := nx W' M' hr
  refine PW.aload_n hX dL_law_607 rfl rfl ?_
  refine PW.aload_n hX dL_law_608 rfl rfl ?_
  refine PW.iload_n hX dL_law_609 rfl rfl ?_
  refine PW.iconst (v := nI 1) hX dL_law_610 (by decide) ?_
  refine PW.iadd hX dL_law_611 ?_
  refine PW.top (nI_add i 1) ?_
  refine PW.sld hX hL (k := i + 1) (by omega) (by omega) dL_law_612 rfl ?_
  refine PW.aload_n hX dL_law_613 rfl rfl ?_
  refine PW.iload_n hX dL_law_614 rfl rfl ?_
  refine PW.iconst (v := nI 2) hX dL_law_615 (by decide) ?_
  refine PW.iadd hX dL_law_616 ?_
  refine PW.top (nI_add i 2) ?_
  refine PW.sld hX hL (k := i + 2) (by omega) (by omega) dL_law_617 rfl ?_
  refine PW.vG hX ml_L_84 cx dL_law_618 LI1 (le_x W M) rfl rfl rfl rfl rfl rfl rfl (by omega) (by omega) rfl rfl rfl rfl (lh_x W W' M) ?_
  refine PW.aload_n hX dL_law_621 rfl rfl ?_
  refine PW.aload_n hX dL_law_622 rfl rfl ?_
  refine PW.iload_n hX dL_law_623 rfl rfl ?_
  refine PW.iconst (v := nI 1) hX dL_law_624 (by decide) ?_
  refine PW.iadd hX dL_law_625 ?_
  refine PW.top (nI_add i 1) ?_
  refine PW.sld hX hL (k := i + 1) (by omega) (by omega) dL_law_626 rfl ?_
  refine PW.aload_n hX dL_law_627 rfl rfl ?_
  refine PW.iload_n hX dL_law_628 rfl rfl ?_
  refine PW.iconst (v := nI 2) hX dL_law_629 (by decide) ?_
  refine PW.iadd hX dL_law_630 ?_
  refine PW.top (nI_add i 2) ?_
  refine PW.sld hX hL (k := i + 2) (by omega) (by omega) dL_law_631 rfl ?_
  refine PW.vG hX ml_L_87 cm dL_law_632 LI2 (le_m W' M) rfl rfl rfl rfl rfl rfl rfl (by omega) (by omega) rfl rfl rfl rfl (lh_m W' M M') ?_
  refine PW.icmp_eq (tgt := 1002) hX dL_law_635 (by decide) (fun c635 => ?_) (fun c635 => ?_)
  · refine PW.iinc (v := nI (i + 4)) hX dL_law_1002 rfl (show nI i + Int32.ofInt 4 = nI (i + 4) from nI_add i 4) ?_
    refine PW.goto (tgt := 18) hX dL_law_1005 (by decide) ?_
    exact PW.widen (by omega) (by omega) n2
  · exact absurd rfl c635 -- CLOSED
theorem law_two (hX : Fx X code RL ret 13 600000 7302250) (hL : LX X b Ln xs) (hLn : Ln ≤ 2048) {W : Wp} {M : Md} (h : Rel W M) {i : Nat} (hi : i + 4 ≤ Ln) {kc ks : Nat} (hk1 : kc + 1 ≤ 600000) (hk2 : ks + 20 ≤ 7302250) (nx : ∀ W' M', Rel W' M' → PW X 18 [some (.ref 1500), some (.ref 0), some (.ref 45), some (.int (nI (i + 4)))] [] (LH W' M') (kc + 1) (ks + 20)) : PW X 640 [some (.ref 1500), some (.ref 0), some (.ref 45), some (.int (nI i))] [] (LH W M) kc ks := by
  obtain ⟨r, W', M', cx, cm, hr⟩ := cs_two h (xs (i + 1)) (xs (i + 2))
  have n2 := nx W' M' hr
  refine PW.aload_n hX dL_law_640 rfl rfl ?_
  refine PW.aload_n hX dL_law_641 rfl rfl ?_
  refine PW.iload_n hX dL_law_642 rfl rfl ?_
  refine PW.iconst (v := nI 1) hX dL_law_643 (by decide) ?_
  refine PW.iadd hX dL_law_644 ?_
  refine PW.top (nI_add i 1) ?_
  refine PW.sld hX hL (k := i + 1) (by omega) (by omega) dL_law_645 rfl ?_
  refine PW.aload_n hX dL_law_646 rfl rfl ?_
  refine PW.iload_n hX dL_law_647 rfl rfl ?_
  refine PW.iconst (v := nI 2) hX dL_law_648 (by decide) ?_
  refine PW.iadd hX dL_law_649 ?_
  refine PW.top (nI_add i 2) ?_
  refine PW.sld hX hL (k := i + 2) (by omega) (by omega) dL_law_650 rfl ?_
  refine PW.vG hX ml_L_88 cx dL_law_651 LI1 (le_x W M) rfl rfl rfl rfl rfl rfl rfl (by omega) (by omega) rfl rfl rfl rfl (lh_x W W' M) ?_
  refine PW.aload_n hX dL_law_654 rfl rfl ?_
  refine PW.aload_n hX dL_law_655 rfl rfl ?_
  refine PW.iload_n hX dL_law_656 rfl rfl ?_
  refine PW.iconst (v := nI 1) hX dL_law_657 (by decide) ?_
  refine PW.iadd hX dL_law_658 ?_
  refine PW.top (nI_add i 1) ?_
  refine PW.sld hX hL (k := i + 1) (by omega) (by omega) dL_law_659 rfl ?_
  refine PW.aload_n hX dL_law_660 rfl rfl ?_
  refine PW.iload_n hX dL_law_661 rfl rfl ?_
  refine PW.iconst (v := nI 2) hX dL_law_662 (by decide) ?_
  refine PW.iadd hX dL_law_663 ?_
  refine PW.top (nI_add i 2) ?_
  refine PW.sld hX hL (k := i + 2) (by omega) (by omega) dL_law_664 rfl ?_
  refine PW.vG hX ml_L_91 cm dL_law_665 LI2 (le_m W' M) rfl rfl rfl rfl rfl rfl rfl (by omega) (by omega) rfl rfl rfl rfl (lh_m W' M M') ?_
  refine PW.icmp_eq (tgt := 1002) hX dL_law_668 (by decide) (fun c668 => ?_) (fun c668 => ?_)
  · refine PW.iinc (v := nI (i + 4)) hX dL_law_1002 rfl (show nI i + Int32.ofInt 4 = nI (i + 4) from nI_add i 4) ?_
    refine PW.goto (tgt := 18) hX dL_law_1005 (by decide) ?_
    exact PW.widen (by omega) (by omega) n2
  · exact absurd rfl c668 -- CLOSED
theorem law_three (hX : Fx X code RL ret 13 600000 7302250) (hL : LX X b Ln xs) (hLn : Ln ≤ 2048) {W : Wp} {M : Md} (h : Rel W M) {i : Nat} (hi : i + 4 ≤ Ln) {kc ks : Nat} (hk1 : kc + 1 ≤ 600000) (hk2 : ks + 20 ≤ 7302250) (nx : ∀ W' M', Rel W' M' → PW X 18 [some (.ref 1500), some (.ref 0), some (.ref 45), some (.int (nI (i + 4)))] [] (LH W' M') (kc + 1) (ks + 20)) : PW X 673 [some (.ref 1500), some (.ref 0), some (.ref 45), some (.int (nI i))] [] (LH W M) kc ks := by
  obtain ⟨r, W', M', cx, cm, hr⟩ := cs_three h (xs (i + 1)) (xs (i + 2)) (xs (i + 3))
  have n2 := nx W' M' hr
  refine PW.aload_n hX dL_law_673 rfl rfl ?_
  refine PW.aload_n hX dL_law_674 rfl rfl ?_
  refine PW.iload_n hX dL_law_675 rfl rfl ?_
  refine PW.iconst (v := nI 1) hX dL_law_676 (by decide) ?_
  refine PW.iadd hX dL_law_677 ?_
  refine PW.top (nI_add i 1) ?_
  refine PW.sld hX hL (k := i + 1) (by omega) (by omega) dL_law_678 rfl ?_
  refine PW.aload_n hX dL_law_679 rfl rfl ?_
  refine PW.iload_n hX dL_law_680 rfl rfl ?_
  refine PW.iconst (v := nI 2) hX dL_law_681 (by decide) ?_
  refine PW.iadd hX dL_law_682 ?_
  refine PW.top (nI_add i 2) ?_
  refine PW.sld hX hL (k := i + 2) (by omega) (by omega) dL_law_683 rfl ?_
  refine PW.aload_n hX dL_law_684 rfl rfl ?_
  refine PW.iload_n hX dL_law_685 rfl rfl ?_
  refine PW.iconst (v := nI 3) hX dL_law_686 (by decide) ?_
  refine PW.iadd hX dL_law_687 ?_
  refine PW.top (nI_add i 3) ?_
  refine PW.sld hX hL (k := i + 3) (by omega) (by omega) dL_law_688 rfl ?_
  refine PW.vG hX ml_L_92 cx dL_law_689 LI1 (le_x W M) rfl rfl rfl rfl rfl rfl rfl (by omega) (by omega) rfl rfl rfl rfl (lh_x W W' M) ?_
  refine PW.aload_n hX dL_law_692 rfl rfl ?_
  refine PW.aload_n hX dL_law_693 rfl rfl ?_
  refine PW.iload_n hX dL_law_694 rfl rfl ?_
  refine PW.iconst (v := nI 1) hX dL_law_695 (by decide) ?_
  refine PW.iadd hX dL_law_696 ?_
  refine PW.top (nI_add i 1) ?_
  refine PW.sld hX hL (k := i + 1) (by omega) (by omega) dL_law_697 rfl ?_
  refine PW.aload_n hX dL_law_698 rfl rfl ?_
  refine PW.iload_n hX dL_law_699 rfl rfl ?_
  refine PW.iconst (v := nI 2) hX dL_law_700 (by decide) ?_
  refine PW.iadd hX dL_law_701 ?_
  refine PW.top (nI_add i 2) ?_
  refine PW.sld hX hL (k := i + 2) (by omega) (by omega) dL_law_702 rfl ?_
  refine PW.aload_n hX dL_law_703 rfl rfl ?_
  refine PW.iload_n hX dL_law_704 rfl rfl ?_
  refine PW.iconst (v := nI 3) hX dL_law_705 (by decide) ?_
  refine PW.iadd hX dL_law_706 ?_
  refine PW.top (nI_add i 3) ?_
  refine PW.sld hX hL (k := i + 3) (by omega) (by omega) dL_law_707 rfl ?_
  refine PW.vG hX ml_L_96 cm dL_law_708 LI2 (le_m W' M) rfl rfl rfl rfl rfl rfl rfl (by omega) (by omega) rfl rfl rfl rfl (lh_m W' M M') ?_
  refine PW.icmp_eq (tgt := 1002) hX dL_law_711 (by decide) (fun c711 => ?_) (fun c711 => ?_)
  · refine PW.iinc (v := nI (i + 4)) hX dL_law_1002 rfl (show nI i + Int32.ofInt 4 = nI (i + 4) from nI_add i 4) ?_
    refine PW.goto (tgt := 18) hX dL_law_1005 (by decide) ?_
    exact PW.widen (by omega) (by omega) n2
  · exact absurd rfl c711 -- CLOSED
theorem law_parts (hX : Fx X code RL ret 13 600000 7302250) (hL : LX X b Ln xs) (hLn : Ln ≤ 2048) {W : Wp} {M : Md} (h : Rel W M) {i : Nat} (hi : i + 4 ≤ Ln) {kc ks : Nat} (hk1 : kc + 1 ≤ 600000) (hk2 : ks + 20 ≤ 7302250) (nx : ∀ W' M', Rel W' M' → PW X 18 [some (.ref 1500), some (.ref 0), some (.ref 45), some (.int (nI (i + 4)))] [] (LH W' M') (kc + 1) (ks + 20)) : PW X 716 [some (.ref 1500), some (.ref 0), some (.ref 45), some (.int (nI i))] [] (LH W M) kc ks := by
  obtain ⟨r, W', M', cx, cm, hr⟩ := cs_parts h 
  have n2 := nx W' M' hr
  refine PW.aload_n hX dL_law_716 rfl rfl ?_
  refine PW.vG hX ml_L_97 cx dL_law_717 LI1 (le_x W M) rfl rfl rfl rfl rfl rfl rfl (by omega) (by omega) rfl rfl rfl rfl (lh_x W W' M) ?_
  refine PW.aload_n hX dL_law_720 rfl rfl ?_
  refine PW.vG hX ml_L_100 cm dL_law_721 LI2 (le_m W' M) rfl rfl rfl rfl rfl rfl rfl (by omega) (by omega) rfl rfl rfl rfl (lh_m W' M M') ?_
  refine PW.icmp_eq (tgt := 1002) hX dL_law_724 (by decide) (fun c724 => ?_) (fun c724 => ?_)
  · refine PW.iinc (v := nI (i + 4)) hX dL_law_1002 rfl (show nI i + Int32.ofInt 4 = nI (i + 4) from nI_add i 4) ?_
    refine PW.goto (tgt := 18) hX dL_law_1005 (by decide) ?_
    exact PW.widen (by omega) (by omega) n2
  · exact absurd rfl c724 -- CLOSED
theorem law_lacks (hX : Fx X code RL ret 13 600000 7302250) (hL : LX X b Ln xs) (hLn : Ln ≤ 2048) {W : Wp} {M : Md} (h : Rel W M) {i : Nat} (hi : i + 4 ≤ Ln) {kc ks : Nat} (hk1 : kc + 1 ≤ 600000) (hk2 : ks + 20 ≤ 7302250) (nx : ∀ W' M', Rel W' M' → PW X 18 [some (.ref 1500), some (.ref 0), some (.ref 45), some (.int (nI (i + 4)))] [] (LH W' M') (kc + 1) (ks + 20)) : PW X 729 [some (.ref 1500), some (.ref 0), some (.ref 45), some (.int (nI i))] [] (LH W M) kc ks := by
  obtain ⟨r, W', M', cx, cm, hr⟩ := cs_lacks h (xs (i + 1))
  have n2 := nx W' M' hr
  refine PW.aload_n hX dL_law_729 rfl rfl ?_
  refine PW.aload_n hX dL_law_730 rfl rfl ?_
  refine PW.iload_n hX dL_law_731 rfl rfl ?_
  refine PW.iconst (v := nI 1) hX dL_law_732 (by decide) ?_
  refine PW.iadd hX dL_law_733 ?_
  refine PW.top (nI_add i 1) ?_
  refine PW.sld hX hL (k := i + 1) (by omega) (by omega) dL_law_734 rfl ?_
  refine PW.vG hX ml_L_101 cx dL_law_735 LI1 (le_x W M) rfl rfl rfl rfl rfl rfl rfl (by omega) (by omega) rfl rfl rfl rfl (lh_x W W' M) ?_
  refine PW.aload_n hX dL_law_738 rfl rfl ?_
  refine PW.aload_n hX dL_law_739 rfl rfl ?_
  refine PW.iload_n hX dL_law_740 rfl rfl ?_
  refine PW.iconst (v := nI 1) hX dL_law_741 (by decide) ?_
  refine PW.iadd hX dL_law_742 ?_
  refine PW.top (nI_add i 1) ?_
  refine PW.sld hX hL (k := i + 1) (by omega) (by omega) dL_law_743 rfl ?_
  refine PW.vG hX ml_L_104 cm dL_law_744 LI2 (le_m W' M) rfl rfl rfl rfl rfl rfl rfl (by omega) (by omega) rfl rfl rfl rfl (lh_m W' M M') ?_
  refine PW.icmp_eq (tgt := 1002) hX dL_law_747 (by decide) (fun c747 => ?_) (fun c747 => ?_)
  · refine PW.iinc (v := nI (i + 4)) hX dL_law_1002 rfl (show nI i + Int32.ofInt 4 = nI (i + 4) from nI_add i 4) ?_
    refine PW.goto (tgt := 18) hX dL_law_1005 (by decide) ?_
    exact PW.widen (by omega) (by omega) n2
  · exact absurd rfl c747 -- CLOSED
theorem law_laps (hX : Fx X code RL ret 13 600000 7302250) (hL : LX X b Ln xs) (hLn : Ln ≤ 2048) {W : Wp} {M : Md} (h : Rel W M) {i : Nat} (hi : i + 4 ≤ Ln) {kc ks : Nat} (hk1 : kc + 1 ≤ 600000) (hk2 : ks + 20 ≤ 7302250) (nx : ∀ W' M', Rel W' M' → PW X 18 [some (.ref 1500), some (.ref 0), some (.ref 45), some (.int (nI (i + 4)))] [] (LH W' M') (kc + 1) (ks + 20)) : PW X 752 [some (.ref 1500), some (.ref 0), some (.ref 45), some (.int (nI i))] [] (LH W M) kc ks := by
  obtain ⟨r, W', M', cx, cm, hr⟩ := cs_laps h (xs (i + 1))
  have n2 := nx W' M' hr
  refine PW.aload_n hX dL_law_752 rfl rfl ?_
  refine PW.aload_n hX dL_law_753 rfl rfl ?_
  refine PW.iload_n hX dL_law_754 rfl rfl ?_
  refine PW.iconst (v := nI 1) hX dL_law_755 (by decide) ?_
  refine PW.iadd hX dL_law_756 ?_
  refine PW.top (nI_add i 1) ?_
  refine PW.sld hX hL (k := i + 1) (by omega) (by omega) dL_law_757 rfl ?_
  refine PW.vG hX ml_L_105 cx dL_law_758 LI1 (le_x W M) rfl rfl rfl rfl rfl rfl rfl (by omega) (by omega) rfl rfl rfl rfl (lh_x W W' M) ?_
  refine PW.aload_n hX dL_law_761 rfl rfl ?_
  refine PW.aload_n hX dL_law_762 rfl rfl ?_
  refine PW.iload_n hX dL_law_763 rfl rfl ?_
  refine PW.iconst (v := nI 1) hX dL_law_764 (by decide) ?_
  refine PW.iadd hX dL_law_765 ?_
  refine PW.top (nI_add i 1) ?_
  refine PW.sld hX hL (k := i + 1) (by omega) (by omega) dL_law_766 rfl ?_
  refine PW.vG hX ml_L_108 cm dL_law_767 LI2 (le_m W' M) rfl rfl rfl rfl rfl rfl rfl (by omega) (by omega) rfl rfl rfl rfl (lh_m W' M M') ?_
  refine PW.icmp_eq (tgt := 1002) hX dL_law_770 (by decide) (fun c770 => ?_) (fun c770 => ?_)
  · refine PW.iinc (v := nI (i + 4)) hX dL_law_1002 rfl (show nI i + Int32.ofInt 4 = nI (i + 4) from nI_add i 4) ?_
    refine PW.goto (tgt := 18) hX dL_law_1005 (by decide) ?_
    exact PW.widen (by omega) (by omega) n2
  · exact absurd rfl c770 -- CLOSED
theorem law_waits (hX : Fx X code RL ret 13 600000 7302250) (hL : LX X b Ln xs) (hLn : Ln ≤ 2048) {W : Wp} {M : Md} (h : Rel W M) {i : Nat} (hi : i + 4 ≤ Ln) {kc ks : Nat} (hk1 : kc + 1 ≤ 600000) (hk2 : ks + 20 ≤ 7302250) (nx : ∀ W' M', Rel W' M' → PW X 18 [some (.ref 1500), some (.ref 0), some (.ref 45), some (.int (nI (i + 4)))] [] (LH W' M') (kc + 1) (ks + 20)) : PW X 775 [some (.ref 1500), some (.ref 0), some (.ref 45), some (.int (nI i))] [] (LH W M) kc ks := by
  obtain ⟨r, W', M', cx, cm, hr⟩ := cs_waits h (xs (i + 1)) (xs (i + 2)) (xs (i + 3))
  have n2 := nx W' M' hr
  refine PW.aload_n hX dL_law_775 rfl rfl ?_
  refine PW.aload_n hX dL_law_776 rfl rfl ?_
  refine PW.iload_n hX dL_law_777 rfl rfl ?_
  refine PW.iconst (v := nI 1) hX dL_law_778 (by decide) ?_
  refine PW.iadd hX dL_law_779 ?_
  refine PW.top (nI_add i 1) ?_
  refine PW.sld hX hL (k := i + 1) (by omega) (by omega) dL_law_780 rfl ?_
  refine PW.aload_n hX dL_law_781 rfl rfl ?_
  refine PW.iload_n hX dL_law_782 rfl rfl ?_
  refine PW.iconst (v := nI 2) hX dL_law_783 (by decide) ?_
  refine PW.iadd hX dL_law_784 ?_
  refine PW.top (nI_add i 2) ?_
  refine PW.sld hX hL (k := i + 2) (by omega) (by omega) dL_law_785 rfl ?_
  refine PW.aload_n hX dL_law_786 rfl rfl ?_
  refine PW.iload_n hX dL_law_787 rfl rfl ?_
  refine PW.iconst (v := nI 3) hX dL_law_788 (by decide) ?_
  refine PW.iadd hX dL_law_789 ?_
  refine PW.top (nI_add i 3) ?_
  refine PW.sld hX hL (k := i + 3) (by omega) (by omega) dL_law_790 rfl ?_
  refine PW.vG hX ml_L_109 cx dL_law_791 LI1 (le_x W M) rfl rfl rfl rfl rfl rfl rfl (by omega) (by omega) rfl rfl rfl rfl (lh_x W W' M) ?_
  refine PW.aload_n hX dL_law_794 rfl rfl ?_
  refine PW.aload_n hX dL_law_795 rfl rfl ?_
  refine PW.iload_n hX dL_law_796 rfl rfl ?_
  refine PW.iconst (v := nI 1) hX dL_law_797 (by decide) ?_
  refine PW.iadd hX dL_law_798 ?_
  refine PW.top (nI_add i 1) ?_
  refine PW.sld hX hL (k := i + 1) (by omega) (by omega) dL_law_799 rfl ?_
  refine PW.aload_n hX dL_law_800 rfl rfl ?_
  refine PW.iload_n hX dL_law_801 rfl rfl ?_
  refine PW.iconst (v := nI 2) hX dL_law_802 (by decide) ?_
  refine PW.iadd hX dL_law_803 ?_
  refine PW.top (nI_add i 2) ?_
  refine PW.sld hX hL (k := i + 2) (by omega) (by omega) dL_law_804 rfl ?_
  refine PW.aload_n hX dL_law_805 rfl rfl ?_
  refine PW.iload_n hX dL_law_806 rfl rfl ?_
  refine PW.iconst (v := nI 3) hX dL_law_807 (by decide) ?_
  refine PW.iadd hX dL_law_808 ?_
  refine PW.top (nI_add i 3) ?_
  refine PW.sld hX hL (k := i + 3) (by omega) (by omega) dL_law_809 rfl ?_
  refine PW.vG hX ml_L_112 cm dL_law_810 LI2 (le_m W' M) rfl rfl rfl rfl rfl rfl rfl (by omega) (by omega) rfl rfl rfl rfl (lh_m W' M M') ?_
  refine PW.icmp_eq (tgt := 1002) hX dL_law_813 (by decide) (fun c813 => ?_) (fun c813 => ?_)
  · refine PW.iinc (v := nI (i + 4)) hX dL_law_1002 rfl (show nI i + Int32.ofInt 4 = nI (i + 4) from nI_add i 4) ?_
    refine PW.goto (tgt := 18) hX dL_law_1005 (by decide) ?_
    exact PW.widen (by omega) (by omega) n2
  · exact absurd rfl c813 -- CLOSED
theorem law_vain (hX : Fx X code RL ret 13 600000 7302250) (hL : LX X b Ln xs) (hLn : Ln ≤ 2048) {W : Wp} {M : Md} (h : Rel W M) {i : Nat} (hi : i + 4 ≤ Ln) {kc ks : Nat} (hk1 : kc + 1 ≤ 600000) (hk2 : ks + 20 ≤ 7302250) (nx : ∀ W' M', Rel W' M' → PW X 18 [some (.ref 1500), some (.ref 0), some (.ref 45), some (.int (nI (i + 4)))] [] (LH W' M') (kc + 1) (ks + 20)) : PW X 818 [some (.ref 1500), some (.ref 0), some (.ref 45), some (.int (nI i))] [] (LH W M) kc ks := by
  obtain ⟨r, W', M', cx, cm, hr⟩ := cs_vain h (xs (i + 1)) (xs (i + 2)) (xs (i + 3))
  have n2 := nx W' M' hr
  refine PW.aload_n hX dL_law_818 rfl rfl ?_
  refine PW.aload_n hX dL_law_819 rfl rfl ?_
  refine PW.iload_n hX dL_law_820 rfl rfl ?_
  refine PW.iconst (v := nI 1) hX dL_law_821 (by decide) ?_
  refine PW.iadd hX dL_law_822 ?_
  refine PW.top (nI_add i 1) ?_
  refine PW.sld hX hL (k := i + 1) (by omega) (by omega) dL_law_823 rfl ?_
  refine PW.aload_n hX dL_law_824 rfl rfl ?_
  refine PW.iload_n hX dL_law_825 rfl rfl ?_
  refine PW.iconst (v := nI 2) hX dL_law_826 (by decide) ?_
  refine PW.iadd hX dL_law_827 ?_
  refine PW.top (nI_add i 2) ?_
  refine PW.sld hX hL (k := i + 2) (by omega) (by omega) dL_law_828 rfl ?_
  refine PW.aload_n hX dL_law_829 rfl rfl ?_
  refine PW.iload_n hX dL_law_830 rfl rfl ?_
  refine PW.iconst (v := nI 3) hX dL_law_831 (by decide) ?_
  refine PW.iadd hX dL_law_832 ?_
  refine PW.top (nI_add i 3) ?_
  refine PW.sld hX hL (k := i + 3) (by omega) (by omega) dL_law_833 rfl ?_
  refine PW.vG hX ml_L_113 cx dL_law_834 LI1 (le_x W M) rfl rfl rfl rfl rfl rfl rfl (by omega) (by omega) rfl rfl rfl rfl (lh_x W W' M) ?_
  refine PW.aload_n hX dL_law_837 rfl rfl ?_
  refine PW.aload_n hX dL_law_838 rfl rfl ?_
  refine PW.iload_n hX dL_law_839 rfl rfl ?_
  refine PW.iconst (v := nI 1) hX dL_law_840 (by decide) ?_
  refine PW.iadd hX dL_law_841 ?_
  refine PW.top (nI_add i 1) ?_
  refine PW.sld hX hL (k := i + 1) (by omega) (by omega) dL_law_842 rfl ?_
  refine PW.aload_n hX dL_law_843 rfl rfl ?_
  refine PW.iload_n hX dL_law_844 rfl rfl ?_
  refine PW.iconst (v := nI 2) hX dL_law_845 (by decide) ?_
  refine PW.iadd hX dL_law_846 ?_
  refine PW.top (nI_add i 2) ?_
  refine PW.sld hX hL (k := i + 2) (by omega) (by omega) dL_law_847 rfl ?_
  refine PW.aload_n hX dL_law_848 rfl rfl ?_
  refine PW.iload_n hX dL_law_849 rfl rfl ?_
  refine PW.iconst (v := nI 3) hX dL_law_850 (by decide) ?_
  refine PW.iadd hX dL_law_851 ?_
  refine PW.top (nI_add i 3) ?_
  refine PW.sld hX hL (k := i + 3) (by omega) (by omega) dL_law_852 rfl ?_
  refine PW.vG hX ml_L_116 cm dL_law_853 LI2 (le_m W' M) rfl rfl rfl rfl rfl rfl rfl (by omega) (by omega) rfl rfl rfl rfl (lh_m W' M M') ?_
  refine PW.icmp_eq (tgt := 1002) hX dL_law_856 (by decide) (fun c856 => ?_) (fun c856 => ?_)
  · refine PW.iinc (v := nI (i + 4)) hX dL_law_1002 rfl (show nI i + Int32.ofInt 4 = nI (i + 4) from nI_add i 4) ?_
    refine PW.goto (tgt := 18) hX dL_law_1005 (by decide) ?_
    exact PW.widen (by omega) (by omega) n2
  · exact absurd rfl c856 -- CLOSED
theorem law_seen (hX : Fx X code RL ret 13 600000 7302250) (hL : LX X b Ln xs) (hLn : Ln ≤ 2048) {W : Wp} {M : Md} (h : Rel W M) {i : Nat} (hi : i + 4 ≤ Ln) {kc ks : Nat} (hk1 : kc + 1 ≤ 600000) (hk2 : ks + 20 ≤ 7302250) (nx : ∀ W' M', Rel W' M' → PW X 18 [some (.ref 1500), some (.ref 0), some (.ref 45), some (.int (nI (i + 4)))] [] (LH W' M') (kc + 1) (ks + 20)) : PW X 861 [some (.ref 1500), some (.ref 0), some (.ref 45), some (.int (nI i))] [] (LH W M) kc ks := by
  obtain ⟨r, W', M', cx, cm, hr⟩ := cs_seen h (xs (i + 1))
  have n2 := nx W' M' hr
  refine PW.aload_n hX dL_law_861 rfl rfl ?_
  refine PW.aload_n hX dL_law_862 rfl rfl ?_
  refine PW.iload_n hX dL_law_863 rfl rfl ?_
  refine PW.iconst (v := nI 1) hX dL_law_864 (by decide) ?_
  refine PW.iadd hX dL_law_865 ?_
  refine PW.top (nI_add i 1) ?_
  refine PW.sld hX hL (k := i + 1) (by omega) (by omega) dL_law_866 rfl ?_
  refine PW.vG hX ml_L_117 cx dL_law_867 LI1 (le_x W M) rfl rfl rfl rfl rfl rfl rfl (by omega) (by omega) rfl rfl rfl rfl (lh_x W W' M) ?_
  refine PW.aload_n hX dL_law_870 rfl rfl ?_
  refine PW.aload_n hX dL_law_871 rfl rfl ?_
  refine PW.iload_n hX dL_law_872 rfl rfl ?_
  refine PW.iconst (v := nI 1) hX dL_law_873 (by decide) ?_
  refine PW.iadd hX dL_law_874 ?_
  refine PW.top (nI_add i 1) ?_
  refine PW.sld hX hL (k := i + 1) (by omega) (by omega) dL_law_875 rfl ?_
  refine PW.vG hX ml_L_120 cm dL_law_876 LI2 (le_m W' M) rfl rfl rfl rfl rfl rfl rfl (by omega) (by omega) rfl rfl rfl rfl (lh_m W' M M') ?_
  refine PW.icmp_eq (tgt := 1002) hX dL_law_879 (by decide) (fun c879 => ?_) (fun c879 => ?_)
  · refine PW.iinc (v := nI (i + 4)) hX dL_law_1002 rfl (show nI i + Int32.ofInt 4 = nI (i + 4) from nI_add i 4) ?_
    refine PW.goto (tgt := 18) hX dL_law_1005 (by decide) ?_
    exact PW.widen (by omega) (by omega) n2
  · exact absurd rfl c879 -- CLOSED
theorem law_row (hX : Fx X code RL ret 13 600000 7302250) (hL : LX X b Ln xs) (hLn : Ln ≤ 2048) {W : Wp} {M : Md} (h : Rel W M) {i : Nat} (hi : i + 4 ≤ Ln) {kc ks : Nat} (hk1 : kc + 1 ≤ 600000) (hk2 : ks + 20 ≤ 7302250) (nx : ∀ W' M', Rel W' M' → PW X 18 [some (.ref 1500), some (.ref 0), some (.ref 45), some (.int (nI (i + 4)))] [] (LH W' M') (kc + 1) (ks + 20)) : PW X 884 [some (.ref 1500), some (.ref 0), some (.ref 45), some (.int (nI i))] [] (LH W M) kc ks := by
  obtain ⟨r, W', M', cx, cm, hr⟩ := cs_row h (xs (i + 1))
  have n2 := nx W' M' hr
  refine PW.aload_n hX dL_law_884 rfl rfl ?_
  refine PW.aload_n hX dL_law_885 rfl rfl ?_
  refine PW.iload_n hX dL_law_886 rfl rfl ?_
  refine PW.iconst (v := nI 1) hX dL_law_887 (by decide) ?_
  refine PW.iadd hX dL_law_888 ?_
  refine PW.top (nI_add i 1) ?_
  refine PW.sld hX hL (k := i + 1) (by omega) (by omega) dL_law_889 rfl ?_
  refine PW.vG hX ml_L_121 cx dL_law_890 LI1 (le_x W M) rfl rfl rfl rfl rfl rfl rfl (by omega) (by omega) rfl rfl rfl rfl (lh_x W W' M) ?_
  refine PW.aload_n hX dL_law_893 rfl rfl ?_
  refine PW.aload_n hX dL_law_894 rfl rfl ?_
  refine PW.iload_n hX dL_law_895 rfl rfl ?_
  refine PW.iconst (v := nI 1) hX dL_law_896 (by decide) ?_
  refine PW.iadd hX dL_law_897 ?_
  refine PW.top (nI_add i 1) ?_
  refine PW.sld hX hL (k := i + 1) (by omega) (by omega) dL_law_898 rfl ?_
  refine PW.vG hX ml_L_124 cm dL_law_899 LI2 (le_m W' M) rfl rfl rfl rfl rfl rfl rfl (by omega) (by omega) rfl rfl rfl rfl (lh_m W' M M') ?_
  refine PW.icmp_eq (tgt := 1002) hX dL_law_902 (by decide) (fun c902 => ?_) (fun c902 => ?_)
  · refine PW.iinc (v := nI (i + 4)) hX dL_law_1002 rfl (show nI i + Int32.ofInt 4 = nI (i + 4) from nI_add i 4) ?_
    refine PW.goto (tgt := 18) hX dL_law_1005 (by decide) ?_
    exact PW.widen (by omega) (by omega) n2
  · exact absurd rfl c902 -- CLOSED
theorem law_judge (hX : Fx X code RL ret 13 600000 7302250) (hL : LX X b Ln xs) (hLn : Ln ≤ 2048) {W : Wp} {M : Md} (h : Rel W M) {i : Nat} (hi : i + 4 ≤ Ln) {kc ks : Nat} (hk1 : kc + 1 ≤ 600000) (hk2 : ks + 20 ≤ 7302250) (nx : ∀ W' M', Rel W' M' → PW X 18 [some (.ref 1500), some (.ref 0), some (.ref 45), some (.int (nI (i + 4)))] [] (LH W' M') (kc + 1) (ks + 20)) : PW X 907 [some (.ref 1500), some (.ref 0), some (.ref 45), some (.int (nI i))] [] (LH W M) kc ks := by
  obtain ⟨r, W', M', cx, cm, hr⟩ := cs_judge h 
  have n2 := nx W' M' hr
  refine PW.aload_n hX dL_law_907 rfl rfl ?_
  refine PW.vG hX ml_L_125 cx dL_law_908 LI1 (le_x W M) rfl rfl rfl rfl rfl rfl rfl (by omega) (by omega) rfl rfl rfl rfl (lh_x W W' M) ?_
  refine PW.aload_n hX dL_law_911 rfl rfl ?_
  refine PW.vG hX ml_L_128 cm dL_law_912 LI2 (le_m W' M) rfl rfl rfl rfl rfl rfl rfl (by omega) (by omega) rfl rfl rfl rfl (lh_m W' M M') ?_
  refine PW.icmp_eq (tgt := 1002) hX dL_law_915 (by decide) (fun c915 => ?_) (fun c915 => ?_)
  · refine PW.iinc (v := nI (i + 4)) hX dL_law_1002 rfl (show nI i + Int32.ofInt 4 = nI (i + 4) from nI_add i 4) ?_
    refine PW.goto (tgt := 18) hX dL_law_1005 (by decide) ?_
    exact PW.widen (by omega) (by omega) n2
  · exact absurd rfl c915 -- CLOSED
theorem law_lots (hX : Fx X code RL ret 13 600000 7302250) (hL : LX X b Ln xs) (hLn : Ln ≤ 2048) {W : Wp} {M : Md} (h : Rel W M) {i : Nat} (hi : i + 4 ≤ Ln) {kc ks : Nat} (hk1 : kc + 1 ≤ 600000) (hk2 : ks + 20 ≤ 7302250) (nx : ∀ W' M', Rel W' M' → PW X 18 [some (.ref 1500), some (.ref 0), some (.ref 45), some (.int (nI (i + 4)))] [] (LH W' M') (kc + 1) (ks + 20)) : PW X 920 [some (.ref 1500), some (.ref 0), some (.ref 45), some (.int (nI i))] [] (LH W M) kc ks := by
  obtain ⟨r, W', M', cx, cm, hr⟩ := cs_lots h (xs (i + 1)) (xs (i + 2))
  have n2 := nx W' M' hr
  refine PW.aload_n hX dL_law_920 rfl rfl ?_
  refine PW.aload_n hX dL_law_921 rfl rfl ?_
  refine PW.iload_n hX dL_law_922 rfl rfl ?_
  refine PW.iconst (v := nI 1) hX dL_law_923 (by decide) ?_
  refine PW.iadd hX dL_law_924 ?_
  refine PW.top (nI_add i 1) ?_
  refine PW.sld hX hL (k := i + 1) (by omega) (by omega) dL_law_925 rfl ?_
  refine PW.aload_n hX dL_law_926 rfl rfl ?_
  refine PW.iload_n hX dL_law_927 rfl rfl ?_
  refine PW.iconst (v := nI 2) hX dL_law_928 (by decide) ?_
  refine PW.iadd hX dL_law_929 ?_
  refine PW.top (nI_add i 2) ?_
  refine PW.sld hX hL (k := i + 2) (by omega) (by omega) dL_law_930 rfl ?_
  refine PW.vG hX ml_L_129 cx dL_law_931 LI1 (le_x W M) rfl rfl rfl rfl rfl rfl rfl (by omega) (by omega) rfl rfl rfl rfl (lh_x W W' M) ?_
  refine PW.aload_n hX dL_law_934 rfl rfl ?_
  refine PW.aload_n hX dL_law_935 rfl rfl ?_
  refine PW.iload_n hX dL_law_936 rfl rfl ?_
  refine PW.iconst (v := nI 1) hX dL_law_937 (by decide) ?_
  refine PW.iadd hX dL_law_938 ?_
  refine PW.top (nI_add i 1) ?_
  refine PW.sld hX hL (k := i + 1) (by omega) (by omega) dL_law_939 rfl ?_
  refine PW.aload_n hX dL_law_940 rfl rfl ?_
  refine PW.iload_n hX dL_law_941 rfl rfl ?_
  refine PW.iconst (v := nI 2) hX dL_law_942 (by decide) ?_
  refine PW.iadd hX dL_law_943 ?_
  refine PW.top (nI_add i 2) ?_
  refine PW.sld hX hL (k := i + 2) (by omega) (by omega) dL_law_944 rfl ?_
  refine PW.vG hX ml_L_132 cm dL_law_945 LI2 (le_m W' M) rfl rfl rfl rfl rfl rfl rfl (by omega) (by omega) rfl rfl rfl rfl (lh_m W' M M') ?_
  refine PW.icmp_eq (tgt := 1002) hX dL_law_948 (by decide) (fun c948 => ?_) (fun c948 => ?_)
  · refine PW.iinc (v := nI (i + 4)) hX dL_law_1002 rfl (show nI i + Int32.ofInt 4 = nI (i + 4) from nI_add i 4) ?_
    refine PW.goto (tgt := 18) hX dL_law_1005 (by decide) ?_
    exact PW.widen (by omega) (by omega) n2
  · exact absurd rfl c948 -- CLOSED
theorem law_image (hX : Fx X code RL ret 13 600000 7302250) (hL : LX X b Ln xs) (hLn : Ln ≤ 2048) {W : Wp} {M : Md} (h : Rel W M) {i : Nat} (hi : i + 4 ≤ Ln) {kc ks : Nat} (hk1 : kc + 1 ≤ 600000) (hk2 : ks + 20 ≤ 7302250) (nx : ∀ W' M', Rel W' M' → PW X 18 [some (.ref 1500), some (.ref 0), some (.ref 45), some (.int (nI (i + 4)))] [] (LH W' M') (kc + 1) (ks + 20)) : PW X 953 [some (.ref 1500), some (.ref 0), some (.ref 45), some (.int (nI i))] [] (LH W M) kc ks := by
  obtain ⟨r, W', M', cx, cm, hr⟩ := cs_image h 
  have n2 := nx W' M' hr
  refine PW.aload_n hX dL_law_953 rfl rfl ?_
  refine PW.vG hX ml_L_133 cx dL_law_954 LI1 (le_x W M) rfl rfl rfl rfl rfl rfl rfl (by omega) (by omega) rfl rfl rfl rfl (lh_x W W' M) ?_
  refine PW.aload_n hX dL_law_957 rfl rfl ?_
  refine PW.vG hX ml_L_136 cm dL_law_958 LI2 (le_m W' M) rfl rfl rfl rfl rfl rfl rfl (by omega) (by omega) rfl rfl rfl rfl (lh_m W' M M') ?_
  refine PW.icmp_eq (tgt := 1002) hX dL_law_961 (by decide) (fun c961 => ?_) (fun c961 => ?_)
  · refine PW.iinc (v := nI (i + 4)) hX dL_law_1002 rfl (show nI i + Int32.ofInt 4 = nI (i + 4) from nI_add i 4) ?_
    refine PW.goto (tgt := 18) hX dL_law_1005 (by decide) ?_
    exact PW.widen (by omega) (by omega) n2
  · exact absurd rfl c961 -- CLOSED
theorem law_on (hX : Fx X code RL ret 13 600000 7302250) (hL : LX X b Ln xs) (hLn : Ln ≤ 2048) {W : Wp} {M : Md} (h : Rel W M) {i : Nat} (hi : i + 4 ≤ Ln) {kc ks : Nat} (hk1 : kc + 1 ≤ 600000) (hk2 : ks + 20 ≤ 7302250) (nx : ∀ W' M', Rel W' M' → PW X 18 [some (.ref 1500), some (.ref 0), some (.ref 45), some (.int (nI (i + 4)))] [] (LH W' M') (kc + 1) (ks + 20)) : PW X 966 [some (.ref 1500), some (.ref 0), some (.ref 45), some (.int (nI i))] [] (LH W M) kc ks := by
  obtain ⟨r, W', M', cx, cm, hr⟩ := cs_on h 
  have n2 := nx W' M' hr
  refine PW.aload_n hX dL_law_966 rfl rfl ?_
  refine PW.vG hX ml_L_137 cx dL_law_967 LI1 (le_x W M) rfl rfl rfl rfl rfl rfl rfl (by omega) (by omega) rfl rfl rfl rfl (lh_x W W' M) ?_
  refine PW.aload_n hX dL_law_970 rfl rfl ?_
  refine PW.vG hX ml_L_140 cm dL_law_971 LI2 (le_m W' M) rfl rfl rfl rfl rfl rfl rfl (by omega) (by omega) rfl rfl rfl rfl (lh_m W' M M') ?_
  refine PW.icmp_eq (tgt := 1002) hX dL_law_974 (by decide) (fun c974 => ?_) (fun c974 => ?_)
  · refine PW.iinc (v := nI (i + 4)) hX dL_law_1002 rfl (show nI i + Int32.ofInt 4 = nI (i + 4) from nI_add i 4) ?_
    refine PW.goto (tgt := 18) hX dL_law_1005 (by decide) ?_
    exact PW.widen (by omega) (by omega) n2
  · exact absurd rfl c974 -- CLOSED
theorem law_count (hX : Fx X code RL ret 13 600000 7302250) (hL : LX X b Ln xs) (hLn : Ln ≤ 2048) {W : Wp} {M : Md} (h : Rel W M) {i : Nat} (hi : i + 4 ≤ Ln) {kc ks : Nat} (hk1 : kc + 1 ≤ 600000) (hk2 : ks + 20 ≤ 7302250) (nx : ∀ W' M', Rel W' M' → PW X 18 [some (.ref 1500), some (.ref 0), some (.ref 45), some (.int (nI (i + 4)))] [] (LH W' M') (kc + 1) (ks + 20)) : PW X 979 [some (.ref 1500), some (.ref 0), some (.ref 45), some (.int (nI i))] [] (LH W M) kc ks := by
  obtain ⟨r, W', M', cx, cm, hr⟩ := cs_count h (xs (i + 1))
  have n2 := nx W' M' hr
  refine PW.aload_n hX dL_law_979 rfl rfl ?_
  refine PW.aload_n hX dL_law_980 rfl rfl ?_
  refine PW.iload_n hX dL_law_981 rfl rfl ?_
  refine PW.iconst (v := nI 1) hX dL_law_982 (by decide) ?_
  refine PW.iadd hX dL_law_983 ?_
  refine PW.top (nI_add i 1) ?_
  refine PW.sld hX hL (k := i + 1) (by omega) (by omega) dL_law_984 rfl ?_
  refine PW.vG hX ml_L_141 cx dL_law_985 LI1 (le_x W M) rfl rfl rfl rfl rfl rfl rfl (by omega) (by omega) rfl rfl rfl rfl (lh_x W W' M) ?_
  refine PW.aload_n hX dL_law_988 rfl rfl ?_
  refine PW.aload_n hX dL_law_989 rfl rfl ?_
  refine PW.iload_n hX dL_law_990 rfl rfl ?_
  refine PW.iconst (v := nI 1) hX dL_law_991 (by decide) ?_
  refine PW.iadd hX dL_law_992 ?_
  refine PW.top (nI_add i 1) ?_
  refine PW.sld hX hL (k := i + 1) (by omega) (by omega) dL_law_993 rfl ?_
  refine PW.vG hX ml_L_144 cm dL_law_994 LI2 (le_m W' M) rfl rfl rfl rfl rfl rfl rfl (by omega) (by omega) rfl rfl rfl rfl (lh_m W' M M') ?_
  refine PW.icmp_eq (tgt := 1002) hX dL_law_997 (by decide) (fun c997 => ?_) (fun c997 => ?_)
  · refine PW.iinc (v := nI (i + 4)) hX dL_law_1002 rfl (show nI i + Int32.ofInt 4 = nI (i + 4) from nI_add i 4) ?_
    refine PW.goto (tgt := 18) hX dL_law_1005 (by decide) ?_
    exact PW.widen (by omega) (by omega) n2
  · exact absurd rfl c997 -- CLOSED
end LawC
