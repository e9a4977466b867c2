theorem yL_le {V : Vt} {Y : Yt} (hy : OkL V Y) : yL Y ≤ 3072 := by
  obtain ⟨p, l, e, s, m, below, meth, c, b, L, xs, ce, so⟩ := Y
  exact hy.2.2.2.2.2.2
set_option maxHeartbeats 1000000 in
theorem lc_0 (V : Vt) (ad : Nat → Nat) (Y : Yt) (hy : OkL V Y) (κ μ : Sg) (hR : REL V κ μ) (i : Nat) (hi : i + 6 ≤ yL Y) (hnext : ∀ κ' μ' : Sg, REL V κ' μ' → WL V ad Y κ' μ' 1423 [(3, .int (nI i)), (2, rf (VMo V ad) 0), (1, rf V 0), (0, rb Y)] []) : WL V ad Y κ μ 204 [(3, .int (nI i)), (2, rf (VMo V ad) 0), (1, rf V 0), (0, rb Y)] [] := by
  have h3072 := yL_le hy
  refine WL.aload_n hy dL_law_204 rfl 2 rfl ?_
  refine WL.aload_n hy dL_law_205 rfl 3 rfl ?_
  refine WL.iload_n hy dL_law_206 rfl 0 rfl ?_
  refine WL.iconst (v := 1) hy dL_law_207 (by decide) ?_
  refine WL.iadd hy dL_law_208 ?_
  refine WL.as (congrArg (fun z => Value.int z :: _) (show nI i + 1 = nI (i + 1) from nI_add i 1)) ?_
  refine WL.sld hy (vp_in_nI (by omega) (by omega)) dL_law_209 ?_
  refine WL.as (congrArg (fun z => Value.int z :: _) (show yX Y (nI (i + 1)).toNatClampNeg = yX Y (i + 1) by rw [nI_clamp (show i + 1 < 2 ^ 31 by omega)])) ?_
  obtain ⟨PC, PM, hC, hM, hE⟩ := op_block V (VMo V ad) κ μ hR (yX Y (i + 1))
  refine WL.callC (st := []) [.int (yX Y (i + 1))] hy hC okX10_block lmL_13 rfl rfl rfl rfl (Nat.le_of_ble_eq_true rfl) dL_law_210 (fun r1 κ1 g1 => ?_)
  obtain ⟨v1, rfl, h1⟩ := g1
  show WL V ad Y κ1 μ 213 [(3, .int (nI i)), (2, rf (VMo V ad) 0), (1, rf V 0), (0, rb Y)] [.int v1]
  refine WL.aload_n hy dL_law_213 rfl 1 rfl ?_
  refine WL.aload_n hy dL_law_214 rfl 3 rfl ?_
  refine WL.iload_n hy dL_law_215 rfl 0 rfl ?_
  refine WL.iconst (v := 1) hy dL_law_216 (by decide) ?_
  refine WL.iadd hy dL_law_217 ?_
  refine WL.as (congrArg (fun z => Value.int z :: _) (show nI i + 1 = nI (i + 1) from nI_add i 1)) ?_
  refine WL.sld hy (vp_in_nI (by omega) (by omega)) dL_law_218 ?_
  refine WL.as (congrArg (fun z => Value.int z :: _) (show yX Y (nI (i + 1)).toNatClampNeg = yX Y (i + 1) by rw [nI_clamp (show i + 1 < 2 ^ 31 by omega)])) ?_
  refine WL.callM (st := [.int v1]) [.int (yX Y (i + 1))] hy hM okX11_block lmL_17 rfl rfl rfl rfl (Nat.le_of_ble_eq_true rfl) dL_law_219 (fun r2 μ1 g2 => ?_)
  obtain ⟨v2, rfl, h2⟩ := g2
  obtain ⟨he, hR1⟩ := hE v1 κ1 v2 μ1 h1 h2
  show WL V ad Y κ1 μ1 222 [(3, .int (nI i)), (2, rf (VMo V ad) 0), (1, rf V 0), (0, rb Y)] [.int v2, .int v1]
  refine WL.icmp_eq (tgt := 1423) hy dL_law_222 (by decide) he ?_
  exact hnext κ1 μ1 hR1
set_option maxHeartbeats 1000000 in
theorem lc_1 (V : Vt) (ad : Nat → Nat) (Y : Yt) (hy : OkL V Y) (κ μ : Sg) (hR : REL V κ μ) (i : Nat) (hi : i + 6 ≤ yL Y) (hnext : ∀ κ' μ' : Sg, REL V κ' μ' → WL V ad Y κ' μ' 1423 [(3, .int (nI i)), (2, rf (VMo V ad) 0), (1, rf V 0), (0, rb Y)] []) : WL V ad Y κ μ 227 [(3, .int (nI i)), (2, rf (VMo V ad) 0), (1, rf V 0), (0, rb Y)] [] := by
  have h3072 := yL_le hy
  refine WL.aload_n hy dL_law_227 rfl 2 rfl ?_
  refine WL.aload_n hy dL_law_228 rfl 3 rfl ?_
  refine WL.iload_n hy dL_law_229 rfl 0 rfl ?_
  refine WL.iconst (v := 1) hy dL_law_230 (by decide) ?_
  refine WL.iadd hy dL_law_231 ?_
  refine WL.as (congrArg (fun z => Value.int z :: _) (show nI i + 1 = nI (i + 1) from nI_add i 1)) ?_
  refine WL.sld hy (vp_in_nI (by omega) (by omega)) dL_law_232 ?_
  refine WL.as (congrArg (fun z => Value.int z :: _) (show yX Y (nI (i + 1)).toNatClampNeg = yX Y (i + 1) by rw [nI_clamp (show i + 1 < 2 ^ 31 by omega)])) ?_
  refine WL.aload_n hy dL_law_233 rfl 3 rfl ?_
  refine WL.iload_n hy dL_law_234 rfl 0 rfl ?_
  refine WL.iconst (v := 2) hy dL_law_235 (by decide) ?_
  refine WL.iadd hy dL_law_236 ?_
  refine WL.as (congrArg (fun z => Value.int z :: _) (show nI i + 2 = nI (i + 2) from nI_add i 2)) ?_
  refine WL.sld hy (vp_in_nI (by omega) (by omega)) dL_law_237 ?_
  refine WL.as (congrArg (fun z => Value.int z :: _) (show yX Y (nI (i + 2)).toNatClampNeg = yX Y (i + 2) by rw [nI_clamp (show i + 2 < 2 ^ 31 by omega)])) ?_
  refine WL.aload_n hy dL_law_238 rfl 3 rfl ?_
  refine WL.iload_n hy dL_law_239 rfl 0 rfl ?_
  refine WL.iconst (v := 3) hy dL_law_240 (by decide) ?_
  refine WL.iadd hy dL_law_241 ?_
  refine WL.as (congrArg (fun z => Value.int z :: _) (show nI i + 3 = nI (i + 3) from nI_add i 3)) ?_
  refine WL.sld hy (vp_in_nI (by omega) (by omega)) dL_law_242 ?_
  refine WL.as (congrArg (fun z => Value.int z :: _) (show yX Y (nI (i + 3)).toNatClampNeg = yX Y (i + 3) by rw [nI_clamp (show i + 3 < 2 ^ 31 by omega)])) ?_
  obtain ⟨PC, PM, hC, hM, hE⟩ := op_blocks V (VMo V ad) κ μ hR (yX Y (i + 1)) (yX Y (i + 2)) (yX Y (i + 3))
  refine WL.callC (st := []) [.int (yX Y (i + 1)), .int (yX Y (i + 2)), .int (yX Y (i + 3))] hy hC okX10_blocks lmL_18 rfl rfl rfl rfl (Nat.le_of_ble_eq_true rfl) dL_law_243 (fun r1 κ1 g1 => ?_)
  obtain ⟨v1, rfl, h1⟩ := g1
  show WL V ad Y κ1 μ 246 [(3, .int (nI i)), (2, rf (VMo V ad) 0), (1, rf V 0), (0, rb Y)] [.int v1]
  refine WL.aload_n hy dL_law_246 rfl 1 rfl ?_
  refine WL.aload_n hy dL_law_247 rfl 3 rfl ?_
  refine WL.iload_n hy dL_law_248 rfl 0 rfl ?_
  refine WL.iconst (v := 1) hy dL_law_249 (by decide) ?_
  refine WL.iadd hy dL_law_250 ?_
  refine WL.as (congrArg (fun z => Value.int z :: _) (show nI i + 1 = nI (i + 1) from nI_add i 1)) ?_
  refine WL.sld hy (vp_in_nI (by omega) (by omega)) dL_law_251 ?_
  refine WL.as (congrArg (fun z => Value.int z :: _) (show yX Y (nI (i + 1)).toNatClampNeg = yX Y (i + 1) by rw [nI_clamp (show i + 1 < 2 ^ 31 by omega)])) ?_
  refine WL.aload_n hy dL_law_252 rfl 3 rfl ?_
  refine WL.iload_n hy dL_law_253 rfl 0 rfl ?_
  refine WL.iconst (v := 2) hy dL_law_254 (by decide) ?_
  refine WL.iadd hy dL_law_255 ?_
  refine WL.as (congrArg (fun z => Value.int z :: _) (show nI i + 2 = nI (i + 2) from nI_add i 2)) ?_
  refine WL.sld hy (vp_in_nI (by omega) (by omega)) dL_law_256 ?_
  refine WL.as (congrArg (fun z => Value.int z :: _) (show yX Y (nI (i + 2)).toNatClampNeg = yX Y (i + 2) by rw [nI_clamp (show i + 2 < 2 ^ 31 by omega)])) ?_
  refine WL.aload_n hy dL_law_257 rfl 3 rfl ?_
  refine WL.iload_n hy dL_law_258 rfl 0 rfl ?_
  refine WL.iconst (v := 3) hy dL_law_259 (by decide) ?_
  refine WL.iadd hy dL_law_260 ?_
  refine WL.as (congrArg (fun z => Value.int z :: _) (show nI i + 3 = nI (i + 3) from nI_add i 3)) ?_
  refine WL.sld hy (vp_in_nI (by omega) (by omega)) dL_law_261 ?_
  refine WL.as (congrArg (fun z => Value.int z :: _) (show yX Y (nI (i + 3)).toNatClampNeg = yX Y (i + 3) by rw [nI_clamp (show i + 3 < 2 ^ 31 by omega)])) ?_
  refine WL.callM (st := [.int v1]) [.int (yX Y (i + 1)), .int (yX Y (i + 2)), .int (yX Y (i + 3))] hy hM okX11_blocks lmL_22 rfl rfl rfl rfl (Nat.le_of_ble_eq_true rfl) dL_law_262 (fun r2 μ1 g2 => ?_)
  obtain ⟨v2, rfl, h2⟩ := g2
  obtain ⟨he, hR1⟩ := hE v1 κ1 v2 μ1 h1 h2
  show WL V ad Y κ1 μ1 265 [(3, .int (nI i)), (2, rf (VMo V ad) 0), (1, rf V 0), (0, rb Y)] [.int v2, .int v1]
  refine WL.icmp_eq (tgt := 1423) hy dL_law_265 (by decide) he ?_
  exact hnext κ1 μ1 hR1
set_option maxHeartbeats 1000000 in
theorem lc_2 (V : Vt) (ad : Nat → Nat) (Y : Yt) (hy : OkL V Y) (κ μ : Sg) (hR : REL V κ μ) (i : Nat) (hi : i + 6 ≤ yL Y) (hnext : ∀ κ' μ' : Sg, REL V κ' μ' → WL V ad Y κ' μ' 1423 [(3, .int (nI i)), (2, rf (VMo V ad) 0), (1, rf V 0), (0, rb Y)] []) : WL V ad Y κ μ 270 [(3, .int (nI i)), (2, rf (VMo V ad) 0), (1, rf V 0), (0, rb Y)] [] := by
  have h3072 := yL_le hy
  refine WL.aload_n hy dL_law_270 rfl 2 rfl ?_
  refine WL.aload_n hy dL_law_271 rfl 3 rfl ?_
  refine WL.iload_n hy dL_law_272 rfl 0 rfl ?_
  refine WL.iconst (v := 1) hy dL_law_273 (by decide) ?_
  refine WL.iadd hy dL_law_274 ?_
  refine WL.as (congrArg (fun z => Value.int z :: _) (show nI i + 1 = nI (i + 1) from nI_add i 1)) ?_
  refine WL.sld hy (vp_in_nI (by omega) (by omega)) dL_law_275 ?_
  refine WL.as (congrArg (fun z => Value.int z :: _) (show yX Y (nI (i + 1)).toNatClampNeg = yX Y (i + 1) by rw [nI_clamp (show i + 1 < 2 ^ 31 by omega)])) ?_
  refine WL.aload_n hy dL_law_276 rfl 3 rfl ?_
  refine WL.iload_n hy dL_law_277 rfl 0 rfl ?_
  refine WL.iconst (v := 2) hy dL_law_278 (by decide) ?_
  refine WL.iadd hy dL_law_279 ?_
  refine WL.as (congrArg (fun z => Value.int z :: _) (show nI i + 2 = nI (i + 2) from nI_add i 2)) ?_
  refine WL.sld hy (vp_in_nI (by omega) (by omega)) dL_law_280 ?_
  refine WL.as (congrArg (fun z => Value.int z :: _) (show yX Y (nI (i + 2)).toNatClampNeg = yX Y (i + 2) by rw [nI_clamp (show i + 2 < 2 ^ 31 by omega)])) ?_
  refine WL.aload_n hy dL_law_281 rfl 3 rfl ?_
  refine WL.iload_n hy dL_law_282 rfl 0 rfl ?_
  refine WL.iconst (v := 3) hy dL_law_283 (by decide) ?_
  refine WL.iadd hy dL_law_284 ?_
  refine WL.as (congrArg (fun z => Value.int z :: _) (show nI i + 3 = nI (i + 3) from nI_add i 3)) ?_
  refine WL.sld hy (vp_in_nI (by omega) (by omega)) dL_law_285 ?_
  refine WL.as (congrArg (fun z => Value.int z :: _) (show yX Y (nI (i + 3)).toNatClampNeg = yX Y (i + 3) by rw [nI_clamp (show i + 3 < 2 ^ 31 by omega)])) ?_
  obtain ⟨PC, PM, hC, hM, hE⟩ := op_mend V (VMo V ad) κ μ hR (yX Y (i + 1)) (yX Y (i + 2)) (yX Y (i + 3))
  refine WL.callC (st := []) [.int (yX Y (i + 1)), .int (yX Y (i + 2)), .int (yX Y (i + 3))] hy hC okX10_mend lmL_23 rfl rfl rfl rfl (Nat.le_of_ble_eq_true rfl) dL_law_286 (fun r1 κ1 g1 => ?_)
  obtain ⟨v1, rfl, h1⟩ := g1
  show WL V ad Y κ1 μ 289 [(3, .int (nI i)), (2, rf (VMo V ad) 0), (1, rf V 0), (0, rb Y)] [.int v1]
  refine WL.aload_n hy dL_law_289 rfl 1 rfl ?_
  refine WL.aload_n hy dL_law_290 rfl 3 rfl ?_
  refine WL.iload_n hy dL_law_291 rfl 0 rfl ?_
  refine WL.iconst (v := 1) hy dL_law_292 (by decide) ?_
  refine WL.iadd hy dL_law_293 ?_
  refine WL.as (congrArg (fun z => Value.int z :: _) (show nI i + 1 = nI (i + 1) from nI_add i 1)) ?_
  refine WL.sld hy (vp_in_nI (by omega) (by omega)) dL_law_294 ?_
  refine WL.as (congrArg (fun z => Value.int z :: _) (show yX Y (nI (i + 1)).toNatClampNeg = yX Y (i + 1) by rw [nI_clamp (show i + 1 < 2 ^ 31 by omega)])) ?_
  refine WL.aload_n hy dL_law_295 rfl 3 rfl ?_
  refine WL.iload_n hy dL_law_296 rfl 0 rfl ?_
  refine WL.iconst (v := 2) hy dL_law_297 (by decide) ?_
  refine WL.iadd hy dL_law_298 ?_
  refine WL.as (congrArg (fun z => Value.int z :: _) (show nI i + 2 = nI (i + 2) from nI_add i 2)) ?_
  refine WL.sld hy (vp_in_nI (by omega) (by omega)) dL_law_299 ?_
  refine WL.as (congrArg (fun z => Value.int z :: _) (show yX Y (nI (i + 2)).toNatClampNeg = yX Y (i + 2) by rw [nI_clamp (show i + 2 < 2 ^ 31 by omega)])) ?_
  refine WL.aload_n hy dL_law_300 rfl 3 rfl ?_
  refine WL.iload_n hy dL_law_301 rfl 0 rfl ?_
  refine WL.iconst (v := 3) hy dL_law_302 (by decide) ?_
  refine WL.iadd hy dL_law_303 ?_
  refine WL.as (congrArg (fun z => Value.int z :: _) (show nI i + 3 = nI (i + 3) from nI_add i 3)) ?_
  refine WL.sld hy (vp_in_nI (by omega) (by omega)) dL_law_304 ?_
  refine WL.as (congrArg (fun z => Value.int z :: _) (show yX Y (nI (i + 3)).toNatClampNeg = yX Y (i + 3) by rw [nI_clamp (show i + 3 < 2 ^ 31 by omega)])) ?_
  refine WL.callM (st := [.int v1]) [.int (yX Y (i + 1)), .int (yX Y (i + 2)), .int (yX Y (i + 3))] hy hM okX11_mend lmL_26 rfl rfl rfl rfl (Nat.le_of_ble_eq_true rfl) dL_law_305 (fun r2 μ1 g2 => ?_)
  obtain ⟨v2, rfl, h2⟩ := g2
  obtain ⟨he, hR1⟩ := hE v1 κ1 v2 μ1 h1 h2
  show WL V ad Y κ1 μ1 308 [(3, .int (nI i)), (2, rf (VMo V ad) 0), (1, rf V 0), (0, rb Y)] [.int v2, .int v1]
  refine WL.icmp_eq (tgt := 1423) hy dL_law_308 (by decide) he ?_
  exact hnext κ1 μ1 hR1
set_option maxHeartbeats 1000000 in
theorem lc_3 (V : Vt) (ad : Nat → Nat) (Y : Yt) (hy : OkL V Y) (κ μ : Sg) (hR : REL V κ μ) (i : Nat) (hi : i + 6 ≤ yL Y) (hnext : ∀ κ' μ' : Sg, REL V κ' μ' → WL V ad Y κ' μ' 1423 [(3, .int (nI i)), (2, rf (VMo V ad) 0), (1, rf V 0), (0, rb Y)] []) : WL V ad Y κ μ 313 [(3, .int (nI i)), (2, rf (VMo V ad) 0), (1, rf V 0), (0, rb Y)] [] := by
  have h3072 := yL_le hy
  refine WL.aload_n hy dL_law_313 rfl 2 rfl ?_
  refine WL.aload_n hy dL_law_314 rfl 3 rfl ?_
  refine WL.iload_n hy dL_law_315 rfl 0 rfl ?_
  refine WL.iconst (v := 1) hy dL_law_316 (by decide) ?_
  refine WL.iadd hy dL_law_317 ?_
  refine WL.as (congrArg (fun z => Value.int z :: _) (show nI i + 1 = nI (i + 1) from nI_add i 1)) ?_
  refine WL.sld hy (vp_in_nI (by omega) (by omega)) dL_law_318 ?_
  refine WL.as (congrArg (fun z => Value.int z :: _) (show yX Y (nI (i + 1)).toNatClampNeg = yX Y (i + 1) by rw [nI_clamp (show i + 1 < 2 ^ 31 by omega)])) ?_
  refine WL.aload_n hy dL_law_319 rfl 3 rfl ?_
  refine WL.iload_n hy dL_law_320 rfl 0 rfl ?_
  refine WL.iconst (v := 2) hy dL_law_321 (by decide) ?_
  refine WL.iadd hy dL_law_322 ?_
  refine WL.as (congrArg (fun z => Value.int z :: _) (show nI i + 2 = nI (i + 2) from nI_add i 2)) ?_
  refine WL.sld hy (vp_in_nI (by omega) (by omega)) dL_law_323 ?_
  refine WL.as (congrArg (fun z => Value.int z :: _) (show yX Y (nI (i + 2)).toNatClampNeg = yX Y (i + 2) by rw [nI_clamp (show i + 2 < 2 ^ 31 by omega)])) ?_
  obtain ⟨PC, PM, hC, hM, hE⟩ := op_of V (VMo V ad) κ μ hR (yX Y (i + 1)) (yX Y (i + 2))
  refine WL.callC (st := []) [.int (yX Y (i + 1)), .int (yX Y (i + 2))] hy hC okX10_of lmL_27 rfl rfl rfl rfl (Nat.le_of_ble_eq_true rfl) dL_law_324 (fun r1 κ1 g1 => ?_)
  obtain ⟨v1, rfl, h1⟩ := g1
  show WL V ad Y κ1 μ 327 [(3, .int (nI i)), (2, rf (VMo V ad) 0), (1, rf V 0), (0, rb Y)] [.int v1]
  refine WL.aload_n hy dL_law_327 rfl 1 rfl ?_
  refine WL.aload_n hy dL_law_328 rfl 3 rfl ?_
  refine WL.iload_n hy dL_law_329 rfl 0 rfl ?_
  refine WL.iconst (v := 1) hy dL_law_330 (by decide) ?_
  refine WL.iadd hy dL_law_331 ?_
  refine WL.as (congrArg (fun z => Value.int z :: _) (show nI i + 1 = nI (i + 1) from nI_add i 1)) ?_
  refine WL.sld hy (vp_in_nI (by omega) (by omega)) dL_law_332 ?_
  refine WL.as (congrArg (fun z => Value.int z :: _) (show yX Y (nI (i + 1)).toNatClampNeg = yX Y (i + 1) by rw [nI_clamp (show i + 1 < 2 ^ 31 by omega)])) ?_
  refine WL.aload_n hy dL_law_333 rfl 3 rfl ?_
  refine WL.iload_n hy dL_law_334 rfl 0 rfl ?_
  refine WL.iconst (v := 2) hy dL_law_335 (by decide) ?_
  refine WL.iadd hy dL_law_336 ?_
  refine WL.as (congrArg (fun z => Value.int z :: _) (show nI i + 2 = nI (i + 2) from nI_add i 2)) ?_
  refine WL.sld hy (vp_in_nI (by omega) (by omega)) dL_law_337 ?_
  refine WL.as (congrArg (fun z => Value.int z :: _) (show yX Y (nI (i + 2)).toNatClampNeg = yX Y (i + 2) by rw [nI_clamp (show i + 2 < 2 ^ 31 by omega)])) ?_
  refine WL.callM (st := [.int v1]) [.int (yX Y (i + 1)), .int (yX Y (i + 2))] hy hM okX11_of lmL_31 rfl rfl rfl rfl (Nat.le_of_ble_eq_true rfl) dL_law_338 (fun r2 μ1 g2 => ?_)
  obtain ⟨v2, rfl, h2⟩ := g2
  obtain ⟨he, hR1⟩ := hE v1 κ1 v2 μ1 h1 h2
  show WL V ad Y κ1 μ1 341 [(3, .int (nI i)), (2, rf (VMo V ad) 0), (1, rf V 0), (0, rb Y)] [.int v2, .int v1]
  refine WL.icmp_eq (tgt := 1423) hy dL_law_341 (by decide) he ?_
  exact hnext κ1 μ1 hR1
set_option maxHeartbeats 1000000 in
theorem lc_4 (V : Vt) (ad : Nat → Nat) (Y : Yt) (hy : OkL V Y) (κ μ : Sg) (hR : REL V κ μ) (i : Nat) (hi : i + 6 ≤ yL Y) (hnext : ∀ κ' μ' : Sg, REL V κ' μ' → WL V ad Y κ' μ' 1423 [(3, .int (nI i)), (2, rf (VMo V ad) 0), (1, rf V 0), (0, rb Y)] []) : WL V ad Y κ μ 346 [(3, .int (nI i)), (2, rf (VMo V ad) 0), (1, rf V 0), (0, rb Y)] [] := by
  have h3072 := yL_le hy
  refine WL.aload_n hy dL_law_346 rfl 2 rfl ?_
  refine WL.aload_n hy dL_law_347 rfl 3 rfl ?_
  refine WL.iload_n hy dL_law_348 rfl 0 rfl ?_
  refine WL.iconst (v := 1) hy dL_law_349 (by decide) ?_
  refine WL.iadd hy dL_law_350 ?_
  refine WL.as (congrArg (fun z => Value.int z :: _) (show nI i + 1 = nI (i + 1) from nI_add i 1)) ?_
  refine WL.sld hy (vp_in_nI (by omega) (by omega)) dL_law_351 ?_
  refine WL.as (congrArg (fun z => Value.int z :: _) (show yX Y (nI (i + 1)).toNatClampNeg = yX Y (i + 1) by rw [nI_clamp (show i + 1 < 2 ^ 31 by omega)])) ?_
  obtain ⟨PC, PM, hC, hM, hE⟩ := op_feed V (VMo V ad) κ μ hR (yX Y (i + 1))
  refine WL.callC (st := []) [.int (yX Y (i + 1))] hy hC okX10_feed lmL_32 rfl rfl rfl rfl (Nat.le_of_ble_eq_true rfl) dL_law_352 (fun r1 κ1 g1 => ?_)
  obtain ⟨v1, rfl, h1⟩ := g1
  show WL V ad Y κ1 μ 355 [(3, .int (nI i)), (2, rf (VMo V ad) 0), (1, rf V 0), (0, rb Y)] [.int v1]
  refine WL.aload_n hy dL_law_355 rfl 1 rfl ?_
  refine WL.aload_n hy dL_law_356 rfl 3 rfl ?_
  refine WL.iload_n hy dL_law_357 rfl 0 rfl ?_
  refine WL.iconst (v := 1) hy dL_law_358 (by decide) ?_
  refine WL.iadd hy dL_law_359 ?_
  refine WL.as (congrArg (fun z => Value.int z :: _) (show nI i + 1 = nI (i + 1) from nI_add i 1)) ?_
  refine WL.sld hy (vp_in_nI (by omega) (by omega)) dL_law_360 ?_
  refine WL.as (congrArg (fun z => Value.int z :: _) (show yX Y (nI (i + 1)).toNatClampNeg = yX Y (i + 1) by rw [nI_clamp (show i + 1 < 2 ^ 31 by omega)])) ?_
  refine WL.callM (st := [.int v1]) [.int (yX Y (i + 1))] hy hM okX11_feed lmL_35 rfl rfl rfl rfl (Nat.le_of_ble_eq_true rfl) dL_law_361 (fun r2 μ1 g2 => ?_)
  obtain ⟨v2, rfl, h2⟩ := g2
  obtain ⟨he, hR1⟩ := hE v1 κ1 v2 μ1 h1 h2
  show WL V ad Y κ1 μ1 364 [(3, .int (nI i)), (2, rf (VMo V ad) 0), (1, rf V 0), (0, rb Y)] [.int v2, .int v1]
  refine WL.icmp_eq (tgt := 1423) hy dL_law_364 (by decide) he ?_
  exact hnext κ1 μ1 hR1
set_option maxHeartbeats 1000000 in
theorem lc_5 (V : Vt) (ad : Nat → Nat) (Y : Yt) (hy : OkL V Y) (κ μ : Sg) (hR : REL V κ μ) (i : Nat) (hi : i + 6 ≤ yL Y) (hnext : ∀ κ' μ' : Sg, REL V κ' μ' → WL V ad Y κ' μ' 1423 [(3, .int (nI i)), (2, rf (VMo V ad) 0), (1, rf V 0), (0, rb Y)] []) : WL V ad Y κ μ 369 [(3, .int (nI i)), (2, rf (VMo V ad) 0), (1, rf V 0), (0, rb Y)] [] := by
  have h3072 := yL_le hy
  refine WL.aload_n hy dL_law_369 rfl 2 rfl ?_
  obtain ⟨PC, PM, hC, hM, hE⟩ := op_law V (VMo V ad) κ μ hR 
  refine WL.callC (st := []) [] hy hC okX10_law lmL_36 rfl rfl rfl rfl (Nat.le_of_ble_eq_true rfl) dL_law_370 (fun r1 κ1 g1 => ?_)
  obtain ⟨v1, rfl, h1⟩ := g1
  show WL V ad Y κ1 μ 373 [(3, .int (nI i)), (2, rf (VMo V ad) 0), (1, rf V 0), (0, rb Y)] [.int v1]
  refine WL.aload_n hy dL_law_373 rfl 1 rfl ?_
  refine WL.callM (st := [.int v1]) [] hy hM okX11_law lmL_40 rfl rfl rfl rfl (Nat.le_of_ble_eq_true rfl) dL_law_374 (fun r2 μ1 g2 => ?_)
  obtain ⟨v2, rfl, h2⟩ := g2
  obtain ⟨he, hR1⟩ := hE v1 κ1 v2 μ1 h1 h2
  show WL V ad Y κ1 μ1 377 [(3, .int (nI i)), (2, rf (VMo V ad) 0), (1, rf V 0), (0, rb Y)] [.int v2, .int v1]
  refine WL.icmp_eq (tgt := 1423) hy dL_law_377 (by decide) he ?_
  exact hnext κ1 μ1 hR1
set_option maxHeartbeats 1000000 in
theorem lc_6 (V : Vt) (ad : Nat → Nat) (Y : Yt) (hy : OkL V Y) (κ μ : Sg) (hR : REL V κ μ) (i : Nat) (hi : i + 6 ≤ yL Y) (hnext : ∀ κ' μ' : Sg, REL V κ' μ' → WL V ad Y κ' μ' 1423 [(3, .int (nI i)), (2, rf (VMo V ad) 0), (1, rf V 0), (0, rb Y)] []) : WL V ad Y κ μ 382 [(3, .int (nI i)), (2, rf (VMo V ad) 0), (1, rf V 0), (0, rb Y)] [] := by
  have h3072 := yL_le hy
  refine WL.aload_n hy dL_law_382 rfl 2 rfl ?_
  refine WL.aload_n hy dL_law_383 rfl 3 rfl ?_
  refine WL.iload_n hy dL_law_384 rfl 0 rfl ?_
  refine WL.iconst (v := 1) hy dL_law_385 (by decide) ?_
  refine WL.iadd hy dL_law_386 ?_
  refine WL.as (congrArg (fun z => Value.int z :: _) (show nI i + 1 = nI (i + 1) from nI_add i 1)) ?_
  refine WL.sld hy (vp_in_nI (by omega) (by omega)) dL_law_387 ?_
  refine WL.as (congrArg (fun z => Value.int z :: _) (show yX Y (nI (i + 1)).toNatClampNeg = yX Y (i + 1) by rw [nI_clamp (show i + 1 < 2 ^ 31 by omega)])) ?_
  obtain ⟨PC, PM, hC, hM, hE⟩ := op_goes V (VMo V ad) κ μ hR (yX Y (i + 1))
  refine WL.callC (st := []) [.int (yX Y (i + 1))] hy hC okX10_goes lmL_41 rfl rfl rfl rfl (Nat.le_of_ble_eq_true rfl) dL_law_388 (fun r1 κ1 g1 => ?_)
  obtain ⟨v1, rfl, h1⟩ := g1
  show WL V ad Y κ1 μ 391 [(3, .int (nI i)), (2, rf (VMo V ad) 0), (1, rf V 0), (0, rb Y)] [.int v1]
  refine WL.aload_n hy dL_law_391 rfl 1 rfl ?_
  refine WL.aload_n hy dL_law_392 rfl 3 rfl ?_
  refine WL.iload_n hy dL_law_393 rfl 0 rfl ?_
  refine WL.iconst (v := 1) hy dL_law_394 (by decide) ?_
  refine WL.iadd hy dL_law_395 ?_
  refine WL.as (congrArg (fun z => Value.int z :: _) (show nI i + 1 = nI (i + 1) from nI_add i 1)) ?_
  refine WL.sld hy (vp_in_nI (by omega) (by omega)) dL_law_396 ?_
  refine WL.as (congrArg (fun z => Value.int z :: _) (show yX Y (nI (i + 1)).toNatClampNeg = yX Y (i + 1) by rw [nI_clamp (show i + 1 < 2 ^ 31 by omega)])) ?_
  refine WL.callM (st := [.int v1]) [.int (yX Y (i + 1))] hy hM okX11_goes lmL_44 rfl rfl rfl rfl (Nat.le_of_ble_eq_true rfl) dL_law_397 (fun r2 μ1 g2 => ?_)
  obtain ⟨v2, rfl, h2⟩ := g2
  obtain ⟨he, hR1⟩ := hE v1 κ1 v2 μ1 h1 h2
  show WL V ad Y κ1 μ1 400 [(3, .int (nI i)), (2, rf (VMo V ad) 0), (1, rf V 0), (0, rb Y)] [.int v2, .int v1]
  refine WL.icmp_eq (tgt := 1423) hy dL_law_400 (by decide) he ?_
  exact hnext κ1 μ1 hR1
set_option maxHeartbeats 1000000 in
theorem lc_7 (V : Vt) (ad : Nat → Nat) (Y : Yt) (hy : OkL V Y) (κ μ : Sg) (hR : REL V κ μ) (i : Nat) (hi : i + 6 ≤ yL Y) (hnext : ∀ κ' μ' : Sg, REL V κ' μ' → WL V ad Y κ' μ' 1423 [(3, .int (nI i)), (2, rf (VMo V ad) 0), (1, rf V 0), (0, rb Y)] []) : WL V ad Y κ μ 405 [(3, .int (nI i)), (2, rf (VMo V ad) 0), (1, rf V 0), (0, rb Y)] [] := by
  have h3072 := yL_le hy
  refine WL.aload_n hy dL_law_405 rfl 2 rfl ?_
  refine WL.aload_n hy dL_law_406 rfl 3 rfl ?_
  refine WL.iload_n hy dL_law_407 rfl 0 rfl ?_
  refine WL.iconst (v := 1) hy dL_law_408 (by decide) ?_
  refine WL.iadd hy dL_law_409 ?_
  refine WL.as (congrArg (fun z => Value.int z :: _) (show nI i + 1 = nI (i + 1) from nI_add i 1)) ?_
  refine WL.sld hy (vp_in_nI (by omega) (by omega)) dL_law_410 ?_
  refine WL.as (congrArg (fun z => Value.int z :: _) (show yX Y (nI (i + 1)).toNatClampNeg = yX Y (i + 1) by rw [nI_clamp (show i + 1 < 2 ^ 31 by omega)])) ?_
  refine WL.aload_n hy dL_law_411 rfl 3 rfl ?_
  refine WL.iload_n hy dL_law_412 rfl 0 rfl ?_
  refine WL.iconst (v := 2) hy dL_law_413 (by decide) ?_
  refine WL.iadd hy dL_law_414 ?_
  refine WL.as (congrArg (fun z => Value.int z :: _) (show nI i + 2 = nI (i + 2) from nI_add i 2)) ?_
  refine WL.sld hy (vp_in_nI (by omega) (by omega)) dL_law_415 ?_
  refine WL.as (congrArg (fun z => Value.int z :: _) (show yX Y (nI (i + 2)).toNatClampNeg = yX Y (i + 2) by rw [nI_clamp (show i + 2 < 2 ^ 31 by omega)])) ?_
  refine WL.aload_n hy dL_law_416 rfl 3 rfl ?_
  refine WL.iload_n hy dL_law_417 rfl 0 rfl ?_
  refine WL.iconst (v := 3) hy dL_law_418 (by decide) ?_
  refine WL.iadd hy dL_law_419 ?_
  refine WL.as (congrArg (fun z => Value.int z :: _) (show nI i + 3 = nI (i + 3) from nI_add i 3)) ?_
  refine WL.sld hy (vp_in_nI (by omega) (by omega)) dL_law_420 ?_
  refine WL.as (congrArg (fun z => Value.int z :: _) (show yX Y (nI (i + 3)).toNatClampNeg = yX Y (i + 3) by rw [nI_clamp (show i + 3 < 2 ^ 31 by omega)])) ?_
  obtain ⟨PC, PM, hC, hM, hE⟩ := op_later V (VMo V ad) κ μ hR (yX Y (i + 1)) (yX Y (i + 2)) (yX Y (i + 3))
  refine WL.callC (st := []) [.int (yX Y (i + 1)), .int (yX Y (i + 2)), .int (yX Y (i + 3))] hy hC okX10_later lmL_45 rfl rfl rfl rfl (Nat.le_of_ble_eq_true rfl) dL_law_421 (fun r1 κ1 g1 => ?_)
  obtain ⟨v1, rfl, h1⟩ := g1
  show WL V ad Y κ1 μ 424 [(3, .int (nI i)), (2, rf (VMo V ad) 0), (1, rf V 0), (0, rb Y)] [.int v1]
  refine WL.aload_n hy dL_law_424 rfl 1 rfl ?_
  refine WL.aload_n hy dL_law_425 rfl 3 rfl ?_
  refine WL.iload_n hy dL_law_426 rfl 0 rfl ?_
  refine WL.iconst (v := 1) hy dL_law_427 (by decide) ?_
  refine WL.iadd hy dL_law_428 ?_
  refine WL.as (congrArg (fun z => Value.int z :: _) (show nI i + 1 = nI (i + 1) from nI_add i 1)) ?_
  refine WL.sld hy (vp_in_nI (by omega) (by omega)) dL_law_429 ?_
  refine WL.as (congrArg (fun z => Value.int z :: _) (show yX Y (nI (i + 1)).toNatClampNeg = yX Y (i + 1) by rw [nI_clamp (show i + 1 < 2 ^ 31 by omega)])) ?_
  refine WL.aload_n hy dL_law_430 rfl 3 rfl ?_
  refine WL.iload_n hy dL_law_431 rfl 0 rfl ?_
  refine WL.iconst (v := 2) hy dL_law_432 (by decide) ?_
  refine WL.iadd hy dL_law_433 ?_
  refine WL.as (congrArg (fun z => Value.int z :: _) (show nI i + 2 = nI (i + 2) from nI_add i 2)) ?_
  refine WL.sld hy (vp_in_nI (by omega) (by omega)) dL_law_434 ?_
  refine WL.as (congrArg (fun z => Value.int z :: _) (show yX Y (nI (i + 2)).toNatClampNeg = yX Y (i + 2) by rw [nI_clamp (show i + 2 < 2 ^ 31 by omega)])) ?_
  refine WL.aload_n hy dL_law_435 rfl 3 rfl ?_
  refine WL.iload_n hy dL_law_436 rfl 0 rfl ?_
  refine WL.iconst (v := 3) hy dL_law_437 (by decide) ?_
  refine WL.iadd hy dL_law_438 ?_
  refine WL.as (congrArg (fun z => Value.int z :: _) (show nI i + 3 = nI (i + 3) from nI_add i 3)) ?_
  refine WL.sld hy (vp_in_nI (by omega) (by omega)) dL_law_439 ?_
  refine WL.as (congrArg (fun z => Value.int z :: _) (show yX Y (nI (i + 3)).toNatClampNeg = yX Y (i + 3) by rw [nI_clamp (show i + 3 < 2 ^ 31 by omega)])) ?_
  refine WL.callM (st := [.int v1]) [.int (yX Y (i + 1)), .int (yX Y (i + 2)), .int (yX Y (i + 3))] hy hM okX11_later lmL_48 rfl rfl rfl rfl (Nat.le_of_ble_eq_true rfl) dL_law_440 (fun r2 μ1 g2 => ?_)
  obtain ⟨v2, rfl, h2⟩ := g2
  obtain ⟨he, hR1⟩ := hE v1 κ1 v2 μ1 h1 h2
  show WL V ad Y κ1 μ1 443 [(3, .int (nI i)), (2, rf (VMo V ad) 0), (1, rf V 0), (0, rb Y)] [.int v2, .int v1]
  refine WL.icmp_eq (tgt := 1423) hy dL_law_443 (by decide) he ?_
  exact hnext κ1 μ1 hR1
set_option maxHeartbeats 1000000 in
theorem lc_8 (V : Vt) (ad : Nat → Nat) (Y : Yt) (hy : OkL V Y) (κ μ : Sg) (hR : REL V κ μ) (i : Nat) (hi : i + 6 ≤ yL Y) (hnext : ∀ κ' μ' : Sg, REL V κ' μ' → WL V ad Y κ' μ' 1423 [(3, .int (nI i)), (2, rf (VMo V ad) 0), (1, rf V 0), (0, rb Y)] []) : WL V ad Y κ μ 448 [(3, .int (nI i)), (2, rf (VMo V ad) 0), (1, rf V 0), (0, rb Y)] [] := by
  have h3072 := yL_le hy
  refine WL.aload_n hy dL_law_448 rfl 2 rfl ?_
  refine WL.aload_n hy dL_law_449 rfl 3 rfl ?_
  refine WL.iload_n hy dL_law_450 rfl 0 rfl ?_
  refine WL.iconst (v := 1) hy dL_law_451 (by decide) ?_
  refine WL.iadd hy dL_law_452 ?_
  refine WL.as (congrArg (fun z => Value.int z :: _) (show nI i + 1 = nI (i + 1) from nI_add i 1)) ?_
  refine WL.sld hy (vp_in_nI (by omega) (by omega)) dL_law_453 ?_
  refine WL.as (congrArg (fun z => Value.int z :: _) (show yX Y (nI (i + 1)).toNatClampNeg = yX Y (i + 1) by rw [nI_clamp (show i + 1 < 2 ^ 31 by omega)])) ?_
  refine WL.aload_n hy dL_law_454 rfl 3 rfl ?_
  refine WL.iload_n hy dL_law_455 rfl 0 rfl ?_
  refine WL.iconst (v := 2) hy dL_law_456 (by decide) ?_
  refine WL.iadd hy dL_law_457 ?_
  refine WL.as (congrArg (fun z => Value.int z :: _) (show nI i + 2 = nI (i + 2) from nI_add i 2)) ?_
  refine WL.sld hy (vp_in_nI (by omega) (by omega)) dL_law_458 ?_
  refine WL.as (congrArg (fun z => Value.int z :: _) (show yX Y (nI (i + 2)).toNatClampNeg = yX Y (i + 2) by rw [nI_clamp (show i + 2 < 2 ^ 31 by omega)])) ?_
  obtain ⟨PC, PM, hC, hM, hE⟩ := op_wall V (VMo V ad) κ μ hR (yX Y (i + 1)) (yX Y (i + 2))
  refine WL.callC (st := []) [.int (yX Y (i + 1)), .int (yX Y (i + 2))] hy hC okX10_wall lmL_49 rfl rfl rfl rfl (Nat.le_of_ble_eq_true rfl) dL_law_459 (fun r1 κ1 g1 => ?_)
  obtain ⟨v1, rfl, h1⟩ := g1
  show WL V ad Y κ1 μ 462 [(3, .int (nI i)), (2, rf (VMo V ad) 0), (1, rf V 0), (0, rb Y)] [.int v1]
  refine WL.aload_n hy dL_law_462 rfl 1 rfl ?_
  refine WL.aload_n hy dL_law_463 rfl 3 rfl ?_
  refine WL.iload_n hy dL_law_464 rfl 0 rfl ?_
  refine WL.iconst (v := 1) hy dL_law_465 (by decide) ?_
  refine WL.iadd hy dL_law_466 ?_
  refine WL.as (congrArg (fun z => Value.int z :: _) (show nI i + 1 = nI (i + 1) from nI_add i 1)) ?_
  refine WL.sld hy (vp_in_nI (by omega) (by omega)) dL_law_467 ?_
  refine WL.as (congrArg (fun z => Value.int z :: _) (show yX Y (nI (i + 1)).toNatClampNeg = yX Y (i + 1) by rw [nI_clamp (show i + 1 < 2 ^ 31 by omega)])) ?_
  refine WL.aload_n hy dL_law_468 rfl 3 rfl ?_
  refine WL.iload_n hy dL_law_469 rfl 0 rfl ?_
  refine WL.iconst (v := 2) hy dL_law_470 (by decide) ?_
  refine WL.iadd hy dL_law_471 ?_
  refine WL.as (congrArg (fun z => Value.int z :: _) (show nI i + 2 = nI (i + 2) from nI_add i 2)) ?_
  refine WL.sld hy (vp_in_nI (by omega) (by omega)) dL_law_472 ?_
  refine WL.as (congrArg (fun z => Value.int z :: _) (show yX Y (nI (i + 2)).toNatClampNeg = yX Y (i + 2) by rw [nI_clamp (show i + 2 < 2 ^ 31 by omega)])) ?_
  refine WL.callM (st := [.int v1]) [.int (yX Y (i + 1)), .int (yX Y (i + 2))] hy hM okX11_wall lmL_52 rfl rfl rfl rfl (Nat.le_of_ble_eq_true rfl) dL_law_473 (fun r2 μ1 g2 => ?_)
  obtain ⟨v2, rfl, h2⟩ := g2
  obtain ⟨he, hR1⟩ := hE v1 κ1 v2 μ1 h1 h2
  show WL V ad Y κ1 μ1 476 [(3, .int (nI i)), (2, rf (VMo V ad) 0), (1, rf V 0), (0, rb Y)] [.int v2, .int v1]
  refine WL.icmp_eq (tgt := 1423) hy dL_law_476 (by decide) he ?_
  exact hnext κ1 μ1 hR1
set_option maxHeartbeats 1000000 in
theorem lc_9 (V : Vt) (ad : Nat → Nat) (Y : Yt) (hy : OkL V Y) (κ μ : Sg) (hR : REL V κ μ) (i : Nat) (hi : i + 6 ≤ yL Y) (hnext : ∀ κ' μ' : Sg, REL V κ' μ' → WL V ad Y κ' μ' 1423 [(3, .int (nI i)), (2, rf (VMo V ad) 0), (1, rf V 0), (0, rb Y)] []) : WL V ad Y κ μ 481 [(3, .int (nI i)), (2, rf (VMo V ad) 0), (1, rf V 0), (0, rb Y)] [] := by
  have h3072 := yL_le hy
  refine WL.aload_n hy dL_law_481 rfl 2 rfl ?_
  refine WL.aload_n hy dL_law_482 rfl 3 rfl ?_
  refine WL.iload_n hy dL_law_483 rfl 0 rfl ?_
  refine WL.iconst (v := 1) hy dL_law_484 (by decide) ?_
  refine WL.iadd hy dL_law_485 ?_
  refine WL.as (congrArg (fun z => Value.int z :: _) (show nI i + 1 = nI (i + 1) from nI_add i 1)) ?_
  refine WL.sld hy (vp_in_nI (by omega) (by omega)) dL_law_486 ?_
  refine WL.as (congrArg (fun z => Value.int z :: _) (show yX Y (nI (i + 1)).toNatClampNeg = yX Y (i + 1) by rw [nI_clamp (show i + 1 < 2 ^ 31 by omega)])) ?_
  refine WL.aload_n hy dL_law_487 rfl 3 rfl ?_
  refine WL.iload_n hy dL_law_488 rfl 0 rfl ?_
  refine WL.iconst (v := 2) hy dL_law_489 (by decide) ?_
  refine WL.iadd hy dL_law_490 ?_
  refine WL.as (congrArg (fun z => Value.int z :: _) (show nI i + 2 = nI (i + 2) from nI_add i 2)) ?_
  refine WL.sld hy (vp_in_nI (by omega) (by omega)) dL_law_491 ?_
  refine WL.as (congrArg (fun z => Value.int z :: _) (show yX Y (nI (i + 2)).toNatClampNeg = yX Y (i + 2) by rw [nI_clamp (show i + 2 < 2 ^ 31 by omega)])) ?_
  obtain ⟨PC, PM, hC, hM, hE⟩ := op_when V (VMo V ad) κ μ hR (yX Y (i + 1)) (yX Y (i + 2))
  refine WL.callC (st := []) [.int (yX Y (i + 1)), .int (yX Y (i + 2))] hy hC okX10_when lmL_53 rfl rfl rfl rfl (Nat.le_of_ble_eq_true rfl) dL_law_492 (fun r1 κ1 g1 => ?_)
  obtain ⟨v1, rfl, h1⟩ := g1
  show WL V ad Y κ1 μ 495 [(3, .int (nI i)), (2, rf (VMo V ad) 0), (1, rf V 0), (0, rb Y)] [.int v1]
  refine WL.aload_n hy dL_law_495 rfl 1 rfl ?_
  refine WL.aload_n hy dL_law_496 rfl 3 rfl ?_
  refine WL.iload_n hy dL_law_497 rfl 0 rfl ?_
  refine WL.iconst (v := 1) hy dL_law_498 (by decide) ?_
  refine WL.iadd hy dL_law_499 ?_
  refine WL.as (congrArg (fun z => Value.int z :: _) (show nI i + 1 = nI (i + 1) from nI_add i 1)) ?_
  refine WL.sld hy (vp_in_nI (by omega) (by omega)) dL_law_500 ?_
  refine WL.as (congrArg (fun z => Value.int z :: _) (show yX Y (nI (i + 1)).toNatClampNeg = yX Y (i + 1) by rw [nI_clamp (show i + 1 < 2 ^ 31 by omega)])) ?_
  refine WL.aload_n hy dL_law_501 rfl 3 rfl ?_
  refine WL.iload_n hy dL_law_502 rfl 0 rfl ?_
  refine WL.iconst (v := 2) hy dL_law_503 (by decide) ?_
  refine WL.iadd hy dL_law_504 ?_
  refine WL.as (congrArg (fun z => Value.int z :: _) (show nI i + 2 = nI (i + 2) from nI_add i 2)) ?_
  refine WL.sld hy (vp_in_nI (by omega) (by omega)) dL_law_505 ?_
  refine WL.as (congrArg (fun z => Value.int z :: _) (show yX Y (nI (i + 2)).toNatClampNeg = yX Y (i + 2) by rw [nI_clamp (show i + 2 < 2 ^ 31 by omega)])) ?_
  refine WL.callM (st := [.int v1]) [.int (yX Y (i + 1)), .int (yX Y (i + 2))] hy hM okX11_when lmL_56 rfl rfl rfl rfl (Nat.le_of_ble_eq_true rfl) dL_law_506 (fun r2 μ1 g2 => ?_)
  obtain ⟨v2, rfl, h2⟩ := g2
  obtain ⟨he, hR1⟩ := hE v1 κ1 v2 μ1 h1 h2
  show WL V ad Y κ1 μ1 509 [(3, .int (nI i)), (2, rf (VMo V ad) 0), (1, rf V 0), (0, rb Y)] [.int v2, .int v1]
  refine WL.icmp_eq (tgt := 1423) hy dL_law_509 (by decide) he ?_
  exact hnext κ1 μ1 hR1
set_option maxHeartbeats 1000000 in
theorem lc_10 (V : Vt) (ad : Nat → Nat) (Y : Yt) (hy : OkL V Y) (κ μ : Sg) (hR : REL V κ μ) (i : Nat) (hi : i + 6 ≤ yL Y) (hnext : ∀ κ' μ' : Sg, REL V κ' μ' → WL V ad Y κ' μ' 1423 [(3, .int (nI i)), (2, rf (VMo V ad) 0), (1, rf V 0), (0, rb Y)] []) : WL V ad Y κ μ 514 [(3, .int (nI i)), (2, rf (VMo V ad) 0), (1, rf V 0), (0, rb Y)] [] := by
  have h3072 := yL_le hy
  refine WL.aload_n hy dL_law_514 rfl 2 rfl ?_
  refine WL.aload_n hy dL_law_515 rfl 3 rfl ?_
  refine WL.iload_n hy dL_law_516 rfl 0 rfl ?_
  refine WL.iconst (v := 1) hy dL_law_517 (by decide) ?_
  refine WL.iadd hy dL_law_518 ?_
  refine WL.as (congrArg (fun z => Value.int z :: _) (show nI i + 1 = nI (i + 1) from nI_add i 1)) ?_
  refine WL.sld hy (vp_in_nI (by omega) (by omega)) dL_law_519 ?_
  refine WL.as (congrArg (fun z => Value.int z :: _) (show yX Y (nI (i + 1)).toNatClampNeg = yX Y (i + 1) by rw [nI_clamp (show i + 1 < 2 ^ 31 by omega)])) ?_
  obtain ⟨PC, PM, hC, hM, hE⟩ := op_meet V (VMo V ad) κ μ hR (yX Y (i + 1))
  refine WL.callC (st := []) [.int (yX Y (i + 1))] hy hC okX10_meet lmL_57 rfl rfl rfl rfl (Nat.le_of_ble_eq_true rfl) dL_law_520 (fun r1 κ1 g1 => ?_)
  obtain ⟨v1, rfl, h1⟩ := g1
  show WL V ad Y κ1 μ 523 [(3, .int (nI i)), (2, rf (VMo V ad) 0), (1, rf V 0), (0, rb Y)] [.int v1]
  refine WL.aload_n hy dL_law_523 rfl 1 rfl ?_
  refine WL.aload_n hy dL_law_524 rfl 3 rfl ?_
  refine WL.iload_n hy dL_law_525 rfl 0 rfl ?_
  refine WL.iconst (v := 1) hy dL_law_526 (by decide) ?_
  refine WL.iadd hy dL_law_527 ?_
  refine WL.as (congrArg (fun z => Value.int z :: _) (show nI i + 1 = nI (i + 1) from nI_add i 1)) ?_
  refine WL.sld hy (vp_in_nI (by omega) (by omega)) dL_law_528 ?_
  refine WL.as (congrArg (fun z => Value.int z :: _) (show yX Y (nI (i + 1)).toNatClampNeg = yX Y (i + 1) by rw [nI_clamp (show i + 1 < 2 ^ 31 by omega)])) ?_
  refine WL.callM (st := [.int v1]) [.int (yX Y (i + 1))] hy hM okX11_meet lmL_60 rfl rfl rfl rfl (Nat.le_of_ble_eq_true rfl) dL_law_529 (fun r2 μ1 g2 => ?_)
  obtain ⟨v2, rfl, h2⟩ := g2
  obtain ⟨he, hR1⟩ := hE v1 κ1 v2 μ1 h1 h2
  show WL V ad Y κ1 μ1 532 [(3, .int (nI i)), (2, rf (VMo V ad) 0), (1, rf V 0), (0, rb Y)] [.int v2, .int v1]
  refine WL.icmp_eq (tgt := 1423) hy dL_law_532 (by decide) he ?_
  exact hnext κ1 μ1 hR1
set_option maxHeartbeats 1000000 in
theorem lc_11 (V : Vt) (ad : Nat → Nat) (Y : Yt) (hy : OkL V Y) (κ μ : Sg) (hR : REL V κ μ) (i : Nat) (hi : i + 6 ≤ yL Y) (hnext : ∀ κ' μ' : Sg, REL V κ' μ' → WL V ad Y κ' μ' 1423 [(3, .int (nI i)), (2, rf (VMo V ad) 0), (1, rf V 0), (0, rb Y)] []) : WL V ad Y κ μ 537 [(3, .int (nI i)), (2, rf (VMo V ad) 0), (1, rf V 0), (0, rb Y)] [] := by
  have h3072 := yL_le hy
  refine WL.aload_n hy dL_law_537 rfl 2 rfl ?_
  refine WL.aload_n hy dL_law_538 rfl 3 rfl ?_
  refine WL.iload_n hy dL_law_539 rfl 0 rfl ?_
  refine WL.iconst (v := 1) hy dL_law_540 (by decide) ?_
  refine WL.iadd hy dL_law_541 ?_
  refine WL.as (congrArg (fun z => Value.int z :: _) (show nI i + 1 = nI (i + 1) from nI_add i 1)) ?_
  refine WL.sld hy (vp_in_nI (by omega) (by omega)) dL_law_542 ?_
  refine WL.as (congrArg (fun z => Value.int z :: _) (show yX Y (nI (i + 1)).toNatClampNeg = yX Y (i + 1) by rw [nI_clamp (show i + 1 < 2 ^ 31 by omega)])) ?_
  refine WL.aload_n hy dL_law_543 rfl 3 rfl ?_
  refine WL.iload_n hy dL_law_544 rfl 0 rfl ?_
  refine WL.iconst (v := 2) hy dL_law_545 (by decide) ?_
  refine WL.iadd hy dL_law_546 ?_
  refine WL.as (congrArg (fun z => Value.int z :: _) (show nI i + 2 = nI (i + 2) from nI_add i 2)) ?_
  refine WL.sld hy (vp_in_nI (by omega) (by omega)) dL_law_547 ?_
  refine WL.as (congrArg (fun z => Value.int z :: _) (show yX Y (nI (i + 2)).toNatClampNeg = yX Y (i + 2) by rw [nI_clamp (show i + 2 < 2 ^ 31 by omega)])) ?_
  obtain ⟨PC, PM, hC, hM, hE⟩ := op_steps V (VMo V ad) κ μ hR (yX Y (i + 1)) (yX Y (i + 2))
  refine WL.callC (st := []) [.int (yX Y (i + 1)), .int (yX Y (i + 2))] hy hC okX10_steps lmL_61 rfl rfl rfl rfl (Nat.le_of_ble_eq_true rfl) dL_law_548 (fun r1 κ1 g1 => ?_)
  obtain ⟨v1, rfl, h1⟩ := g1
  show WL V ad Y κ1 μ 551 [(3, .int (nI i)), (2, rf (VMo V ad) 0), (1, rf V 0), (0, rb Y)] [.int v1]
  refine WL.aload_n hy dL_law_551 rfl 1 rfl ?_
  refine WL.aload_n hy dL_law_552 rfl 3 rfl ?_
  refine WL.iload_n hy dL_law_553 rfl 0 rfl ?_
  refine WL.iconst (v := 1) hy dL_law_554 (by decide) ?_
  refine WL.iadd hy dL_law_555 ?_
  refine WL.as (congrArg (fun z => Value.int z :: _) (show nI i + 1 = nI (i + 1) from nI_add i 1)) ?_
  refine WL.sld hy (vp_in_nI (by omega) (by omega)) dL_law_556 ?_
  refine WL.as (congrArg (fun z => Value.int z :: _) (show yX Y (nI (i + 1)).toNatClampNeg = yX Y (i + 1) by rw [nI_clamp (show i + 1 < 2 ^ 31 by omega)])) ?_
  refine WL.aload_n hy dL_law_557 rfl 3 rfl ?_
  refine WL.iload_n hy dL_law_558 rfl 0 rfl ?_
  refine WL.iconst (v := 2) hy dL_law_559 (by decide) ?_
  refine WL.iadd hy dL_law_560 ?_
  refine WL.as (congrArg (fun z => Value.int z :: _) (show nI i + 2 = nI (i + 2) from nI_add i 2)) ?_
  refine WL.sld hy (vp_in_nI (by omega) (by omega)) dL_law_561 ?_
  refine WL.as (congrArg (fun z => Value.int z :: _) (show yX Y (nI (i + 2)).toNatClampNeg = yX Y (i + 2) by rw [nI_clamp (show i + 2 < 2 ^ 31 by omega)])) ?_
  refine WL.callM (st := [.int v1]) [.int (yX Y (i + 1)), .int (yX Y (i + 2))] hy hM okX11_steps lmL_64 rfl rfl rfl rfl (Nat.le_of_ble_eq_true rfl) dL_law_562 (fun r2 μ1 g2 => ?_)
  obtain ⟨v2, rfl, h2⟩ := g2
  obtain ⟨he, hR1⟩ := hE v1 κ1 v2 μ1 h1 h2
  show WL V ad Y κ1 μ1 565 [(3, .int (nI i)), (2, rf (VMo V ad) 0), (1, rf V 0), (0, rb Y)] [.int v2, .int v1]
  refine WL.icmp_eq (tgt := 1423) hy dL_law_565 (by decide) he ?_
  exact hnext κ1 μ1 hR1
set_option maxHeartbeats 1000000 in
theorem lc_12 (V : Vt) (ad : Nat → Nat) (Y : Yt) (hy : OkL V Y) (κ μ : Sg) (hR : REL V κ μ) (i : Nat) (hi : i + 6 ≤ yL Y) (hnext : ∀ κ' μ' : Sg, REL V κ' μ' → WL V ad Y κ' μ' 1423 [(3, .int (nI i)), (2, rf (VMo V ad) 0), (1, rf V 0), (0, rb Y)] []) : WL V ad Y κ μ 570 [(3, .int (nI i)), (2, rf (VMo V ad) 0), (1, rf V 0), (0, rb Y)] [] := by
  have h3072 := yL_le hy
  refine WL.aload_n hy dL_law_570 rfl 2 rfl ?_
  refine WL.aload_n hy dL_law_571 rfl 3 rfl ?_
  refine WL.iload_n hy dL_law_572 rfl 0 rfl ?_
  refine WL.iconst (v := 1) hy dL_law_573 (by decide) ?_
  refine WL.iadd hy dL_law_574 ?_
  refine WL.as (congrArg (fun z => Value.int z :: _) (show nI i + 1 = nI (i + 1) from nI_add i 1)) ?_
  refine WL.sld hy (vp_in_nI (by omega) (by omega)) dL_law_575 ?_
  refine WL.as (congrArg (fun z => Value.int z :: _) (show yX Y (nI (i + 1)).toNatClampNeg = yX Y (i + 1) by rw [nI_clamp (show i + 1 < 2 ^ 31 by omega)])) ?_
  refine WL.aload_n hy dL_law_576 rfl 3 rfl ?_
  refine WL.iload_n hy dL_law_577 rfl 0 rfl ?_
  refine WL.iconst (v := 2) hy dL_law_578 (by decide) ?_
  refine WL.iadd hy dL_law_579 ?_
  refine WL.as (congrArg (fun z => Value.int z :: _) (show nI i + 2 = nI (i + 2) from nI_add i 2)) ?_
  refine WL.sld hy (vp_in_nI (by omega) (by omega)) dL_law_580 ?_
  refine WL.as (congrArg (fun z => Value.int z :: _) (show yX Y (nI (i + 2)).toNatClampNeg = yX Y (i + 2) by rw [nI_clamp (show i + 2 < 2 ^ 31 by omega)])) ?_
  obtain ⟨PC, PM, hC, hM, hE⟩ := op_net V (VMo V ad) κ μ hR (yX Y (i + 1)) (yX Y (i + 2))
  refine WL.callC (st := []) [.int (yX Y (i + 1)), .int (yX Y (i + 2))] hy hC okX10_net lmL_65 rfl rfl rfl rfl (Nat.le_of_ble_eq_true rfl) dL_law_581 (fun r1 κ1 g1 => ?_)
  obtain ⟨v1, rfl, h1⟩ := g1
  show WL V ad Y κ1 μ 584 [(3, .int (nI i)), (2, rf (VMo V ad) 0), (1, rf V 0), (0, rb Y)] [.int v1]
  refine WL.aload_n hy dL_law_584 rfl 1 rfl ?_
  refine WL.aload_n hy dL_law_585 rfl 3 rfl ?_
  refine WL.iload_n hy dL_law_586 rfl 0 rfl ?_
  refine WL.iconst (v := 1) hy dL_law_587 (by decide) ?_
  refine WL.iadd hy dL_law_588 ?_
  refine WL.as (congrArg (fun z => Value.int z :: _) (show nI i + 1 = nI (i + 1) from nI_add i 1)) ?_
  refine WL.sld hy (vp_in_nI (by omega) (by omega)) dL_law_589 ?_
  refine WL.as (congrArg (fun z => Value.int z :: _) (show yX Y (nI (i + 1)).toNatClampNeg = yX Y (i + 1) by rw [nI_clamp (show i + 1 < 2 ^ 31 by omega)])) ?_
  refine WL.aload_n hy dL_law_590 rfl 3 rfl ?_
  refine WL.iload_n hy dL_law_591 rfl 0 rfl ?_
  refine WL.iconst (v := 2) hy dL_law_592 (by decide) ?_
  refine WL.iadd hy dL_law_593 ?_
  refine WL.as (congrArg (fun z => Value.int z :: _) (show nI i + 2 = nI (i + 2) from nI_add i 2)) ?_
  refine WL.sld hy (vp_in_nI (by omega) (by omega)) dL_law_594 ?_
  refine WL.as (congrArg (fun z => Value.int z :: _) (show yX Y (nI (i + 2)).toNatClampNeg = yX Y (i + 2) by rw [nI_clamp (show i + 2 < 2 ^ 31 by omega)])) ?_
  refine WL.callM (st := [.int v1]) [.int (yX Y (i + 1)), .int (yX Y (i + 2))] hy hM okX11_net lmL_68 rfl rfl rfl rfl (Nat.le_of_ble_eq_true rfl) dL_law_595 (fun r2 μ1 g2 => ?_)
  obtain ⟨v2, rfl, h2⟩ := g2
  obtain ⟨he, hR1⟩ := hE v1 κ1 v2 μ1 h1 h2
  show WL V ad Y κ1 μ1 598 [(3, .int (nI i)), (2, rf (VMo V ad) 0), (1, rf V 0), (0, rb Y)] [.int v2, .int v1]
  refine WL.icmp_eq (tgt := 1423) hy dL_law_598 (by decide) he ?_
  exact hnext κ1 μ1 hR1
set_option maxHeartbeats 1000000 in
theorem lc_13 (V : Vt) (ad : Nat → Nat) (Y : Yt) (hy : OkL V Y) (κ μ : Sg) (hR : REL V κ μ) (i : Nat) (hi : i + 6 ≤ yL Y) (hnext : ∀ κ' μ' : Sg, REL V κ' μ' → WL V ad Y κ' μ' 1423 [(3, .int (nI i)), (2, rf (VMo V ad) 0), (1, rf V 0), (0, rb Y)] []) : WL V ad Y κ μ 603 [(3, .int (nI i)), (2, rf (VMo V ad) 0), (1, rf V 0), (0, rb Y)] [] := by
  have h3072 := yL_le hy
  refine WL.aload_n hy dL_law_603 rfl 2 rfl ?_
  refine WL.aload_n hy dL_law_604 rfl 3 rfl ?_
  refine WL.iload_n hy dL_law_605 rfl 0 rfl ?_
  refine WL.iconst (v := 1) hy dL_law_606 (by decide) ?_
  refine WL.iadd hy dL_law_607 ?_
  refine WL.as (congrArg (fun z => Value.int z :: _) (show nI i + 1 = nI (i + 1) from nI_add i 1)) ?_
  refine WL.sld hy (vp_in_nI (by omega) (by omega)) dL_law_608 ?_
  refine WL.as (congrArg (fun z => Value.int z :: _) (show yX Y (nI (i + 1)).toNatClampNeg = yX Y (i + 1) by rw [nI_clamp (show i + 1 < 2 ^ 31 by omega)])) ?_
  refine WL.aload_n hy dL_law_609 rfl 3 rfl ?_
  refine WL.iload_n hy dL_law_610 rfl 0 rfl ?_
  refine WL.iconst (v := 2) hy dL_law_611 (by decide) ?_
  refine WL.iadd hy dL_law_612 ?_
  refine WL.as (congrArg (fun z => Value.int z :: _) (show nI i + 2 = nI (i + 2) from nI_add i 2)) ?_
  refine WL.sld hy (vp_in_nI (by omega) (by omega)) dL_law_613 ?_
  refine WL.as (congrArg (fun z => Value.int z :: _) (show yX Y (nI (i + 2)).toNatClampNeg = yX Y (i + 2) by rw [nI_clamp (show i + 2 < 2 ^ 31 by omega)])) ?_
  obtain ⟨PC, PM, hC, hM, hE⟩ := op_fewest V (VMo V ad) κ μ hR (yX Y (i + 1)) (yX Y (i + 2))
  refine WL.callC (st := []) [.int (yX Y (i + 1)), .int (yX Y (i + 2))] hy hC okX10_fewest lmL_69 rfl rfl rfl rfl (Nat.le_of_ble_eq_true rfl) dL_law_614 (fun r1 κ1 g1 => ?_)
  obtain ⟨v1, rfl, h1⟩ := g1
  show WL V ad Y κ1 μ 617 [(3, .int (nI i)), (2, rf (VMo V ad) 0), (1, rf V 0), (0, rb Y)] [.int v1]
  refine WL.aload_n hy dL_law_617 rfl 1 rfl ?_
  refine WL.aload_n hy dL_law_618 rfl 3 rfl ?_
  refine WL.iload_n hy dL_law_619 rfl 0 rfl ?_
  refine WL.iconst (v := 1) hy dL_law_620 (by decide) ?_
  refine WL.iadd hy dL_law_621 ?_
  refine WL.as (congrArg (fun z => Value.int z :: _) (show nI i + 1 = nI (i + 1) from nI_add i 1)) ?_
  refine WL.sld hy (vp_in_nI (by omega) (by omega)) dL_law_622 ?_
  refine WL.as (congrArg (fun z => Value.int z :: _) (show yX Y (nI (i + 1)).toNatClampNeg = yX Y (i + 1) by rw [nI_clamp (show i + 1 < 2 ^ 31 by omega)])) ?_
  refine WL.aload_n hy dL_law_623 rfl 3 rfl ?_
  refine WL.iload_n hy dL_law_624 rfl 0 rfl ?_
  refine WL.iconst (v := 2) hy dL_law_625 (by decide) ?_
  refine WL.iadd hy dL_law_626 ?_
  refine WL.as (congrArg (fun z => Value.int z :: _) (show nI i + 2 = nI (i + 2) from nI_add i 2)) ?_
  refine WL.sld hy (vp_in_nI (by omega) (by omega)) dL_law_627 ?_
  refine WL.as (congrArg (fun z => Value.int z :: _) (show yX Y (nI (i + 2)).toNatClampNeg = yX Y (i + 2) by rw [nI_clamp (show i + 2 < 2 ^ 31 by omega)])) ?_
  refine WL.callM (st := [.int v1]) [.int (yX Y (i + 1)), .int (yX Y (i + 2))] hy hM okX11_fewest lmL_72 rfl rfl rfl rfl (Nat.le_of_ble_eq_true rfl) dL_law_628 (fun r2 μ1 g2 => ?_)
  obtain ⟨v2, rfl, h2⟩ := g2
  obtain ⟨he, hR1⟩ := hE v1 κ1 v2 μ1 h1 h2
  show WL V ad Y κ1 μ1 631 [(3, .int (nI i)), (2, rf (VMo V ad) 0), (1, rf V 0), (0, rb Y)] [.int v2, .int v1]
  refine WL.icmp_eq (tgt := 1423) hy dL_law_631 (by decide) he ?_
  exact hnext κ1 μ1 hR1
set_option maxHeartbeats 1000000 in
theorem lc_14 (V : Vt) (ad : Nat → Nat) (Y : Yt) (hy : OkL V Y) (κ μ : Sg) (hR : REL V κ μ) (i : Nat) (hi : i + 6 ≤ yL Y) (hnext : ∀ κ' μ' : Sg, REL V κ' μ' → WL V ad Y κ' μ' 1423 [(3, .int (nI i)), (2, rf (VMo V ad) 0), (1, rf V 0), (0, rb Y)] []) : WL V ad Y κ μ 636 [(3, .int (nI i)), (2, rf (VMo V ad) 0), (1, rf V 0), (0, rb Y)] [] := by
  have h3072 := yL_le hy
  refine WL.aload_n hy dL_law_636 rfl 2 rfl ?_
  refine WL.aload_n hy dL_law_637 rfl 3 rfl ?_
  refine WL.iload_n hy dL_law_638 rfl 0 rfl ?_
  refine WL.iconst (v := 1) hy dL_law_639 (by decide) ?_
  refine WL.iadd hy dL_law_640 ?_
  refine WL.as (congrArg (fun z => Value.int z :: _) (show nI i + 1 = nI (i + 1) from nI_add i 1)) ?_
  refine WL.sld hy (vp_in_nI (by omega) (by omega)) dL_law_641 ?_
  refine WL.as (congrArg (fun z => Value.int z :: _) (show yX Y (nI (i + 1)).toNatClampNeg = yX Y (i + 1) by rw [nI_clamp (show i + 1 < 2 ^ 31 by omega)])) ?_
  refine WL.aload_n hy dL_law_642 rfl 3 rfl ?_
  refine WL.iload_n hy dL_law_643 rfl 0 rfl ?_
  refine WL.iconst (v := 2) hy dL_law_644 (by decide) ?_
  refine WL.iadd hy dL_law_645 ?_
  refine WL.as (congrArg (fun z => Value.int z :: _) (show nI i + 2 = nI (i + 2) from nI_add i 2)) ?_
  refine WL.sld hy (vp_in_nI (by omega) (by omega)) dL_law_646 ?_
  refine WL.as (congrArg (fun z => Value.int z :: _) (show yX Y (nI (i + 2)).toNatClampNeg = yX Y (i + 2) by rw [nI_clamp (show i + 2 < 2 ^ 31 by omega)])) ?_
  obtain ⟨PC, PM, hC, hM, hE⟩ := op_openings V (VMo V ad) κ μ hR (yX Y (i + 1)) (yX Y (i + 2))
  refine WL.callC (st := []) [.int (yX Y (i + 1)), .int (yX Y (i + 2))] hy hC okX10_openings lmL_73 rfl rfl rfl rfl (Nat.le_of_ble_eq_true rfl) dL_law_647 (fun r1 κ1 g1 => ?_)
  obtain ⟨v1, rfl, h1⟩ := g1
  show WL V ad Y κ1 μ 650 [(3, .int (nI i)), (2, rf (VMo V ad) 0), (1, rf V 0), (0, rb Y)] [.int v1]
  refine WL.aload_n hy dL_law_650 rfl 1 rfl ?_
  refine WL.aload_n hy dL_law_651 rfl 3 rfl ?_
  refine WL.iload_n hy dL_law_652 rfl 0 rfl ?_
  refine WL.iconst (v := 1) hy dL_law_653 (by decide) ?_
  refine WL.iadd hy dL_law_654 ?_
  refine WL.as (congrArg (fun z => Value.int z :: _) (show nI i + 1 = nI (i + 1) from nI_add i 1)) ?_
  refine WL.sld hy (vp_in_nI (by omega) (by omega)) dL_law_655 ?_
  refine WL.as (congrArg (fun z => Value.int z :: _) (show yX Y (nI (i + 1)).toNatClampNeg = yX Y (i + 1) by rw [nI_clamp (show i + 1 < 2 ^ 31 by omega)])) ?_
  refine WL.aload_n hy dL_law_656 rfl 3 rfl ?_
  refine WL.iload_n hy dL_law_657 rfl 0 rfl ?_
  refine WL.iconst (v := 2) hy dL_law_658 (by decide) ?_
  refine WL.iadd hy dL_law_659 ?_
  refine WL.as (congrArg (fun z => Value.int z :: _) (show nI i + 2 = nI (i + 2) from nI_add i 2)) ?_
  refine WL.sld hy (vp_in_nI (by omega) (by omega)) dL_law_660 ?_
  refine WL.as (congrArg (fun z => Value.int z :: _) (show yX Y (nI (i + 2)).toNatClampNeg = yX Y (i + 2) by rw [nI_clamp (show i + 2 < 2 ^ 31 by omega)])) ?_
  refine WL.callM (st := [.int v1]) [.int (yX Y (i + 1)), .int (yX Y (i + 2))] hy hM okX11_openings lmL_76 rfl rfl rfl rfl (Nat.le_of_ble_eq_true rfl) dL_law_661 (fun r2 μ1 g2 => ?_)
  obtain ⟨v2, rfl, h2⟩ := g2
  obtain ⟨he, hR1⟩ := hE v1 κ1 v2 μ1 h1 h2
  show WL V ad Y κ1 μ1 664 [(3, .int (nI i)), (2, rf (VMo V ad) 0), (1, rf V 0), (0, rb Y)] [.int v2, .int v1]
  refine WL.icmp_eq (tgt := 1423) hy dL_law_664 (by decide) he ?_
  exact hnext κ1 μ1 hR1
set_option maxHeartbeats 1000000 in
theorem lc_15 (V : Vt) (ad : Nat → Nat) (Y : Yt) (hy : OkL V Y) (κ μ : Sg) (hR : REL V κ μ) (i : Nat) (hi : i + 6 ≤ yL Y) (hnext : ∀ κ' μ' : Sg, REL V κ' μ' → WL V ad Y κ' μ' 1423 [(3, .int (nI i)), (2, rf (VMo V ad) 0), (1, rf V 0), (0, rb Y)] []) : WL V ad Y κ μ 669 [(3, .int (nI i)), (2, rf (VMo V ad) 0), (1, rf V 0), (0, rb Y)] [] := by
  have h3072 := yL_le hy
  refine WL.aload_n hy dL_law_669 rfl 2 rfl ?_
  refine WL.aload_n hy dL_law_670 rfl 3 rfl ?_
  refine WL.iload_n hy dL_law_671 rfl 0 rfl ?_
  refine WL.iconst (v := 1) hy dL_law_672 (by decide) ?_
  refine WL.iadd hy dL_law_673 ?_
  refine WL.as (congrArg (fun z => Value.int z :: _) (show nI i + 1 = nI (i + 1) from nI_add i 1)) ?_
  refine WL.sld hy (vp_in_nI (by omega) (by omega)) dL_law_674 ?_
  refine WL.as (congrArg (fun z => Value.int z :: _) (show yX Y (nI (i + 1)).toNatClampNeg = yX Y (i + 1) by rw [nI_clamp (show i + 1 < 2 ^ 31 by omega)])) ?_
  refine WL.aload_n hy dL_law_675 rfl 3 rfl ?_
  refine WL.iload_n hy dL_law_676 rfl 0 rfl ?_
  refine WL.iconst (v := 2) hy dL_law_677 (by decide) ?_
  refine WL.iadd hy dL_law_678 ?_
  refine WL.as (congrArg (fun z => Value.int z :: _) (show nI i + 2 = nI (i + 2) from nI_add i 2)) ?_
  refine WL.sld hy (vp_in_nI (by omega) (by omega)) dL_law_679 ?_
  refine WL.as (congrArg (fun z => Value.int z :: _) (show yX Y (nI (i + 2)).toNatClampNeg = yX Y (i + 2) by rw [nI_clamp (show i + 2 < 2 ^ 31 by omega)])) ?_
  obtain ⟨PC, PM, hC, hM, hE⟩ := op_chance V (VMo V ad) κ μ hR (yX Y (i + 1)) (yX Y (i + 2))
  refine WL.callC (st := []) [.int (yX Y (i + 1)), .int (yX Y (i + 2))] hy hC okX10_chance lmL_77 rfl rfl rfl rfl (Nat.le_of_ble_eq_true rfl) dL_law_680 (fun r1 κ1 g1 => ?_)
  obtain ⟨v1, rfl, h1⟩ := g1
  show WL V ad Y κ1 μ 683 [(3, .int (nI i)), (2, rf (VMo V ad) 0), (1, rf V 0), (0, rb Y)] [.long v1]
  refine WL.aload_n hy dL_law_683 rfl 1 rfl ?_
  refine WL.aload_n hy dL_law_684 rfl 3 rfl ?_
  refine WL.iload_n hy dL_law_685 rfl 0 rfl ?_
  refine WL.iconst (v := 1) hy dL_law_686 (by decide) ?_
  refine WL.iadd hy dL_law_687 ?_
  refine WL.as (congrArg (fun z => Value.int z :: _) (show nI i + 1 = nI (i + 1) from nI_add i 1)) ?_
  refine WL.sld hy (vp_in_nI (by omega) (by omega)) dL_law_688 ?_
  refine WL.as (congrArg (fun z => Value.int z :: _) (show yX Y (nI (i + 1)).toNatClampNeg = yX Y (i + 1) by rw [nI_clamp (show i + 1 < 2 ^ 31 by omega)])) ?_
  refine WL.aload_n hy dL_law_689 rfl 3 rfl ?_
  refine WL.iload_n hy dL_law_690 rfl 0 rfl ?_
  refine WL.iconst (v := 2) hy dL_law_691 (by decide) ?_
  refine WL.iadd hy dL_law_692 ?_
  refine WL.as (congrArg (fun z => Value.int z :: _) (show nI i + 2 = nI (i + 2) from nI_add i 2)) ?_
  refine WL.sld hy (vp_in_nI (by omega) (by omega)) dL_law_693 ?_
  refine WL.as (congrArg (fun z => Value.int z :: _) (show yX Y (nI (i + 2)).toNatClampNeg = yX Y (i + 2) by rw [nI_clamp (show i + 2 < 2 ^ 31 by omega)])) ?_
  refine WL.callM (st := [.long v1]) [.int (yX Y (i + 1)), .int (yX Y (i + 2))] hy hM okX11_chance lmL_81 rfl rfl rfl rfl (Nat.le_of_ble_eq_true rfl) dL_law_694 (fun r2 μ1 g2 => ?_)
  obtain ⟨v2, rfl, h2⟩ := g2
  obtain ⟨he, hR1⟩ := hE v1 κ1 v2 μ1 h1 h2
  show WL V ad Y κ1 μ1 697 [(3, .int (nI i)), (2, rf (VMo V ad) 0), (1, rf V 0), (0, rb Y)] [.long v2, .long v1]
  refine WL.lcmp hy dL_law_697 ?_
  refine WL.if_eq (tgt := 1423) hy dL_law_698 (by decide) ((lg_cmp_eq v1 v2).mpr he) ?_
  exact hnext κ1 μ1 hR1
set_option maxHeartbeats 1000000 in
theorem lc_16 (V : Vt) (ad : Nat → Nat) (Y : Yt) (hy : OkL V Y) (κ μ : Sg) (hR : REL V κ μ) (i : Nat) (hi : i + 6 ≤ yL Y) (hnext : ∀ κ' μ' : Sg, REL V κ' μ' → WL V ad Y κ' μ' 1423 [(3, .int (nI i)), (2, rf (VMo V ad) 0), (1, rf V 0), (0, rb Y)] []) : WL V ad Y κ μ 703 [(3, .int (nI i)), (2, rf (VMo V ad) 0), (1, rf V 0), (0, rb Y)] [] := by
  have h3072 := yL_le hy
  refine WL.aload_n hy dL_law_703 rfl 2 rfl ?_
  refine WL.aload_n hy dL_law_704 rfl 3 rfl ?_
  refine WL.iload_n hy dL_law_705 rfl 0 rfl ?_
  refine WL.iconst (v := 1) hy dL_law_706 (by decide) ?_
  refine WL.iadd hy dL_law_707 ?_
  refine WL.as (congrArg (fun z => Value.int z :: _) (show nI i + 1 = nI (i + 1) from nI_add i 1)) ?_
  refine WL.sld hy (vp_in_nI (by omega) (by omega)) dL_law_708 ?_
  refine WL.as (congrArg (fun z => Value.int z :: _) (show yX Y (nI (i + 1)).toNatClampNeg = yX Y (i + 1) by rw [nI_clamp (show i + 1 < 2 ^ 31 by omega)])) ?_
  refine WL.aload_n hy dL_law_709 rfl 3 rfl ?_
  refine WL.iload_n hy dL_law_710 rfl 0 rfl ?_
  refine WL.iconst (v := 2) hy dL_law_711 (by decide) ?_
  refine WL.iadd hy dL_law_712 ?_
  refine WL.as (congrArg (fun z => Value.int z :: _) (show nI i + 2 = nI (i + 2) from nI_add i 2)) ?_
  refine WL.sld hy (vp_in_nI (by omega) (by omega)) dL_law_713 ?_
  refine WL.as (congrArg (fun z => Value.int z :: _) (show yX Y (nI (i + 2)).toNatClampNeg = yX Y (i + 2) by rw [nI_clamp (show i + 2 < 2 ^ 31 by omega)])) ?_
  obtain ⟨PC, PM, hC, hM, hE⟩ := op_judge V (VMo V ad) κ μ hR (yX Y (i + 1)) (yX Y (i + 2))
  refine WL.callC (st := []) [.int (yX Y (i + 1)), .int (yX Y (i + 2))] hy hC okX10_judge lmL_82 rfl rfl rfl rfl (Nat.le_of_ble_eq_true rfl) dL_law_714 (fun r1 κ1 g1 => ?_)
  obtain ⟨v1, rfl, h1⟩ := g1
  show WL V ad Y κ1 μ 717 [(3, .int (nI i)), (2, rf (VMo V ad) 0), (1, rf V 0), (0, rb Y)] [.int v1]
  refine WL.aload_n hy dL_law_717 rfl 1 rfl ?_
  refine WL.aload_n hy dL_law_718 rfl 3 rfl ?_
  refine WL.iload_n hy dL_law_719 rfl 0 rfl ?_
  refine WL.iconst (v := 1) hy dL_law_720 (by decide) ?_
  refine WL.iadd hy dL_law_721 ?_
  refine WL.as (congrArg (fun z => Value.int z :: _) (show nI i + 1 = nI (i + 1) from nI_add i 1)) ?_
  refine WL.sld hy (vp_in_nI (by omega) (by omega)) dL_law_722 ?_
  refine WL.as (congrArg (fun z => Value.int z :: _) (show yX Y (nI (i + 1)).toNatClampNeg = yX Y (i + 1) by rw [nI_clamp (show i + 1 < 2 ^ 31 by omega)])) ?_
  refine WL.aload_n hy dL_law_723 rfl 3 rfl ?_
  refine WL.iload_n hy dL_law_724 rfl 0 rfl ?_
  refine WL.iconst (v := 2) hy dL_law_725 (by decide) ?_
  refine WL.iadd hy dL_law_726 ?_
  refine WL.as (congrArg (fun z => Value.int z :: _) (show nI i + 2 = nI (i + 2) from nI_add i 2)) ?_
  refine WL.sld hy (vp_in_nI (by omega) (by omega)) dL_law_727 ?_
  refine WL.as (congrArg (fun z => Value.int z :: _) (show yX Y (nI (i + 2)).toNatClampNeg = yX Y (i + 2) by rw [nI_clamp (show i + 2 < 2 ^ 31 by omega)])) ?_
  refine WL.callM (st := [.int v1]) [.int (yX Y (i + 1)), .int (yX Y (i + 2))] hy hM okX11_judge lmL_85 rfl rfl rfl rfl (Nat.le_of_ble_eq_true rfl) dL_law_728 (fun r2 μ1 g2 => ?_)
  obtain ⟨v2, rfl, h2⟩ := g2
  obtain ⟨he, hR1⟩ := hE v1 κ1 v2 μ1 h1 h2
  show WL V ad Y κ1 μ1 731 [(3, .int (nI i)), (2, rf (VMo V ad) 0), (1, rf V 0), (0, rb Y)] [.int v2, .int v1]
  refine WL.icmp_eq (tgt := 1423) hy dL_law_731 (by decide) he ?_
  exact hnext κ1 μ1 hR1
set_option maxHeartbeats 1000000 in
theorem lc_17 (V : Vt) (ad : Nat → Nat) (Y : Yt) (hy : OkL V Y) (κ μ : Sg) (hR : REL V κ μ) (i : Nat) (hi : i + 6 ≤ yL Y) (hnext : ∀ κ' μ' : Sg, REL V κ' μ' → WL V ad Y κ' μ' 1423 [(3, .int (nI i)), (2, rf (VMo V ad) 0), (1, rf V 0), (0, rb Y)] []) : WL V ad Y κ μ 736 [(3, .int (nI i)), (2, rf (VMo V ad) 0), (1, rf V 0), (0, rb Y)] [] := by
  have h3072 := yL_le hy
  refine WL.aload_n hy dL_law_736 rfl 2 rfl ?_
  refine WL.aload_n hy dL_law_737 rfl 3 rfl ?_
  refine WL.iload_n hy dL_law_738 rfl 0 rfl ?_
  refine WL.iconst (v := 1) hy dL_law_739 (by decide) ?_
  refine WL.iadd hy dL_law_740 ?_
  refine WL.as (congrArg (fun z => Value.int z :: _) (show nI i + 1 = nI (i + 1) from nI_add i 1)) ?_
  refine WL.sld hy (vp_in_nI (by omega) (by omega)) dL_law_741 ?_
  refine WL.as (congrArg (fun z => Value.int z :: _) (show yX Y (nI (i + 1)).toNatClampNeg = yX Y (i + 1) by rw [nI_clamp (show i + 1 < 2 ^ 31 by omega)])) ?_
  refine WL.aload_n hy dL_law_742 rfl 3 rfl ?_
  refine WL.iload_n hy dL_law_743 rfl 0 rfl ?_
  refine WL.iconst (v := 2) hy dL_law_744 (by decide) ?_
  refine WL.iadd hy dL_law_745 ?_
  refine WL.as (congrArg (fun z => Value.int z :: _) (show nI i + 2 = nI (i + 2) from nI_add i 2)) ?_
  refine WL.sld hy (vp_in_nI (by omega) (by omega)) dL_law_746 ?_
  refine WL.as (congrArg (fun z => Value.int z :: _) (show yX Y (nI (i + 2)).toNatClampNeg = yX Y (i + 2) by rw [nI_clamp (show i + 2 < 2 ^ 31 by omega)])) ?_
  refine WL.aload_n hy dL_law_747 rfl 3 rfl ?_
  refine WL.iload_n hy dL_law_748 rfl 0 rfl ?_
  refine WL.iconst (v := 3) hy dL_law_749 (by decide) ?_
  refine WL.iadd hy dL_law_750 ?_
  refine WL.as (congrArg (fun z => Value.int z :: _) (show nI i + 3 = nI (i + 3) from nI_add i 3)) ?_
  refine WL.sld hy (vp_in_nI (by omega) (by omega)) dL_law_751 ?_
  refine WL.as (congrArg (fun z => Value.int z :: _) (show yX Y (nI (i + 3)).toNatClampNeg = yX Y (i + 3) by rw [nI_clamp (show i + 3 < 2 ^ 31 by omega)])) ?_
  obtain ⟨PC, PM, hC, hM, hE⟩ := op_fits V (VMo V ad) κ μ hR (yX Y (i + 1)) (yX Y (i + 2)) (yX Y (i + 3))
  refine WL.callC (st := []) [.int (yX Y (i + 1)), .int (yX Y (i + 2)), .int (yX Y (i + 3))] hy hC okX10_fits lmL_86 rfl rfl rfl rfl (Nat.le_of_ble_eq_true rfl) dL_law_752 (fun r1 κ1 g1 => ?_)
  obtain ⟨v1, rfl, h1⟩ := g1
  show WL V ad Y κ1 μ 755 [(3, .int (nI i)), (2, rf (VMo V ad) 0), (1, rf V 0), (0, rb Y)] [.int v1]
  refine WL.aload_n hy dL_law_755 rfl 1 rfl ?_
  refine WL.aload_n hy dL_law_756 rfl 3 rfl ?_
  refine WL.iload_n hy dL_law_757 rfl 0 rfl ?_
  refine WL.iconst (v := 1) hy dL_law_758 (by decide) ?_
  refine WL.iadd hy dL_law_759 ?_
  refine WL.as (congrArg (fun z => Value.int z :: _) (show nI i + 1 = nI (i + 1) from nI_add i 1)) ?_
  refine WL.sld hy (vp_in_nI (by omega) (by omega)) dL_law_760 ?_
  refine WL.as (congrArg (fun z => Value.int z :: _) (show yX Y (nI (i + 1)).toNatClampNeg = yX Y (i + 1) by rw [nI_clamp (show i + 1 < 2 ^ 31 by omega)])) ?_
  refine WL.aload_n hy dL_law_761 rfl 3 rfl ?_
  refine WL.iload_n hy dL_law_762 rfl 0 rfl ?_
  refine WL.iconst (v := 2) hy dL_law_763 (by decide) ?_
  refine WL.iadd hy dL_law_764 ?_
  refine WL.as (congrArg (fun z => Value.int z :: _) (show nI i + 2 = nI (i + 2) from nI_add i 2)) ?_
  refine WL.sld hy (vp_in_nI (by omega) (by omega)) dL_law_765 ?_
  refine WL.as (congrArg (fun z => Value.int z :: _) (show yX Y (nI (i + 2)).toNatClampNeg = yX Y (i + 2) by rw [nI_clamp (show i + 2 < 2 ^ 31 by omega)])) ?_
  refine WL.aload_n hy dL_law_766 rfl 3 rfl ?_
  refine WL.iload_n hy dL_law_767 rfl 0 rfl ?_
  refine WL.iconst (v := 3) hy dL_law_768 (by decide) ?_
  refine WL.iadd hy dL_law_769 ?_
  refine WL.as (congrArg (fun z => Value.int z :: _) (show nI i + 3 = nI (i + 3) from nI_add i 3)) ?_
  refine WL.sld hy (vp_in_nI (by omega) (by omega)) dL_law_770 ?_
  refine WL.as (congrArg (fun z => Value.int z :: _) (show yX Y (nI (i + 3)).toNatClampNeg = yX Y (i + 3) by rw [nI_clamp (show i + 3 < 2 ^ 31 by omega)])) ?_
  refine WL.callM (st := [.int v1]) [.int (yX Y (i + 1)), .int (yX Y (i + 2)), .int (yX Y (i + 3))] hy hM okX11_fits lmL_89 rfl rfl rfl rfl (Nat.le_of_ble_eq_true rfl) dL_law_771 (fun r2 μ1 g2 => ?_)
  obtain ⟨v2, rfl, h2⟩ := g2
  obtain ⟨he, hR1⟩ := hE v1 κ1 v2 μ1 h1 h2
  show WL V ad Y κ1 μ1 774 [(3, .int (nI i)), (2, rf (VMo V ad) 0), (1, rf V 0), (0, rb Y)] [.int v2, .int v1]
  refine WL.icmp_eq (tgt := 1423) hy dL_law_774 (by decide) he ?_
  exact hnext κ1 μ1 hR1
set_option maxHeartbeats 1000000 in
theorem lc_18 (V : Vt) (ad : Nat → Nat) (Y : Yt) (hy : OkL V Y) (κ μ : Sg) (hR : REL V κ μ) (i : Nat) (hi : i + 6 ≤ yL Y) (hnext : ∀ κ' μ' : Sg, REL V κ' μ' → WL V ad Y κ' μ' 1423 [(3, .int (nI i)), (2, rf (VMo V ad) 0), (1, rf V 0), (0, rb Y)] []) : WL V ad Y κ μ 779 [(3, .int (nI i)), (2, rf (VMo V ad) 0), (1, rf V 0), (0, rb Y)] [] := by
  have h3072 := yL_le hy
  refine WL.aload_n hy dL_law_779 rfl 2 rfl ?_
  refine WL.aload_n hy dL_law_780 rfl 3 rfl ?_
  refine WL.iload_n hy dL_law_781 rfl 0 rfl ?_
  refine WL.iconst (v := 1) hy dL_law_782 (by decide) ?_
  refine WL.iadd hy dL_law_783 ?_
  refine WL.as (congrArg (fun z => Value.int z :: _) (show nI i + 1 = nI (i + 1) from nI_add i 1)) ?_
  refine WL.sld hy (vp_in_nI (by omega) (by omega)) dL_law_784 ?_
  refine WL.as (congrArg (fun z => Value.int z :: _) (show yX Y (nI (i + 1)).toNatClampNeg = yX Y (i + 1) by rw [nI_clamp (show i + 1 < 2 ^ 31 by omega)])) ?_
  refine WL.aload_n hy dL_law_785 rfl 3 rfl ?_
  refine WL.iload_n hy dL_law_786 rfl 0 rfl ?_
  refine WL.iconst (v := 2) hy dL_law_787 (by decide) ?_
  refine WL.iadd hy dL_law_788 ?_
  refine WL.as (congrArg (fun z => Value.int z :: _) (show nI i + 2 = nI (i + 2) from nI_add i 2)) ?_
  refine WL.sld hy (vp_in_nI (by omega) (by omega)) dL_law_789 ?_
  refine WL.as (congrArg (fun z => Value.int z :: _) (show yX Y (nI (i + 2)).toNatClampNeg = yX Y (i + 2) by rw [nI_clamp (show i + 2 < 2 ^ 31 by omega)])) ?_
  refine WL.aload_n hy dL_law_790 rfl 3 rfl ?_
  refine WL.iload_n hy dL_law_791 rfl 0 rfl ?_
  refine WL.iconst (v := 3) hy dL_law_792 (by decide) ?_
  refine WL.iadd hy dL_law_793 ?_
  refine WL.as (congrArg (fun z => Value.int z :: _) (show nI i + 3 = nI (i + 3) from nI_add i 3)) ?_
  refine WL.sld hy (vp_in_nI (by omega) (by omega)) dL_law_794 ?_
  refine WL.as (congrArg (fun z => Value.int z :: _) (show yX Y (nI (i + 3)).toNatClampNeg = yX Y (i + 3) by rw [nI_clamp (show i + 3 < 2 ^ 31 by omega)])) ?_
  obtain ⟨PC, PM, hC, hM, hE⟩ := op_changed V (VMo V ad) κ μ hR (yX Y (i + 1)) (yX Y (i + 2)) (yX Y (i + 3))
  refine WL.callC (st := []) [.int (yX Y (i + 1)), .int (yX Y (i + 2)), .int (yX Y (i + 3))] hy hC okX10_changed lmL_90 rfl rfl rfl rfl (Nat.le_of_ble_eq_true rfl) dL_law_795 (fun r1 κ1 g1 => ?_)
  obtain ⟨v1, rfl, h1⟩ := g1
  show WL V ad Y κ1 μ 798 [(3, .int (nI i)), (2, rf (VMo V ad) 0), (1, rf V 0), (0, rb Y)] [.int v1]
  refine WL.aload_n hy dL_law_798 rfl 1 rfl ?_
  refine WL.aload_n hy dL_law_799 rfl 3 rfl ?_
  refine WL.iload_n hy dL_law_800 rfl 0 rfl ?_
  refine WL.iconst (v := 1) hy dL_law_801 (by decide) ?_
  refine WL.iadd hy dL_law_802 ?_
  refine WL.as (congrArg (fun z => Value.int z :: _) (show nI i + 1 = nI (i + 1) from nI_add i 1)) ?_
  refine WL.sld hy (vp_in_nI (by omega) (by omega)) dL_law_803 ?_
  refine WL.as (congrArg (fun z => Value.int z :: _) (show yX Y (nI (i + 1)).toNatClampNeg = yX Y (i + 1) by rw [nI_clamp (show i + 1 < 2 ^ 31 by omega)])) ?_
  refine WL.aload_n hy dL_law_804 rfl 3 rfl ?_
  refine WL.iload_n hy dL_law_805 rfl 0 rfl ?_
  refine WL.iconst (v := 2) hy dL_law_806 (by decide) ?_
  refine WL.iadd hy dL_law_807 ?_
  refine WL.as (congrArg (fun z => Value.int z :: _) (show nI i + 2 = nI (i + 2) from nI_add i 2)) ?_
  refine WL.sld hy (vp_in_nI (by omega) (by omega)) dL_law_808 ?_
  refine WL.as (congrArg (fun z => Value.int z :: _) (show yX Y (nI (i + 2)).toNatClampNeg = yX Y (i + 2) by rw [nI_clamp (show i + 2 < 2 ^ 31 by omega)])) ?_
  refine WL.aload_n hy dL_law_809 rfl 3 rfl ?_
  refine WL.iload_n hy dL_law_810 rfl 0 rfl ?_
  refine WL.iconst (v := 3) hy dL_law_811 (by decide) ?_
  refine WL.iadd hy dL_law_812 ?_
  refine WL.as (congrArg (fun z => Value.int z :: _) (show nI i + 3 = nI (i + 3) from nI_add i 3)) ?_
  refine WL.sld hy (vp_in_nI (by omega) (by omega)) dL_law_813 ?_
  refine WL.as (congrArg (fun z => Value.int z :: _) (show yX Y (nI (i + 3)).toNatClampNeg = yX Y (i + 3) by rw [nI_clamp (show i + 3 < 2 ^ 31 by omega)])) ?_
  refine WL.callM (st := [.int v1]) [.int (yX Y (i + 1)), .int (yX Y (i + 2)), .int (yX Y (i + 3))] hy hM okX11_changed lmL_93 rfl rfl rfl rfl (Nat.le_of_ble_eq_true rfl) dL_law_814 (fun r2 μ1 g2 => ?_)
  obtain ⟨v2, rfl, h2⟩ := g2
  obtain ⟨he, hR1⟩ := hE v1 κ1 v2 μ1 h1 h2
  show WL V ad Y κ1 μ1 817 [(3, .int (nI i)), (2, rf (VMo V ad) 0), (1, rf V 0), (0, rb Y)] [.int v2, .int v1]
  refine WL.icmp_eq (tgt := 1423) hy dL_law_817 (by decide) he ?_
  exact hnext κ1 μ1 hR1
set_option maxHeartbeats 1000000 in
theorem lc_19 (V : Vt) (ad : Nat → Nat) (Y : Yt) (hy : OkL V Y) (κ μ : Sg) (hR : REL V κ μ) (i : Nat) (hi : i + 6 ≤ yL Y) (hnext : ∀ κ' μ' : Sg, REL V κ' μ' → WL V ad Y κ' μ' 1423 [(3, .int (nI i)), (2, rf (VMo V ad) 0), (1, rf V 0), (0, rb Y)] []) : WL V ad Y κ μ 822 [(3, .int (nI i)), (2, rf (VMo V ad) 0), (1, rf V 0), (0, rb Y)] [] := by
  have h3072 := yL_le hy
  refine WL.aload_n hy dL_law_822 rfl 2 rfl ?_
  refine WL.aload_n hy dL_law_823 rfl 3 rfl ?_
  refine WL.iload_n hy dL_law_824 rfl 0 rfl ?_
  refine WL.iconst (v := 1) hy dL_law_825 (by decide) ?_
  refine WL.iadd hy dL_law_826 ?_
  refine WL.as (congrArg (fun z => Value.int z :: _) (show nI i + 1 = nI (i + 1) from nI_add i 1)) ?_
  refine WL.sld hy (vp_in_nI (by omega) (by omega)) dL_law_827 ?_
  refine WL.as (congrArg (fun z => Value.int z :: _) (show yX Y (nI (i + 1)).toNatClampNeg = yX Y (i + 1) by rw [nI_clamp (show i + 1 < 2 ^ 31 by omega)])) ?_
  refine WL.aload_n hy dL_law_828 rfl 3 rfl ?_
  refine WL.iload_n hy dL_law_829 rfl 0 rfl ?_
  refine WL.iconst (v := 2) hy dL_law_830 (by decide) ?_
  refine WL.iadd hy dL_law_831 ?_
  refine WL.as (congrArg (fun z => Value.int z :: _) (show nI i + 2 = nI (i + 2) from nI_add i 2)) ?_
  refine WL.sld hy (vp_in_nI (by omega) (by omega)) dL_law_832 ?_
  refine WL.as (congrArg (fun z => Value.int z :: _) (show yX Y (nI (i + 2)).toNatClampNeg = yX Y (i + 2) by rw [nI_clamp (show i + 2 < 2 ^ 31 by omega)])) ?_
  obtain ⟨PC, PM, hC, hM, hE⟩ := op_byTurns V (VMo V ad) κ μ hR (yX Y (i + 1)) (yX Y (i + 2))
  refine WL.callC (st := []) [.int (yX Y (i + 1)), .int (yX Y (i + 2))] hy hC okX10_byTurns lmL_94 rfl rfl rfl rfl (Nat.le_of_ble_eq_true rfl) dL_law_833 (fun r1 κ1 g1 => ?_)
  obtain ⟨v1, rfl, h1⟩ := g1
  show WL V ad Y κ1 μ 836 [(3, .int (nI i)), (2, rf (VMo V ad) 0), (1, rf V 0), (0, rb Y)] [.int v1]
  refine WL.aload_n hy dL_law_836 rfl 1 rfl ?_
  refine WL.aload_n hy dL_law_837 rfl 3 rfl ?_
  refine WL.iload_n hy dL_law_838 rfl 0 rfl ?_
  refine WL.iconst (v := 1) hy dL_law_839 (by decide) ?_
  refine WL.iadd hy dL_law_840 ?_
  refine WL.as (congrArg (fun z => Value.int z :: _) (show nI i + 1 = nI (i + 1) from nI_add i 1)) ?_
  refine WL.sld hy (vp_in_nI (by omega) (by omega)) dL_law_841 ?_
  refine WL.as (congrArg (fun z => Value.int z :: _) (show yX Y (nI (i + 1)).toNatClampNeg = yX Y (i + 1) by rw [nI_clamp (show i + 1 < 2 ^ 31 by omega)])) ?_
  refine WL.aload_n hy dL_law_842 rfl 3 rfl ?_
  refine WL.iload_n hy dL_law_843 rfl 0 rfl ?_
  refine WL.iconst (v := 2) hy dL_law_844 (by decide) ?_
  refine WL.iadd hy dL_law_845 ?_
  refine WL.as (congrArg (fun z => Value.int z :: _) (show nI i + 2 = nI (i + 2) from nI_add i 2)) ?_
  refine WL.sld hy (vp_in_nI (by omega) (by omega)) dL_law_846 ?_
  refine WL.as (congrArg (fun z => Value.int z :: _) (show yX Y (nI (i + 2)).toNatClampNeg = yX Y (i + 2) by rw [nI_clamp (show i + 2 < 2 ^ 31 by omega)])) ?_
  refine WL.callM (st := [.int v1]) [.int (yX Y (i + 1)), .int (yX Y (i + 2))] hy hM okX11_byTurns lmL_97 rfl rfl rfl rfl (Nat.le_of_ble_eq_true rfl) dL_law_847 (fun r2 μ1 g2 => ?_)
  obtain ⟨v2, rfl, h2⟩ := g2
  obtain ⟨he, hR1⟩ := hE v1 κ1 v2 μ1 h1 h2
  show WL V ad Y κ1 μ1 850 [(3, .int (nI i)), (2, rf (VMo V ad) 0), (1, rf V 0), (0, rb Y)] [.int v2, .int v1]
  refine WL.icmp_eq (tgt := 1423) hy dL_law_850 (by decide) he ?_
  exact hnext κ1 μ1 hR1
set_option maxHeartbeats 1000000 in
theorem lc_20 (V : Vt) (ad : Nat → Nat) (Y : Yt) (hy : OkL V Y) (κ μ : Sg) (hR : REL V κ μ) (i : Nat) (hi : i + 6 ≤ yL Y) (hnext : ∀ κ' μ' : Sg, REL V κ' μ' → WL V ad Y κ' μ' 1423 [(3, .int (nI i)), (2, rf (VMo V ad) 0), (1, rf V 0), (0, rb Y)] []) : WL V ad Y κ μ 855 [(3, .int (nI i)), (2, rf (VMo V ad) 0), (1, rf V 0), (0, rb Y)] [] := by
  have h3072 := yL_le hy
  refine WL.aload_n hy dL_law_855 rfl 2 rfl ?_
  refine WL.aload_n hy dL_law_856 rfl 3 rfl ?_
  refine WL.iload_n hy dL_law_857 rfl 0 rfl ?_
  refine WL.iconst (v := 1) hy dL_law_858 (by decide) ?_
  refine WL.iadd hy dL_law_859 ?_
  refine WL.as (congrArg (fun z => Value.int z :: _) (show nI i + 1 = nI (i + 1) from nI_add i 1)) ?_
  refine WL.sld hy (vp_in_nI (by omega) (by omega)) dL_law_860 ?_
  refine WL.as (congrArg (fun z => Value.int z :: _) (show yX Y (nI (i + 1)).toNatClampNeg = yX Y (i + 1) by rw [nI_clamp (show i + 1 < 2 ^ 31 by omega)])) ?_
  refine WL.aload_n hy dL_law_861 rfl 3 rfl ?_
  refine WL.iload_n hy dL_law_862 rfl 0 rfl ?_
  refine WL.iconst (v := 2) hy dL_law_863 (by decide) ?_
  refine WL.iadd hy dL_law_864 ?_
  refine WL.as (congrArg (fun z => Value.int z :: _) (show nI i + 2 = nI (i + 2) from nI_add i 2)) ?_
  refine WL.sld hy (vp_in_nI (by omega) (by omega)) dL_law_865 ?_
  refine WL.as (congrArg (fun z => Value.int z :: _) (show yX Y (nI (i + 2)).toNatClampNeg = yX Y (i + 2) by rw [nI_clamp (show i + 2 < 2 ^ 31 by omega)])) ?_
  refine WL.aload_n hy dL_law_866 rfl 3 rfl ?_
  refine WL.iload_n hy dL_law_867 rfl 0 rfl ?_
  refine WL.iconst (v := 3) hy dL_law_868 (by decide) ?_
  refine WL.iadd hy dL_law_869 ?_
  refine WL.as (congrArg (fun z => Value.int z :: _) (show nI i + 3 = nI (i + 3) from nI_add i 3)) ?_
  refine WL.sld hy (vp_in_nI (by omega) (by omega)) dL_law_870 ?_
  refine WL.as (congrArg (fun z => Value.int z :: _) (show yX Y (nI (i + 3)).toNatClampNeg = yX Y (i + 3) by rw [nI_clamp (show i + 3 < 2 ^ 31 by omega)])) ?_
  obtain ⟨PC, PM, hC, hM, hE⟩ := op_drawn V (VMo V ad) κ μ hR (yX Y (i + 1)) (yX Y (i + 2)) (yX Y (i + 3))
  refine WL.callC (st := []) [.int (yX Y (i + 1)), .int (yX Y (i + 2)), .int (yX Y (i + 3))] hy hC okX10_drawn lmL_98 rfl rfl rfl rfl (Nat.le_of_ble_eq_true rfl) dL_law_871 (fun r1 κ1 g1 => ?_)
  obtain ⟨v1, rfl, h1⟩ := g1
  show WL V ad Y κ1 μ 874 [(3, .int (nI i)), (2, rf (VMo V ad) 0), (1, rf V 0), (0, rb Y)] [.int v1]
  refine WL.aload_n hy dL_law_874 rfl 1 rfl ?_
  refine WL.aload_n hy dL_law_875 rfl 3 rfl ?_
  refine WL.iload_n hy dL_law_876 rfl 0 rfl ?_
  refine WL.iconst (v := 1) hy dL_law_877 (by decide) ?_
  refine WL.iadd hy dL_law_878 ?_
  refine WL.as (congrArg (fun z => Value.int z :: _) (show nI i + 1 = nI (i + 1) from nI_add i 1)) ?_
  refine WL.sld hy (vp_in_nI (by omega) (by omega)) dL_law_879 ?_
  refine WL.as (congrArg (fun z => Value.int z :: _) (show yX Y (nI (i + 1)).toNatClampNeg = yX Y (i + 1) by rw [nI_clamp (show i + 1 < 2 ^ 31 by omega)])) ?_
  refine WL.aload_n hy dL_law_880 rfl 3 rfl ?_
  refine WL.iload_n hy dL_law_881 rfl 0 rfl ?_
  refine WL.iconst (v := 2) hy dL_law_882 (by decide) ?_
  refine WL.iadd hy dL_law_883 ?_
  refine WL.as (congrArg (fun z => Value.int z :: _) (show nI i + 2 = nI (i + 2) from nI_add i 2)) ?_
  refine WL.sld hy (vp_in_nI (by omega) (by omega)) dL_law_884 ?_
  refine WL.as (congrArg (fun z => Value.int z :: _) (show yX Y (nI (i + 2)).toNatClampNeg = yX Y (i + 2) by rw [nI_clamp (show i + 2 < 2 ^ 31 by omega)])) ?_
  refine WL.aload_n hy dL_law_885 rfl 3 rfl ?_
  refine WL.iload_n hy dL_law_886 rfl 0 rfl ?_
  refine WL.iconst (v := 3) hy dL_law_887 (by decide) ?_
  refine WL.iadd hy dL_law_888 ?_
  refine WL.as (congrArg (fun z => Value.int z :: _) (show nI i + 3 = nI (i + 3) from nI_add i 3)) ?_
  refine WL.sld hy (vp_in_nI (by omega) (by omega)) dL_law_889 ?_
  refine WL.as (congrArg (fun z => Value.int z :: _) (show yX Y (nI (i + 3)).toNatClampNeg = yX Y (i + 3) by rw [nI_clamp (show i + 3 < 2 ^ 31 by omega)])) ?_
  refine WL.callM (st := [.int v1]) [.int (yX Y (i + 1)), .int (yX Y (i + 2)), .int (yX Y (i + 3))] hy hM okX11_drawn lmL_101 rfl rfl rfl rfl (Nat.le_of_ble_eq_true rfl) dL_law_890 (fun r2 μ1 g2 => ?_)
  obtain ⟨v2, rfl, h2⟩ := g2
  obtain ⟨he, hR1⟩ := hE v1 κ1 v2 μ1 h1 h2
  show WL V ad Y κ1 μ1 893 [(3, .int (nI i)), (2, rf (VMo V ad) 0), (1, rf V 0), (0, rb Y)] [.int v2, .int v1]
  refine WL.icmp_eq (tgt := 1423) hy dL_law_893 (by decide) he ?_
  exact hnext κ1 μ1 hR1
set_option maxHeartbeats 1000000 in
theorem lc_21 (V : Vt) (ad : Nat → Nat) (Y : Yt) (hy : OkL V Y) (κ μ : Sg) (hR : REL V κ μ) (i : Nat) (hi : i + 6 ≤ yL Y) (hnext : ∀ κ' μ' : Sg, REL V κ' μ' → WL V ad Y κ' μ' 1423 [(3, .int (nI i)), (2, rf (VMo V ad) 0), (1, rf V 0), (0, rb Y)] []) : WL V ad Y κ μ 898 [(3, .int (nI i)), (2, rf (VMo V ad) 0), (1, rf V 0), (0, rb Y)] [] := by
  have h3072 := yL_le hy
  refine WL.aload_n hy dL_law_898 rfl 2 rfl ?_
  obtain ⟨PC, PM, hC, hM, hE⟩ := op_century V (VMo V ad) κ μ hR 
  refine WL.callC (st := []) [] hy hC okX10_century lmL_102 rfl rfl rfl rfl (Nat.le_of_ble_eq_true rfl) dL_law_899 (fun r1 κ1 g1 => ?_)
  obtain ⟨v1, rfl, h1⟩ := g1
  show WL V ad Y κ1 μ 902 [(3, .int (nI i)), (2, rf (VMo V ad) 0), (1, rf V 0), (0, rb Y)] [.int v1]
  refine WL.aload_n hy dL_law_902 rfl 1 rfl ?_
  refine WL.callM (st := [.int v1]) [] hy hM okX11_century lmL_105 rfl rfl rfl rfl (Nat.le_of_ble_eq_true rfl) dL_law_903 (fun r2 μ1 g2 => ?_)
  obtain ⟨v2, rfl, h2⟩ := g2
  obtain ⟨he, hR1⟩ := hE v1 κ1 v2 μ1 h1 h2
  show WL V ad Y κ1 μ1 906 [(3, .int (nI i)), (2, rf (VMo V ad) 0), (1, rf V 0), (0, rb Y)] [.int v2, .int v1]
  refine WL.icmp_eq (tgt := 1423) hy dL_law_906 (by decide) he ?_
  exact hnext κ1 μ1 hR1
set_option maxHeartbeats 1000000 in
theorem lc_22 (V : Vt) (ad : Nat → Nat) (Y : Yt) (hy : OkL V Y) (κ μ : Sg) (hR : REL V κ μ) (i : Nat) (hi : i + 6 ≤ yL Y) (hnext : ∀ κ' μ' : Sg, REL V κ' μ' → WL V ad Y κ' μ' 1423 [(3, .int (nI i)), (2, rf (VMo V ad) 0), (1, rf V 0), (0, rb Y)] []) : WL V ad Y κ μ 911 [(3, .int (nI i)), (2, rf (VMo V ad) 0), (1, rf V 0), (0, rb Y)] [] := by
  have h3072 := yL_le hy
  refine WL.aload_n hy dL_law_911 rfl 2 rfl ?_
  refine WL.aload_n hy dL_law_912 rfl 3 rfl ?_
  refine WL.iload_n hy dL_law_913 rfl 0 rfl ?_
  refine WL.iconst (v := 1) hy dL_law_914 (by decide) ?_
  refine WL.iadd hy dL_law_915 ?_
  refine WL.as (congrArg (fun z => Value.int z :: _) (show nI i + 1 = nI (i + 1) from nI_add i 1)) ?_
  refine WL.sld hy (vp_in_nI (by omega) (by omega)) dL_law_916 ?_
  refine WL.as (congrArg (fun z => Value.int z :: _) (show yX Y (nI (i + 1)).toNatClampNeg = yX Y (i + 1) by rw [nI_clamp (show i + 1 < 2 ^ 31 by omega)])) ?_
  obtain ⟨PC, PM, hC, hM, hE⟩ := op_open V (VMo V ad) κ μ hR (yX Y (i + 1))
  refine WL.callC (st := []) [.int (yX Y (i + 1))] hy hC okX10_open lmL_106 rfl rfl rfl rfl (Nat.le_of_ble_eq_true rfl) dL_law_917 (fun r1 κ1 g1 => ?_)
  obtain ⟨v1, rfl, h1⟩ := g1
  show WL V ad Y κ1 μ 920 [(3, .int (nI i)), (2, rf (VMo V ad) 0), (1, rf V 0), (0, rb Y)] [.int v1]
  refine WL.aload_n hy dL_law_920 rfl 1 rfl ?_
  refine WL.aload_n hy dL_law_921 rfl 3 rfl ?_
  refine WL.iload_n hy dL_law_922 rfl 0 rfl ?_
  refine WL.iconst (v := 1) hy dL_law_923 (by decide) ?_
  refine WL.iadd hy dL_law_924 ?_
  refine WL.as (congrArg (fun z => Value.int z :: _) (show nI i + 1 = nI (i + 1) from nI_add i 1)) ?_
  refine WL.sld hy (vp_in_nI (by omega) (by omega)) dL_law_925 ?_
  refine WL.as (congrArg (fun z => Value.int z :: _) (show yX Y (nI (i + 1)).toNatClampNeg = yX Y (i + 1) by rw [nI_clamp (show i + 1 < 2 ^ 31 by omega)])) ?_
  refine WL.callM (st := [.int v1]) [.int (yX Y (i + 1))] hy hM okX11_open lmL_109 rfl rfl rfl rfl (Nat.le_of_ble_eq_true rfl) dL_law_926 (fun r2 μ1 g2 => ?_)
  obtain ⟨v2, rfl, h2⟩ := g2
  obtain ⟨he, hR1⟩ := hE v1 κ1 v2 μ1 h1 h2
  show WL V ad Y κ1 μ1 929 [(3, .int (nI i)), (2, rf (VMo V ad) 0), (1, rf V 0), (0, rb Y)] [.int v2, .int v1]
  refine WL.icmp_eq (tgt := 1423) hy dL_law_929 (by decide) he ?_
  exact hnext κ1 μ1 hR1
set_option maxHeartbeats 1000000 in
theorem lc_23 (V : Vt) (ad : Nat → Nat) (Y : Yt) (hy : OkL V Y) (κ μ : Sg) (hR : REL V κ μ) (i : Nat) (hi : i + 6 ≤ yL Y) (hnext : ∀ κ' μ' : Sg, REL V κ' μ' → WL V ad Y κ' μ' 1423 [(3, .int (nI i)), (2, rf (VMo V ad) 0), (1, rf V 0), (0, rb Y)] []) : WL V ad Y κ μ 934 [(3, .int (nI i)), (2, rf (VMo V ad) 0), (1, rf V 0), (0, rb Y)] [] := by
  have h3072 := yL_le hy
  refine WL.aload_n hy dL_law_934 rfl 2 rfl ?_
  refine WL.aload_n hy dL_law_935 rfl 3 rfl ?_
  refine WL.iload_n hy dL_law_936 rfl 0 rfl ?_
  refine WL.iconst (v := 1) hy dL_law_937 (by decide) ?_
  refine WL.iadd hy dL_law_938 ?_
  refine WL.as (congrArg (fun z => Value.int z :: _) (show nI i + 1 = nI (i + 1) from nI_add i 1)) ?_
  refine WL.sld hy (vp_in_nI (by omega) (by omega)) dL_law_939 ?_
  refine WL.as (congrArg (fun z => Value.int z :: _) (show yX Y (nI (i + 1)).toNatClampNeg = yX Y (i + 1) by rw [nI_clamp (show i + 1 < 2 ^ 31 by omega)])) ?_
  obtain ⟨PC, PM, hC, hM, hE⟩ := op_hours V (VMo V ad) κ μ hR (yX Y (i + 1))
  refine WL.callC (st := []) [.int (yX Y (i + 1))] hy hC okX10_hours lmL_110 rfl rfl rfl rfl (Nat.le_of_ble_eq_true rfl) dL_law_940 (fun r1 κ1 g1 => ?_)
  obtain ⟨v1, rfl, h1⟩ := g1
  show WL V ad Y κ1 μ 943 [(3, .int (nI i)), (2, rf (VMo V ad) 0), (1, rf V 0), (0, rb Y)] [.int v1]
  refine WL.aload_n hy dL_law_943 rfl 1 rfl ?_
  refine WL.aload_n hy dL_law_944 rfl 3 rfl ?_
  refine WL.iload_n hy dL_law_945 rfl 0 rfl ?_
  refine WL.iconst (v := 1) hy dL_law_946 (by decide) ?_
  refine WL.iadd hy dL_law_947 ?_
  refine WL.as (congrArg (fun z => Value.int z :: _) (show nI i + 1 = nI (i + 1) from nI_add i 1)) ?_
  refine WL.sld hy (vp_in_nI (by omega) (by omega)) dL_law_948 ?_
  refine WL.as (congrArg (fun z => Value.int z :: _) (show yX Y (nI (i + 1)).toNatClampNeg = yX Y (i + 1) by rw [nI_clamp (show i + 1 < 2 ^ 31 by omega)])) ?_
  refine WL.callM (st := [.int v1]) [.int (yX Y (i + 1))] hy hM okX11_hours lmL_113 rfl rfl rfl rfl (Nat.le_of_ble_eq_true rfl) dL_law_949 (fun r2 μ1 g2 => ?_)
  obtain ⟨v2, rfl, h2⟩ := g2
  obtain ⟨he, hR1⟩ := hE v1 κ1 v2 μ1 h1 h2
  show WL V ad Y κ1 μ1 952 [(3, .int (nI i)), (2, rf (VMo V ad) 0), (1, rf V 0), (0, rb Y)] [.int v2, .int v1]
  refine WL.icmp_eq (tgt := 1423) hy dL_law_952 (by decide) he ?_
  exact hnext κ1 μ1 hR1
set_option maxHeartbeats 1000000 in
theorem lc_24 (V : Vt) (ad : Nat → Nat) (Y : Yt) (hy : OkL V Y) (κ μ : Sg) (hR : REL V κ μ) (i : Nat) (hi : i + 6 ≤ yL Y) (hnext : ∀ κ' μ' : Sg, REL V κ' μ' → WL V ad Y κ' μ' 1423 [(3, .int (nI i)), (2, rf (VMo V ad) 0), (1, rf V 0), (0, rb Y)] []) : WL V ad Y κ μ 957 [(3, .int (nI i)), (2, rf (VMo V ad) 0), (1, rf V 0), (0, rb Y)] [] := by
  have h3072 := yL_le hy
  refine WL.aload_n hy dL_law_957 rfl 2 rfl ?_
  refine WL.aload_n hy dL_law_958 rfl 3 rfl ?_
  refine WL.iload_n hy dL_law_959 rfl 0 rfl ?_
  refine WL.iconst (v := 1) hy dL_law_960 (by decide) ?_
  refine WL.iadd hy dL_law_961 ?_
  refine WL.as (congrArg (fun z => Value.int z :: _) (show nI i + 1 = nI (i + 1) from nI_add i 1)) ?_
  refine WL.sld hy (vp_in_nI (by omega) (by omega)) dL_law_962 ?_
  refine WL.as (congrArg (fun z => Value.int z :: _) (show yX Y (nI (i + 1)).toNatClampNeg = yX Y (i + 1) by rw [nI_clamp (show i + 1 < 2 ^ 31 by omega)])) ?_
  obtain ⟨PC, PM, hC, hM, hE⟩ := op_led V (VMo V ad) κ μ hR (yX Y (i + 1))
  refine WL.callC (st := []) [.int (yX Y (i + 1))] hy hC okX10_led lmL_114 rfl rfl rfl rfl (Nat.le_of_ble_eq_true rfl) dL_law_963 (fun r1 κ1 g1 => ?_)
  obtain ⟨v1, rfl, h1⟩ := g1
  show WL V ad Y κ1 μ 966 [(3, .int (nI i)), (2, rf (VMo V ad) 0), (1, rf V 0), (0, rb Y)] [.int v1]
  refine WL.aload_n hy dL_law_966 rfl 1 rfl ?_
  refine WL.aload_n hy dL_law_967 rfl 3 rfl ?_
  refine WL.iload_n hy dL_law_968 rfl 0 rfl ?_
  refine WL.iconst (v := 1) hy dL_law_969 (by decide) ?_
  refine WL.iadd hy dL_law_970 ?_
  refine WL.as (congrArg (fun z => Value.int z :: _) (show nI i + 1 = nI (i + 1) from nI_add i 1)) ?_
  refine WL.sld hy (vp_in_nI (by omega) (by omega)) dL_law_971 ?_
  refine WL.as (congrArg (fun z => Value.int z :: _) (show yX Y (nI (i + 1)).toNatClampNeg = yX Y (i + 1) by rw [nI_clamp (show i + 1 < 2 ^ 31 by omega)])) ?_
  refine WL.callM (st := [.int v1]) [.int (yX Y (i + 1))] hy hM okX11_led lmL_117 rfl rfl rfl rfl (Nat.le_of_ble_eq_true rfl) dL_law_972 (fun r2 μ1 g2 => ?_)
  obtain ⟨v2, rfl, h2⟩ := g2
  obtain ⟨he, hR1⟩ := hE v1 κ1 v2 μ1 h1 h2
  show WL V ad Y κ1 μ1 975 [(3, .int (nI i)), (2, rf (VMo V ad) 0), (1, rf V 0), (0, rb Y)] [.int v2, .int v1]
  refine WL.icmp_eq (tgt := 1423) hy dL_law_975 (by decide) he ?_
  exact hnext κ1 μ1 hR1
set_option maxHeartbeats 1000000 in
theorem lc_25 (V : Vt) (ad : Nat → Nat) (Y : Yt) (hy : OkL V Y) (κ μ : Sg) (hR : REL V κ μ) (i : Nat) (hi : i + 6 ≤ yL Y) (hnext : ∀ κ' μ' : Sg, REL V κ' μ' → WL V ad Y κ' μ' 1423 [(3, .int (nI i)), (2, rf (VMo V ad) 0), (1, rf V 0), (0, rb Y)] []) : WL V ad Y κ μ 980 [(3, .int (nI i)), (2, rf (VMo V ad) 0), (1, rf V 0), (0, rb Y)] [] := by
  have h3072 := yL_le hy
  refine WL.aload_n hy dL_law_980 rfl 2 rfl ?_
  obtain ⟨PC, PM, hC, hM, hE⟩ := op_image V (VMo V ad) κ μ hR 
  refine WL.callC (st := []) [] hy hC okX10_image lmL_118 rfl rfl rfl rfl (Nat.le_of_ble_eq_true rfl) dL_law_981 (fun r1 κ1 g1 => ?_)
  obtain ⟨v1, rfl, h1⟩ := g1
  show WL V ad Y κ1 μ 984 [(3, .int (nI i)), (2, rf (VMo V ad) 0), (1, rf V 0), (0, rb Y)] [.int v1]
  refine WL.aload_n hy dL_law_984 rfl 1 rfl ?_
  refine WL.callM (st := [.int v1]) [] hy hM okX11_image lmL_121 rfl rfl rfl rfl (Nat.le_of_ble_eq_true rfl) dL_law_985 (fun r2 μ1 g2 => ?_)
  obtain ⟨v2, rfl, h2⟩ := g2
  obtain ⟨he, hR1⟩ := hE v1 κ1 v2 μ1 h1 h2
  show WL V ad Y κ1 μ1 988 [(3, .int (nI i)), (2, rf (VMo V ad) 0), (1, rf V 0), (0, rb Y)] [.int v2, .int v1]
  refine WL.icmp_eq (tgt := 1423) hy dL_law_988 (by decide) he ?_
  exact hnext κ1 μ1 hR1
set_option maxHeartbeats 1000000 in
theorem lc_26 (V : Vt) (ad : Nat → Nat) (Y : Yt) (hy : OkL V Y) (κ μ : Sg) (hR : REL V κ μ) (i : Nat) (hi : i + 6 ≤ yL Y) (hnext : ∀ κ' μ' : Sg, REL V κ' μ' → WL V ad Y κ' μ' 1423 [(3, .int (nI i)), (2, rf (VMo V ad) 0), (1, rf V 0), (0, rb Y)] []) : WL V ad Y κ μ 993 [(3, .int (nI i)), (2, rf (VMo V ad) 0), (1, rf V 0), (0, rb Y)] [] := by
  have h3072 := yL_le hy
  refine WL.aload_n hy dL_law_993 rfl 2 rfl ?_
  obtain ⟨PC, PM, hC, hM, hE⟩ := op_back V (VMo V ad) κ μ hR 
  refine WL.callC (st := []) [] hy hC okX10_back lmL_122 rfl rfl rfl rfl (Nat.le_of_ble_eq_true rfl) dL_law_994 (fun r1 κ1 g1 => ?_)
  obtain ⟨v1, rfl, h1⟩ := g1
  show WL V ad Y κ1 μ 997 [(3, .int (nI i)), (2, rf (VMo V ad) 0), (1, rf V 0), (0, rb Y)] [.int v1]
  refine WL.aload_n hy dL_law_997 rfl 1 rfl ?_
  refine WL.callM (st := [.int v1]) [] hy hM okX11_back lmL_125 rfl rfl rfl rfl (Nat.le_of_ble_eq_true rfl) dL_law_998 (fun r2 μ1 g2 => ?_)
  obtain ⟨v2, rfl, h2⟩ := g2
  obtain ⟨he, hR1⟩ := hE v1 κ1 v2 μ1 h1 h2
  show WL V ad Y κ1 μ1 1001 [(3, .int (nI i)), (2, rf (VMo V ad) 0), (1, rf V 0), (0, rb Y)] [.int v2, .int v1]
  refine WL.icmp_eq (tgt := 1423) hy dL_law_1001 (by decide) he ?_
  exact hnext κ1 μ1 hR1
set_option maxHeartbeats 1000000 in
theorem lc_27 (V : Vt) (ad : Nat → Nat) (Y : Yt) (hy : OkL V Y) (κ μ : Sg) (hR : REL V κ μ) (i : Nat) (hi : i + 6 ≤ yL Y) (hnext : ∀ κ' μ' : Sg, REL V κ' μ' → WL V ad Y κ' μ' 1423 [(3, .int (nI i)), (2, rf (VMo V ad) 0), (1, rf V 0), (0, rb Y)] []) : WL V ad Y κ μ 1006 [(3, .int (nI i)), (2, rf (VMo V ad) 0), (1, rf V 0), (0, rb Y)] [] := by
  have h3072 := yL_le hy
  refine WL.aload_n hy dL_law_1006 rfl 2 rfl ?_
  obtain ⟨PC, PM, hC, hM, hE⟩ := op_undo V (VMo V ad) κ μ hR 
  refine WL.callC (st := []) [] hy hC okX10_undo lmL_126 rfl rfl rfl rfl (Nat.le_of_ble_eq_true rfl) dL_law_1007 (fun r1 κ1 g1 => ?_)
  obtain ⟨v1, rfl, h1⟩ := g1
  show WL V ad Y κ1 μ 1010 [(3, .int (nI i)), (2, rf (VMo V ad) 0), (1, rf V 0), (0, rb Y)] [.int v1]
  refine WL.aload_n hy dL_law_1010 rfl 1 rfl ?_
  refine WL.callM (st := [.int v1]) [] hy hM okX11_undo lmL_129 rfl rfl rfl rfl (Nat.le_of_ble_eq_true rfl) dL_law_1011 (fun r2 μ1 g2 => ?_)
  obtain ⟨v2, rfl, h2⟩ := g2
  obtain ⟨he, hR1⟩ := hE v1 κ1 v2 μ1 h1 h2
  show WL V ad Y κ1 μ1 1014 [(3, .int (nI i)), (2, rf (VMo V ad) 0), (1, rf V 0), (0, rb Y)] [.int v2, .int v1]
  refine WL.icmp_eq (tgt := 1423) hy dL_law_1014 (by decide) he ?_
  exact hnext κ1 μ1 hR1
set_option maxHeartbeats 1000000 in
theorem lc_28 (V : Vt) (ad : Nat → Nat) (Y : Yt) (hy : OkL V Y) (κ μ : Sg) (hR : REL V κ μ) (i : Nat) (hi : i + 6 ≤ yL Y) (hnext : ∀ κ' μ' : Sg, REL V κ' μ' → WL V ad Y κ' μ' 1423 [(3, .int (nI i)), (2, rf (VMo V ad) 0), (1, rf V 0), (0, rb Y)] []) : WL V ad Y κ μ 1019 [(3, .int (nI i)), (2, rf (VMo V ad) 0), (1, rf V 0), (0, rb Y)] [] := by
  have h3072 := yL_le hy
  refine WL.aload_n hy dL_law_1019 rfl 2 rfl ?_
  obtain ⟨PC, PM, hC, hM, hE⟩ := op_redo V (VMo V ad) κ μ hR 
  refine WL.callC (st := []) [] hy hC okX10_redo lmL_130 rfl rfl rfl rfl (Nat.le_of_ble_eq_true rfl) dL_law_1020 (fun r1 κ1 g1 => ?_)
  obtain ⟨v1, rfl, h1⟩ := g1
  show WL V ad Y κ1 μ 1023 [(3, .int (nI i)), (2, rf (VMo V ad) 0), (1, rf V 0), (0, rb Y)] [.int v1]
  refine WL.aload_n hy dL_law_1023 rfl 1 rfl ?_
  refine WL.callM (st := [.int v1]) [] hy hM okX11_redo lmL_133 rfl rfl rfl rfl (Nat.le_of_ble_eq_true rfl) dL_law_1024 (fun r2 μ1 g2 => ?_)
  obtain ⟨v2, rfl, h2⟩ := g2
  obtain ⟨he, hR1⟩ := hE v1 κ1 v2 μ1 h1 h2
  show WL V ad Y κ1 μ1 1027 [(3, .int (nI i)), (2, rf (VMo V ad) 0), (1, rf V 0), (0, rb Y)] [.int v2, .int v1]
  refine WL.icmp_eq (tgt := 1423) hy dL_law_1027 (by decide) he ?_
  exact hnext κ1 μ1 hR1
set_option maxHeartbeats 1000000 in
theorem lc_29 (V : Vt) (ad : Nat → Nat) (Y : Yt) (hy : OkL V Y) (κ μ : Sg) (hR : REL V κ μ) (i : Nat) (hi : i + 6 ≤ yL Y) (hnext : ∀ κ' μ' : Sg, REL V κ' μ' → WL V ad Y κ' μ' 1423 [(3, .int (nI i)), (2, rf (VMo V ad) 0), (1, rf V 0), (0, rb Y)] []) : WL V ad Y κ μ 1032 [(3, .int (nI i)), (2, rf (VMo V ad) 0), (1, rf V 0), (0, rb Y)] [] := by
  have h3072 := yL_le hy
  refine WL.aload_n hy dL_law_1032 rfl 2 rfl ?_
  refine WL.aload_n hy dL_law_1033 rfl 3 rfl ?_
  refine WL.iload_n hy dL_law_1034 rfl 0 rfl ?_
  refine WL.iconst (v := 1) hy dL_law_1035 (by decide) ?_
  refine WL.iadd hy dL_law_1036 ?_
  refine WL.as (congrArg (fun z => Value.int z :: _) (show nI i + 1 = nI (i + 1) from nI_add i 1)) ?_
  refine WL.sld hy (vp_in_nI (by omega) (by omega)) dL_law_1037 ?_
  refine WL.as (congrArg (fun z => Value.int z :: _) (show yX Y (nI (i + 1)).toNatClampNeg = yX Y (i + 1) by rw [nI_clamp (show i + 1 < 2 ^ 31 by omega)])) ?_
  obtain ⟨PC, PM, hC, hM, hE⟩ := op_body V (VMo V ad) κ μ hR (yX Y (i + 1))
  refine WL.callC (st := []) [.int (yX Y (i + 1))] hy hC okX10_body lmL_134 rfl rfl rfl rfl (Nat.le_of_ble_eq_true rfl) dL_law_1038 (fun r1 κ1 g1 => ?_)
  obtain ⟨v1, rfl, h1⟩ := g1
  show WL V ad Y κ1 μ 1041 [(3, .int (nI i)), (2, rf (VMo V ad) 0), (1, rf V 0), (0, rb Y)] [.int v1]
  refine WL.aload_n hy dL_law_1041 rfl 1 rfl ?_
  refine WL.aload_n hy dL_law_1042 rfl 3 rfl ?_
  refine WL.iload_n hy dL_law_1043 rfl 0 rfl ?_
  refine WL.iconst (v := 1) hy dL_law_1044 (by decide) ?_
  refine WL.iadd hy dL_law_1045 ?_
  refine WL.as (congrArg (fun z => Value.int z :: _) (show nI i + 1 = nI (i + 1) from nI_add i 1)) ?_
  refine WL.sld hy (vp_in_nI (by omega) (by omega)) dL_law_1046 ?_
  refine WL.as (congrArg (fun z => Value.int z :: _) (show yX Y (nI (i + 1)).toNatClampNeg = yX Y (i + 1) by rw [nI_clamp (show i + 1 < 2 ^ 31 by omega)])) ?_
  refine WL.callM (st := [.int v1]) [.int (yX Y (i + 1))] hy hM okX11_body lmL_137 rfl rfl rfl rfl (Nat.le_of_ble_eq_true rfl) dL_law_1047 (fun r2 μ1 g2 => ?_)
  obtain ⟨v2, rfl, h2⟩ := g2
  obtain ⟨he, hR1⟩ := hE v1 κ1 v2 μ1 h1 h2
  show WL V ad Y κ1 μ1 1050 [(3, .int (nI i)), (2, rf (VMo V ad) 0), (1, rf V 0), (0, rb Y)] [.int v2, .int v1]
  refine WL.icmp_eq (tgt := 1423) hy dL_law_1050 (by decide) he ?_
  exact hnext κ1 μ1 hR1
set_option maxHeartbeats 1000000 in
theorem lc_30 (V : Vt) (ad : Nat → Nat) (Y : Yt) (hy : OkL V Y) (κ μ : Sg) (hR : REL V κ μ) (i : Nat) (hi : i + 6 ≤ yL Y) (hnext : ∀ κ' μ' : Sg, REL V κ' μ' → WL V ad Y κ' μ' 1423 [(3, .int (nI i)), (2, rf (VMo V ad) 0), (1, rf V 0), (0, rb Y)] []) : WL V ad Y κ μ 1055 [(3, .int (nI i)), (2, rf (VMo V ad) 0), (1, rf V 0), (0, rb Y)] [] := by
  have h3072 := yL_le hy
  refine WL.aload_n hy dL_law_1055 rfl 2 rfl ?_
  refine WL.aload_n hy dL_law_1056 rfl 3 rfl ?_
  refine WL.iload_n hy dL_law_1057 rfl 0 rfl ?_
  refine WL.iconst (v := 1) hy dL_law_1058 (by decide) ?_
  refine WL.iadd hy dL_law_1059 ?_
  refine WL.as (congrArg (fun z => Value.int z :: _) (show nI i + 1 = nI (i + 1) from nI_add i 1)) ?_
  refine WL.sld hy (vp_in_nI (by omega) (by omega)) dL_law_1060 ?_
  refine WL.as (congrArg (fun z => Value.int z :: _) (show yX Y (nI (i + 1)).toNatClampNeg = yX Y (i + 1) by rw [nI_clamp (show i + 1 < 2 ^ 31 by omega)])) ?_
  refine WL.aload_n hy dL_law_1061 rfl 3 rfl ?_
  refine WL.iload_n hy dL_law_1062 rfl 0 rfl ?_
  refine WL.iconst (v := 2) hy dL_law_1063 (by decide) ?_
  refine WL.iadd hy dL_law_1064 ?_
  refine WL.as (congrArg (fun z => Value.int z :: _) (show nI i + 2 = nI (i + 2) from nI_add i 2)) ?_
  refine WL.sld hy (vp_in_nI (by omega) (by omega)) dL_law_1065 ?_
  refine WL.as (congrArg (fun z => Value.int z :: _) (show yX Y (nI (i + 2)).toNatClampNeg = yX Y (i + 2) by rw [nI_clamp (show i + 2 < 2 ^ 31 by omega)])) ?_
  refine WL.aload_n hy dL_law_1066 rfl 3 rfl ?_
  refine WL.iload_n hy dL_law_1067 rfl 0 rfl ?_
  refine WL.iconst (v := 3) hy dL_law_1068 (by decide) ?_
  refine WL.iadd hy dL_law_1069 ?_
  refine WL.as (congrArg (fun z => Value.int z :: _) (show nI i + 3 = nI (i + 3) from nI_add i 3)) ?_
  refine WL.sld hy (vp_in_nI (by omega) (by omega)) dL_law_1070 ?_
  refine WL.as (congrArg (fun z => Value.int z :: _) (show yX Y (nI (i + 3)).toNatClampNeg = yX Y (i + 3) by rw [nI_clamp (show i + 3 < 2 ^ 31 by omega)])) ?_
  obtain ⟨PC, PM, hC, hM, hE⟩ := op_act V (VMo V ad) κ μ hR (yX Y (i + 1)) (yX Y (i + 2)) (yX Y (i + 3))
  refine WL.callC (st := []) [.int (yX Y (i + 1)), .int (yX Y (i + 2)), .int (yX Y (i + 3))] hy hC okX10_act lmL_138 rfl rfl rfl rfl (Nat.le_of_ble_eq_true rfl) dL_law_1071 (fun r1 κ1 g1 => ?_)
  obtain ⟨v1, rfl, h1⟩ := g1
  show WL V ad Y κ1 μ 1074 [(3, .int (nI i)), (2, rf (VMo V ad) 0), (1, rf V 0), (0, rb Y)] [.int v1]
  refine WL.aload_n hy dL_law_1074 rfl 1 rfl ?_
  refine WL.aload_n hy dL_law_1075 rfl 3 rfl ?_
  refine WL.iload_n hy dL_law_1076 rfl 0 rfl ?_
  refine WL.iconst (v := 1) hy dL_law_1077 (by decide) ?_
  refine WL.iadd hy dL_law_1078 ?_
  refine WL.as (congrArg (fun z => Value.int z :: _) (show nI i + 1 = nI (i + 1) from nI_add i 1)) ?_
  refine WL.sld hy (vp_in_nI (by omega) (by omega)) dL_law_1079 ?_
  refine WL.as (congrArg (fun z => Value.int z :: _) (show yX Y (nI (i + 1)).toNatClampNeg = yX Y (i + 1) by rw [nI_clamp (show i + 1 < 2 ^ 31 by omega)])) ?_
  refine WL.aload_n hy dL_law_1080 rfl 3 rfl ?_
  refine WL.iload_n hy dL_law_1081 rfl 0 rfl ?_
  refine WL.iconst (v := 2) hy dL_law_1082 (by decide) ?_
  refine WL.iadd hy dL_law_1083 ?_
  refine WL.as (congrArg (fun z => Value.int z :: _) (show nI i + 2 = nI (i + 2) from nI_add i 2)) ?_
  refine WL.sld hy (vp_in_nI (by omega) (by omega)) dL_law_1084 ?_
  refine WL.as (congrArg (fun z => Value.int z :: _) (show yX Y (nI (i + 2)).toNatClampNeg = yX Y (i + 2) by rw [nI_clamp (show i + 2 < 2 ^ 31 by omega)])) ?_
  refine WL.aload_n hy dL_law_1085 rfl 3 rfl ?_
  refine WL.iload_n hy dL_law_1086 rfl 0 rfl ?_
  refine WL.iconst (v := 3) hy dL_law_1087 (by decide) ?_
  refine WL.iadd hy dL_law_1088 ?_
  refine WL.as (congrArg (fun z => Value.int z :: _) (show nI i + 3 = nI (i + 3) from nI_add i 3)) ?_
  refine WL.sld hy (vp_in_nI (by omega) (by omega)) dL_law_1089 ?_
  refine WL.as (congrArg (fun z => Value.int z :: _) (show yX Y (nI (i + 3)).toNatClampNeg = yX Y (i + 3) by rw [nI_clamp (show i + 3 < 2 ^ 31 by omega)])) ?_
  refine WL.callM (st := [.int v1]) [.int (yX Y (i + 1)), .int (yX Y (i + 2)), .int (yX Y (i + 3))] hy hM okX11_act lmL_141 rfl rfl rfl rfl (Nat.le_of_ble_eq_true rfl) dL_law_1090 (fun r2 μ1 g2 => ?_)
  obtain ⟨v2, rfl, h2⟩ := g2
  obtain ⟨he, hR1⟩ := hE v1 κ1 v2 μ1 h1 h2
  show WL V ad Y κ1 μ1 1093 [(3, .int (nI i)), (2, rf (VMo V ad) 0), (1, rf V 0), (0, rb Y)] [.int v2, .int v1]
  refine WL.icmp_eq (tgt := 1423) hy dL_law_1093 (by decide) he ?_
  exact hnext κ1 μ1 hR1
set_option maxHeartbeats 1000000 in
theorem lc_31 (V : Vt) (ad : Nat → Nat) (Y : Yt) (hy : OkL V Y) (κ μ : Sg) (hR : REL V κ μ) (i : Nat) (hi : i + 6 ≤ yL Y) (hnext : ∀ κ' μ' : Sg, REL V κ' μ' → WL V ad Y κ' μ' 1423 [(3, .int (nI i)), (2, rf (VMo V ad) 0), (1, rf V 0), (0, rb Y)] []) : WL V ad Y κ μ 1098 [(3, .int (nI i)), (2, rf (VMo V ad) 0), (1, rf V 0), (0, rb Y)] [] := by
  have h3072 := yL_le hy
  refine WL.aload_n hy dL_law_1098 rfl 2 rfl ?_
  refine WL.aload_n hy dL_law_1099 rfl 3 rfl ?_
  refine WL.iload_n hy dL_law_1100 rfl 0 rfl ?_
  refine WL.iconst (v := 1) hy dL_law_1101 (by decide) ?_
  refine WL.iadd hy dL_law_1102 ?_
  refine WL.as (congrArg (fun z => Value.int z :: _) (show nI i + 1 = nI (i + 1) from nI_add i 1)) ?_
  refine WL.sld hy (vp_in_nI (by omega) (by omega)) dL_law_1103 ?_
  refine WL.as (congrArg (fun z => Value.int z :: _) (show yX Y (nI (i + 1)).toNatClampNeg = yX Y (i + 1) by rw [nI_clamp (show i + 1 < 2 ^ 31 by omega)])) ?_
  obtain ⟨PC, PM, hC, hM, hE⟩ := op_trace V (VMo V ad) κ μ hR (yX Y (i + 1))
  refine WL.callC (st := []) [.int (yX Y (i + 1))] hy hC okX10_trace lmL_142 rfl rfl rfl rfl (Nat.le_of_ble_eq_true rfl) dL_law_1104 (fun r1 κ1 g1 => ?_)
  obtain ⟨v1, rfl, h1⟩ := g1
  show WL V ad Y κ1 μ 1107 [(3, .int (nI i)), (2, rf (VMo V ad) 0), (1, rf V 0), (0, rb Y)] [.int v1]
  refine WL.aload_n hy dL_law_1107 rfl 1 rfl ?_
  refine WL.aload_n hy dL_law_1108 rfl 3 rfl ?_
  refine WL.iload_n hy dL_law_1109 rfl 0 rfl ?_
  refine WL.iconst (v := 1) hy dL_law_1110 (by decide) ?_
  refine WL.iadd hy dL_law_1111 ?_
  refine WL.as (congrArg (fun z => Value.int z :: _) (show nI i + 1 = nI (i + 1) from nI_add i 1)) ?_
  refine WL.sld hy (vp_in_nI (by omega) (by omega)) dL_law_1112 ?_
  refine WL.as (congrArg (fun z => Value.int z :: _) (show yX Y (nI (i + 1)).toNatClampNeg = yX Y (i + 1) by rw [nI_clamp (show i + 1 < 2 ^ 31 by omega)])) ?_
  refine WL.callM (st := [.int v1]) [.int (yX Y (i + 1))] hy hM okX11_trace lmL_145 rfl rfl rfl rfl (Nat.le_of_ble_eq_true rfl) dL_law_1113 (fun r2 μ1 g2 => ?_)
  obtain ⟨v2, rfl, h2⟩ := g2
  obtain ⟨he, hR1⟩ := hE v1 κ1 v2 μ1 h1 h2
  show WL V ad Y κ1 μ1 1116 [(3, .int (nI i)), (2, rf (VMo V ad) 0), (1, rf V 0), (0, rb Y)] [.int v2, .int v1]
  refine WL.icmp_eq (tgt := 1423) hy dL_law_1116 (by decide) he ?_
  exact hnext κ1 μ1 hR1
set_option maxHeartbeats 1000000 in
theorem lc_32 (V : Vt) (ad : Nat → Nat) (Y : Yt) (hy : OkL V Y) (κ μ : Sg) (hR : REL V κ μ) (i : Nat) (hi : i + 6 ≤ yL Y) (hnext : ∀ κ' μ' : Sg, REL V κ' μ' → WL V ad Y κ' μ' 1423 [(3, .int (nI i)), (2, rf (VMo V ad) 0), (1, rf V 0), (0, rb Y)] []) : WL V ad Y κ μ 1121 [(3, .int (nI i)), (2, rf (VMo V ad) 0), (1, rf V 0), (0, rb Y)] [] := by
  have h3072 := yL_le hy
  refine WL.aload_n hy dL_law_1121 rfl 2 rfl ?_
  refine WL.aload_n hy dL_law_1122 rfl 3 rfl ?_
  refine WL.iload_n hy dL_law_1123 rfl 0 rfl ?_
  refine WL.iconst (v := 1) hy dL_law_1124 (by decide) ?_
  refine WL.iadd hy dL_law_1125 ?_
  refine WL.as (congrArg (fun z => Value.int z :: _) (show nI i + 1 = nI (i + 1) from nI_add i 1)) ?_
  refine WL.sld hy (vp_in_nI (by omega) (by omega)) dL_law_1126 ?_
  refine WL.as (congrArg (fun z => Value.int z :: _) (show yX Y (nI (i + 1)).toNatClampNeg = yX Y (i + 1) by rw [nI_clamp (show i + 1 < 2 ^ 31 by omega)])) ?_
  refine WL.aload_n hy dL_law_1127 rfl 3 rfl ?_
  refine WL.iload_n hy dL_law_1128 rfl 0 rfl ?_
  refine WL.iconst (v := 2) hy dL_law_1129 (by decide) ?_
  refine WL.iadd hy dL_law_1130 ?_
  refine WL.as (congrArg (fun z => Value.int z :: _) (show nI i + 2 = nI (i + 2) from nI_add i 2)) ?_
  refine WL.sld hy (vp_in_nI (by omega) (by omega)) dL_law_1131 ?_
  refine WL.as (congrArg (fun z => Value.int z :: _) (show yX Y (nI (i + 2)).toNatClampNeg = yX Y (i + 2) by rw [nI_clamp (show i + 2 < 2 ^ 31 by omega)])) ?_
  obtain ⟨PC, PM, hC, hM, hE⟩ := op_keep V (VMo V ad) κ μ hR (yX Y (i + 1)) (yX Y (i + 2))
  refine WL.callC (st := []) [.int (yX Y (i + 1)), .int (yX Y (i + 2))] hy hC okX10_keep lmL_146 rfl rfl rfl rfl (Nat.le_of_ble_eq_true rfl) dL_law_1132 (fun r1 κ1 g1 => ?_)
  obtain ⟨v1, rfl, h1⟩ := g1
  show WL V ad Y κ1 μ 1135 [(3, .int (nI i)), (2, rf (VMo V ad) 0), (1, rf V 0), (0, rb Y)] [.int v1]
  refine WL.aload_n hy dL_law_1135 rfl 1 rfl ?_
  refine WL.aload_n hy dL_law_1136 rfl 3 rfl ?_
  refine WL.iload_n hy dL_law_1137 rfl 0 rfl ?_
  refine WL.iconst (v := 1) hy dL_law_1138 (by decide) ?_
  refine WL.iadd hy dL_law_1139 ?_
  refine WL.as (congrArg (fun z => Value.int z :: _) (show nI i + 1 = nI (i + 1) from nI_add i 1)) ?_
  refine WL.sld hy (vp_in_nI (by omega) (by omega)) dL_law_1140 ?_
  refine WL.as (congrArg (fun z => Value.int z :: _) (show yX Y (nI (i + 1)).toNatClampNeg = yX Y (i + 1) by rw [nI_clamp (show i + 1 < 2 ^ 31 by omega)])) ?_
  refine WL.aload_n hy dL_law_1141 rfl 3 rfl ?_
  refine WL.iload_n hy dL_law_1142 rfl 0 rfl ?_
  refine WL.iconst (v := 2) hy dL_law_1143 (by decide) ?_
  refine WL.iadd hy dL_law_1144 ?_
  refine WL.as (congrArg (fun z => Value.int z :: _) (show nI i + 2 = nI (i + 2) from nI_add i 2)) ?_
  refine WL.sld hy (vp_in_nI (by omega) (by omega)) dL_law_1145 ?_
  refine WL.as (congrArg (fun z => Value.int z :: _) (show yX Y (nI (i + 2)).toNatClampNeg = yX Y (i + 2) by rw [nI_clamp (show i + 2 < 2 ^ 31 by omega)])) ?_
  refine WL.callM (st := [.int v1]) [.int (yX Y (i + 1)), .int (yX Y (i + 2))] hy hM okX11_keep lmL_149 rfl rfl rfl rfl (Nat.le_of_ble_eq_true rfl) dL_law_1146 (fun r2 μ1 g2 => ?_)
  obtain ⟨v2, rfl, h2⟩ := g2
  obtain ⟨he, hR1⟩ := hE v1 κ1 v2 μ1 h1 h2
  show WL V ad Y κ1 μ1 1149 [(3, .int (nI i)), (2, rf (VMo V ad) 0), (1, rf V 0), (0, rb Y)] [.int v2, .int v1]
  refine WL.icmp_eq (tgt := 1423) hy dL_law_1149 (by decide) he ?_
  exact hnext κ1 μ1 hR1
set_option maxHeartbeats 1000000 in
theorem lc_33 (V : Vt) (ad : Nat → Nat) (Y : Yt) (hy : OkL V Y) (κ μ : Sg) (hR : REL V κ μ) (i : Nat) (hi : i + 6 ≤ yL Y) (hnext : ∀ κ' μ' : Sg, REL V κ' μ' → WL V ad Y κ' μ' 1423 [(3, .int (nI i)), (2, rf (VMo V ad) 0), (1, rf V 0), (0, rb Y)] []) : WL V ad Y κ μ 1154 [(3, .int (nI i)), (2, rf (VMo V ad) 0), (1, rf V 0), (0, rb Y)] [] := by
  have h3072 := yL_le hy
  refine WL.aload_n hy dL_law_1154 rfl 2 rfl ?_
  refine WL.aload_n hy dL_law_1155 rfl 3 rfl ?_
  refine WL.iload_n hy dL_law_1156 rfl 0 rfl ?_
  refine WL.iconst (v := 1) hy dL_law_1157 (by decide) ?_
  refine WL.iadd hy dL_law_1158 ?_
  refine WL.as (congrArg (fun z => Value.int z :: _) (show nI i + 1 = nI (i + 1) from nI_add i 1)) ?_
  refine WL.sld hy (vp_in_nI (by omega) (by omega)) dL_law_1159 ?_
  refine WL.as (congrArg (fun z => Value.int z :: _) (show yX Y (nI (i + 1)).toNatClampNeg = yX Y (i + 1) by rw [nI_clamp (show i + 1 < 2 ^ 31 by omega)])) ?_
  refine WL.aload_n hy dL_law_1160 rfl 3 rfl ?_
  refine WL.iload_n hy dL_law_1161 rfl 0 rfl ?_
  refine WL.iconst (v := 2) hy dL_law_1162 (by decide) ?_
  refine WL.iadd hy dL_law_1163 ?_
  refine WL.as (congrArg (fun z => Value.int z :: _) (show nI i + 2 = nI (i + 2) from nI_add i 2)) ?_
  refine WL.sld hy (vp_in_nI (by omega) (by omega)) dL_law_1164 ?_
  refine WL.as (congrArg (fun z => Value.int z :: _) (show yX Y (nI (i + 2)).toNatClampNeg = yX Y (i + 2) by rw [nI_clamp (show i + 2 < 2 ^ 31 by omega)])) ?_
  refine WL.aload_n hy dL_law_1165 rfl 3 rfl ?_
  refine WL.iload_n hy dL_law_1166 rfl 0 rfl ?_
  refine WL.iconst (v := 3) hy dL_law_1167 (by decide) ?_
  refine WL.iadd hy dL_law_1168 ?_
  refine WL.as (congrArg (fun z => Value.int z :: _) (show nI i + 3 = nI (i + 3) from nI_add i 3)) ?_
  refine WL.sld hy (vp_in_nI (by omega) (by omega)) dL_law_1169 ?_
  refine WL.as (congrArg (fun z => Value.int z :: _) (show yX Y (nI (i + 3)).toNatClampNeg = yX Y (i + 3) by rw [nI_clamp (show i + 3 < 2 ^ 31 by omega)])) ?_
  obtain ⟨PC, PM, hC, hM, hE⟩ := op_row V (VMo V ad) κ μ hR (yX Y (i + 1)) (yX Y (i + 2)) (yX Y (i + 3))
  refine WL.callC (st := []) [.int (yX Y (i + 1)), .int (yX Y (i + 2)), .int (yX Y (i + 3))] hy hC okX10_row lmL_150 rfl rfl rfl rfl (Nat.le_of_ble_eq_true rfl) dL_law_1170 (fun r1 κ1 g1 => ?_)
  obtain ⟨v1, rfl, h1⟩ := g1
  show WL V ad Y κ1 μ 1173 [(3, .int (nI i)), (2, rf (VMo V ad) 0), (1, rf V 0), (0, rb Y)] [.int v1]
  refine WL.aload_n hy dL_law_1173 rfl 1 rfl ?_
  refine WL.aload_n hy dL_law_1174 rfl 3 rfl ?_
  refine WL.iload_n hy dL_law_1175 rfl 0 rfl ?_
  refine WL.iconst (v := 1) hy dL_law_1176 (by decide) ?_
  refine WL.iadd hy dL_law_1177 ?_
  refine WL.as (congrArg (fun z => Value.int z :: _) (show nI i + 1 = nI (i + 1) from nI_add i 1)) ?_
  refine WL.sld hy (vp_in_nI (by omega) (by omega)) dL_law_1178 ?_
  refine WL.as (congrArg (fun z => Value.int z :: _) (show yX Y (nI (i + 1)).toNatClampNeg = yX Y (i + 1) by rw [nI_clamp (show i + 1 < 2 ^ 31 by omega)])) ?_
  refine WL.aload_n hy dL_law_1179 rfl 3 rfl ?_
  refine WL.iload_n hy dL_law_1180 rfl 0 rfl ?_
  refine WL.iconst (v := 2) hy dL_law_1181 (by decide) ?_
  refine WL.iadd hy dL_law_1182 ?_
  refine WL.as (congrArg (fun z => Value.int z :: _) (show nI i + 2 = nI (i + 2) from nI_add i 2)) ?_
  refine WL.sld hy (vp_in_nI (by omega) (by omega)) dL_law_1183 ?_
  refine WL.as (congrArg (fun z => Value.int z :: _) (show yX Y (nI (i + 2)).toNatClampNeg = yX Y (i + 2) by rw [nI_clamp (show i + 2 < 2 ^ 31 by omega)])) ?_
  refine WL.aload_n hy dL_law_1184 rfl 3 rfl ?_
  refine WL.iload_n hy dL_law_1185 rfl 0 rfl ?_
  refine WL.iconst (v := 3) hy dL_law_1186 (by decide) ?_
  refine WL.iadd hy dL_law_1187 ?_
  refine WL.as (congrArg (fun z => Value.int z :: _) (show nI i + 3 = nI (i + 3) from nI_add i 3)) ?_
  refine WL.sld hy (vp_in_nI (by omega) (by omega)) dL_law_1188 ?_
  refine WL.as (congrArg (fun z => Value.int z :: _) (show yX Y (nI (i + 3)).toNatClampNeg = yX Y (i + 3) by rw [nI_clamp (show i + 3 < 2 ^ 31 by omega)])) ?_
  refine WL.callM (st := [.int v1]) [.int (yX Y (i + 1)), .int (yX Y (i + 2)), .int (yX Y (i + 3))] hy hM okX11_row lmL_153 rfl rfl rfl rfl (Nat.le_of_ble_eq_true rfl) dL_law_1189 (fun r2 μ1 g2 => ?_)
  obtain ⟨v2, rfl, h2⟩ := g2
  obtain ⟨he, hR1⟩ := hE v1 κ1 v2 μ1 h1 h2
  show WL V ad Y κ1 μ1 1192 [(3, .int (nI i)), (2, rf (VMo V ad) 0), (1, rf V 0), (0, rb Y)] [.int v2, .int v1]
  refine WL.icmp_eq (tgt := 1423) hy dL_law_1192 (by decide) he ?_
  exact hnext κ1 μ1 hR1
set_option maxHeartbeats 1000000 in
theorem lc_34 (V : Vt) (ad : Nat → Nat) (Y : Yt) (hy : OkL V Y) (κ μ : Sg) (hR : REL V κ μ) (i : Nat) (hi : i + 6 ≤ yL Y) (hnext : ∀ κ' μ' : Sg, REL V κ' μ' → WL V ad Y κ' μ' 1423 [(3, .int (nI i)), (2, rf (VMo V ad) 0), (1, rf V 0), (0, rb Y)] []) : WL V ad Y κ μ 1197 [(3, .int (nI i)), (2, rf (VMo V ad) 0), (1, rf V 0), (0, rb Y)] [] := by
  have h3072 := yL_le hy
  refine WL.aload_n hy dL_law_1197 rfl 2 rfl ?_
  refine WL.aload_n hy dL_law_1198 rfl 3 rfl ?_
  refine WL.iload_n hy dL_law_1199 rfl 0 rfl ?_
  refine WL.iconst (v := 1) hy dL_law_1200 (by decide) ?_
  refine WL.iadd hy dL_law_1201 ?_
  refine WL.as (congrArg (fun z => Value.int z :: _) (show nI i + 1 = nI (i + 1) from nI_add i 1)) ?_
  refine WL.sld hy (vp_in_nI (by omega) (by omega)) dL_law_1202 ?_
  refine WL.as (congrArg (fun z => Value.int z :: _) (show yX Y (nI (i + 1)).toNatClampNeg = yX Y (i + 1) by rw [nI_clamp (show i + 1 < 2 ^ 31 by omega)])) ?_
  refine WL.aload_n hy dL_law_1203 rfl 3 rfl ?_
  refine WL.iload_n hy dL_law_1204 rfl 0 rfl ?_
  refine WL.iconst (v := 2) hy dL_law_1205 (by decide) ?_
  refine WL.iadd hy dL_law_1206 ?_
  refine WL.as (congrArg (fun z => Value.int z :: _) (show nI i + 2 = nI (i + 2) from nI_add i 2)) ?_
  refine WL.sld hy (vp_in_nI (by omega) (by omega)) dL_law_1207 ?_
  refine WL.as (congrArg (fun z => Value.int z :: _) (show yX Y (nI (i + 2)).toNatClampNeg = yX Y (i + 2) by rw [nI_clamp (show i + 2 < 2 ^ 31 by omega)])) ?_
  refine WL.aload_n hy dL_law_1208 rfl 3 rfl ?_
  refine WL.iload_n hy dL_law_1209 rfl 0 rfl ?_
  refine WL.iconst (v := 3) hy dL_law_1210 (by decide) ?_
  refine WL.iadd hy dL_law_1211 ?_
  refine WL.as (congrArg (fun z => Value.int z :: _) (show nI i + 3 = nI (i + 3) from nI_add i 3)) ?_
  refine WL.sld hy (vp_in_nI (by omega) (by omega)) dL_law_1212 ?_
  refine WL.as (congrArg (fun z => Value.int z :: _) (show yX Y (nI (i + 3)).toNatClampNeg = yX Y (i + 3) by rw [nI_clamp (show i + 3 < 2 ^ 31 by omega)])) ?_
  refine WL.i2l hy dL_law_1213 ?_
  refine WL.bipush (v := 32) hy dL_law_1214 (by decide) ?_
  refine WL.lshl hy dL_law_1216 ?_
  refine WL.aload_n hy dL_law_1217 rfl 3 rfl ?_
  refine WL.iload_n hy dL_law_1218 rfl 0 rfl ?_
  refine WL.iconst (v := 4) hy dL_law_1219 (by decide) ?_
  refine WL.iadd hy dL_law_1220 ?_
  refine WL.as (congrArg (fun z => Value.int z :: _) (show nI i + 4 = nI (i + 4) from nI_add i 4)) ?_
  refine WL.sld hy (vp_in_nI (by omega) (by omega)) dL_law_1221 ?_
  refine WL.as (congrArg (fun z => Value.int z :: _) (show yX Y (nI (i + 4)).toNatClampNeg = yX Y (i + 4) by rw [nI_clamp (show i + 4 < 2 ^ 31 by omega)])) ?_
  refine WL.i2l hy dL_law_1222 ?_
  refine WL.ldc2 (v := 4294967295) hy lcL_154 dL_law_1223 ?_
  refine WL.land hy dL_law_1226 ?_
  refine WL.lor hy dL_law_1227 ?_
  obtain ⟨PC, PM, hC, hM, hE⟩ := op_put V (VMo V ad) κ μ hR (yX Y (i + 1)) (yX Y (i + 2)) ((((yX Y (i + 3)).toInt64) <<< ((32 : Int32).toInt64 &&& 63)) ||| (((yX Y (i + 4)).toInt64) &&& (4294967295)))
  refine WL.callC (st := []) [.int (yX Y (i + 1)), .int (yX Y (i + 2)), .long ((((yX Y (i + 3)).toInt64) <<< ((32 : Int32).toInt64 &&& 63)) ||| (((yX Y (i + 4)).toInt64) &&& (4294967295)))] hy hC okX10_put lmL_156 rfl rfl rfl rfl (Nat.le_of_ble_eq_true rfl) dL_law_1228 (fun r1 κ1 g1 => ?_)
  obtain ⟨v1, rfl, h1⟩ := g1
  show WL V ad Y κ1 μ 1231 [(3, .int (nI i)), (2, rf (VMo V ad) 0), (1, rf V 0), (0, rb Y)] [.int v1]
  refine WL.aload_n hy dL_law_1231 rfl 1 rfl ?_
  refine WL.aload_n hy dL_law_1232 rfl 3 rfl ?_
  refine WL.iload_n hy dL_law_1233 rfl 0 rfl ?_
  refine WL.iconst (v := 1) hy dL_law_1234 (by decide) ?_
  refine WL.iadd hy dL_law_1235 ?_
  refine WL.as (congrArg (fun z => Value.int z :: _) (show nI i + 1 = nI (i + 1) from nI_add i 1)) ?_
  refine WL.sld hy (vp_in_nI (by omega) (by omega)) dL_law_1236 ?_
  refine WL.as (congrArg (fun z => Value.int z :: _) (show yX Y (nI (i + 1)).toNatClampNeg = yX Y (i + 1) by rw [nI_clamp (show i + 1 < 2 ^ 31 by omega)])) ?_
  refine WL.aload_n hy dL_law_1237 rfl 3 rfl ?_
  refine WL.iload_n hy dL_law_1238 rfl 0 rfl ?_
  refine WL.iconst (v := 2) hy dL_law_1239 (by decide) ?_
  refine WL.iadd hy dL_law_1240 ?_
  refine WL.as (congrArg (fun z => Value.int z :: _) (show nI i + 2 = nI (i + 2) from nI_add i 2)) ?_
  refine WL.sld hy (vp_in_nI (by omega) (by omega)) dL_law_1241 ?_
  refine WL.as (congrArg (fun z => Value.int z :: _) (show yX Y (nI (i + 2)).toNatClampNeg = yX Y (i + 2) by rw [nI_clamp (show i + 2 < 2 ^ 31 by omega)])) ?_
  refine WL.aload_n hy dL_law_1242 rfl 3 rfl ?_
  refine WL.iload_n hy dL_law_1243 rfl 0 rfl ?_
  refine WL.iconst (v := 3) hy dL_law_1244 (by decide) ?_
  refine WL.iadd hy dL_law_1245 ?_
  refine WL.as (congrArg (fun z => Value.int z :: _) (show nI i + 3 = nI (i + 3) from nI_add i 3)) ?_
  refine WL.sld hy (vp_in_nI (by omega) (by omega)) dL_law_1246 ?_
  refine WL.as (congrArg (fun z => Value.int z :: _) (show yX Y (nI (i + 3)).toNatClampNeg = yX Y (i + 3) by rw [nI_clamp (show i + 3 < 2 ^ 31 by omega)])) ?_
  refine WL.i2l hy dL_law_1247 ?_
  refine WL.bipush (v := 32) hy dL_law_1248 (by decide) ?_
  refine WL.lshl hy dL_law_1250 ?_
  refine WL.aload_n hy dL_law_1251 rfl 3 rfl ?_
  refine WL.iload_n hy dL_law_1252 rfl 0 rfl ?_
  refine WL.iconst (v := 4) hy dL_law_1253 (by decide) ?_
  refine WL.iadd hy dL_law_1254 ?_
  refine WL.as (congrArg (fun z => Value.int z :: _) (show nI i + 4 = nI (i + 4) from nI_add i 4)) ?_
  refine WL.sld hy (vp_in_nI (by omega) (by omega)) dL_law_1255 ?_
  refine WL.as (congrArg (fun z => Value.int z :: _) (show yX Y (nI (i + 4)).toNatClampNeg = yX Y (i + 4) by rw [nI_clamp (show i + 4 < 2 ^ 31 by omega)])) ?_
  refine WL.i2l hy dL_law_1256 ?_
  refine WL.ldc2 (v := 4294967295) hy lcL_154 dL_law_1257 ?_
  refine WL.land hy dL_law_1260 ?_
  refine WL.lor hy dL_law_1261 ?_
  refine WL.callM (st := [.int v1]) [.int (yX Y (i + 1)), .int (yX Y (i + 2)), .long ((((yX Y (i + 3)).toInt64) <<< ((32 : Int32).toInt64 &&& 63)) ||| (((yX Y (i + 4)).toInt64) &&& (4294967295)))] hy hM okX11_put lmL_160 rfl rfl rfl rfl (Nat.le_of_ble_eq_true rfl) dL_law_1262 (fun r2 μ1 g2 => ?_)
  obtain ⟨v2, rfl, h2⟩ := g2
  obtain ⟨he, hR1⟩ := hE v1 κ1 v2 μ1 h1 h2
  show WL V ad Y κ1 μ1 1265 [(3, .int (nI i)), (2, rf (VMo V ad) 0), (1, rf V 0), (0, rb Y)] [.int v2, .int v1]
  refine WL.icmp_eq (tgt := 1423) hy dL_law_1265 (by decide) he ?_
  exact hnext κ1 μ1 hR1
set_option maxHeartbeats 1000000 in
theorem lc_35 (V : Vt) (ad : Nat → Nat) (Y : Yt) (hy : OkL V Y) (κ μ : Sg) (hR : REL V κ μ) (i : Nat) (hi : i + 6 ≤ yL Y) (hnext : ∀ κ' μ' : Sg, REL V κ' μ' → WL V ad Y κ' μ' 1423 [(3, .int (nI i)), (2, rf (VMo V ad) 0), (1, rf V 0), (0, rb Y)] []) : WL V ad Y κ μ 1270 [(3, .int (nI i)), (2, rf (VMo V ad) 0), (1, rf V 0), (0, rb Y)] [] := by
  have h3072 := yL_le hy
  refine WL.aload_n hy dL_law_1270 rfl 2 rfl ?_
  refine WL.aload_n hy dL_law_1271 rfl 3 rfl ?_
  refine WL.iload_n hy dL_law_1272 rfl 0 rfl ?_
  refine WL.iconst (v := 1) hy dL_law_1273 (by decide) ?_
  refine WL.iadd hy dL_law_1274 ?_
  refine WL.as (congrArg (fun z => Value.int z :: _) (show nI i + 1 = nI (i + 1) from nI_add i 1)) ?_
  refine WL.sld hy (vp_in_nI (by omega) (by omega)) dL_law_1275 ?_
  refine WL.as (congrArg (fun z => Value.int z :: _) (show yX Y (nI (i + 1)).toNatClampNeg = yX Y (i + 1) by rw [nI_clamp (show i + 1 < 2 ^ 31 by omega)])) ?_
  refine WL.aload_n hy dL_law_1276 rfl 3 rfl ?_
  refine WL.iload_n hy dL_law_1277 rfl 0 rfl ?_
  refine WL.iconst (v := 2) hy dL_law_1278 (by decide) ?_
  refine WL.iadd hy dL_law_1279 ?_
  refine WL.as (congrArg (fun z => Value.int z :: _) (show nI i + 2 = nI (i + 2) from nI_add i 2)) ?_
  refine WL.sld hy (vp_in_nI (by omega) (by omega)) dL_law_1280 ?_
  refine WL.as (congrArg (fun z => Value.int z :: _) (show yX Y (nI (i + 2)).toNatClampNeg = yX Y (i + 2) by rw [nI_clamp (show i + 2 < 2 ^ 31 by omega)])) ?_
  obtain ⟨PC, PM, hC, hM, hE⟩ := op_element V (VMo V ad) κ μ hR (yX Y (i + 1)) (yX Y (i + 2))
  refine WL.callC (st := []) [.int (yX Y (i + 1)), .int (yX Y (i + 2))] hy hC okX10_element lmL_161 rfl rfl rfl rfl (Nat.le_of_ble_eq_true rfl) dL_law_1281 (fun r1 κ1 g1 => ?_)
  obtain ⟨v1, rfl, h1⟩ := g1
  show WL V ad Y κ1 μ 1284 [(3, .int (nI i)), (2, rf (VMo V ad) 0), (1, rf V 0), (0, rb Y)] [.long v1]
  refine WL.aload_n hy dL_law_1284 rfl 1 rfl ?_
  refine WL.aload_n hy dL_law_1285 rfl 3 rfl ?_
  refine WL.iload_n hy dL_law_1286 rfl 0 rfl ?_
  refine WL.iconst (v := 1) hy dL_law_1287 (by decide) ?_
  refine WL.iadd hy dL_law_1288 ?_
  refine WL.as (congrArg (fun z => Value.int z :: _) (show nI i + 1 = nI (i + 1) from nI_add i 1)) ?_
  refine WL.sld hy (vp_in_nI (by omega) (by omega)) dL_law_1289 ?_
  refine WL.as (congrArg (fun z => Value.int z :: _) (show yX Y (nI (i + 1)).toNatClampNeg = yX Y (i + 1) by rw [nI_clamp (show i + 1 < 2 ^ 31 by omega)])) ?_
  refine WL.aload_n hy dL_law_1290 rfl 3 rfl ?_
  refine WL.iload_n hy dL_law_1291 rfl 0 rfl ?_
  refine WL.iconst (v := 2) hy dL_law_1292 (by decide) ?_
  refine WL.iadd hy dL_law_1293 ?_
  refine WL.as (congrArg (fun z => Value.int z :: _) (show nI i + 2 = nI (i + 2) from nI_add i 2)) ?_
  refine WL.sld hy (vp_in_nI (by omega) (by omega)) dL_law_1294 ?_
  refine WL.as (congrArg (fun z => Value.int z :: _) (show yX Y (nI (i + 2)).toNatClampNeg = yX Y (i + 2) by rw [nI_clamp (show i + 2 < 2 ^ 31 by omega)])) ?_
  refine WL.callM (st := [.long v1]) [.int (yX Y (i + 1)), .int (yX Y (i + 2))] hy hM okX11_element lmL_164 rfl rfl rfl rfl (Nat.le_of_ble_eq_true rfl) dL_law_1295 (fun r2 μ1 g2 => ?_)
  obtain ⟨v2, rfl, h2⟩ := g2
  obtain ⟨he, hR1⟩ := hE v1 κ1 v2 μ1 h1 h2
  show WL V ad Y κ1 μ1 1298 [(3, .int (nI i)), (2, rf (VMo V ad) 0), (1, rf V 0), (0, rb Y)] [.long v2, .long v1]
  refine WL.lcmp hy dL_law_1298 ?_
  refine WL.if_eq (tgt := 1423) hy dL_law_1299 (by decide) ((lg_cmp_eq v1 v2).mpr he) ?_
  exact hnext κ1 μ1 hR1
set_option maxHeartbeats 1000000 in
theorem lc_36 (V : Vt) (ad : Nat → Nat) (Y : Yt) (hy : OkL V Y) (κ μ : Sg) (hR : REL V κ μ) (i : Nat) (hi : i + 6 ≤ yL Y) (hnext : ∀ κ' μ' : Sg, REL V κ' μ' → WL V ad Y κ' μ' 1423 [(3, .int (nI i)), (2, rf (VMo V ad) 0), (1, rf V 0), (0, rb Y)] []) : WL V ad Y κ μ 1304 [(3, .int (nI i)), (2, rf (VMo V ad) 0), (1, rf V 0), (0, rb Y)] [] := by
  have h3072 := yL_le hy
  refine WL.aload_n hy dL_law_1304 rfl 2 rfl ?_
  refine WL.aload_n hy dL_law_1305 rfl 3 rfl ?_
  refine WL.iload_n hy dL_law_1306 rfl 0 rfl ?_
  refine WL.iconst (v := 1) hy dL_law_1307 (by decide) ?_
  refine WL.iadd hy dL_law_1308 ?_
  refine WL.as (congrArg (fun z => Value.int z :: _) (show nI i + 1 = nI (i + 1) from nI_add i 1)) ?_
  refine WL.sld hy (vp_in_nI (by omega) (by omega)) dL_law_1309 ?_
  refine WL.as (congrArg (fun z => Value.int z :: _) (show yX Y (nI (i + 1)).toNatClampNeg = yX Y (i + 1) by rw [nI_clamp (show i + 1 < 2 ^ 31 by omega)])) ?_
  refine WL.aload_n hy dL_law_1310 rfl 3 rfl ?_
  refine WL.iload_n hy dL_law_1311 rfl 0 rfl ?_
  refine WL.iconst (v := 2) hy dL_law_1312 (by decide) ?_
  refine WL.iadd hy dL_law_1313 ?_
  refine WL.as (congrArg (fun z => Value.int z :: _) (show nI i + 2 = nI (i + 2) from nI_add i 2)) ?_
  refine WL.sld hy (vp_in_nI (by omega) (by omega)) dL_law_1314 ?_
  refine WL.as (congrArg (fun z => Value.int z :: _) (show yX Y (nI (i + 2)).toNatClampNeg = yX Y (i + 2) by rw [nI_clamp (show i + 2 < 2 ^ 31 by omega)])) ?_
  refine WL.aload_n hy dL_law_1315 rfl 3 rfl ?_
  refine WL.iload_n hy dL_law_1316 rfl 0 rfl ?_
  refine WL.iconst (v := 3) hy dL_law_1317 (by decide) ?_
  refine WL.iadd hy dL_law_1318 ?_
  refine WL.as (congrArg (fun z => Value.int z :: _) (show nI i + 3 = nI (i + 3) from nI_add i 3)) ?_
  refine WL.sld hy (vp_in_nI (by omega) (by omega)) dL_law_1319 ?_
  refine WL.as (congrArg (fun z => Value.int z :: _) (show yX Y (nI (i + 3)).toNatClampNeg = yX Y (i + 3) by rw [nI_clamp (show i + 3 < 2 ^ 31 by omega)])) ?_
  refine WL.aload_n hy dL_law_1320 rfl 3 rfl ?_
  refine WL.iload_n hy dL_law_1321 rfl 0 rfl ?_
  refine WL.iconst (v := 4) hy dL_law_1322 (by decide) ?_
  refine WL.iadd hy dL_law_1323 ?_
  refine WL.as (congrArg (fun z => Value.int z :: _) (show nI i + 4 = nI (i + 4) from nI_add i 4)) ?_
  refine WL.sld hy (vp_in_nI (by omega) (by omega)) dL_law_1324 ?_
  refine WL.as (congrArg (fun z => Value.int z :: _) (show yX Y (nI (i + 4)).toNatClampNeg = yX Y (i + 4) by rw [nI_clamp (show i + 4 < 2 ^ 31 by omega)])) ?_
  refine WL.aload_n hy dL_law_1325 rfl 3 rfl ?_
  refine WL.iload_n hy dL_law_1326 rfl 0 rfl ?_
  refine WL.iconst (v := 5) hy dL_law_1327 (by decide) ?_
  refine WL.iadd hy dL_law_1328 ?_
  refine WL.as (congrArg (fun z => Value.int z :: _) (show nI i + 5 = nI (i + 5) from nI_add i 5)) ?_
  refine WL.sld hy (vp_in_nI (by omega) (by omega)) dL_law_1329 ?_
  refine WL.as (congrArg (fun z => Value.int z :: _) (show yX Y (nI (i + 5)).toNatClampNeg = yX Y (i + 5) by rw [nI_clamp (show i + 5 < 2 ^ 31 by omega)])) ?_
  obtain ⟨PC, PM, hC, hM, hE⟩ := op_shift V (VMo V ad) κ μ hR (yX Y (i + 1)) (yX Y (i + 2)) (yX Y (i + 3)) (yX Y (i + 4)) (yX Y (i + 5))
  refine WL.callC (st := []) [.int (yX Y (i + 1)), .int (yX Y (i + 2)), .int (yX Y (i + 3)), .int (yX Y (i + 4)), .int (yX Y (i + 5))] hy hC okX10_shift lmL_165 rfl rfl rfl rfl (Nat.le_of_ble_eq_true rfl) dL_law_1330 (fun r1 κ1 g1 => ?_)
  obtain ⟨v1, rfl, h1⟩ := g1
  show WL V ad Y κ1 μ 1333 [(3, .int (nI i)), (2, rf (VMo V ad) 0), (1, rf V 0), (0, rb Y)] [.int v1]
  refine WL.aload_n hy dL_law_1333 rfl 1 rfl ?_
  refine WL.aload_n hy dL_law_1334 rfl 3 rfl ?_
  refine WL.iload_n hy dL_law_1335 rfl 0 rfl ?_
  refine WL.iconst (v := 1) hy dL_law_1336 (by decide) ?_
  refine WL.iadd hy dL_law_1337 ?_
  refine WL.as (congrArg (fun z => Value.int z :: _) (show nI i + 1 = nI (i + 1) from nI_add i 1)) ?_
  refine WL.sld hy (vp_in_nI (by omega) (by omega)) dL_law_1338 ?_
  refine WL.as (congrArg (fun z => Value.int z :: _) (show yX Y (nI (i + 1)).toNatClampNeg = yX Y (i + 1) by rw [nI_clamp (show i + 1 < 2 ^ 31 by omega)])) ?_
  refine WL.aload_n hy dL_law_1339 rfl 3 rfl ?_
  refine WL.iload_n hy dL_law_1340 rfl 0 rfl ?_
  refine WL.iconst (v := 2) hy dL_law_1341 (by decide) ?_
  refine WL.iadd hy dL_law_1342 ?_
  refine WL.as (congrArg (fun z => Value.int z :: _) (show nI i + 2 = nI (i + 2) from nI_add i 2)) ?_
  refine WL.sld hy (vp_in_nI (by omega) (by omega)) dL_law_1343 ?_
  refine WL.as (congrArg (fun z => Value.int z :: _) (show yX Y (nI (i + 2)).toNatClampNeg = yX Y (i + 2) by rw [nI_clamp (show i + 2 < 2 ^ 31 by omega)])) ?_
  refine WL.aload_n hy dL_law_1344 rfl 3 rfl ?_
  refine WL.iload_n hy dL_law_1345 rfl 0 rfl ?_
  refine WL.iconst (v := 3) hy dL_law_1346 (by decide) ?_
  refine WL.iadd hy dL_law_1347 ?_
  refine WL.as (congrArg (fun z => Value.int z :: _) (show nI i + 3 = nI (i + 3) from nI_add i 3)) ?_
  refine WL.sld hy (vp_in_nI (by omega) (by omega)) dL_law_1348 ?_
  refine WL.as (congrArg (fun z => Value.int z :: _) (show yX Y (nI (i + 3)).toNatClampNeg = yX Y (i + 3) by rw [nI_clamp (show i + 3 < 2 ^ 31 by omega)])) ?_
  refine WL.aload_n hy dL_law_1349 rfl 3 rfl ?_
  refine WL.iload_n hy dL_law_1350 rfl 0 rfl ?_
  refine WL.iconst (v := 4) hy dL_law_1351 (by decide) ?_
  refine WL.iadd hy dL_law_1352 ?_
  refine WL.as (congrArg (fun z => Value.int z :: _) (show nI i + 4 = nI (i + 4) from nI_add i 4)) ?_
  refine WL.sld hy (vp_in_nI (by omega) (by omega)) dL_law_1353 ?_
  refine WL.as (congrArg (fun z => Value.int z :: _) (show yX Y (nI (i + 4)).toNatClampNeg = yX Y (i + 4) by rw [nI_clamp (show i + 4 < 2 ^ 31 by omega)])) ?_
  refine WL.aload_n hy dL_law_1354 rfl 3 rfl ?_
  refine WL.iload_n hy dL_law_1355 rfl 0 rfl ?_
  refine WL.iconst (v := 5) hy dL_law_1356 (by decide) ?_
  refine WL.iadd hy dL_law_1357 ?_
  refine WL.as (congrArg (fun z => Value.int z :: _) (show nI i + 5 = nI (i + 5) from nI_add i 5)) ?_
  refine WL.sld hy (vp_in_nI (by omega) (by omega)) dL_law_1358 ?_
  refine WL.as (congrArg (fun z => Value.int z :: _) (show yX Y (nI (i + 5)).toNatClampNeg = yX Y (i + 5) by rw [nI_clamp (show i + 5 < 2 ^ 31 by omega)])) ?_
  refine WL.callM (st := [.int v1]) [.int (yX Y (i + 1)), .int (yX Y (i + 2)), .int (yX Y (i + 3)), .int (yX Y (i + 4)), .int (yX Y (i + 5))] hy hM okX11_shift lmL_169 rfl rfl rfl rfl (Nat.le_of_ble_eq_true rfl) dL_law_1359 (fun r2 μ1 g2 => ?_)
  obtain ⟨v2, rfl, h2⟩ := g2
  obtain ⟨he, hR1⟩ := hE v1 κ1 v2 μ1 h1 h2
  show WL V ad Y κ1 μ1 1362 [(3, .int (nI i)), (2, rf (VMo V ad) 0), (1, rf V 0), (0, rb Y)] [.int v2, .int v1]
  refine WL.icmp_eq (tgt := 1423) hy dL_law_1362 (by decide) he ?_
  exact hnext κ1 μ1 hR1
set_option maxHeartbeats 1000000 in
theorem lc_37 (V : Vt) (ad : Nat → Nat) (Y : Yt) (hy : OkL V Y) (κ μ : Sg) (hR : REL V κ μ) (i : Nat) (hi : i + 6 ≤ yL Y) (hnext : ∀ κ' μ' : Sg, REL V κ' μ' → WL V ad Y κ' μ' 1423 [(3, .int (nI i)), (2, rf (VMo V ad) 0), (1, rf V 0), (0, rb Y)] []) : WL V ad Y κ μ 1367 [(3, .int (nI i)), (2, rf (VMo V ad) 0), (1, rf V 0), (0, rb Y)] [] := by
  have h3072 := yL_le hy
  refine WL.aload_n hy dL_law_1367 rfl 2 rfl ?_
  refine WL.aload_n hy dL_law_1368 rfl 3 rfl ?_
  refine WL.iload_n hy dL_law_1369 rfl 0 rfl ?_
  refine WL.iconst (v := 1) hy dL_law_1370 (by decide) ?_
  refine WL.iadd hy dL_law_1371 ?_
  refine WL.as (congrArg (fun z => Value.int z :: _) (show nI i + 1 = nI (i + 1) from nI_add i 1)) ?_
  refine WL.sld hy (vp_in_nI (by omega) (by omega)) dL_law_1372 ?_
  refine WL.as (congrArg (fun z => Value.int z :: _) (show yX Y (nI (i + 1)).toNatClampNeg = yX Y (i + 1) by rw [nI_clamp (show i + 1 < 2 ^ 31 by omega)])) ?_
  refine WL.aload_n hy dL_law_1373 rfl 3 rfl ?_
  refine WL.iload_n hy dL_law_1374 rfl 0 rfl ?_
  refine WL.iconst (v := 2) hy dL_law_1375 (by decide) ?_
  refine WL.iadd hy dL_law_1376 ?_
  refine WL.as (congrArg (fun z => Value.int z :: _) (show nI i + 2 = nI (i + 2) from nI_add i 2)) ?_
  refine WL.sld hy (vp_in_nI (by omega) (by omega)) dL_law_1377 ?_
  refine WL.as (congrArg (fun z => Value.int z :: _) (show yX Y (nI (i + 2)).toNatClampNeg = yX Y (i + 2) by rw [nI_clamp (show i + 2 < 2 ^ 31 by omega)])) ?_
  obtain ⟨PC, PM, hC, hM, hE⟩ := op_taken V (VMo V ad) κ μ hR (yX Y (i + 1)) (yX Y (i + 2))
  refine WL.callC (st := []) [.int (yX Y (i + 1)), .int (yX Y (i + 2))] hy hC okX10_taken lmL_170 rfl rfl rfl rfl (Nat.le_of_ble_eq_true rfl) dL_law_1378 (fun r1 κ1 g1 => ?_)
  obtain ⟨v1, rfl, h1⟩ := g1
  show WL V ad Y κ1 μ 1381 [(3, .int (nI i)), (2, rf (VMo V ad) 0), (1, rf V 0), (0, rb Y)] [.int v1]
  refine WL.aload_n hy dL_law_1381 rfl 1 rfl ?_
  refine WL.aload_n hy dL_law_1382 rfl 3 rfl ?_
  refine WL.iload_n hy dL_law_1383 rfl 0 rfl ?_
  refine WL.iconst (v := 1) hy dL_law_1384 (by decide) ?_
  refine WL.iadd hy dL_law_1385 ?_
  refine WL.as (congrArg (fun z => Value.int z :: _) (show nI i + 1 = nI (i + 1) from nI_add i 1)) ?_
  refine WL.sld hy (vp_in_nI (by omega) (by omega)) dL_law_1386 ?_
  refine WL.as (congrArg (fun z => Value.int z :: _) (show yX Y (nI (i + 1)).toNatClampNeg = yX Y (i + 1) by rw [nI_clamp (show i + 1 < 2 ^ 31 by omega)])) ?_
  refine WL.aload_n hy dL_law_1387 rfl 3 rfl ?_
  refine WL.iload_n hy dL_law_1388 rfl 0 rfl ?_
  refine WL.iconst (v := 2) hy dL_law_1389 (by decide) ?_
  refine WL.iadd hy dL_law_1390 ?_
  refine WL.as (congrArg (fun z => Value.int z :: _) (show nI i + 2 = nI (i + 2) from nI_add i 2)) ?_
  refine WL.sld hy (vp_in_nI (by omega) (by omega)) dL_law_1391 ?_
  refine WL.as (congrArg (fun z => Value.int z :: _) (show yX Y (nI (i + 2)).toNatClampNeg = yX Y (i + 2) by rw [nI_clamp (show i + 2 < 2 ^ 31 by omega)])) ?_
  refine WL.callM (st := [.int v1]) [.int (yX Y (i + 1)), .int (yX Y (i + 2))] hy hM okX11_taken lmL_173 rfl rfl rfl rfl (Nat.le_of_ble_eq_true rfl) dL_law_1392 (fun r2 μ1 g2 => ?_)
  obtain ⟨v2, rfl, h2⟩ := g2
  obtain ⟨he, hR1⟩ := hE v1 κ1 v2 μ1 h1 h2
  show WL V ad Y κ1 μ1 1395 [(3, .int (nI i)), (2, rf (VMo V ad) 0), (1, rf V 0), (0, rb Y)] [.int v2, .int v1]
  refine WL.icmp_eq (tgt := 1423) hy dL_law_1395 (by decide) he ?_
  exact hnext κ1 μ1 hR1
set_option maxHeartbeats 1000000 in
theorem lc_38 (V : Vt) (ad : Nat → Nat) (Y : Yt) (hy : OkL V Y) (κ μ : Sg) (hR : REL V κ μ) (i : Nat) (hi : i + 6 ≤ yL Y) (hnext : ∀ κ' μ' : Sg, REL V κ' μ' → WL V ad Y κ' μ' 1423 [(3, .int (nI i)), (2, rf (VMo V ad) 0), (1, rf V 0), (0, rb Y)] []) : WL V ad Y κ μ 1400 [(3, .int (nI i)), (2, rf (VMo V ad) 0), (1, rf V 0), (0, rb Y)] [] := by
  have h3072 := yL_le hy
  refine WL.aload_n hy dL_law_1400 rfl 2 rfl ?_
  refine WL.aload_n hy dL_law_1401 rfl 3 rfl ?_
  refine WL.iload_n hy dL_law_1402 rfl 0 rfl ?_
  refine WL.iconst (v := 1) hy dL_law_1403 (by decide) ?_
  refine WL.iadd hy dL_law_1404 ?_
  refine WL.as (congrArg (fun z => Value.int z :: _) (show nI i + 1 = nI (i + 1) from nI_add i 1)) ?_
  refine WL.sld hy (vp_in_nI (by omega) (by omega)) dL_law_1405 ?_
  refine WL.as (congrArg (fun z => Value.int z :: _) (show yX Y (nI (i + 1)).toNatClampNeg = yX Y (i + 1) by rw [nI_clamp (show i + 1 < 2 ^ 31 by omega)])) ?_
  obtain ⟨PC, PM, hC, hM, hE⟩ := op_count V (VMo V ad) κ μ hR (yX Y (i + 1))
  refine WL.callC (st := []) [.int (yX Y (i + 1))] hy hC okX10_count lmL_174 rfl rfl rfl rfl (Nat.le_of_ble_eq_true rfl) dL_law_1406 (fun r1 κ1 g1 => ?_)
  obtain ⟨v1, rfl, h1⟩ := g1
  show WL V ad Y κ1 μ 1409 [(3, .int (nI i)), (2, rf (VMo V ad) 0), (1, rf V 0), (0, rb Y)] [.int v1]
  refine WL.aload_n hy dL_law_1409 rfl 1 rfl ?_
  refine WL.aload_n hy dL_law_1410 rfl 3 rfl ?_
  refine WL.iload_n hy dL_law_1411 rfl 0 rfl ?_
  refine WL.iconst (v := 1) hy dL_law_1412 (by decide) ?_
  refine WL.iadd hy dL_law_1413 ?_
  refine WL.as (congrArg (fun z => Value.int z :: _) (show nI i + 1 = nI (i + 1) from nI_add i 1)) ?_
  refine WL.sld hy (vp_in_nI (by omega) (by omega)) dL_law_1414 ?_
  refine WL.as (congrArg (fun z => Value.int z :: _) (show yX Y (nI (i + 1)).toNatClampNeg = yX Y (i + 1) by rw [nI_clamp (show i + 1 < 2 ^ 31 by omega)])) ?_
  refine WL.callM (st := [.int v1]) [.int (yX Y (i + 1))] hy hM okX11_count lmL_177 rfl rfl rfl rfl (Nat.le_of_ble_eq_true rfl) dL_law_1415 (fun r2 μ1 g2 => ?_)
  obtain ⟨v2, rfl, h2⟩ := g2
  obtain ⟨he, hR1⟩ := hE v1 κ1 v2 μ1 h1 h2
  show WL V ad Y κ1 μ1 1418 [(3, .int (nI i)), (2, rf (VMo V ad) 0), (1, rf V 0), (0, rb Y)] [.int v2, .int v1]
  refine WL.icmp_eq (tgt := 1423) hy dL_law_1418 (by decide) he ?_
  exact hnext κ1 μ1 hR1
set_option maxHeartbeats 1000000 in
theorem l_switch (V : Vt) (ad : Nat → Nat) (Y : Yt) (hy : OkL V Y) (κ μ : Sg) (hR : REL V κ μ) (i : Nat) (hi : i + 6 ≤ yL Y) (hnext : ∀ κ' μ' : Sg, REL V κ' μ' → WL V ad Y κ' μ' 1423 [(3, .int (nI i)), (2, rf (VMo V ad) 0), (1, rf V 0), (0, rb Y)] []) (x : Int32) (hx : x = yX Y i &&& 63) : WL V ad Y κ μ 33 [(3, .int (nI i)), (2, rf (VMo V ad) 0), (1, rf V 0), (0, rb Y)] [.int x] := by
  have h3072 := yL_le hy
  obtain ⟨k, hk, hxk⟩ : ∃ k : Nat, k < 64 ∧ x = nI k := by
    have h9 : vp_in (yX Y i &&& 63) 64 := pk_andIn (yX Y i) 6 rfl (by decide)
    rw [vp_in_iff] at h9
    exact ⟨nn x, by rw [hx]; have h8 := nn_int h9.1; have h7 := h9.2; show nn (yX Y i &&& 63) < 64; omega, by rw [hx]; exact (nI_nn h9.1).symm⟩
  subst hxk
  have hkI : (nI k).toInt = (k : Int) := nI_c (by omega)
  by_cases e0 : k = 0
  · subst e0
    exact WL.tableIn (off := 171) (tgt := 204) hy dL_law_33 (by decide) (by decide) (by decide) (by decide) (lc_0 V ad Y hy κ μ hR i hi hnext)
  by_cases e1 : k = 1
  · subst e1
    exact WL.tableIn (off := 194) (tgt := 227) hy dL_law_33 (by decide) (by decide) (by decide) (by decide) (lc_1 V ad Y hy κ μ hR i hi hnext)
  by_cases e2 : k = 2
  · subst e2
    exact WL.tableIn (off := 237) (tgt := 270) hy dL_law_33 (by decide) (by decide) (by decide) (by decide) (lc_2 V ad Y hy κ μ hR i hi hnext)
  by_cases e3 : k = 3
  · subst e3
    exact WL.tableIn (off := 280) (tgt := 313) hy dL_law_33 (by decide) (by decide) (by decide) (by decide) (lc_3 V ad Y hy κ μ hR i hi hnext)
  by_cases e4 : k = 4
  · subst e4
    exact WL.tableIn (off := 313) (tgt := 346) hy dL_law_33 (by decide) (by decide) (by decide) (by decide) (lc_4 V ad Y hy κ μ hR i hi hnext)
  by_cases e5 : k = 5
  · subst e5
    exact WL.tableIn (off := 336) (tgt := 369) hy dL_law_33 (by decide) (by decide) (by decide) (by decide) (lc_5 V ad Y hy κ μ hR i hi hnext)
  by_cases e6 : k = 6
  · subst e6
    exact WL.tableIn (off := 349) (tgt := 382) hy dL_law_33 (by decide) (by decide) (by decide) (by decide) (lc_6 V ad Y hy κ μ hR i hi hnext)
  by_cases e7 : k = 7
  · subst e7
    exact WL.tableIn (off := 372) (tgt := 405) hy dL_law_33 (by decide) (by decide) (by decide) (by decide) (lc_7 V ad Y hy κ μ hR i hi hnext)
  by_cases e8 : k = 8
  · subst e8
    exact WL.tableIn (off := 415) (tgt := 448) hy dL_law_33 (by decide) (by decide) (by decide) (by decide) (lc_8 V ad Y hy κ μ hR i hi hnext)
  by_cases e9 : k = 9
  · subst e9
    exact WL.tableIn (off := 448) (tgt := 481) hy dL_law_33 (by decide) (by decide) (by decide) (by decide) (lc_9 V ad Y hy κ μ hR i hi hnext)
  by_cases e10 : k = 10
  · subst e10
    exact WL.tableIn (off := 481) (tgt := 514) hy dL_law_33 (by decide) (by decide) (by decide) (by decide) (lc_10 V ad Y hy κ μ hR i hi hnext)
  by_cases e11 : k = 11
  · subst e11
    exact WL.tableIn (off := 504) (tgt := 537) hy dL_law_33 (by decide) (by decide) (by decide) (by decide) (lc_11 V ad Y hy κ μ hR i hi hnext)
  by_cases e12 : k = 12
  · subst e12
    exact WL.tableIn (off := 537) (tgt := 570) hy dL_law_33 (by decide) (by decide) (by decide) (by decide) (lc_12 V ad Y hy κ μ hR i hi hnext)
  by_cases e13 : k = 13
  · subst e13
    exact WL.tableIn (off := 570) (tgt := 603) hy dL_law_33 (by decide) (by decide) (by decide) (by decide) (lc_13 V ad Y hy κ μ hR i hi hnext)
  by_cases e14 : k = 14
  · subst e14
    exact WL.tableIn (off := 603) (tgt := 636) hy dL_law_33 (by decide) (by decide) (by decide) (by decide) (lc_14 V ad Y hy κ μ hR i hi hnext)
  by_cases e15 : k = 15
  · subst e15
    exact WL.tableIn (off := 636) (tgt := 669) hy dL_law_33 (by decide) (by decide) (by decide) (by decide) (lc_15 V ad Y hy κ μ hR i hi hnext)
  by_cases e16 : k = 16
  · subst e16
    exact WL.tableIn (off := 670) (tgt := 703) hy dL_law_33 (by decide) (by decide) (by decide) (by decide) (lc_16 V ad Y hy κ μ hR i hi hnext)
  by_cases e17 : k = 17
  · subst e17
    exact WL.tableIn (off := 703) (tgt := 736) hy dL_law_33 (by decide) (by decide) (by decide) (by decide) (lc_17 V ad Y hy κ μ hR i hi hnext)
  by_cases e18 : k = 18
  · subst e18
    exact WL.tableIn (off := 746) (tgt := 779) hy dL_law_33 (by decide) (by decide) (by decide) (by decide) (lc_18 V ad Y hy κ μ hR i hi hnext)
  by_cases e19 : k = 19
  · subst e19
    exact WL.tableIn (off := 789) (tgt := 822) hy dL_law_33 (by decide) (by decide) (by decide) (by decide) (lc_19 V ad Y hy κ μ hR i hi hnext)
  by_cases e20 : k = 20
  · subst e20
    exact WL.tableIn (off := 822) (tgt := 855) hy dL_law_33 (by decide) (by decide) (by decide) (by decide) (lc_20 V ad Y hy κ μ hR i hi hnext)
  by_cases e21 : k = 21
  · subst e21
    exact WL.tableIn (off := 865) (tgt := 898) hy dL_law_33 (by decide) (by decide) (by decide) (by decide) (lc_21 V ad Y hy κ μ hR i hi hnext)
  by_cases e22 : k = 22
  · subst e22
    exact WL.tableIn (off := 878) (tgt := 911) hy dL_law_33 (by decide) (by decide) (by decide) (by decide) (lc_22 V ad Y hy κ μ hR i hi hnext)
  by_cases e23 : k = 23
  · subst e23
    exact WL.tableIn (off := 901) (tgt := 934) hy dL_law_33 (by decide) (by decide) (by decide) (by decide) (lc_23 V ad Y hy κ μ hR i hi hnext)
  by_cases e24 : k = 24
  · subst e24
    exact WL.tableIn (off := 924) (tgt := 957) hy dL_law_33 (by decide) (by decide) (by decide) (by decide) (lc_24 V ad Y hy κ μ hR i hi hnext)
  by_cases e25 : k = 25
  · subst e25
    exact WL.tableIn (off := 947) (tgt := 980) hy dL_law_33 (by decide) (by decide) (by decide) (by decide) (lc_25 V ad Y hy κ μ hR i hi hnext)
  by_cases e26 : k = 26
  · subst e26
    exact WL.tableIn (off := 960) (tgt := 993) hy dL_law_33 (by decide) (by decide) (by decide) (by decide) (lc_26 V ad Y hy κ μ hR i hi hnext)
  by_cases e27 : k = 27
  · subst e27
    exact WL.tableIn (off := 973) (tgt := 1006) hy dL_law_33 (by decide) (by decide) (by decide) (by decide) (lc_27 V ad Y hy κ μ hR i hi hnext)
  by_cases e28 : k = 28
  · subst e28
    exact WL.tableIn (off := 986) (tgt := 1019) hy dL_law_33 (by decide) (by decide) (by decide) (by decide) (lc_28 V ad Y hy κ μ hR i hi hnext)
  by_cases e29 : k = 29
  · subst e29
    exact WL.tableIn (off := 999) (tgt := 1032) hy dL_law_33 (by decide) (by decide) (by decide) (by decide) (lc_29 V ad Y hy κ μ hR i hi hnext)
  by_cases e30 : k = 30
  · subst e30
    exact WL.tableIn (off := 1022) (tgt := 1055) hy dL_law_33 (by decide) (by decide) (by decide) (by decide) (lc_30 V ad Y hy κ μ hR i hi hnext)
  by_cases e31 : k = 31
  · subst e31
    exact WL.tableIn (off := 1065) (tgt := 1098) hy dL_law_33 (by decide) (by decide) (by decide) (by decide) (lc_31 V ad Y hy κ μ hR i hi hnext)
  by_cases e32 : k = 32
  · subst e32
    exact WL.tableIn (off := 1088) (tgt := 1121) hy dL_law_33 (by decide) (by decide) (by decide) (by decide) (lc_32 V ad Y hy κ μ hR i hi hnext)
  by_cases e33 : k = 33
  · subst e33
    exact WL.tableIn (off := 1121) (tgt := 1154) hy dL_law_33 (by decide) (by decide) (by decide) (by decide) (lc_33 V ad Y hy κ μ hR i hi hnext)
  by_cases e34 : k = 34
  · subst e34
    exact WL.tableIn (off := 1164) (tgt := 1197) hy dL_law_33 (by decide) (by decide) (by decide) (by decide) (lc_34 V ad Y hy κ μ hR i hi hnext)
  by_cases e35 : k = 35
  · subst e35
    exact WL.tableIn (off := 1237) (tgt := 1270) hy dL_law_33 (by decide) (by decide) (by decide) (by decide) (lc_35 V ad Y hy κ μ hR i hi hnext)
  by_cases e36 : k = 36
  · subst e36
    exact WL.tableIn (off := 1271) (tgt := 1304) hy dL_law_33 (by decide) (by decide) (by decide) (by decide) (lc_36 V ad Y hy κ μ hR i hi hnext)
  by_cases e37 : k = 37
  · subst e37
    exact WL.tableIn (off := 1334) (tgt := 1367) hy dL_law_33 (by decide) (by decide) (by decide) (by decide) (lc_37 V ad Y hy κ μ hR i hi hnext)
  by_cases e38 : k = 38
  · subst e38
    exact WL.tableIn (off := 1367) (tgt := 1400) hy dL_law_33 (by decide) (by decide) (by decide) (by decide) (lc_38 V ad Y hy κ μ hR i hi hnext)
  refine WL.tableOut (tgt := 1423) hy dL_law_33 (Or.inr (by rw [hkI]; omega)) (by decide) ?_
  exact hnext κ μ hR
set_option maxHeartbeats 1000000 in
theorem l_loop (V : Vt) (ad : Nat → Nat) (Y : Yt) (hy : OkL V Y) : ∀ (u i : Nat) (κ μ : Sg), yL Y ≤ i + 6 * u → i ≤ yL Y + 6 → REL V κ μ → WL V ad Y κ μ 18 [(3, .int (nI i)), (2, rf (VMo V ad) 0), (1, rf V 0), (0, rb Y)] [] := by
  have h3072 := yL_le hy
  intro u
  induction u with
  | zero =>
    intro i κ μ hu hi hR
    have hiI : (nI i).toInt = (i : Int) := nI_c (by omega)
    have hLI : (nI (yL Y)).toInt = (yL Y : Int) := nI_c (by omega)
    refine WL.iload_n hy dL_law_18 rfl 0 rfl ?_
    refine WL.aload_n hy dL_law_19 rfl 3 rfl ?_
    refine WL.slen hy dL_law_20 ?_
    refine WL.bipush (v := 6) hy dL_law_21 (by decide) ?_
    refine WL.isub hy dL_law_23 ?_
    have hs : (nI (yL Y) - 6).toInt = (yL Y : Int) - 6 := by rw [i_sub (by rw [hLI, tI_6]; omega) (by rw [hLI, tI_6]; omega), hLI, tI_6]
    refine WL.icmp_gt (tgt := 1429) hy dL_law_24 (by decide) (fun c => ?_) (fun c => ?_)
    · refine WL.iconst (v := 1) hy dL_law_1429 (by decide) ?_
      exact WL.end1 hy dL_law_1430
    · exfalso
      rw [i_lt, hs, hiI] at c
      omega
  | succ u ih =>
    intro i κ μ hu hi hR
    have hiI : (nI i).toInt = (i : Int) := nI_c (by omega)
    have hLI : (nI (yL Y)).toInt = (yL Y : Int) := nI_c (by omega)
    refine WL.iload_n hy dL_law_18 rfl 0 rfl ?_
    refine WL.aload_n hy dL_law_19 rfl 3 rfl ?_
    refine WL.slen hy dL_law_20 ?_
    refine WL.bipush (v := 6) hy dL_law_21 (by decide) ?_
    refine WL.isub hy dL_law_23 ?_
    have hs : (nI (yL Y) - 6).toInt = (yL Y : Int) - 6 := by rw [i_sub (by rw [hLI, tI_6]; omega) (by rw [hLI, tI_6]; omega), hLI, tI_6]
    refine WL.icmp_gt (tgt := 1429) hy dL_law_24 (by decide) (fun c => ?_) (fun c => ?_)
    · refine WL.iconst (v := 1) hy dL_law_1429 (by decide) ?_
      exact WL.end1 hy dL_law_1430
    · have hi6 : i + 6 ≤ yL Y := by
        rw [i_lt, hs, hiI] at c
        omega
      refine WL.aload_n hy dL_law_27 rfl 3 rfl ?_
      refine WL.iload_n hy dL_law_28 rfl 0 rfl ?_
      refine WL.sld hy (vp_in_nI (by omega) (by omega)) dL_law_29 ?_
      refine WL.as (congrArg (fun z => Value.int z :: _) (show yX Y (nI i).toNatClampNeg = yX Y i by rw [nI_clamp (show i < 2 ^ 31 by omega)])) ?_
      refine WL.bipush (v := 63) hy dL_law_30 (by decide) ?_
      refine WL.iand hy dL_law_32 ?_
      refine l_switch V ad Y hy κ μ hR i hi6 (fun κ' μ' hR' => ?_) _ rfl
      refine WL.iinc (v := nI (i + 6)) (lo' := [(3, .int (nI (i + 6))), (2, rf (VMo V ad) 0), (1, rf V 0), (0, rb Y)]) hy dL_law_1423 0 rfl (nI_add i 6) (by decide) rfl ?_
      refine WL.goto (tgt := 18) hy dL_law_1426 (by decide) ?_
      exact ih (i + 6) κ' μ' (by omega) (by omega) hR'
