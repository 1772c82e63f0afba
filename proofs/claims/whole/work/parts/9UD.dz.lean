section DZ
def mL_law : ev_M := (yL_law, cL_law, 7, some .boolean, [])
theorem lb_paper {G : ev_G} {D0 : Nat} {W : cw_W} {V : mo_W} {a b L i bc bs b' n' : Nat} {xs : Nat → Int32} {B : Int} {g : ev_H} {C S : mo_S} {Post : ev_P} (hE : ev_En G) (h4 : ev_En4 G D0) (hN : la_N G) (hb : b < G.2.1.heap.size) (hX : va_X b L xs G.2.1 G.2.1.heap) (hL : L ≤ 3072) (hi : i + 6 ≤ L) (hA : la_T G D0 W V a B g C S) (hB : B ≤ 8000000) (hbc : b' + 24 ≤ bc) (hbs : n' + 4120 ≤ bs) (k : ∀ (W2 : cw_W) (C2 S2 : mo_S) (g2 : ev_H), W2 0 0 = W 0 0 → la_T G D0 W2 V a (B + 2000) g2 C2 S2 → ev_V G 66 b' n' mL_law Post g2 2387 [some (.ref b), some (.ref (W 0 0)), some (.ref V.1), some (.ref a), some (.int (nI i)), none, none] []) : ev_V G 66 bc bs mL_law Post g 188 [some (.ref b), some (.ref (W 0 0)), some (.ref V.1), some (.ref a), some (.int (nI i)), none, none] [] := by
  obtain ⟨F, OL, hT, hD, hR, ha, ⟨f, hg⟩, h99, hcl⟩ := hA
  obtain ⟨Z, Q, mc, ms, hmc, hms, hc, hm, hZ, hfin⟩ := la_paper (V := V) hE h4 h99 hcl hB (xs (i + 1)) (xs (i + 2)) (xs (i + 3)) (xs (i + 4)) (xs (i + 5))
  refine ev_aload_n dL_law_188 rfl rfl ?_
  refine la_arg (jn := 1) hb hX hL hi (by decide) (by decide) dL_law_189 dL_law_190 dL_law_192 dL_law_193 dL_law_194 rfl rfl ?_
  refine la_arg (jn := 2) hb hX hL hi (by decide) (by decide) dL_law_195 dL_law_196 dL_law_198 dL_law_199 dL_law_200 rfl rfl ?_
  refine la_arg (jn := 3) hb hX hL hi (by decide) (by decide) dL_law_201 dL_law_202 dL_law_204 dL_law_205 dL_law_206 rfl rfl ?_
  refine la_arg (jn := 4) hb hX hL hi (by decide) (by decide) dL_law_207 dL_law_208 dL_law_210 dL_law_211 dL_law_212 rfl rfl ?_
  refine la_arg (jn := 5) hb hX hL hi (by decide) (by decide) dL_law_213 dL_law_214 dL_law_216 dL_law_217 dL_law_218 rfl rfl ?_
  refine ev_aload_n dL_law_219 rfl rfl ?_
  refine ev_callSH (d' := 65) (b := b' + (bc - b' - mc)) (k0 := n' + (bs - n' - ms)) (As := [.ref (W 0 0), .int (xs (i + 1)), .int (xs (i + 2)), .int (xs (i + 3)), .int (xs (i + 4)), .int (xs (i + 5)), .ref a]) (rest := []) dL_law_220 rfl kL_paper rfl lL_114 sL_paper (Nat.le_of_ble_eq_true rfl) (by decide) (wr_paper hE h4 hN hc (fun o W2 C2 z => (hZ o W2 C2 z).2) (Or.inr rfl) hT hg) (by omega) (by omega) (fun v g1 h => ?_) (fun e g1 h => by obtain ⟨o, W2, C2, k, f, h, -⟩ := h; cases h)
  refine ev_room (Nat.le_add_right b' _) (Nat.le_add_right n' _) ?_
  obtain ⟨o, W2, C2, y, f1, h, hz, hk, hT1, hK1, hg1⟩ := h
  cases h
  have hR1 := hR.cg (g2 := g1) (fun b hb => hK1 b (Or.inl hb) (fun z => ha (by rw [← z]; exact hb)))
  refine ev_istore (lv' := [some (.ref b), some (.ref (W 0 0)), some (.ref V.1), some (.ref a), some (.int (nI i)), some (.int y), none]) dL_law_223 (Nat.le_of_ble_eq_true rfl) rfl ?_
  refine ev_aload_n dL_law_225 rfl rfl ?_
  refine la_arg (jn := 1) hb hX hL hi (by decide) (by decide) dL_law_226 dL_law_227 dL_law_229 dL_law_230 dL_law_231 rfl rfl ?_
  refine la_arg (jn := 2) hb hX hL hi (by decide) (by decide) dL_law_232 dL_law_233 dL_law_235 dL_law_236 dL_law_237 rfl rfl ?_
  refine la_arg (jn := 3) hb hX hL hi (by decide) (by decide) dL_law_238 dL_law_239 dL_law_241 dL_law_242 dL_law_243 rfl rfl ?_
  refine la_arg (jn := 4) hb hX hL hi (by decide) (by decide) dL_law_244 dL_law_245 dL_law_247 dL_law_248 dL_law_249 rfl rfl ?_
  refine la_arg (jn := 5) hb hX hL hi (by decide) (by decide) dL_law_250 dL_law_251 dL_law_253 dL_law_254 dL_law_255 rfl rfl ?_
  refine la_mc (d' := 64) (As := [.int (xs (i + 1)), .int (xs (i + 2)), .int (xs (i + 3)), .int (xs (i + 4)), .int (xs (i + 5))]) (rest := []) hE dL_law_256 rfl kX12_paper rfl lL_119 iX12_paper vX12_paper rfl (Nat.le_of_ble_eq_true rfl) (by decide) hD hR1 hm (fun g2 r S2 hq hR2 hF2 => ?_)
  obtain ⟨C3, c1, c2, hf⟩ := hfin o W2 C2 r S2 hz hq
  obtain ⟨x, rfl, -⟩ := id hf
  have hT2 := (hT1.mdl hR2 hF2 ha ⟨_, hg1⟩).sc4 c1 c2
  have hg2 : g2 a = some (.inl (G.2.2.2 1, 1, .inr (.inl f1))) := (hF2 a ha).trans hg1
  obtain ⟨-, -, -, F2, OL2, hcl2⟩ := id hf
  have W2w := (hZ _ _ _ hz).1
  obtain ⟨q1, q2⟩ := la_eq (by decide) (la_d2 (by decide)) hk hf
  refine ev_istore (lv' := [some (.ref b), some (.ref (W 0 0)), some (.ref V.1), some (.ref a), some (.int (nI i)), some (.int y), some (.int x)]) dL_law_259 (Nat.le_of_ble_eq_true rfl) rfl ?_
  refine ev_aload_n dL_law_261 rfl rfl ?_
  refine la_mc (d' := 64) (As := []) (rest := []) hE dL_law_262 rfl kX12_thrown rfl lL_120 iX12_thrown vX12_thrown rfl (Nat.le_of_ble_eq_true rfl) (by decide) hD hR2 (c_X12_thrown hE).r (fun g3 r3 S3 h3 hR3 hF3 => ?_)
  obtain ⟨rfl, rfl⟩ := h3
  have hT3 := hT2.mdl hR3 hF3 ha ⟨_, hg2⟩
  have hg3 : g3 a = some (.inl (G.2.2.2 1, 1, .inr (.inl f1))) := (hF3 a ha).trans hg2
  have fin : ev_V G 66 b' n' mL_law Post g3 2387 [some (.ref b), some (.ref (W 0 0)), some (.ref V.1), some (.ref a), some (.int (nI i)), some (.int y), some (.int x)] [] := ev_weak (lv' := [some (.ref b), some (.ref (W 0 0)), some (.ref V.1), some (.ref a), some (.int (nI i)), none, none]) rfl (fun j v hj => by
    match j, hj with
    | 0, hj => exact hj
    | 1, hj => exact hj
    | 2, hj => exact hj
    | 3, hj => exact hj
    | 4, hj => exact hj
    | 5, hj => exact absurd (Option.some.inj hj) (by simp)
    | 6, hj => exact absurd (Option.some.inj hj) (by simp)
    | j + 7, hj => exact absurd hj (by simp)) (k W2 C3 _ g3 W2w.2 ⟨F2, OL2, hT3, hD, hR3, ha, ⟨_, hg3⟩, W2w.1.trans h99, hcl2⟩)
  refine ev_iload dL_law_265 rfl ?_
  refine ev_icmp_eq (tgt := 272) dL_law_267 (by decide) (fun c1 => ?_) (fun c1 => absurd q1 c1)
  refine ev_iload dL_law_272 rfl ?_
  refine ev_if_ne (tgt := 289) dL_law_274 (by decide) (fun _ => ?_) (fun c2 => ?_)
  · exact ev_goto (tgt := 2387) dL_law_289 (by decide) fin
  · refine ev_aload_n dL_law_277 rfl rfl ?_
    refine ev_iconst (v := 0) dL_law_278 (by decide) ?_
    refine ev_lald hE dL_law_279 hg3 (vp_in_nI (n := 0) (by decide) (by decide)) ?_
    refine ev_iload dL_law_280 rfl ?_
    refine ev_i2l dL_law_282 ?_
    refine ev_lcmp dL_law_283 ?_
    have e0 : f1 (0 : Int32).toNatClampNeg = x.toInt64 := q2 c2
    rw [e0, lg_same]
    exact ev_if_eq (tgt := 289) dL_law_284 (by decide) (fun _ => ev_goto (tgt := 2387) dL_law_289 (by decide) fin) (fun c3 => absurd rfl c3)
theorem lb_set {G : ev_G} {D0 : Nat} {W : cw_W} {V : mo_W} {a b L i bc bs b' n' : Nat} {xs : Nat → Int32} {B : Int} {g : ev_H} {C S : mo_S} {Post : ev_P} (hE : ev_En G) (h4 : ev_En4 G D0) (hN : la_N G) (hb : b < G.2.1.heap.size) (hX : va_X b L xs G.2.1 G.2.1.heap) (hL : L ≤ 3072) (hi : i + 6 ≤ L) (hA : la_T G D0 W V a B g C S) (hB : B ≤ 8000000) (hbc : b' + 24 ≤ bc) (hbs : n' + 4120 ≤ bs) (k : ∀ (W2 : cw_W) (C2 S2 : mo_S) (g2 : ev_H), W2 0 0 = W 0 0 → la_T G D0 W2 V a (B + 2000) g2 C2 S2 → ev_V G 66 b' n' mL_law Post g2 2387 [some (.ref b), some (.ref (W 0 0)), some (.ref V.1), some (.ref a), some (.int (nI i)), none, none] []) : ev_V G 66 bc bs mL_law Post g 292 [some (.ref b), some (.ref (W 0 0)), some (.ref V.1), some (.ref a), some (.int (nI i)), none, none] [] := by
  obtain ⟨F, OL, hT, hD, hR, ha, ⟨f, hg⟩, h99, hcl⟩ := hA
  obtain ⟨Z, Q, mc, ms, hmc, hms, hc, hm, hZ, hfin⟩ := la_set (V := V) hE h4 h99 hcl hB (xs (i + 1)) (xs (i + 2)) (xs (i + 3))
  refine ev_aload_n dL_law_292 rfl rfl ?_
  refine la_arg (jn := 1) hb hX hL hi (by decide) (by decide) dL_law_293 dL_law_294 dL_law_296 dL_law_297 dL_law_298 rfl rfl ?_
  refine la_arg (jn := 2) hb hX hL hi (by decide) (by decide) dL_law_299 dL_law_300 dL_law_302 dL_law_303 dL_law_304 rfl rfl ?_
  refine la_arg (jn := 3) hb hX hL hi (by decide) (by decide) dL_law_305 dL_law_306 dL_law_308 dL_law_309 dL_law_310 rfl rfl ?_
  refine ev_aload_n dL_law_311 rfl rfl ?_
  refine ev_callSH (d' := 65) (b := b' + (bc - b' - mc)) (k0 := n' + (bs - n' - ms)) (As := [.ref (W 0 0), .int (xs (i + 1)), .int (xs (i + 2)), .int (xs (i + 3)), .ref a]) (rest := []) dL_law_312 rfl kL_set rfl lL_124 sL_set (Nat.le_of_ble_eq_true rfl) (by decide) (wr_set hE h4 hN hc (fun o W2 C2 z => (hZ o W2 C2 z).2) (Or.inr rfl) hT hg) (by omega) (by omega) (fun v g1 h => ?_) (fun e g1 h => by obtain ⟨o, W2, C2, k, f, h, -⟩ := h; cases h)
  refine ev_room (Nat.le_add_right b' _) (Nat.le_add_right n' _) ?_
  obtain ⟨o, W2, C2, y, f1, h, hz, hk, hT1, hK1, hg1⟩ := h
  cases h
  have hR1 := hR.cg (g2 := g1) (fun b hb => hK1 b (Or.inl hb) (fun z => ha (by rw [← z]; exact hb)))
  refine ev_istore (lv' := [some (.ref b), some (.ref (W 0 0)), some (.ref V.1), some (.ref a), some (.int (nI i)), some (.int y), none]) dL_law_315 (Nat.le_of_ble_eq_true rfl) rfl ?_
  refine ev_aload_n dL_law_317 rfl rfl ?_
  refine la_arg (jn := 1) hb hX hL hi (by decide) (by decide) dL_law_318 dL_law_319 dL_law_321 dL_law_322 dL_law_323 rfl rfl ?_
  refine la_arg (jn := 2) hb hX hL hi (by decide) (by decide) dL_law_324 dL_law_325 dL_law_327 dL_law_328 dL_law_329 rfl rfl ?_
  refine la_arg (jn := 3) hb hX hL hi (by decide) (by decide) dL_law_330 dL_law_331 dL_law_333 dL_law_334 dL_law_335 rfl rfl ?_
  refine la_mc (d' := 64) (As := [.int (xs (i + 1)), .int (xs (i + 2)), .int (xs (i + 3))]) (rest := []) hE dL_law_336 rfl kX12_set rfl lL_127 iX12_set vX12_set rfl (Nat.le_of_ble_eq_true rfl) (by decide) hD hR1 hm (fun g2 r S2 hq hR2 hF2 => ?_)
  obtain ⟨C3, c1, c2, hf⟩ := hfin o W2 C2 r S2 hz hq
  obtain ⟨x, rfl, -⟩ := id hf
  have hT2 := (hT1.mdl hR2 hF2 ha ⟨_, hg1⟩).sc4 c1 c2
  have hg2 : g2 a = some (.inl (G.2.2.2 1, 1, .inr (.inl f1))) := (hF2 a ha).trans hg1
  obtain ⟨-, -, -, F2, OL2, hcl2⟩ := id hf
  have W2w := (hZ _ _ _ hz).1
  obtain ⟨q1, q2⟩ := la_eq (by decide) (la_d2 (by decide)) hk hf
  refine ev_istore (lv' := [some (.ref b), some (.ref (W 0 0)), some (.ref V.1), some (.ref a), some (.int (nI i)), some (.int y), some (.int x)]) dL_law_339 (Nat.le_of_ble_eq_true rfl) rfl ?_
  refine ev_aload_n dL_law_341 rfl rfl ?_
  refine la_mc (d' := 64) (As := []) (rest := []) hE dL_law_342 rfl kX12_thrown rfl lL_120 iX12_thrown vX12_thrown rfl (Nat.le_of_ble_eq_true rfl) (by decide) hD hR2 (c_X12_thrown hE).r (fun g3 r3 S3 h3 hR3 hF3 => ?_)
  obtain ⟨rfl, rfl⟩ := h3
  have hT3 := hT2.mdl hR3 hF3 ha ⟨_, hg2⟩
  have hg3 : g3 a = some (.inl (G.2.2.2 1, 1, .inr (.inl f1))) := (hF3 a ha).trans hg2
  have fin : ev_V G 66 b' n' mL_law Post g3 2387 [some (.ref b), some (.ref (W 0 0)), some (.ref V.1), some (.ref a), some (.int (nI i)), some (.int y), some (.int x)] [] := ev_weak (lv' := [some (.ref b), some (.ref (W 0 0)), some (.ref V.1), some (.ref a), some (.int (nI i)), none, none]) rfl (fun j v hj => by
    match j, hj with
    | 0, hj => exact hj
    | 1, hj => exact hj
    | 2, hj => exact hj
    | 3, hj => exact hj
    | 4, hj => exact hj
    | 5, hj => exact absurd (Option.some.inj hj) (by simp)
    | 6, hj => exact absurd (Option.some.inj hj) (by simp)
    | j + 7, hj => exact absurd hj (by simp)) (k W2 C3 _ g3 W2w.2 ⟨F2, OL2, hT3, hD, hR3, ha, ⟨_, hg3⟩, W2w.1.trans h99, hcl2⟩)
  refine ev_iload dL_law_345 rfl ?_
  refine ev_icmp_eq (tgt := 352) dL_law_347 (by decide) (fun c1 => ?_) (fun c1 => absurd q1 c1)
  refine ev_iload dL_law_352 rfl ?_
  refine ev_if_ne (tgt := 369) dL_law_354 (by decide) (fun _ => ?_) (fun c2 => ?_)
  · exact ev_goto (tgt := 2387) dL_law_369 (by decide) fin
  · refine ev_aload_n dL_law_357 rfl rfl ?_
    refine ev_iconst (v := 0) dL_law_358 (by decide) ?_
    refine ev_lald hE dL_law_359 hg3 (vp_in_nI (n := 0) (by decide) (by decide)) ?_
    refine ev_iload dL_law_360 rfl ?_
    refine ev_i2l dL_law_362 ?_
    refine ev_lcmp dL_law_363 ?_
    have e0 : f1 (0 : Int32).toNatClampNeg = x.toInt64 := q2 c2
    rw [e0, lg_same]
    exact ev_if_eq (tgt := 369) dL_law_364 (by decide) (fun _ => ev_goto (tgt := 2387) dL_law_369 (by decide) fin) (fun c3 => absurd rfl c3)
theorem lb_told {G : ev_G} {D0 : Nat} {W : cw_W} {V : mo_W} {a b L i bc bs b' n' : Nat} {xs : Nat → Int32} {B : Int} {g : ev_H} {C S : mo_S} {Post : ev_P} (hE : ev_En G) (h4 : ev_En4 G D0) (hN : la_N G) (hb : b < G.2.1.heap.size) (hX : va_X b L xs G.2.1 G.2.1.heap) (hL : L ≤ 3072) (hi : i + 6 ≤ L) (hA : la_T G D0 W V a B g C S) (hB : B ≤ 8000000) (hbc : b' + 24 ≤ bc) (hbs : n' + 4120 ≤ bs) (k : ∀ (W2 : cw_W) (C2 S2 : mo_S) (g2 : ev_H), W2 0 0 = W 0 0 → la_T G D0 W2 V a (B + 2000) g2 C2 S2 → ev_V G 66 b' n' mL_law Post g2 2387 [some (.ref b), some (.ref (W 0 0)), some (.ref V.1), some (.ref a), some (.int (nI i)), none, none] []) : ev_V G 66 bc bs mL_law Post g 372 [some (.ref b), some (.ref (W 0 0)), some (.ref V.1), some (.ref a), some (.int (nI i)), none, none] [] := by
  obtain ⟨F, OL, hT, hD, hR, ha, ⟨f, hg⟩, h99, hcl⟩ := hA
  obtain ⟨Z, Q, mc, ms, hmc, hms, hc, hm, hZ, hfin⟩ := la_told (V := V) hE h4 h99 hcl hB (xs (i + 1)) (xs (i + 2))
  refine ev_aload_n dL_law_372 rfl rfl ?_
  refine la_arg (jn := 1) hb hX hL hi (by decide) (by decide) dL_law_373 dL_law_374 dL_law_376 dL_law_377 dL_law_378 rfl rfl ?_
  refine la_arg (jn := 2) hb hX hL hi (by decide) (by decide) dL_law_379 dL_law_380 dL_law_382 dL_law_383 dL_law_384 rfl rfl ?_
  refine ev_aload_n dL_law_385 rfl rfl ?_
  refine ev_callSH (d' := 65) (b := b' + (bc - b' - mc)) (k0 := n' + (bs - n' - ms)) (As := [.ref (W 0 0), .int (xs (i + 1)), .int (xs (i + 2)), .ref a]) (rest := []) dL_law_386 rfl kL_told rfl lL_128 sL_told (Nat.le_of_ble_eq_true rfl) (by decide) (wr_told hE h4 hN hc (fun o W2 C2 z => (hZ o W2 C2 z).2) (Or.inr rfl) hT hg) (by omega) (by omega) (fun v g1 h => ?_) (fun e g1 h => by obtain ⟨o, W2, C2, k, f, h, -⟩ := h; cases h)
  refine ev_room (Nat.le_add_right b' _) (Nat.le_add_right n' _) ?_
  obtain ⟨o, W2, C2, y, f1, h, hz, hk, hT1, hK1, hg1⟩ := h
  cases h
  have hR1 := hR.cg (g2 := g1) (fun b hb => hK1 b (Or.inl hb) (fun z => ha (by rw [← z]; exact hb)))
  refine ev_istore (lv' := [some (.ref b), some (.ref (W 0 0)), some (.ref V.1), some (.ref a), some (.int (nI i)), some (.int y), none]) dL_law_389 (Nat.le_of_ble_eq_true rfl) rfl ?_
  refine ev_aload_n dL_law_391 rfl rfl ?_
  refine la_arg (jn := 1) hb hX hL hi (by decide) (by decide) dL_law_392 dL_law_393 dL_law_395 dL_law_396 dL_law_397 rfl rfl ?_
  refine la_arg (jn := 2) hb hX hL hi (by decide) (by decide) dL_law_398 dL_law_399 dL_law_401 dL_law_402 dL_law_403 rfl rfl ?_
  refine la_mc (d' := 64) (As := [.int (xs (i + 1)), .int (xs (i + 2))]) (rest := []) hE dL_law_404 rfl kX12_told rfl lL_131 iX12_told vX12_told rfl (Nat.le_of_ble_eq_true rfl) (by decide) hD hR1 hm (fun g2 r S2 hq hR2 hF2 => ?_)
  obtain ⟨C3, c1, c2, hf⟩ := hfin o W2 C2 r S2 hz hq
  obtain ⟨x, rfl, -⟩ := id hf
  have hT2 := (hT1.mdl hR2 hF2 ha ⟨_, hg1⟩).sc4 c1 c2
  have hg2 : g2 a = some (.inl (G.2.2.2 1, 1, .inr (.inl f1))) := (hF2 a ha).trans hg1
  obtain ⟨-, -, -, F2, OL2, hcl2⟩ := id hf
  have W2w := (hZ _ _ _ hz).1
  obtain ⟨q1, q2⟩ := la_eq (by decide) (la_d2 (by decide)) hk hf
  refine ev_istore (lv' := [some (.ref b), some (.ref (W 0 0)), some (.ref V.1), some (.ref a), some (.int (nI i)), some (.int y), some (.int x)]) dL_law_407 (Nat.le_of_ble_eq_true rfl) rfl ?_
  refine ev_aload_n dL_law_409 rfl rfl ?_
  refine la_mc (d' := 64) (As := []) (rest := []) hE dL_law_410 rfl kX12_thrown rfl lL_120 iX12_thrown vX12_thrown rfl (Nat.le_of_ble_eq_true rfl) (by decide) hD hR2 (c_X12_thrown hE).r (fun g3 r3 S3 h3 hR3 hF3 => ?_)
  obtain ⟨rfl, rfl⟩ := h3
  have hT3 := hT2.mdl hR3 hF3 ha ⟨_, hg2⟩
  have hg3 : g3 a = some (.inl (G.2.2.2 1, 1, .inr (.inl f1))) := (hF3 a ha).trans hg2
  have fin : ev_V G 66 b' n' mL_law Post g3 2387 [some (.ref b), some (.ref (W 0 0)), some (.ref V.1), some (.ref a), some (.int (nI i)), some (.int y), some (.int x)] [] := ev_weak (lv' := [some (.ref b), some (.ref (W 0 0)), some (.ref V.1), some (.ref a), some (.int (nI i)), none, none]) rfl (fun j v hj => by
    match j, hj with
    | 0, hj => exact hj
    | 1, hj => exact hj
    | 2, hj => exact hj
    | 3, hj => exact hj
    | 4, hj => exact hj
    | 5, hj => exact absurd (Option.some.inj hj) (by simp)
    | 6, hj => exact absurd (Option.some.inj hj) (by simp)
    | j + 7, hj => exact absurd hj (by simp)) (k W2 C3 _ g3 W2w.2 ⟨F2, OL2, hT3, hD, hR3, ha, ⟨_, hg3⟩, W2w.1.trans h99, hcl2⟩)
  refine ev_iload dL_law_413 rfl ?_
  refine ev_icmp_eq (tgt := 420) dL_law_415 (by decide) (fun c1 => ?_) (fun c1 => absurd q1 c1)
  refine ev_iload dL_law_420 rfl ?_
  refine ev_if_ne (tgt := 437) dL_law_422 (by decide) (fun _ => ?_) (fun c2 => ?_)
  · exact ev_goto (tgt := 2387) dL_law_437 (by decide) fin
  · refine ev_aload_n dL_law_425 rfl rfl ?_
    refine ev_iconst (v := 0) dL_law_426 (by decide) ?_
    refine ev_lald hE dL_law_427 hg3 (vp_in_nI (n := 0) (by decide) (by decide)) ?_
    refine ev_iload dL_law_428 rfl ?_
    refine ev_i2l dL_law_430 ?_
    refine ev_lcmp dL_law_431 ?_
    have e0 : f1 (0 : Int32).toNatClampNeg = x.toInt64 := q2 c2
    rw [e0, lg_same]
    exact ev_if_eq (tgt := 437) dL_law_432 (by decide) (fun _ => ev_goto (tgt := 2387) dL_law_437 (by decide) fin) (fun c3 => absurd rfl c3)
theorem lb_reel {G : ev_G} {D0 : Nat} {W : cw_W} {V : mo_W} {a b L i bc bs b' n' : Nat} {xs : Nat → Int32} {B : Int} {g : ev_H} {C S : mo_S} {Post : ev_P} (hE : ev_En G) (h4 : ev_En4 G D0) (hN : la_N G) (hb : b < G.2.1.heap.size) (hX : va_X b L xs G.2.1 G.2.1.heap) (hL : L ≤ 3072) (hi : i + 6 ≤ L) (hA : la_T G D0 W V a B g C S) (hB : B ≤ 8000000) (hbc : b' + 24 ≤ bc) (hbs : n' + 4120 ≤ bs) (k : ∀ (W2 : cw_W) (C2 S2 : mo_S) (g2 : ev_H), W2 0 0 = W 0 0 → la_T G D0 W2 V a (B + 2000) g2 C2 S2 → ev_V G 66 b' n' mL_law Post g2 2387 [some (.ref b), some (.ref (W 0 0)), some (.ref V.1), some (.ref a), some (.int (nI i)), none, none] []) : ev_V G 66 bc bs mL_law Post g 440 [some (.ref b), some (.ref (W 0 0)), some (.ref V.1), some (.ref a), some (.int (nI i)), none, none] [] := by
  obtain ⟨F, OL, hT, hD, hR, ha, ⟨f, hg⟩, h99, hcl⟩ := hA
  obtain ⟨Z, Q, mc, ms, hmc, hms, hc, hm, hZ, hfin⟩ := la_reel (V := V) hE h4 h99 hcl hB (xs (i + 1)) (xs (i + 2))
  refine ev_aload_n dL_law_440 rfl rfl ?_
  refine la_arg (jn := 1) hb hX hL hi (by decide) (by decide) dL_law_441 dL_law_442 dL_law_444 dL_law_445 dL_law_446 rfl rfl ?_
  refine la_arg (jn := 2) hb hX hL hi (by decide) (by decide) dL_law_447 dL_law_448 dL_law_450 dL_law_451 dL_law_452 rfl rfl ?_
  refine ev_aload_n dL_law_453 rfl rfl ?_
  refine ev_callSH (d' := 65) (b := b' + (bc - b' - mc)) (k0 := n' + (bs - n' - ms)) (As := [.ref (W 0 0), .int (xs (i + 1)), .int (xs (i + 2)), .ref a]) (rest := []) dL_law_454 rfl kL_reel rfl lL_132 sL_reel (Nat.le_of_ble_eq_true rfl) (by decide) (wr_reel hE h4 hN hc (fun o W2 C2 z => (hZ o W2 C2 z).2) (Or.inr rfl) hT hg) (by omega) (by omega) (fun v g1 h => ?_) (fun e g1 h => by obtain ⟨o, W2, C2, k, f, h, -⟩ := h; cases h)
  refine ev_room (Nat.le_add_right b' _) (Nat.le_add_right n' _) ?_
  obtain ⟨o, W2, C2, y, f1, h, hz, hk, hT1, hK1, hg1⟩ := h
  cases h
  have hR1 := hR.cg (g2 := g1) (fun b hb => hK1 b (Or.inl hb) (fun z => ha (by rw [← z]; exact hb)))
  refine ev_istore (lv' := [some (.ref b), some (.ref (W 0 0)), some (.ref V.1), some (.ref a), some (.int (nI i)), some (.int y), none]) dL_law_457 (Nat.le_of_ble_eq_true rfl) rfl ?_
  refine ev_aload_n dL_law_459 rfl rfl ?_
  refine la_arg (jn := 1) hb hX hL hi (by decide) (by decide) dL_law_460 dL_law_461 dL_law_463 dL_law_464 dL_law_465 rfl rfl ?_
  refine la_arg (jn := 2) hb hX hL hi (by decide) (by decide) dL_law_466 dL_law_467 dL_law_469 dL_law_470 dL_law_471 rfl rfl ?_
  refine la_mc (d' := 64) (As := [.int (xs (i + 1)), .int (xs (i + 2))]) (rest := []) hE dL_law_472 rfl kX12_reel rfl lL_134 iX12_reel vX12_reel rfl (Nat.le_of_ble_eq_true rfl) (by decide) hD hR1 hm (fun g2 r S2 hq hR2 hF2 => ?_)
  obtain ⟨C3, c1, c2, hf⟩ := hfin o W2 C2 r S2 hz hq
  obtain ⟨x, rfl, -⟩ := id hf
  have hT2 := (hT1.mdl hR2 hF2 ha ⟨_, hg1⟩).sc4 c1 c2
  have hg2 : g2 a = some (.inl (G.2.2.2 1, 1, .inr (.inl f1))) := (hF2 a ha).trans hg1
  obtain ⟨-, -, -, F2, OL2, hcl2⟩ := id hf
  have W2w := (hZ _ _ _ hz).1
  obtain ⟨q1, q2⟩ := la_eq (by decide) la_d1 hk hf
  refine ev_istore (lv' := [some (.ref b), some (.ref (W 0 0)), some (.ref V.1), some (.ref a), some (.int (nI i)), some (.int y), some (.int x)]) dL_law_475 (Nat.le_of_ble_eq_true rfl) rfl ?_
  refine ev_aload_n dL_law_477 rfl rfl ?_
  refine la_mc (d' := 64) (As := []) (rest := []) hE dL_law_478 rfl kX12_thrown rfl lL_120 iX12_thrown vX12_thrown rfl (Nat.le_of_ble_eq_true rfl) (by decide) hD hR2 (c_X12_thrown hE).r (fun g3 r3 S3 h3 hR3 hF3 => ?_)
  obtain ⟨rfl, rfl⟩ := h3
  have hT3 := hT2.mdl hR3 hF3 ha ⟨_, hg2⟩
  have hg3 : g3 a = some (.inl (G.2.2.2 1, 1, .inr (.inl f1))) := (hF3 a ha).trans hg2
  have fin : ev_V G 66 b' n' mL_law Post g3 2387 [some (.ref b), some (.ref (W 0 0)), some (.ref V.1), some (.ref a), some (.int (nI i)), some (.int y), some (.int x)] [] := ev_weak (lv' := [some (.ref b), some (.ref (W 0 0)), some (.ref V.1), some (.ref a), some (.int (nI i)), none, none]) rfl (fun j v hj => by
    match j, hj with
    | 0, hj => exact hj
    | 1, hj => exact hj
    | 2, hj => exact hj
    | 3, hj => exact hj
    | 4, hj => exact hj
    | 5, hj => exact absurd (Option.some.inj hj) (by simp)
    | 6, hj => exact absurd (Option.some.inj hj) (by simp)
    | j + 7, hj => exact absurd hj (by simp)) (k W2 C3 _ g3 W2w.2 ⟨F2, OL2, hT3, hD, hR3, ha, ⟨_, hg3⟩, W2w.1.trans h99, hcl2⟩)
  refine ev_iload dL_law_481 rfl ?_
  refine ev_icmp_eq (tgt := 488) dL_law_483 (by decide) (fun c1 => ?_) (fun c1 => absurd q1 c1)
  refine ev_iload dL_law_488 rfl ?_
  refine ev_if_ne (tgt := 505) dL_law_490 (by decide) (fun _ => ?_) (fun c2 => ?_)
  · exact ev_goto (tgt := 2387) dL_law_505 (by decide) fin
  · refine ev_aload_n dL_law_493 rfl rfl ?_
    refine ev_iconst (v := 0) dL_law_494 (by decide) ?_
    refine ev_lald hE dL_law_495 hg3 (vp_in_nI (n := 0) (by decide) (by decide)) ?_
    refine ev_iload dL_law_496 rfl ?_
    refine ev_i2l dL_law_498 ?_
    refine ev_lcmp dL_law_499 ?_
    have e0 : f1 (0 : Int32).toNatClampNeg = x.toInt64 := q2 c2
    rw [e0, lg_same]
    exact ev_if_eq (tgt := 505) dL_law_500 (by decide) (fun _ => ev_goto (tgt := 2387) dL_law_505 (by decide) fin) (fun c3 => absurd rfl c3)
theorem lb_where {G : ev_G} {D0 : Nat} {W : cw_W} {V : mo_W} {a b L i bc bs b' n' : Nat} {xs : Nat → Int32} {B : Int} {g : ev_H} {C S : mo_S} {Post : ev_P} (hE : ev_En G) (h4 : ev_En4 G D0) (hN : la_N G) (hb : b < G.2.1.heap.size) (hX : va_X b L xs G.2.1 G.2.1.heap) (hL : L ≤ 3072) (hi : i + 6 ≤ L) (hA : la_T G D0 W V a B g C S) (hB : B ≤ 8000000) (hbc : b' + 24 ≤ bc) (hbs : n' + 4120 ≤ bs) (k : ∀ (W2 : cw_W) (C2 S2 : mo_S) (g2 : ev_H), W2 0 0 = W 0 0 → la_T G D0 W2 V a (B + 2000) g2 C2 S2 → ev_V G 66 b' n' mL_law Post g2 2387 [some (.ref b), some (.ref (W 0 0)), some (.ref V.1), some (.ref a), some (.int (nI i)), none, none] []) : ev_V G 66 bc bs mL_law Post g 508 [some (.ref b), some (.ref (W 0 0)), some (.ref V.1), some (.ref a), some (.int (nI i)), none, none] [] := by
  obtain ⟨F, OL, hT, hD, hR, ha, ⟨f, hg⟩, h99, hcl⟩ := hA
  obtain ⟨Z, Q, mc, ms, hmc, hms, hc, hm, hZ, hfin⟩ := la_where (V := V) hE h4 h99 hcl hB (xs (i + 1))
  refine ev_aload_n dL_law_508 rfl rfl ?_
  refine la_arg (jn := 1) hb hX hL hi (by decide) (by decide) dL_law_509 dL_law_510 dL_law_512 dL_law_513 dL_law_514 rfl rfl ?_
  refine ev_aload_n dL_law_515 rfl rfl ?_
  refine ev_callSH (d' := 65) (b := b' + (bc - b' - mc)) (k0 := n' + (bs - n' - ms)) (As := [.ref (W 0 0), .int (xs (i + 1)), .ref a]) (rest := []) dL_law_516 rfl kL_where rfl lL_135 sL_where (Nat.le_of_ble_eq_true rfl) (by decide) (wr_where hE h4 hN hc (fun o W2 C2 z => (hZ o W2 C2 z).2) (Or.inr rfl) hT hg) (by omega) (by omega) (fun v g1 h => ?_) (fun e g1 h => by obtain ⟨o, W2, C2, k, f, h, -⟩ := h; cases h)
  refine ev_room (Nat.le_add_right b' _) (Nat.le_add_right n' _) ?_
  obtain ⟨o, W2, C2, y, f1, h, hz, hk, hT1, hK1, hg1⟩ := h
  cases h
  have hR1 := hR.cg (g2 := g1) (fun b hb => hK1 b (Or.inl hb) (fun z => ha (by rw [← z]; exact hb)))
  refine ev_istore (lv' := [some (.ref b), some (.ref (W 0 0)), some (.ref V.1), some (.ref a), some (.int (nI i)), some (.int y), none]) dL_law_519 (Nat.le_of_ble_eq_true rfl) rfl ?_
  refine ev_aload_n dL_law_521 rfl rfl ?_
  refine la_arg (jn := 1) hb hX hL hi (by decide) (by decide) dL_law_522 dL_law_523 dL_law_525 dL_law_526 dL_law_527 rfl rfl ?_
  refine la_mc (d' := 64) (As := [.int (xs (i + 1))]) (rest := []) hE dL_law_528 rfl kX12_where rfl lL_138 iX12_where vX12_where rfl (Nat.le_of_ble_eq_true rfl) (by decide) hD hR1 hm (fun g2 r S2 hq hR2 hF2 => ?_)
  obtain ⟨C3, c1, c2, hf⟩ := hfin o W2 C2 r S2 hz hq
  obtain ⟨x, rfl, -⟩ := id hf
  have hT2 := (hT1.mdl hR2 hF2 ha ⟨_, hg1⟩).sc4 c1 c2
  have hg2 : g2 a = some (.inl (G.2.2.2 1, 1, .inr (.inl f1))) := (hF2 a ha).trans hg1
  obtain ⟨-, -, -, F2, OL2, hcl2⟩ := id hf
  have W2w := (hZ _ _ _ hz).1
  obtain ⟨q1, q2⟩ := la_eq (by decide) la_d1 hk hf
  refine ev_istore (lv' := [some (.ref b), some (.ref (W 0 0)), some (.ref V.1), some (.ref a), some (.int (nI i)), some (.int y), some (.int x)]) dL_law_531 (Nat.le_of_ble_eq_true rfl) rfl ?_
  refine ev_aload_n dL_law_533 rfl rfl ?_
  refine la_mc (d' := 64) (As := []) (rest := []) hE dL_law_534 rfl kX12_thrown rfl lL_120 iX12_thrown vX12_thrown rfl (Nat.le_of_ble_eq_true rfl) (by decide) hD hR2 (c_X12_thrown hE).r (fun g3 r3 S3 h3 hR3 hF3 => ?_)
  obtain ⟨rfl, rfl⟩ := h3
  have hT3 := hT2.mdl hR3 hF3 ha ⟨_, hg2⟩
  have hg3 : g3 a = some (.inl (G.2.2.2 1, 1, .inr (.inl f1))) := (hF3 a ha).trans hg2
  have fin : ev_V G 66 b' n' mL_law Post g3 2387 [some (.ref b), some (.ref (W 0 0)), some (.ref V.1), some (.ref a), some (.int (nI i)), some (.int y), some (.int x)] [] := ev_weak (lv' := [some (.ref b), some (.ref (W 0 0)), some (.ref V.1), some (.ref a), some (.int (nI i)), none, none]) rfl (fun j v hj => by
    match j, hj with
    | 0, hj => exact hj
    | 1, hj => exact hj
    | 2, hj => exact hj
    | 3, hj => exact hj
    | 4, hj => exact hj
    | 5, hj => exact absurd (Option.some.inj hj) (by simp)
    | 6, hj => exact absurd (Option.some.inj hj) (by simp)
    | j + 7, hj => exact absurd hj (by simp)) (k W2 C3 _ g3 W2w.2 ⟨F2, OL2, hT3, hD, hR3, ha, ⟨_, hg3⟩, W2w.1.trans h99, hcl2⟩)
  refine ev_iload dL_law_537 rfl ?_
  refine ev_icmp_eq (tgt := 544) dL_law_539 (by decide) (fun c1 => ?_) (fun c1 => absurd q1 c1)
  refine ev_iload dL_law_544 rfl ?_
  refine ev_if_ne (tgt := 561) dL_law_546 (by decide) (fun _ => ?_) (fun c2 => ?_)
  · exact ev_goto (tgt := 2387) dL_law_561 (by decide) fin
  · refine ev_aload_n dL_law_549 rfl rfl ?_
    refine ev_iconst (v := 0) dL_law_550 (by decide) ?_
    refine ev_lald hE dL_law_551 hg3 (vp_in_nI (n := 0) (by decide) (by decide)) ?_
    refine ev_iload dL_law_552 rfl ?_
    refine ev_i2l dL_law_554 ?_
    refine ev_lcmp dL_law_555 ?_
    have e0 : f1 (0 : Int32).toNatClampNeg = x.toInt64 := q2 c2
    rw [e0, lg_same]
    exact ev_if_eq (tgt := 561) dL_law_556 (by decide) (fun _ => ev_goto (tgt := 2387) dL_law_561 (by decide) fin) (fun c3 => absurd rfl c3)
theorem lb_steal {G : ev_G} {D0 : Nat} {W : cw_W} {V : mo_W} {a b L i bc bs b' n' : Nat} {xs : Nat → Int32} {B : Int} {g : ev_H} {C S : mo_S} {Post : ev_P} (hE : ev_En G) (h4 : ev_En4 G D0) (hN : la_N G) (hb : b < G.2.1.heap.size) (hX : va_X b L xs G.2.1 G.2.1.heap) (hL : L ≤ 3072) (hi : i + 6 ≤ L) (hA : la_T G D0 W V a B g C S) (hB : B ≤ 8000000) (hbc : b' + 24 ≤ bc) (hbs : n' + 4120 ≤ bs) (k : ∀ (W2 : cw_W) (C2 S2 : mo_S) (g2 : ev_H), W2 0 0 = W 0 0 → la_T G D0 W2 V a (B + 2000) g2 C2 S2 → ev_V G 66 b' n' mL_law Post g2 2387 [some (.ref b), some (.ref (W 0 0)), some (.ref V.1), some (.ref a), some (.int (nI i)), none, none] []) : ev_V G 66 bc bs mL_law Post g 564 [some (.ref b), some (.ref (W 0 0)), some (.ref V.1), some (.ref a), some (.int (nI i)), none, none] [] := by
  obtain ⟨F, OL, hT, hD, hR, ha, ⟨f, hg⟩, h99, hcl⟩ := hA
  obtain ⟨Z, Q, mc, ms, hmc, hms, hc, hm, hZ, hfin⟩ := la_steal (V := V) hE h4 h99 hcl hB (xs (i + 1))
  refine ev_aload_n dL_law_564 rfl rfl ?_
  refine la_arg (jn := 1) hb hX hL hi (by decide) (by decide) dL_law_565 dL_law_566 dL_law_568 dL_law_569 dL_law_570 rfl rfl ?_
  refine ev_aload_n dL_law_571 rfl rfl ?_
  refine ev_callSH (d' := 65) (b := b' + (bc - b' - mc)) (k0 := n' + (bs - n' - ms)) (As := [.ref (W 0 0), .int (xs (i + 1)), .ref a]) (rest := []) dL_law_572 rfl kL_steal rfl lL_139 sL_steal (Nat.le_of_ble_eq_true rfl) (by decide) (wr_steal hE h4 hN hc (fun o W2 C2 z => (hZ o W2 C2 z).2) (Or.inr rfl) hT hg) (by omega) (by omega) (fun v g1 h => ?_) (fun e g1 h => by obtain ⟨o, W2, C2, k, f, h, -⟩ := h; cases h)
  refine ev_room (Nat.le_add_right b' _) (Nat.le_add_right n' _) ?_
  obtain ⟨o, W2, C2, y, f1, h, hz, hk, hT1, hK1, hg1⟩ := h
  cases h
  have hR1 := hR.cg (g2 := g1) (fun b hb => hK1 b (Or.inl hb) (fun z => ha (by rw [← z]; exact hb)))
  refine ev_istore (lv' := [some (.ref b), some (.ref (W 0 0)), some (.ref V.1), some (.ref a), some (.int (nI i)), some (.int y), none]) dL_law_575 (Nat.le_of_ble_eq_true rfl) rfl ?_
  refine ev_aload_n dL_law_577 rfl rfl ?_
  refine la_arg (jn := 1) hb hX hL hi (by decide) (by decide) dL_law_578 dL_law_579 dL_law_581 dL_law_582 dL_law_583 rfl rfl ?_
  refine la_mc (d' := 64) (As := [.int (xs (i + 1))]) (rest := []) hE dL_law_584 rfl kX12_steal rfl lL_141 iX12_steal vX12_steal rfl (Nat.le_of_ble_eq_true rfl) (by decide) hD hR1 hm (fun g2 r S2 hq hR2 hF2 => ?_)
  obtain ⟨C3, c1, c2, hf⟩ := hfin o W2 C2 r S2 hz hq
  obtain ⟨x, rfl, -⟩ := id hf
  have hT2 := (hT1.mdl hR2 hF2 ha ⟨_, hg1⟩).sc4 c1 c2
  have hg2 : g2 a = some (.inl (G.2.2.2 1, 1, .inr (.inl f1))) := (hF2 a ha).trans hg1
  obtain ⟨-, -, -, F2, OL2, hcl2⟩ := id hf
  have W2w := (hZ _ _ _ hz).1
  obtain ⟨q1, q2⟩ := la_eq (by decide) la_d1 hk hf
  refine ev_istore (lv' := [some (.ref b), some (.ref (W 0 0)), some (.ref V.1), some (.ref a), some (.int (nI i)), some (.int y), some (.int x)]) dL_law_587 (Nat.le_of_ble_eq_true rfl) rfl ?_
  refine ev_aload_n dL_law_589 rfl rfl ?_
  refine la_mc (d' := 64) (As := []) (rest := []) hE dL_law_590 rfl kX12_thrown rfl lL_120 iX12_thrown vX12_thrown rfl (Nat.le_of_ble_eq_true rfl) (by decide) hD hR2 (c_X12_thrown hE).r (fun g3 r3 S3 h3 hR3 hF3 => ?_)
  obtain ⟨rfl, rfl⟩ := h3
  have hT3 := hT2.mdl hR3 hF3 ha ⟨_, hg2⟩
  have hg3 : g3 a = some (.inl (G.2.2.2 1, 1, .inr (.inl f1))) := (hF3 a ha).trans hg2
  have fin : ev_V G 66 b' n' mL_law Post g3 2387 [some (.ref b), some (.ref (W 0 0)), some (.ref V.1), some (.ref a), some (.int (nI i)), some (.int y), some (.int x)] [] := ev_weak (lv' := [some (.ref b), some (.ref (W 0 0)), some (.ref V.1), some (.ref a), some (.int (nI i)), none, none]) rfl (fun j v hj => by
    match j, hj with
    | 0, hj => exact hj
    | 1, hj => exact hj
    | 2, hj => exact hj
    | 3, hj => exact hj
    | 4, hj => exact hj
    | 5, hj => exact absurd (Option.some.inj hj) (by simp)
    | 6, hj => exact absurd (Option.some.inj hj) (by simp)
    | j + 7, hj => exact absurd hj (by simp)) (k W2 C3 _ g3 W2w.2 ⟨F2, OL2, hT3, hD, hR3, ha, ⟨_, hg3⟩, W2w.1.trans h99, hcl2⟩)
  refine ev_iload dL_law_593 rfl ?_
  refine ev_icmp_eq (tgt := 600) dL_law_595 (by decide) (fun c1 => ?_) (fun c1 => absurd q1 c1)
  refine ev_iload dL_law_600 rfl ?_
  refine ev_if_ne (tgt := 617) dL_law_602 (by decide) (fun _ => ?_) (fun c2 => ?_)
  · exact ev_goto (tgt := 2387) dL_law_617 (by decide) fin
  · refine ev_aload_n dL_law_605 rfl rfl ?_
    refine ev_iconst (v := 0) dL_law_606 (by decide) ?_
    refine ev_lald hE dL_law_607 hg3 (vp_in_nI (n := 0) (by decide) (by decide)) ?_
    refine ev_iload dL_law_608 rfl ?_
    refine ev_i2l dL_law_610 ?_
    refine ev_lcmp dL_law_611 ?_
    have e0 : f1 (0 : Int32).toNatClampNeg = x.toInt64 := q2 c2
    rw [e0, lg_same]
    exact ev_if_eq (tgt := 617) dL_law_612 (by decide) (fun _ => ev_goto (tgt := 2387) dL_law_617 (by decide) fin) (fun c3 => absurd rfl c3)
theorem lb_find {G : ev_G} {D0 : Nat} {W : cw_W} {V : mo_W} {a b L i bc bs b' n' : Nat} {xs : Nat → Int32} {B : Int} {g : ev_H} {C S : mo_S} {Post : ev_P} (hE : ev_En G) (h4 : ev_En4 G D0) (hN : la_N G) (hb : b < G.2.1.heap.size) (hX : va_X b L xs G.2.1 G.2.1.heap) (hL : L ≤ 3072) (hi : i + 6 ≤ L) (hA : la_T G D0 W V a B g C S) (hB : B ≤ 8000000) (hbc : b' + 24 ≤ bc) (hbs : n' + 4120 ≤ bs) (k : ∀ (W2 : cw_W) (C2 S2 : mo_S) (g2 : ev_H), W2 0 0 = W 0 0 → la_T G D0 W2 V a (B + 2000) g2 C2 S2 → ev_V G 66 b' n' mL_law Post g2 2387 [some (.ref b), some (.ref (W 0 0)), some (.ref V.1), some (.ref a), some (.int (nI i)), none, none] []) : ev_V G 66 bc bs mL_law Post g 620 [some (.ref b), some (.ref (W 0 0)), some (.ref V.1), some (.ref a), some (.int (nI i)), none, none] [] := by
  obtain ⟨F, OL, hT, hD, hR, ha, ⟨f, hg⟩, h99, hcl⟩ := hA
  obtain ⟨Z, Q, mc, ms, hmc, hms, hc, hm, hZ, hfin⟩ := la_find (V := V) hE h4 h99 hcl hB (xs (i + 1))
  refine ev_aload_n dL_law_620 rfl rfl ?_
  refine la_arg (jn := 1) hb hX hL hi (by decide) (by decide) dL_law_621 dL_law_622 dL_law_624 dL_law_625 dL_law_626 rfl rfl ?_
  refine ev_aload_n dL_law_627 rfl rfl ?_
  refine ev_callSH (d' := 65) (b := b' + (bc - b' - mc)) (k0 := n' + (bs - n' - ms)) (As := [.ref (W 0 0), .int (xs (i + 1)), .ref a]) (rest := []) dL_law_628 rfl kL_find rfl lL_142 sL_find (Nat.le_of_ble_eq_true rfl) (by decide) (wr_find hE h4 hN hc (fun o W2 C2 z => (hZ o W2 C2 z).2) (Or.inr rfl) hT hg) (by omega) (by omega) (fun v g1 h => ?_) (fun e g1 h => by obtain ⟨o, W2, C2, k, f, h, -⟩ := h; cases h)
  refine ev_room (Nat.le_add_right b' _) (Nat.le_add_right n' _) ?_
  obtain ⟨o, W2, C2, y, f1, h, hz, hk, hT1, hK1, hg1⟩ := h
  cases h
  have hR1 := hR.cg (g2 := g1) (fun b hb => hK1 b (Or.inl hb) (fun z => ha (by rw [← z]; exact hb)))
  refine ev_istore (lv' := [some (.ref b), some (.ref (W 0 0)), some (.ref V.1), some (.ref a), some (.int (nI i)), some (.int y), none]) dL_law_631 (Nat.le_of_ble_eq_true rfl) rfl ?_
  refine ev_aload_n dL_law_633 rfl rfl ?_
  refine la_arg (jn := 1) hb hX hL hi (by decide) (by decide) dL_law_634 dL_law_635 dL_law_637 dL_law_638 dL_law_639 rfl rfl ?_
  refine la_mc (d' := 64) (As := [.int (xs (i + 1))]) (rest := []) hE dL_law_640 rfl kX12_find rfl lL_144 iX12_find vX12_find rfl (Nat.le_of_ble_eq_true rfl) (by decide) hD hR1 hm (fun g2 r S2 hq hR2 hF2 => ?_)
  obtain ⟨C3, c1, c2, hf⟩ := hfin o W2 C2 r S2 hz hq
  obtain ⟨x, rfl, -⟩ := id hf
  have hT2 := (hT1.mdl hR2 hF2 ha ⟨_, hg1⟩).sc4 c1 c2
  have hg2 : g2 a = some (.inl (G.2.2.2 1, 1, .inr (.inl f1))) := (hF2 a ha).trans hg1
  obtain ⟨-, -, -, F2, OL2, hcl2⟩ := id hf
  have W2w := (hZ _ _ _ hz).1
  obtain ⟨q1, q2⟩ := la_eq (by decide) la_d1 hk hf
  refine ev_istore (lv' := [some (.ref b), some (.ref (W 0 0)), some (.ref V.1), some (.ref a), some (.int (nI i)), some (.int y), some (.int x)]) dL_law_643 (Nat.le_of_ble_eq_true rfl) rfl ?_
  refine ev_aload_n dL_law_645 rfl rfl ?_
  refine la_mc (d' := 64) (As := []) (rest := []) hE dL_law_646 rfl kX12_thrown rfl lL_120 iX12_thrown vX12_thrown rfl (Nat.le_of_ble_eq_true rfl) (by decide) hD hR2 (c_X12_thrown hE).r (fun g3 r3 S3 h3 hR3 hF3 => ?_)
  obtain ⟨rfl, rfl⟩ := h3
  have hT3 := hT2.mdl hR3 hF3 ha ⟨_, hg2⟩
  have hg3 : g3 a = some (.inl (G.2.2.2 1, 1, .inr (.inl f1))) := (hF3 a ha).trans hg2
  have fin : ev_V G 66 b' n' mL_law Post g3 2387 [some (.ref b), some (.ref (W 0 0)), some (.ref V.1), some (.ref a), some (.int (nI i)), some (.int y), some (.int x)] [] := ev_weak (lv' := [some (.ref b), some (.ref (W 0 0)), some (.ref V.1), some (.ref a), some (.int (nI i)), none, none]) rfl (fun j v hj => by
    match j, hj with
    | 0, hj => exact hj
    | 1, hj => exact hj
    | 2, hj => exact hj
    | 3, hj => exact hj
    | 4, hj => exact hj
    | 5, hj => exact absurd (Option.some.inj hj) (by simp)
    | 6, hj => exact absurd (Option.some.inj hj) (by simp)
    | j + 7, hj => exact absurd hj (by simp)) (k W2 C3 _ g3 W2w.2 ⟨F2, OL2, hT3, hD, hR3, ha, ⟨_, hg3⟩, W2w.1.trans h99, hcl2⟩)
  refine ev_iload dL_law_649 rfl ?_
  refine ev_icmp_eq (tgt := 656) dL_law_651 (by decide) (fun c1 => ?_) (fun c1 => absurd q1 c1)
  refine ev_iload dL_law_656 rfl ?_
  refine ev_if_ne (tgt := 673) dL_law_658 (by decide) (fun _ => ?_) (fun c2 => ?_)
  · exact ev_goto (tgt := 2387) dL_law_673 (by decide) fin
  · refine ev_aload_n dL_law_661 rfl rfl ?_
    refine ev_iconst (v := 0) dL_law_662 (by decide) ?_
    refine ev_lald hE dL_law_663 hg3 (vp_in_nI (n := 0) (by decide) (by decide)) ?_
    refine ev_iload dL_law_664 rfl ?_
    refine ev_i2l dL_law_666 ?_
    refine ev_lcmp dL_law_667 ?_
    have e0 : f1 (0 : Int32).toNatClampNeg = x.toInt64 := q2 c2
    rw [e0, lg_same]
    exact ev_if_eq (tgt := 673) dL_law_668 (by decide) (fun _ => ev_goto (tgt := 2387) dL_law_673 (by decide) fin) (fun c3 => absurd rfl c3)
theorem lb_ward {G : ev_G} {D0 : Nat} {W : cw_W} {V : mo_W} {a b L i bc bs b' n' : Nat} {xs : Nat → Int32} {B : Int} {g : ev_H} {C S : mo_S} {Post : ev_P} (hE : ev_En G) (h4 : ev_En4 G D0) (hN : la_N G) (hb : b < G.2.1.heap.size) (hX : va_X b L xs G.2.1 G.2.1.heap) (hL : L ≤ 3072) (hi : i + 6 ≤ L) (hA : la_T G D0 W V a B g C S) (hB : B ≤ 8000000) (hbc : b' + 24 ≤ bc) (hbs : n' + 4120 ≤ bs) (k : ∀ (W2 : cw_W) (C2 S2 : mo_S) (g2 : ev_H), W2 0 0 = W 0 0 → la_T G D0 W2 V a (B + 2000) g2 C2 S2 → ev_V G 66 b' n' mL_law Post g2 2387 [some (.ref b), some (.ref (W 0 0)), some (.ref V.1), some (.ref a), some (.int (nI i)), none, none] []) : ev_V G 66 bc bs mL_law Post g 676 [some (.ref b), some (.ref (W 0 0)), some (.ref V.1), some (.ref a), some (.int (nI i)), none, none] [] := by
  obtain ⟨F, OL, hT, hD, hR, ha, ⟨f, hg⟩, h99, hcl⟩ := hA
  obtain ⟨Z, Q, mc, ms, hmc, hms, hc, hm, hZ, hfin⟩ := la_ward (V := V) hE h4 h99 hcl hB (xs (i + 1))
  refine ev_aload_n dL_law_676 rfl rfl ?_
  refine la_arg (jn := 1) hb hX hL hi (by decide) (by decide) dL_law_677 dL_law_678 dL_law_680 dL_law_681 dL_law_682 rfl rfl ?_
  refine ev_aload_n dL_law_683 rfl rfl ?_
  refine ev_callSH (d' := 65) (b := b' + (bc - b' - mc)) (k0 := n' + (bs - n' - ms)) (As := [.ref (W 0 0), .int (xs (i + 1)), .ref a]) (rest := []) dL_law_684 rfl kL_ward rfl lL_145 sL_ward (Nat.le_of_ble_eq_true rfl) (by decide) (wr_ward hE h4 hN hc (fun o W2 C2 z => (hZ o W2 C2 z).2) (Or.inr rfl) hT hg) (by omega) (by omega) (fun v g1 h => ?_) (fun e g1 h => by obtain ⟨o, W2, C2, k, f, h, -⟩ := h; cases h)
  refine ev_room (Nat.le_add_right b' _) (Nat.le_add_right n' _) ?_
  obtain ⟨o, W2, C2, y, f1, h, hz, hk, hT1, hK1, hg1⟩ := h
  cases h
  have hR1 := hR.cg (g2 := g1) (fun b hb => hK1 b (Or.inl hb) (fun z => ha (by rw [← z]; exact hb)))
  refine ev_istore (lv' := [some (.ref b), some (.ref (W 0 0)), some (.ref V.1), some (.ref a), some (.int (nI i)), some (.int y), none]) dL_law_687 (Nat.le_of_ble_eq_true rfl) rfl ?_
  refine ev_aload_n dL_law_689 rfl rfl ?_
  refine la_arg (jn := 1) hb hX hL hi (by decide) (by decide) dL_law_690 dL_law_691 dL_law_693 dL_law_694 dL_law_695 rfl rfl ?_
  refine la_mc (d' := 64) (As := [.int (xs (i + 1))]) (rest := []) hE dL_law_696 rfl kX12_ward rfl lL_147 iX12_ward vX12_ward rfl (Nat.le_of_ble_eq_true rfl) (by decide) hD hR1 hm (fun g2 r S2 hq hR2 hF2 => ?_)
  obtain ⟨C3, c1, c2, hf⟩ := hfin o W2 C2 r S2 hz hq
  obtain ⟨x, rfl, -⟩ := id hf
  have hT2 := (hT1.mdl hR2 hF2 ha ⟨_, hg1⟩).sc4 c1 c2
  have hg2 : g2 a = some (.inl (G.2.2.2 1, 1, .inr (.inl f1))) := (hF2 a ha).trans hg1
  obtain ⟨-, -, -, F2, OL2, hcl2⟩ := id hf
  have W2w := (hZ _ _ _ hz).1
  obtain ⟨q1, q2⟩ := la_eq (by decide) la_d1 hk hf
  refine ev_istore (lv' := [some (.ref b), some (.ref (W 0 0)), some (.ref V.1), some (.ref a), some (.int (nI i)), some (.int y), some (.int x)]) dL_law_699 (Nat.le_of_ble_eq_true rfl) rfl ?_
  refine ev_aload_n dL_law_701 rfl rfl ?_
  refine la_mc (d' := 64) (As := []) (rest := []) hE dL_law_702 rfl kX12_thrown rfl lL_120 iX12_thrown vX12_thrown rfl (Nat.le_of_ble_eq_true rfl) (by decide) hD hR2 (c_X12_thrown hE).r (fun g3 r3 S3 h3 hR3 hF3 => ?_)
  obtain ⟨rfl, rfl⟩ := h3
  have hT3 := hT2.mdl hR3 hF3 ha ⟨_, hg2⟩
  have hg3 : g3 a = some (.inl (G.2.2.2 1, 1, .inr (.inl f1))) := (hF3 a ha).trans hg2
  have fin : ev_V G 66 b' n' mL_law Post g3 2387 [some (.ref b), some (.ref (W 0 0)), some (.ref V.1), some (.ref a), some (.int (nI i)), some (.int y), some (.int x)] [] := ev_weak (lv' := [some (.ref b), some (.ref (W 0 0)), some (.ref V.1), some (.ref a), some (.int (nI i)), none, none]) rfl (fun j v hj => by
    match j, hj with
    | 0, hj => exact hj
    | 1, hj => exact hj
    | 2, hj => exact hj
    | 3, hj => exact hj
    | 4, hj => exact hj
    | 5, hj => exact absurd (Option.some.inj hj) (by simp)
    | 6, hj => exact absurd (Option.some.inj hj) (by simp)
    | j + 7, hj => exact absurd hj (by simp)) (k W2 C3 _ g3 W2w.2 ⟨F2, OL2, hT3, hD, hR3, ha, ⟨_, hg3⟩, W2w.1.trans h99, hcl2⟩)
  refine ev_iload dL_law_705 rfl ?_
  refine ev_icmp_eq (tgt := 712) dL_law_707 (by decide) (fun c1 => ?_) (fun c1 => absurd q1 c1)
  refine ev_iload dL_law_712 rfl ?_
  refine ev_if_ne (tgt := 729) dL_law_714 (by decide) (fun _ => ?_) (fun c2 => ?_)
  · exact ev_goto (tgt := 2387) dL_law_729 (by decide) fin
  · refine ev_aload_n dL_law_717 rfl rfl ?_
    refine ev_iconst (v := 0) dL_law_718 (by decide) ?_
    refine ev_lald hE dL_law_719 hg3 (vp_in_nI (n := 0) (by decide) (by decide)) ?_
    refine ev_iload dL_law_720 rfl ?_
    refine ev_i2l dL_law_722 ?_
    refine ev_lcmp dL_law_723 ?_
    have e0 : f1 (0 : Int32).toNatClampNeg = x.toInt64 := q2 c2
    rw [e0, lg_same]
    exact ev_if_eq (tgt := 729) dL_law_724 (by decide) (fun _ => ev_goto (tgt := 2387) dL_law_729 (by decide) fin) (fun c3 => absurd rfl c3)
theorem lb_loyal {G : ev_G} {D0 : Nat} {W : cw_W} {V : mo_W} {a b L i bc bs b' n' : Nat} {xs : Nat → Int32} {B : Int} {g : ev_H} {C S : mo_S} {Post : ev_P} (hE : ev_En G) (h4 : ev_En4 G D0) (hN : la_N G) (hb : b < G.2.1.heap.size) (hX : va_X b L xs G.2.1 G.2.1.heap) (hL : L ≤ 3072) (hi : i + 6 ≤ L) (hA : la_T G D0 W V a B g C S) (hB : B ≤ 8000000) (hbc : b' + 24 ≤ bc) (hbs : n' + 4120 ≤ bs) (k : ∀ (W2 : cw_W) (C2 S2 : mo_S) (g2 : ev_H), W2 0 0 = W 0 0 → la_T G D0 W2 V a (B + 2000) g2 C2 S2 → ev_V G 66 b' n' mL_law Post g2 2387 [some (.ref b), some (.ref (W 0 0)), some (.ref V.1), some (.ref a), some (.int (nI i)), none, none] []) : ev_V G 66 bc bs mL_law Post g 732 [some (.ref b), some (.ref (W 0 0)), some (.ref V.1), some (.ref a), some (.int (nI i)), none, none] [] := by
  obtain ⟨F, OL, hT, hD, hR, ha, ⟨f, hg⟩, h99, hcl⟩ := hA
  obtain ⟨Z, Q, mc, ms, hmc, hms, hc, hm, hZ, hfin⟩ := la_loyal (V := V) hE h4 h99 hcl hB (xs (i + 1)) (xs (i + 2)) (xs (i + 3))
  refine ev_aload_n dL_law_732 rfl rfl ?_
  refine la_arg (jn := 1) hb hX hL hi (by decide) (by decide) dL_law_733 dL_law_734 dL_law_736 dL_law_737 dL_law_738 rfl rfl ?_
  refine la_arg (jn := 2) hb hX hL hi (by decide) (by decide) dL_law_739 dL_law_740 dL_law_742 dL_law_743 dL_law_744 rfl rfl ?_
  refine la_arg (jn := 3) hb hX hL hi (by decide) (by decide) dL_law_745 dL_law_746 dL_law_748 dL_law_749 dL_law_750 rfl rfl ?_
  refine ev_aload_n dL_law_751 rfl rfl ?_
  refine ev_callSH (d' := 65) (b := b' + (bc - b' - mc)) (k0 := n' + (bs - n' - ms)) (As := [.ref (W 0 0), .int (xs (i + 1)), .int (xs (i + 2)), .int (xs (i + 3)), .ref a]) (rest := []) dL_law_752 rfl kL_loyal rfl lL_148 sL_loyal (Nat.le_of_ble_eq_true rfl) (by decide) (wr_loyal hE h4 hN hc (fun o W2 C2 z => (hZ o W2 C2 z).2) (Or.inr rfl) hT hg) (by omega) (by omega) (fun v g1 h => ?_) (fun e g1 h => by obtain ⟨o, W2, C2, k, f, h, -⟩ := h; cases h)
  refine ev_room (Nat.le_add_right b' _) (Nat.le_add_right n' _) ?_
  obtain ⟨o, W2, C2, y, f1, h, hz, hk, hT1, hK1, hg1⟩ := h
  cases h
  have hR1 := hR.cg (g2 := g1) (fun b hb => hK1 b (Or.inl hb) (fun z => ha (by rw [← z]; exact hb)))
  refine ev_istore (lv' := [some (.ref b), some (.ref (W 0 0)), some (.ref V.1), some (.ref a), some (.int (nI i)), some (.int y), none]) dL_law_755 (Nat.le_of_ble_eq_true rfl) rfl ?_
  refine ev_aload_n dL_law_757 rfl rfl ?_
  refine la_arg (jn := 1) hb hX hL hi (by decide) (by decide) dL_law_758 dL_law_759 dL_law_761 dL_law_762 dL_law_763 rfl rfl ?_
  refine la_arg (jn := 2) hb hX hL hi (by decide) (by decide) dL_law_764 dL_law_765 dL_law_767 dL_law_768 dL_law_769 rfl rfl ?_
  refine la_arg (jn := 3) hb hX hL hi (by decide) (by decide) dL_law_770 dL_law_771 dL_law_773 dL_law_774 dL_law_775 rfl rfl ?_
  refine la_mc (d' := 64) (As := [.int (xs (i + 1)), .int (xs (i + 2)), .int (xs (i + 3))]) (rest := []) hE dL_law_776 rfl kX12_loyal rfl lL_150 iX12_loyal vX12_loyal rfl (Nat.le_of_ble_eq_true rfl) (by decide) hD hR1 hm (fun g2 r S2 hq hR2 hF2 => ?_)
  obtain ⟨C3, c1, c2, hf⟩ := hfin o W2 C2 r S2 hz hq
  obtain ⟨x, rfl, -⟩ := id hf
  have hT2 := (hT1.mdl hR2 hF2 ha ⟨_, hg1⟩).sc4 c1 c2
  have hg2 : g2 a = some (.inl (G.2.2.2 1, 1, .inr (.inl f1))) := (hF2 a ha).trans hg1
  obtain ⟨-, -, -, F2, OL2, hcl2⟩ := id hf
  have W2w := (hZ _ _ _ hz).1
  obtain ⟨q1, q2⟩ := la_eq (by decide) (la_d2 (by decide)) hk hf
  refine ev_istore (lv' := [some (.ref b), some (.ref (W 0 0)), some (.ref V.1), some (.ref a), some (.int (nI i)), some (.int y), some (.int x)]) dL_law_779 (Nat.le_of_ble_eq_true rfl) rfl ?_
  refine ev_aload_n dL_law_781 rfl rfl ?_
  refine la_mc (d' := 64) (As := []) (rest := []) hE dL_law_782 rfl kX12_thrown rfl lL_120 iX12_thrown vX12_thrown rfl (Nat.le_of_ble_eq_true rfl) (by decide) hD hR2 (c_X12_thrown hE).r (fun g3 r3 S3 h3 hR3 hF3 => ?_)
  obtain ⟨rfl, rfl⟩ := h3
  have hT3 := hT2.mdl hR3 hF3 ha ⟨_, hg2⟩
  have hg3 : g3 a = some (.inl (G.2.2.2 1, 1, .inr (.inl f1))) := (hF3 a ha).trans hg2
  have fin : ev_V G 66 b' n' mL_law Post g3 2387 [some (.ref b), some (.ref (W 0 0)), some (.ref V.1), some (.ref a), some (.int (nI i)), some (.int y), some (.int x)] [] := ev_weak (lv' := [some (.ref b), some (.ref (W 0 0)), some (.ref V.1), some (.ref a), some (.int (nI i)), none, none]) rfl (fun j v hj => by
    match j, hj with
    | 0, hj => exact hj
    | 1, hj => exact hj
    | 2, hj => exact hj
    | 3, hj => exact hj
    | 4, hj => exact hj
    | 5, hj => exact absurd (Option.some.inj hj) (by simp)
    | 6, hj => exact absurd (Option.some.inj hj) (by simp)
    | j + 7, hj => exact absurd hj (by simp)) (k W2 C3 _ g3 W2w.2 ⟨F2, OL2, hT3, hD, hR3, ha, ⟨_, hg3⟩, W2w.1.trans h99, hcl2⟩)
  refine ev_iload dL_law_785 rfl ?_
  refine ev_icmp_eq (tgt := 792) dL_law_787 (by decide) (fun c1 => ?_) (fun c1 => absurd q1 c1)
  refine ev_iload dL_law_792 rfl ?_
  refine ev_if_ne (tgt := 809) dL_law_794 (by decide) (fun _ => ?_) (fun c2 => ?_)
  · exact ev_goto (tgt := 2387) dL_law_809 (by decide) fin
  · refine ev_aload_n dL_law_797 rfl rfl ?_
    refine ev_iconst (v := 0) dL_law_798 (by decide) ?_
    refine ev_lald hE dL_law_799 hg3 (vp_in_nI (n := 0) (by decide) (by decide)) ?_
    refine ev_iload dL_law_800 rfl ?_
    refine ev_i2l dL_law_802 ?_
    refine ev_lcmp dL_law_803 ?_
    have e0 : f1 (0 : Int32).toNatClampNeg = x.toInt64 := q2 c2
    rw [e0, lg_same]
    exact ev_if_eq (tgt := 809) dL_law_804 (by decide) (fun _ => ev_goto (tgt := 2387) dL_law_809 (by decide) fin) (fun c3 => absurd rfl c3)
theorem lb_demand {G : ev_G} {D0 : Nat} {W : cw_W} {V : mo_W} {a b L i bc bs b' n' : Nat} {xs : Nat → Int32} {B : Int} {g : ev_H} {C S : mo_S} {Post : ev_P} (hE : ev_En G) (h4 : ev_En4 G D0) (hN : la_N G) (hb : b < G.2.1.heap.size) (hX : va_X b L xs G.2.1 G.2.1.heap) (hL : L ≤ 3072) (hi : i + 6 ≤ L) (hA : la_T G D0 W V a B g C S) (hB : B ≤ 8000000) (hbc : b' + 24 ≤ bc) (hbs : n' + 4120 ≤ bs) (k : ∀ (W2 : cw_W) (C2 S2 : mo_S) (g2 : ev_H), W2 0 0 = W 0 0 → la_T G D0 W2 V a (B + 2000) g2 C2 S2 → ev_V G 66 b' n' mL_law Post g2 2387 [some (.ref b), some (.ref (W 0 0)), some (.ref V.1), some (.ref a), some (.int (nI i)), none, none] []) : ev_V G 66 bc bs mL_law Post g 812 [some (.ref b), some (.ref (W 0 0)), some (.ref V.1), some (.ref a), some (.int (nI i)), none, none] [] := by
  obtain ⟨F, OL, hT, hD, hR, ha, ⟨f, hg⟩, h99, hcl⟩ := hA
  obtain ⟨Z, Q, mc, ms, hmc, hms, hc, hm, hZ, hfin⟩ := la_demand (V := V) hE h4 h99 hcl hB (xs (i + 1)) (xs (i + 2))
  refine ev_aload_n dL_law_812 rfl rfl ?_
  refine la_arg (jn := 1) hb hX hL hi (by decide) (by decide) dL_law_813 dL_law_814 dL_law_816 dL_law_817 dL_law_818 rfl rfl ?_
  refine la_arg (jn := 2) hb hX hL hi (by decide) (by decide) dL_law_819 dL_law_820 dL_law_822 dL_law_823 dL_law_824 rfl rfl ?_
  refine ev_aload_n dL_law_825 rfl rfl ?_
  refine ev_callSH (d' := 65) (b := b' + (bc - b' - mc)) (k0 := n' + (bs - n' - ms)) (As := [.ref (W 0 0), .int (xs (i + 1)), .int (xs (i + 2)), .ref a]) (rest := []) dL_law_826 rfl kL_demand rfl lL_151 sL_demand (Nat.le_of_ble_eq_true rfl) (by decide) (wr_demand hE h4 hN hc (fun o W2 C2 z => (hZ o W2 C2 z).2) (Or.inr rfl) hT hg) (by omega) (by omega) (fun v g1 h => ?_) (fun e g1 h => by obtain ⟨o, W2, C2, k, f, h, -⟩ := h; cases h)
  refine ev_room (Nat.le_add_right b' _) (Nat.le_add_right n' _) ?_
  obtain ⟨o, W2, C2, y, f1, h, hz, hk, hT1, hK1, hg1⟩ := h
  cases h
  have hR1 := hR.cg (g2 := g1) (fun b hb => hK1 b (Or.inl hb) (fun z => ha (by rw [← z]; exact hb)))
  refine ev_istore (lv' := [some (.ref b), some (.ref (W 0 0)), some (.ref V.1), some (.ref a), some (.int (nI i)), some (.int y), none]) dL_law_829 (Nat.le_of_ble_eq_true rfl) rfl ?_
  refine ev_aload_n dL_law_831 rfl rfl ?_
  refine la_arg (jn := 1) hb hX hL hi (by decide) (by decide) dL_law_832 dL_law_833 dL_law_835 dL_law_836 dL_law_837 rfl rfl ?_
  refine la_arg (jn := 2) hb hX hL hi (by decide) (by decide) dL_law_838 dL_law_839 dL_law_841 dL_law_842 dL_law_843 rfl rfl ?_
  refine la_mc (d' := 64) (As := [.int (xs (i + 1)), .int (xs (i + 2))]) (rest := []) hE dL_law_844 rfl kX12_demand rfl lL_153 iX12_demand vX12_demand rfl (Nat.le_of_ble_eq_true rfl) (by decide) hD hR1 hm (fun g2 r S2 hq hR2 hF2 => ?_)
  obtain ⟨C3, c1, c2, hf⟩ := hfin o W2 C2 r S2 hz hq
  obtain ⟨x, rfl, -⟩ := id hf
  have hT2 := (hT1.mdl hR2 hF2 ha ⟨_, hg1⟩).sc4 c1 c2
  have hg2 : g2 a = some (.inl (G.2.2.2 1, 1, .inr (.inl f1))) := (hF2 a ha).trans hg1
  obtain ⟨-, -, -, F2, OL2, hcl2⟩ := id hf
  have W2w := (hZ _ _ _ hz).1
  obtain ⟨q1, q2⟩ := la_eq (by decide) (la_d2 (by decide)) hk hf
  refine ev_istore (lv' := [some (.ref b), some (.ref (W 0 0)), some (.ref V.1), some (.ref a), some (.int (nI i)), some (.int y), some (.int x)]) dL_law_847 (Nat.le_of_ble_eq_true rfl) rfl ?_
  refine ev_aload_n dL_law_849 rfl rfl ?_
  refine la_mc (d' := 64) (As := []) (rest := []) hE dL_law_850 rfl kX12_thrown rfl lL_120 iX12_thrown vX12_thrown rfl (Nat.le_of_ble_eq_true rfl) (by decide) hD hR2 (c_X12_thrown hE).r (fun g3 r3 S3 h3 hR3 hF3 => ?_)
  obtain ⟨rfl, rfl⟩ := h3
  have hT3 := hT2.mdl hR3 hF3 ha ⟨_, hg2⟩
  have hg3 : g3 a = some (.inl (G.2.2.2 1, 1, .inr (.inl f1))) := (hF3 a ha).trans hg2
  have fin : ev_V G 66 b' n' mL_law Post g3 2387 [some (.ref b), some (.ref (W 0 0)), some (.ref V.1), some (.ref a), some (.int (nI i)), some (.int y), some (.int x)] [] := ev_weak (lv' := [some (.ref b), some (.ref (W 0 0)), some (.ref V.1), some (.ref a), some (.int (nI i)), none, none]) rfl (fun j v hj => by
    match j, hj with
    | 0, hj => exact hj
    | 1, hj => exact hj
    | 2, hj => exact hj
    | 3, hj => exact hj
    | 4, hj => exact hj
    | 5, hj => exact absurd (Option.some.inj hj) (by simp)
    | 6, hj => exact absurd (Option.some.inj hj) (by simp)
    | j + 7, hj => exact absurd hj (by simp)) (k W2 C3 _ g3 W2w.2 ⟨F2, OL2, hT3, hD, hR3, ha, ⟨_, hg3⟩, W2w.1.trans h99, hcl2⟩)
  refine ev_iload dL_law_853 rfl ?_
  refine ev_icmp_eq (tgt := 860) dL_law_855 (by decide) (fun c1 => ?_) (fun c1 => absurd q1 c1)
  refine ev_iload dL_law_860 rfl ?_
  refine ev_if_ne (tgt := 877) dL_law_862 (by decide) (fun _ => ?_) (fun c2 => ?_)
  · exact ev_goto (tgt := 2387) dL_law_877 (by decide) fin
  · refine ev_aload_n dL_law_865 rfl rfl ?_
    refine ev_iconst (v := 0) dL_law_866 (by decide) ?_
    refine ev_lald hE dL_law_867 hg3 (vp_in_nI (n := 0) (by decide) (by decide)) ?_
    refine ev_iload dL_law_868 rfl ?_
    refine ev_i2l dL_law_870 ?_
    refine ev_lcmp dL_law_871 ?_
    have e0 : f1 (0 : Int32).toNatClampNeg = x.toInt64 := q2 c2
    rw [e0, lg_same]
    exact ev_if_eq (tgt := 877) dL_law_872 (by decide) (fun _ => ev_goto (tgt := 2387) dL_law_877 (by decide) fin) (fun c3 => absurd rfl c3)
theorem lb_feed {G : ev_G} {D0 : Nat} {W : cw_W} {V : mo_W} {a b L i bc bs b' n' : Nat} {xs : Nat → Int32} {B : Int} {g : ev_H} {C S : mo_S} {Post : ev_P} (hE : ev_En G) (h4 : ev_En4 G D0) (hN : la_N G) (hb : b < G.2.1.heap.size) (hX : va_X b L xs G.2.1 G.2.1.heap) (hL : L ≤ 3072) (hi : i + 6 ≤ L) (hA : la_T G D0 W V a B g C S) (hB : B ≤ 8000000) (hbc : b' + 24 ≤ bc) (hbs : n' + 4120 ≤ bs) (k : ∀ (W2 : cw_W) (C2 S2 : mo_S) (g2 : ev_H), W2 0 0 = W 0 0 → la_T G D0 W2 V a (B + 2000) g2 C2 S2 → ev_V G 66 b' n' mL_law Post g2 2387 [some (.ref b), some (.ref (W 0 0)), some (.ref V.1), some (.ref a), some (.int (nI i)), none, none] []) : ev_V G 66 bc bs mL_law Post g 880 [some (.ref b), some (.ref (W 0 0)), some (.ref V.1), some (.ref a), some (.int (nI i)), none, none] [] := by
  obtain ⟨F, OL, hT, hD, hR, ha, ⟨f, hg⟩, h99, hcl⟩ := hA
  obtain ⟨Z, Q, mc, ms, hmc, hms, hc, hm, hZ, hfin⟩ := la_feed (V := V) hE h4 h99 hcl hB (xs (i + 1)) (xs (i + 2)) (xs (i + 3)) (xs (i + 4)) (xs (i + 5))
  refine ev_aload_n dL_law_880 rfl rfl ?_
  refine la_arg (jn := 1) hb hX hL hi (by decide) (by decide) dL_law_881 dL_law_882 dL_law_884 dL_law_885 dL_law_886 rfl rfl ?_
  refine la_arg (jn := 2) hb hX hL hi (by decide) (by decide) dL_law_887 dL_law_888 dL_law_890 dL_law_891 dL_law_892 rfl rfl ?_
  refine la_arg (jn := 3) hb hX hL hi (by decide) (by decide) dL_law_893 dL_law_894 dL_law_896 dL_law_897 dL_law_898 rfl rfl ?_
  refine la_arg (jn := 4) hb hX hL hi (by decide) (by decide) dL_law_899 dL_law_900 dL_law_902 dL_law_903 dL_law_904 rfl rfl ?_
  refine la_arg (jn := 5) hb hX hL hi (by decide) (by decide) dL_law_905 dL_law_906 dL_law_908 dL_law_909 dL_law_910 rfl rfl ?_
  refine ev_callV (d' := 64) (b := b' + (bc - b' - mc)) (k0 := n' + (bs - n' - ms)) (r := W 0 0) (As := [.int (xs (i + 1)), .int (xs (i + 2)), .int (xs (i + 3)), .int (xs (i + 4)), .int (xs (i + 5))]) (rest := []) hE dL_law_911 rfl kX11_feed rfl lL_154 iX11_feed vX11_feed ((hT.at (k := 0) (i := 0) rfl).1 _ _ ob0) rfl (Nat.le_of_ble_eq_true rfl) (by decide) (hc _ g g hT) (by omega) (by omega) (fun v g1 h => ?_) (fun e g1 h => ?_)
  rotate_left
  · obtain ⟨W2, C2, hz, -⟩ := h
    obtain ⟨y, hy⟩ := (hZ _ _ _ hz).2.e0
    cases hy
  refine ev_room (Nat.le_add_right b' _) (Nat.le_add_right n' _) ?_
  obtain ⟨W2, C2, hz, hT1⟩ := h
  obtain ⟨y, rfl⟩ := (hZ _ _ _ hz).2.v
  have hg1 : g1 a = some (.inl (G.2.2.2 1, 1, .inr (.inl f))) := by rw [(hT1.2.1 a (Or.inr rfl)).1]; exact hg
  have hR1 := hR.cg (g2 := g1) (fun b hb => (hT1.2.1 b (Or.inl hb)).1)
  refine ev_aload_n dL_law_914 rfl rfl ?_
  refine la_arg (jn := 1) hb hX hL hi (by decide) (by decide) dL_law_915 dL_law_916 dL_law_918 dL_law_919 dL_law_920 rfl rfl ?_
  refine la_arg (jn := 2) hb hX hL hi (by decide) (by decide) dL_law_921 dL_law_922 dL_law_924 dL_law_925 dL_law_926 rfl rfl ?_
  refine la_arg (jn := 3) hb hX hL hi (by decide) (by decide) dL_law_927 dL_law_928 dL_law_930 dL_law_931 dL_law_932 rfl rfl ?_
  refine la_arg (jn := 4) hb hX hL hi (by decide) (by decide) dL_law_933 dL_law_934 dL_law_936 dL_law_937 dL_law_938 rfl rfl ?_
  refine la_arg (jn := 5) hb hX hL hi (by decide) (by decide) dL_law_939 dL_law_940 dL_law_942 dL_law_943 dL_law_944 rfl rfl ?_
  refine la_mc (d' := 64) (As := [.int (xs (i + 1)), .int (xs (i + 2)), .int (xs (i + 3)), .int (xs (i + 4)), .int (xs (i + 5))]) (rest := [.int y]) hE dL_law_945 rfl kX12_feed rfl lL_157 iX12_feed vX12_feed rfl (Nat.le_of_ble_eq_true rfl) (by decide) hD hR1 hm (fun g2 r S2 hq hR2 hF2 => ?_)
  obtain ⟨C3, c1, c2, hf⟩ := hfin _ W2 C2 r S2 hz hq
  obtain ⟨x, rfl, -⟩ := id hf
  have hT2 := (hT1.mdl hR2 hF2 ha ⟨_, hg1⟩).sc4 c1 c2
  have hg2 : g2 a = some (.inl (G.2.2.2 1, 1, .inr (.inl f))) := (hF2 a ha).trans hg1
  obtain ⟨-, -, -, F2, OL2, hcl2⟩ := id hf
  have W2w := (hZ _ _ _ hz).1
  have exy : y = x := by
    obtain ⟨v, hv, q, -⟩ := hf
    cases hv
    rcases q with ⟨q, -⟩ | ⟨j, e, q, -⟩
    · cases q; rfl
    · exact absurd q (by simp)
  exact ev_icmp_eq (tgt := 2387) dL_law_948 (by decide) (fun _ => (k W2 C3 _ g2 W2w.2 ⟨F2, OL2, hT2, hD, hR2, ha, ⟨_, hg2⟩, W2w.1.trans h99, hcl2⟩)) (fun c => absurd exy c)
theorem lb_order {G : ev_G} {D0 : Nat} {W : cw_W} {V : mo_W} {a b L i bc bs b' n' : Nat} {xs : Nat → Int32} {B : Int} {g : ev_H} {C S : mo_S} {Post : ev_P} (hE : ev_En G) (h4 : ev_En4 G D0) (hN : la_N G) (hb : b < G.2.1.heap.size) (hX : va_X b L xs G.2.1 G.2.1.heap) (hL : L ≤ 3072) (hi : i + 6 ≤ L) (hA : la_T G D0 W V a B g C S) (hB : B ≤ 8000000) (hbc : b' + 24 ≤ bc) (hbs : n' + 4120 ≤ bs) (k : ∀ (W2 : cw_W) (C2 S2 : mo_S) (g2 : ev_H), W2 0 0 = W 0 0 → la_T G D0 W2 V a (B + 2000) g2 C2 S2 → ev_V G 66 b' n' mL_law Post g2 2387 [some (.ref b), some (.ref (W 0 0)), some (.ref V.1), some (.ref a), some (.int (nI i)), none, none] []) : ev_V G 66 bc bs mL_law Post g 953 [some (.ref b), some (.ref (W 0 0)), some (.ref V.1), some (.ref a), some (.int (nI i)), none, none] [] := by
  obtain ⟨F, OL, hT, hD, hR, ha, ⟨f, hg⟩, h99, hcl⟩ := hA
  obtain ⟨Z, Q, mc, ms, hmc, hms, hc, hm, hZ, hfin⟩ := la_order (V := V) hE h4 h99 hcl hB (xs (i + 1)) (xs (i + 2))
  refine ev_aload_n dL_law_953 rfl rfl ?_
  refine la_arg (jn := 1) hb hX hL hi (by decide) (by decide) dL_law_954 dL_law_955 dL_law_957 dL_law_958 dL_law_959 rfl rfl ?_
  refine la_arg (jn := 2) hb hX hL hi (by decide) (by decide) dL_law_960 dL_law_961 dL_law_963 dL_law_964 dL_law_965 rfl rfl ?_
  refine ev_aload_n dL_law_966 rfl rfl ?_
  refine ev_callSH (d' := 65) (b := b' + (bc - b' - mc)) (k0 := n' + (bs - n' - ms)) (As := [.ref (W 0 0), .int (xs (i + 1)), .int (xs (i + 2)), .ref a]) (rest := []) dL_law_967 rfl kL_order rfl lL_158 sL_order (Nat.le_of_ble_eq_true rfl) (by decide) (wr_order hE h4 hN hc (fun o W2 C2 z => (hZ o W2 C2 z).2) (Or.inr rfl) hT hg) (by omega) (by omega) (fun v g1 h => ?_) (fun e g1 h => by obtain ⟨o, W2, C2, k, f, h, -⟩ := h; cases h)
  refine ev_room (Nat.le_add_right b' _) (Nat.le_add_right n' _) ?_
  obtain ⟨o, W2, C2, y, f1, h, hz, hk, hT1, hK1, hg1⟩ := h
  cases h
  have hR1 := hR.cg (g2 := g1) (fun b hb => hK1 b (Or.inl hb) (fun z => ha (by rw [← z]; exact hb)))
  refine ev_istore (lv' := [some (.ref b), some (.ref (W 0 0)), some (.ref V.1), some (.ref a), some (.int (nI i)), some (.int y), none]) dL_law_970 (Nat.le_of_ble_eq_true rfl) rfl ?_
  refine ev_aload_n dL_law_972 rfl rfl ?_
  refine la_arg (jn := 1) hb hX hL hi (by decide) (by decide) dL_law_973 dL_law_974 dL_law_976 dL_law_977 dL_law_978 rfl rfl ?_
  refine la_arg (jn := 2) hb hX hL hi (by decide) (by decide) dL_law_979 dL_law_980 dL_law_982 dL_law_983 dL_law_984 rfl rfl ?_
  refine la_mc (d' := 64) (As := [.int (xs (i + 1)), .int (xs (i + 2))]) (rest := []) hE dL_law_985 rfl kX12_order rfl lL_160 iX12_order vX12_order rfl (Nat.le_of_ble_eq_true rfl) (by decide) hD hR1 hm (fun g2 r S2 hq hR2 hF2 => ?_)
  obtain ⟨C3, c1, c2, hf⟩ := hfin o W2 C2 r S2 hz hq
  obtain ⟨x, rfl, -⟩ := id hf
  have hT2 := (hT1.mdl hR2 hF2 ha ⟨_, hg1⟩).sc4 c1 c2
  have hg2 : g2 a = some (.inl (G.2.2.2 1, 1, .inr (.inl f1))) := (hF2 a ha).trans hg1
  obtain ⟨-, -, -, F2, OL2, hcl2⟩ := id hf
  have W2w := (hZ _ _ _ hz).1
  obtain ⟨q1, q2⟩ := la_eq (by decide) la_d1 hk hf
  refine ev_istore (lv' := [some (.ref b), some (.ref (W 0 0)), some (.ref V.1), some (.ref a), some (.int (nI i)), some (.int y), some (.int x)]) dL_law_988 (Nat.le_of_ble_eq_true rfl) rfl ?_
  refine ev_aload_n dL_law_990 rfl rfl ?_
  refine la_mc (d' := 64) (As := []) (rest := []) hE dL_law_991 rfl kX12_thrown rfl lL_120 iX12_thrown vX12_thrown rfl (Nat.le_of_ble_eq_true rfl) (by decide) hD hR2 (c_X12_thrown hE).r (fun g3 r3 S3 h3 hR3 hF3 => ?_)
  obtain ⟨rfl, rfl⟩ := h3
  have hT3 := hT2.mdl hR3 hF3 ha ⟨_, hg2⟩
  have hg3 : g3 a = some (.inl (G.2.2.2 1, 1, .inr (.inl f1))) := (hF3 a ha).trans hg2
  have fin : ev_V G 66 b' n' mL_law Post g3 2387 [some (.ref b), some (.ref (W 0 0)), some (.ref V.1), some (.ref a), some (.int (nI i)), some (.int y), some (.int x)] [] := ev_weak (lv' := [some (.ref b), some (.ref (W 0 0)), some (.ref V.1), some (.ref a), some (.int (nI i)), none, none]) rfl (fun j v hj => by
    match j, hj with
    | 0, hj => exact hj
    | 1, hj => exact hj
    | 2, hj => exact hj
    | 3, hj => exact hj
    | 4, hj => exact hj
    | 5, hj => exact absurd (Option.some.inj hj) (by simp)
    | 6, hj => exact absurd (Option.some.inj hj) (by simp)
    | j + 7, hj => exact absurd hj (by simp)) (k W2 C3 _ g3 W2w.2 ⟨F2, OL2, hT3, hD, hR3, ha, ⟨_, hg3⟩, W2w.1.trans h99, hcl2⟩)
  refine ev_iload dL_law_994 rfl ?_
  refine ev_icmp_eq (tgt := 1001) dL_law_996 (by decide) (fun c1 => ?_) (fun c1 => absurd q1 c1)
  refine ev_iload dL_law_1001 rfl ?_
  refine ev_if_ne (tgt := 1018) dL_law_1003 (by decide) (fun _ => ?_) (fun c2 => ?_)
  · exact ev_goto (tgt := 2387) dL_law_1018 (by decide) fin
  · refine ev_aload_n dL_law_1006 rfl rfl ?_
    refine ev_iconst (v := 0) dL_law_1007 (by decide) ?_
    refine ev_lald hE dL_law_1008 hg3 (vp_in_nI (n := 0) (by decide) (by decide)) ?_
    refine ev_iload dL_law_1009 rfl ?_
    refine ev_i2l dL_law_1011 ?_
    refine ev_lcmp dL_law_1012 ?_
    have e0 : f1 (0 : Int32).toNatClampNeg = x.toInt64 := q2 c2
    rw [e0, lg_same]
    exact ev_if_eq (tgt := 1018) dL_law_1013 (by decide) (fun _ => ev_goto (tgt := 2387) dL_law_1018 (by decide) fin) (fun c3 => absurd rfl c3)
theorem lb_fault {G : ev_G} {D0 : Nat} {W : cw_W} {V : mo_W} {a b L i bc bs b' n' : Nat} {xs : Nat → Int32} {B : Int} {g : ev_H} {C S : mo_S} {Post : ev_P} (hE : ev_En G) (h4 : ev_En4 G D0) (hN : la_N G) (hb : b < G.2.1.heap.size) (hX : va_X b L xs G.2.1 G.2.1.heap) (hL : L ≤ 3072) (hi : i + 6 ≤ L) (hA : la_T G D0 W V a B g C S) (hB : B ≤ 8000000) (hbc : b' + 24 ≤ bc) (hbs : n' + 4120 ≤ bs) (k : ∀ (W2 : cw_W) (C2 S2 : mo_S) (g2 : ev_H), W2 0 0 = W 0 0 → la_T G D0 W2 V a (B + 2000) g2 C2 S2 → ev_V G 66 b' n' mL_law Post g2 2387 [some (.ref b), some (.ref (W 0 0)), some (.ref V.1), some (.ref a), some (.int (nI i)), none, none] []) : ev_V G 66 bc bs mL_law Post g 1021 [some (.ref b), some (.ref (W 0 0)), some (.ref V.1), some (.ref a), some (.int (nI i)), none, none] [] := by
  obtain ⟨F, OL, hT, hD, hR, ha, ⟨f, hg⟩, h99, hcl⟩ := hA
  obtain ⟨Z, Q, mc, ms, hmc, hms, hc, hm, hZ, hfin⟩ := la_fault (V := V) hE h4 h99 hcl hB
  refine ev_aload_n dL_law_1021 rfl rfl ?_
  refine ev_callV (d' := 64) (b := b' + (bc - b' - mc)) (k0 := n' + (bs - n' - ms)) (r := W 0 0) (As := []) (rest := []) hE dL_law_1022 rfl kX11_fault rfl lL_161 iX11_fault vX11_fault ((hT.at (k := 0) (i := 0) rfl).1 _ _ ob0) rfl (Nat.le_of_ble_eq_true rfl) (by decide) (hc _ g g hT) (by omega) (by omega) (fun v g1 h => ?_) (fun e g1 h => ?_)
  rotate_left
  · obtain ⟨W2, C2, hz, -⟩ := h
    obtain ⟨y, hy⟩ := (hZ _ _ _ hz).2.e0
    cases hy
  refine ev_room (Nat.le_add_right b' _) (Nat.le_add_right n' _) ?_
  obtain ⟨W2, C2, hz, hT1⟩ := h
  obtain ⟨y, rfl⟩ := (hZ _ _ _ hz).2.v
  have hg1 : g1 a = some (.inl (G.2.2.2 1, 1, .inr (.inl f))) := by rw [(hT1.2.1 a (Or.inr rfl)).1]; exact hg
  have hR1 := hR.cg (g2 := g1) (fun b hb => (hT1.2.1 b (Or.inl hb)).1)
  refine ev_aload_n dL_law_1025 rfl rfl ?_
  refine la_mc (d' := 64) (As := []) (rest := [.int y]) hE dL_law_1026 rfl kX12_fault rfl lL_164 iX12_fault vX12_fault rfl (Nat.le_of_ble_eq_true rfl) (by decide) hD hR1 hm (fun g2 r S2 hq hR2 hF2 => ?_)
  obtain ⟨C3, c1, c2, hf⟩ := hfin _ W2 C2 r S2 hz hq
  obtain ⟨x, rfl, -⟩ := id hf
  have hT2 := (hT1.mdl hR2 hF2 ha ⟨_, hg1⟩).sc4 c1 c2
  have hg2 : g2 a = some (.inl (G.2.2.2 1, 1, .inr (.inl f))) := (hF2 a ha).trans hg1
  obtain ⟨-, -, -, F2, OL2, hcl2⟩ := id hf
  have W2w := (hZ _ _ _ hz).1
  have exy : y = x := by
    obtain ⟨v, hv, q, -⟩ := hf
    cases hv
    rcases q with ⟨q, -⟩ | ⟨j, e, q, -⟩
    · cases q; rfl
    · exact absurd q (by simp)
  exact ev_icmp_eq (tgt := 2387) dL_law_1029 (by decide) (fun _ => (k W2 C3 _ g2 W2w.2 ⟨F2, OL2, hT2, hD, hR2, ha, ⟨_, hg2⟩, W2w.1.trans h99, hcl2⟩)) (fun c => absurd exy c)
theorem lb_force {G : ev_G} {D0 : Nat} {W : cw_W} {V : mo_W} {a b L i bc bs b' n' : Nat} {xs : Nat → Int32} {B : Int} {g : ev_H} {C S : mo_S} {Post : ev_P} (hE : ev_En G) (h4 : ev_En4 G D0) (hN : la_N G) (hb : b < G.2.1.heap.size) (hX : va_X b L xs G.2.1 G.2.1.heap) (hL : L ≤ 3072) (hi : i + 6 ≤ L) (hA : la_T G D0 W V a B g C S) (hB : B ≤ 8000000) (hbc : b' + 24 ≤ bc) (hbs : n' + 4120 ≤ bs) (k : ∀ (W2 : cw_W) (C2 S2 : mo_S) (g2 : ev_H), W2 0 0 = W 0 0 → la_T G D0 W2 V a (B + 2000) g2 C2 S2 → ev_V G 66 b' n' mL_law Post g2 2387 [some (.ref b), some (.ref (W 0 0)), some (.ref V.1), some (.ref a), some (.int (nI i)), none, none] []) : ev_V G 66 bc bs mL_law Post g 1034 [some (.ref b), some (.ref (W 0 0)), some (.ref V.1), some (.ref a), some (.int (nI i)), none, none] [] := by
  obtain ⟨F, OL, hT, hD, hR, ha, ⟨f, hg⟩, h99, hcl⟩ := hA
  obtain ⟨Z, Q, mc, ms, hmc, hms, hc, hm, hZ, hfin⟩ := la_force (V := V) hE h4 h99 hcl hB (xs (i + 1))
  refine ev_aload_n dL_law_1034 rfl rfl ?_
  refine la_arg (jn := 1) hb hX hL hi (by decide) (by decide) dL_law_1035 dL_law_1036 dL_law_1038 dL_law_1039 dL_law_1040 rfl rfl ?_
  refine ev_aload_n dL_law_1041 rfl rfl ?_
  refine ev_callSH (d' := 65) (b := b' + (bc - b' - mc)) (k0 := n' + (bs - n' - ms)) (As := [.ref (W 0 0), .int (xs (i + 1)), .ref a]) (rest := []) dL_law_1042 rfl kL_force rfl lL_165 sL_force (Nat.le_of_ble_eq_true rfl) (by decide) (wr_force hE h4 hN hc (fun o W2 C2 z => (hZ o W2 C2 z).2) (Or.inr rfl) hT hg) (by omega) (by omega) (fun v g1 h => ?_) (fun e g1 h => by obtain ⟨o, W2, C2, k, f, h, -⟩ := h; cases h)
  refine ev_room (Nat.le_add_right b' _) (Nat.le_add_right n' _) ?_
  obtain ⟨o, W2, C2, y, f1, h, hz, hk, hT1, hK1, hg1⟩ := h
  cases h
  have hR1 := hR.cg (g2 := g1) (fun b hb => hK1 b (Or.inl hb) (fun z => ha (by rw [← z]; exact hb)))
  refine ev_istore (lv' := [some (.ref b), some (.ref (W 0 0)), some (.ref V.1), some (.ref a), some (.int (nI i)), some (.int y), none]) dL_law_1045 (Nat.le_of_ble_eq_true rfl) rfl ?_
  refine ev_aload_n dL_law_1047 rfl rfl ?_
  refine la_arg (jn := 1) hb hX hL hi (by decide) (by decide) dL_law_1048 dL_law_1049 dL_law_1051 dL_law_1052 dL_law_1053 rfl rfl ?_
  refine la_mc (d' := 64) (As := [.int (xs (i + 1))]) (rest := []) hE dL_law_1054 rfl kX12_force rfl lL_167 iX12_force vX12_force rfl (Nat.le_of_ble_eq_true rfl) (by decide) hD hR1 hm (fun g2 r S2 hq hR2 hF2 => ?_)
  obtain ⟨C3, c1, c2, hf⟩ := hfin o W2 C2 r S2 hz hq
  obtain ⟨x, rfl, -⟩ := id hf
  have hT2 := (hT1.mdl hR2 hF2 ha ⟨_, hg1⟩).sc4 c1 c2
  have hg2 : g2 a = some (.inl (G.2.2.2 1, 1, .inr (.inl f1))) := (hF2 a ha).trans hg1
  obtain ⟨-, -, -, F2, OL2, hcl2⟩ := id hf
  have W2w := (hZ _ _ _ hz).1
  obtain ⟨q1, q2⟩ := la_eq (by decide) la_d1 hk hf
  refine ev_istore (lv' := [some (.ref b), some (.ref (W 0 0)), some (.ref V.1), some (.ref a), some (.int (nI i)), some (.int y), some (.int x)]) dL_law_1057 (Nat.le_of_ble_eq_true rfl) rfl ?_
  refine ev_aload_n dL_law_1059 rfl rfl ?_
  refine la_mc (d' := 64) (As := []) (rest := []) hE dL_law_1060 rfl kX12_thrown rfl lL_120 iX12_thrown vX12_thrown rfl (Nat.le_of_ble_eq_true rfl) (by decide) hD hR2 (c_X12_thrown hE).r (fun g3 r3 S3 h3 hR3 hF3 => ?_)
  obtain ⟨rfl, rfl⟩ := h3
  have hT3 := hT2.mdl hR3 hF3 ha ⟨_, hg2⟩
  have hg3 : g3 a = some (.inl (G.2.2.2 1, 1, .inr (.inl f1))) := (hF3 a ha).trans hg2
  have fin : ev_V G 66 b' n' mL_law Post g3 2387 [some (.ref b), some (.ref (W 0 0)), some (.ref V.1), some (.ref a), some (.int (nI i)), some (.int y), some (.int x)] [] := ev_weak (lv' := [some (.ref b), some (.ref (W 0 0)), some (.ref V.1), some (.ref a), some (.int (nI i)), none, none]) rfl (fun j v hj => by
    match j, hj with
    | 0, hj => exact hj
    | 1, hj => exact hj
    | 2, hj => exact hj
    | 3, hj => exact hj
    | 4, hj => exact hj
    | 5, hj => exact absurd (Option.some.inj hj) (by simp)
    | 6, hj => exact absurd (Option.some.inj hj) (by simp)
    | j + 7, hj => exact absurd hj (by simp)) (k W2 C3 _ g3 W2w.2 ⟨F2, OL2, hT3, hD, hR3, ha, ⟨_, hg3⟩, W2w.1.trans h99, hcl2⟩)
  refine ev_iload dL_law_1063 rfl ?_
  refine ev_icmp_eq (tgt := 1070) dL_law_1065 (by decide) (fun c1 => ?_) (fun c1 => absurd q1 c1)
  refine ev_iload dL_law_1070 rfl ?_
  refine ev_if_ne (tgt := 1087) dL_law_1072 (by decide) (fun _ => ?_) (fun c2 => ?_)
  · exact ev_goto (tgt := 2387) dL_law_1087 (by decide) fin
  · refine ev_aload_n dL_law_1075 rfl rfl ?_
    refine ev_iconst (v := 0) dL_law_1076 (by decide) ?_
    refine ev_lald hE dL_law_1077 hg3 (vp_in_nI (n := 0) (by decide) (by decide)) ?_
    refine ev_iload dL_law_1078 rfl ?_
    refine ev_i2l dL_law_1080 ?_
    refine ev_lcmp dL_law_1081 ?_
    have e0 : f1 (0 : Int32).toNatClampNeg = x.toInt64 := q2 c2
    rw [e0, lg_same]
    exact ev_if_eq (tgt := 1087) dL_law_1082 (by decide) (fun _ => ev_goto (tgt := 2387) dL_law_1087 (by decide) fin) (fun c3 => absurd rfl c3)
theorem lb_tells {G : ev_G} {D0 : Nat} {W : cw_W} {V : mo_W} {a b L i bc bs b' n' : Nat} {xs : Nat → Int32} {B : Int} {g : ev_H} {C S : mo_S} {Post : ev_P} (hE : ev_En G) (h4 : ev_En4 G D0) (hN : la_N G) (hb : b < G.2.1.heap.size) (hX : va_X b L xs G.2.1 G.2.1.heap) (hL : L ≤ 3072) (hi : i + 6 ≤ L) (hA : la_T G D0 W V a B g C S) (hB : B ≤ 8000000) (hbc : b' + 24 ≤ bc) (hbs : n' + 4120 ≤ bs) (k : ∀ (W2 : cw_W) (C2 S2 : mo_S) (g2 : ev_H), W2 0 0 = W 0 0 → la_T G D0 W2 V a (B + 2000) g2 C2 S2 → ev_V G 66 b' n' mL_law Post g2 2387 [some (.ref b), some (.ref (W 0 0)), some (.ref V.1), some (.ref a), some (.int (nI i)), none, none] []) : ev_V G 66 bc bs mL_law Post g 1090 [some (.ref b), some (.ref (W 0 0)), some (.ref V.1), some (.ref a), some (.int (nI i)), none, none] [] := by
  obtain ⟨F, OL, hT, hD, hR, ha, ⟨f, hg⟩, h99, hcl⟩ := hA
  obtain ⟨Z, Q, mc, ms, hmc, hms, hc, hm, hZ, hfin⟩ := la_tells (V := V) hE h4 h99 hcl hB (xs (i + 1)) (xs (i + 2))
  refine ev_aload_n dL_law_1090 rfl rfl ?_
  refine la_arg (jn := 1) hb hX hL hi (by decide) (by decide) dL_law_1091 dL_law_1092 dL_law_1094 dL_law_1095 dL_law_1096 rfl rfl ?_
  refine la_arg (jn := 2) hb hX hL hi (by decide) (by decide) dL_law_1097 dL_law_1098 dL_law_1100 dL_law_1101 dL_law_1102 rfl rfl ?_
  refine ev_aload_n dL_law_1103 rfl rfl ?_
  refine ev_callSH (d' := 65) (b := b' + (bc - b' - mc)) (k0 := n' + (bs - n' - ms)) (As := [.ref (W 0 0), .int (xs (i + 1)), .int (xs (i + 2)), .ref a]) (rest := []) dL_law_1104 rfl kL_tells rfl lL_168 sL_tells (Nat.le_of_ble_eq_true rfl) (by decide) (wr_tells hE h4 hN hc (fun o W2 C2 z => (hZ o W2 C2 z).2) (Or.inr rfl) hT hg) (by omega) (by omega) (fun v g1 h => ?_) (fun e g1 h => by obtain ⟨o, W2, C2, k, f, h, -⟩ := h; cases h)
  refine ev_room (Nat.le_add_right b' _) (Nat.le_add_right n' _) ?_
  obtain ⟨o, W2, C2, y, f1, h, hz, hk, hT1, hK1, hg1⟩ := h
  cases h
  have hR1 := hR.cg (g2 := g1) (fun b hb => hK1 b (Or.inl hb) (fun z => ha (by rw [← z]; exact hb)))
  refine ev_istore (lv' := [some (.ref b), some (.ref (W 0 0)), some (.ref V.1), some (.ref a), some (.int (nI i)), some (.int y), none]) dL_law_1107 (Nat.le_of_ble_eq_true rfl) rfl ?_
  refine ev_aload_n dL_law_1109 rfl rfl ?_
  refine la_arg (jn := 1) hb hX hL hi (by decide) (by decide) dL_law_1110 dL_law_1111 dL_law_1113 dL_law_1114 dL_law_1115 rfl rfl ?_
  refine la_arg (jn := 2) hb hX hL hi (by decide) (by decide) dL_law_1116 dL_law_1117 dL_law_1119 dL_law_1120 dL_law_1121 rfl rfl ?_
  refine la_mc (d' := 64) (As := [.int (xs (i + 1)), .int (xs (i + 2))]) (rest := []) hE dL_law_1122 rfl kX12_tells rfl lL_170 iX12_tells vX12_tells rfl (Nat.le_of_ble_eq_true rfl) (by decide) hD hR1 hm (fun g2 r S2 hq hR2 hF2 => ?_)
  obtain ⟨C3, c1, c2, hf⟩ := hfin o W2 C2 r S2 hz hq
  obtain ⟨x, rfl, -⟩ := id hf
  have hT2 := (hT1.mdl hR2 hF2 ha ⟨_, hg1⟩).sc4 c1 c2
  have hg2 : g2 a = some (.inl (G.2.2.2 1, 1, .inr (.inl f1))) := (hF2 a ha).trans hg1
  obtain ⟨-, -, -, F2, OL2, hcl2⟩ := id hf
  have W2w := (hZ _ _ _ hz).1
  obtain ⟨q1, q2⟩ := la_eq (by decide) (la_d2 (by decide)) hk hf
  refine ev_istore (lv' := [some (.ref b), some (.ref (W 0 0)), some (.ref V.1), some (.ref a), some (.int (nI i)), some (.int y), some (.int x)]) dL_law_1125 (Nat.le_of_ble_eq_true rfl) rfl ?_
  refine ev_aload_n dL_law_1127 rfl rfl ?_
  refine la_mc (d' := 64) (As := []) (rest := []) hE dL_law_1128 rfl kX12_thrown rfl lL_120 iX12_thrown vX12_thrown rfl (Nat.le_of_ble_eq_true rfl) (by decide) hD hR2 (c_X12_thrown hE).r (fun g3 r3 S3 h3 hR3 hF3 => ?_)
  obtain ⟨rfl, rfl⟩ := h3
  have hT3 := hT2.mdl hR3 hF3 ha ⟨_, hg2⟩
  have hg3 : g3 a = some (.inl (G.2.2.2 1, 1, .inr (.inl f1))) := (hF3 a ha).trans hg2
  have fin : ev_V G 66 b' n' mL_law Post g3 2387 [some (.ref b), some (.ref (W 0 0)), some (.ref V.1), some (.ref a), some (.int (nI i)), some (.int y), some (.int x)] [] := ev_weak (lv' := [some (.ref b), some (.ref (W 0 0)), some (.ref V.1), some (.ref a), some (.int (nI i)), none, none]) rfl (fun j v hj => by
    match j, hj with
    | 0, hj => exact hj
    | 1, hj => exact hj
    | 2, hj => exact hj
    | 3, hj => exact hj
    | 4, hj => exact hj
    | 5, hj => exact absurd (Option.some.inj hj) (by simp)
    | 6, hj => exact absurd (Option.some.inj hj) (by simp)
    | j + 7, hj => exact absurd hj (by simp)) (k W2 C3 _ g3 W2w.2 ⟨F2, OL2, hT3, hD, hR3, ha, ⟨_, hg3⟩, W2w.1.trans h99, hcl2⟩)
  refine ev_iload dL_law_1131 rfl ?_
  refine ev_icmp_eq (tgt := 1138) dL_law_1133 (by decide) (fun c1 => ?_) (fun c1 => absurd q1 c1)
  refine ev_iload dL_law_1138 rfl ?_
  refine ev_if_ne (tgt := 1155) dL_law_1140 (by decide) (fun _ => ?_) (fun c2 => ?_)
  · exact ev_goto (tgt := 2387) dL_law_1155 (by decide) fin
  · refine ev_aload_n dL_law_1143 rfl rfl ?_
    refine ev_iconst (v := 0) dL_law_1144 (by decide) ?_
    refine ev_lald hE dL_law_1145 hg3 (vp_in_nI (n := 0) (by decide) (by decide)) ?_
    refine ev_iload dL_law_1146 rfl ?_
    refine ev_i2l dL_law_1148 ?_
    refine ev_lcmp dL_law_1149 ?_
    have e0 : f1 (0 : Int32).toNatClampNeg = x.toInt64 := q2 c2
    rw [e0, lg_same]
    exact ev_if_eq (tgt := 1155) dL_law_1150 (by decide) (fun _ => ev_goto (tgt := 2387) dL_law_1155 (by decide) fin) (fun c3 => absurd rfl c3)
theorem lb_bid {G : ev_G} {D0 : Nat} {W : cw_W} {V : mo_W} {a b L i bc bs b' n' : Nat} {xs : Nat → Int32} {B : Int} {g : ev_H} {C S : mo_S} {Post : ev_P} (hE : ev_En G) (h4 : ev_En4 G D0) (hN : la_N G) (hb : b < G.2.1.heap.size) (hX : va_X b L xs G.2.1 G.2.1.heap) (hL : L ≤ 3072) (hi : i + 6 ≤ L) (hA : la_T G D0 W V a B g C S) (hB : B ≤ 8000000) (hbc : b' + 24 ≤ bc) (hbs : n' + 4120 ≤ bs) (k : ∀ (W2 : cw_W) (C2 S2 : mo_S) (g2 : ev_H), W2 0 0 = W 0 0 → la_T G D0 W2 V a (B + 2000) g2 C2 S2 → ev_V G 66 b' n' mL_law Post g2 2387 [some (.ref b), some (.ref (W 0 0)), some (.ref V.1), some (.ref a), some (.int (nI i)), none, none] []) : ev_V G 66 bc bs mL_law Post g 1158 [some (.ref b), some (.ref (W 0 0)), some (.ref V.1), some (.ref a), some (.int (nI i)), none, none] [] := by
  obtain ⟨F, OL, hT, hD, hR, ha, ⟨f, hg⟩, h99, hcl⟩ := hA
  obtain ⟨Z, Q, mc, ms, hmc, hms, hc, hm, hZ, hfin⟩ := la_bid (V := V) hE h4 h99 hcl hB (xs (i + 1)) (xs (i + 2)) (xs (i + 3))
  refine ev_aload_n dL_law_1158 rfl rfl ?_
  refine la_arg (jn := 1) hb hX hL hi (by decide) (by decide) dL_law_1159 dL_law_1160 dL_law_1162 dL_law_1163 dL_law_1164 rfl rfl ?_
  refine la_arg (jn := 2) hb hX hL hi (by decide) (by decide) dL_law_1165 dL_law_1166 dL_law_1168 dL_law_1169 dL_law_1170 rfl rfl ?_
  refine la_arg (jn := 3) hb hX hL hi (by decide) (by decide) dL_law_1171 dL_law_1172 dL_law_1174 dL_law_1175 dL_law_1176 rfl rfl ?_
  refine ev_aload_n dL_law_1177 rfl rfl ?_
  refine ev_callSH (d' := 65) (b := b' + (bc - b' - mc)) (k0 := n' + (bs - n' - ms)) (As := [.ref (W 0 0), .int (xs (i + 1)), .int (xs (i + 2)), .int (xs (i + 3)), .ref a]) (rest := []) dL_law_1178 rfl kL_bid rfl lL_171 sL_bid (Nat.le_of_ble_eq_true rfl) (by decide) (wr_bid hE h4 hN hc (fun o W2 C2 z => (hZ o W2 C2 z).2) (Or.inr rfl) hT hg) (by omega) (by omega) (fun v g1 h => ?_) (fun e g1 h => by obtain ⟨o, W2, C2, k, f, h, -⟩ := h; cases h)
  refine ev_room (Nat.le_add_right b' _) (Nat.le_add_right n' _) ?_
  obtain ⟨o, W2, C2, y, f1, h, hz, hk, hT1, hK1, hg1⟩ := h
  cases h
  have hR1 := hR.cg (g2 := g1) (fun b hb => hK1 b (Or.inl hb) (fun z => ha (by rw [← z]; exact hb)))
  refine ev_istore (lv' := [some (.ref b), some (.ref (W 0 0)), some (.ref V.1), some (.ref a), some (.int (nI i)), some (.int y), none]) dL_law_1181 (Nat.le_of_ble_eq_true rfl) rfl ?_
  refine ev_aload_n dL_law_1183 rfl rfl ?_
  refine la_arg (jn := 1) hb hX hL hi (by decide) (by decide) dL_law_1184 dL_law_1185 dL_law_1187 dL_law_1188 dL_law_1189 rfl rfl ?_
  refine la_arg (jn := 2) hb hX hL hi (by decide) (by decide) dL_law_1190 dL_law_1191 dL_law_1193 dL_law_1194 dL_law_1195 rfl rfl ?_
  refine la_arg (jn := 3) hb hX hL hi (by decide) (by decide) dL_law_1196 dL_law_1197 dL_law_1199 dL_law_1200 dL_law_1201 rfl rfl ?_
  refine la_mc (d' := 64) (As := [.int (xs (i + 1)), .int (xs (i + 2)), .int (xs (i + 3))]) (rest := []) hE dL_law_1202 rfl kX12_bid rfl lL_173 iX12_bid vX12_bid rfl (Nat.le_of_ble_eq_true rfl) (by decide) hD hR1 hm (fun g2 r S2 hq hR2 hF2 => ?_)
  obtain ⟨C3, c1, c2, hf⟩ := hfin o W2 C2 r S2 hz hq
  obtain ⟨x, rfl, -⟩ := id hf
  have hT2 := (hT1.mdl hR2 hF2 ha ⟨_, hg1⟩).sc4 c1 c2
  have hg2 : g2 a = some (.inl (G.2.2.2 1, 1, .inr (.inl f1))) := (hF2 a ha).trans hg1
  obtain ⟨-, -, -, F2, OL2, hcl2⟩ := id hf
  have W2w := (hZ _ _ _ hz).1
  obtain ⟨q1, q2⟩ := la_eq (by decide) (la_d2 (by decide)) hk hf
  refine ev_istore (lv' := [some (.ref b), some (.ref (W 0 0)), some (.ref V.1), some (.ref a), some (.int (nI i)), some (.int y), some (.int x)]) dL_law_1205 (Nat.le_of_ble_eq_true rfl) rfl ?_
  refine ev_aload_n dL_law_1207 rfl rfl ?_
  refine la_mc (d' := 64) (As := []) (rest := []) hE dL_law_1208 rfl kX12_thrown rfl lL_120 iX12_thrown vX12_thrown rfl (Nat.le_of_ble_eq_true rfl) (by decide) hD hR2 (c_X12_thrown hE).r (fun g3 r3 S3 h3 hR3 hF3 => ?_)
  obtain ⟨rfl, rfl⟩ := h3
  have hT3 := hT2.mdl hR3 hF3 ha ⟨_, hg2⟩
  have hg3 : g3 a = some (.inl (G.2.2.2 1, 1, .inr (.inl f1))) := (hF3 a ha).trans hg2
  have fin : ev_V G 66 b' n' mL_law Post g3 2387 [some (.ref b), some (.ref (W 0 0)), some (.ref V.1), some (.ref a), some (.int (nI i)), some (.int y), some (.int x)] [] := ev_weak (lv' := [some (.ref b), some (.ref (W 0 0)), some (.ref V.1), some (.ref a), some (.int (nI i)), none, none]) rfl (fun j v hj => by
    match j, hj with
    | 0, hj => exact hj
    | 1, hj => exact hj
    | 2, hj => exact hj
    | 3, hj => exact hj
    | 4, hj => exact hj
    | 5, hj => exact absurd (Option.some.inj hj) (by simp)
    | 6, hj => exact absurd (Option.some.inj hj) (by simp)
    | j + 7, hj => exact absurd hj (by simp)) (k W2 C3 _ g3 W2w.2 ⟨F2, OL2, hT3, hD, hR3, ha, ⟨_, hg3⟩, W2w.1.trans h99, hcl2⟩)
  refine ev_iload dL_law_1211 rfl ?_
  refine ev_icmp_eq (tgt := 1218) dL_law_1213 (by decide) (fun c1 => ?_) (fun c1 => absurd q1 c1)
  refine ev_iload dL_law_1218 rfl ?_
  refine ev_if_ne (tgt := 1235) dL_law_1220 (by decide) (fun _ => ?_) (fun c2 => ?_)
  · exact ev_goto (tgt := 2387) dL_law_1235 (by decide) fin
  · refine ev_aload_n dL_law_1223 rfl rfl ?_
    refine ev_iconst (v := 0) dL_law_1224 (by decide) ?_
    refine ev_lald hE dL_law_1225 hg3 (vp_in_nI (n := 0) (by decide) (by decide)) ?_
    refine ev_iload dL_law_1226 rfl ?_
    refine ev_i2l dL_law_1228 ?_
    refine ev_lcmp dL_law_1229 ?_
    have e0 : f1 (0 : Int32).toNatClampNeg = x.toInt64 := q2 c2
    rw [e0, lg_same]
    exact ev_if_eq (tgt := 1235) dL_law_1230 (by decide) (fun _ => ev_goto (tgt := 2387) dL_law_1235 (by decide) fin) (fun c3 => absurd rfl c3)
theorem lb_parted {G : ev_G} {D0 : Nat} {W : cw_W} {V : mo_W} {a b L i bc bs b' n' : Nat} {xs : Nat → Int32} {B : Int} {g : ev_H} {C S : mo_S} {Post : ev_P} (hE : ev_En G) (h4 : ev_En4 G D0) (hN : la_N G) (hb : b < G.2.1.heap.size) (hX : va_X b L xs G.2.1 G.2.1.heap) (hL : L ≤ 3072) (hi : i + 6 ≤ L) (hA : la_T G D0 W V a B g C S) (hB : B ≤ 8000000) (hbc : b' + 24 ≤ bc) (hbs : n' + 4120 ≤ bs) (k : ∀ (W2 : cw_W) (C2 S2 : mo_S) (g2 : ev_H), W2 0 0 = W 0 0 → la_T G D0 W2 V a (B + 2000) g2 C2 S2 → ev_V G 66 b' n' mL_law Post g2 2387 [some (.ref b), some (.ref (W 0 0)), some (.ref V.1), some (.ref a), some (.int (nI i)), none, none] []) : ev_V G 66 bc bs mL_law Post g 1238 [some (.ref b), some (.ref (W 0 0)), some (.ref V.1), some (.ref a), some (.int (nI i)), none, none] [] := by
  obtain ⟨F, OL, hT, hD, hR, ha, ⟨f, hg⟩, h99, hcl⟩ := hA
  obtain ⟨Z, Q, mc, ms, hmc, hms, hc, hm, hZ, hfin⟩ := la_parted (V := V) hE h4 h99 hcl hB (xs (i + 1)) (xs (i + 2))
  refine ev_aload_n dL_law_1238 rfl rfl ?_
  refine la_arg (jn := 1) hb hX hL hi (by decide) (by decide) dL_law_1239 dL_law_1240 dL_law_1242 dL_law_1243 dL_law_1244 rfl rfl ?_
  refine la_arg (jn := 2) hb hX hL hi (by decide) (by decide) dL_law_1245 dL_law_1246 dL_law_1248 dL_law_1249 dL_law_1250 rfl rfl ?_
  refine ev_aload_n dL_law_1251 rfl rfl ?_
  refine ev_callSH (d' := 65) (b := b' + (bc - b' - mc)) (k0 := n' + (bs - n' - ms)) (As := [.ref (W 0 0), .int (xs (i + 1)), .int (xs (i + 2)), .ref a]) (rest := []) dL_law_1252 rfl kL_parted rfl lL_174 sL_parted (Nat.le_of_ble_eq_true rfl) (by decide) (wr_parted hE h4 hN hc (fun o W2 C2 z => (hZ o W2 C2 z).2) (Or.inr rfl) hT hg) (by omega) (by omega) (fun v g1 h => ?_) (fun e g1 h => by obtain ⟨o, W2, C2, k, f, h, -⟩ := h; cases h)
  refine ev_room (Nat.le_add_right b' _) (Nat.le_add_right n' _) ?_
  obtain ⟨o, W2, C2, y, f1, h, hz, hk, hT1, hK1, hg1⟩ := h
  cases h
  have hR1 := hR.cg (g2 := g1) (fun b hb => hK1 b (Or.inl hb) (fun z => ha (by rw [← z]; exact hb)))
  refine ev_istore (lv' := [some (.ref b), some (.ref (W 0 0)), some (.ref V.1), some (.ref a), some (.int (nI i)), some (.int y), none]) dL_law_1255 (Nat.le_of_ble_eq_true rfl) rfl ?_
  refine ev_aload_n dL_law_1257 rfl rfl ?_
  refine la_arg (jn := 1) hb hX hL hi (by decide) (by decide) dL_law_1258 dL_law_1259 dL_law_1261 dL_law_1262 dL_law_1263 rfl rfl ?_
  refine la_arg (jn := 2) hb hX hL hi (by decide) (by decide) dL_law_1264 dL_law_1265 dL_law_1267 dL_law_1268 dL_law_1269 rfl rfl ?_
  refine la_mc (d' := 64) (As := [.int (xs (i + 1)), .int (xs (i + 2))]) (rest := []) hE dL_law_1270 rfl kX12_parted rfl lL_176 iX12_parted vX12_parted rfl (Nat.le_of_ble_eq_true rfl) (by decide) hD hR1 hm (fun g2 r S2 hq hR2 hF2 => ?_)
  obtain ⟨C3, c1, c2, hf⟩ := hfin o W2 C2 r S2 hz hq
  obtain ⟨x, rfl, -⟩ := id hf
  have hT2 := (hT1.mdl hR2 hF2 ha ⟨_, hg1⟩).sc4 c1 c2
  have hg2 : g2 a = some (.inl (G.2.2.2 1, 1, .inr (.inl f1))) := (hF2 a ha).trans hg1
  obtain ⟨-, -, -, F2, OL2, hcl2⟩ := id hf
  have W2w := (hZ _ _ _ hz).1
  obtain ⟨q1, q2⟩ := la_eq (by decide) (la_d2 (by decide)) hk hf
  refine ev_istore (lv' := [some (.ref b), some (.ref (W 0 0)), some (.ref V.1), some (.ref a), some (.int (nI i)), some (.int y), some (.int x)]) dL_law_1273 (Nat.le_of_ble_eq_true rfl) rfl ?_
  refine ev_aload_n dL_law_1275 rfl rfl ?_
  refine la_mc (d' := 64) (As := []) (rest := []) hE dL_law_1276 rfl kX12_thrown rfl lL_120 iX12_thrown vX12_thrown rfl (Nat.le_of_ble_eq_true rfl) (by decide) hD hR2 (c_X12_thrown hE).r (fun g3 r3 S3 h3 hR3 hF3 => ?_)
  obtain ⟨rfl, rfl⟩ := h3
  have hT3 := hT2.mdl hR3 hF3 ha ⟨_, hg2⟩
  have hg3 : g3 a = some (.inl (G.2.2.2 1, 1, .inr (.inl f1))) := (hF3 a ha).trans hg2
  have fin : ev_V G 66 b' n' mL_law Post g3 2387 [some (.ref b), some (.ref (W 0 0)), some (.ref V.1), some (.ref a), some (.int (nI i)), some (.int y), some (.int x)] [] := ev_weak (lv' := [some (.ref b), some (.ref (W 0 0)), some (.ref V.1), some (.ref a), some (.int (nI i)), none, none]) rfl (fun j v hj => by
    match j, hj with
    | 0, hj => exact hj
    | 1, hj => exact hj
    | 2, hj => exact hj
    | 3, hj => exact hj
    | 4, hj => exact hj
    | 5, hj => exact absurd (Option.some.inj hj) (by simp)
    | 6, hj => exact absurd (Option.some.inj hj) (by simp)
    | j + 7, hj => exact absurd hj (by simp)) (k W2 C3 _ g3 W2w.2 ⟨F2, OL2, hT3, hD, hR3, ha, ⟨_, hg3⟩, W2w.1.trans h99, hcl2⟩)
  refine ev_iload dL_law_1279 rfl ?_
  refine ev_icmp_eq (tgt := 1286) dL_law_1281 (by decide) (fun c1 => ?_) (fun c1 => absurd q1 c1)
  refine ev_iload dL_law_1286 rfl ?_
  refine ev_if_ne (tgt := 1303) dL_law_1288 (by decide) (fun _ => ?_) (fun c2 => ?_)
  · exact ev_goto (tgt := 2387) dL_law_1303 (by decide) fin
  · refine ev_aload_n dL_law_1291 rfl rfl ?_
    refine ev_iconst (v := 0) dL_law_1292 (by decide) ?_
    refine ev_lald hE dL_law_1293 hg3 (vp_in_nI (n := 0) (by decide) (by decide)) ?_
    refine ev_iload dL_law_1294 rfl ?_
    refine ev_i2l dL_law_1296 ?_
    refine ev_lcmp dL_law_1297 ?_
    have e0 : f1 (0 : Int32).toNatClampNeg = x.toInt64 := q2 c2
    rw [e0, lg_same]
    exact ev_if_eq (tgt := 1303) dL_law_1298 (by decide) (fun _ => ev_goto (tgt := 2387) dL_law_1303 (by decide) fin) (fun c3 => absurd rfl c3)
theorem lb_months {G : ev_G} {D0 : Nat} {W : cw_W} {V : mo_W} {a b L i bc bs b' n' : Nat} {xs : Nat → Int32} {B : Int} {g : ev_H} {C S : mo_S} {Post : ev_P} (hE : ev_En G) (h4 : ev_En4 G D0) (hN : la_N G) (hb : b < G.2.1.heap.size) (hX : va_X b L xs G.2.1 G.2.1.heap) (hL : L ≤ 3072) (hi : i + 6 ≤ L) (hA : la_T G D0 W V a B g C S) (hB : B ≤ 8000000) (hbc : b' + 24 ≤ bc) (hbs : n' + 4120 ≤ bs) (k : ∀ (W2 : cw_W) (C2 S2 : mo_S) (g2 : ev_H), W2 0 0 = W 0 0 → la_T G D0 W2 V a (B + 2000) g2 C2 S2 → ev_V G 66 b' n' mL_law Post g2 2387 [some (.ref b), some (.ref (W 0 0)), some (.ref V.1), some (.ref a), some (.int (nI i)), none, none] []) : ev_V G 66 bc bs mL_law Post g 1306 [some (.ref b), some (.ref (W 0 0)), some (.ref V.1), some (.ref a), some (.int (nI i)), none, none] [] := by
  obtain ⟨F, OL, hT, hD, hR, ha, ⟨f, hg⟩, h99, hcl⟩ := hA
  obtain ⟨Z, Q, mc, ms, hmc, hms, hc, hm, hZ, hfin⟩ := la_months (V := V) hE h4 h99 hcl hB (xs (i + 1))
  refine ev_aload_n dL_law_1306 rfl rfl ?_
  refine la_arg (jn := 1) hb hX hL hi (by decide) (by decide) dL_law_1307 dL_law_1308 dL_law_1310 dL_law_1311 dL_law_1312 rfl rfl ?_
  refine ev_aload_n dL_law_1313 rfl rfl ?_
  refine ev_callSH (d' := 65) (b := b' + (bc - b' - mc)) (k0 := n' + (bs - n' - ms)) (As := [.ref (W 0 0), .int (xs (i + 1)), .ref a]) (rest := []) dL_law_1314 rfl kL_months rfl lL_177 sL_months (Nat.le_of_ble_eq_true rfl) (by decide) (wr_months hE h4 hN hc (fun o W2 C2 z => (hZ o W2 C2 z).2) (Or.inr rfl) hT hg) (by omega) (by omega) (fun v g1 h => ?_) (fun e g1 h => by obtain ⟨o, W2, C2, k, f, h, -⟩ := h; cases h)
  refine ev_room (Nat.le_add_right b' _) (Nat.le_add_right n' _) ?_
  obtain ⟨o, W2, C2, y, f1, h, hz, hk, hT1, hK1, hg1⟩ := h
  cases h
  have hR1 := hR.cg (g2 := g1) (fun b hb => hK1 b (Or.inl hb) (fun z => ha (by rw [← z]; exact hb)))
  refine ev_istore (lv' := [some (.ref b), some (.ref (W 0 0)), some (.ref V.1), some (.ref a), some (.int (nI i)), some (.int y), none]) dL_law_1317 (Nat.le_of_ble_eq_true rfl) rfl ?_
  refine ev_aload_n dL_law_1319 rfl rfl ?_
  refine la_arg (jn := 1) hb hX hL hi (by decide) (by decide) dL_law_1320 dL_law_1321 dL_law_1323 dL_law_1324 dL_law_1325 rfl rfl ?_
  refine la_mc (d' := 64) (As := [.int (xs (i + 1))]) (rest := []) hE dL_law_1326 rfl kX12_months rfl lL_179 iX12_months vX12_months rfl (Nat.le_of_ble_eq_true rfl) (by decide) hD hR1 hm (fun g2 r S2 hq hR2 hF2 => ?_)
  obtain ⟨C3, c1, c2, hf⟩ := hfin o W2 C2 r S2 hz hq
  obtain ⟨x, rfl, -⟩ := id hf
  have hT2 := (hT1.mdl hR2 hF2 ha ⟨_, hg1⟩).sc4 c1 c2
  have hg2 : g2 a = some (.inl (G.2.2.2 1, 1, .inr (.inl f1))) := (hF2 a ha).trans hg1
  obtain ⟨-, -, -, F2, OL2, hcl2⟩ := id hf
  have W2w := (hZ _ _ _ hz).1
  obtain ⟨q1, q2⟩ := la_eq (by decide) (la_d2 (by decide)) hk hf
  refine ev_istore (lv' := [some (.ref b), some (.ref (W 0 0)), some (.ref V.1), some (.ref a), some (.int (nI i)), some (.int y), some (.int x)]) dL_law_1329 (Nat.le_of_ble_eq_true rfl) rfl ?_
  refine ev_aload_n dL_law_1331 rfl rfl ?_
  refine la_mc (d' := 64) (As := []) (rest := []) hE dL_law_1332 rfl kX12_thrown rfl lL_120 iX12_thrown vX12_thrown rfl (Nat.le_of_ble_eq_true rfl) (by decide) hD hR2 (c_X12_thrown hE).r (fun g3 r3 S3 h3 hR3 hF3 => ?_)
  obtain ⟨rfl, rfl⟩ := h3
  have hT3 := hT2.mdl hR3 hF3 ha ⟨_, hg2⟩
  have hg3 : g3 a = some (.inl (G.2.2.2 1, 1, .inr (.inl f1))) := (hF3 a ha).trans hg2
  have fin : ev_V G 66 b' n' mL_law Post g3 2387 [some (.ref b), some (.ref (W 0 0)), some (.ref V.1), some (.ref a), some (.int (nI i)), some (.int y), some (.int x)] [] := ev_weak (lv' := [some (.ref b), some (.ref (W 0 0)), some (.ref V.1), some (.ref a), some (.int (nI i)), none, none]) rfl (fun j v hj => by
    match j, hj with
    | 0, hj => exact hj
    | 1, hj => exact hj
    | 2, hj => exact hj
    | 3, hj => exact hj
    | 4, hj => exact hj
    | 5, hj => exact absurd (Option.some.inj hj) (by simp)
    | 6, hj => exact absurd (Option.some.inj hj) (by simp)
    | j + 7, hj => exact absurd hj (by simp)) (k W2 C3 _ g3 W2w.2 ⟨F2, OL2, hT3, hD, hR3, ha, ⟨_, hg3⟩, W2w.1.trans h99, hcl2⟩)
  refine ev_iload dL_law_1335 rfl ?_
  refine ev_icmp_eq (tgt := 1342) dL_law_1337 (by decide) (fun c1 => ?_) (fun c1 => absurd q1 c1)
  refine ev_iload dL_law_1342 rfl ?_
  refine ev_if_ne (tgt := 1359) dL_law_1344 (by decide) (fun _ => ?_) (fun c2 => ?_)
  · exact ev_goto (tgt := 2387) dL_law_1359 (by decide) fin
  · refine ev_aload_n dL_law_1347 rfl rfl ?_
    refine ev_iconst (v := 0) dL_law_1348 (by decide) ?_
    refine ev_lald hE dL_law_1349 hg3 (vp_in_nI (n := 0) (by decide) (by decide)) ?_
    refine ev_iload dL_law_1350 rfl ?_
    refine ev_i2l dL_law_1352 ?_
    refine ev_lcmp dL_law_1353 ?_
    have e0 : f1 (0 : Int32).toNatClampNeg = x.toInt64 := q2 c2
    rw [e0, lg_same]
    exact ev_if_eq (tgt := 1359) dL_law_1354 (by decide) (fun _ => ev_goto (tgt := 2387) dL_law_1359 (by decide) fin) (fun c3 => absurd rfl c3)
theorem lb_swap {G : ev_G} {D0 : Nat} {W : cw_W} {V : mo_W} {a b L i bc bs b' n' : Nat} {xs : Nat → Int32} {B : Int} {g : ev_H} {C S : mo_S} {Post : ev_P} (hE : ev_En G) (h4 : ev_En4 G D0) (hN : la_N G) (hb : b < G.2.1.heap.size) (hX : va_X b L xs G.2.1 G.2.1.heap) (hL : L ≤ 3072) (hi : i + 6 ≤ L) (hA : la_T G D0 W V a B g C S) (hB : B ≤ 8000000) (hbc : b' + 24 ≤ bc) (hbs : n' + 4120 ≤ bs) (k : ∀ (W2 : cw_W) (C2 S2 : mo_S) (g2 : ev_H), W2 0 0 = W 0 0 → la_T G D0 W2 V a (B + 2000) g2 C2 S2 → ev_V G 66 b' n' mL_law Post g2 2387 [some (.ref b), some (.ref (W 0 0)), some (.ref V.1), some (.ref a), some (.int (nI i)), none, none] []) : ev_V G 66 bc bs mL_law Post g 1362 [some (.ref b), some (.ref (W 0 0)), some (.ref V.1), some (.ref a), some (.int (nI i)), none, none] [] := by
  obtain ⟨F, OL, hT, hD, hR, ha, ⟨f, hg⟩, h99, hcl⟩ := hA
  obtain ⟨Z, Q, mc, ms, hmc, hms, hc, hm, hZ, hfin⟩ := la_swap (V := V) hE h4 h99 hcl hB (xs (i + 1)) (xs (i + 2)) (xs (i + 3))
  refine ev_aload_n dL_law_1362 rfl rfl ?_
  refine la_arg (jn := 1) hb hX hL hi (by decide) (by decide) dL_law_1363 dL_law_1364 dL_law_1366 dL_law_1367 dL_law_1368 rfl rfl ?_
  refine la_arg (jn := 2) hb hX hL hi (by decide) (by decide) dL_law_1369 dL_law_1370 dL_law_1372 dL_law_1373 dL_law_1374 rfl rfl ?_
  refine la_arg (jn := 3) hb hX hL hi (by decide) (by decide) dL_law_1375 dL_law_1376 dL_law_1378 dL_law_1379 dL_law_1380 rfl rfl ?_
  refine ev_aload_n dL_law_1381 rfl rfl ?_
  refine ev_callSH (d' := 65) (b := b' + (bc - b' - mc)) (k0 := n' + (bs - n' - ms)) (As := [.ref (W 0 0), .int (xs (i + 1)), .int (xs (i + 2)), .int (xs (i + 3)), .ref a]) (rest := []) dL_law_1382 rfl kL_swap rfl lL_180 sL_swap (Nat.le_of_ble_eq_true rfl) (by decide) (wr_swap hE h4 hN hc (fun o W2 C2 z => (hZ o W2 C2 z).2) (Or.inr rfl) hT hg) (by omega) (by omega) (fun v g1 h => ?_) (fun e g1 h => by obtain ⟨o, W2, C2, k, f, h, -⟩ := h; cases h)
  refine ev_room (Nat.le_add_right b' _) (Nat.le_add_right n' _) ?_
  obtain ⟨o, W2, C2, y, f1, h, hz, hk, hT1, hK1, hg1⟩ := h
  cases h
  have hR1 := hR.cg (g2 := g1) (fun b hb => hK1 b (Or.inl hb) (fun z => ha (by rw [← z]; exact hb)))
  refine ev_istore (lv' := [some (.ref b), some (.ref (W 0 0)), some (.ref V.1), some (.ref a), some (.int (nI i)), some (.int y), none]) dL_law_1385 (Nat.le_of_ble_eq_true rfl) rfl ?_
  refine ev_aload_n dL_law_1387 rfl rfl ?_
  refine la_arg (jn := 1) hb hX hL hi (by decide) (by decide) dL_law_1388 dL_law_1389 dL_law_1391 dL_law_1392 dL_law_1393 rfl rfl ?_
  refine la_arg (jn := 2) hb hX hL hi (by decide) (by decide) dL_law_1394 dL_law_1395 dL_law_1397 dL_law_1398 dL_law_1399 rfl rfl ?_
  refine la_arg (jn := 3) hb hX hL hi (by decide) (by decide) dL_law_1400 dL_law_1401 dL_law_1403 dL_law_1404 dL_law_1405 rfl rfl ?_
  refine la_mc (d' := 64) (As := [.int (xs (i + 1)), .int (xs (i + 2)), .int (xs (i + 3))]) (rest := []) hE dL_law_1406 rfl kX12_swap rfl lL_182 iX12_swap vX12_swap rfl (Nat.le_of_ble_eq_true rfl) (by decide) hD hR1 hm (fun g2 r S2 hq hR2 hF2 => ?_)
  obtain ⟨C3, c1, c2, hf⟩ := hfin o W2 C2 r S2 hz hq
  obtain ⟨x, rfl, -⟩ := id hf
  have hT2 := (hT1.mdl hR2 hF2 ha ⟨_, hg1⟩).sc4 c1 c2
  have hg2 : g2 a = some (.inl (G.2.2.2 1, 1, .inr (.inl f1))) := (hF2 a ha).trans hg1
  obtain ⟨-, -, -, F2, OL2, hcl2⟩ := id hf
  have W2w := (hZ _ _ _ hz).1
  obtain ⟨q1, q2⟩ := la_eq (by decide) (la_d2 (by decide)) hk hf
  refine ev_istore (lv' := [some (.ref b), some (.ref (W 0 0)), some (.ref V.1), some (.ref a), some (.int (nI i)), some (.int y), some (.int x)]) dL_law_1409 (Nat.le_of_ble_eq_true rfl) rfl ?_
  refine ev_aload_n dL_law_1411 rfl rfl ?_
  refine la_mc (d' := 64) (As := []) (rest := []) hE dL_law_1412 rfl kX12_thrown rfl lL_120 iX12_thrown vX12_thrown rfl (Nat.le_of_ble_eq_true rfl) (by decide) hD hR2 (c_X12_thrown hE).r (fun g3 r3 S3 h3 hR3 hF3 => ?_)
  obtain ⟨rfl, rfl⟩ := h3
  have hT3 := hT2.mdl hR3 hF3 ha ⟨_, hg2⟩
  have hg3 : g3 a = some (.inl (G.2.2.2 1, 1, .inr (.inl f1))) := (hF3 a ha).trans hg2
  have fin : ev_V G 66 b' n' mL_law Post g3 2387 [some (.ref b), some (.ref (W 0 0)), some (.ref V.1), some (.ref a), some (.int (nI i)), some (.int y), some (.int x)] [] := ev_weak (lv' := [some (.ref b), some (.ref (W 0 0)), some (.ref V.1), some (.ref a), some (.int (nI i)), none, none]) rfl (fun j v hj => by
    match j, hj with
    | 0, hj => exact hj
    | 1, hj => exact hj
    | 2, hj => exact hj
    | 3, hj => exact hj
    | 4, hj => exact hj
    | 5, hj => exact absurd (Option.some.inj hj) (by simp)
    | 6, hj => exact absurd (Option.some.inj hj) (by simp)
    | j + 7, hj => exact absurd hj (by simp)) (k W2 C3 _ g3 W2w.2 ⟨F2, OL2, hT3, hD, hR3, ha, ⟨_, hg3⟩, W2w.1.trans h99, hcl2⟩)
  refine ev_iload dL_law_1415 rfl ?_
  refine ev_icmp_eq (tgt := 1422) dL_law_1417 (by decide) (fun c1 => ?_) (fun c1 => absurd q1 c1)
  refine ev_iload dL_law_1422 rfl ?_
  refine ev_if_ne (tgt := 1439) dL_law_1424 (by decide) (fun _ => ?_) (fun c2 => ?_)
  · exact ev_goto (tgt := 2387) dL_law_1439 (by decide) fin
  · refine ev_aload_n dL_law_1427 rfl rfl ?_
    refine ev_iconst (v := 0) dL_law_1428 (by decide) ?_
    refine ev_lald hE dL_law_1429 hg3 (vp_in_nI (n := 0) (by decide) (by decide)) ?_
    refine ev_iload dL_law_1430 rfl ?_
    refine ev_i2l dL_law_1432 ?_
    refine ev_lcmp dL_law_1433 ?_
    have e0 : f1 (0 : Int32).toNatClampNeg = x.toInt64 := q2 c2
    rw [e0, lg_same]
    exact ev_if_eq (tgt := 1439) dL_law_1434 (by decide) (fun _ => ev_goto (tgt := 2387) dL_law_1439 (by decide) fin) (fun c3 => absurd rfl c3)
theorem lb_netted {G : ev_G} {D0 : Nat} {W : cw_W} {V : mo_W} {a b L i bc bs b' n' : Nat} {xs : Nat → Int32} {B : Int} {g : ev_H} {C S : mo_S} {Post : ev_P} (hE : ev_En G) (h4 : ev_En4 G D0) (hN : la_N G) (hb : b < G.2.1.heap.size) (hX : va_X b L xs G.2.1 G.2.1.heap) (hL : L ≤ 3072) (hi : i + 6 ≤ L) (hA : la_T G D0 W V a B g C S) (hB : B ≤ 8000000) (hbc : b' + 24 ≤ bc) (hbs : n' + 4120 ≤ bs) (k : ∀ (W2 : cw_W) (C2 S2 : mo_S) (g2 : ev_H), W2 0 0 = W 0 0 → la_T G D0 W2 V a (B + 2000) g2 C2 S2 → ev_V G 66 b' n' mL_law Post g2 2387 [some (.ref b), some (.ref (W 0 0)), some (.ref V.1), some (.ref a), some (.int (nI i)), none, none] []) : ev_V G 66 bc bs mL_law Post g 1442 [some (.ref b), some (.ref (W 0 0)), some (.ref V.1), some (.ref a), some (.int (nI i)), none, none] [] := by
  obtain ⟨F, OL, hT, hD, hR, ha, ⟨f, hg⟩, h99, hcl⟩ := hA
  obtain ⟨Z, Q, mc, ms, hmc, hms, hc, hm, hZ, hfin⟩ := la_netted (V := V) hE h4 h99 hcl hB (xs (i + 1)) (xs (i + 2))
  refine ev_aload_n dL_law_1442 rfl rfl ?_
  refine la_arg (jn := 1) hb hX hL hi (by decide) (by decide) dL_law_1443 dL_law_1444 dL_law_1446 dL_law_1447 dL_law_1448 rfl rfl ?_
  refine la_arg (jn := 2) hb hX hL hi (by decide) (by decide) dL_law_1449 dL_law_1450 dL_law_1452 dL_law_1453 dL_law_1454 rfl rfl ?_
  refine ev_aload_n dL_law_1455 rfl rfl ?_
  refine ev_callSH (d' := 65) (b := b' + (bc - b' - mc)) (k0 := n' + (bs - n' - ms)) (As := [.ref (W 0 0), .int (xs (i + 1)), .int (xs (i + 2)), .ref a]) (rest := []) dL_law_1456 rfl kL_netted rfl lL_183 sL_netted (Nat.le_of_ble_eq_true rfl) (by decide) (wr_netted hE h4 hN hc (fun o W2 C2 z => (hZ o W2 C2 z).2) (Or.inr rfl) hT hg) (by omega) (by omega) (fun v g1 h => ?_) (fun e g1 h => by obtain ⟨o, W2, C2, k, f, h, -⟩ := h; cases h)
  refine ev_room (Nat.le_add_right b' _) (Nat.le_add_right n' _) ?_
  obtain ⟨o, W2, C2, y, f1, h, hz, hk, hT1, hK1, hg1⟩ := h
  cases h
  have hR1 := hR.cg (g2 := g1) (fun b hb => hK1 b (Or.inl hb) (fun z => ha (by rw [← z]; exact hb)))
  refine ev_istore (lv' := [some (.ref b), some (.ref (W 0 0)), some (.ref V.1), some (.ref a), some (.int (nI i)), some (.int y), none]) dL_law_1459 (Nat.le_of_ble_eq_true rfl) rfl ?_
  refine ev_aload_n dL_law_1461 rfl rfl ?_
  refine la_arg (jn := 1) hb hX hL hi (by decide) (by decide) dL_law_1462 dL_law_1463 dL_law_1465 dL_law_1466 dL_law_1467 rfl rfl ?_
  refine la_arg (jn := 2) hb hX hL hi (by decide) (by decide) dL_law_1468 dL_law_1469 dL_law_1471 dL_law_1472 dL_law_1473 rfl rfl ?_
  refine la_mc (d' := 64) (As := [.int (xs (i + 1)), .int (xs (i + 2))]) (rest := []) hE dL_law_1474 rfl kX12_netted rfl lL_185 iX12_netted vX12_netted rfl (Nat.le_of_ble_eq_true rfl) (by decide) hD hR1 hm (fun g2 r S2 hq hR2 hF2 => ?_)
  obtain ⟨C3, c1, c2, hf⟩ := hfin o W2 C2 r S2 hz hq
  obtain ⟨x, rfl, -⟩ := id hf
  have hT2 := (hT1.mdl hR2 hF2 ha ⟨_, hg1⟩).sc4 c1 c2
  have hg2 : g2 a = some (.inl (G.2.2.2 1, 1, .inr (.inl f1))) := (hF2 a ha).trans hg1
  obtain ⟨-, -, -, F2, OL2, hcl2⟩ := id hf
  have W2w := (hZ _ _ _ hz).1
  obtain ⟨q1, q2⟩ := la_eq (by decide) la_d1 hk hf
  refine ev_istore (lv' := [some (.ref b), some (.ref (W 0 0)), some (.ref V.1), some (.ref a), some (.int (nI i)), some (.int y), some (.int x)]) dL_law_1477 (Nat.le_of_ble_eq_true rfl) rfl ?_
  refine ev_aload_n dL_law_1479 rfl rfl ?_
  refine la_mc (d' := 64) (As := []) (rest := []) hE dL_law_1480 rfl kX12_thrown rfl lL_120 iX12_thrown vX12_thrown rfl (Nat.le_of_ble_eq_true rfl) (by decide) hD hR2 (c_X12_thrown hE).r (fun g3 r3 S3 h3 hR3 hF3 => ?_)
  obtain ⟨rfl, rfl⟩ := h3
  have hT3 := hT2.mdl hR3 hF3 ha ⟨_, hg2⟩
  have hg3 : g3 a = some (.inl (G.2.2.2 1, 1, .inr (.inl f1))) := (hF3 a ha).trans hg2
  have fin : ev_V G 66 b' n' mL_law Post g3 2387 [some (.ref b), some (.ref (W 0 0)), some (.ref V.1), some (.ref a), some (.int (nI i)), some (.int y), some (.int x)] [] := ev_weak (lv' := [some (.ref b), some (.ref (W 0 0)), some (.ref V.1), some (.ref a), some (.int (nI i)), none, none]) rfl (fun j v hj => by
    match j, hj with
    | 0, hj => exact hj
    | 1, hj => exact hj
    | 2, hj => exact hj
    | 3, hj => exact hj
    | 4, hj => exact hj
    | 5, hj => exact absurd (Option.some.inj hj) (by simp)
    | 6, hj => exact absurd (Option.some.inj hj) (by simp)
    | j + 7, hj => exact absurd hj (by simp)) (k W2 C3 _ g3 W2w.2 ⟨F2, OL2, hT3, hD, hR3, ha, ⟨_, hg3⟩, W2w.1.trans h99, hcl2⟩)
  refine ev_iload dL_law_1483 rfl ?_
  refine ev_icmp_eq (tgt := 1490) dL_law_1485 (by decide) (fun c1 => ?_) (fun c1 => absurd q1 c1)
  refine ev_iload dL_law_1490 rfl ?_
  refine ev_if_ne (tgt := 1507) dL_law_1492 (by decide) (fun _ => ?_) (fun c2 => ?_)
  · exact ev_goto (tgt := 2387) dL_law_1507 (by decide) fin
  · refine ev_aload_n dL_law_1495 rfl rfl ?_
    refine ev_iconst (v := 0) dL_law_1496 (by decide) ?_
    refine ev_lald hE dL_law_1497 hg3 (vp_in_nI (n := 0) (by decide) (by decide)) ?_
    refine ev_iload dL_law_1498 rfl ?_
    refine ev_i2l dL_law_1500 ?_
    refine ev_lcmp dL_law_1501 ?_
    have e0 : f1 (0 : Int32).toNatClampNeg = x.toInt64 := q2 c2
    rw [e0, lg_same]
    exact ev_if_eq (tgt := 1507) dL_law_1502 (by decide) (fun _ => ev_goto (tgt := 2387) dL_law_1507 (by decide) fin) (fun c3 => absurd rfl c3)
theorem lb_merge {G : ev_G} {D0 : Nat} {W : cw_W} {V : mo_W} {a b L i bc bs b' n' : Nat} {xs : Nat → Int32} {B : Int} {g : ev_H} {C S : mo_S} {Post : ev_P} (hE : ev_En G) (h4 : ev_En4 G D0) (hN : la_N G) (hb : b < G.2.1.heap.size) (hX : va_X b L xs G.2.1 G.2.1.heap) (hL : L ≤ 3072) (hi : i + 6 ≤ L) (hA : la_T G D0 W V a B g C S) (hB : B ≤ 8000000) (hbc : b' + 24 ≤ bc) (hbs : n' + 4120 ≤ bs) (k : ∀ (W2 : cw_W) (C2 S2 : mo_S) (g2 : ev_H), W2 0 0 = W 0 0 → la_T G D0 W2 V a (B + 2000) g2 C2 S2 → ev_V G 66 b' n' mL_law Post g2 2387 [some (.ref b), some (.ref (W 0 0)), some (.ref V.1), some (.ref a), some (.int (nI i)), none, none] []) : ev_V G 66 bc bs mL_law Post g 1510 [some (.ref b), some (.ref (W 0 0)), some (.ref V.1), some (.ref a), some (.int (nI i)), none, none] [] := by
  obtain ⟨F, OL, hT, hD, hR, ha, ⟨f, hg⟩, h99, hcl⟩ := hA
  obtain ⟨Z, Q, mc, ms, hmc, hms, hc, hm, hZ, hfin⟩ := la_merge (V := V) hE h4 h99 hcl hB (xs (i + 1)) (xs (i + 2))
  refine ev_aload_n dL_law_1510 rfl rfl ?_
  refine la_arg (jn := 1) hb hX hL hi (by decide) (by decide) dL_law_1511 dL_law_1512 dL_law_1514 dL_law_1515 dL_law_1516 rfl rfl ?_
  refine la_arg (jn := 2) hb hX hL hi (by decide) (by decide) dL_law_1517 dL_law_1518 dL_law_1520 dL_law_1521 dL_law_1522 rfl rfl ?_
  refine ev_aload_n dL_law_1523 rfl rfl ?_
  refine ev_callSH (d' := 65) (b := b' + (bc - b' - mc)) (k0 := n' + (bs - n' - ms)) (As := [.ref (W 0 0), .int (xs (i + 1)), .int (xs (i + 2)), .ref a]) (rest := []) dL_law_1524 rfl kL_merge rfl lL_186 sL_merge (Nat.le_of_ble_eq_true rfl) (by decide) (wr_merge hE h4 hN hc (fun o W2 C2 z => (hZ o W2 C2 z).2) (Or.inr rfl) hT hg) (by omega) (by omega) (fun v g1 h => ?_) (fun e g1 h => by obtain ⟨o, W2, C2, k, f, h, -⟩ := h; cases h)
  refine ev_room (Nat.le_add_right b' _) (Nat.le_add_right n' _) ?_
  obtain ⟨o, W2, C2, y, f1, h, hz, hk, hT1, hK1, hg1⟩ := h
  cases h
  have hR1 := hR.cg (g2 := g1) (fun b hb => hK1 b (Or.inl hb) (fun z => ha (by rw [← z]; exact hb)))
  refine ev_istore (lv' := [some (.ref b), some (.ref (W 0 0)), some (.ref V.1), some (.ref a), some (.int (nI i)), some (.int y), none]) dL_law_1527 (Nat.le_of_ble_eq_true rfl) rfl ?_
  refine ev_aload_n dL_law_1529 rfl rfl ?_
  refine la_arg (jn := 1) hb hX hL hi (by decide) (by decide) dL_law_1530 dL_law_1531 dL_law_1533 dL_law_1534 dL_law_1535 rfl rfl ?_
  refine la_arg (jn := 2) hb hX hL hi (by decide) (by decide) dL_law_1536 dL_law_1537 dL_law_1539 dL_law_1540 dL_law_1541 rfl rfl ?_
  refine la_mc (d' := 64) (As := [.int (xs (i + 1)), .int (xs (i + 2))]) (rest := []) hE dL_law_1542 rfl kX12_merge rfl lL_188 iX12_merge vX12_merge rfl (Nat.le_of_ble_eq_true rfl) (by decide) hD hR1 hm (fun g2 r S2 hq hR2 hF2 => ?_)
  obtain ⟨C3, c1, c2, hf⟩ := hfin o W2 C2 r S2 hz hq
  obtain ⟨x, rfl, -⟩ := id hf
  have hT2 := (hT1.mdl hR2 hF2 ha ⟨_, hg1⟩).sc4 c1 c2
  have hg2 : g2 a = some (.inl (G.2.2.2 1, 1, .inr (.inl f1))) := (hF2 a ha).trans hg1
  obtain ⟨-, -, -, F2, OL2, hcl2⟩ := id hf
  have W2w := (hZ _ _ _ hz).1
  obtain ⟨q1, q2⟩ := la_eq (by decide) la_d1 hk hf
  refine ev_istore (lv' := [some (.ref b), some (.ref (W 0 0)), some (.ref V.1), some (.ref a), some (.int (nI i)), some (.int y), some (.int x)]) dL_law_1545 (Nat.le_of_ble_eq_true rfl) rfl ?_
  refine ev_aload_n dL_law_1547 rfl rfl ?_
  refine la_mc (d' := 64) (As := []) (rest := []) hE dL_law_1548 rfl kX12_thrown rfl lL_120 iX12_thrown vX12_thrown rfl (Nat.le_of_ble_eq_true rfl) (by decide) hD hR2 (c_X12_thrown hE).r (fun g3 r3 S3 h3 hR3 hF3 => ?_)
  obtain ⟨rfl, rfl⟩ := h3
  have hT3 := hT2.mdl hR3 hF3 ha ⟨_, hg2⟩
  have hg3 : g3 a = some (.inl (G.2.2.2 1, 1, .inr (.inl f1))) := (hF3 a ha).trans hg2
  have fin : ev_V G 66 b' n' mL_law Post g3 2387 [some (.ref b), some (.ref (W 0 0)), some (.ref V.1), some (.ref a), some (.int (nI i)), some (.int y), some (.int x)] [] := ev_weak (lv' := [some (.ref b), some (.ref (W 0 0)), some (.ref V.1), some (.ref a), some (.int (nI i)), none, none]) rfl (fun j v hj => by
    match j, hj with
    | 0, hj => exact hj
    | 1, hj => exact hj
    | 2, hj => exact hj
    | 3, hj => exact hj
    | 4, hj => exact hj
    | 5, hj => exact absurd (Option.some.inj hj) (by simp)
    | 6, hj => exact absurd (Option.some.inj hj) (by simp)
    | j + 7, hj => exact absurd hj (by simp)) (k W2 C3 _ g3 W2w.2 ⟨F2, OL2, hT3, hD, hR3, ha, ⟨_, hg3⟩, W2w.1.trans h99, hcl2⟩)
  refine ev_iload dL_law_1551 rfl ?_
  refine ev_icmp_eq (tgt := 1558) dL_law_1553 (by decide) (fun c1 => ?_) (fun c1 => absurd q1 c1)
  refine ev_iload dL_law_1558 rfl ?_
  refine ev_if_ne (tgt := 1575) dL_law_1560 (by decide) (fun _ => ?_) (fun c2 => ?_)
  · exact ev_goto (tgt := 2387) dL_law_1575 (by decide) fin
  · refine ev_aload_n dL_law_1563 rfl rfl ?_
    refine ev_iconst (v := 0) dL_law_1564 (by decide) ?_
    refine ev_lald hE dL_law_1565 hg3 (vp_in_nI (n := 0) (by decide) (by decide)) ?_
    refine ev_iload dL_law_1566 rfl ?_
    refine ev_i2l dL_law_1568 ?_
    refine ev_lcmp dL_law_1569 ?_
    have e0 : f1 (0 : Int32).toNatClampNeg = x.toInt64 := q2 c2
    rw [e0, lg_same]
    exact ev_if_eq (tgt := 1575) dL_law_1570 (by decide) (fun _ => ev_goto (tgt := 2387) dL_law_1575 (by decide) fin) (fun c3 => absurd rfl c3)
theorem lb_gain {G : ev_G} {D0 : Nat} {W : cw_W} {V : mo_W} {a b L i bc bs b' n' : Nat} {xs : Nat → Int32} {B : Int} {g : ev_H} {C S : mo_S} {Post : ev_P} (hE : ev_En G) (h4 : ev_En4 G D0) (hN : la_N G) (hb : b < G.2.1.heap.size) (hX : va_X b L xs G.2.1 G.2.1.heap) (hL : L ≤ 3072) (hi : i + 6 ≤ L) (hA : la_T G D0 W V a B g C S) (hB : B ≤ 8000000) (hbc : b' + 24 ≤ bc) (hbs : n' + 4120 ≤ bs) (k : ∀ (W2 : cw_W) (C2 S2 : mo_S) (g2 : ev_H), W2 0 0 = W 0 0 → la_T G D0 W2 V a (B + 2000) g2 C2 S2 → ev_V G 66 b' n' mL_law Post g2 2387 [some (.ref b), some (.ref (W 0 0)), some (.ref V.1), some (.ref a), some (.int (nI i)), none, none] []) : ev_V G 66 bc bs mL_law Post g 1578 [some (.ref b), some (.ref (W 0 0)), some (.ref V.1), some (.ref a), some (.int (nI i)), none, none] [] := by
  obtain ⟨F, OL, hT, hD, hR, ha, ⟨f, hg⟩, h99, hcl⟩ := hA
  obtain ⟨Z, Q, mc, ms, hmc, hms, hc, hm, hZ, hfin⟩ := la_gain (V := V) hE h4 h99 hcl hB (xs (i + 1)) (xs (i + 2))
  refine ev_aload_n dL_law_1578 rfl rfl ?_
  refine la_arg (jn := 1) hb hX hL hi (by decide) (by decide) dL_law_1579 dL_law_1580 dL_law_1582 dL_law_1583 dL_law_1584 rfl rfl ?_
  refine la_arg (jn := 2) hb hX hL hi (by decide) (by decide) dL_law_1585 dL_law_1586 dL_law_1588 dL_law_1589 dL_law_1590 rfl rfl ?_
  refine ev_aload_n dL_law_1591 rfl rfl ?_
  refine ev_callSH (d' := 65) (b := b' + (bc - b' - mc)) (k0 := n' + (bs - n' - ms)) (As := [.ref (W 0 0), .int (xs (i + 1)), .int (xs (i + 2)), .ref a]) (rest := []) dL_law_1592 rfl kL_gain rfl lL_189 sL_gain (Nat.le_of_ble_eq_true rfl) (by decide) (wr_gain hE h4 hN hc (fun o W2 C2 z => (hZ o W2 C2 z).2) (Or.inr rfl) hT hg) (by omega) (by omega) (fun v g1 h => ?_) (fun e g1 h => by obtain ⟨o, W2, C2, k, f, h, -⟩ := h; cases h)
  refine ev_room (Nat.le_add_right b' _) (Nat.le_add_right n' _) ?_
  obtain ⟨o, W2, C2, y, f1, h, hz, hk, hT1, hK1, hg1⟩ := h
  cases h
  have hR1 := hR.cg (g2 := g1) (fun b hb => hK1 b (Or.inl hb) (fun z => ha (by rw [← z]; exact hb)))
  refine ev_istore (lv' := [some (.ref b), some (.ref (W 0 0)), some (.ref V.1), some (.ref a), some (.int (nI i)), some (.int y), none]) dL_law_1595 (Nat.le_of_ble_eq_true rfl) rfl ?_
  refine ev_aload_n dL_law_1597 rfl rfl ?_
  refine la_arg (jn := 1) hb hX hL hi (by decide) (by decide) dL_law_1598 dL_law_1599 dL_law_1601 dL_law_1602 dL_law_1603 rfl rfl ?_
  refine la_arg (jn := 2) hb hX hL hi (by decide) (by decide) dL_law_1604 dL_law_1605 dL_law_1607 dL_law_1608 dL_law_1609 rfl rfl ?_
  refine la_mc (d' := 64) (As := [.int (xs (i + 1)), .int (xs (i + 2))]) (rest := []) hE dL_law_1610 rfl kX12_gain rfl lL_191 iX12_gain vX12_gain rfl (Nat.le_of_ble_eq_true rfl) (by decide) hD hR1 hm (fun g2 r S2 hq hR2 hF2 => ?_)
  obtain ⟨C3, c1, c2, hf⟩ := hfin o W2 C2 r S2 hz hq
  obtain ⟨x, rfl, -⟩ := id hf
  have hT2 := (hT1.mdl hR2 hF2 ha ⟨_, hg1⟩).sc4 c1 c2
  have hg2 : g2 a = some (.inl (G.2.2.2 1, 1, .inr (.inl f1))) := (hF2 a ha).trans hg1
  obtain ⟨-, -, -, F2, OL2, hcl2⟩ := id hf
  have W2w := (hZ _ _ _ hz).1
  obtain ⟨q1, q2⟩ := la_eq (by decide) la_d1 hk hf
  refine ev_istore (lv' := [some (.ref b), some (.ref (W 0 0)), some (.ref V.1), some (.ref a), some (.int (nI i)), some (.int y), some (.int x)]) dL_law_1613 (Nat.le_of_ble_eq_true rfl) rfl ?_
  refine ev_aload_n dL_law_1615 rfl rfl ?_
  refine la_mc (d' := 64) (As := []) (rest := []) hE dL_law_1616 rfl kX12_thrown rfl lL_120 iX12_thrown vX12_thrown rfl (Nat.le_of_ble_eq_true rfl) (by decide) hD hR2 (c_X12_thrown hE).r (fun g3 r3 S3 h3 hR3 hF3 => ?_)
  obtain ⟨rfl, rfl⟩ := h3
  have hT3 := hT2.mdl hR3 hF3 ha ⟨_, hg2⟩
  have hg3 : g3 a = some (.inl (G.2.2.2 1, 1, .inr (.inl f1))) := (hF3 a ha).trans hg2
  have fin : ev_V G 66 b' n' mL_law Post g3 2387 [some (.ref b), some (.ref (W 0 0)), some (.ref V.1), some (.ref a), some (.int (nI i)), some (.int y), some (.int x)] [] := ev_weak (lv' := [some (.ref b), some (.ref (W 0 0)), some (.ref V.1), some (.ref a), some (.int (nI i)), none, none]) rfl (fun j v hj => by
    match j, hj with
    | 0, hj => exact hj
    | 1, hj => exact hj
    | 2, hj => exact hj
    | 3, hj => exact hj
    | 4, hj => exact hj
    | 5, hj => exact absurd (Option.some.inj hj) (by simp)
    | 6, hj => exact absurd (Option.some.inj hj) (by simp)
    | j + 7, hj => exact absurd hj (by simp)) (k W2 C3 _ g3 W2w.2 ⟨F2, OL2, hT3, hD, hR3, ha, ⟨_, hg3⟩, W2w.1.trans h99, hcl2⟩)
  refine ev_iload dL_law_1619 rfl ?_
  refine ev_icmp_eq (tgt := 1626) dL_law_1621 (by decide) (fun c1 => ?_) (fun c1 => absurd q1 c1)
  refine ev_iload dL_law_1626 rfl ?_
  refine ev_if_ne (tgt := 1643) dL_law_1628 (by decide) (fun _ => ?_) (fun c2 => ?_)
  · exact ev_goto (tgt := 2387) dL_law_1643 (by decide) fin
  · refine ev_aload_n dL_law_1631 rfl rfl ?_
    refine ev_iconst (v := 0) dL_law_1632 (by decide) ?_
    refine ev_lald hE dL_law_1633 hg3 (vp_in_nI (n := 0) (by decide) (by decide)) ?_
    refine ev_iload dL_law_1634 rfl ?_
    refine ev_i2l dL_law_1636 ?_
    refine ev_lcmp dL_law_1637 ?_
    have e0 : f1 (0 : Int32).toNatClampNeg = x.toInt64 := q2 c2
    rw [e0, lg_same]
    exact ev_if_eq (tgt := 1643) dL_law_1638 (by decide) (fun _ => ev_goto (tgt := 2387) dL_law_1643 (by decide) fin) (fun c3 => absurd rfl c3)
theorem lb_breach {G : ev_G} {D0 : Nat} {W : cw_W} {V : mo_W} {a b L i bc bs b' n' : Nat} {xs : Nat → Int32} {B : Int} {g : ev_H} {C S : mo_S} {Post : ev_P} (hE : ev_En G) (h4 : ev_En4 G D0) (hN : la_N G) (hb : b < G.2.1.heap.size) (hX : va_X b L xs G.2.1 G.2.1.heap) (hL : L ≤ 3072) (hi : i + 6 ≤ L) (hA : la_T G D0 W V a B g C S) (hB : B ≤ 8000000) (hbc : b' + 24 ≤ bc) (hbs : n' + 4120 ≤ bs) (k : ∀ (W2 : cw_W) (C2 S2 : mo_S) (g2 : ev_H), W2 0 0 = W 0 0 → la_T G D0 W2 V a (B + 2000) g2 C2 S2 → ev_V G 66 b' n' mL_law Post g2 2387 [some (.ref b), some (.ref (W 0 0)), some (.ref V.1), some (.ref a), some (.int (nI i)), none, none] []) : ev_V G 66 bc bs mL_law Post g 1646 [some (.ref b), some (.ref (W 0 0)), some (.ref V.1), some (.ref a), some (.int (nI i)), none, none] [] := by
  obtain ⟨F, OL, hT, hD, hR, ha, ⟨f, hg⟩, h99, hcl⟩ := hA
  obtain ⟨Z, Q, mc, ms, hmc, hms, hc, hm, hZ, hfin⟩ := la_breach (V := V) hE h4 h99 hcl hB (xs (i + 1)) (xs (i + 2))
  refine ev_aload_n dL_law_1646 rfl rfl ?_
  refine la_arg (jn := 1) hb hX hL hi (by decide) (by decide) dL_law_1647 dL_law_1648 dL_law_1650 dL_law_1651 dL_law_1652 rfl rfl ?_
  refine la_arg (jn := 2) hb hX hL hi (by decide) (by decide) dL_law_1653 dL_law_1654 dL_law_1656 dL_law_1657 dL_law_1658 rfl rfl ?_
  refine ev_aload_n dL_law_1659 rfl rfl ?_
  refine ev_callSH (d' := 65) (b := b' + (bc - b' - mc)) (k0 := n' + (bs - n' - ms)) (As := [.ref (W 0 0), .int (xs (i + 1)), .int (xs (i + 2)), .ref a]) (rest := []) dL_law_1660 rfl kL_breach rfl lL_192 sL_breach (Nat.le_of_ble_eq_true rfl) (by decide) (wr_breach hE h4 hN hc (fun o W2 C2 z => (hZ o W2 C2 z).2) (Or.inr rfl) hT hg) (by omega) (by omega) (fun v g1 h => ?_) (fun e g1 h => by obtain ⟨o, W2, C2, k, f, h, -⟩ := h; cases h)
  refine ev_room (Nat.le_add_right b' _) (Nat.le_add_right n' _) ?_
  obtain ⟨o, W2, C2, y, f1, h, hz, hk, hT1, hK1, hg1⟩ := h
  cases h
  have hR1 := hR.cg (g2 := g1) (fun b hb => hK1 b (Or.inl hb) (fun z => ha (by rw [← z]; exact hb)))
  refine ev_istore (lv' := [some (.ref b), some (.ref (W 0 0)), some (.ref V.1), some (.ref a), some (.int (nI i)), some (.int y), none]) dL_law_1663 (Nat.le_of_ble_eq_true rfl) rfl ?_
  refine ev_aload_n dL_law_1665 rfl rfl ?_
  refine la_arg (jn := 1) hb hX hL hi (by decide) (by decide) dL_law_1666 dL_law_1667 dL_law_1669 dL_law_1670 dL_law_1671 rfl rfl ?_
  refine la_arg (jn := 2) hb hX hL hi (by decide) (by decide) dL_law_1672 dL_law_1673 dL_law_1675 dL_law_1676 dL_law_1677 rfl rfl ?_
  refine la_mc (d' := 64) (As := [.int (xs (i + 1)), .int (xs (i + 2))]) (rest := []) hE dL_law_1678 rfl kX12_breach rfl lL_194 iX12_breach vX12_breach rfl (Nat.le_of_ble_eq_true rfl) (by decide) hD hR1 hm (fun g2 r S2 hq hR2 hF2 => ?_)
  obtain ⟨C3, c1, c2, hf⟩ := hfin o W2 C2 r S2 hz hq
  obtain ⟨x, rfl, -⟩ := id hf
  have hT2 := (hT1.mdl hR2 hF2 ha ⟨_, hg1⟩).sc4 c1 c2
  have hg2 : g2 a = some (.inl (G.2.2.2 1, 1, .inr (.inl f1))) := (hF2 a ha).trans hg1
  obtain ⟨-, -, -, F2, OL2, hcl2⟩ := id hf
  have W2w := (hZ _ _ _ hz).1
  obtain ⟨q1, q2⟩ := la_eq (by decide) (la_d2 (by decide)) hk hf
  refine ev_istore (lv' := [some (.ref b), some (.ref (W 0 0)), some (.ref V.1), some (.ref a), some (.int (nI i)), some (.int y), some (.int x)]) dL_law_1681 (Nat.le_of_ble_eq_true rfl) rfl ?_
  refine ev_aload_n dL_law_1683 rfl rfl ?_
  refine la_mc (d' := 64) (As := []) (rest := []) hE dL_law_1684 rfl kX12_thrown rfl lL_120 iX12_thrown vX12_thrown rfl (Nat.le_of_ble_eq_true rfl) (by decide) hD hR2 (c_X12_thrown hE).r (fun g3 r3 S3 h3 hR3 hF3 => ?_)
  obtain ⟨rfl, rfl⟩ := h3
  have hT3 := hT2.mdl hR3 hF3 ha ⟨_, hg2⟩
  have hg3 : g3 a = some (.inl (G.2.2.2 1, 1, .inr (.inl f1))) := (hF3 a ha).trans hg2
  have fin : ev_V G 66 b' n' mL_law Post g3 2387 [some (.ref b), some (.ref (W 0 0)), some (.ref V.1), some (.ref a), some (.int (nI i)), some (.int y), some (.int x)] [] := ev_weak (lv' := [some (.ref b), some (.ref (W 0 0)), some (.ref V.1), some (.ref a), some (.int (nI i)), none, none]) rfl (fun j v hj => by
    match j, hj with
    | 0, hj => exact hj
    | 1, hj => exact hj
    | 2, hj => exact hj
    | 3, hj => exact hj
    | 4, hj => exact hj
    | 5, hj => exact absurd (Option.some.inj hj) (by simp)
    | 6, hj => exact absurd (Option.some.inj hj) (by simp)
    | j + 7, hj => exact absurd hj (by simp)) (k W2 C3 _ g3 W2w.2 ⟨F2, OL2, hT3, hD, hR3, ha, ⟨_, hg3⟩, W2w.1.trans h99, hcl2⟩)
  refine ev_iload dL_law_1687 rfl ?_
  refine ev_icmp_eq (tgt := 1694) dL_law_1689 (by decide) (fun c1 => ?_) (fun c1 => absurd q1 c1)
  refine ev_iload dL_law_1694 rfl ?_
  refine ev_if_ne (tgt := 1711) dL_law_1696 (by decide) (fun _ => ?_) (fun c2 => ?_)
  · exact ev_goto (tgt := 2387) dL_law_1711 (by decide) fin
  · refine ev_aload_n dL_law_1699 rfl rfl ?_
    refine ev_iconst (v := 0) dL_law_1700 (by decide) ?_
    refine ev_lald hE dL_law_1701 hg3 (vp_in_nI (n := 0) (by decide) (by decide)) ?_
    refine ev_iload dL_law_1702 rfl ?_
    refine ev_i2l dL_law_1704 ?_
    refine ev_lcmp dL_law_1705 ?_
    have e0 : f1 (0 : Int32).toNatClampNeg = x.toInt64 := q2 c2
    rw [e0, lg_same]
    exact ev_if_eq (tgt := 1711) dL_law_1706 (by decide) (fun _ => ev_goto (tgt := 2387) dL_law_1711 (by decide) fin) (fun c3 => absurd rfl c3)
theorem lb_source {G : ev_G} {D0 : Nat} {W : cw_W} {V : mo_W} {a b L i bc bs b' n' : Nat} {xs : Nat → Int32} {B : Int} {g : ev_H} {C S : mo_S} {Post : ev_P} (hE : ev_En G) (h4 : ev_En4 G D0) (hN : la_N G) (hb : b < G.2.1.heap.size) (hX : va_X b L xs G.2.1 G.2.1.heap) (hL : L ≤ 3072) (hi : i + 6 ≤ L) (hA : la_T G D0 W V a B g C S) (hB : B ≤ 8000000) (hbc : b' + 24 ≤ bc) (hbs : n' + 4120 ≤ bs) (k : ∀ (W2 : cw_W) (C2 S2 : mo_S) (g2 : ev_H), W2 0 0 = W 0 0 → la_T G D0 W2 V a (B + 2000) g2 C2 S2 → ev_V G 66 b' n' mL_law Post g2 2387 [some (.ref b), some (.ref (W 0 0)), some (.ref V.1), some (.ref a), some (.int (nI i)), none, none] []) : ev_V G 66 bc bs mL_law Post g 1714 [some (.ref b), some (.ref (W 0 0)), some (.ref V.1), some (.ref a), some (.int (nI i)), none, none] [] := by
  obtain ⟨F, OL, hT, hD, hR, ha, ⟨f, hg⟩, h99, hcl⟩ := hA
  obtain ⟨Z, Q, mc, ms, hmc, hms, hc, hm, hZ, hfin⟩ := la_source (V := V) hE h4 h99 hcl hB (xs (i + 1)) (xs (i + 2)) (xs (i + 3))
  refine ev_aload_n dL_law_1714 rfl rfl ?_
  refine la_arg (jn := 1) hb hX hL hi (by decide) (by decide) dL_law_1715 dL_law_1716 dL_law_1718 dL_law_1719 dL_law_1720 rfl rfl ?_
  refine la_arg (jn := 2) hb hX hL hi (by decide) (by decide) dL_law_1721 dL_law_1722 dL_law_1724 dL_law_1725 dL_law_1726 rfl rfl ?_
  refine la_arg (jn := 3) hb hX hL hi (by decide) (by decide) dL_law_1727 dL_law_1728 dL_law_1730 dL_law_1731 dL_law_1732 rfl rfl ?_
  refine ev_aload_n dL_law_1733 rfl rfl ?_
  refine ev_callSH (d' := 65) (b := b' + (bc - b' - mc)) (k0 := n' + (bs - n' - ms)) (As := [.ref (W 0 0), .int (xs (i + 1)), .int (xs (i + 2)), .int (xs (i + 3)), .ref a]) (rest := []) dL_law_1734 rfl kL_source rfl lL_195 sL_source (Nat.le_of_ble_eq_true rfl) (by decide) (wr_source hE h4 hN hc (fun o W2 C2 z => (hZ o W2 C2 z).2) (Or.inr rfl) hT hg) (by omega) (by omega) (fun v g1 h => ?_) (fun e g1 h => by obtain ⟨o, W2, C2, k, f, h, -⟩ := h; cases h)
  refine ev_room (Nat.le_add_right b' _) (Nat.le_add_right n' _) ?_
  obtain ⟨o, W2, C2, y, f1, h, hz, hk, hT1, hK1, hg1⟩ := h
  cases h
  have hR1 := hR.cg (g2 := g1) (fun b hb => hK1 b (Or.inl hb) (fun z => ha (by rw [← z]; exact hb)))
  refine ev_istore (lv' := [some (.ref b), some (.ref (W 0 0)), some (.ref V.1), some (.ref a), some (.int (nI i)), some (.int y), none]) dL_law_1737 (Nat.le_of_ble_eq_true rfl) rfl ?_
  refine ev_aload_n dL_law_1739 rfl rfl ?_
  refine la_arg (jn := 1) hb hX hL hi (by decide) (by decide) dL_law_1740 dL_law_1741 dL_law_1743 dL_law_1744 dL_law_1745 rfl rfl ?_
  refine la_arg (jn := 2) hb hX hL hi (by decide) (by decide) dL_law_1746 dL_law_1747 dL_law_1749 dL_law_1750 dL_law_1751 rfl rfl ?_
  refine la_arg (jn := 3) hb hX hL hi (by decide) (by decide) dL_law_1752 dL_law_1753 dL_law_1755 dL_law_1756 dL_law_1757 rfl rfl ?_
  refine la_mc (d' := 64) (As := [.int (xs (i + 1)), .int (xs (i + 2)), .int (xs (i + 3))]) (rest := []) hE dL_law_1758 rfl kX12_source rfl lL_197 iX12_source vX12_source rfl (Nat.le_of_ble_eq_true rfl) (by decide) hD hR1 hm (fun g2 r S2 hq hR2 hF2 => ?_)
  obtain ⟨C3, c1, c2, hf⟩ := hfin o W2 C2 r S2 hz hq
  obtain ⟨x, rfl, -⟩ := id hf
  have hT2 := (hT1.mdl hR2 hF2 ha ⟨_, hg1⟩).sc4 c1 c2
  have hg2 : g2 a = some (.inl (G.2.2.2 1, 1, .inr (.inl f1))) := (hF2 a ha).trans hg1
  obtain ⟨-, -, -, F2, OL2, hcl2⟩ := id hf
  have W2w := (hZ _ _ _ hz).1
  obtain ⟨q1, q2⟩ := la_eq (by decide) (la_d2 (by decide)) hk hf
  refine ev_istore (lv' := [some (.ref b), some (.ref (W 0 0)), some (.ref V.1), some (.ref a), some (.int (nI i)), some (.int y), some (.int x)]) dL_law_1761 (Nat.le_of_ble_eq_true rfl) rfl ?_
  refine ev_aload_n dL_law_1763 rfl rfl ?_
  refine la_mc (d' := 64) (As := []) (rest := []) hE dL_law_1764 rfl kX12_thrown rfl lL_120 iX12_thrown vX12_thrown rfl (Nat.le_of_ble_eq_true rfl) (by decide) hD hR2 (c_X12_thrown hE).r (fun g3 r3 S3 h3 hR3 hF3 => ?_)
  obtain ⟨rfl, rfl⟩ := h3
  have hT3 := hT2.mdl hR3 hF3 ha ⟨_, hg2⟩
  have hg3 : g3 a = some (.inl (G.2.2.2 1, 1, .inr (.inl f1))) := (hF3 a ha).trans hg2
  have fin : ev_V G 66 b' n' mL_law Post g3 2387 [some (.ref b), some (.ref (W 0 0)), some (.ref V.1), some (.ref a), some (.int (nI i)), some (.int y), some (.int x)] [] := ev_weak (lv' := [some (.ref b), some (.ref (W 0 0)), some (.ref V.1), some (.ref a), some (.int (nI i)), none, none]) rfl (fun j v hj => by
    match j, hj with
    | 0, hj => exact hj
    | 1, hj => exact hj
    | 2, hj => exact hj
    | 3, hj => exact hj
    | 4, hj => exact hj
    | 5, hj => exact absurd (Option.some.inj hj) (by simp)
    | 6, hj => exact absurd (Option.some.inj hj) (by simp)
    | j + 7, hj => exact absurd hj (by simp)) (k W2 C3 _ g3 W2w.2 ⟨F2, OL2, hT3, hD, hR3, ha, ⟨_, hg3⟩, W2w.1.trans h99, hcl2⟩)
  refine ev_iload dL_law_1767 rfl ?_
  refine ev_icmp_eq (tgt := 1774) dL_law_1769 (by decide) (fun c1 => ?_) (fun c1 => absurd q1 c1)
  refine ev_iload dL_law_1774 rfl ?_
  refine ev_if_ne (tgt := 1791) dL_law_1776 (by decide) (fun _ => ?_) (fun c2 => ?_)
  · exact ev_goto (tgt := 2387) dL_law_1791 (by decide) fin
  · refine ev_aload_n dL_law_1779 rfl rfl ?_
    refine ev_iconst (v := 0) dL_law_1780 (by decide) ?_
    refine ev_lald hE dL_law_1781 hg3 (vp_in_nI (n := 0) (by decide) (by decide)) ?_
    refine ev_iload dL_law_1782 rfl ?_
    refine ev_i2l dL_law_1784 ?_
    refine ev_lcmp dL_law_1785 ?_
    have e0 : f1 (0 : Int32).toNatClampNeg = x.toInt64 := q2 c2
    rw [e0, lg_same]
    exact ev_if_eq (tgt := 1791) dL_law_1786 (by decide) (fun _ => ev_goto (tgt := 2387) dL_law_1791 (by decide) fin) (fun c3 => absurd rfl c3)
theorem lb_borne {G : ev_G} {D0 : Nat} {W : cw_W} {V : mo_W} {a b L i bc bs b' n' : Nat} {xs : Nat → Int32} {B : Int} {g : ev_H} {C S : mo_S} {Post : ev_P} (hE : ev_En G) (h4 : ev_En4 G D0) (hN : la_N G) (hb : b < G.2.1.heap.size) (hX : va_X b L xs G.2.1 G.2.1.heap) (hL : L ≤ 3072) (hi : i + 6 ≤ L) (hA : la_T G D0 W V a B g C S) (hB : B ≤ 8000000) (hbc : b' + 24 ≤ bc) (hbs : n' + 4120 ≤ bs) (k : ∀ (W2 : cw_W) (C2 S2 : mo_S) (g2 : ev_H), W2 0 0 = W 0 0 → la_T G D0 W2 V a (B + 2000) g2 C2 S2 → ev_V G 66 b' n' mL_law Post g2 2387 [some (.ref b), some (.ref (W 0 0)), some (.ref V.1), some (.ref a), some (.int (nI i)), none, none] []) : ev_V G 66 bc bs mL_law Post g 1794 [some (.ref b), some (.ref (W 0 0)), some (.ref V.1), some (.ref a), some (.int (nI i)), none, none] [] := by
  obtain ⟨F, OL, hT, hD, hR, ha, ⟨f, hg⟩, h99, hcl⟩ := hA
  obtain ⟨Z, Q, mc, ms, hmc, hms, hc, hm, hZ, hfin⟩ := la_borne (V := V) hE h4 h99 hcl hB (xs (i + 1)) (xs (i + 2))
  refine ev_aload_n dL_law_1794 rfl rfl ?_
  refine la_arg (jn := 1) hb hX hL hi (by decide) (by decide) dL_law_1795 dL_law_1796 dL_law_1798 dL_law_1799 dL_law_1800 rfl rfl ?_
  refine la_arg (jn := 2) hb hX hL hi (by decide) (by decide) dL_law_1801 dL_law_1802 dL_law_1804 dL_law_1805 dL_law_1806 rfl rfl ?_
  refine ev_aload_n dL_law_1807 rfl rfl ?_
  refine ev_callSH (d' := 65) (b := b' + (bc - b' - mc)) (k0 := n' + (bs - n' - ms)) (As := [.ref (W 0 0), .int (xs (i + 1)), .int (xs (i + 2)), .ref a]) (rest := []) dL_law_1808 rfl kL_borne rfl lL_198 sL_borne (Nat.le_of_ble_eq_true rfl) (by decide) (wr_borne hE h4 hN hc (fun o W2 C2 z => (hZ o W2 C2 z).2) (Or.inr rfl) hT hg) (by omega) (by omega) (fun v g1 h => ?_) (fun e g1 h => by obtain ⟨o, W2, C2, k, f, h, -⟩ := h; cases h)
  refine ev_room (Nat.le_add_right b' _) (Nat.le_add_right n' _) ?_
  obtain ⟨o, W2, C2, y, f1, h, hz, hk, hT1, hK1, hg1⟩ := h
  cases h
  have hR1 := hR.cg (g2 := g1) (fun b hb => hK1 b (Or.inl hb) (fun z => ha (by rw [← z]; exact hb)))
  refine ev_istore (lv' := [some (.ref b), some (.ref (W 0 0)), some (.ref V.1), some (.ref a), some (.int (nI i)), some (.int y), none]) dL_law_1811 (Nat.le_of_ble_eq_true rfl) rfl ?_
  refine ev_aload_n dL_law_1813 rfl rfl ?_
  refine la_arg (jn := 1) hb hX hL hi (by decide) (by decide) dL_law_1814 dL_law_1815 dL_law_1817 dL_law_1818 dL_law_1819 rfl rfl ?_
  refine la_arg (jn := 2) hb hX hL hi (by decide) (by decide) dL_law_1820 dL_law_1821 dL_law_1823 dL_law_1824 dL_law_1825 rfl rfl ?_
  refine la_mc (d' := 64) (As := [.int (xs (i + 1)), .int (xs (i + 2))]) (rest := []) hE dL_law_1826 rfl kX12_borne rfl lL_200 iX12_borne vX12_borne rfl (Nat.le_of_ble_eq_true rfl) (by decide) hD hR1 hm (fun g2 r S2 hq hR2 hF2 => ?_)
  obtain ⟨C3, c1, c2, hf⟩ := hfin o W2 C2 r S2 hz hq
  obtain ⟨x, rfl, -⟩ := id hf
  have hT2 := (hT1.mdl hR2 hF2 ha ⟨_, hg1⟩).sc4 c1 c2
  have hg2 : g2 a = some (.inl (G.2.2.2 1, 1, .inr (.inl f1))) := (hF2 a ha).trans hg1
  obtain ⟨-, -, -, F2, OL2, hcl2⟩ := id hf
  have W2w := (hZ _ _ _ hz).1
  obtain ⟨q1, q2⟩ := la_eq (by decide) (la_d2 (by decide)) hk hf
  refine ev_istore (lv' := [some (.ref b), some (.ref (W 0 0)), some (.ref V.1), some (.ref a), some (.int (nI i)), some (.int y), some (.int x)]) dL_law_1829 (Nat.le_of_ble_eq_true rfl) rfl ?_
  refine ev_aload_n dL_law_1831 rfl rfl ?_
  refine la_mc (d' := 64) (As := []) (rest := []) hE dL_law_1832 rfl kX12_thrown rfl lL_120 iX12_thrown vX12_thrown rfl (Nat.le_of_ble_eq_true rfl) (by decide) hD hR2 (c_X12_thrown hE).r (fun g3 r3 S3 h3 hR3 hF3 => ?_)
  obtain ⟨rfl, rfl⟩ := h3
  have hT3 := hT2.mdl hR3 hF3 ha ⟨_, hg2⟩
  have hg3 : g3 a = some (.inl (G.2.2.2 1, 1, .inr (.inl f1))) := (hF3 a ha).trans hg2
  have fin : ev_V G 66 b' n' mL_law Post g3 2387 [some (.ref b), some (.ref (W 0 0)), some (.ref V.1), some (.ref a), some (.int (nI i)), some (.int y), some (.int x)] [] := ev_weak (lv' := [some (.ref b), some (.ref (W 0 0)), some (.ref V.1), some (.ref a), some (.int (nI i)), none, none]) rfl (fun j v hj => by
    match j, hj with
    | 0, hj => exact hj
    | 1, hj => exact hj
    | 2, hj => exact hj
    | 3, hj => exact hj
    | 4, hj => exact hj
    | 5, hj => exact absurd (Option.some.inj hj) (by simp)
    | 6, hj => exact absurd (Option.some.inj hj) (by simp)
    | j + 7, hj => exact absurd hj (by simp)) (k W2 C3 _ g3 W2w.2 ⟨F2, OL2, hT3, hD, hR3, ha, ⟨_, hg3⟩, W2w.1.trans h99, hcl2⟩)
  refine ev_iload dL_law_1835 rfl ?_
  refine ev_icmp_eq (tgt := 1842) dL_law_1837 (by decide) (fun c1 => ?_) (fun c1 => absurd q1 c1)
  refine ev_iload dL_law_1842 rfl ?_
  refine ev_if_ne (tgt := 1859) dL_law_1844 (by decide) (fun _ => ?_) (fun c2 => ?_)
  · exact ev_goto (tgt := 2387) dL_law_1859 (by decide) fin
  · refine ev_aload_n dL_law_1847 rfl rfl ?_
    refine ev_iconst (v := 0) dL_law_1848 (by decide) ?_
    refine ev_lald hE dL_law_1849 hg3 (vp_in_nI (n := 0) (by decide) (by decide)) ?_
    refine ev_iload dL_law_1850 rfl ?_
    refine ev_i2l dL_law_1852 ?_
    refine ev_lcmp dL_law_1853 ?_
    have e0 : f1 (0 : Int32).toNatClampNeg = x.toInt64 := q2 c2
    rw [e0, lg_same]
    exact ev_if_eq (tgt := 1859) dL_law_1854 (by decide) (fun _ => ev_goto (tgt := 2387) dL_law_1859 (by decide) fin) (fun c3 => absurd rfl c3)
theorem lb_appeal {G : ev_G} {D0 : Nat} {W : cw_W} {V : mo_W} {a b L i bc bs b' n' : Nat} {xs : Nat → Int32} {B : Int} {g : ev_H} {C S : mo_S} {Post : ev_P} (hE : ev_En G) (h4 : ev_En4 G D0) (hN : la_N G) (hb : b < G.2.1.heap.size) (hX : va_X b L xs G.2.1 G.2.1.heap) (hL : L ≤ 3072) (hi : i + 6 ≤ L) (hA : la_T G D0 W V a B g C S) (hB : B ≤ 8000000) (hbc : b' + 24 ≤ bc) (hbs : n' + 4120 ≤ bs) (k : ∀ (W2 : cw_W) (C2 S2 : mo_S) (g2 : ev_H), W2 0 0 = W 0 0 → la_T G D0 W2 V a (B + 2000) g2 C2 S2 → ev_V G 66 b' n' mL_law Post g2 2387 [some (.ref b), some (.ref (W 0 0)), some (.ref V.1), some (.ref a), some (.int (nI i)), none, none] []) : ev_V G 66 bc bs mL_law Post g 1862 [some (.ref b), some (.ref (W 0 0)), some (.ref V.1), some (.ref a), some (.int (nI i)), none, none] [] := by
  obtain ⟨F, OL, hT, hD, hR, ha, ⟨f, hg⟩, h99, hcl⟩ := hA
  obtain ⟨Z, Q, mc, ms, hmc, hms, hc, hm, hZ, hfin⟩ := la_appeal (V := V) hE h4 h99 hcl hB (xs (i + 1)) (xs (i + 2))
  refine ev_aload_n dL_law_1862 rfl rfl ?_
  refine la_arg (jn := 1) hb hX hL hi (by decide) (by decide) dL_law_1863 dL_law_1864 dL_law_1866 dL_law_1867 dL_law_1868 rfl rfl ?_
  refine la_arg (jn := 2) hb hX hL hi (by decide) (by decide) dL_law_1869 dL_law_1870 dL_law_1872 dL_law_1873 dL_law_1874 rfl rfl ?_
  refine ev_aload_n dL_law_1875 rfl rfl ?_
  refine ev_callSH (d' := 65) (b := b' + (bc - b' - mc)) (k0 := n' + (bs - n' - ms)) (As := [.ref (W 0 0), .int (xs (i + 1)), .int (xs (i + 2)), .ref a]) (rest := []) dL_law_1876 rfl kL_appeal rfl lL_201 sL_appeal (Nat.le_of_ble_eq_true rfl) (by decide) (wr_appeal hE h4 hN hc (fun o W2 C2 z => (hZ o W2 C2 z).2) (Or.inr rfl) hT hg) (by omega) (by omega) (fun v g1 h => ?_) (fun e g1 h => by obtain ⟨o, W2, C2, k, f, h, -⟩ := h; cases h)
  refine ev_room (Nat.le_add_right b' _) (Nat.le_add_right n' _) ?_
  obtain ⟨o, W2, C2, y, f1, h, hz, hk, hT1, hK1, hg1⟩ := h
  cases h
  have hR1 := hR.cg (g2 := g1) (fun b hb => hK1 b (Or.inl hb) (fun z => ha (by rw [← z]; exact hb)))
  refine ev_istore (lv' := [some (.ref b), some (.ref (W 0 0)), some (.ref V.1), some (.ref a), some (.int (nI i)), some (.int y), none]) dL_law_1879 (Nat.le_of_ble_eq_true rfl) rfl ?_
  refine ev_aload_n dL_law_1881 rfl rfl ?_
  refine la_arg (jn := 1) hb hX hL hi (by decide) (by decide) dL_law_1882 dL_law_1883 dL_law_1885 dL_law_1886 dL_law_1887 rfl rfl ?_
  refine la_arg (jn := 2) hb hX hL hi (by decide) (by decide) dL_law_1888 dL_law_1889 dL_law_1891 dL_law_1892 dL_law_1893 rfl rfl ?_
  refine la_mc (d' := 64) (As := [.int (xs (i + 1)), .int (xs (i + 2))]) (rest := []) hE dL_law_1894 rfl kX12_appeal rfl lL_203 iX12_appeal vX12_appeal rfl (Nat.le_of_ble_eq_true rfl) (by decide) hD hR1 hm (fun g2 r S2 hq hR2 hF2 => ?_)
  obtain ⟨C3, c1, c2, hf⟩ := hfin o W2 C2 r S2 hz hq
  obtain ⟨x, rfl, -⟩ := id hf
  have hT2 := (hT1.mdl hR2 hF2 ha ⟨_, hg1⟩).sc4 c1 c2
  have hg2 : g2 a = some (.inl (G.2.2.2 1, 1, .inr (.inl f1))) := (hF2 a ha).trans hg1
  obtain ⟨-, -, -, F2, OL2, hcl2⟩ := id hf
  have W2w := (hZ _ _ _ hz).1
  obtain ⟨q1, q2⟩ := la_eq (by decide) (la_d2 (by decide)) hk hf
  refine ev_istore (lv' := [some (.ref b), some (.ref (W 0 0)), some (.ref V.1), some (.ref a), some (.int (nI i)), some (.int y), some (.int x)]) dL_law_1897 (Nat.le_of_ble_eq_true rfl) rfl ?_
  refine ev_aload_n dL_law_1899 rfl rfl ?_
  refine la_mc (d' := 64) (As := []) (rest := []) hE dL_law_1900 rfl kX12_thrown rfl lL_120 iX12_thrown vX12_thrown rfl (Nat.le_of_ble_eq_true rfl) (by decide) hD hR2 (c_X12_thrown hE).r (fun g3 r3 S3 h3 hR3 hF3 => ?_)
  obtain ⟨rfl, rfl⟩ := h3
  have hT3 := hT2.mdl hR3 hF3 ha ⟨_, hg2⟩
  have hg3 : g3 a = some (.inl (G.2.2.2 1, 1, .inr (.inl f1))) := (hF3 a ha).trans hg2
  have fin : ev_V G 66 b' n' mL_law Post g3 2387 [some (.ref b), some (.ref (W 0 0)), some (.ref V.1), some (.ref a), some (.int (nI i)), some (.int y), some (.int x)] [] := ev_weak (lv' := [some (.ref b), some (.ref (W 0 0)), some (.ref V.1), some (.ref a), some (.int (nI i)), none, none]) rfl (fun j v hj => by
    match j, hj with
    | 0, hj => exact hj
    | 1, hj => exact hj
    | 2, hj => exact hj
    | 3, hj => exact hj
    | 4, hj => exact hj
    | 5, hj => exact absurd (Option.some.inj hj) (by simp)
    | 6, hj => exact absurd (Option.some.inj hj) (by simp)
    | j + 7, hj => exact absurd hj (by simp)) (k W2 C3 _ g3 W2w.2 ⟨F2, OL2, hT3, hD, hR3, ha, ⟨_, hg3⟩, W2w.1.trans h99, hcl2⟩)
  refine ev_iload dL_law_1903 rfl ?_
  refine ev_icmp_eq (tgt := 1910) dL_law_1905 (by decide) (fun c1 => ?_) (fun c1 => absurd q1 c1)
  refine ev_iload dL_law_1910 rfl ?_
  refine ev_if_ne (tgt := 1927) dL_law_1912 (by decide) (fun _ => ?_) (fun c2 => ?_)
  · exact ev_goto (tgt := 2387) dL_law_1927 (by decide) fin
  · refine ev_aload_n dL_law_1915 rfl rfl ?_
    refine ev_iconst (v := 0) dL_law_1916 (by decide) ?_
    refine ev_lald hE dL_law_1917 hg3 (vp_in_nI (n := 0) (by decide) (by decide)) ?_
    refine ev_iload dL_law_1918 rfl ?_
    refine ev_i2l dL_law_1920 ?_
    refine ev_lcmp dL_law_1921 ?_
    have e0 : f1 (0 : Int32).toNatClampNeg = x.toInt64 := q2 c2
    rw [e0, lg_same]
    exact ev_if_eq (tgt := 1927) dL_law_1922 (by decide) (fun _ => ev_goto (tgt := 2387) dL_law_1927 (by decide) fin) (fun c3 => absurd rfl c3)
theorem lb_alike {G : ev_G} {D0 : Nat} {W : cw_W} {V : mo_W} {a b L i bc bs b' n' : Nat} {xs : Nat → Int32} {B : Int} {g : ev_H} {C S : mo_S} {Post : ev_P} (hE : ev_En G) (h4 : ev_En4 G D0) (hN : la_N G) (hb : b < G.2.1.heap.size) (hX : va_X b L xs G.2.1 G.2.1.heap) (hL : L ≤ 3072) (hi : i + 6 ≤ L) (hA : la_T G D0 W V a B g C S) (hB : B ≤ 8000000) (hbc : b' + 24 ≤ bc) (hbs : n' + 4120 ≤ bs) (k : ∀ (W2 : cw_W) (C2 S2 : mo_S) (g2 : ev_H), W2 0 0 = W 0 0 → la_T G D0 W2 V a (B + 2000) g2 C2 S2 → ev_V G 66 b' n' mL_law Post g2 2387 [some (.ref b), some (.ref (W 0 0)), some (.ref V.1), some (.ref a), some (.int (nI i)), none, none] []) : ev_V G 66 bc bs mL_law Post g 1930 [some (.ref b), some (.ref (W 0 0)), some (.ref V.1), some (.ref a), some (.int (nI i)), none, none] [] := by
  obtain ⟨F, OL, hT, hD, hR, ha, ⟨f, hg⟩, h99, hcl⟩ := hA
  obtain ⟨Z, Q, mc, ms, hmc, hms, hc, hm, hZ, hfin⟩ := la_alike (V := V) hE h4 h99 hcl hB (xs (i + 1))
  refine ev_aload_n dL_law_1930 rfl rfl ?_
  refine la_arg (jn := 1) hb hX hL hi (by decide) (by decide) dL_law_1931 dL_law_1932 dL_law_1934 dL_law_1935 dL_law_1936 rfl rfl ?_
  refine ev_aload_n dL_law_1937 rfl rfl ?_
  refine ev_callSH (d' := 65) (b := b' + (bc - b' - mc)) (k0 := n' + (bs - n' - ms)) (As := [.ref (W 0 0), .int (xs (i + 1)), .ref a]) (rest := []) dL_law_1938 rfl kL_alike rfl lL_204 sL_alike (Nat.le_of_ble_eq_true rfl) (by decide) (wr_alike hE h4 hN hc (fun o W2 C2 z => (hZ o W2 C2 z).2) (Or.inr rfl) hT hg) (by omega) (by omega) (fun v g1 h => ?_) (fun e g1 h => by obtain ⟨o, W2, C2, k, f, h, -⟩ := h; cases h)
  refine ev_room (Nat.le_add_right b' _) (Nat.le_add_right n' _) ?_
  obtain ⟨o, W2, C2, y, f1, h, hz, hk, hT1, hK1, hg1⟩ := h
  cases h
  have hR1 := hR.cg (g2 := g1) (fun b hb => hK1 b (Or.inl hb) (fun z => ha (by rw [← z]; exact hb)))
  refine ev_istore (lv' := [some (.ref b), some (.ref (W 0 0)), some (.ref V.1), some (.ref a), some (.int (nI i)), some (.int y), none]) dL_law_1941 (Nat.le_of_ble_eq_true rfl) rfl ?_
  refine ev_aload_n dL_law_1943 rfl rfl ?_
  refine la_arg (jn := 1) hb hX hL hi (by decide) (by decide) dL_law_1944 dL_law_1945 dL_law_1947 dL_law_1948 dL_law_1949 rfl rfl ?_
  refine la_mc (d' := 64) (As := [.int (xs (i + 1))]) (rest := []) hE dL_law_1950 rfl kX12_alike rfl lL_206 iX12_alike vX12_alike rfl (Nat.le_of_ble_eq_true rfl) (by decide) hD hR1 hm (fun g2 r S2 hq hR2 hF2 => ?_)
  obtain ⟨C3, c1, c2, hf⟩ := hfin o W2 C2 r S2 hz hq
  obtain ⟨x, rfl, -⟩ := id hf
  have hT2 := (hT1.mdl hR2 hF2 ha ⟨_, hg1⟩).sc4 c1 c2
  have hg2 : g2 a = some (.inl (G.2.2.2 1, 1, .inr (.inl f1))) := (hF2 a ha).trans hg1
  obtain ⟨-, -, -, F2, OL2, hcl2⟩ := id hf
  have W2w := (hZ _ _ _ hz).1
  obtain ⟨q1, q2⟩ := la_eq (by decide) la_d1 hk hf
  refine ev_istore (lv' := [some (.ref b), some (.ref (W 0 0)), some (.ref V.1), some (.ref a), some (.int (nI i)), some (.int y), some (.int x)]) dL_law_1953 (Nat.le_of_ble_eq_true rfl) rfl ?_
  refine ev_aload_n dL_law_1955 rfl rfl ?_
  refine la_mc (d' := 64) (As := []) (rest := []) hE dL_law_1956 rfl kX12_thrown rfl lL_120 iX12_thrown vX12_thrown rfl (Nat.le_of_ble_eq_true rfl) (by decide) hD hR2 (c_X12_thrown hE).r (fun g3 r3 S3 h3 hR3 hF3 => ?_)
  obtain ⟨rfl, rfl⟩ := h3
  have hT3 := hT2.mdl hR3 hF3 ha ⟨_, hg2⟩
  have hg3 : g3 a = some (.inl (G.2.2.2 1, 1, .inr (.inl f1))) := (hF3 a ha).trans hg2
  have fin : ev_V G 66 b' n' mL_law Post g3 2387 [some (.ref b), some (.ref (W 0 0)), some (.ref V.1), some (.ref a), some (.int (nI i)), some (.int y), some (.int x)] [] := ev_weak (lv' := [some (.ref b), some (.ref (W 0 0)), some (.ref V.1), some (.ref a), some (.int (nI i)), none, none]) rfl (fun j v hj => by
    match j, hj with
    | 0, hj => exact hj
    | 1, hj => exact hj
    | 2, hj => exact hj
    | 3, hj => exact hj
    | 4, hj => exact hj
    | 5, hj => exact absurd (Option.some.inj hj) (by simp)
    | 6, hj => exact absurd (Option.some.inj hj) (by simp)
    | j + 7, hj => exact absurd hj (by simp)) (k W2 C3 _ g3 W2w.2 ⟨F2, OL2, hT3, hD, hR3, ha, ⟨_, hg3⟩, W2w.1.trans h99, hcl2⟩)
  refine ev_iload dL_law_1959 rfl ?_
  refine ev_icmp_eq (tgt := 1966) dL_law_1961 (by decide) (fun c1 => ?_) (fun c1 => absurd q1 c1)
  refine ev_iload dL_law_1966 rfl ?_
  refine ev_if_ne (tgt := 1983) dL_law_1968 (by decide) (fun _ => ?_) (fun c2 => ?_)
  · exact ev_goto (tgt := 2387) dL_law_1983 (by decide) fin
  · refine ev_aload_n dL_law_1971 rfl rfl ?_
    refine ev_iconst (v := 0) dL_law_1972 (by decide) ?_
    refine ev_lald hE dL_law_1973 hg3 (vp_in_nI (n := 0) (by decide) (by decide)) ?_
    refine ev_iload dL_law_1974 rfl ?_
    refine ev_i2l dL_law_1976 ?_
    refine ev_lcmp dL_law_1977 ?_
    have e0 : f1 (0 : Int32).toNatClampNeg = x.toInt64 := q2 c2
    rw [e0, lg_same]
    exact ev_if_eq (tgt := 1983) dL_law_1978 (by decide) (fun _ => ev_goto (tgt := 2387) dL_law_1983 (by decide) fin) (fun c3 => absurd rfl c3)
theorem lb_apart {G : ev_G} {D0 : Nat} {W : cw_W} {V : mo_W} {a b L i bc bs b' n' : Nat} {xs : Nat → Int32} {B : Int} {g : ev_H} {C S : mo_S} {Post : ev_P} (hE : ev_En G) (h4 : ev_En4 G D0) (hN : la_N G) (hb : b < G.2.1.heap.size) (hX : va_X b L xs G.2.1 G.2.1.heap) (hL : L ≤ 3072) (hi : i + 6 ≤ L) (hA : la_T G D0 W V a B g C S) (hB : B ≤ 8000000) (hbc : b' + 24 ≤ bc) (hbs : n' + 4120 ≤ bs) (k : ∀ (W2 : cw_W) (C2 S2 : mo_S) (g2 : ev_H), W2 0 0 = W 0 0 → la_T G D0 W2 V a (B + 2000) g2 C2 S2 → ev_V G 66 b' n' mL_law Post g2 2387 [some (.ref b), some (.ref (W 0 0)), some (.ref V.1), some (.ref a), some (.int (nI i)), none, none] []) : ev_V G 66 bc bs mL_law Post g 1986 [some (.ref b), some (.ref (W 0 0)), some (.ref V.1), some (.ref a), some (.int (nI i)), none, none] [] := by
  obtain ⟨F, OL, hT, hD, hR, ha, ⟨f, hg⟩, h99, hcl⟩ := hA
  obtain ⟨Z, Q, mc, ms, hmc, hms, hc, hm, hZ, hfin⟩ := la_apart (V := V) hE h4 h99 hcl hB (xs (i + 1)) (xs (i + 2))
  refine ev_aload_n dL_law_1986 rfl rfl ?_
  refine la_arg (jn := 1) hb hX hL hi (by decide) (by decide) dL_law_1987 dL_law_1988 dL_law_1990 dL_law_1991 dL_law_1992 rfl rfl ?_
  refine la_arg (jn := 2) hb hX hL hi (by decide) (by decide) dL_law_1993 dL_law_1994 dL_law_1996 dL_law_1997 dL_law_1998 rfl rfl ?_
  refine ev_aload_n dL_law_1999 rfl rfl ?_
  refine ev_callSH (d' := 65) (b := b' + (bc - b' - mc)) (k0 := n' + (bs - n' - ms)) (As := [.ref (W 0 0), .int (xs (i + 1)), .int (xs (i + 2)), .ref a]) (rest := []) dL_law_2000 rfl kL_apart rfl lL_207 sL_apart (Nat.le_of_ble_eq_true rfl) (by decide) (wr_apart hE h4 hN hc (fun o W2 C2 z => (hZ o W2 C2 z).2) (Or.inr rfl) hT hg) (by omega) (by omega) (fun v g1 h => ?_) (fun e g1 h => by obtain ⟨o, W2, C2, k, f, h, -⟩ := h; cases h)
  refine ev_room (Nat.le_add_right b' _) (Nat.le_add_right n' _) ?_
  obtain ⟨o, W2, C2, y, f1, h, hz, hk, hT1, hK1, hg1⟩ := h
  cases h
  have hR1 := hR.cg (g2 := g1) (fun b hb => hK1 b (Or.inl hb) (fun z => ha (by rw [← z]; exact hb)))
  refine ev_istore (lv' := [some (.ref b), some (.ref (W 0 0)), some (.ref V.1), some (.ref a), some (.int (nI i)), some (.int y), none]) dL_law_2003 (Nat.le_of_ble_eq_true rfl) rfl ?_
  refine ev_aload_n dL_law_2005 rfl rfl ?_
  refine la_arg (jn := 1) hb hX hL hi (by decide) (by decide) dL_law_2006 dL_law_2007 dL_law_2009 dL_law_2010 dL_law_2011 rfl rfl ?_
  refine la_arg (jn := 2) hb hX hL hi (by decide) (by decide) dL_law_2012 dL_law_2013 dL_law_2015 dL_law_2016 dL_law_2017 rfl rfl ?_
  refine la_mc (d' := 64) (As := [.int (xs (i + 1)), .int (xs (i + 2))]) (rest := []) hE dL_law_2018 rfl kX12_apart rfl lL_209 iX12_apart vX12_apart rfl (Nat.le_of_ble_eq_true rfl) (by decide) hD hR1 hm (fun g2 r S2 hq hR2 hF2 => ?_)
  obtain ⟨C3, c1, c2, hf⟩ := hfin o W2 C2 r S2 hz hq
  obtain ⟨x, rfl, -⟩ := id hf
  have hT2 := (hT1.mdl hR2 hF2 ha ⟨_, hg1⟩).sc4 c1 c2
  have hg2 : g2 a = some (.inl (G.2.2.2 1, 1, .inr (.inl f1))) := (hF2 a ha).trans hg1
  obtain ⟨-, -, -, F2, OL2, hcl2⟩ := id hf
  have W2w := (hZ _ _ _ hz).1
  obtain ⟨q1, q2⟩ := la_eq (by decide) la_d1 hk hf
  refine ev_istore (lv' := [some (.ref b), some (.ref (W 0 0)), some (.ref V.1), some (.ref a), some (.int (nI i)), some (.int y), some (.int x)]) dL_law_2021 (Nat.le_of_ble_eq_true rfl) rfl ?_
  refine ev_aload_n dL_law_2023 rfl rfl ?_
  refine la_mc (d' := 64) (As := []) (rest := []) hE dL_law_2024 rfl kX12_thrown rfl lL_120 iX12_thrown vX12_thrown rfl (Nat.le_of_ble_eq_true rfl) (by decide) hD hR2 (c_X12_thrown hE).r (fun g3 r3 S3 h3 hR3 hF3 => ?_)
  obtain ⟨rfl, rfl⟩ := h3
  have hT3 := hT2.mdl hR3 hF3 ha ⟨_, hg2⟩
  have hg3 : g3 a = some (.inl (G.2.2.2 1, 1, .inr (.inl f1))) := (hF3 a ha).trans hg2
  have fin : ev_V G 66 b' n' mL_law Post g3 2387 [some (.ref b), some (.ref (W 0 0)), some (.ref V.1), some (.ref a), some (.int (nI i)), some (.int y), some (.int x)] [] := ev_weak (lv' := [some (.ref b), some (.ref (W 0 0)), some (.ref V.1), some (.ref a), some (.int (nI i)), none, none]) rfl (fun j v hj => by
    match j, hj with
    | 0, hj => exact hj
    | 1, hj => exact hj
    | 2, hj => exact hj
    | 3, hj => exact hj
    | 4, hj => exact hj
    | 5, hj => exact absurd (Option.some.inj hj) (by simp)
    | 6, hj => exact absurd (Option.some.inj hj) (by simp)
    | j + 7, hj => exact absurd hj (by simp)) (k W2 C3 _ g3 W2w.2 ⟨F2, OL2, hT3, hD, hR3, ha, ⟨_, hg3⟩, W2w.1.trans h99, hcl2⟩)
  refine ev_iload dL_law_2027 rfl ?_
  refine ev_icmp_eq (tgt := 2034) dL_law_2029 (by decide) (fun c1 => ?_) (fun c1 => absurd q1 c1)
  refine ev_iload dL_law_2034 rfl ?_
  refine ev_if_ne (tgt := 2051) dL_law_2036 (by decide) (fun _ => ?_) (fun c2 => ?_)
  · exact ev_goto (tgt := 2387) dL_law_2051 (by decide) fin
  · refine ev_aload_n dL_law_2039 rfl rfl ?_
    refine ev_iconst (v := 0) dL_law_2040 (by decide) ?_
    refine ev_lald hE dL_law_2041 hg3 (vp_in_nI (n := 0) (by decide) (by decide)) ?_
    refine ev_iload dL_law_2042 rfl ?_
    refine ev_i2l dL_law_2044 ?_
    refine ev_lcmp dL_law_2045 ?_
    have e0 : f1 (0 : Int32).toNatClampNeg = x.toInt64 := q2 c2
    rw [e0, lg_same]
    exact ev_if_eq (tgt := 2051) dL_law_2046 (by decide) (fun _ => ev_goto (tgt := 2387) dL_law_2051 (by decide) fin) (fun c3 => absurd rfl c3)
theorem lb_grant {G : ev_G} {D0 : Nat} {W : cw_W} {V : mo_W} {a b L i bc bs b' n' : Nat} {xs : Nat → Int32} {B : Int} {g : ev_H} {C S : mo_S} {Post : ev_P} (hE : ev_En G) (h4 : ev_En4 G D0) (hN : la_N G) (hb : b < G.2.1.heap.size) (hX : va_X b L xs G.2.1 G.2.1.heap) (hL : L ≤ 3072) (hi : i + 6 ≤ L) (hA : la_T G D0 W V a B g C S) (hB : B ≤ 8000000) (hbc : b' + 24 ≤ bc) (hbs : n' + 4120 ≤ bs) (k : ∀ (W2 : cw_W) (C2 S2 : mo_S) (g2 : ev_H), W2 0 0 = W 0 0 → la_T G D0 W2 V a (B + 2000) g2 C2 S2 → ev_V G 66 b' n' mL_law Post g2 2387 [some (.ref b), some (.ref (W 0 0)), some (.ref V.1), some (.ref a), some (.int (nI i)), none, none] []) : ev_V G 66 bc bs mL_law Post g 2054 [some (.ref b), some (.ref (W 0 0)), some (.ref V.1), some (.ref a), some (.int (nI i)), none, none] [] := by
  obtain ⟨F, OL, hT, hD, hR, ha, ⟨f, hg⟩, h99, hcl⟩ := hA
  obtain ⟨Z, Q, mc, ms, hmc, hms, hc, hm, hZ, hfin⟩ := la_grant (V := V) hE h4 h99 hcl hB (xs (i + 1)) (xs (i + 2))
  refine ev_aload_n dL_law_2054 rfl rfl ?_
  refine la_arg (jn := 1) hb hX hL hi (by decide) (by decide) dL_law_2055 dL_law_2056 dL_law_2058 dL_law_2059 dL_law_2060 rfl rfl ?_
  refine la_arg (jn := 2) hb hX hL hi (by decide) (by decide) dL_law_2061 dL_law_2062 dL_law_2064 dL_law_2065 dL_law_2066 rfl rfl ?_
  refine ev_aload_n dL_law_2067 rfl rfl ?_
  refine ev_callSH (d' := 65) (b := b' + (bc - b' - mc)) (k0 := n' + (bs - n' - ms)) (As := [.ref (W 0 0), .int (xs (i + 1)), .int (xs (i + 2)), .ref a]) (rest := []) dL_law_2068 rfl kL_grant rfl lL_210 sL_grant (Nat.le_of_ble_eq_true rfl) (by decide) (wr_grant hE h4 hN hc (fun o W2 C2 z => (hZ o W2 C2 z).2) (Or.inr rfl) hT hg) (by omega) (by omega) (fun v g1 h => ?_) (fun e g1 h => by obtain ⟨o, W2, C2, k, f, h, -⟩ := h; cases h)
  refine ev_room (Nat.le_add_right b' _) (Nat.le_add_right n' _) ?_
  obtain ⟨o, W2, C2, y, f1, h, hz, hk, hT1, hK1, hg1⟩ := h
  cases h
  have hR1 := hR.cg (g2 := g1) (fun b hb => hK1 b (Or.inl hb) (fun z => ha (by rw [← z]; exact hb)))
  refine ev_istore (lv' := [some (.ref b), some (.ref (W 0 0)), some (.ref V.1), some (.ref a), some (.int (nI i)), some (.int y), none]) dL_law_2071 (Nat.le_of_ble_eq_true rfl) rfl ?_
  refine ev_aload_n dL_law_2073 rfl rfl ?_
  refine la_arg (jn := 1) hb hX hL hi (by decide) (by decide) dL_law_2074 dL_law_2075 dL_law_2077 dL_law_2078 dL_law_2079 rfl rfl ?_
  refine la_arg (jn := 2) hb hX hL hi (by decide) (by decide) dL_law_2080 dL_law_2081 dL_law_2083 dL_law_2084 dL_law_2085 rfl rfl ?_
  refine la_mc (d' := 64) (As := [.int (xs (i + 1)), .int (xs (i + 2))]) (rest := []) hE dL_law_2086 rfl kX12_grant rfl lL_212 iX12_grant vX12_grant rfl (Nat.le_of_ble_eq_true rfl) (by decide) hD hR1 hm (fun g2 r S2 hq hR2 hF2 => ?_)
  obtain ⟨C3, c1, c2, hf⟩ := hfin o W2 C2 r S2 hz hq
  obtain ⟨x, rfl, -⟩ := id hf
  have hT2 := (hT1.mdl hR2 hF2 ha ⟨_, hg1⟩).sc4 c1 c2
  have hg2 : g2 a = some (.inl (G.2.2.2 1, 1, .inr (.inl f1))) := (hF2 a ha).trans hg1
  obtain ⟨-, -, -, F2, OL2, hcl2⟩ := id hf
  have W2w := (hZ _ _ _ hz).1
  obtain ⟨q1, q2⟩ := la_eq (by decide) (la_d2 (by decide)) hk hf
  refine ev_istore (lv' := [some (.ref b), some (.ref (W 0 0)), some (.ref V.1), some (.ref a), some (.int (nI i)), some (.int y), some (.int x)]) dL_law_2089 (Nat.le_of_ble_eq_true rfl) rfl ?_
  refine ev_aload_n dL_law_2091 rfl rfl ?_
  refine la_mc (d' := 64) (As := []) (rest := []) hE dL_law_2092 rfl kX12_thrown rfl lL_120 iX12_thrown vX12_thrown rfl (Nat.le_of_ble_eq_true rfl) (by decide) hD hR2 (c_X12_thrown hE).r (fun g3 r3 S3 h3 hR3 hF3 => ?_)
  obtain ⟨rfl, rfl⟩ := h3
  have hT3 := hT2.mdl hR3 hF3 ha ⟨_, hg2⟩
  have hg3 : g3 a = some (.inl (G.2.2.2 1, 1, .inr (.inl f1))) := (hF3 a ha).trans hg2
  have fin : ev_V G 66 b' n' mL_law Post g3 2387 [some (.ref b), some (.ref (W 0 0)), some (.ref V.1), some (.ref a), some (.int (nI i)), some (.int y), some (.int x)] [] := ev_weak (lv' := [some (.ref b), some (.ref (W 0 0)), some (.ref V.1), some (.ref a), some (.int (nI i)), none, none]) rfl (fun j v hj => by
    match j, hj with
    | 0, hj => exact hj
    | 1, hj => exact hj
    | 2, hj => exact hj
    | 3, hj => exact hj
    | 4, hj => exact hj
    | 5, hj => exact absurd (Option.some.inj hj) (by simp)
    | 6, hj => exact absurd (Option.some.inj hj) (by simp)
    | j + 7, hj => exact absurd hj (by simp)) (k W2 C3 _ g3 W2w.2 ⟨F2, OL2, hT3, hD, hR3, ha, ⟨_, hg3⟩, W2w.1.trans h99, hcl2⟩)
  refine ev_iload dL_law_2095 rfl ?_
  refine ev_icmp_eq (tgt := 2102) dL_law_2097 (by decide) (fun c1 => ?_) (fun c1 => absurd q1 c1)
  refine ev_iload dL_law_2102 rfl ?_
  refine ev_if_ne (tgt := 2119) dL_law_2104 (by decide) (fun _ => ?_) (fun c2 => ?_)
  · exact ev_goto (tgt := 2387) dL_law_2119 (by decide) fin
  · refine ev_aload_n dL_law_2107 rfl rfl ?_
    refine ev_iconst (v := 0) dL_law_2108 (by decide) ?_
    refine ev_lald hE dL_law_2109 hg3 (vp_in_nI (n := 0) (by decide) (by decide)) ?_
    refine ev_iload dL_law_2110 rfl ?_
    refine ev_i2l dL_law_2112 ?_
    refine ev_lcmp dL_law_2113 ?_
    have e0 : f1 (0 : Int32).toNatClampNeg = x.toInt64 := q2 c2
    rw [e0, lg_same]
    exact ev_if_eq (tgt := 2119) dL_law_2114 (by decide) (fun _ => ev_goto (tgt := 2387) dL_law_2119 (by decide) fin) (fun c3 => absurd rfl c3)
theorem lb_best {G : ev_G} {D0 : Nat} {W : cw_W} {V : mo_W} {a b L i bc bs b' n' : Nat} {xs : Nat → Int32} {B : Int} {g : ev_H} {C S : mo_S} {Post : ev_P} (hE : ev_En G) (h4 : ev_En4 G D0) (hN : la_N G) (hb : b < G.2.1.heap.size) (hX : va_X b L xs G.2.1 G.2.1.heap) (hL : L ≤ 3072) (hi : i + 6 ≤ L) (hA : la_T G D0 W V a B g C S) (hB : B ≤ 8000000) (hbc : b' + 24 ≤ bc) (hbs : n' + 4120 ≤ bs) (k : ∀ (W2 : cw_W) (C2 S2 : mo_S) (g2 : ev_H), W2 0 0 = W 0 0 → la_T G D0 W2 V a (B + 2000) g2 C2 S2 → ev_V G 66 b' n' mL_law Post g2 2387 [some (.ref b), some (.ref (W 0 0)), some (.ref V.1), some (.ref a), some (.int (nI i)), none, none] []) : ev_V G 66 bc bs mL_law Post g 2122 [some (.ref b), some (.ref (W 0 0)), some (.ref V.1), some (.ref a), some (.int (nI i)), none, none] [] := by
  obtain ⟨F, OL, hT, hD, hR, ha, ⟨f, hg⟩, h99, hcl⟩ := hA
  obtain ⟨Z, Q, mc, ms, hmc, hms, hc, hm, hZ, hfin⟩ := la_best (V := V) hE h4 h99 hcl hB (xs (i + 1)) (xs (i + 2))
  refine ev_aload_n dL_law_2122 rfl rfl ?_
  refine la_arg (jn := 1) hb hX hL hi (by decide) (by decide) dL_law_2123 dL_law_2124 dL_law_2126 dL_law_2127 dL_law_2128 rfl rfl ?_
  refine la_arg (jn := 2) hb hX hL hi (by decide) (by decide) dL_law_2129 dL_law_2130 dL_law_2132 dL_law_2133 dL_law_2134 rfl rfl ?_
  refine ev_aload_n dL_law_2135 rfl rfl ?_
  refine ev_callSH (d' := 65) (b := b' + (bc - b' - mc)) (k0 := n' + (bs - n' - ms)) (As := [.ref (W 0 0), .int (xs (i + 1)), .int (xs (i + 2)), .ref a]) (rest := []) dL_law_2136 rfl kL_best rfl lL_213 sL_best (Nat.le_of_ble_eq_true rfl) (by decide) (wr_best hE h4 hN hc (fun o W2 C2 z => (hZ o W2 C2 z).2) (Or.inr rfl) hT hg) (by omega) (by omega) (fun v g1 h => ?_) (fun e g1 h => by obtain ⟨o, W2, C2, k, f, h, -⟩ := h; cases h)
  refine ev_room (Nat.le_add_right b' _) (Nat.le_add_right n' _) ?_
  obtain ⟨o, W2, C2, y, f1, h, hz, hk, hT1, hK1, hg1⟩ := h
  cases h
  have hR1 := hR.cg (g2 := g1) (fun b hb => hK1 b (Or.inl hb) (fun z => ha (by rw [← z]; exact hb)))
  refine ev_istore (lv' := [some (.ref b), some (.ref (W 0 0)), some (.ref V.1), some (.ref a), some (.int (nI i)), some (.int y), none]) dL_law_2139 (Nat.le_of_ble_eq_true rfl) rfl ?_
  refine ev_aload_n dL_law_2141 rfl rfl ?_
  refine la_arg (jn := 1) hb hX hL hi (by decide) (by decide) dL_law_2142 dL_law_2143 dL_law_2145 dL_law_2146 dL_law_2147 rfl rfl ?_
  refine la_arg (jn := 2) hb hX hL hi (by decide) (by decide) dL_law_2148 dL_law_2149 dL_law_2151 dL_law_2152 dL_law_2153 rfl rfl ?_
  refine la_mc (d' := 64) (As := [.int (xs (i + 1)), .int (xs (i + 2))]) (rest := []) hE dL_law_2154 rfl kX12_best rfl lL_215 iX12_best vX12_best rfl (Nat.le_of_ble_eq_true rfl) (by decide) hD hR1 hm (fun g2 r S2 hq hR2 hF2 => ?_)
  obtain ⟨C3, c1, c2, hf⟩ := hfin o W2 C2 r S2 hz hq
  obtain ⟨x, rfl, -⟩ := id hf
  have hT2 := (hT1.mdl hR2 hF2 ha ⟨_, hg1⟩).sc4 c1 c2
  have hg2 : g2 a = some (.inl (G.2.2.2 1, 1, .inr (.inl f1))) := (hF2 a ha).trans hg1
  obtain ⟨-, -, -, F2, OL2, hcl2⟩ := id hf
  have W2w := (hZ _ _ _ hz).1
  obtain ⟨q1, q2⟩ := la_eq (by decide) (la_d2 (by decide)) hk hf
  refine ev_istore (lv' := [some (.ref b), some (.ref (W 0 0)), some (.ref V.1), some (.ref a), some (.int (nI i)), some (.int y), some (.int x)]) dL_law_2157 (Nat.le_of_ble_eq_true rfl) rfl ?_
  refine ev_aload_n dL_law_2159 rfl rfl ?_
  refine la_mc (d' := 64) (As := []) (rest := []) hE dL_law_2160 rfl kX12_thrown rfl lL_120 iX12_thrown vX12_thrown rfl (Nat.le_of_ble_eq_true rfl) (by decide) hD hR2 (c_X12_thrown hE).r (fun g3 r3 S3 h3 hR3 hF3 => ?_)
  obtain ⟨rfl, rfl⟩ := h3
  have hT3 := hT2.mdl hR3 hF3 ha ⟨_, hg2⟩
  have hg3 : g3 a = some (.inl (G.2.2.2 1, 1, .inr (.inl f1))) := (hF3 a ha).trans hg2
  have fin : ev_V G 66 b' n' mL_law Post g3 2387 [some (.ref b), some (.ref (W 0 0)), some (.ref V.1), some (.ref a), some (.int (nI i)), some (.int y), some (.int x)] [] := ev_weak (lv' := [some (.ref b), some (.ref (W 0 0)), some (.ref V.1), some (.ref a), some (.int (nI i)), none, none]) rfl (fun j v hj => by
    match j, hj with
    | 0, hj => exact hj
    | 1, hj => exact hj
    | 2, hj => exact hj
    | 3, hj => exact hj
    | 4, hj => exact hj
    | 5, hj => exact absurd (Option.some.inj hj) (by simp)
    | 6, hj => exact absurd (Option.some.inj hj) (by simp)
    | j + 7, hj => exact absurd hj (by simp)) (k W2 C3 _ g3 W2w.2 ⟨F2, OL2, hT3, hD, hR3, ha, ⟨_, hg3⟩, W2w.1.trans h99, hcl2⟩)
  refine ev_iload dL_law_2163 rfl ?_
  refine ev_icmp_eq (tgt := 2170) dL_law_2165 (by decide) (fun c1 => ?_) (fun c1 => absurd q1 c1)
  refine ev_iload dL_law_2170 rfl ?_
  refine ev_if_ne (tgt := 2187) dL_law_2172 (by decide) (fun _ => ?_) (fun c2 => ?_)
  · exact ev_goto (tgt := 2387) dL_law_2187 (by decide) fin
  · refine ev_aload_n dL_law_2175 rfl rfl ?_
    refine ev_iconst (v := 0) dL_law_2176 (by decide) ?_
    refine ev_lald hE dL_law_2177 hg3 (vp_in_nI (n := 0) (by decide) (by decide)) ?_
    refine ev_iload dL_law_2178 rfl ?_
    refine ev_i2l dL_law_2180 ?_
    refine ev_lcmp dL_law_2181 ?_
    have e0 : f1 (0 : Int32).toNatClampNeg = x.toInt64 := q2 c2
    rw [e0, lg_same]
    exact ev_if_eq (tgt := 2187) dL_law_2182 (by decide) (fun _ => ev_goto (tgt := 2387) dL_law_2187 (by decide) fin) (fun c3 => absurd rfl c3)
theorem lb_correct {G : ev_G} {D0 : Nat} {W : cw_W} {V : mo_W} {a b L i bc bs b' n' : Nat} {xs : Nat → Int32} {B : Int} {g : ev_H} {C S : mo_S} {Post : ev_P} (hE : ev_En G) (h4 : ev_En4 G D0) (hN : la_N G) (hb : b < G.2.1.heap.size) (hX : va_X b L xs G.2.1 G.2.1.heap) (hL : L ≤ 3072) (hi : i + 6 ≤ L) (hA : la_T G D0 W V a B g C S) (hB : B ≤ 8000000) (hbc : b' + 24 ≤ bc) (hbs : n' + 4120 ≤ bs) (k : ∀ (W2 : cw_W) (C2 S2 : mo_S) (g2 : ev_H), W2 0 0 = W 0 0 → la_T G D0 W2 V a (B + 2000) g2 C2 S2 → ev_V G 66 b' n' mL_law Post g2 2387 [some (.ref b), some (.ref (W 0 0)), some (.ref V.1), some (.ref a), some (.int (nI i)), none, none] []) : ev_V G 66 bc bs mL_law Post g 2190 [some (.ref b), some (.ref (W 0 0)), some (.ref V.1), some (.ref a), some (.int (nI i)), none, none] [] := by
  obtain ⟨F, OL, hT, hD, hR, ha, ⟨f, hg⟩, h99, hcl⟩ := hA
  obtain ⟨Z, Q, mc, ms, hmc, hms, hc, hm, hZ, hfin⟩ := la_correct (V := V) hE h4 h99 hcl hB (xs (i + 1)) (xs (i + 2)) (xs (i + 3))
  refine ev_aload_n dL_law_2190 rfl rfl ?_
  refine la_arg (jn := 1) hb hX hL hi (by decide) (by decide) dL_law_2191 dL_law_2192 dL_law_2194 dL_law_2195 dL_law_2196 rfl rfl ?_
  refine la_arg (jn := 2) hb hX hL hi (by decide) (by decide) dL_law_2197 dL_law_2198 dL_law_2200 dL_law_2201 dL_law_2202 rfl rfl ?_
  refine la_arg (jn := 3) hb hX hL hi (by decide) (by decide) dL_law_2203 dL_law_2204 dL_law_2206 dL_law_2207 dL_law_2208 rfl rfl ?_
  refine ev_aload_n dL_law_2209 rfl rfl ?_
  refine ev_callSH (d' := 65) (b := b' + (bc - b' - mc)) (k0 := n' + (bs - n' - ms)) (As := [.ref (W 0 0), .int (xs (i + 1)), .int (xs (i + 2)), .int (xs (i + 3)), .ref a]) (rest := []) dL_law_2210 rfl kL_correct rfl lL_216 sL_correct (Nat.le_of_ble_eq_true rfl) (by decide) (wr_correct hE h4 hN hc (fun o W2 C2 z => (hZ o W2 C2 z).2) (Or.inr rfl) hT hg) (by omega) (by omega) (fun v g1 h => ?_) (fun e g1 h => by obtain ⟨o, W2, C2, k, f, h, -⟩ := h; cases h)
  refine ev_room (Nat.le_add_right b' _) (Nat.le_add_right n' _) ?_
  obtain ⟨o, W2, C2, y, f1, h, hz, hk, hT1, hK1, hg1⟩ := h
  cases h
  have hR1 := hR.cg (g2 := g1) (fun b hb => hK1 b (Or.inl hb) (fun z => ha (by rw [← z]; exact hb)))
  refine ev_istore (lv' := [some (.ref b), some (.ref (W 0 0)), some (.ref V.1), some (.ref a), some (.int (nI i)), some (.int y), none]) dL_law_2213 (Nat.le_of_ble_eq_true rfl) rfl ?_
  refine ev_aload_n dL_law_2215 rfl rfl ?_
  refine la_arg (jn := 1) hb hX hL hi (by decide) (by decide) dL_law_2216 dL_law_2217 dL_law_2219 dL_law_2220 dL_law_2221 rfl rfl ?_
  refine la_arg (jn := 2) hb hX hL hi (by decide) (by decide) dL_law_2222 dL_law_2223 dL_law_2225 dL_law_2226 dL_law_2227 rfl rfl ?_
  refine la_arg (jn := 3) hb hX hL hi (by decide) (by decide) dL_law_2228 dL_law_2229 dL_law_2231 dL_law_2232 dL_law_2233 rfl rfl ?_
  refine la_mc (d' := 64) (As := [.int (xs (i + 1)), .int (xs (i + 2)), .int (xs (i + 3))]) (rest := []) hE dL_law_2234 rfl kX12_correct rfl lL_218 iX12_correct vX12_correct rfl (Nat.le_of_ble_eq_true rfl) (by decide) hD hR1 hm (fun g2 r S2 hq hR2 hF2 => ?_)
  obtain ⟨C3, c1, c2, hf⟩ := hfin o W2 C2 r S2 hz hq
  obtain ⟨x, rfl, -⟩ := id hf
  have hT2 := (hT1.mdl hR2 hF2 ha ⟨_, hg1⟩).sc4 c1 c2
  have hg2 : g2 a = some (.inl (G.2.2.2 1, 1, .inr (.inl f1))) := (hF2 a ha).trans hg1
  obtain ⟨-, -, -, F2, OL2, hcl2⟩ := id hf
  have W2w := (hZ _ _ _ hz).1
  obtain ⟨q1, q2⟩ := la_eq (by decide) (la_d2 (by decide)) hk hf
  refine ev_istore (lv' := [some (.ref b), some (.ref (W 0 0)), some (.ref V.1), some (.ref a), some (.int (nI i)), some (.int y), some (.int x)]) dL_law_2237 (Nat.le_of_ble_eq_true rfl) rfl ?_
  refine ev_aload_n dL_law_2239 rfl rfl ?_
  refine la_mc (d' := 64) (As := []) (rest := []) hE dL_law_2240 rfl kX12_thrown rfl lL_120 iX12_thrown vX12_thrown rfl (Nat.le_of_ble_eq_true rfl) (by decide) hD hR2 (c_X12_thrown hE).r (fun g3 r3 S3 h3 hR3 hF3 => ?_)
  obtain ⟨rfl, rfl⟩ := h3
  have hT3 := hT2.mdl hR3 hF3 ha ⟨_, hg2⟩
  have hg3 : g3 a = some (.inl (G.2.2.2 1, 1, .inr (.inl f1))) := (hF3 a ha).trans hg2
  have fin : ev_V G 66 b' n' mL_law Post g3 2387 [some (.ref b), some (.ref (W 0 0)), some (.ref V.1), some (.ref a), some (.int (nI i)), some (.int y), some (.int x)] [] := ev_weak (lv' := [some (.ref b), some (.ref (W 0 0)), some (.ref V.1), some (.ref a), some (.int (nI i)), none, none]) rfl (fun j v hj => by
    match j, hj with
    | 0, hj => exact hj
    | 1, hj => exact hj
    | 2, hj => exact hj
    | 3, hj => exact hj
    | 4, hj => exact hj
    | 5, hj => exact absurd (Option.some.inj hj) (by simp)
    | 6, hj => exact absurd (Option.some.inj hj) (by simp)
    | j + 7, hj => exact absurd hj (by simp)) (k W2 C3 _ g3 W2w.2 ⟨F2, OL2, hT3, hD, hR3, ha, ⟨_, hg3⟩, W2w.1.trans h99, hcl2⟩)
  refine ev_iload dL_law_2243 rfl ?_
  refine ev_icmp_eq (tgt := 2250) dL_law_2245 (by decide) (fun c1 => ?_) (fun c1 => absurd q1 c1)
  refine ev_iload dL_law_2250 rfl ?_
  refine ev_if_ne (tgt := 2267) dL_law_2252 (by decide) (fun _ => ?_) (fun c2 => ?_)
  · exact ev_goto (tgt := 2387) dL_law_2267 (by decide) fin
  · refine ev_aload_n dL_law_2255 rfl rfl ?_
    refine ev_iconst (v := 0) dL_law_2256 (by decide) ?_
    refine ev_lald hE dL_law_2257 hg3 (vp_in_nI (n := 0) (by decide) (by decide)) ?_
    refine ev_iload dL_law_2258 rfl ?_
    refine ev_i2l dL_law_2260 ?_
    refine ev_lcmp dL_law_2261 ?_
    have e0 : f1 (0 : Int32).toNatClampNeg = x.toInt64 := q2 c2
    rw [e0, lg_same]
    exact ev_if_eq (tgt := 2267) dL_law_2262 (by decide) (fun _ => ev_goto (tgt := 2387) dL_law_2267 (by decide) fin) (fun c3 => absurd rfl c3)
theorem lb_row {G : ev_G} {D0 : Nat} {W : cw_W} {V : mo_W} {a b L i bc bs b' n' : Nat} {xs : Nat → Int32} {B : Int} {g : ev_H} {C S : mo_S} {Post : ev_P} (hE : ev_En G) (h4 : ev_En4 G D0) (hN : la_N G) (hb : b < G.2.1.heap.size) (hX : va_X b L xs G.2.1 G.2.1.heap) (hL : L ≤ 3072) (hi : i + 6 ≤ L) (hA : la_T G D0 W V a B g C S) (hB : B ≤ 8000000) (hbc : b' + 24 ≤ bc) (hbs : n' + 4120 ≤ bs) (k : ∀ (W2 : cw_W) (C2 S2 : mo_S) (g2 : ev_H), W2 0 0 = W 0 0 → la_T G D0 W2 V a (B + 2000) g2 C2 S2 → ev_V G 66 b' n' mL_law Post g2 2387 [some (.ref b), some (.ref (W 0 0)), some (.ref V.1), some (.ref a), some (.int (nI i)), none, none] []) : ev_V G 66 bc bs mL_law Post g 2270 [some (.ref b), some (.ref (W 0 0)), some (.ref V.1), some (.ref a), some (.int (nI i)), none, none] [] := by
  obtain ⟨F, OL, hT, hD, hR, ha, ⟨f, hg⟩, h99, hcl⟩ := hA
  obtain ⟨Z, Q, mc, ms, hmc, hms, hc, hm, hZ, hfin⟩ := la_row (V := V) hE h4 h99 hcl hB (xs (i + 1)) (xs (i + 2)) (xs (i + 3)) (xs (i + 4))
  refine ev_aload_n dL_law_2270 rfl rfl ?_
  refine la_arg (jn := 1) hb hX hL hi (by decide) (by decide) dL_law_2271 dL_law_2272 dL_law_2274 dL_law_2275 dL_law_2276 rfl rfl ?_
  refine la_arg (jn := 2) hb hX hL hi (by decide) (by decide) dL_law_2277 dL_law_2278 dL_law_2280 dL_law_2281 dL_law_2282 rfl rfl ?_
  refine la_arg (jn := 3) hb hX hL hi (by decide) (by decide) dL_law_2283 dL_law_2284 dL_law_2286 dL_law_2287 dL_law_2288 rfl rfl ?_
  refine la_arg (jn := 4) hb hX hL hi (by decide) (by decide) dL_law_2289 dL_law_2290 dL_law_2292 dL_law_2293 dL_law_2294 rfl rfl ?_
  refine ev_aload_n dL_law_2295 rfl rfl ?_
  refine ev_callSH (d' := 65) (b := b' + (bc - b' - mc)) (k0 := n' + (bs - n' - ms)) (As := [.ref (W 0 0), .int (xs (i + 1)), .int (xs (i + 2)), .int (xs (i + 3)), .int (xs (i + 4)), .ref a]) (rest := []) dL_law_2296 rfl kL_row rfl lL_219 sL_row (Nat.le_of_ble_eq_true rfl) (by decide) (wr_row hE h4 hN hc (fun o W2 C2 z => (hZ o W2 C2 z).2) (Or.inr rfl) hT hg) (by omega) (by omega) (fun v g1 h => ?_) (fun e g1 h => by obtain ⟨o, W2, C2, k, f, h, -⟩ := h; cases h)
  refine ev_room (Nat.le_add_right b' _) (Nat.le_add_right n' _) ?_
  obtain ⟨o, W2, C2, y, f1, h, hz, hk, hT1, hK1, hg1⟩ := h
  cases h
  have hR1 := hR.cg (g2 := g1) (fun b hb => hK1 b (Or.inl hb) (fun z => ha (by rw [← z]; exact hb)))
  refine ev_istore (lv' := [some (.ref b), some (.ref (W 0 0)), some (.ref V.1), some (.ref a), some (.int (nI i)), some (.int y), none]) dL_law_2299 (Nat.le_of_ble_eq_true rfl) rfl ?_
  refine ev_aload_n dL_law_2301 rfl rfl ?_
  refine la_arg (jn := 1) hb hX hL hi (by decide) (by decide) dL_law_2302 dL_law_2303 dL_law_2305 dL_law_2306 dL_law_2307 rfl rfl ?_
  refine la_arg (jn := 2) hb hX hL hi (by decide) (by decide) dL_law_2308 dL_law_2309 dL_law_2311 dL_law_2312 dL_law_2313 rfl rfl ?_
  refine la_arg (jn := 3) hb hX hL hi (by decide) (by decide) dL_law_2314 dL_law_2315 dL_law_2317 dL_law_2318 dL_law_2319 rfl rfl ?_
  refine la_arg (jn := 4) hb hX hL hi (by decide) (by decide) dL_law_2320 dL_law_2321 dL_law_2323 dL_law_2324 dL_law_2325 rfl rfl ?_
  refine la_mc (d' := 64) (As := [.int (xs (i + 1)), .int (xs (i + 2)), .int (xs (i + 3)), .int (xs (i + 4))]) (rest := []) hE dL_law_2326 rfl kX12_row rfl lL_222 iX12_row vX12_row rfl (Nat.le_of_ble_eq_true rfl) (by decide) hD hR1 hm (fun g2 r S2 hq hR2 hF2 => ?_)
  obtain ⟨C3, c1, c2, hf⟩ := hfin o W2 C2 r S2 hz hq
  obtain ⟨x, rfl, -⟩ := id hf
  have hT2 := (hT1.mdl hR2 hF2 ha ⟨_, hg1⟩).sc4 c1 c2
  have hg2 : g2 a = some (.inl (G.2.2.2 1, 1, .inr (.inl f1))) := (hF2 a ha).trans hg1
  obtain ⟨-, -, -, F2, OL2, hcl2⟩ := id hf
  have W2w := (hZ _ _ _ hz).1
  obtain ⟨q1, q2⟩ := la_eq (by decide) (la_d2 (by decide)) hk hf
  refine ev_istore (lv' := [some (.ref b), some (.ref (W 0 0)), some (.ref V.1), some (.ref a), some (.int (nI i)), some (.int y), some (.int x)]) dL_law_2329 (Nat.le_of_ble_eq_true rfl) rfl ?_
  refine ev_aload_n dL_law_2331 rfl rfl ?_
  refine la_mc (d' := 64) (As := []) (rest := []) hE dL_law_2332 rfl kX12_thrown rfl lL_120 iX12_thrown vX12_thrown rfl (Nat.le_of_ble_eq_true rfl) (by decide) hD hR2 (c_X12_thrown hE).r (fun g3 r3 S3 h3 hR3 hF3 => ?_)
  obtain ⟨rfl, rfl⟩ := h3
  have hT3 := hT2.mdl hR3 hF3 ha ⟨_, hg2⟩
  have hg3 : g3 a = some (.inl (G.2.2.2 1, 1, .inr (.inl f1))) := (hF3 a ha).trans hg2
  have fin : ev_V G 66 b' n' mL_law Post g3 2387 [some (.ref b), some (.ref (W 0 0)), some (.ref V.1), some (.ref a), some (.int (nI i)), some (.int y), some (.int x)] [] := ev_weak (lv' := [some (.ref b), some (.ref (W 0 0)), some (.ref V.1), some (.ref a), some (.int (nI i)), none, none]) rfl (fun j v hj => by
    match j, hj with
    | 0, hj => exact hj
    | 1, hj => exact hj
    | 2, hj => exact hj
    | 3, hj => exact hj
    | 4, hj => exact hj
    | 5, hj => exact absurd (Option.some.inj hj) (by simp)
    | 6, hj => exact absurd (Option.some.inj hj) (by simp)
    | j + 7, hj => exact absurd hj (by simp)) (k W2 C3 _ g3 W2w.2 ⟨F2, OL2, hT3, hD, hR3, ha, ⟨_, hg3⟩, W2w.1.trans h99, hcl2⟩)
  refine ev_iload dL_law_2335 rfl ?_
  refine ev_icmp_eq (tgt := 2342) dL_law_2337 (by decide) (fun c1 => ?_) (fun c1 => absurd q1 c1)
  refine ev_iload dL_law_2342 rfl ?_
  refine ev_if_ne (tgt := 2359) dL_law_2344 (by decide) (fun _ => ?_) (fun c2 => ?_)
  · exact ev_goto (tgt := 2387) dL_law_2359 (by decide) fin
  · refine ev_aload_n dL_law_2347 rfl rfl ?_
    refine ev_iconst (v := 0) dL_law_2348 (by decide) ?_
    refine ev_lald hE dL_law_2349 hg3 (vp_in_nI (n := 0) (by decide) (by decide)) ?_
    refine ev_iload dL_law_2350 rfl ?_
    refine ev_i2l dL_law_2352 ?_
    refine ev_lcmp dL_law_2353 ?_
    have e0 : f1 (0 : Int32).toNatClampNeg = x.toInt64 := q2 c2
    rw [e0, lg_same]
    exact ev_if_eq (tgt := 2359) dL_law_2354 (by decide) (fun _ => ev_goto (tgt := 2387) dL_law_2359 (by decide) fin) (fun c3 => absurd rfl c3)
theorem lb_count {G : ev_G} {D0 : Nat} {W : cw_W} {V : mo_W} {a b L i bc bs b' n' : Nat} {xs : Nat → Int32} {B : Int} {g : ev_H} {C S : mo_S} {Post : ev_P} (hE : ev_En G) (h4 : ev_En4 G D0) (hN : la_N G) (hb : b < G.2.1.heap.size) (hX : va_X b L xs G.2.1 G.2.1.heap) (hL : L ≤ 3072) (hi : i + 6 ≤ L) (hA : la_T G D0 W V a B g C S) (hB : B ≤ 8000000) (hbc : b' + 24 ≤ bc) (hbs : n' + 4120 ≤ bs) (k : ∀ (W2 : cw_W) (C2 S2 : mo_S) (g2 : ev_H), W2 0 0 = W 0 0 → la_T G D0 W2 V a (B + 2000) g2 C2 S2 → ev_V G 66 b' n' mL_law Post g2 2387 [some (.ref b), some (.ref (W 0 0)), some (.ref V.1), some (.ref a), some (.int (nI i)), none, none] []) : ev_V G 66 bc bs mL_law Post g 2362 [some (.ref b), some (.ref (W 0 0)), some (.ref V.1), some (.ref a), some (.int (nI i)), none, none] [] := by
  obtain ⟨F, OL, hT, hD, hR, ha, ⟨f, hg⟩, h99, hcl⟩ := hA
  obtain ⟨Z, Q, mc, ms, hmc, hms, hc, hm, hZ, hfin⟩ := la_count (V := V) hE h4 h99 hcl hB (xs (i + 1))
  refine ev_aload_n dL_law_2362 rfl rfl ?_
  refine la_arg (jn := 1) hb hX hL hi (by decide) (by decide) dL_law_2363 dL_law_2364 dL_law_2366 dL_law_2367 dL_law_2368 rfl rfl ?_
  refine ev_callV (d' := 64) (b := b' + (bc - b' - mc)) (k0 := n' + (bs - n' - ms)) (r := W 0 0) (As := [.int (xs (i + 1))]) (rest := []) hE dL_law_2369 rfl kX11_count rfl lL_223 iX11_count vX11_count ((hT.at (k := 0) (i := 0) rfl).1 _ _ ob0) rfl (Nat.le_of_ble_eq_true rfl) (by decide) (hc _ g g hT) (by omega) (by omega) (fun v g1 h => ?_) (fun e g1 h => ?_)
  rotate_left
  · obtain ⟨W2, C2, hz, -⟩ := h
    obtain ⟨y, hy⟩ := (hZ _ _ _ hz).2.e0
    cases hy
  refine ev_room (Nat.le_add_right b' _) (Nat.le_add_right n' _) ?_
  obtain ⟨W2, C2, hz, hT1⟩ := h
  obtain ⟨y, rfl⟩ := (hZ _ _ _ hz).2.v
  have hg1 : g1 a = some (.inl (G.2.2.2 1, 1, .inr (.inl f))) := by rw [(hT1.2.1 a (Or.inr rfl)).1]; exact hg
  have hR1 := hR.cg (g2 := g1) (fun b hb => (hT1.2.1 b (Or.inl hb)).1)
  refine ev_aload_n dL_law_2372 rfl rfl ?_
  refine la_arg (jn := 1) hb hX hL hi (by decide) (by decide) dL_law_2373 dL_law_2374 dL_law_2376 dL_law_2377 dL_law_2378 rfl rfl ?_
  refine la_mc (d' := 64) (As := [.int (xs (i + 1))]) (rest := [.int y]) hE dL_law_2379 rfl kX12_count rfl lL_226 iX12_count vX12_count rfl (Nat.le_of_ble_eq_true rfl) (by decide) hD hR1 hm (fun g2 r S2 hq hR2 hF2 => ?_)
  obtain ⟨C3, c1, c2, hf⟩ := hfin _ W2 C2 r S2 hz hq
  obtain ⟨x, rfl, -⟩ := id hf
  have hT2 := (hT1.mdl hR2 hF2 ha ⟨_, hg1⟩).sc4 c1 c2
  have hg2 : g2 a = some (.inl (G.2.2.2 1, 1, .inr (.inl f))) := (hF2 a ha).trans hg1
  obtain ⟨-, -, -, F2, OL2, hcl2⟩ := id hf
  have W2w := (hZ _ _ _ hz).1
  have exy : y = x := by
    obtain ⟨v, hv, q, -⟩ := hf
    cases hv
    rcases q with ⟨q, -⟩ | ⟨j, e, q, -⟩
    · cases q; rfl
    · exact absurd q (by simp)
  exact ev_icmp_eq (tgt := 2387) dL_law_2382 (by decide) (fun _ => (k W2 C3 _ g2 W2w.2 ⟨F2, OL2, hT2, hD, hR2, ha, ⟨_, hg2⟩, W2w.1.trans h99, hcl2⟩)) (fun c => absurd exy c)
end DZ
