section M4
variable {x : om_x} {y : om_y} {S : Ms}
theorem WF1_moved (hW : WF1 S) (sv ask a : Int32) : WF1 (movedF S sv ask a) := WF1_pJ (WF1_pJ (WF1_pT (by decide) hW))
theorem moved_T (sv ask a : Int32) {f : Nat} (h : f ≠ 467) : mT (movedF S sv ask a) f = mT S f := by
  unfold movedF
  funext i
  simp [mT_pJ, mT_pT, h]
theorem moved_I (sv ask a : Int32) (f : Nat) : mI (movedF S sv ask a) f = mI S f := by
  unfold movedF
  rfl
theorem moved_nA (sv ask a : Int32) : nA (movedF S sv ask a) = nA S := congrArg tn (moved_I sv ask a 453)
theorem moved_nR (sv ask a : Int32) : nR (movedF S sv ask a) = nR S := congrArg tn (moved_I sv ask a 476)
set_option maxRecDepth 100000 in
set_option maxHeartbeats 4000000 in
theorem change_tail {h0 : Hp} {sv o ask a : Int32} (hW : WF1 S) (hs : inN sv 4 = true) (ho : inN o 40 = true) (ha : inN ask (nA S) = true) (hac : inN a 24 = true) (hr : nR S < 700) (b : Bool) (hb2 : letF S sv ask a = b) : MJ x y h0 3 (fun z S' => z = none ∧ S' = changeF S sv o ask a) kX7_change 195 [(0, .ref y.1), (1, .int sv), (2, .int o), (3, .int ask), (4, .int a), (5, .long (mT S 462 (tn ask)).toInt64), (7, .int (6 * sv + mT S 460 (tn ask))), (8, .int (6 + sv)), (9, .int (bi b))] [] S := by
  have ha3 := hW.le300 ha
  have hb : inN (6 * sv + mT S 460 (tn ask)) 24 = true := inN_ac hs (hW.ask ha).2.2.2.1
  have hWM := WF1_moved hW sv ask a
  refine MJ_iload dX7_change_195 rfl ?_
  refine MJ_if_ne (tgt := 210) dX7_change_197 (by decide) (fun c197 => ?_) (fun c197 => ?_)
  · have e : letF S sv ask a ≠ false := fun z => c197 (bi_0.mpr (hb2.symm.trans z))
    refine MJ_aload_n dX7_change_210 rfl rfl isR_r ?_
    refine MJ_getA dX7_change_211 g_X7_63 (by decide) ?_
    refine MJ_iload_n dX7_change_214 rfl rfl ?_
    refine MJ_iconst (v := 1) dX7_change_215 (by decide) ?_
    refine MJ_zast dX7_change_216 (inx_v ha3) (by first | exact Or.inl rfl | exact Or.inr rfl) (by decide) ?_
    refine MJ_aload_n dX7_change_217 rfl rfl isR_r ?_
    refine MJ_getA dX7_change_218 g_X7_20 (by decide) ?_
    refine MJ_iload dX7_change_221 rfl ?_
    refine MJ_pc (pc' := 223) rfl ?_
    refine MJ_dup2 dX7_change_223 rfl rfl ?_
    refine MJ_lald dX7_change_224 (inx_v hac) (by decide) ?_
    refine MJ_aload_n dX7_change_225 rfl rfl isR_r ?_
    refine MJ_getA dX7_change_226 g_X7_36 (by decide) ?_
    refine MJ_iload_n dX7_change_229 rfl rfl ?_
    refine MJ_iald dX7_change_230 (inx_v ha3) (by decide) ?_
    refine MJ_iconst (v := 1) dX7_change_231 (by decide) ?_
    refine MJ_icmp_ne (tgt := 240) dX7_change_232 (by decide) (fun c232 => ?_) (fun c232 => ?_)
    · refine MJ_lload dX7_change_240 rfl ?_
      refine MJ_lneg dX7_change_242 ?_
      refine MJ_ladd dX7_change_243 ?_
      refine MJ_last dX7_change_244 (inx_v hac) (by decide) ?_
      refine MJ_aload_n dX7_change_245 rfl rfl isR_r ?_
      refine MJ_getA dX7_change_246 g_X7_20 (by decide) ?_
      refine MJ_iload dX7_change_249 rfl ?_
      refine MJ_dup2 dX7_change_251 rfl rfl ?_
      refine MJ_pc (pc' := 252) rfl ?_
      refine MJ_lald dX7_change_252 (inx_v hb) (by decide) ?_
      refine MJ_aload_n dX7_change_253 rfl rfl isR_r ?_
      refine MJ_getA dX7_change_254 g_X7_36 (by decide) ?_
      refine MJ_iload_n dX7_change_257 rfl rfl ?_
      refine MJ_iald dX7_change_258 (inx_v ha3) (by decide) ?_
      refine MJ_iconst (v := 2) dX7_change_259 (by decide) ?_
      refine MJ_icmp_ne (tgt := 268) dX7_change_260 (by decide) (fun c260 => ?_) (fun c260 => ?_)
      · refine MJ_lconst (v := 0) dX7_change_268 (by decide) ?_
        refine MJ_ladd dX7_change_269 ?_
        refine MJ_last dX7_change_270 (inx_v hb) (by decide) ?_
        have c232 : ¬ mT S 458 (tn ask) = 1 := c232
        have c260 : ¬ mT S 458 (tn ask) = 2 := c260
        refine MJ_S (S' := movedF S sv ask a) (by simp only [movedF, if_neg c232, if_neg c260] <;> rfl) ?_
        refine MJ_aload_n dX7_change_271 rfl rfl isR_r ?_
        refine MJ_getA dX7_change_272 g_X7_36 (by decide) ?_
        refine MJ_iload_n dX7_change_275 rfl rfl ?_
        refine MJ_iald dX7_change_276 (inx_v ha3) (by decide) ?_
        refine MJ_iconst (v := 3) dX7_change_277 (by decide) ?_
        refine MJ_pc (pc' := 278) rfl ?_
        refine MJ_icmp_eq (tgt := 295) dX7_change_278 (by decide) (fun c278 => ?_) (fun c278 => ?_)
        · rw [moved_T _ _ _ (by decide)] at c278
          have hlt : nA S < 300 := by
           have e2 : letF S sv ask a = true := by cases h9 : letF S sv ask a; exact absurd h9 e; rfl
           unfold letF at e2
           rw [if_neg c232, if_neg c260] at e2
           simp only [Bool.and_eq_true, decide_eq_true_eq] at e2
           have e3 := e2.2.1
           have e4 := inN_tn hW.1.1
           rw [e4.1, show (300 : Int32) = nI 300 from rfl, nI_lti e4.2.2 (by decide)] at e3
           exact e3
          have e4 := inN_tn hW.1.1
          have hltM : nA (movedF S sv ask a) < 300 := by rw [moved_nA]; exact hlt
          have haM : inN ask (nA (movedF S sv ask a)) = true := by rw [moved_nA]; exact ha
          have hrM : nR (movedF S sv ask a) < 700 := by rw [moved_nR]; exact hr
          obtain ⟨w4, n4⟩ := WF1_newAsk hWM hltM (inN_sv hs) (t := 0) (b := 0) (sv := mT (movedF S sv ask a) 461 (tn ask)) (a := mT (movedF S sv ask a) 460 (tn ask)) (by rw [moved_T _ _ _ (by decide)]; exact (hW.ask ha).2.2.2.2) (by rw [moved_T _ _ _ (by decide)]; exact (hW.ask ha).2.2.2.1) (show inN 0 6 = true by decide) (show inN 0 4 = true by decide) (kind := 1) (amt := mT (movedF S sv ask a) 462 (tn ask)) (far := ask) (fun _ => haM)
          have hk5 : inN (mI (movedF S sv ask a) 453) (nA (newAskF (movedF S sv ask a) (6 + sv) (mT (movedF S sv ask a) 461 (tn ask)) 1 (mT (movedF S sv ask a) 460 (tn ask)) 0 0 (mT (movedF S sv ask a) 462 (tn ask)) ask)) = true := by
           rw [n4, moved_nA, moved_I, e4.1]; exact inN_nIlt (Nat.lt_succ_self _) (by unfold nA; omega)
          refine MJ_aload_n dX7_change_295 rfl rfl isR_r ?_
          refine MJ_iload dX7_change_296 rfl ?_
          refine MJ_aload_n dX7_change_298 rfl rfl isR_r ?_
          refine MJ_getA dX7_change_299 g_X7_45 (by decide) ?_
          refine MJ_iload_n dX7_change_302 rfl rfl ?_
          refine MJ_iald dX7_change_303 (inx_v ha3) (by decide) ?_
          refine MJ_iconst (v := 1) dX7_change_304 (by decide) ?_
          refine MJ_aload_n dX7_change_305 rfl rfl isR_r ?_
          refine MJ_pc (pc' := 306) rfl ?_
          refine MJ_getA dX7_change_306 g_X7_42 (by decide) ?_
          refine MJ_iload_n dX7_change_309 rfl rfl ?_
          refine MJ_iald dX7_change_310 (inx_v ha3) (by decide) ?_
          refine MJ_iconst (v := 0) dX7_change_311 (by decide) ?_
          refine MJ_iconst (v := 0) dX7_change_312 (by decide) ?_
          refine MJ_aload_n dX7_change_313 rfl rfl isR_r ?_
          refine MJ_getA dX7_change_314 g_X7_48 (by decide) ?_
          refine MJ_iload_n dX7_change_317 rfl rfl ?_
          refine MJ_pc (pc' := 318) rfl ?_
          refine MJ_iald dX7_change_318 (inx_v ha3) (by decide) ?_
          refine MJ_iload_n dX7_change_319 rfl rfl ?_
          refine MJ_callV (mm_newAsk hWM (inN_sv hs) hltM) dX7_change_320 ml_X7_147 mkX7_newAsk rfl rfl rfl (Nat.le_of_ble_eq_true rfl) ⟨Nat.le_of_ble_eq_true rfl, Nat.le_of_ble_eq_true rfl⟩ (fun v320 hp320 q320 => ?_)
          obtain ⟨rfl, z320⟩ := q320
          rw [z320]
          refine MJ_istore dX7_change_323 (by decide) ?_
          refine MJ_aload_n dX7_change_325 rfl rfl isR_r ?_
          refine MJ_getA dX7_change_326 g_X7_60 (by decide) ?_
          refine MJ_iload_n dX7_change_329 rfl rfl ?_
          refine MJ_iload dX7_change_330 rfl ?_
          refine MJ_pc (pc' := 332) rfl ?_
          refine MJ_iast dX7_change_332 (inx_v ha3) (by decide) ?_
          refine MJ_aload_n dX7_change_333 rfl rfl isR_r ?_
          refine MJ_iload_n dX7_change_334 rfl rfl ?_
          refine MJ_aload_n dX7_change_335 rfl rfl isR_r ?_
          refine MJ_getA dX7_change_336 g_X7_30 (by decide) ?_
          refine MJ_iload_n dX7_change_339 rfl rfl ?_
          refine MJ_iald dX7_change_340 (inx_v ha3) (by decide) ?_
          refine MJ_iconst (v := 2) dX7_change_341 (by decide) ?_
          refine MJ_pc (pc' := 342) rfl ?_
          refine MJ_lconst (v := 0) dX7_change_342 (by decide) ?_
          refine MJ_iload dX7_change_343 rfl ?_
          refine MJ_callV (mm_putRecord (WF1_pT (by decide) w4) (by rw [nR_pT, newAsk_nR]; exact hrM)) dX7_change_345 ml_X7_175 mkX7_putRecord rfl rfl rfl (Nat.le_of_ble_eq_true rfl) ⟨Nat.le_of_ble_eq_true rfl, Nat.le_of_ble_eq_true rfl⟩ (fun v345 hp345 q345 => ?_)
          obtain ⟨rfl, z345⟩ := q345
          rw [z345]
          refine MJ_aload_n dX7_change_348 rfl rfl isR_r ?_
          refine MJ_iload dX7_change_349 rfl ?_
          refine MJ_iconst (v := 0) dX7_change_351 (by decide) ?_
          refine MJ_lconst (v := 0) dX7_change_352 (by decide) ?_
          refine MJ_callV (mm_send (ans := false) (WF1_put (WF1_pT (by decide) w4) (by rw [nR_pT, newAsk_nR]; exact hrM) (fun _ => by rw [nA_pT]; exact hk5)) (by rw [put_nA, nA_pT]; exact hk5)) dX7_change_353 ml_X7_151 mkX7_send rfl rfl rfl (Nat.le_of_ble_eq_true rfl) ⟨Nat.le_of_ble_eq_true rfl, Nat.le_of_ble_eq_true rfl⟩ (fun v353 hp353 q353 => ?_)
          obtain ⟨rfl, z353⟩ := q353
          rw [z353]
          refine MJ_pc (pc' := 356) rfl ?_
          exact MJ_return dX7_change_356 rfl ⟨rfl, by unfold changeF; rw [if_neg e, if_neg (fun z => z c278)]; rfl⟩
        · refine MJ_aload_n dX7_change_281 rfl rfl isR_r ?_
          refine MJ_iload_n dX7_change_282 rfl rfl ?_
          refine MJ_iload_n dX7_change_283 rfl rfl ?_
          refine MJ_aload_n dX7_change_284 rfl rfl isR_r ?_
          refine MJ_getA dX7_change_285 g_X7_20 (by decide) ?_
          refine MJ_iload dX7_change_288 rfl ?_
          refine MJ_lald dX7_change_290 (inx_v hac) (by decide) ?_
          refine MJ_callV (mm_done (S := movedF S sv ask a) hWM (by rw [moved_nA]; exact ha) (by rw [moved_nR]; exact hr)) dX7_change_291 ml_X7_195 mkX7_done rfl rfl rfl (Nat.le_of_ble_eq_true rfl) ⟨Nat.le_of_ble_eq_true rfl, Nat.le_of_ble_eq_true rfl⟩ (fun v291 hp291 q291 => ?_)
          obtain ⟨rfl, z291⟩ := q291
          rw [z291]
          refine MJ_pc (pc' := 294) rfl ?_
          rw [moved_T _ _ _ (by decide)] at c278
          exact MJ_return dX7_change_294 rfl ⟨rfl, by unfold changeF; rw [if_neg e, if_pos c278]⟩
      · refine MJ_lload dX7_change_263 rfl ?_
        refine MJ_goto (tgt := 269) dX7_change_265 (by decide) ?_
        refine MJ_ladd dX7_change_269 ?_
        refine MJ_last dX7_change_270 (inx_v hb) (by decide) ?_
        have c232 : ¬ mT S 458 (tn ask) = 1 := c232
        have c260 : mT S 458 (tn ask) = 2 := c260
        refine MJ_S (S' := movedF S sv ask a) (by simp only [movedF, if_neg c232, if_pos c260] <;> rfl) ?_
        refine MJ_aload_n dX7_change_271 rfl rfl isR_r ?_
        refine MJ_getA dX7_change_272 g_X7_36 (by decide) ?_
        refine MJ_iload_n dX7_change_275 rfl rfl ?_
        refine MJ_iald dX7_change_276 (inx_v ha3) (by decide) ?_
        refine MJ_iconst (v := 3) dX7_change_277 (by decide) ?_
        refine MJ_pc (pc' := 278) rfl ?_
        refine MJ_icmp_eq (tgt := 295) dX7_change_278 (by decide) (fun c278 => ((show False by rw [moved_T _ _ _ (by decide)] at c278; rw [c278] at c260; exact absurd c260 (by decide))).elim) (fun c278 => ?_)
        refine MJ_aload_n dX7_change_281 rfl rfl isR_r ?_
        refine MJ_iload_n dX7_change_282 rfl rfl ?_
        refine MJ_iload_n dX7_change_283 rfl rfl ?_
        refine MJ_aload_n dX7_change_284 rfl rfl isR_r ?_
        refine MJ_getA dX7_change_285 g_X7_20 (by decide) ?_
        refine MJ_iload dX7_change_288 rfl ?_
        refine MJ_lald dX7_change_290 (inx_v hac) (by decide) ?_
        refine MJ_callV (mm_done (S := movedF S sv ask a) hWM (by rw [moved_nA]; exact ha) (by rw [moved_nR]; exact hr)) dX7_change_291 ml_X7_195 mkX7_done rfl rfl rfl (Nat.le_of_ble_eq_true rfl) ⟨Nat.le_of_ble_eq_true rfl, Nat.le_of_ble_eq_true rfl⟩ (fun v291 hp291 q291 => ?_)
        obtain ⟨rfl, z291⟩ := q291
        rw [z291]
        refine MJ_pc (pc' := 294) rfl ?_
        rw [moved_T _ _ _ (by decide)] at c278
        exact MJ_return dX7_change_294 rfl ⟨rfl, by unfold changeF; rw [if_neg e, if_pos c278]⟩
    · refine MJ_lload dX7_change_235 rfl ?_
      refine MJ_goto (tgt := 243) dX7_change_237 (by decide) ?_
      refine MJ_ladd dX7_change_243 ?_
      refine MJ_last dX7_change_244 (inx_v hac) (by decide) ?_
      refine MJ_aload_n dX7_change_245 rfl rfl isR_r ?_
      refine MJ_getA dX7_change_246 g_X7_20 (by decide) ?_
      refine MJ_iload dX7_change_249 rfl ?_
      refine MJ_dup2 dX7_change_251 rfl rfl ?_
      refine MJ_lald dX7_change_252 (inx_v hb) (by decide) ?_
      refine MJ_pc (pc' := 253) rfl ?_
      refine MJ_aload_n dX7_change_253 rfl rfl isR_r ?_
      refine MJ_getA dX7_change_254 g_X7_36 (by decide) ?_
      refine MJ_iload_n dX7_change_257 rfl rfl ?_
      refine MJ_iald dX7_change_258 (inx_v ha3) (by decide) ?_
      refine MJ_iconst (v := 2) dX7_change_259 (by decide) ?_
      refine MJ_icmp_ne (tgt := 268) dX7_change_260 (by decide) (fun c260 => ?_) (fun c260 => ((show False by have c260 : mT S 458 (tn ask) = 2 := c260; have c232 : mT S 458 (tn ask) = 1 := c232; rw [c232] at c260; exact absurd c260 (by decide))).elim)
      refine MJ_lconst (v := 0) dX7_change_268 (by decide) ?_
      refine MJ_ladd dX7_change_269 ?_
      refine MJ_last dX7_change_270 (inx_v hb) (by decide) ?_
      refine MJ_pc (pc' := 271) rfl ?_
      have c232 : mT S 458 (tn ask) = 1 := c232
      have c260 : ¬ mT S 458 (tn ask) = 2 := c260
      refine MJ_S (S' := movedF S sv ask a) (by simp only [movedF, if_pos c232, if_neg c260] <;> rfl) ?_
      refine MJ_aload_n dX7_change_271 rfl rfl isR_r ?_
      refine MJ_getA dX7_change_272 g_X7_36 (by decide) ?_
      refine MJ_iload_n dX7_change_275 rfl rfl ?_
      refine MJ_iald dX7_change_276 (inx_v ha3) (by decide) ?_
      refine MJ_iconst (v := 3) dX7_change_277 (by decide) ?_
      refine MJ_icmp_eq (tgt := 295) dX7_change_278 (by decide) (fun c278 => ((show False by rw [moved_T _ _ _ (by decide)] at c278; rw [c278] at c232; exact absurd c232 (by decide))).elim) (fun c278 => ?_)
      refine MJ_aload_n dX7_change_281 rfl rfl isR_r ?_
      refine MJ_iload_n dX7_change_282 rfl rfl ?_
      refine MJ_iload_n dX7_change_283 rfl rfl ?_
      refine MJ_pc (pc' := 284) rfl ?_
      refine MJ_aload_n dX7_change_284 rfl rfl isR_r ?_
      refine MJ_getA dX7_change_285 g_X7_20 (by decide) ?_
      refine MJ_iload dX7_change_288 rfl ?_
      refine MJ_lald dX7_change_290 (inx_v hac) (by decide) ?_
      refine MJ_callV (mm_done (S := movedF S sv ask a) hWM (by rw [moved_nA]; exact ha) (by rw [moved_nR]; exact hr)) dX7_change_291 ml_X7_195 mkX7_done rfl rfl rfl (Nat.le_of_ble_eq_true rfl) ⟨Nat.le_of_ble_eq_true rfl, Nat.le_of_ble_eq_true rfl⟩ (fun v291 hp291 q291 => ?_)
      obtain ⟨rfl, z291⟩ := q291
      rw [z291]
      rw [moved_T _ _ _ (by decide)] at c278
      exact MJ_return dX7_change_294 rfl ⟨rfl, by unfold changeF; rw [if_neg e, if_pos c278]⟩
  · have e : b = false := bi_0.mp c197
    refine MJ_aload_n dX7_change_200 rfl rfl isR_r ?_
    refine MJ_iload_n dX7_change_201 rfl rfl ?_
    refine MJ_iload_n dX7_change_202 rfl rfl ?_
    refine MJ_ldc2 dX7_change_203 ll_X7_203 ?_
    refine MJ_callV (mm_done hW ha hr) dX7_change_206 ml_X7_195 mkX7_done rfl rfl rfl (Nat.le_of_ble_eq_true rfl) ⟨Nat.le_of_ble_eq_true rfl, Nat.le_of_ble_eq_true rfl⟩ (fun v206 hp206 q206 => ?_)
    obtain ⟨rfl, z206⟩ := q206
    rw [z206]
    exact MJ_return dX7_change_209 rfl ⟨rfl, by unfold changeF; rw [hb2, if_pos e]⟩
set_option maxRecDepth 100000 in
set_option maxHeartbeats 4000000 in
theorem mm_change {sv o ask a : Int32} (hW : WF1 S) (hs : inN sv 4 = true) (ho : inN o 40 = true) (ha : inN ask (nA S) = true) (hac : inN a 24 = true) (hr : nR S < 700) : MM x y 3 kX7_change [.ref y.1, .int sv, .int o, .int ask, .int a] S (fun z S' => z = none ∧ S' = changeF S sv o ask a) := by
  refine MM.ofJ mkX7_change.1 (Nat.le_of_ble_eq_true rfl) fun h0 => ?_
  have ha3 := hW.le300 ha
  have hb : inN (6 * sv + mT S 460 (tn ask)) 24 = true := inN_ac hs (hW.ask ha).2.2.2.1
  refine MJ_aload_n dX7_change_0 rfl rfl isR_r ?_
  refine MJ_getA dX7_change_1 g_X7_48 (by decide) ?_
  refine MJ_iload_n dX7_change_4 rfl rfl ?_
  refine MJ_iald dX7_change_5 (inx_v ha3) (by decide) ?_
  refine MJ_i2l dX7_change_6 ?_
  refine MJ_lstore dX7_change_7 (by decide) ?_
  refine MJ_bipush (v := 6) dX7_change_9 (by decide) ?_
  refine MJ_iload_n dX7_change_11 rfl rfl ?_
  refine MJ_pc (pc' := 12) rfl ?_
  refine MJ_imul dX7_change_12 ?_
  refine MJ_aload_n dX7_change_13 rfl rfl isR_r ?_
  refine MJ_getA dX7_change_14 g_X7_42 (by decide) ?_
  refine MJ_iload_n dX7_change_17 rfl rfl ?_
  refine MJ_iald dX7_change_18 (inx_v ha3) (by decide) ?_
  refine MJ_iadd dX7_change_19 ?_
  refine MJ_istore dX7_change_20 (by decide) ?_
  refine MJ_bipush (v := 6) dX7_change_22 (by decide) ?_
  refine MJ_pc (pc' := 24) rfl ?_
  refine MJ_iload_n dX7_change_24 rfl rfl ?_
  refine MJ_iadd dX7_change_25 ?_
  refine MJ_istore dX7_change_26 (by decide) ?_
  refine MJ_iconst (v := 1) dX7_change_28 (by decide) ?_
  refine MJ_istore dX7_change_29 (by decide) ?_
  refine MJ_aload_n dX7_change_31 rfl rfl isR_r ?_
  refine MJ_getA dX7_change_32 g_X7_36 (by decide) ?_
  refine MJ_iload_n dX7_change_35 rfl rfl ?_
  refine MJ_pc (pc' := 36) rfl ?_
  refine MJ_iald dX7_change_36 (inx_v ha3) (by decide) ?_
  by_cases s37_1 : mT S 458 (tn ask) = 1
  · refine MJ_st (st' := [.int 1]) (by rw [s37_1] <;> rfl) ?_
    refine MJ_lsw (off := 27) (tgt := 64) dX7_change_37 (by decide) (by decide) (by decide) ?_
    refine MJ_aload_n dX7_change_64 rfl rfl isR_r ?_
    refine MJ_getA dX7_change_65 g_X7_24 (by decide) ?_
    refine MJ_iload_n dX7_change_68 rfl rfl ?_
    refine MJ_iald dX7_change_69 (inx_v ha3) (by decide) ?_
    refine MJ_iconst (v := 5) dX7_change_70 (by decide) ?_
    refine MJ_icmp_gt (tgt := 91) dX7_change_71 (by decide) (fun c71 => ?_) (fun c71 => ?_)
    · refine MJ_iconst (v := 1) dX7_change_91 (by decide) ?_
      refine MJ_goto (tgt := 96) dX7_change_92 (by decide) ?_
      refine MJ_istore dX7_change_96 (by decide) ?_
      refine MJ_goto (tgt := 195) dX7_change_98 (by decide) ?_
      exact MJ_loc _ rfl (change_tail hW hs ho ha hac hr true (by unfold letF; rw [if_pos s37_1]; rw [decide_eq_true c71]; rfl))
    · refine MJ_aload_n dX7_change_74 rfl rfl isR_r ?_
      refine MJ_aload_n dX7_change_75 rfl rfl isR_r ?_
      refine MJ_getA dX7_change_76 g_X7_20 (by decide) ?_
      refine MJ_iload dX7_change_79 rfl ?_
      refine MJ_lald dX7_change_81 (inx_v hac) (by decide) ?_
      refine MJ_lload dX7_change_82 rfl ?_
      refine MJ_ladd dX7_change_84 ?_
      refine MJ_callV (mm_mayBe) dX7_change_85 ml_X7_199 mkX7_mayBe rfl rfl rfl (Nat.le_of_ble_eq_true rfl) ⟨Nat.le_of_ble_eq_true rfl, Nat.le_of_ble_eq_true rfl⟩ (fun v85 hp85 q85 => ?_)
      obtain ⟨rfl, z85⟩ := q85
      rw [z85]
      refine MJ_pc (pc' := 88) rfl ?_
      refine MJ_if_eq (tgt := 95) dX7_change_88 (by decide) (fun c88 => ?_) (fun c88 => ?_)
      · refine MJ_iconst (v := 0) dX7_change_95 (by decide) ?_
        refine MJ_istore dX7_change_96 (by decide) ?_
        refine MJ_goto (tgt := 195) dX7_change_98 (by decide) ?_
        exact MJ_loc _ rfl (change_tail hW hs ho ha hac hr false (by unfold letF; rw [if_pos s37_1, bi_0.mp c88, decide_eq_false c71]; rfl))
      · refine MJ_iconst (v := 1) dX7_change_91 (by decide) ?_
        refine MJ_goto (tgt := 96) dX7_change_92 (by decide) ?_
        refine MJ_istore dX7_change_96 (by decide) ?_
        refine MJ_goto (tgt := 195) dX7_change_98 (by decide) ?_
        exact MJ_loc _ rfl (change_tail hW hs ho ha hac hr true (by unfold letF; rw [if_pos s37_1, bi_1.mp c88, Bool.or_true]))
  -- else
  by_cases s37_2 : mT S 458 (tn ask) = 2
  · refine MJ_st (st' := [.int 2]) (by rw [s37_2] <;> rfl) ?_
    refine MJ_lsw (off := 64) (tgt := 101) dX7_change_37 (by decide) (by decide) (by decide) ?_
    refine MJ_iload dX7_change_101 rfl ?_
    refine MJ_iload dX7_change_103 rfl ?_
    refine MJ_icmp_eq (tgt := 142) dX7_change_105 (by decide) (fun c105 => ?_) (fun c105 => ?_)
    · refine MJ_iconst (v := 1) dX7_change_142 (by decide) ?_
      refine MJ_goto (tgt := 147) dX7_change_143 (by decide) ?_
      refine MJ_istore dX7_change_147 (by decide) ?_
      refine MJ_goto (tgt := 195) dX7_change_149 (by decide) ?_
      exact MJ_loc _ rfl (change_tail hW hs ho ha hac hr true (by unfold letF; rw [if_neg s37_1, if_pos s37_2, decide_eq_true c105]; rfl))
    · refine MJ_aload_n dX7_change_108 rfl rfl isR_r ?_
      refine MJ_aload_n dX7_change_109 rfl rfl isR_r ?_
      refine MJ_getA dX7_change_110 g_X7_20 (by decide) ?_
      refine MJ_iload dX7_change_113 rfl ?_
      refine MJ_lald dX7_change_115 (inx_v hac) (by decide) ?_
      refine MJ_lload dX7_change_116 rfl ?_
      refine MJ_lsub dX7_change_118 ?_
      refine MJ_callV (mm_mayBe) dX7_change_119 ml_X7_199 mkX7_mayBe rfl rfl rfl (Nat.le_of_ble_eq_true rfl) ⟨Nat.le_of_ble_eq_true rfl, Nat.le_of_ble_eq_true rfl⟩ (fun v119 hp119 q119 => ?_)
      obtain ⟨rfl, z119⟩ := q119
      rw [z119]
      refine MJ_pc (pc' := 122) rfl ?_
      refine MJ_if_eq (tgt := 146) dX7_change_122 (by decide) (fun c122 => ?_) (fun c122 => ?_)
      · refine MJ_iconst (v := 0) dX7_change_146 (by decide) ?_
        refine MJ_istore dX7_change_147 (by decide) ?_
        refine MJ_goto (tgt := 195) dX7_change_149 (by decide) ?_
        exact MJ_loc _ rfl (change_tail hW hs ho ha hac hr false (by unfold letF; rw [if_neg s37_1, if_pos s37_2, decide_eq_false c105, bi_0.mp c122]; rfl))
      · refine MJ_aload_n dX7_change_125 rfl rfl isR_r ?_
        refine MJ_aload_n dX7_change_126 rfl rfl isR_r ?_
        refine MJ_getA dX7_change_127 g_X7_20 (by decide) ?_
        refine MJ_iload dX7_change_130 rfl ?_
        refine MJ_lald dX7_change_132 (inx_v hb) (by decide) ?_
        refine MJ_lload dX7_change_133 rfl ?_
        refine MJ_ladd dX7_change_135 ?_
        refine MJ_callV (mm_mayBe) dX7_change_136 ml_X7_199 mkX7_mayBe rfl rfl rfl (Nat.le_of_ble_eq_true rfl) ⟨Nat.le_of_ble_eq_true rfl, Nat.le_of_ble_eq_true rfl⟩ (fun v136 hp136 q136 => ?_)
        obtain ⟨rfl, z136⟩ := q136
        rw [z136]
        refine MJ_pc (pc' := 139) rfl ?_
        refine MJ_if_eq (tgt := 146) dX7_change_139 (by decide) (fun c139 => ?_) (fun c139 => ?_)
        · refine MJ_iconst (v := 0) dX7_change_146 (by decide) ?_
          refine MJ_istore dX7_change_147 (by decide) ?_
          refine MJ_goto (tgt := 195) dX7_change_149 (by decide) ?_
          exact MJ_loc _ rfl (change_tail hW hs ho ha hac hr false (by unfold letF; rw [if_neg s37_1, if_pos s37_2, decide_eq_false c105, bi_0.mp c139]; simp))
        · refine MJ_iconst (v := 1) dX7_change_142 (by decide) ?_
          refine MJ_goto (tgt := 147) dX7_change_143 (by decide) ?_
          refine MJ_istore dX7_change_147 (by decide) ?_
          refine MJ_goto (tgt := 195) dX7_change_149 (by decide) ?_
          exact MJ_loc _ rfl (change_tail hW hs ho ha hac hr true (by unfold letF; rw [if_neg s37_1, if_pos s37_2, bi_1.mp c122, bi_1.mp c139]; simp))
  -- else
  refine MJ_lsw (off := 115) (tgt := 152) dX7_change_37 (by decide) (by show Op.lookupswitch.offset [(1, 27), (2, 64)] 115 _ = 115; rw [lv_osw (k := 1) s37_1 (by decide), lv_osw (k := 2) s37_2 (by decide)]; rfl) (by decide) ?_
  refine MJ_aload_n dX7_change_152 rfl rfl isR_r ?_
  refine MJ_aload_n dX7_change_153 rfl rfl isR_r ?_
  refine MJ_getA dX7_change_154 g_X7_20 (by decide) ?_
  refine MJ_iload dX7_change_157 rfl ?_
  refine MJ_lald dX7_change_159 (by first | assumption | exact inx_v (by assumption) | exact inx_n (show _ < 24 by omega) (by decide)) (by decide) ?_
  refine MJ_lload dX7_change_160 rfl ?_
  refine MJ_lsub dX7_change_162 ?_
  refine MJ_pc (pc' := 163) rfl ?_
  refine MJ_callV (mm_mayBe) dX7_change_163 ml_X7_199 mkX7_mayBe rfl rfl rfl (Nat.le_of_ble_eq_true rfl) ⟨Nat.le_of_ble_eq_true rfl, Nat.le_of_ble_eq_true rfl⟩ (fun v163 hp163 q163 => ?_)
  obtain ⟨rfl, z163⟩ := q163
  rw [z163]
  refine MJ_if_eq (tgt := 192) dX7_change_166 (by decide) (fun c166 => ?_) (fun c166 => ?_)
  · refine MJ_iconst (v := 0) dX7_change_192 (by decide) ?_
    refine MJ_istore dX7_change_193 (by decide) ?_
    exact MJ_loc _ rfl (change_tail hW hs ho ha hac hr false (by unfold letF; rw [if_neg s37_1, if_neg s37_2, bi_0.mp c166]; rfl))
  · refine MJ_aload_n dX7_change_169 rfl rfl isR_r ?_
    refine MJ_getI dX7_change_170 g_X7_106 ?_
    refine MJ_sipush (v := 300) dX7_change_173 (by decide) ?_
    refine MJ_icmp_ge (tgt := 192) dX7_change_176 (by decide) (fun c176 => ?_) (fun c176 => ?_)
    · refine MJ_iconst (v := 0) dX7_change_192 (by decide) ?_
      refine MJ_istore dX7_change_193 (by decide) ?_
      exact MJ_loc _ rfl (change_tail hW hs ho ha hac hr false (by unfold letF; rw [if_neg s37_1, if_neg s37_2, decide_eq_false (fun z => by rw [n_lt] at z; rw [n_le] at c176; omega)]; simp))
    · refine MJ_aload_n dX7_change_179 rfl rfl isR_r ?_
      refine MJ_iload dX7_change_180 rfl ?_
      refine MJ_callV (mm_isUsedUp (inN_sv hs) hW.1.1) dX7_change_182 ml_X7_142 mkX7_isUsedUp rfl rfl rfl (Nat.le_of_ble_eq_true rfl) ⟨Nat.le_of_ble_eq_true rfl, Nat.le_of_ble_eq_true rfl⟩ (fun v182 hp182 q182 => ?_)
      obtain ⟨rfl, z182⟩ := q182
      rw [z182]
      refine MJ_if_ne (tgt := 192) dX7_change_185 (by decide) (fun c185 => ?_) (fun c185 => ?_)
      · refine MJ_iconst (v := 0) dX7_change_192 (by decide) ?_
        refine MJ_istore dX7_change_193 (by decide) ?_
        exact MJ_loc _ rfl (change_tail hW hs ho ha hac hr false (by unfold letF; rw [if_neg s37_1, if_neg s37_2, bi_1.mp c185]; simp))
      · refine MJ_iconst (v := 1) dX7_change_188 (by decide) ?_
        refine MJ_goto (tgt := 193) dX7_change_189 (by decide) ?_
        refine MJ_istore dX7_change_193 (by decide) ?_
        exact MJ_loc _ rfl (change_tail hW hs ho ha hac hr true (by unfold letF; rw [if_neg s37_1, if_neg s37_2, bi_0.mp c185, bi_1.mp c166, decide_eq_true (by rw [n_lt]; rw [n_le] at c176; omega)]; rfl))
end M4
