section M5
variable {x : om_x} {y : om_y} {S : Ms}
set_option maxRecDepth 100000 in
set_option maxHeartbeats 4000000 in
theorem work_145 {h0 : Hp} {Q : Option Value → Ms → Prop} {sv o ask : Int32} (hW : WF1 S) (hs : inN sv 4 = true) (ho : inN o 40 = true) (ha : inN ask (nA S) = true) (hr : nR S + 1 < 700) (hq : Q none (work2 S sv o ask)) : MJ x y h0 4 Q kX7_work 145 [(0, .ref y.1), (1, .int sv), (2, .int ask), (6, .int o)] [] S := by
  have ha3 := hW.le300 ha
  have hac : inN (6 * sv + mT S 459 (tn ask)) 24 = true := inN_ac hs (hW.ask ha).2.2.1
  cases hf : fnd S o (mT S 456 (tn ask)) with
  | none =>
    refine MJ_aload_n dX7_work_145 rfl rfl isR_r ?_
    refine MJ_iload dX7_work_146 rfl ?_
    refine MJ_aload_n dX7_work_148 rfl rfl isR_r ?_
    refine MJ_getA dX7_work_149 g_X7_30 (by decide) ?_
    refine MJ_iload_n dX7_work_152 rfl rfl ?_
    refine MJ_iald dX7_work_153 (inx_v ha3) (by decide) ?_
    refine MJ_callV (mm_findRecord hW.1.2.2) dX7_work_154 ml_X7_169 mkX7_findRecord rfl rfl rfl (Nat.le_of_ble_eq_true rfl) ⟨Nat.le_of_ble_eq_true rfl, Nat.le_of_ble_eq_true rfl⟩ (fun v154 hp154 q154 => ?_)
    obtain ⟨rfl, z154⟩ := q154
    rw [z154]
    rw [hf]
    refine MJ_istore dX7_work_157 (by decide) ?_
    refine MJ_pc (pc' := 159) rfl ?_
    refine MJ_bipush (v := 6) dX7_work_159 (by decide) ?_
    refine MJ_iload_n dX7_work_161 rfl rfl ?_
    refine MJ_imul dX7_work_162 ?_
    refine MJ_aload_n dX7_work_163 rfl rfl isR_r ?_
    refine MJ_getA dX7_work_164 g_X7_39 (by decide) ?_
    refine MJ_iload_n dX7_work_167 rfl rfl ?_
    refine MJ_iald dX7_work_168 (inx_v ha3) (by decide) ?_
    refine MJ_iadd dX7_work_169 ?_
    refine MJ_pc (pc' := 170) rfl ?_
    refine MJ_istore dX7_work_170 (by decide) ?_
    refine MJ_iload dX7_work_172 rfl ?_
    refine MJ_if_lt (tgt := 252) dX7_work_174 (by decide) (fun c174 => ?_) (fun c174 => ((c174 (show oI none < 0 by decide))).elim)
    refine MJ_aload_n dX7_work_252 rfl rfl isR_r ?_
    refine MJ_getA dX7_work_253 g_X7_36 (by decide) ?_
    refine MJ_iload_n dX7_work_256 rfl rfl ?_
    refine MJ_iald dX7_work_257 (inx_v ha3) (by decide) ?_
    refine MJ_if_ne (tgt := 277) dX7_work_258 (by decide) (fun c258 => ?_) (fun c258 => ?_)
    · refine MJ_aload_n dX7_work_277 rfl rfl isR_r ?_
      refine MJ_getA dX7_work_278 g_X7_36 (by decide) ?_
      refine MJ_iload_n dX7_work_281 rfl rfl ?_
      refine MJ_iald dX7_work_282 (inx_v ha3) (by decide) ?_
      refine MJ_iconst (v := 4) dX7_work_283 (by decide) ?_
      refine MJ_icmp_ne (tgt := 297) dX7_work_284 (by decide) (fun c284 => ?_) (fun c284 => ?_)
      · refine MJ_aload_n dX7_work_297 rfl rfl isR_r ?_
        refine MJ_iload_n dX7_work_298 rfl rfl ?_
        refine MJ_iload dX7_work_299 rfl ?_
        refine MJ_iload_n dX7_work_301 rfl rfl ?_
        refine MJ_iload dX7_work_302 rfl ?_
        refine MJ_callV (mm_change hW hs ho ha hac (by omega)) dX7_work_304 ml_X7_191 mkX7_change rfl rfl rfl (Nat.le_of_ble_eq_true rfl) ⟨Nat.le_of_ble_eq_true rfl, Nat.le_of_ble_eq_true rfl⟩ (fun v304 hp304 q304 => ?_)
        obtain ⟨rfl, z304⟩ := q304
        rw [z304]
        exact MJ_return dX7_work_307 rfl (by unfold work2 at hq; rw [hf] at hq; simp only [actF, if_neg c258, if_neg c284] at hq; exact hq)
      · refine MJ_aload_n dX7_work_287 rfl rfl isR_r ?_
        refine MJ_iload dX7_work_288 rfl ?_
        refine MJ_iload_n dX7_work_290 rfl rfl ?_
        refine MJ_callV (mm_cancel hW ho ha hr) dX7_work_291 ml_X7_187 mkX7_cancel rfl rfl rfl (Nat.le_of_ble_eq_true rfl) ⟨Nat.le_of_ble_eq_true rfl, Nat.le_of_ble_eq_true rfl⟩ (fun v291 hp291 q291 => ?_)
        obtain ⟨rfl, z291⟩ := q291
        rw [z291]
        refine MJ_goto (tgt := 307) dX7_work_294 (by decide) ?_
        exact MJ_return dX7_work_307 rfl (by unfold work2 at hq; rw [hf] at hq; simp only [actF, if_neg c258, if_pos c284] at hq; exact hq)
    · refine MJ_aload_n dX7_work_261 rfl rfl isR_r ?_
      refine MJ_iload_n dX7_work_262 rfl rfl ?_
      refine MJ_iconst (v := 1) dX7_work_263 (by decide) ?_
      refine MJ_aload_n dX7_work_264 rfl rfl isR_r ?_
      refine MJ_getA dX7_work_265 g_X7_20 (by decide) ?_
      refine MJ_iload dX7_work_268 rfl ?_
      refine MJ_lald dX7_work_270 (inx_v hac) (by decide) ?_
      refine MJ_callV (mm_send (ans := true) hW ha) dX7_work_271 ml_X7_151 mkX7_send rfl rfl rfl (Nat.le_of_ble_eq_true rfl) ⟨Nat.le_of_ble_eq_true rfl, Nat.le_of_ble_eq_true rfl⟩ (fun v271 hp271 q271 => ?_)
      obtain ⟨rfl, z271⟩ := q271
      rw [z271]
      refine MJ_pc (pc' := 274) rfl ?_
      refine MJ_goto (tgt := 307) dX7_work_274 (by decide) ?_
      exact MJ_return dX7_work_307 rfl (by unfold work2 at hq; rw [hf] at hq; simp only [actF, if_pos c258] at hq; exact hq)
  | some r =>
    have hr7 := fnd_bound hW hf
    have hrl := (fnd_lt hf).1
    have hidx : inx (nI r) r 700 := inx_n hr7 (by decide)
    refine MJ_aload_n dX7_work_145 rfl rfl isR_r ?_
    refine MJ_iload dX7_work_146 rfl ?_
    refine MJ_aload_n dX7_work_148 rfl rfl isR_r ?_
    refine MJ_getA dX7_work_149 g_X7_30 (by decide) ?_
    refine MJ_iload_n dX7_work_152 rfl rfl ?_
    refine MJ_iald dX7_work_153 (inx_v ha3) (by decide) ?_
    refine MJ_callV (mm_findRecord hW.1.2.2) dX7_work_154 ml_X7_169 mkX7_findRecord rfl rfl rfl (Nat.le_of_ble_eq_true rfl) ⟨Nat.le_of_ble_eq_true rfl, Nat.le_of_ble_eq_true rfl⟩ (fun v154 hp154 q154 => ?_)
    obtain ⟨rfl, z154⟩ := q154
    rw [z154]
    rw [hf]
    refine MJ_istore dX7_work_157 (by decide) ?_
    refine MJ_pc (pc' := 159) rfl ?_
    refine MJ_bipush (v := 6) dX7_work_159 (by decide) ?_
    refine MJ_iload_n dX7_work_161 rfl rfl ?_
    refine MJ_imul dX7_work_162 ?_
    refine MJ_aload_n dX7_work_163 rfl rfl isR_r ?_
    refine MJ_getA dX7_work_164 g_X7_39 (by decide) ?_
    refine MJ_iload_n dX7_work_167 rfl rfl ?_
    refine MJ_iald dX7_work_168 (inx_v ha3) (by decide) ?_
    refine MJ_iadd dX7_work_169 ?_
    refine MJ_pc (pc' := 170) rfl ?_
    refine MJ_istore dX7_work_170 (by decide) ?_
    refine MJ_iload dX7_work_172 rfl ?_
    refine MJ_if_lt (tgt := 252) dX7_work_174 (by decide) (fun c174 => ((nI_pos (show r < 2 ^ 31 by omega) c174)).elim) (fun c174 => ?_)
    refine MJ_aload_n dX7_work_177 rfl rfl isR_r ?_
    refine MJ_getA dX7_work_178 g_X7_93 (by decide) ?_
    refine MJ_iload dX7_work_181 rfl ?_
    refine MJ_iald dX7_work_183 hidx (by decide) ?_
    refine MJ_iconst (v := 2) dX7_work_184 (by decide) ?_
    refine MJ_icmp_eq (tgt := 221) dX7_work_185 (by decide) (fun c185 => ?_) (fun c185 => ?_)
    · refine MJ_aload_n dX7_work_221 rfl rfl isR_r ?_
      refine MJ_getA dX7_work_222 g_X7_51 (by decide) ?_
      refine MJ_aload_n dX7_work_225 rfl rfl isR_r ?_
      refine MJ_getA dX7_work_226 g_X7_99 (by decide) ?_
      refine MJ_iload dX7_work_229 rfl ?_
      refine MJ_iald dX7_work_231 hidx (by decide) ?_
      have hown := hW.2.2.2.2.1 r hrl c185
      refine MJ_iald dX7_work_232 (inx_v (hW.le300 hown)) (by decide) ?_
      refine MJ_if_ne (tgt := 307) dX7_work_233 (by decide) (fun c233 => ?_) (fun c233 => ?_)
      · exact MJ_return dX7_work_307 rfl (by unfold work2 at hq; rw [hf] at hq; simp only [if_neg (fun z : mT S 479 r ≠ 2 => z c185), if_neg c233] at hq; exact hq)
      · refine MJ_aload_n dX7_work_236 rfl rfl isR_r ?_
        refine MJ_aload_n dX7_work_237 rfl rfl isR_r ?_
        refine MJ_getA dX7_work_238 g_X7_99 (by decide) ?_
        refine MJ_iload dX7_work_241 rfl ?_
        refine MJ_iald dX7_work_243 hidx (by decide) ?_
        refine MJ_iconst (v := 0) dX7_work_244 (by decide) ?_
        refine MJ_lconst (v := 0) dX7_work_245 (by decide) ?_
        refine MJ_callV (mm_send (ans := false) hW hown) dX7_work_246 ml_X7_151 mkX7_send rfl rfl rfl (Nat.le_of_ble_eq_true rfl) ⟨Nat.le_of_ble_eq_true rfl, Nat.le_of_ble_eq_true rfl⟩ (fun v246 hp246 q246 => ?_)
        obtain ⟨rfl, z246⟩ := q246
        rw [z246]
        refine MJ_pc (pc' := 249) rfl ?_
        refine MJ_goto (tgt := 307) dX7_work_249 (by decide) ?_
        exact MJ_return dX7_work_307 rfl (by unfold work2 at hq; rw [hf] at hq; simp only [if_neg (fun z : mT S 479 r ≠ 2 => z c185), if_pos c233] at hq; exact hq)
    · refine MJ_aload_n dX7_work_188 rfl rfl isR_r ?_
      refine MJ_iload_n dX7_work_189 rfl rfl ?_
      refine MJ_iconst (v := 1) dX7_work_190 (by decide) ?_
      refine MJ_aload_n dX7_work_191 rfl rfl isR_r ?_
      refine MJ_getA dX7_work_192 g_X7_93 (by decide) ?_
      refine MJ_iload dX7_work_195 rfl ?_
      refine MJ_iald dX7_work_197 hidx (by decide) ?_
      refine MJ_iconst (v := 1) dX7_work_198 (by decide) ?_
      refine MJ_pc (pc' := 199) rfl ?_
      refine MJ_icmp_ne (tgt := 212) dX7_work_199 (by decide) (fun c199 => ?_) (fun c199 => ?_)
      · refine MJ_ldc2 dX7_work_212 ll_X7_185 ?_
        refine MJ_callV (mm_send (ans := true) hW ha) dX7_work_215 ml_X7_151 mkX7_send rfl rfl rfl (Nat.le_of_ble_eq_true rfl) ⟨Nat.le_of_ble_eq_true rfl, Nat.le_of_ble_eq_true rfl⟩ (fun v215 hp215 q215 => ?_)
        obtain ⟨rfl, z215⟩ := q215
        rw [z215]
        refine MJ_goto (tgt := 307) dX7_work_218 (by decide) ?_
        exact MJ_return dX7_work_307 rfl (by unfold work2 at hq; rw [hf] at hq; simp only [if_pos (show mT S 479 r ≠ 2 from c185), if_neg c199] at hq; exact hq)
      · refine MJ_aload_n dX7_work_202 rfl rfl isR_r ?_
        refine MJ_getA dX7_work_203 g_X7_96 (by decide) ?_
        refine MJ_iload dX7_work_206 rfl ?_
        refine MJ_lald dX7_work_208 hidx (by decide) ?_
        refine MJ_goto (tgt := 215) dX7_work_209 (by decide) ?_
        refine MJ_callV (mm_send (ans := true) hW ha) dX7_work_215 ml_X7_151 mkX7_send rfl rfl rfl (Nat.le_of_ble_eq_true rfl) ⟨Nat.le_of_ble_eq_true rfl, Nat.le_of_ble_eq_true rfl⟩ (fun v215 hp215 q215 => ?_)
        obtain ⟨rfl, z215⟩ := q215
        rw [z215]
        refine MJ_goto (tgt := 307) dX7_work_218 (by decide) ?_
        exact MJ_return dX7_work_307 rfl (by unfold work2 at hq; rw [hf] at hq; simp only [if_pos (show mT S 479 r ≠ 2 from c185), if_pos c199] at hq; exact hq)
theorem learnL_T (o ask : Int32) {f : Nat} (h : f ∉ [474, 475, 477, 478, 479, 481]) : mT (learnL S o ask) f = mT S f := by
  simp only [List.mem_cons, List.not_mem_nil, or_false, not_or] at h
  unfold learnL
  split
  · rw [forget_T _ _ (by simp [h]), mT_pT_ne _ _ _ (by simp [h]), mT_pT_ne _ _ _ (by simp [h])]
  · rfl
theorem learnW_T (o low : Int32) {f : Nat} (h : f ∉ [475, 477, 478, 479, 481]) : mT (learnW S o low) f = mT S f := by
  simp only [List.mem_cons, List.not_mem_nil, or_false, not_or] at h
  unfold learnW
  split
  · rw [forget_T _ _ (by simp [h]), mT_pT_ne _ _ _ (by simp [h])]
  · rfl
theorem learnL_I (o ask : Int32) {f : Nat} (h : f ≠ 476) : mI (learnL S o ask) f = mI S f := by
  unfold learnL
  split
  · rw [forget_I _ _ h, mI_pT, mI_pT]
  · rfl
theorem learnW_I (o low : Int32) {f : Nat} (h : f ≠ 476) : mI (learnW S o low) f = mI S f := by
  unfold learnW
  split
  · rw [forget_I _ _ h, mI_pT]
  · rfl
theorem WF1_learnL (hW : WF1 S) (o ask : Int32) : WF1 (learnL S o ask) ∧ nR (learnL S o ask) ≤ nR S := by
  unfold learnL
  split
  · have h1 : WF1 (pT (pT S 474 (tn o) (mT S 455 (tn ask))) 475 (tn o) 1) := WF1_pT (by decide) (WF1_pT (by decide) hW)
    refine ⟨WF1_forget h1 _ _, ?_⟩
    have h2 := (forget_n h1 o 2147483647).2.2
    rw [nR_pT, nR_pT] at h2
    exact h2
  · exact ⟨hW, Nat.le_refl _⟩
theorem WF1_learnW (hW : WF1 S) (o low : Int32) : WF1 (learnW S o low) ∧ nR (learnW S o low) ≤ nR S := by
  unfold learnW
  split
  · have h1 : WF1 (pT S 475 (tn o) low) := WF1_pT (by decide) hW
    refine ⟨WF1_forget h1 _ _, ?_⟩
    have h2 := (forget_n h1 o low).2.2
    rw [nR_pT] at h2
    exact h2
  · exact ⟨hW, Nat.le_refl _⟩
set_option maxRecDepth 100000 in
set_option maxHeartbeats 4000000 in
theorem work_123 {h0 : Hp} {Q : Option Value → Ms → Prop} {sv o ask low : Int32} {up : Bool} (hW : WF1 S) (hs : inN sv 4 = true) (ho : inN o 40 = true) (ha : inN ask (nA S) = true) (hr : nR S + 1 < 700) (hq : Q none (if up = true ∨ mT S 456 (tn ask) < mT S 475 (tn o) then S else work2 S sv o ask)) : MJ x y h0 4 Q kX7_work 123 [(0, .ref y.1), (1, .int sv), (2, .int ask), (3, .int low), (4, .int (bi up)), (6, .int o)] [] S := by
  have ha3 := hW.le300 ha
  refine MJ_iload dX7_work_123 rfl ?_
  refine MJ_if_ne (tgt := 144) dX7_work_125 (by decide) (fun c125 => ?_) (fun c125 => ?_)
  · exact MJ_return dX7_work_144 rfl (by rw [if_pos (Or.inl (bi_1.mp c125))] at hq; exact hq)
  · refine MJ_aload_n dX7_work_128 rfl rfl isR_r ?_
    refine MJ_getA dX7_work_129 g_X7_30 (by decide) ?_
    refine MJ_iload_n dX7_work_132 rfl rfl ?_
    refine MJ_iald dX7_work_133 (inx_v ha3) (by decide) ?_
    refine MJ_aload_n dX7_work_134 rfl rfl isR_r ?_
    refine MJ_getA dX7_work_135 g_X7_84 (by decide) ?_
    refine MJ_iload dX7_work_138 rfl ?_
    refine MJ_iald dX7_work_140 (inx_v ho) (by decide) ?_
    refine MJ_pc (pc' := 141) rfl ?_
    refine MJ_icmp_ge (tgt := 145) dX7_work_141 (by decide) (fun c141 => ?_) (fun c141 => ?_)
    · rw [if_neg (fun z => z.elim (fun q => by rw [bi_0.mp c125] at q; cases q) (fun q => by rw [n_lt] at q; rw [n_le] at c141; omega))] at hq
      exact MJ_loc _ rfl (work_145 hW hs ho ha hr hq)
    · exact MJ_return dX7_work_144 rfl (by rw [if_pos (Or.inr (by rw [n_lt]; rw [n_le] at c141; omega))] at hq; exact hq)
set_option maxRecDepth 100000 in
set_option maxHeartbeats 4000000 in
theorem work_95 {h0 : Hp} {Q : Option Value → Ms → Prop} {sv o ask low : Int32} {up : Bool} (hW : WF1 S) (hs : inN sv 4 = true) (ho : inN o 40 = true) (ha : inN ask (nA S) = true) (hr : nR S + 1 < 700) (hq : Q none (if up = true ∨ mT (learnW S o low) 456 (tn ask) < mT (learnW S o low) 475 (tn o) then learnW S o low else work2 (learnW S o low) sv o ask)) : MJ x y h0 4 Q kX7_work 95 [(0, .ref y.1), (1, .int sv), (2, .int ask), (3, .int low), (4, .int (bi up)), (6, .int o)] [] S := by
  have hL := WF1_learnW hW o low
  have fin : MJ x y h0 4 Q kX7_work 123 [(0, .ref y.1), (1, .int sv), (2, .int ask), (3, .int low), (4, .int (bi up)), (6, .int o)] [] (learnW S o low) := work_123 hL.1 hs ho (by rw [show nA (learnW S o low) = nA S from congrArg tn (learnW_I o low (by decide))]; exact ha) (by omega) hq
  refine MJ_iload_n dX7_work_95 rfl rfl ?_
  refine MJ_aload_n dX7_work_96 rfl rfl isR_r ?_
  refine MJ_getA dX7_work_97 g_X7_84 (by decide) ?_
  refine MJ_iload dX7_work_100 rfl ?_
  refine MJ_iald dX7_work_102 (inx_v ho) (by decide) ?_
  refine MJ_icmp_le (tgt := 123) dX7_work_103 (by decide) (fun c103 => ?_) (fun c103 => ?_)
  · rw [show learnW S o low = S by unfold learnW; rw [if_neg (fun z => by rw [n_lt] at z; rw [n_le] at c103; omega)]] at fin
    exact MJ_loc _ rfl fin
  · refine MJ_aload_n dX7_work_106 rfl rfl isR_r ?_
    refine MJ_getA dX7_work_107 g_X7_84 (by decide) ?_
    refine MJ_iload dX7_work_110 rfl ?_
    refine MJ_iload_n dX7_work_112 rfl rfl ?_
    refine MJ_iast dX7_work_113 (inx_v ho) (by decide) ?_
    refine MJ_aload_n dX7_work_114 rfl rfl isR_r ?_
    refine MJ_iload dX7_work_115 rfl ?_
    refine MJ_iload_n dX7_work_117 rfl rfl ?_
    refine MJ_pc (pc' := 118) rfl ?_
    refine MJ_callV (mm_forget hW.1.2.2) dX7_work_118 ml_X7_182 mkX7_forget rfl rfl rfl (Nat.le_of_ble_eq_true rfl) ⟨Nat.le_of_ble_eq_true rfl, Nat.le_of_ble_eq_true rfl⟩ (fun v118 hp118 q118 => ?_)
    obtain ⟨rfl, z118⟩ := q118
    rw [z118]
    refine MJ_istore dX7_work_121 (by decide) ?_
    rw [show learnW S o low = forgetF (pT S 475 (tn o) low) o low by unfold learnW; rw [if_pos (by rw [n_lt]; rw [n_le] at c103; omega)]] at fin
    exact MJ_loc _ rfl fin
set_option maxRecDepth 100000 in
set_option maxHeartbeats 4000000 in
theorem mm_work {sv ask low : Int32} {up : Bool} (hW : WF1 S) (hs : inN sv 4 = true) (ha : inN ask (nA S) = true) (hr : nR S + 1 < 700) : MM x y 4 kX7_work [.ref y.1, .int sv, .int ask, .int low, .int (bi up)] S (fun z S' => z = none ∧ S' = workF S sv ask low up) := by
  refine MM.ofJ mkX7_work.1 (Nat.le_of_ble_eq_true rfl) fun h0 => ?_
  have ha3 := hW.le300 ha
  have ho : inN (10 * sv + mT S 454 (tn ask)) 40 = true := inN_of hs (hW.ask ha).1
  generalize ho2 : 10 * sv + mT S 454 (tn ask) = o at ho
  have hL := WF1_learnL hW o ask
  have hw : workF S sv ask low up = if mT S 455 (tn ask) < mT S 474 (tn o) then (if up then S else sendF S ask true (-3)) else if up = true ∨ mT (learnW (learnL S o ask) o low) 456 (tn ask) < mT (learnW (learnL S o ask) o low) 475 (tn o) then learnW (learnL S o ask) o low else work2 (learnW (learnL S o ask) o low) sv o ask := by unfold workF; rw [ho2]
  have fin : ¬ mT S 455 (tn ask) < mT S 474 (tn o) → MJ x y h0 4 (fun z S' => z = none ∧ S' = workF S sv ask low up) kX7_work 95 [(0, .ref y.1), (1, .int sv), (2, .int ask), (3, .int low), (4, .int (bi up)), (6, .int o)] [] (learnL S o ask) := fun z => work_95 hL.1 hs ho (by rw [show nA (learnL S o ask) = nA S from congrArg tn (learnL_I o ask (by decide))]; exact ha) (by omega) ⟨rfl, by rw [hw, if_neg z]⟩
  refine MJ_aload_n dX7_work_0 rfl rfl isR_r ?_
  refine MJ_getA dX7_work_1 g_X7_24 (by decide) ?_
  refine MJ_iload_n dX7_work_4 rfl rfl ?_
  refine MJ_iald dX7_work_5 (inx_v ha3) (by decide) ?_
  refine MJ_istore dX7_work_6 (by decide) ?_
  refine MJ_bipush (v := 10) dX7_work_8 (by decide) ?_
  refine MJ_iload_n dX7_work_10 rfl rfl ?_
  refine MJ_imul dX7_work_11 ?_
  refine MJ_pc (pc' := 12) rfl ?_
  refine MJ_iload dX7_work_12 rfl ?_
  refine MJ_iadd dX7_work_14 ?_
  refine MJ_st (st' := [.int o]) (by rw [← ho2]) ?_
  refine MJ_istore dX7_work_15 (by decide) ?_
  refine MJ_aload_n dX7_work_17 rfl rfl isR_r ?_
  refine MJ_getA dX7_work_18 g_X7_27 (by decide) ?_
  refine MJ_iload_n dX7_work_21 rfl rfl ?_
  refine MJ_iald dX7_work_22 (inx_v ha3) (by decide) ?_
  refine MJ_aload_n dX7_work_23 rfl rfl isR_r ?_
  refine MJ_pc (pc' := 24) rfl ?_
  refine MJ_getA dX7_work_24 g_X7_81 (by decide) ?_
  refine MJ_iload dX7_work_27 rfl ?_
  refine MJ_iald dX7_work_29 (inx_v ho) (by decide) ?_
  refine MJ_icmp_ge (tgt := 48) dX7_work_30 (by decide) (fun c30 => ?_) (fun c30 => ?_)
  · have fin := fin (fun z => by rw [n_lt] at z; rw [n_le] at c30; omega)
    refine MJ_aload_n dX7_work_48 rfl rfl isR_r ?_
    refine MJ_getA dX7_work_49 g_X7_27 (by decide) ?_
    refine MJ_iload_n dX7_work_52 rfl rfl ?_
    refine MJ_iald dX7_work_53 (inx_v ha3) (by decide) ?_
    refine MJ_aload_n dX7_work_54 rfl rfl isR_r ?_
    refine MJ_getA dX7_work_55 g_X7_81 (by decide) ?_
    refine MJ_iload dX7_work_58 rfl ?_
    refine MJ_iald dX7_work_60 (inx_v ho) (by decide) ?_
    refine MJ_pc (pc' := 61) rfl ?_
    refine MJ_icmp_le (tgt := 95) dX7_work_61 (by decide) (fun c61 => ?_) (fun c61 => ?_)
    · rw [show learnL S o ask = S by unfold learnL; rw [if_neg (fun z => by rw [n_lt] at z; rw [n_le] at c61; omega)]] at fin
      exact MJ_loc _ rfl fin
    · refine MJ_aload_n dX7_work_64 rfl rfl isR_r ?_
      refine MJ_getA dX7_work_65 g_X7_81 (by decide) ?_
      refine MJ_iload dX7_work_68 rfl ?_
      refine MJ_aload_n dX7_work_70 rfl rfl isR_r ?_
      refine MJ_getA dX7_work_71 g_X7_27 (by decide) ?_
      refine MJ_iload_n dX7_work_74 rfl rfl ?_
      refine MJ_iald dX7_work_75 (inx_v ha3) (by decide) ?_
      refine MJ_iast dX7_work_76 (inx_v ho) (by decide) ?_
      refine MJ_pc (pc' := 77) rfl ?_
      refine MJ_aload_n dX7_work_77 rfl rfl isR_r ?_
      refine MJ_getA dX7_work_78 g_X7_84 (by decide) ?_
      refine MJ_iload dX7_work_81 rfl ?_
      refine MJ_iconst (v := 1) dX7_work_83 (by decide) ?_
      refine MJ_iast dX7_work_84 (inx_v ho) (by decide) ?_
      refine MJ_aload_n dX7_work_85 rfl rfl isR_r ?_
      refine MJ_iload dX7_work_86 rfl ?_
      refine MJ_ldc dX7_work_88 lc_X7_181 ?_
      refine MJ_pc (pc' := 90) rfl ?_
      refine MJ_callV (mm_forget hW.1.2.2) dX7_work_90 ml_X7_182 mkX7_forget rfl rfl rfl (Nat.le_of_ble_eq_true rfl) ⟨Nat.le_of_ble_eq_true rfl, Nat.le_of_ble_eq_true rfl⟩ (fun v90 hp90 q90 => ?_)
      obtain ⟨rfl, z90⟩ := q90
      rw [z90]
      refine MJ_istore dX7_work_93 (by decide) ?_
      rw [show learnL S o ask = forgetF (pT (pT S 474 (tn o) (mT S 455 (tn ask))) 475 (tn o) 1) o 2147483647 by unfold learnL; rw [if_pos (by rw [n_lt]; rw [n_le] at c61; omega)]] at fin
      exact MJ_loc _ rfl fin
  · refine MJ_iload dX7_work_33 rfl ?_
    refine MJ_if_ne (tgt := 47) dX7_work_35 (by decide) (fun c35 => ?_) (fun c35 => ?_)
    · exact MJ_return dX7_work_47 rfl ⟨rfl, by rw [hw, if_pos (by rw [n_lt]; rw [n_le] at c30; omega), if_pos (bi_1.mp c35)]⟩
    · refine MJ_aload_n dX7_work_38 rfl rfl isR_r ?_
      refine MJ_iload_n dX7_work_39 rfl rfl ?_
      refine MJ_iconst (v := 1) dX7_work_40 (by decide) ?_
      refine MJ_ldc2 dX7_work_41 ll_X7_179 ?_
      refine MJ_callV (mm_send (ans := true) hW ha) dX7_work_44 ml_X7_151 mkX7_send rfl rfl rfl (Nat.le_of_ble_eq_true rfl) ⟨Nat.le_of_ble_eq_true rfl, Nat.le_of_ble_eq_true rfl⟩ (fun v44 hp44 q44 => ?_)
      obtain ⟨rfl, z44⟩ := q44
      rw [z44]
      exact MJ_return dX7_work_47 rfl ⟨rfl, by rw [hw, if_pos (by rw [n_lt]; rw [n_le] at c30; omega), if_neg (by rw [bi_0.mp c35]; decide)]⟩
end M5
