/-! the law: one call of either side, compared -/
/-! THE CLAIM OUT OF ONE WALK OF THE LAW'S BODY. Your part is whole_start (and what it stands on); all else here is the same for every law, but numbers. -/
def R_law : String := "OnceOnlyLaw"
def lw_P (b : Addr) (xs : List Int32) (args : Array Value) (s : State) : Prop := args = #[.ref b] ∧ s.IntsAt b xs ∧ xs.length ≤ 4097 ∧ (Jvm.Cond.and given_1 narrow_1).before args s = true
def lw_Q (_ : Array Value) (s : State) (o : Outcome) (t : State) : Prop := o = .returned (some (.int 1)) ∧ Framed s o t [] 600000 7302250
def lw_Z (below : List Frame) (a : Array Value) (s : State) : State → Prop := fun t => ∃ o, t.status = .running ∧ Ended t below o ∧ lw_Q a s o t
/-- the law's own end, with 1 on the stack, nothing written that was there before, its room as the claim has it -/
theorem lw_ret {p : Program} {l : Launch} {e : Env} {s : State} {m : MethodId} {below : List Frame} {meth : Method} {c : Code} {b : Nat} (hx : p.tables.exec = Jvm.exec) (hb : c.code = code) (hr : meth.sig.returnType = ret) (hlocks : meth.locks = false) {pc : Nat} {H : Heap} {ls : Array Slot} (hdg : decode code pc = .ok (.ireturn, 1)) : W p l e room_1 s m #[Value.ref b] below meth c H [] 600000 7302250 (lw_Z below #[Value.ref b] s) (F0 m pc ls [.int 1]) := by
  intro T hT X
  obtain ⟨fs, hret, hrun, hended, hW, hframe⟩ := X.leave (v := some (.int 1)) (hlocks := hlocks) (fun h => by rw [hr] at h; cases h)
  have hmeth' : T.vm.method? m = some meth := X.method'
  refine ⟨T.setFrames fs, ?_, .returned (some (.int 1)), hrun, hended, rfl, ⟨_, rfl⟩, hW, hframe⟩
  jvm_step X.here [X.here.top, hx, hb, hdg, hmeth', hr, ret, narrow_b1]
  (try refine ⟨rfl, ?_⟩); (try refine ⟨rfl, ?_⟩)
  first | (intro acts; rw [hret _ acts rfl rfl rfl]) | rw [hret _ _ rfl rfl rfl]
  exact Steps.refl _
/-- what holds at the law's entry: the machine, the code, the tables' words (any of lw_tbl by 'hts w (by decide +kernel)'), the script of L ints xs at the cell b, what the Statement gives of the start (any of its parts by flat_of_before) -/
def lw_At (p : Program) (s : State) (m : MethodId) (meth : Method) (c : Code) (b L : Nat) (xs : Nat → Int32) : Prop :=
  p.tables.exec = Jvm.exec ∧ c.code = code ∧ meth.sig.returnType = ret ∧ c.maxLocals = 4 ∧ s.vm.findClass R_law = some m.cls ∧ (∀ w ∈ lw_tbl, w.before #[Value.ref b] s = true) ∧ va_X b L xs s s.heap ∧ b < s.heap.size ∧ meth.locks = false ∧ (Jvm.Cond.and given_1 narrow_1).before #[Value.ref b] s = true

abbrev kL_law (nm : String) : om_k := (⟨RL, nm, "([I)Z"⟩, code, 4, ret)
/-- the law's end -/
def rL (x : om_x) : om_r := (room_1, fun args s below t => ((∃ b0, args = #[Value.ref b0]) ∧ s.heap.size ≤ x.2.2.2) → lw_Z below args s t)
section LW
variable {x : om_x} {w : om_w} {y : om_y} {h h' : Hp} {S S' : Ms} {g i b L c sl : Nat} {xs : Nat → Int32} {nm : String}
/-- both sides hold the state S -/
def LSt (w : om_w) (y : om_y) (g : Nat) (S : Ms) (h : Hp) : Prop := (∃ as, Rep w as S h) ∧ RepM y S h ∧ Iv g S
set_option maxRecDepth 100000 in
set_option maxHeartbeats 4000000 in
theorem law_c0 (hI1 : Inj w) (hL : L ≤ 4097) (hi : i + 8 ≤ L) (hs : LSt w y g S h) (hg : g + 200 < 1000000) (hc : c + 200 ≤ 600000) (hsl : sl + 3000 ≤ 7302250) (kk : ∀ (S' : Ms) (h' : Hp) (c' sl' : Nat), LSt w y (g + 200) S' h' → c' ≤ c + 200 → sl' ≤ sl + 3000 → J x (rH x b L xs (rL x)) (kL_law nm) 858 [(0, .ref b), (1, .ref (w 0 0)), (2, .ref y.1), (3, .int (nI i))] [] h' c' sl') : J x (rH x b L xs (rL x)) (kL_law nm) 144 [(0, .ref b), (1, .ref (w 0 0)), (2, .ref y.1), (3, .int (nI i))] [] h c sl := by
  obtain ⟨⟨as, hr⟩, hrm, hV⟩ := hs
  have o1 := hr.1.1.1
  have sx : ∀ k : Nat, k < 8 → inx (nI i + nI k) (i + k) L := fun k hk => by rw [zI_add]; exact inx_n (by omega) (by omega)
  refine J_aload_n dL_law_144 rfl rfl isR_r ?_
  refine J_aload_n dL_law_145 rfl rfl isR_r ?_
  refine J_iload_n dL_law_146 rfl rfl ?_
  refine J_iconst (v := 1) dL_law_147 (by decide) ?_
  refine J_iadd dL_law_148 ?_
  refine J_sld dL_law_149 (sx 1 (by decide)) ?_
  refine J_aload_n dL_law_150 rfl rfl isR_r ?_
  refine J_iload_n dL_law_151 rfl rfl ?_
  refine J_pc (pc' := 152) rfl ?_
  refine J_iconst (v := 2) dL_law_152 (by decide) ?_
  refine J_iadd dL_law_153 ?_
  refine J_sld dL_law_154 (sx 2 (by decide)) ?_
  refine J_aload_n dL_law_155 rfl rfl isR_r ?_
  refine J_iload_n dL_law_156 rfl rfl ?_
  refine J_iconst (v := 3) dL_law_157 (by decide) ?_
  refine J_iadd dL_law_158 ?_
  refine J_sld dL_law_159 (sx 3 (by decide)) ?_
  refine J_pc (pc' := 160) rfl ?_
  refine J_aload_n dL_law_160 rfl rfl isR_r ?_
  refine J_iload_n dL_law_161 rfl rfl ?_
  refine J_iconst (v := 4) dL_law_162 (by decide) ?_
  refine J_iadd dL_law_163 ?_
  refine J_sld dL_law_164 (sx 4 (by decide)) ?_
  refine J_aload_n dL_law_165 rfl rfl isR_r ?_
  refine J_iload_n dL_law_166 rfl rfl ?_
  refine J_iconst (v := 5) dL_law_167 (by decide) ?_
  refine J_pc (pc' := 168) rfl ?_
  refine J_iadd dL_law_168 ?_
  refine J_sld dL_law_169 (sx 5 (by decide)) ?_
  refine J_aload_n dL_law_170 rfl rfl isR_r ?_
  refine J_iload_n dL_law_171 rfl rfl ?_
  refine J_bipush (v := 6) dL_law_172 (by decide) ?_
  refine J_iadd dL_law_174 ?_
  refine J_sld dL_law_175 (sx 6 (by decide)) ?_
  refine J_aload_n dL_law_176 rfl rfl isR_r ?_
  refine J_pc (pc' := 177) rfl ?_
  refine J_iload_n dL_law_177 rfl rfl ?_
  refine J_bipush (v := 7) dL_law_178 (by decide) ?_
  refine J_iadd dL_law_180 ?_
  refine J_sld dL_law_181 (sx 7 (by decide)) ?_
  refine J_callV (c_ask hr hI1 hV.1 hV.2.2 hV.2.1) dL_law_182 ml_L_21 mkX6_ask rfl (by first | with_reducible assumption | (simp only [hK_sI, hK_sJ, hK_sR, hK_tI, hK_tJ, hK_tR]; with_reducible assumption)) (by decide) rfl rfl (Nat.le_of_ble_eq_true rfl) ⟨Nat.le_of_ble_eq_true rfl, Nat.le_of_ble_eq_true rfl⟩ ⟨show c + 1 ≤ 600000 by omega, show sl + 15 ≤ 7302250 by omega⟩ (fun v182 hp182 q182 => ?_)
  obtain ⟨rfl, as2, -, z1, z2⟩ := q182
  have rm := RepM_HX (by decide) z2 hrm
  have ky := rm.1.1
  refine J_aload_n dL_law_185 rfl rfl isR_r ?_
  refine J_aload_n dL_law_186 rfl rfl isR_r ?_
  refine J_iload_n dL_law_187 rfl rfl ?_
  refine J_pc (pc' := 188) rfl ?_
  refine J_iconst (v := 1) dL_law_188 (by decide) ?_
  refine J_iadd dL_law_189 ?_
  refine J_sld dL_law_190 (sx 1 (by decide)) ?_
  refine J_aload_n dL_law_191 rfl rfl isR_r ?_
  refine J_iload_n dL_law_192 rfl rfl ?_
  refine J_iconst (v := 2) dL_law_193 (by decide) ?_
  refine J_iadd dL_law_194 ?_
  refine J_sld dL_law_195 (sx 2 (by decide)) ?_
  refine J_pc (pc' := 196) rfl ?_
  refine J_aload_n dL_law_196 rfl rfl isR_r ?_
  refine J_iload_n dL_law_197 rfl rfl ?_
  refine J_iconst (v := 3) dL_law_198 (by decide) ?_
  refine J_iadd dL_law_199 ?_
  refine J_sld dL_law_200 (sx 3 (by decide)) ?_
  refine J_aload_n dL_law_201 rfl rfl isR_r ?_
  refine J_iload_n dL_law_202 rfl rfl ?_
  refine J_iconst (v := 4) dL_law_203 (by decide) ?_
  refine J_pc (pc' := 204) rfl ?_
  refine J_iadd dL_law_204 ?_
  refine J_sld dL_law_205 (sx 4 (by decide)) ?_
  refine J_aload_n dL_law_206 rfl rfl isR_r ?_
  refine J_iload_n dL_law_207 rfl rfl ?_
  refine J_iconst (v := 5) dL_law_208 (by decide) ?_
  refine J_iadd dL_law_209 ?_
  refine J_sld dL_law_210 (sx 5 (by decide)) ?_
  refine J_aload_n dL_law_211 rfl rfl isR_r ?_
  refine J_pc (pc' := 212) rfl ?_
  refine J_iload_n dL_law_212 rfl rfl ?_
  refine J_bipush (v := 6) dL_law_213 (by decide) ?_
  refine J_iadd dL_law_215 ?_
  refine J_sld dL_law_216 (sx 6 (by decide)) ?_
  refine J_aload_n dL_law_217 rfl rfl isR_r ?_
  refine J_iload_n dL_law_218 rfl rfl ?_
  refine J_bipush (v := 7) dL_law_219 (by decide) ?_
  refine J_iadd dL_law_221 ?_
  refine J_pc (pc' := 222) rfl ?_
  refine J_sld dL_law_222 (sx 7 (by decide)) ?_
  refine J_callV ((mp_ask hV.1.1) _ _ rm FM.rf) dL_law_223 ml_L_25 mkX7_ask rfl (by first | with_reducible assumption | (simp only [hK_sI, hK_sJ, hK_sR, hK_tI, hK_tJ, hK_tR]; with_reducible assumption)) (by decide) rfl rfl (Nat.le_of_ble_eq_true rfl) ⟨Nat.le_of_ble_eq_true rfl, Nat.le_of_ble_eq_true rfl⟩ ⟨show c + 1 + 0 ≤ 600000 by omega, show sl + 15 + 0 ≤ 7302250 by omega⟩ (fun v223 hp223 q223 => ?_)
  obtain ⟨S2, r2, f2, rfl, rfl⟩ := q223
  refine J_icmp_eq (tgt := 858) dL_law_226 (by decide) (fun c226 => ?_) (fun c226 => (c226 rfl).elim)
  exact kk _ _ _ _ ⟨⟨_, Rep_fm ky f2 z1⟩, r2, Iv_askP hV hg⟩ (by omega) (by omega)
set_option maxRecDepth 100000 in
set_option maxHeartbeats 4000000 in
theorem law_c1 (hI1 : Inj w) (hL : L ≤ 4097) (hi : i + 8 ≤ L) (hs : LSt w y g S h) (hg : g + 200 < 1000000) (hc : c + 200 ≤ 600000) (hsl : sl + 3000 ≤ 7302250) (kk : ∀ (S' : Ms) (h' : Hp) (c' sl' : Nat), LSt w y (g + 200) S' h' → c' ≤ c + 200 → sl' ≤ sl + 3000 → J x (rH x b L xs (rL x)) (kL_law nm) 858 [(0, .ref b), (1, .ref (w 0 0)), (2, .ref y.1), (3, .int (nI i))] [] h' c' sl') : J x (rH x b L xs (rL x)) (kL_law nm) 231 [(0, .ref b), (1, .ref (w 0 0)), (2, .ref y.1), (3, .int (nI i))] [] h c sl := by
  obtain ⟨⟨as, hr⟩, hrm, hV⟩ := hs
  have o1 := hr.1.1.1
  have sx : ∀ k : Nat, k < 8 → inx (nI i + nI k) (i + k) L := fun k hk => by rw [zI_add]; exact inx_n (by omega) (by omega)
  refine J_aload_n dL_law_231 rfl rfl isR_r ?_
  refine J_aload_n dL_law_232 rfl rfl isR_r ?_
  refine J_iload_n dL_law_233 rfl rfl ?_
  refine J_iconst (v := 1) dL_law_234 (by decide) ?_
  refine J_iadd dL_law_235 ?_
  refine J_sld dL_law_236 (sx 1 (by decide)) ?_
  refine J_callV (c_again hr hI1 hV.1 hV.2.2) dL_law_237 ml_L_26 mkX6_again rfl (by first | with_reducible assumption | (simp only [hK_sI, hK_sJ, hK_sR, hK_tI, hK_tJ, hK_tR]; with_reducible assumption)) (by decide) rfl rfl (Nat.le_of_ble_eq_true rfl) ⟨Nat.le_of_ble_eq_true rfl, Nat.le_of_ble_eq_true rfl⟩ ⟨show c + 0 ≤ 600000 by omega, show sl + 0 ≤ 7302250 by omega⟩ (fun v237 hp237 q237 => ?_)
  obtain ⟨rfl, z1, z2⟩ := q237
  have rm := RepM_HX (by decide) z2 hrm
  have ky := rm.1.1
  refine J_aload_n dL_law_240 rfl rfl isR_r ?_
  refine J_pc (pc' := 241) rfl ?_
  refine J_aload_n dL_law_241 rfl rfl isR_r ?_
  refine J_iload_n dL_law_242 rfl rfl ?_
  refine J_iconst (v := 1) dL_law_243 (by decide) ?_
  refine J_iadd dL_law_244 ?_
  refine J_sld dL_law_245 (sx 1 (by decide)) ?_
  refine J_callV ((mp_again hV.1.1) _ _ rm FM.rf) dL_law_246 ml_L_30 mkX7_again rfl (by first | with_reducible assumption | (simp only [hK_sI, hK_sJ, hK_sR, hK_tI, hK_tJ, hK_tR]; with_reducible assumption)) (by decide) rfl rfl (Nat.le_of_ble_eq_true rfl) ⟨Nat.le_of_ble_eq_true rfl, Nat.le_of_ble_eq_true rfl⟩ ⟨show c + 0 + 0 ≤ 600000 by omega, show sl + 0 + 0 ≤ 7302250 by omega⟩ (fun v246 hp246 q246 => ?_)
  obtain ⟨S2, r2, f2, rfl, rfl⟩ := q246
  refine J_icmp_eq (tgt := 858) dL_law_249 (by decide) (fun c249 => ?_) (fun c249 => (c249 rfl).elim)
  exact kk _ _ _ _ ⟨⟨_, Rep_fm ky f2 z1⟩, r2, Iv_againP hV hg⟩ (by omega) (by omega)
set_option maxRecDepth 100000 in
set_option maxHeartbeats 4000000 in
theorem law_c2 (hI1 : Inj w) (hL : L ≤ 4097) (hi : i + 8 ≤ L) (hs : LSt w y g S h) (hg : g + 200 < 1000000) (hc : c + 200 ≤ 600000) (hsl : sl + 3000 ≤ 7302250) (kk : ∀ (S' : Ms) (h' : Hp) (c' sl' : Nat), LSt w y (g + 200) S' h' → c' ≤ c + 200 → sl' ≤ sl + 3000 → J x (rH x b L xs (rL x)) (kL_law nm) 858 [(0, .ref b), (1, .ref (w 0 0)), (2, .ref y.1), (3, .int (nI i))] [] h' c' sl') : J x (rH x b L xs (rL x)) (kL_law nm) 254 [(0, .ref b), (1, .ref (w 0 0)), (2, .ref y.1), (3, .int (nI i))] [] h c sl := by
  obtain ⟨⟨as, hr⟩, hrm, hV⟩ := hs
  have o1 := hr.1.1.1
  have sx : ∀ k : Nat, k < 8 → inx (nI i + nI k) (i + k) L := fun k hk => by rw [zI_add]; exact inx_n (by omega) (by omega)
  refine J_aload_n dL_law_254 rfl rfl isR_r ?_
  refine J_aload_n dL_law_255 rfl rfl isR_r ?_
  refine J_iload_n dL_law_256 rfl rfl ?_
  refine J_iconst (v := 1) dL_law_257 (by decide) ?_
  refine J_iadd dL_law_258 ?_
  refine J_sld dL_law_259 (sx 1 (by decide)) ?_
  refine J_aload_n dL_law_260 rfl rfl isR_r ?_
  refine J_iload_n dL_law_261 rfl rfl ?_
  refine J_pc (pc' := 262) rfl ?_
  refine J_iconst (v := 2) dL_law_262 (by decide) ?_
  refine J_iadd dL_law_263 ?_
  refine J_sld dL_law_264 (sx 2 (by decide)) ?_
  refine J_callV (c_told hr hV.1) dL_law_265 ml_L_31 mkX6_told rfl (by first | with_reducible assumption | (simp only [hK_sI, hK_sJ, hK_sR, hK_tI, hK_tJ, hK_tR]; with_reducible assumption)) (by decide) rfl rfl (Nat.le_of_ble_eq_true rfl) ⟨Nat.le_of_ble_eq_true rfl, Nat.le_of_ble_eq_true rfl⟩ ⟨show c + 0 ≤ 600000 by omega, show sl + 0 ≤ 7302250 by omega⟩ (fun v265 hp265 q265 => ?_)
  obtain ⟨rfl, zA⟩ := q265
  rw [zA]
  have ky := hrm.1.1
  refine J_aload_n dL_law_268 rfl rfl isR_r ?_
  refine J_aload_n dL_law_269 rfl rfl isR_r ?_
  refine J_iload_n dL_law_270 rfl rfl ?_
  refine J_iconst (v := 1) dL_law_271 (by decide) ?_
  refine J_pc (pc' := 272) rfl ?_
  refine J_iadd dL_law_272 ?_
  refine J_sld dL_law_273 (sx 1 (by decide)) ?_
  refine J_aload_n dL_law_274 rfl rfl isR_r ?_
  refine J_iload_n dL_law_275 rfl rfl ?_
  refine J_iconst (v := 2) dL_law_276 (by decide) ?_
  refine J_iadd dL_law_277 ?_
  refine J_sld dL_law_278 (sx 2 (by decide)) ?_
  refine J_callV ((mp_told hV.1.1) _ _ hrm FM.rf) dL_law_279 ml_L_35 mkX7_told rfl (by first | with_reducible assumption | (simp only [hK_sI, hK_sJ, hK_sR, hK_tI, hK_tJ, hK_tR]; with_reducible assumption)) (by decide) rfl rfl (Nat.le_of_ble_eq_true rfl) ⟨Nat.le_of_ble_eq_true rfl, Nat.le_of_ble_eq_true rfl⟩ ⟨show c + 0 + 0 ≤ 600000 by omega, show sl + 0 + 0 ≤ 7302250 by omega⟩ (fun v279 hp279 q279 => ?_)
  obtain ⟨S2, r2, f2, rfl, rfl⟩ := q279
  refine J_pc (pc' := 282) rfl ?_
  refine J_icmp_eq (tgt := 858) dL_law_282 (by decide) (fun c282 => ?_) (fun c282 => (c282 rfl).elim)
  exact kk _ _ _ _ ⟨⟨as, Rep_fm ky f2 hr⟩, r2, Iv_up hV (by omega) hg⟩ (by omega) (by omega)
set_option maxRecDepth 100000 in
set_option maxHeartbeats 4000000 in
theorem law_c3 (hI1 : Inj w) (hL : L ≤ 4097) (hi : i + 8 ≤ L) (hs : LSt w y g S h) (hg : g + 200 < 1000000) (hc : c + 200 ≤ 600000) (hsl : sl + 3000 ≤ 7302250) (kk : ∀ (S' : Ms) (h' : Hp) (c' sl' : Nat), LSt w y (g + 200) S' h' → c' ≤ c + 200 → sl' ≤ sl + 3000 → J x (rH x b L xs (rL x)) (kL_law nm) 858 [(0, .ref b), (1, .ref (w 0 0)), (2, .ref y.1), (3, .int (nI i))] [] h' c' sl') : J x (rH x b L xs (rL x)) (kL_law nm) 287 [(0, .ref b), (1, .ref (w 0 0)), (2, .ref y.1), (3, .int (nI i))] [] h c sl := by
  obtain ⟨⟨as, hr⟩, hrm, hV⟩ := hs
  have o1 := hr.1.1.1
  have sx : ∀ k : Nat, k < 8 → inx (nI i + nI k) (i + k) L := fun k hk => by rw [zI_add]; exact inx_n (by omega) (by omega)
  refine J_aload_n dL_law_287 rfl rfl isR_r ?_
  refine J_aload_n dL_law_288 rfl rfl isR_r ?_
  refine J_iload_n dL_law_289 rfl rfl ?_
  refine J_iconst (v := 1) dL_law_290 (by decide) ?_
  refine J_iadd dL_law_291 ?_
  refine J_sld dL_law_292 (sx 1 (by decide)) ?_
  refine J_callV (c_answer hr hV.1) dL_law_293 ml_L_36 mkX6_answer rfl (by first | with_reducible assumption | (simp only [hK_sI, hK_sJ, hK_sR, hK_tI, hK_tJ, hK_tR]; with_reducible assumption)) (by decide) rfl rfl (Nat.le_of_ble_eq_true rfl) ⟨Nat.le_of_ble_eq_true rfl, Nat.le_of_ble_eq_true rfl⟩ ⟨show c + 0 ≤ 600000 by omega, show sl + 0 ≤ 7302250 by omega⟩ (fun v293 hp293 q293 => ?_)
  obtain ⟨rfl, zA⟩ := q293
  rw [zA]
  have ky := hrm.1.1
  refine J_aload_n dL_law_296 rfl rfl isR_r ?_
  refine J_pc (pc' := 297) rfl ?_
  refine J_aload_n dL_law_297 rfl rfl isR_r ?_
  refine J_iload_n dL_law_298 rfl rfl ?_
  refine J_iconst (v := 1) dL_law_299 (by decide) ?_
  refine J_iadd dL_law_300 ?_
  refine J_sld dL_law_301 (sx 1 (by decide)) ?_
  refine J_callV ((mp_answer hV.1.1) _ _ hrm FM.rf) dL_law_302 ml_L_40 mkX7_answer rfl (by first | with_reducible assumption | (simp only [hK_sI, hK_sJ, hK_sR, hK_tI, hK_tJ, hK_tR]; with_reducible assumption)) (by decide) rfl rfl (Nat.le_of_ble_eq_true rfl) ⟨Nat.le_of_ble_eq_true rfl, Nat.le_of_ble_eq_true rfl⟩ ⟨show c + 0 + 0 ≤ 600000 by omega, show sl + 0 + 0 ≤ 7302250 by omega⟩ (fun v302 hp302 q302 => ?_)
  obtain ⟨S2, r2, f2, rfl, rfl⟩ := q302
  refine J_lcmp dL_law_305 ?_
  refine J_if_eq (tgt := 858) dL_law_306 (by decide) (fun c306 => ?_) (fun c306 => (c306 ((lg_cmp_eq _ _).mpr rfl)).elim)
  exact kk _ _ _ _ ⟨⟨as, Rep_fm ky f2 hr⟩, r2, Iv_up hV (by omega) hg⟩ (by omega) (by omega)
set_option maxRecDepth 100000 in
set_option maxHeartbeats 4000000 in
theorem law_c4 (hI1 : Inj w) (hL : L ≤ 4097) (hi : i + 8 ≤ L) (hs : LSt w y g S h) (hg : g + 200 < 1000000) (hc : c + 200 ≤ 600000) (hsl : sl + 3000 ≤ 7302250) (kk : ∀ (S' : Ms) (h' : Hp) (c' sl' : Nat), LSt w y (g + 200) S' h' → c' ≤ c + 200 → sl' ≤ sl + 3000 → J x (rH x b L xs (rL x)) (kL_law nm) 858 [(0, .ref b), (1, .ref (w 0 0)), (2, .ref y.1), (3, .int (nI i))] [] h' c' sl') : J x (rH x b L xs (rL x)) (kL_law nm) 311 [(0, .ref b), (1, .ref (w 0 0)), (2, .ref y.1), (3, .int (nI i))] [] h c sl := by
  obtain ⟨⟨as, hr⟩, hrm, hV⟩ := hs
  have o1 := hr.1.1.1
  have sx : ∀ k : Nat, k < 8 → inx (nI i + nI k) (i + k) L := fun k hk => by rw [zI_add]; exact inx_n (by omega) (by omega)
  refine J_aload_n dL_law_311 rfl rfl isR_r ?_
  refine J_aload_n dL_law_312 rfl rfl isR_r ?_
  refine J_iload_n dL_law_313 rfl rfl ?_
  refine J_iconst (v := 1) dL_law_314 (by decide) ?_
  refine J_iadd dL_law_315 ?_
  refine J_sld dL_law_316 (sx 1 (by decide)) ?_
  refine J_aload_n dL_law_317 rfl rfl isR_r ?_
  refine J_iload_n dL_law_318 rfl rfl ?_
  refine J_pc (pc' := 319) rfl ?_
  refine J_iconst (v := 2) dL_law_319 (by decide) ?_
  refine J_iadd dL_law_320 ?_
  refine J_sld dL_law_321 (sx 2 (by decide)) ?_
  refine J_callV (c_name hr hI1 hV.1) dL_law_322 ml_L_41 mkX6_name rfl (by first | with_reducible assumption | (simp only [hK_sI, hK_sJ, hK_sR, hK_tI, hK_tJ, hK_tR]; with_reducible assumption)) (by decide) rfl rfl (Nat.le_of_ble_eq_true rfl) ⟨Nat.le_of_ble_eq_true rfl, Nat.le_of_ble_eq_true rfl⟩ ⟨show c + 0 ≤ 600000 by omega, show sl + 0 ≤ 7302250 by omega⟩ (fun v322 hp322 q322 => ?_)
  obtain ⟨rfl, z1, z2⟩ := q322
  have rm := RepM_HX (by decide) z2 hrm
  have ky := rm.1.1
  refine J_aload_n dL_law_325 rfl rfl isR_r ?_
  refine J_aload_n dL_law_326 rfl rfl isR_r ?_
  refine J_iload_n dL_law_327 rfl rfl ?_
  refine J_iconst (v := 1) dL_law_328 (by decide) ?_
  refine J_pc (pc' := 329) rfl ?_
  refine J_iadd dL_law_329 ?_
  refine J_sld dL_law_330 (sx 1 (by decide)) ?_
  refine J_aload_n dL_law_331 rfl rfl isR_r ?_
  refine J_iload_n dL_law_332 rfl rfl ?_
  refine J_iconst (v := 2) dL_law_333 (by decide) ?_
  refine J_iadd dL_law_334 ?_
  refine J_sld dL_law_335 (sx 2 (by decide)) ?_
  refine J_callV ((mp_name hV.1.1) _ _ rm FM.rf) dL_law_336 ml_L_44 mkX7_name rfl (by first | with_reducible assumption | (simp only [hK_sI, hK_sJ, hK_sR, hK_tI, hK_tJ, hK_tR]; with_reducible assumption)) (by decide) rfl rfl (Nat.le_of_ble_eq_true rfl) ⟨Nat.le_of_ble_eq_true rfl, Nat.le_of_ble_eq_true rfl⟩ ⟨show c + 0 + 0 ≤ 600000 by omega, show sl + 0 + 0 ≤ 7302250 by omega⟩ (fun v336 hp336 q336 => ?_)
  obtain ⟨S2, r2, f2, rfl, rfl⟩ := q336
  refine J_pc (pc' := 339) rfl ?_
  refine J_icmp_eq (tgt := 858) dL_law_339 (by decide) (fun c339 => ?_) (fun c339 => (c339 rfl).elim)
  exact kk _ _ _ _ ⟨⟨_, Rep_fm ky f2 z1⟩, r2, Iv_up hV (by omega) hg⟩ (by omega) (by omega)
set_option maxRecDepth 100000 in
set_option maxHeartbeats 4000000 in
theorem law_c5 (hI1 : Inj w) (hL : L ≤ 4097) (hi : i + 8 ≤ L) (hs : LSt w y g S h) (hg : g + 200 < 1000000) (hc : c + 200 ≤ 600000) (hsl : sl + 3000 ≤ 7302250) (kk : ∀ (S' : Ms) (h' : Hp) (c' sl' : Nat), LSt w y (g + 200) S' h' → c' ≤ c + 200 → sl' ≤ sl + 3000 → J x (rH x b L xs (rL x)) (kL_law nm) 858 [(0, .ref b), (1, .ref (w 0 0)), (2, .ref y.1), (3, .int (nI i))] [] h' c' sl') : J x (rH x b L xs (rL x)) (kL_law nm) 344 [(0, .ref b), (1, .ref (w 0 0)), (2, .ref y.1), (3, .int (nI i))] [] h c sl := by
  obtain ⟨⟨as, hr⟩, hrm, hV⟩ := hs
  have o1 := hr.1.1.1
  have sx : ∀ k : Nat, k < 8 → inx (nI i + nI k) (i + k) L := fun k hk => by rw [zI_add]; exact inx_n (by omega) (by omega)
  refine J_aload_n dL_law_344 rfl rfl isR_r ?_
  refine J_aload_n dL_law_345 rfl rfl isR_r ?_
  refine J_iload_n dL_law_346 rfl rfl ?_
  refine J_iconst (v := 1) dL_law_347 (by decide) ?_
  refine J_iadd dL_law_348 ?_
  refine J_sld dL_law_349 (sx 1 (by decide)) ?_
  refine J_aload_n dL_law_350 rfl rfl isR_r ?_
  refine J_iload_n dL_law_351 rfl rfl ?_
  refine J_pc (pc' := 352) rfl ?_
  refine J_iconst (v := 2) dL_law_352 (by decide) ?_
  refine J_iadd dL_law_353 ?_
  refine J_sld dL_law_354 (sx 2 (by decide)) ?_
  refine J_callV (c_deliver hr hI1 hV) dL_law_355 ml_L_45 mkX6_deliver rfl (by first | with_reducible assumption | (simp only [hK_sI, hK_sJ, hK_sR, hK_tI, hK_tJ, hK_tR]; with_reducible assumption)) (by decide) rfl rfl (Nat.le_of_ble_eq_true rfl) ⟨Nat.le_of_ble_eq_true rfl, Nat.le_of_ble_eq_true rfl⟩ ⟨show c + 1 ≤ 600000 by omega, show sl + 15 ≤ 7302250 by omega⟩ (fun v355 hp355 q355 => ?_)
  obtain ⟨rfl, as2, z1, z2⟩ := q355
  have rm := RepM_HX (by decide) z2 hrm
  have ky := rm.1.1
  refine J_aload_n dL_law_358 rfl rfl isR_r ?_
  refine J_aload_n dL_law_359 rfl rfl isR_r ?_
  refine J_iload_n dL_law_360 rfl rfl ?_
  refine J_iconst (v := 1) dL_law_361 (by decide) ?_
  refine J_pc (pc' := 362) rfl ?_
  refine J_iadd dL_law_362 ?_
  refine J_sld dL_law_363 (sx 1 (by decide)) ?_
  refine J_aload_n dL_law_364 rfl rfl isR_r ?_
  refine J_iload_n dL_law_365 rfl rfl ?_
  refine J_iconst (v := 2) dL_law_366 (by decide) ?_
  refine J_iadd dL_law_367 ?_
  refine J_sld dL_law_368 (sx 2 (by decide)) ?_
  refine J_callV ((mp_deliver hV.1.1 (by have := WF2_nR hV.1; omega)) _ _ rm FM.rf) dL_law_369 ml_L_48 mkX7_deliver rfl (by first | with_reducible assumption | (simp only [hK_sI, hK_sJ, hK_sR, hK_tI, hK_tJ, hK_tR]; with_reducible assumption)) (by decide) rfl rfl (Nat.le_of_ble_eq_true rfl) ⟨Nat.le_of_ble_eq_true rfl, Nat.le_of_ble_eq_true rfl⟩ ⟨show c + 1 + 0 ≤ 600000 by omega, show sl + 15 + 0 ≤ 7302250 by omega⟩ (fun v369 hp369 q369 => ?_)
  obtain ⟨S2, r2, f2, rfl, rfl⟩ := q369
  refine J_pc (pc' := 372) rfl ?_
  refine J_icmp_eq (tgt := 858) dL_law_372 (by decide) (fun c372 => ?_) (fun c372 => (c372 rfl).elim)
  exact kk _ _ _ _ ⟨⟨_, Rep_fm ky f2 z1⟩, r2, Iv_deliverP hV hg⟩ (by omega) (by omega)
set_option maxRecDepth 100000 in
set_option maxHeartbeats 4000000 in
theorem law_c6 (hI1 : Inj w) (hL : L ≤ 4097) (hi : i + 8 ≤ L) (hs : LSt w y g S h) (hg : g + 200 < 1000000) (hc : c + 200 ≤ 600000) (hsl : sl + 3000 ≤ 7302250) (kk : ∀ (S' : Ms) (h' : Hp) (c' sl' : Nat), LSt w y (g + 200) S' h' → c' ≤ c + 200 → sl' ≤ sl + 3000 → J x (rH x b L xs (rL x)) (kL_law nm) 858 [(0, .ref b), (1, .ref (w 0 0)), (2, .ref y.1), (3, .int (nI i))] [] h' c' sl') : J x (rH x b L xs (rL x)) (kL_law nm) 377 [(0, .ref b), (1, .ref (w 0 0)), (2, .ref y.1), (3, .int (nI i))] [] h c sl := by
  obtain ⟨⟨as, hr⟩, hrm, hV⟩ := hs
  have o1 := hr.1.1.1
  have sx : ∀ k : Nat, k < 8 → inx (nI i + nI k) (i + k) L := fun k hk => by rw [zI_add]; exact inx_n (by omega) (by omega)
  refine J_aload_n dL_law_377 rfl rfl isR_r ?_
  refine J_aload_n dL_law_378 rfl rfl isR_r ?_
  refine J_iload_n dL_law_379 rfl rfl ?_
  refine J_iconst (v := 1) dL_law_380 (by decide) ?_
  refine J_iadd dL_law_381 ?_
  refine J_sld dL_law_382 (sx 1 (by decide)) ?_
  refine J_callV (c_lose hr hV.1.1) dL_law_383 ml_L_49 mkX6_lose rfl (by first | with_reducible assumption | (simp only [hK_sI, hK_sJ, hK_sR, hK_tI, hK_tJ, hK_tR]; with_reducible assumption)) (by decide) rfl rfl (Nat.le_of_ble_eq_true rfl) ⟨Nat.le_of_ble_eq_true rfl, Nat.le_of_ble_eq_true rfl⟩ ⟨show c + 0 ≤ 600000 by omega, show sl + 0 ≤ 7302250 by omega⟩ (fun v383 hp383 q383 => ?_)
  obtain ⟨rfl, z1, z2⟩ := q383
  have rm := RepM_HX (by decide) z2 hrm
  have ky := rm.1.1
  refine J_aload_n dL_law_386 rfl rfl isR_r ?_
  refine J_pc (pc' := 387) rfl ?_
  refine J_aload_n dL_law_387 rfl rfl isR_r ?_
  refine J_iload_n dL_law_388 rfl rfl ?_
  refine J_iconst (v := 1) dL_law_389 (by decide) ?_
  refine J_iadd dL_law_390 ?_
  refine J_sld dL_law_391 (sx 1 (by decide)) ?_
  refine J_callV ((mp_lose hV.1.1) _ _ rm FM.rf) dL_law_392 ml_L_52 mkX7_lose rfl (by first | with_reducible assumption | (simp only [hK_sI, hK_sJ, hK_sR, hK_tI, hK_tJ, hK_tR]; with_reducible assumption)) (by decide) rfl rfl (Nat.le_of_ble_eq_true rfl) ⟨Nat.le_of_ble_eq_true rfl, Nat.le_of_ble_eq_true rfl⟩ ⟨show c + 0 + 0 ≤ 600000 by omega, show sl + 0 + 0 ≤ 7302250 by omega⟩ (fun v392 hp392 q392 => ?_)
  obtain ⟨S2, r2, f2, rfl, rfl⟩ := q392
  refine J_icmp_eq (tgt := 858) dL_law_395 (by decide) (fun c395 => ?_) (fun c395 => (c395 rfl).elim)
  exact kk _ _ _ _ ⟨⟨_, Rep_fm ky f2 z1⟩, r2, Iv_loseP hV hg⟩ (by omega) (by omega)
set_option maxRecDepth 100000 in
set_option maxHeartbeats 4000000 in
theorem law_c7 (hI1 : Inj w) (hL : L ≤ 4097) (hi : i + 8 ≤ L) (hs : LSt w y g S h) (hg : g + 200 < 1000000) (hc : c + 200 ≤ 600000) (hsl : sl + 3000 ≤ 7302250) (kk : ∀ (S' : Ms) (h' : Hp) (c' sl' : Nat), LSt w y (g + 200) S' h' → c' ≤ c + 200 → sl' ≤ sl + 3000 → J x (rH x b L xs (rL x)) (kL_law nm) 858 [(0, .ref b), (1, .ref (w 0 0)), (2, .ref y.1), (3, .int (nI i))] [] h' c' sl') : J x (rH x b L xs (rL x)) (kL_law nm) 400 [(0, .ref b), (1, .ref (w 0 0)), (2, .ref y.1), (3, .int (nI i))] [] h c sl := by
  obtain ⟨⟨as, hr⟩, hrm, hV⟩ := hs
  have o1 := hr.1.1.1
  have sx : ∀ k : Nat, k < 8 → inx (nI i + nI k) (i + k) L := fun k hk => by rw [zI_add]; exact inx_n (by omega) (by omega)
  refine J_aload_n dL_law_400 rfl rfl isR_r ?_
  refine J_aload_n dL_law_401 rfl rfl isR_r ?_
  refine J_iload_n dL_law_402 rfl rfl ?_
  refine J_iconst (v := 1) dL_law_403 (by decide) ?_
  refine J_iadd dL_law_404 ?_
  refine J_sld dL_law_405 (sx 1 (by decide)) ?_
  refine J_callV (c_twice hr hV.1.1) dL_law_406 ml_L_53 mkX6_twice rfl (by first | with_reducible assumption | (simp only [hK_sI, hK_sJ, hK_sR, hK_tI, hK_tJ, hK_tR]; with_reducible assumption)) (by decide) rfl rfl (Nat.le_of_ble_eq_true rfl) ⟨Nat.le_of_ble_eq_true rfl, Nat.le_of_ble_eq_true rfl⟩ ⟨show c + 0 ≤ 600000 by omega, show sl + 0 ≤ 7302250 by omega⟩ (fun v406 hp406 q406 => ?_)
  obtain ⟨rfl, z1, z2⟩ := q406
  have rm := RepM_HX (by decide) z2 hrm
  have ky := rm.1.1
  refine J_aload_n dL_law_409 rfl rfl isR_r ?_
  refine J_pc (pc' := 410) rfl ?_
  refine J_aload_n dL_law_410 rfl rfl isR_r ?_
  refine J_iload_n dL_law_411 rfl rfl ?_
  refine J_iconst (v := 1) dL_law_412 (by decide) ?_
  refine J_iadd dL_law_413 ?_
  refine J_sld dL_law_414 (sx 1 (by decide)) ?_
  refine J_callV ((mp_twice hV.1.1) _ _ rm FM.rf) dL_law_415 ml_L_56 mkX7_twice rfl (by first | with_reducible assumption | (simp only [hK_sI, hK_sJ, hK_sR, hK_tI, hK_tJ, hK_tR]; with_reducible assumption)) (by decide) rfl rfl (Nat.le_of_ble_eq_true rfl) ⟨Nat.le_of_ble_eq_true rfl, Nat.le_of_ble_eq_true rfl⟩ ⟨show c + 0 + 0 ≤ 600000 by omega, show sl + 0 + 0 ≤ 7302250 by omega⟩ (fun v415 hp415 q415 => ?_)
  obtain ⟨S2, r2, f2, rfl, rfl⟩ := q415
  refine J_icmp_eq (tgt := 858) dL_law_418 (by decide) (fun c418 => ?_) (fun c418 => (c418 rfl).elim)
  exact kk _ _ _ _ ⟨⟨_, Rep_fm ky f2 z1⟩, r2, Iv_twiceP hV hg⟩ (by omega) (by omega)
set_option maxRecDepth 100000 in
set_option maxHeartbeats 4000000 in
theorem law_c8 (hI1 : Inj w) (hL : L ≤ 4097) (hi : i + 8 ≤ L) (hs : LSt w y g S h) (hg : g + 200 < 1000000) (hc : c + 200 ≤ 600000) (hsl : sl + 3000 ≤ 7302250) (kk : ∀ (S' : Ms) (h' : Hp) (c' sl' : Nat), LSt w y (g + 200) S' h' → c' ≤ c + 200 → sl' ≤ sl + 3000 → J x (rH x b L xs (rL x)) (kL_law nm) 858 [(0, .ref b), (1, .ref (w 0 0)), (2, .ref y.1), (3, .int (nI i))] [] h' c' sl') : J x (rH x b L xs (rL x)) (kL_law nm) 423 [(0, .ref b), (1, .ref (w 0 0)), (2, .ref y.1), (3, .int (nI i))] [] h c sl := by
  obtain ⟨⟨as, hr⟩, hrm, hV⟩ := hs
  have o1 := hr.1.1.1
  have sx : ∀ k : Nat, k < 8 → inx (nI i + nI k) (i + k) L := fun k hk => by rw [zI_add]; exact inx_n (by omega) (by omega)
  refine J_aload_n dL_law_423 rfl rfl isR_r ?_
  refine J_aload_n dL_law_424 rfl rfl isR_r ?_
  refine J_iload_n dL_law_425 rfl rfl ?_
  refine J_iconst (v := 1) dL_law_426 (by decide) ?_
  refine J_iadd dL_law_427 ?_
  refine J_sld dL_law_428 (sx 1 (by decide)) ?_
  refine J_callV (c_bend hr hV.1) dL_law_429 ml_L_57 mkX6_bend rfl (by first | with_reducible assumption | (simp only [hK_sI, hK_sJ, hK_sR, hK_tI, hK_tJ, hK_tR]; with_reducible assumption)) (by decide) rfl rfl (Nat.le_of_ble_eq_true rfl) ⟨Nat.le_of_ble_eq_true rfl, Nat.le_of_ble_eq_true rfl⟩ ⟨show c + 0 ≤ 600000 by omega, show sl + 0 ≤ 7302250 by omega⟩ (fun v429 hp429 q429 => ?_)
  obtain ⟨rfl, z1, z2⟩ := q429
  have rm := RepM_HX (by decide) z2 hrm
  have ky := rm.1.1
  refine J_aload_n dL_law_432 rfl rfl isR_r ?_
  refine J_pc (pc' := 433) rfl ?_
  refine J_aload_n dL_law_433 rfl rfl isR_r ?_
  refine J_iload_n dL_law_434 rfl rfl ?_
  refine J_iconst (v := 1) dL_law_435 (by decide) ?_
  refine J_iadd dL_law_436 ?_
  refine J_sld dL_law_437 (sx 1 (by decide)) ?_
  refine J_callV ((mp_bend hV.1.1) _ _ rm FM.rf) dL_law_438 ml_L_60 mkX7_bend rfl (by first | with_reducible assumption | (simp only [hK_sI, hK_sJ, hK_sR, hK_tI, hK_tJ, hK_tR]; with_reducible assumption)) (by decide) rfl rfl (Nat.le_of_ble_eq_true rfl) ⟨Nat.le_of_ble_eq_true rfl, Nat.le_of_ble_eq_true rfl⟩ ⟨show c + 0 + 0 ≤ 600000 by omega, show sl + 0 + 0 ≤ 7302250 by omega⟩ (fun v438 hp438 q438 => ?_)
  obtain ⟨S2, r2, f2, rfl, rfl⟩ := q438
  refine J_icmp_eq (tgt := 858) dL_law_441 (by decide) (fun c441 => ?_) (fun c441 => (c441 rfl).elim)
  exact kk _ _ _ _ ⟨⟨_, Rep_fm ky f2 z1⟩, r2, Iv_bendP hV hg⟩ (by omega) (by omega)
set_option maxRecDepth 100000 in
set_option maxHeartbeats 4000000 in
theorem law_c9 (hI1 : Inj w) (hL : L ≤ 4097) (hi : i + 8 ≤ L) (hs : LSt w y g S h) (hg : g + 200 < 1000000) (hc : c + 200 ≤ 600000) (hsl : sl + 3000 ≤ 7302250) (kk : ∀ (S' : Ms) (h' : Hp) (c' sl' : Nat), LSt w y (g + 200) S' h' → c' ≤ c + 200 → sl' ≤ sl + 3000 → J x (rH x b L xs (rL x)) (kL_law nm) 858 [(0, .ref b), (1, .ref (w 0 0)), (2, .ref y.1), (3, .int (nI i))] [] h' c' sl') : J x (rH x b L xs (rL x)) (kL_law nm) 446 [(0, .ref b), (1, .ref (w 0 0)), (2, .ref y.1), (3, .int (nI i))] [] h c sl := by
  obtain ⟨⟨as, hr⟩, hrm, hV⟩ := hs
  have o1 := hr.1.1.1
  have sx : ∀ k : Nat, k < 8 → inx (nI i + nI k) (i + k) L := fun k hk => by rw [zI_add]; exact inx_n (by omega) (by omega)
  refine J_aload_n dL_law_446 rfl rfl isR_r ?_
  refine J_aload_n dL_law_447 rfl rfl isR_r ?_
  refine J_iload_n dL_law_448 rfl rfl ?_
  refine J_iconst (v := 1) dL_law_449 (by decide) ?_
  refine J_iadd dL_law_450 ?_
  refine J_sld dL_law_451 (sx 1 (by decide)) ?_
  refine J_aload_n dL_law_452 rfl rfl isR_r ?_
  refine J_iload_n dL_law_453 rfl rfl ?_
  refine J_pc (pc' := 454) rfl ?_
  refine J_iconst (v := 2) dL_law_454 (by decide) ?_
  refine J_iadd dL_law_455 ?_
  refine J_sld dL_law_456 (sx 2 (by decide)) ?_
  refine J_callV (c_letter hr hV.1) dL_law_457 ml_L_61 mkX6_letter rfl (by first | with_reducible assumption | (simp only [hK_sI, hK_sJ, hK_sR, hK_tI, hK_tJ, hK_tR]; with_reducible assumption)) (by decide) rfl rfl (Nat.le_of_ble_eq_true rfl) ⟨Nat.le_of_ble_eq_true rfl, Nat.le_of_ble_eq_true rfl⟩ ⟨show c + 0 ≤ 600000 by omega, show sl + 0 ≤ 7302250 by omega⟩ (fun v457 hp457 q457 => ?_)
  obtain ⟨rfl, zA⟩ := q457
  rw [zA]
  have ky := hrm.1.1
  refine J_aload_n dL_law_460 rfl rfl isR_r ?_
  refine J_aload_n dL_law_461 rfl rfl isR_r ?_
  refine J_iload_n dL_law_462 rfl rfl ?_
  refine J_iconst (v := 1) dL_law_463 (by decide) ?_
  refine J_pc (pc' := 464) rfl ?_
  refine J_iadd dL_law_464 ?_
  refine J_sld dL_law_465 (sx 1 (by decide)) ?_
  refine J_aload_n dL_law_466 rfl rfl isR_r ?_
  refine J_iload_n dL_law_467 rfl rfl ?_
  refine J_iconst (v := 2) dL_law_468 (by decide) ?_
  refine J_iadd dL_law_469 ?_
  refine J_sld dL_law_470 (sx 2 (by decide)) ?_
  refine J_callV ((mp_letter hV.1.1) _ _ hrm FM.rf) dL_law_471 ml_L_64 mkX7_letter rfl (by first | with_reducible assumption | (simp only [hK_sI, hK_sJ, hK_sR, hK_tI, hK_tJ, hK_tR]; with_reducible assumption)) (by decide) rfl rfl (Nat.le_of_ble_eq_true rfl) ⟨Nat.le_of_ble_eq_true rfl, Nat.le_of_ble_eq_true rfl⟩ ⟨show c + 0 + 0 ≤ 600000 by omega, show sl + 0 + 0 ≤ 7302250 by omega⟩ (fun v471 hp471 q471 => ?_)
  obtain ⟨S2, r2, f2, rfl, rfl⟩ := q471
  refine J_pc (pc' := 474) rfl ?_
  refine J_icmp_eq (tgt := 858) dL_law_474 (by decide) (fun c474 => ?_) (fun c474 => (c474 rfl).elim)
  exact kk _ _ _ _ ⟨⟨as, Rep_fm ky f2 hr⟩, r2, Iv_up hV (by omega) hg⟩ (by omega) (by omega)
set_option maxRecDepth 100000 in
set_option maxHeartbeats 4000000 in
theorem law_c10 (hI1 : Inj w) (hL : L ≤ 4097) (hi : i + 8 ≤ L) (hs : LSt w y g S h) (hg : g + 200 < 1000000) (hc : c + 200 ≤ 600000) (hsl : sl + 3000 ≤ 7302250) (kk : ∀ (S' : Ms) (h' : Hp) (c' sl' : Nat), LSt w y (g + 200) S' h' → c' ≤ c + 200 → sl' ≤ sl + 3000 → J x (rH x b L xs (rL x)) (kL_law nm) 858 [(0, .ref b), (1, .ref (w 0 0)), (2, .ref y.1), (3, .int (nI i))] [] h' c' sl') : J x (rH x b L xs (rL x)) (kL_law nm) 479 [(0, .ref b), (1, .ref (w 0 0)), (2, .ref y.1), (3, .int (nI i))] [] h c sl := by
  obtain ⟨⟨as, hr⟩, hrm, hV⟩ := hs
  have o1 := hr.1.1.1
  have sx : ∀ k : Nat, k < 8 → inx (nI i + nI k) (i + k) L := fun k hk => by rw [zI_add]; exact inx_n (by omega) (by omega)
  refine J_aload_n dL_law_479 rfl rfl isR_r ?_
  refine J_aload_n dL_law_480 rfl rfl isR_r ?_
  refine J_iload_n dL_law_481 rfl rfl ?_
  refine J_iconst (v := 1) dL_law_482 (by decide) ?_
  refine J_iadd dL_law_483 ?_
  refine J_sld dL_law_484 (sx 1 (by decide)) ?_
  refine J_callV (c_flow hr hI1 hV hg (fun g S z1 z2 z3 => Iv_brings z1 z3 z2)) dL_law_485 ml_L_65 mkX6_flow rfl (by first | with_reducible assumption | (simp only [hK_sI, hK_sJ, hK_sR, hK_tI, hK_tJ, hK_tR]; with_reducible assumption)) (by decide) rfl rfl (Nat.le_of_ble_eq_true rfl) ⟨Nat.le_of_ble_eq_true rfl, Nat.le_of_ble_eq_true rfl⟩ ⟨show c + 200 ≤ 600000 by omega, show sl + 3000 ≤ 7302250 by omega⟩ (fun v485 hp485 q485 => ?_)
  obtain ⟨rfl, as2, z1, z2⟩ := q485
  have rm := RepM_HX (by decide) z2 hrm
  have ky := rm.1.1
  refine J_aload_n dL_law_488 rfl rfl isR_r ?_
  refine J_pc (pc' := 489) rfl ?_
  refine J_aload_n dL_law_489 rfl rfl isR_r ?_
  refine J_iload_n dL_law_490 rfl rfl ?_
  refine J_iconst (v := 1) dL_law_491 (by decide) ?_
  refine J_iadd dL_law_492 ?_
  refine J_sld dL_law_493 (sx 1 (by decide)) ?_
  refine J_callV ((mp_flow2 hV hg) _ _ rm FM.rf) dL_law_494 ml_L_68 mkX7_flow rfl (by first | with_reducible assumption | (simp only [hK_sI, hK_sJ, hK_sR, hK_tI, hK_tJ, hK_tR]; with_reducible assumption)) (by decide) rfl rfl (Nat.le_of_ble_eq_true rfl) ⟨Nat.le_of_ble_eq_true rfl, Nat.le_of_ble_eq_true rfl⟩ ⟨show c + 200 + 0 ≤ 600000 by omega, show sl + 3000 + 0 ≤ 7302250 by omega⟩ (fun v494 hp494 q494 => ?_)
  obtain ⟨S2, r2, f2, rfl, rfl⟩ := q494
  refine J_icmp_eq (tgt := 858) dL_law_497 (by decide) (fun c497 => ?_) (fun c497 => (c497 rfl).elim)
  exact kk _ _ _ _ ⟨⟨_, Rep_fm ky f2 z1⟩, r2, Iv_flowP hV hg⟩ (by omega) (by omega)
set_option maxRecDepth 100000 in
set_option maxHeartbeats 4000000 in
theorem law_c11 (hI1 : Inj w) (hL : L ≤ 4097) (hi : i + 8 ≤ L) (hs : LSt w y g S h) (hg : g + 200 < 1000000) (hc : c + 200 ≤ 600000) (hsl : sl + 3000 ≤ 7302250) (kk : ∀ (S' : Ms) (h' : Hp) (c' sl' : Nat), LSt w y (g + 200) S' h' → c' ≤ c + 200 → sl' ≤ sl + 3000 → J x (rH x b L xs (rL x)) (kL_law nm) 858 [(0, .ref b), (1, .ref (w 0 0)), (2, .ref y.1), (3, .int (nI i))] [] h' c' sl') : J x (rH x b L xs (rL x)) (kL_law nm) 502 [(0, .ref b), (1, .ref (w 0 0)), (2, .ref y.1), (3, .int (nI i))] [] h c sl := by
  obtain ⟨⟨as, hr⟩, hrm, hV⟩ := hs
  have o1 := hr.1.1.1
  have sx : ∀ k : Nat, k < 8 → inx (nI i + nI k) (i + k) L := fun k hk => by rw [zI_add]; exact inx_n (by omega) (by omega)
  refine J_aload_n dL_law_502 rfl rfl isR_r ?_
  refine J_aload_n dL_law_503 rfl rfl isR_r ?_
  refine J_iload_n dL_law_504 rfl rfl ?_
  refine J_iconst (v := 1) dL_law_505 (by decide) ?_
  refine J_iadd dL_law_506 ?_
  refine J_sld dL_law_507 (sx 1 (by decide)) ?_
  refine J_callV (c_fall hI1 hr) dL_law_508 ml_L_69 mkX6_fall rfl (by first | with_reducible assumption | (simp only [hK_sI, hK_sJ, hK_sR, hK_tI, hK_tJ, hK_tR]; with_reducible assumption)) (by decide) rfl rfl (Nat.le_of_ble_eq_true rfl) ⟨Nat.le_of_ble_eq_true rfl, Nat.le_of_ble_eq_true rfl⟩ ⟨show c + 0 ≤ 600000 by omega, show sl + 0 ≤ 7302250 by omega⟩ (fun v508 hp508 q508 => ?_)
  obtain ⟨rfl, z1, z2⟩ := q508
  have rm := RepM_HX (by decide) z2 hrm
  have ky := rm.1.1
  refine J_aload_n dL_law_511 rfl rfl isR_r ?_
  refine J_pc (pc' := 512) rfl ?_
  refine J_aload_n dL_law_512 rfl rfl isR_r ?_
  refine J_iload_n dL_law_513 rfl rfl ?_
  refine J_iconst (v := 1) dL_law_514 (by decide) ?_
  refine J_iadd dL_law_515 ?_
  refine J_sld dL_law_516 (sx 1 (by decide)) ?_
  refine J_callV ((mp_fall) _ _ rm FM.rf) dL_law_517 ml_L_72 mkX7_fall rfl (by first | with_reducible assumption | (simp only [hK_sI, hK_sJ, hK_sR, hK_tI, hK_tJ, hK_tR]; with_reducible assumption)) (by decide) rfl rfl (Nat.le_of_ble_eq_true rfl) ⟨Nat.le_of_ble_eq_true rfl, Nat.le_of_ble_eq_true rfl⟩ ⟨show c + 0 + 0 ≤ 600000 by omega, show sl + 0 + 0 ≤ 7302250 by omega⟩ (fun v517 hp517 q517 => ?_)
  obtain ⟨S2, r2, f2, rfl, rfl⟩ := q517
  refine J_icmp_eq (tgt := 858) dL_law_520 (by decide) (fun c520 => ?_) (fun c520 => (c520 rfl).elim)
  exact kk _ _ _ _ ⟨⟨_, Rep_fm ky f2 z1⟩, r2, Iv_fallP hV hg⟩ (by omega) (by omega)
set_option maxRecDepth 100000 in
set_option maxHeartbeats 4000000 in
theorem law_c12 (hI1 : Inj w) (hL : L ≤ 4097) (hi : i + 8 ≤ L) (hs : LSt w y g S h) (hg : g + 200 < 1000000) (hc : c + 200 ≤ 600000) (hsl : sl + 3000 ≤ 7302250) (kk : ∀ (S' : Ms) (h' : Hp) (c' sl' : Nat), LSt w y (g + 200) S' h' → c' ≤ c + 200 → sl' ≤ sl + 3000 → J x (rH x b L xs (rL x)) (kL_law nm) 858 [(0, .ref b), (1, .ref (w 0 0)), (2, .ref y.1), (3, .int (nI i))] [] h' c' sl') : J x (rH x b L xs (rL x)) (kL_law nm) 525 [(0, .ref b), (1, .ref (w 0 0)), (2, .ref y.1), (3, .int (nI i))] [] h c sl := by
  obtain ⟨⟨as, hr⟩, hrm, hV⟩ := hs
  have o1 := hr.1.1.1
  have sx : ∀ k : Nat, k < 8 → inx (nI i + nI k) (i + k) L := fun k hk => by rw [zI_add]; exact inx_n (by omega) (by omega)
  refine J_aload_n dL_law_525 rfl rfl isR_r ?_
  refine J_aload_n dL_law_526 rfl rfl isR_r ?_
  refine J_iload_n dL_law_527 rfl rfl ?_
  refine J_iconst (v := 1) dL_law_528 (by decide) ?_
  refine J_iadd dL_law_529 ?_
  refine J_sld dL_law_530 (sx 1 (by decide)) ?_
  refine J_callV (c_rise hI1 hr) dL_law_531 ml_L_73 mkX6_rise rfl (by first | with_reducible assumption | (simp only [hK_sI, hK_sJ, hK_sR, hK_tI, hK_tJ, hK_tR]; with_reducible assumption)) (by decide) rfl rfl (Nat.le_of_ble_eq_true rfl) ⟨Nat.le_of_ble_eq_true rfl, Nat.le_of_ble_eq_true rfl⟩ ⟨show c + 0 ≤ 600000 by omega, show sl + 0 ≤ 7302250 by omega⟩ (fun v531 hp531 q531 => ?_)
  obtain ⟨rfl, z1, z2⟩ := q531
  have rm := RepM_HX (by decide) z2 hrm
  have ky := rm.1.1
  refine J_aload_n dL_law_534 rfl rfl isR_r ?_
  refine J_pc (pc' := 535) rfl ?_
  refine J_aload_n dL_law_535 rfl rfl isR_r ?_
  refine J_iload_n dL_law_536 rfl rfl ?_
  refine J_iconst (v := 1) dL_law_537 (by decide) ?_
  refine J_iadd dL_law_538 ?_
  refine J_sld dL_law_539 (sx 1 (by decide)) ?_
  refine J_callV ((mp_rise hV.1.1) _ _ rm FM.rf) dL_law_540 ml_L_76 mkX7_rise rfl (by first | with_reducible assumption | (simp only [hK_sI, hK_sJ, hK_sR, hK_tI, hK_tJ, hK_tR]; with_reducible assumption)) (by decide) rfl rfl (Nat.le_of_ble_eq_true rfl) ⟨Nat.le_of_ble_eq_true rfl, Nat.le_of_ble_eq_true rfl⟩ ⟨show c + 0 + 0 ≤ 600000 by omega, show sl + 0 + 0 ≤ 7302250 by omega⟩ (fun v540 hp540 q540 => ?_)
  obtain ⟨S2, r2, f2, rfl, rfl⟩ := q540
  refine J_icmp_eq (tgt := 858) dL_law_543 (by decide) (fun c543 => ?_) (fun c543 => (c543 rfl).elim)
  exact kk _ _ _ _ ⟨⟨_, Rep_fm ky f2 z1⟩, r2, Iv_riseP hV hg⟩ (by omega) (by omega)
set_option maxRecDepth 100000 in
set_option maxHeartbeats 4000000 in
theorem law_c13 (hI1 : Inj w) (hL : L ≤ 4097) (hi : i + 8 ≤ L) (hs : LSt w y g S h) (hg : g + 200 < 1000000) (hc : c + 200 ≤ 600000) (hsl : sl + 3000 ≤ 7302250) (kk : ∀ (S' : Ms) (h' : Hp) (c' sl' : Nat), LSt w y (g + 200) S' h' → c' ≤ c + 200 → sl' ≤ sl + 3000 → J x (rH x b L xs (rL x)) (kL_law nm) 858 [(0, .ref b), (1, .ref (w 0 0)), (2, .ref y.1), (3, .int (nI i))] [] h' c' sl') : J x (rH x b L xs (rL x)) (kL_law nm) 548 [(0, .ref b), (1, .ref (w 0 0)), (2, .ref y.1), (3, .int (nI i))] [] h c sl := by
  obtain ⟨⟨as, hr⟩, hrm, hV⟩ := hs
  have o1 := hr.1.1.1
  have sx : ∀ k : Nat, k < 8 → inx (nI i + nI k) (i + k) L := fun k hk => by rw [zI_add]; exact inx_n (by omega) (by omega)
  refine J_aload_n dL_law_548 rfl rfl isR_r ?_
  refine J_aload_n dL_law_549 rfl rfl isR_r ?_
  refine J_iload_n dL_law_550 rfl rfl ?_
  refine J_iconst (v := 1) dL_law_551 (by decide) ?_
  refine J_iadd dL_law_552 ?_
  refine J_sld dL_law_553 (sx 1 (by decide)) ?_
  refine J_aload_n dL_law_554 rfl rfl isR_r ?_
  refine J_iload_n dL_law_555 rfl rfl ?_
  refine J_pc (pc' := 556) rfl ?_
  refine J_iconst (v := 2) dL_law_556 (by decide) ?_
  refine J_iadd dL_law_557 ?_
  refine J_sld dL_law_558 (sx 2 (by decide)) ?_
  refine J_callV (c_account hr) dL_law_559 ml_L_77 mkX6_account rfl (by first | with_reducible assumption | (simp only [hK_sI, hK_sJ, hK_sR, hK_tI, hK_tJ, hK_tR]; with_reducible assumption)) (by decide) rfl rfl (Nat.le_of_ble_eq_true rfl) ⟨Nat.le_of_ble_eq_true rfl, Nat.le_of_ble_eq_true rfl⟩ ⟨show c + 0 ≤ 600000 by omega, show sl + 0 ≤ 7302250 by omega⟩ (fun v559 hp559 q559 => ?_)
  obtain ⟨rfl, zA⟩ := q559
  rw [zA]
  have ky := hrm.1.1
  refine J_aload_n dL_law_562 rfl rfl isR_r ?_
  refine J_aload_n dL_law_563 rfl rfl isR_r ?_
  refine J_iload_n dL_law_564 rfl rfl ?_
  refine J_iconst (v := 1) dL_law_565 (by decide) ?_
  refine J_pc (pc' := 566) rfl ?_
  refine J_iadd dL_law_566 ?_
  refine J_sld dL_law_567 (sx 1 (by decide)) ?_
  refine J_aload_n dL_law_568 rfl rfl isR_r ?_
  refine J_iload_n dL_law_569 rfl rfl ?_
  refine J_iconst (v := 2) dL_law_570 (by decide) ?_
  refine J_iadd dL_law_571 ?_
  refine J_sld dL_law_572 (sx 2 (by decide)) ?_
  refine J_callV ((mp_account) _ _ hrm FM.rf) dL_law_573 ml_L_81 mkX7_account rfl (by first | with_reducible assumption | (simp only [hK_sI, hK_sJ, hK_sR, hK_tI, hK_tJ, hK_tR]; with_reducible assumption)) (by decide) rfl rfl (Nat.le_of_ble_eq_true rfl) ⟨Nat.le_of_ble_eq_true rfl, Nat.le_of_ble_eq_true rfl⟩ ⟨show c + 0 + 0 ≤ 600000 by omega, show sl + 0 + 0 ≤ 7302250 by omega⟩ (fun v573 hp573 q573 => ?_)
  obtain ⟨S2, r2, f2, rfl, rfl⟩ := q573
  refine J_pc (pc' := 576) rfl ?_
  refine J_lcmp dL_law_576 ?_
  refine J_if_eq (tgt := 858) dL_law_577 (by decide) (fun c577 => ?_) (fun c577 => (c577 ((lg_cmp_eq _ _).mpr rfl)).elim)
  exact kk _ _ _ _ ⟨⟨as, Rep_fm ky f2 hr⟩, r2, Iv_up hV (by omega) hg⟩ (by omega) (by omega)
set_option maxRecDepth 100000 in
set_option maxHeartbeats 4000000 in
theorem law_c14 (hI1 : Inj w) (hL : L ≤ 4097) (hi : i + 8 ≤ L) (hs : LSt w y g S h) (hg : g + 200 < 1000000) (hc : c + 200 ≤ 600000) (hsl : sl + 3000 ≤ 7302250) (kk : ∀ (S' : Ms) (h' : Hp) (c' sl' : Nat), LSt w y (g + 200) S' h' → c' ≤ c + 200 → sl' ≤ sl + 3000 → J x (rH x b L xs (rL x)) (kL_law nm) 858 [(0, .ref b), (1, .ref (w 0 0)), (2, .ref y.1), (3, .int (nI i))] [] h' c' sl') : J x (rH x b L xs (rL x)) (kL_law nm) 582 [(0, .ref b), (1, .ref (w 0 0)), (2, .ref y.1), (3, .int (nI i))] [] h c sl := by
  obtain ⟨⟨as, hr⟩, hrm, hV⟩ := hs
  have o1 := hr.1.1.1
  have sx : ∀ k : Nat, k < 8 → inx (nI i + nI k) (i + k) L := fun k hk => by rw [zI_add]; exact inx_n (by omega) (by omega)
  refine J_aload_n dL_law_582 rfl rfl isR_r ?_
  refine J_aload_n dL_law_583 rfl rfl isR_r ?_
  refine J_iload_n dL_law_584 rfl rfl ?_
  refine J_iconst (v := 1) dL_law_585 (by decide) ?_
  refine J_iadd dL_law_586 ?_
  refine J_sld dL_law_587 (sx 1 (by decide)) ?_
  refine J_aload_n dL_law_588 rfl rfl isR_r ?_
  refine J_iload_n dL_law_589 rfl rfl ?_
  refine J_pc (pc' := 590) rfl ?_
  refine J_iconst (v := 2) dL_law_590 (by decide) ?_
  refine J_iadd dL_law_591 ?_
  refine J_sld dL_law_592 (sx 2 (by decide)) ?_
  refine J_aload_n dL_law_593 rfl rfl isR_r ?_
  refine J_iload_n dL_law_594 rfl rfl ?_
  refine J_iconst (v := 3) dL_law_595 (by decide) ?_
  refine J_iadd dL_law_596 ?_
  refine J_sld dL_law_597 (sx 3 (by decide)) ?_
  refine J_pc (pc' := 598) rfl ?_
  refine J_callV (c_kept hr hV.1) dL_law_598 ml_L_82 mkX6_kept rfl (by first | with_reducible assumption | (simp only [hK_sI, hK_sJ, hK_sR, hK_tI, hK_tJ, hK_tR]; with_reducible assumption)) (by decide) rfl rfl (Nat.le_of_ble_eq_true rfl) ⟨Nat.le_of_ble_eq_true rfl, Nat.le_of_ble_eq_true rfl⟩ ⟨show c + 0 ≤ 600000 by omega, show sl + 0 ≤ 7302250 by omega⟩ (fun v598 hp598 q598 => ?_)
  obtain ⟨rfl, zA⟩ := q598
  rw [zA]
  have ky := hrm.1.1
  refine J_aload_n dL_law_601 rfl rfl isR_r ?_
  refine J_aload_n dL_law_602 rfl rfl isR_r ?_
  refine J_iload_n dL_law_603 rfl rfl ?_
  refine J_iconst (v := 1) dL_law_604 (by decide) ?_
  refine J_iadd dL_law_605 ?_
  refine J_sld dL_law_606 (sx 1 (by decide)) ?_
  refine J_aload_n dL_law_607 rfl rfl isR_r ?_
  refine J_pc (pc' := 608) rfl ?_
  refine J_iload_n dL_law_608 rfl rfl ?_
  refine J_iconst (v := 2) dL_law_609 (by decide) ?_
  refine J_iadd dL_law_610 ?_
  refine J_sld dL_law_611 (sx 2 (by decide)) ?_
  refine J_aload_n dL_law_612 rfl rfl isR_r ?_
  refine J_iload_n dL_law_613 rfl rfl ?_
  refine J_iconst (v := 3) dL_law_614 (by decide) ?_
  refine J_iadd dL_law_615 ?_
  refine J_pc (pc' := 616) rfl ?_
  refine J_sld dL_law_616 (sx 3 (by decide)) ?_
  refine J_callV ((mp_kept hV.1.1.1.2.2) _ _ hrm FM.rf) dL_law_617 ml_L_86 mkX7_kept rfl (by first | with_reducible assumption | (simp only [hK_sI, hK_sJ, hK_sR, hK_tI, hK_tJ, hK_tR]; with_reducible assumption)) (by decide) rfl rfl (Nat.le_of_ble_eq_true rfl) ⟨Nat.le_of_ble_eq_true rfl, Nat.le_of_ble_eq_true rfl⟩ ⟨show c + 0 + 0 ≤ 600000 by omega, show sl + 0 + 0 ≤ 7302250 by omega⟩ (fun v617 hp617 q617 => ?_)
  obtain ⟨S2, r2, f2, rfl, rfl⟩ := q617
  refine J_icmp_eq (tgt := 858) dL_law_620 (by decide) (fun c620 => ?_) (fun c620 => (c620 rfl).elim)
  exact kk _ _ _ _ ⟨⟨as, Rep_fm ky f2 hr⟩, r2, Iv_up hV (by omega) hg⟩ (by omega) (by omega)
set_option maxRecDepth 100000 in
set_option maxHeartbeats 4000000 in
theorem law_c15 (hI1 : Inj w) (hL : L ≤ 4097) (hi : i + 8 ≤ L) (hs : LSt w y g S h) (hg : g + 200 < 1000000) (hc : c + 200 ≤ 600000) (hsl : sl + 3000 ≤ 7302250) (kk : ∀ (S' : Ms) (h' : Hp) (c' sl' : Nat), LSt w y (g + 200) S' h' → c' ≤ c + 200 → sl' ≤ sl + 3000 → J x (rH x b L xs (rL x)) (kL_law nm) 858 [(0, .ref b), (1, .ref (w 0 0)), (2, .ref y.1), (3, .int (nI i))] [] h' c' sl') : J x (rH x b L xs (rL x)) (kL_law nm) 625 [(0, .ref b), (1, .ref (w 0 0)), (2, .ref y.1), (3, .int (nI i))] [] h c sl := by
  obtain ⟨⟨as, hr⟩, hrm, hV⟩ := hs
  have o1 := hr.1.1.1
  have sx : ∀ k : Nat, k < 8 → inx (nI i + nI k) (i + k) L := fun k hk => by rw [zI_add]; exact inx_n (by omega) (by omega)
  refine J_aload_n dL_law_625 rfl rfl isR_r ?_
  refine J_aload_n dL_law_626 rfl rfl isR_r ?_
  refine J_iload_n dL_law_627 rfl rfl ?_
  refine J_iconst (v := 1) dL_law_628 (by decide) ?_
  refine J_iadd dL_law_629 ?_
  refine J_sld dL_law_630 (sx 1 (by decide)) ?_
  refine J_aload_n dL_law_631 rfl rfl isR_r ?_
  refine J_iload_n dL_law_632 rfl rfl ?_
  refine J_pc (pc' := 633) rfl ?_
  refine J_iconst (v := 2) dL_law_633 (by decide) ?_
  refine J_iadd dL_law_634 ?_
  refine J_sld dL_law_635 (sx 2 (by decide)) ?_
  refine J_aload_n dL_law_636 rfl rfl isR_r ?_
  refine J_iload_n dL_law_637 rfl rfl ?_
  refine J_iconst (v := 3) dL_law_638 (by decide) ?_
  refine J_iadd dL_law_639 ?_
  refine J_sld dL_law_640 (sx 3 (by decide)) ?_
  refine J_pc (pc' := 641) rfl ?_
  refine J_callV (c_record hr hV.1) dL_law_641 ml_L_87 mkX6_record rfl (by first | with_reducible assumption | (simp only [hK_sI, hK_sJ, hK_sR, hK_tI, hK_tJ, hK_tR]; with_reducible assumption)) (by decide) rfl rfl (Nat.le_of_ble_eq_true rfl) ⟨Nat.le_of_ble_eq_true rfl, Nat.le_of_ble_eq_true rfl⟩ ⟨show c + 0 ≤ 600000 by omega, show sl + 0 ≤ 7302250 by omega⟩ (fun v641 hp641 q641 => ?_)
  obtain ⟨rfl, zA⟩ := q641
  rw [zA]
  have ky := hrm.1.1
  refine J_aload_n dL_law_644 rfl rfl isR_r ?_
  refine J_aload_n dL_law_645 rfl rfl isR_r ?_
  refine J_iload_n dL_law_646 rfl rfl ?_
  refine J_iconst (v := 1) dL_law_647 (by decide) ?_
  refine J_iadd dL_law_648 ?_
  refine J_sld dL_law_649 (sx 1 (by decide)) ?_
  refine J_aload_n dL_law_650 rfl rfl isR_r ?_
  refine J_pc (pc' := 651) rfl ?_
  refine J_iload_n dL_law_651 rfl rfl ?_
  refine J_iconst (v := 2) dL_law_652 (by decide) ?_
  refine J_iadd dL_law_653 ?_
  refine J_sld dL_law_654 (sx 2 (by decide)) ?_
  refine J_aload_n dL_law_655 rfl rfl isR_r ?_
  refine J_iload_n dL_law_656 rfl rfl ?_
  refine J_iconst (v := 3) dL_law_657 (by decide) ?_
  refine J_iadd dL_law_658 ?_
  refine J_pc (pc' := 659) rfl ?_
  refine J_sld dL_law_659 (sx 3 (by decide)) ?_
  refine J_callV ((mp_record hV.1.1) _ _ hrm FM.rf) dL_law_660 ml_L_90 mkX7_record rfl (by first | with_reducible assumption | (simp only [hK_sI, hK_sJ, hK_sR, hK_tI, hK_tJ, hK_tR]; with_reducible assumption)) (by decide) rfl rfl (Nat.le_of_ble_eq_true rfl) ⟨Nat.le_of_ble_eq_true rfl, Nat.le_of_ble_eq_true rfl⟩ ⟨show c + 0 + 0 ≤ 600000 by omega, show sl + 0 + 0 ≤ 7302250 by omega⟩ (fun v660 hp660 q660 => ?_)
  obtain ⟨S2, r2, f2, rfl, rfl⟩ := q660
  refine J_icmp_eq (tgt := 858) dL_law_663 (by decide) (fun c663 => ?_) (fun c663 => (c663 rfl).elim)
  exact kk _ _ _ _ ⟨⟨as, Rep_fm ky f2 hr⟩, r2, Iv_up hV (by omega) hg⟩ (by omega) (by omega)
set_option maxRecDepth 100000 in
set_option maxHeartbeats 4000000 in
theorem law_c16 (hI1 : Inj w) (hL : L ≤ 4097) (hi : i + 8 ≤ L) (hs : LSt w y g S h) (hg : g + 200 < 1000000) (hc : c + 200 ≤ 600000) (hsl : sl + 3000 ≤ 7302250) (kk : ∀ (S' : Ms) (h' : Hp) (c' sl' : Nat), LSt w y (g + 200) S' h' → c' ≤ c + 200 → sl' ≤ sl + 3000 → J x (rH x b L xs (rL x)) (kL_law nm) 858 [(0, .ref b), (1, .ref (w 0 0)), (2, .ref y.1), (3, .int (nI i))] [] h' c' sl') : J x (rH x b L xs (rL x)) (kL_law nm) 668 [(0, .ref b), (1, .ref (w 0 0)), (2, .ref y.1), (3, .int (nI i))] [] h c sl := by
  obtain ⟨⟨as, hr⟩, hrm, hV⟩ := hs
  have o1 := hr.1.1.1
  have sx : ∀ k : Nat, k < 8 → inx (nI i + nI k) (i + k) L := fun k hk => by rw [zI_add]; exact inx_n (by omega) (by omega)
  refine J_aload_n dL_law_668 rfl rfl isR_r ?_
  refine J_aload_n dL_law_669 rfl rfl isR_r ?_
  refine J_iload_n dL_law_670 rfl rfl ?_
  refine J_iconst (v := 1) dL_law_671 (by decide) ?_
  refine J_iadd dL_law_672 ?_
  refine J_sld dL_law_673 (sx 1 (by decide)) ?_
  refine J_aload_n dL_law_674 rfl rfl isR_r ?_
  refine J_iload_n dL_law_675 rfl rfl ?_
  refine J_pc (pc' := 676) rfl ?_
  refine J_iconst (v := 2) dL_law_676 (by decide) ?_
  refine J_iadd dL_law_677 ?_
  refine J_sld dL_law_678 (sx 2 (by decide)) ?_
  refine J_callV (c_leave hr hI1 hV.1) dL_law_679 ml_L_91 mkX6_leave rfl (by first | with_reducible assumption | (simp only [hK_sI, hK_sJ, hK_sR, hK_tI, hK_tJ, hK_tR]; with_reducible assumption)) (by decide) rfl rfl (Nat.le_of_ble_eq_true rfl) ⟨Nat.le_of_ble_eq_true rfl, Nat.le_of_ble_eq_true rfl⟩ ⟨show c + 0 ≤ 600000 by omega, show sl + 0 ≤ 7302250 by omega⟩ (fun v679 hp679 q679 => ?_)
  obtain ⟨rfl, z1, z2⟩ := q679
  have rm := RepM_HX (by decide) z2 hrm
  have ky := rm.1.1
  refine J_aload_n dL_law_682 rfl rfl isR_r ?_
  refine J_aload_n dL_law_683 rfl rfl isR_r ?_
  refine J_iload_n dL_law_684 rfl rfl ?_
  refine J_iconst (v := 1) dL_law_685 (by decide) ?_
  refine J_pc (pc' := 686) rfl ?_
  refine J_iadd dL_law_686 ?_
  refine J_sld dL_law_687 (sx 1 (by decide)) ?_
  refine J_aload_n dL_law_688 rfl rfl isR_r ?_
  refine J_iload_n dL_law_689 rfl rfl ?_
  refine J_iconst (v := 2) dL_law_690 (by decide) ?_
  refine J_iadd dL_law_691 ?_
  refine J_sld dL_law_692 (sx 2 (by decide)) ?_
  refine J_callV ((mp_leave hV.1.1.1.2.2) _ _ rm FM.rf) dL_law_693 ml_L_94 mkX7_leave rfl (by first | with_reducible assumption | (simp only [hK_sI, hK_sJ, hK_sR, hK_tI, hK_tJ, hK_tR]; with_reducible assumption)) (by decide) rfl rfl (Nat.le_of_ble_eq_true rfl) ⟨Nat.le_of_ble_eq_true rfl, Nat.le_of_ble_eq_true rfl⟩ ⟨show c + 0 + 0 ≤ 600000 by omega, show sl + 0 + 0 ≤ 7302250 by omega⟩ (fun v693 hp693 q693 => ?_)
  obtain ⟨S2, r2, f2, rfl, rfl⟩ := q693
  refine J_pc (pc' := 696) rfl ?_
  refine J_icmp_eq (tgt := 858) dL_law_696 (by decide) (fun c696 => ?_) (fun c696 => (c696 rfl).elim)
  exact kk _ _ _ _ ⟨⟨_, Rep_fm ky f2 z1⟩, r2, Iv_leaveP hV hg⟩ (by omega) (by omega)
set_option maxRecDepth 100000 in
set_option maxHeartbeats 4000000 in
theorem law_c17 (hI1 : Inj w) (hL : L ≤ 4097) (hi : i + 8 ≤ L) (hs : LSt w y g S h) (hg : g + 200 < 1000000) (hc : c + 200 ≤ 600000) (hsl : sl + 3000 ≤ 7302250) (kk : ∀ (S' : Ms) (h' : Hp) (c' sl' : Nat), LSt w y (g + 200) S' h' → c' ≤ c + 200 → sl' ≤ sl + 3000 → J x (rH x b L xs (rL x)) (kL_law nm) 858 [(0, .ref b), (1, .ref (w 0 0)), (2, .ref y.1), (3, .int (nI i))] [] h' c' sl') : J x (rH x b L xs (rL x)) (kL_law nm) 701 [(0, .ref b), (1, .ref (w 0 0)), (2, .ref y.1), (3, .int (nI i))] [] h c sl := by
  obtain ⟨⟨as, hr⟩, hrm, hV⟩ := hs
  have o1 := hr.1.1.1
  have sx : ∀ k : Nat, k < 8 → inx (nI i + nI k) (i + k) L := fun k hk => by rw [zI_add]; exact inx_n (by omega) (by omega)
  refine J_aload_n dL_law_701 rfl rfl isR_r ?_
  refine J_aload_n dL_law_702 rfl rfl isR_r ?_
  refine J_iload_n dL_law_703 rfl rfl ?_
  refine J_iconst (v := 1) dL_law_704 (by decide) ?_
  refine J_iadd dL_law_705 ?_
  refine J_sld dL_law_706 (sx 1 (by decide)) ?_
  refine J_callV (c_times hr hV.1) dL_law_707 ml_L_95 mkX6_times rfl (by first | with_reducible assumption | (simp only [hK_sI, hK_sJ, hK_sR, hK_tI, hK_tJ, hK_tR]; with_reducible assumption)) (by decide) rfl rfl (Nat.le_of_ble_eq_true rfl) ⟨Nat.le_of_ble_eq_true rfl, Nat.le_of_ble_eq_true rfl⟩ ⟨show c + 0 ≤ 600000 by omega, show sl + 0 ≤ 7302250 by omega⟩ (fun v707 hp707 q707 => ?_)
  obtain ⟨rfl, zA⟩ := q707
  rw [zA]
  have ky := hrm.1.1
  refine J_aload_n dL_law_710 rfl rfl isR_r ?_
  refine J_pc (pc' := 711) rfl ?_
  refine J_aload_n dL_law_711 rfl rfl isR_r ?_
  refine J_iload_n dL_law_712 rfl rfl ?_
  refine J_iconst (v := 1) dL_law_713 (by decide) ?_
  refine J_iadd dL_law_714 ?_
  refine J_sld dL_law_715 (sx 1 (by decide)) ?_
  refine J_callV ((mp_times hV.1.1) _ _ hrm FM.rf) dL_law_716 ml_L_98 mkX7_times rfl (by first | with_reducible assumption | (simp only [hK_sI, hK_sJ, hK_sR, hK_tI, hK_tJ, hK_tR]; with_reducible assumption)) (by decide) rfl rfl (Nat.le_of_ble_eq_true rfl) ⟨Nat.le_of_ble_eq_true rfl, Nat.le_of_ble_eq_true rfl⟩ ⟨show c + 0 + 0 ≤ 600000 by omega, show sl + 0 + 0 ≤ 7302250 by omega⟩ (fun v716 hp716 q716 => ?_)
  obtain ⟨S2, r2, f2, rfl, rfl⟩ := q716
  refine J_icmp_eq (tgt := 858) dL_law_719 (by decide) (fun c719 => ?_) (fun c719 => (c719 rfl).elim)
  exact kk _ _ _ _ ⟨⟨as, Rep_fm ky f2 hr⟩, r2, Iv_up hV (by omega) hg⟩ (by omega) (by omega)
set_option maxRecDepth 100000 in
set_option maxHeartbeats 4000000 in
theorem law_c18 (hI1 : Inj w) (hL : L ≤ 4097) (hi : i + 8 ≤ L) (hs : LSt w y g S h) (hg : g + 200 < 1000000) (hc : c + 200 ≤ 600000) (hsl : sl + 3000 ≤ 7302250) (kk : ∀ (S' : Ms) (h' : Hp) (c' sl' : Nat), LSt w y (g + 200) S' h' → c' ≤ c + 200 → sl' ≤ sl + 3000 → J x (rH x b L xs (rL x)) (kL_law nm) 858 [(0, .ref b), (1, .ref (w 0 0)), (2, .ref y.1), (3, .int (nI i))] [] h' c' sl') : J x (rH x b L xs (rL x)) (kL_law nm) 724 [(0, .ref b), (1, .ref (w 0 0)), (2, .ref y.1), (3, .int (nI i))] [] h c sl := by
  obtain ⟨⟨as, hr⟩, hrm, hV⟩ := hs
  have o1 := hr.1.1.1
  have sx : ∀ k : Nat, k < 8 → inx (nI i + nI k) (i + k) L := fun k hk => by rw [zI_add]; exact inx_n (by omega) (by omega)
  refine J_aload_n dL_law_724 rfl rfl isR_r ?_
  refine J_aload_n dL_law_725 rfl rfl isR_r ?_
  refine J_iload_n dL_law_726 rfl rfl ?_
  refine J_iconst (v := 1) dL_law_727 (by decide) ?_
  refine J_iadd dL_law_728 ?_
  refine J_sld dL_law_729 (sx 1 (by decide)) ?_
  refine J_callV (c_audit hr hV.1) dL_law_730 ml_L_99 mkX6_audit rfl (by first | with_reducible assumption | (simp only [hK_sI, hK_sJ, hK_sR, hK_tI, hK_tJ, hK_tR]; with_reducible assumption)) (by decide) rfl rfl (Nat.le_of_ble_eq_true rfl) ⟨Nat.le_of_ble_eq_true rfl, Nat.le_of_ble_eq_true rfl⟩ ⟨show c + 0 ≤ 600000 by omega, show sl + 0 ≤ 7302250 by omega⟩ (fun v730 hp730 q730 => ?_)
  obtain ⟨rfl, zA⟩ := q730
  rw [zA]
  have ky := hrm.1.1
  refine J_aload_n dL_law_733 rfl rfl isR_r ?_
  refine J_pc (pc' := 734) rfl ?_
  refine J_aload_n dL_law_734 rfl rfl isR_r ?_
  refine J_iload_n dL_law_735 rfl rfl ?_
  refine J_iconst (v := 1) dL_law_736 (by decide) ?_
  refine J_iadd dL_law_737 ?_
  refine J_sld dL_law_738 (sx 1 (by decide)) ?_
  refine J_callV ((mp_audit hV.1.1 (Iv_F hV)) _ _ hrm FM.rf) dL_law_739 ml_L_102 mkX7_audit rfl (by first | with_reducible assumption | (simp only [hK_sI, hK_sJ, hK_sR, hK_tI, hK_tJ, hK_tR]; with_reducible assumption)) (by decide) rfl rfl (Nat.le_of_ble_eq_true rfl) ⟨Nat.le_of_ble_eq_true rfl, Nat.le_of_ble_eq_true rfl⟩ ⟨show c + 0 + 0 ≤ 600000 by omega, show sl + 0 + 0 ≤ 7302250 by omega⟩ (fun v739 hp739 q739 => ?_)
  obtain ⟨S2, r2, f2, rfl, rfl⟩ := q739
  refine J_lcmp dL_law_742 ?_
  refine J_if_eq (tgt := 858) dL_law_743 (by decide) (fun c743 => ?_) (fun c743 => (c743 ((lg_cmp_eq _ _).mpr rfl)).elim)
  exact kk _ _ _ _ ⟨⟨as, Rep_fm ky f2 hr⟩, r2, Iv_up hV (by omega) hg⟩ (by omega) (by omega)
set_option maxRecDepth 100000 in
set_option maxHeartbeats 4000000 in
theorem law_c19 (hI1 : Inj w) (hL : L ≤ 4097) (hi : i + 8 ≤ L) (hs : LSt w y g S h) (hg : g + 200 < 1000000) (hc : c + 200 ≤ 600000) (hsl : sl + 3000 ≤ 7302250) (kk : ∀ (S' : Ms) (h' : Hp) (c' sl' : Nat), LSt w y (g + 200) S' h' → c' ≤ c + 200 → sl' ≤ sl + 3000 → J x (rH x b L xs (rL x)) (kL_law nm) 858 [(0, .ref b), (1, .ref (w 0 0)), (2, .ref y.1), (3, .int (nI i))] [] h' c' sl') : J x (rH x b L xs (rL x)) (kL_law nm) 748 [(0, .ref b), (1, .ref (w 0 0)), (2, .ref y.1), (3, .int (nI i))] [] h c sl := by
  obtain ⟨⟨as, hr⟩, hrm, hV⟩ := hs
  have o1 := hr.1.1.1
  have sx : ∀ k : Nat, k < 8 → inx (nI i + nI k) (i + k) L := fun k hk => by rw [zI_add]; exact inx_n (by omega) (by omega)
  refine J_aload_n dL_law_748 rfl rfl isR_r ?_
  refine J_aload_n dL_law_749 rfl rfl isR_r ?_
  refine J_iload_n dL_law_750 rfl rfl ?_
  refine J_iconst (v := 1) dL_law_751 (by decide) ?_
  refine J_iadd dL_law_752 ?_
  refine J_sld dL_law_753 (sx 1 (by decide)) ?_
  refine J_callV (c_witness hr hV.1) dL_law_754 ml_L_103 mkX6_witness rfl (by first | with_reducible assumption | (simp only [hK_sI, hK_sJ, hK_sR, hK_tI, hK_tJ, hK_tR]; with_reducible assumption)) (by decide) rfl rfl (Nat.le_of_ble_eq_true rfl) ⟨Nat.le_of_ble_eq_true rfl, Nat.le_of_ble_eq_true rfl⟩ ⟨show c + 0 ≤ 600000 by omega, show sl + 0 ≤ 7302250 by omega⟩ (fun v754 hp754 q754 => ?_)
  obtain ⟨rfl, zA⟩ := q754
  rw [zA]
  have ky := hrm.1.1
  refine J_aload_n dL_law_757 rfl rfl isR_r ?_
  refine J_pc (pc' := 758) rfl ?_
  refine J_aload_n dL_law_758 rfl rfl isR_r ?_
  refine J_iload_n dL_law_759 rfl rfl ?_
  refine J_iconst (v := 1) dL_law_760 (by decide) ?_
  refine J_iadd dL_law_761 ?_
  refine J_sld dL_law_762 (sx 1 (by decide)) ?_
  refine J_callV ((mp_witness hV.1.1) _ _ hrm FM.rf) dL_law_763 ml_L_106 mkX7_witness rfl (by first | with_reducible assumption | (simp only [hK_sI, hK_sJ, hK_sR, hK_tI, hK_tJ, hK_tR]; with_reducible assumption)) (by decide) rfl rfl (Nat.le_of_ble_eq_true rfl) ⟨Nat.le_of_ble_eq_true rfl, Nat.le_of_ble_eq_true rfl⟩ ⟨show c + 0 + 0 ≤ 600000 by omega, show sl + 0 + 0 ≤ 7302250 by omega⟩ (fun v763 hp763 q763 => ?_)
  obtain ⟨S2, r2, f2, rfl, rfl⟩ := q763
  refine J_lcmp dL_law_766 ?_
  refine J_if_eq (tgt := 858) dL_law_767 (by decide) (fun c767 => ?_) (fun c767 => (c767 ((lg_cmp_eq _ _).mpr rfl)).elim)
  exact kk _ _ _ _ ⟨⟨as, Rep_fm ky f2 hr⟩, r2, Iv_up hV (by omega) hg⟩ (by omega) (by omega)
set_option maxRecDepth 100000 in
set_option maxHeartbeats 4000000 in
theorem law_c20 (hI1 : Inj w) (hL : L ≤ 4097) (hi : i + 8 ≤ L) (hs : LSt w y g S h) (hg : g + 200 < 1000000) (hc : c + 200 ≤ 600000) (hsl : sl + 3000 ≤ 7302250) (kk : ∀ (S' : Ms) (h' : Hp) (c' sl' : Nat), LSt w y (g + 200) S' h' → c' ≤ c + 200 → sl' ≤ sl + 3000 → J x (rH x b L xs (rL x)) (kL_law nm) 858 [(0, .ref b), (1, .ref (w 0 0)), (2, .ref y.1), (3, .int (nI i))] [] h' c' sl') : J x (rH x b L xs (rL x)) (kL_law nm) 772 [(0, .ref b), (1, .ref (w 0 0)), (2, .ref y.1), (3, .int (nI i))] [] h c sl := by
  obtain ⟨⟨as, hr⟩, hrm, hV⟩ := hs
  have o1 := hr.1.1.1
  have sx : ∀ k : Nat, k < 8 → inx (nI i + nI k) (i + k) L := fun k hk => by rw [zI_add]; exact inx_n (by omega) (by omega)
  refine J_aload_n dL_law_772 rfl rfl isR_r ?_
  refine J_aload_n dL_law_773 rfl rfl isR_r ?_
  refine J_iload_n dL_law_774 rfl rfl ?_
  refine J_iconst (v := 1) dL_law_775 (by decide) ?_
  refine J_iadd dL_law_776 ?_
  refine J_sld dL_law_777 (sx 1 (by decide)) ?_
  refine J_aload_n dL_law_778 rfl rfl isR_r ?_
  refine J_iload_n dL_law_779 rfl rfl ?_
  refine J_pc (pc' := 780) rfl ?_
  refine J_iconst (v := 2) dL_law_780 (by decide) ?_
  refine J_iadd dL_law_781 ?_
  refine J_sld dL_law_782 (sx 2 (by decide)) ?_
  refine J_i2l dL_law_783 ?_
  refine J_bipush (v := 32) dL_law_784 (by decide) ?_
  refine J_lshl dL_law_786 ?_
  refine J_aload_n dL_law_787 rfl rfl isR_r ?_
  refine J_iload_n dL_law_788 rfl rfl ?_
  refine J_pc (pc' := 789) rfl ?_
  refine J_iconst (v := 3) dL_law_789 (by decide) ?_
  refine J_iadd dL_law_790 ?_
  refine J_sld dL_law_791 (sx 3 (by decide)) ?_
  refine J_i2l dL_law_792 ?_
  refine J_ldc2 dL_law_793 ll_L_107 ?_
  refine J_land dL_law_796 ?_
  refine J_lor dL_law_797 ?_
  refine J_callV (c_check hr hV.1) dL_law_798 ml_L_109 mkX6_check rfl (by first | with_reducible assumption | (simp only [hK_sI, hK_sJ, hK_sR, hK_tI, hK_tJ, hK_tR]; with_reducible assumption)) (by decide) rfl rfl (Nat.le_of_ble_eq_true rfl) ⟨Nat.le_of_ble_eq_true rfl, Nat.le_of_ble_eq_true rfl⟩ ⟨show c + 0 ≤ 600000 by omega, show sl + 0 ≤ 7302250 by omega⟩ (fun v798 hp798 q798 => ?_)
  obtain ⟨rfl, zA⟩ := q798
  rw [zA]
  have ky := hrm.1.1
  refine J_pc (pc' := 801) rfl ?_
  refine J_aload_n dL_law_801 rfl rfl isR_r ?_
  refine J_aload_n dL_law_802 rfl rfl isR_r ?_
  refine J_iload_n dL_law_803 rfl rfl ?_
  refine J_iconst (v := 1) dL_law_804 (by decide) ?_
  refine J_iadd dL_law_805 ?_
  refine J_sld dL_law_806 (sx 1 (by decide)) ?_
  refine J_aload_n dL_law_807 rfl rfl isR_r ?_
  refine J_iload_n dL_law_808 rfl rfl ?_
  refine J_pc (pc' := 809) rfl ?_
  refine J_iconst (v := 2) dL_law_809 (by decide) ?_
  refine J_iadd dL_law_810 ?_
  refine J_sld dL_law_811 (sx 2 (by decide)) ?_
  refine J_i2l dL_law_812 ?_
  refine J_bipush (v := 32) dL_law_813 (by decide) ?_
  refine J_lshl dL_law_815 ?_
  refine J_aload_n dL_law_816 rfl rfl isR_r ?_
  refine J_iload_n dL_law_817 rfl rfl ?_
  refine J_pc (pc' := 818) rfl ?_
  refine J_iconst (v := 3) dL_law_818 (by decide) ?_
  refine J_iadd dL_law_819 ?_
  refine J_sld dL_law_820 (sx 3 (by decide)) ?_
  refine J_i2l dL_law_821 ?_
  refine J_ldc2 dL_law_822 ll_L_107 ?_
  refine J_land dL_law_825 ?_
  refine J_lor dL_law_826 ?_
  refine J_callV ((mp_check hV.1.1) _ _ hrm FM.rf) dL_law_827 ml_L_113 mkX7_check rfl (by first | with_reducible assumption | (simp only [hK_sI, hK_sJ, hK_sR, hK_tI, hK_tJ, hK_tR]; with_reducible assumption)) (by decide) rfl rfl (Nat.le_of_ble_eq_true rfl) ⟨Nat.le_of_ble_eq_true rfl, Nat.le_of_ble_eq_true rfl⟩ ⟨show c + 0 + 0 ≤ 600000 by omega, show sl + 0 + 0 ≤ 7302250 by omega⟩ (fun v827 hp827 q827 => ?_)
  obtain ⟨S2, r2, f2, rfl, rfl⟩ := q827
  refine J_pc (pc' := 830) rfl ?_
  refine J_icmp_eq (tgt := 858) dL_law_830 (by decide) (fun c830 => ?_) (fun c830 => (c830 rfl).elim)
  exact kk _ _ _ _ ⟨⟨as, Rep_fm ky f2 hr⟩, r2, Iv_up hV (by omega) hg⟩ (by omega) (by omega)
set_option maxRecDepth 100000 in
set_option maxHeartbeats 4000000 in
theorem law_c21 (hI1 : Inj w) (hL : L ≤ 4097) (hi : i + 8 ≤ L) (hs : LSt w y g S h) (hg : g + 200 < 1000000) (hc : c + 200 ≤ 600000) (hsl : sl + 3000 ≤ 7302250) (kk : ∀ (S' : Ms) (h' : Hp) (c' sl' : Nat), LSt w y (g + 200) S' h' → c' ≤ c + 200 → sl' ≤ sl + 3000 → J x (rH x b L xs (rL x)) (kL_law nm) 858 [(0, .ref b), (1, .ref (w 0 0)), (2, .ref y.1), (3, .int (nI i))] [] h' c' sl') : J x (rH x b L xs (rL x)) (kL_law nm) 835 [(0, .ref b), (1, .ref (w 0 0)), (2, .ref y.1), (3, .int (nI i))] [] h c sl := by
  obtain ⟨⟨as, hr⟩, hrm, hV⟩ := hs
  have o1 := hr.1.1.1
  have sx : ∀ k : Nat, k < 8 → inx (nI i + nI k) (i + k) L := fun k hk => by rw [zI_add]; exact inx_n (by omega) (by omega)
  refine J_aload_n dL_law_835 rfl rfl isR_r ?_
  refine J_aload_n dL_law_836 rfl rfl isR_r ?_
  refine J_iload_n dL_law_837 rfl rfl ?_
  refine J_iconst (v := 1) dL_law_838 (by decide) ?_
  refine J_iadd dL_law_839 ?_
  refine J_sld dL_law_840 (sx 1 (by decide)) ?_
  refine J_callV (c_count hr hV.1) dL_law_841 ml_L_114 mkX6_count rfl (by first | with_reducible assumption | (simp only [hK_sI, hK_sJ, hK_sR, hK_tI, hK_tJ, hK_tR]; with_reducible assumption)) (by decide) rfl rfl (Nat.le_of_ble_eq_true rfl) ⟨Nat.le_of_ble_eq_true rfl, Nat.le_of_ble_eq_true rfl⟩ ⟨show c + 0 ≤ 600000 by omega, show sl + 0 ≤ 7302250 by omega⟩ (fun v841 hp841 q841 => ?_)
  obtain ⟨rfl, zA⟩ := q841
  rw [zA]
  have ky := hrm.1.1
  refine J_aload_n dL_law_844 rfl rfl isR_r ?_
  refine J_pc (pc' := 845) rfl ?_
  refine J_aload_n dL_law_845 rfl rfl isR_r ?_
  refine J_iload_n dL_law_846 rfl rfl ?_
  refine J_iconst (v := 1) dL_law_847 (by decide) ?_
  refine J_iadd dL_law_848 ?_
  refine J_sld dL_law_849 (sx 1 (by decide)) ?_
  refine J_callV ((mp_count hV.1.1.1.1) _ _ hrm FM.rf) dL_law_850 ml_L_117 mkX7_count rfl (by first | with_reducible assumption | (simp only [hK_sI, hK_sJ, hK_sR, hK_tI, hK_tJ, hK_tR]; with_reducible assumption)) (by decide) rfl rfl (Nat.le_of_ble_eq_true rfl) ⟨Nat.le_of_ble_eq_true rfl, Nat.le_of_ble_eq_true rfl⟩ ⟨show c + 0 + 0 ≤ 600000 by omega, show sl + 0 + 0 ≤ 7302250 by omega⟩ (fun v850 hp850 q850 => ?_)
  obtain ⟨S2, r2, f2, rfl, rfl⟩ := q850
  refine J_icmp_eq (tgt := 858) dL_law_853 (by decide) (fun c853 => ?_) (fun c853 => (c853 rfl).elim)
  exact kk _ _ _ _ ⟨⟨as, Rep_fm ky f2 hr⟩, r2, Iv_up hV (by omega) hg⟩ (by omega) (by omega)
end LW
