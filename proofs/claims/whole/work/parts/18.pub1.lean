/-! the reference's face: answer and state behind it -/
section P1
variable {x : om_x} {y : om_y} {S : Ms}
def askOK (a s k p q t m : Int32) : Bool := inL a.toInt64 0 5 && (inL s.toInt64 0 3 && (inL k.toInt64 0 4 && (inL p.toInt64 0 5 && (inL q.toInt64 0 5 && (inL t.toInt64 0 3 && inL m.toInt64 (-1000000) 1000000)))))
def askP (S : Ms) (a s k p q t m : Int32) : Int32 × Ms :=
  if askOK a s k p q t m = false ∨ (((k = 2 ∨ k = 3) ∧ m < 0) ∨ (k = 4 ∧ m < 1)) then (-2000001, S)
  else if mT S 449 (tn a) ≠ 0 then (-2000002, S)
  else if mI S 453 = 300 ∨ usedUp S a = true then (-2000003, S)
  else (mI S 453, sendF (newAskF S a s k p q t m (-1)) (mI S 453) false 0)
set_option maxRecDepth 100000 in
set_option maxHeartbeats 4000000 in
theorem mp_ask {a s k p q t m : Int32} (hW : WF1 S) : MM x y 2 kX7_ask [.ref y.1, .int a, .int s, .int k, .int p, .int q, .int t, .int m] S (fun z S' => z = some (.int (askP S a s k p q t m).1) ∧ S' = (askP S a s k p q t m).2) := by
  refine MM.ofJ mkX7_ask.1 (Nat.le_of_ble_eq_true rfl) fun h0 => ?_
  have bad : askOK a s k p q t m = false ∨ (((k = 2 ∨ k = 3) ∧ m < 0) ∨ (k = 4 ∧ m < 1)) → askP S a s k p q t m = (-2000001, S) := fun z => by unfold askP; rw [if_pos z]
  have good : ¬ (askOK a s k p q t m = false ∨ (((k = 2 ∨ k = 3) ∧ m < 0) ∨ (k = 4 ∧ m < 1))) → askP S a s k p q t m = if mT S 449 (tn a) ≠ 0 then (-2000002, S) else if mI S 453 = 300 ∨ usedUp S a = true then (-2000003, S) else (mI S 453, sendF (newAskF S a s k p q t m (-1)) (mI S 453) false 0) := fun z => by unfold askP; rw [if_neg z]
  have tail : askOK a s k p q t m = true → ¬ (((k = 2 ∨ k = 3) ∧ m < 0) ∨ (k = 4 ∧ m < 1)) → MJ x y h0 2 (fun z S' => z = some (.int (askP S a s k p q t m).1) ∧ S' = (askP S a s k p q t m).2) kX7_ask 122 [(0, .ref y.1), (1, .int a), (2, .int s), (3, .int k), (4, .int p), (5, .int q), (6, .int t), (7, .int m)] [] S := by
    intro g1 g2
    have g := good (fun z => z.elim (fun q => by rw [g1] at q; cases q) g2)
    unfold askOK at g1
    simp only [Bool.and_eq_true] at g1
    obtain ⟨q1, q2, q3, q4, q5, q6, q7⟩ := g1
    have ha : inN a 6 = true := by rw [← inL_inN (m := 5) 6 (by decide)]; exact q1
    have ha10 : inN a 10 = true := inN_le ha (by decide)
    have hs : inN s 4 = true := by rw [← inL_inN (m := 3) 4 (by decide)]; exact q2
    have hp : inN p 6 = true := by rw [← inL_inN (m := 5) 6 (by decide)]; exact q4
    have hq : inN q 6 = true := by rw [← inL_inN (m := 5) 6 (by decide)]; exact q5
    have ht : inN t 4 = true := by rw [← inL_inN (m := 3) 4 (by decide)]; exact q6
    rw [g]
    refine MJ_aload_n dX7_ask_122 rfl rfl isR_r ?_
    refine MJ_getA dX7_ask_123 g_X7_7 (by decide) ?_
    refine MJ_iload_n dX7_ask_126 rfl rfl ?_
    refine MJ_zald dX7_ask_127 (inx_v ha10) (by decide) ?_
    refine MJ_if_eq (tgt := 134) dX7_ask_128 (by decide) (fun c128 => ?_) (fun c128 => ?_)
    · refine MJ_aload_n dX7_ask_134 rfl rfl isR_r ?_
      refine MJ_getI dX7_ask_135 g_X7_106 ?_
      refine MJ_sipush (v := 300) dX7_ask_138 (by decide) ?_
      refine MJ_icmp_eq (tgt := 152) dX7_ask_141 (by decide) (fun c141 => ?_) (fun c141 => ?_)
      · refine MJ_ldc dX7_ask_152 lc_X7_146 ?_
        exact MJ_ireturn dX7_ask_154 rfl ⟨by rw [if_neg (fun z => z c128), if_pos (Or.inl c141)], by rw [if_neg (fun z => z c128), if_pos (Or.inl c141)]⟩
      · refine MJ_aload_n dX7_ask_144 rfl rfl isR_r ?_
        refine MJ_iload_n dX7_ask_145 rfl rfl ?_
        refine MJ_callV (mm_isUsedUp ha10 hW.1.1) dX7_ask_146 ml_X7_142 mkX7_isUsedUp rfl rfl rfl (Nat.le_of_ble_eq_true rfl) ⟨Nat.le_of_ble_eq_true rfl, Nat.le_of_ble_eq_true rfl⟩ (fun v146 hp146 q146 => ?_)
        obtain ⟨rfl, z146⟩ := q146
        rw [z146]
        refine MJ_if_eq (tgt := 155) dX7_ask_149 (by decide) (fun c149 => ?_) (fun c149 => ?_)
        · have hlt : nA S < 300 := by
           have e4 := inN_tn hW.1.1
           have : tn (mI S 453) ≠ 300 := fun z => c141 (by rw [e4.1, z]; rfl)
           unfold nA; omega
          have h5 : 5 < a → inN (-1) (nA S) = true := fun z => by
           have := (inN_tn ha)
           rw [this.1, show (5 : Int32) = nI 5 from rfl, nI_lti (by decide) (by omega)] at z
           omega
          obtain ⟨w4, n4⟩ := WF1_newAsk hW hlt ha10 hs hp hq ht (kind := k) (amt := m) (far := -1) h5
          have hk5 : inN (mI S 453) (nA (newAskF S a s k p q t m (-1))) = true := by
           have e4 := inN_tn hW.1.1
           rw [n4, e4.1]; exact inN_nIlt (Nat.lt_succ_self _) (by unfold nA; omega)
          refine MJ_aload_n dX7_ask_155 rfl rfl isR_r ?_
          refine MJ_iload_n dX7_ask_156 rfl rfl ?_
          refine MJ_iload_n dX7_ask_157 rfl rfl ?_
          refine MJ_iload_n dX7_ask_158 rfl rfl ?_
          refine MJ_iload dX7_ask_159 rfl ?_
          refine MJ_iload dX7_ask_161 rfl ?_
          refine MJ_iload dX7_ask_163 rfl ?_
          refine MJ_iload dX7_ask_165 rfl ?_
          refine MJ_pc (pc' := 167) rfl ?_
          refine MJ_iconst (v := -1) dX7_ask_167 (by decide) ?_
          refine MJ_callV (mm_newAsk hW ha10 hlt) dX7_ask_168 ml_X7_147 mkX7_newAsk rfl rfl rfl (Nat.le_of_ble_eq_true rfl) ⟨Nat.le_of_ble_eq_true rfl, Nat.le_of_ble_eq_true rfl⟩ (fun v168 hp168 q168 => ?_)
          obtain ⟨rfl, z168⟩ := q168
          rw [z168]
          refine MJ_istore dX7_ask_171 (by decide) ?_
          refine MJ_aload_n dX7_ask_173 rfl rfl isR_r ?_
          refine MJ_iload dX7_ask_174 rfl ?_
          refine MJ_iconst (v := 0) dX7_ask_176 (by decide) ?_
          refine MJ_lconst (v := 0) dX7_ask_177 (by decide) ?_
          refine MJ_callV (mm_send (ans := false) w4 hk5) dX7_ask_178 ml_X7_151 mkX7_send rfl rfl rfl (Nat.le_of_ble_eq_true rfl) ⟨Nat.le_of_ble_eq_true rfl, Nat.le_of_ble_eq_true rfl⟩ (fun v178 hp178 q178 => ?_)
          obtain ⟨rfl, z178⟩ := q178
          rw [z178]
          refine MJ_pc (pc' := 181) rfl ?_
          refine MJ_iload dX7_ask_181 rfl ?_
          exact MJ_ireturn dX7_ask_183 rfl ⟨by rw [if_neg (fun z => z c128), if_neg (fun z => z.elim c141 (fun q => by rw [bi_0.mp c149] at q; cases q))], by rw [if_neg (fun z => z c128), if_neg (fun z => z.elim c141 (fun q => by rw [bi_0.mp c149] at q; cases q))]⟩
        · refine MJ_ldc dX7_ask_152 lc_X7_146 ?_
          exact MJ_ireturn dX7_ask_154 rfl ⟨by rw [if_neg (fun z => z c128), if_pos (Or.inr (bi_1.mp c149))], by rw [if_neg (fun z => z c128), if_pos (Or.inr (bi_1.mp c149))]⟩
    · refine MJ_ldc dX7_ask_131 lc_X7_141 ?_
      exact MJ_ireturn dX7_ask_133 rfl ⟨by rw [if_pos c128], by rw [if_pos c128]⟩
  have out : ∀ {j : Int32 × Ms}, askP S a s k p q t m = j → (some (Value.int j.1) = some (Value.int (askP S a s k p q t m).1) ∧ j.2 = (askP S a s k p q t m).2) := fun z => by rw [z]; exact ⟨rfl, rfl⟩
  refine MJ_iload_n dX7_ask_0 rfl rfl ?_
  refine MJ_i2l dX7_ask_1 ?_
  refine MJ_lconst (v := 0) dX7_ask_2 (by decide) ?_
  refine MJ_ldc2 dX7_ask_3 ll_X7_130 ?_
  refine MJ_callS (mm_in _ _ _) dX7_ask_6 ml_X7_109 mkX7_in rfl rfl (Nat.le_of_ble_eq_true rfl) ⟨Nat.le_of_ble_eq_true rfl, Nat.le_of_ble_eq_true rfl⟩ (fun v6 hp6 q6 => ?_)
  obtain ⟨rfl, z6⟩ := q6
  rw [z6]
  refine MJ_if_eq (tgt := 90) dX7_ask_9 (by decide) (fun c9 => ?_) (fun c9 => ?_)
  · refine MJ_ldc dX7_ask_90 lc_X7_140 ?_
    exact MJ_ireturn dX7_ask_92 rfl (out (bad (Or.inl (by unfold askOK; rw [bi_0.mp c9]; rfl))))
  · refine MJ_iload_n dX7_ask_12 rfl rfl ?_
    refine MJ_i2l dX7_ask_13 ?_
    refine MJ_lconst (v := 0) dX7_ask_14 (by decide) ?_
    refine MJ_ldc2 dX7_ask_15 ll_X7_132 ?_
    refine MJ_callS (mm_in _ _ _) dX7_ask_18 ml_X7_109 mkX7_in rfl rfl (Nat.le_of_ble_eq_true rfl) ⟨Nat.le_of_ble_eq_true rfl, Nat.le_of_ble_eq_true rfl⟩ (fun v18 hp18 q18 => ?_)
    obtain ⟨rfl, z18⟩ := q18
    rw [z18]
    refine MJ_if_eq (tgt := 90) dX7_ask_21 (by decide) (fun c21 => ?_) (fun c21 => ?_)
    · refine MJ_ldc dX7_ask_90 lc_X7_140 ?_
      exact MJ_ireturn dX7_ask_92 rfl (out (bad (Or.inl (by unfold askOK; rw [bi_0.mp c21]; simp))))
    · refine MJ_iload_n dX7_ask_24 rfl rfl ?_
      refine MJ_i2l dX7_ask_25 ?_
      refine MJ_lconst (v := 0) dX7_ask_26 (by decide) ?_
      refine MJ_ldc2 dX7_ask_27 ll_X7_134 ?_
      refine MJ_callS (mm_in _ _ _) dX7_ask_30 ml_X7_109 mkX7_in rfl rfl (Nat.le_of_ble_eq_true rfl) ⟨Nat.le_of_ble_eq_true rfl, Nat.le_of_ble_eq_true rfl⟩ (fun v30 hp30 q30 => ?_)
      obtain ⟨rfl, z30⟩ := q30
      rw [z30]
      refine MJ_if_eq (tgt := 90) dX7_ask_33 (by decide) (fun c33 => ?_) (fun c33 => ?_)
      · refine MJ_ldc dX7_ask_90 lc_X7_140 ?_
        exact MJ_ireturn dX7_ask_92 rfl (out (bad (Or.inl (by unfold askOK; rw [bi_0.mp c33]; simp))))
      · refine MJ_iload dX7_ask_36 rfl ?_
        refine MJ_i2l dX7_ask_38 ?_
        refine MJ_lconst (v := 0) dX7_ask_39 (by decide) ?_
        refine MJ_ldc2 dX7_ask_40 ll_X7_130 ?_
        refine MJ_callS (mm_in _ _ _) dX7_ask_43 ml_X7_109 mkX7_in rfl rfl (Nat.le_of_ble_eq_true rfl) ⟨Nat.le_of_ble_eq_true rfl, Nat.le_of_ble_eq_true rfl⟩ (fun v43 hp43 q43 => ?_)
        obtain ⟨rfl, z43⟩ := q43
        rw [z43]
        refine MJ_if_eq (tgt := 90) dX7_ask_46 (by decide) (fun c46 => ?_) (fun c46 => ?_)
        · refine MJ_ldc dX7_ask_90 lc_X7_140 ?_
          exact MJ_ireturn dX7_ask_92 rfl (out (bad (Or.inl (by unfold askOK; rw [bi_0.mp c46]; simp))))
        · refine MJ_iload dX7_ask_49 rfl ?_
          refine MJ_i2l dX7_ask_51 ?_
          refine MJ_lconst (v := 0) dX7_ask_52 (by decide) ?_
          refine MJ_ldc2 dX7_ask_53 ll_X7_130 ?_
          refine MJ_callS (mm_in _ _ _) dX7_ask_56 ml_X7_109 mkX7_in rfl rfl (Nat.le_of_ble_eq_true rfl) ⟨Nat.le_of_ble_eq_true rfl, Nat.le_of_ble_eq_true rfl⟩ (fun v56 hp56 q56 => ?_)
          obtain ⟨rfl, z56⟩ := q56
          rw [z56]
          refine MJ_if_eq (tgt := 90) dX7_ask_59 (by decide) (fun c59 => ?_) (fun c59 => ?_)
          · refine MJ_ldc dX7_ask_90 lc_X7_140 ?_
            exact MJ_ireturn dX7_ask_92 rfl (out (bad (Or.inl (by unfold askOK; rw [bi_0.mp c59]; simp))))
          · refine MJ_iload dX7_ask_62 rfl ?_
            refine MJ_i2l dX7_ask_64 ?_
            refine MJ_lconst (v := 0) dX7_ask_65 (by decide) ?_
            refine MJ_ldc2 dX7_ask_66 ll_X7_132 ?_
            refine MJ_callS (mm_in _ _ _) dX7_ask_69 ml_X7_109 mkX7_in rfl rfl (Nat.le_of_ble_eq_true rfl) ⟨Nat.le_of_ble_eq_true rfl, Nat.le_of_ble_eq_true rfl⟩ (fun v69 hp69 q69 => ?_)
            obtain ⟨rfl, z69⟩ := q69
            rw [z69]
            refine MJ_if_eq (tgt := 90) dX7_ask_72 (by decide) (fun c72 => ?_) (fun c72 => ?_)
            · refine MJ_ldc dX7_ask_90 lc_X7_140 ?_
              exact MJ_ireturn dX7_ask_92 rfl (out (bad (Or.inl (by unfold askOK; rw [bi_0.mp c72]; simp))))
            · refine MJ_iload dX7_ask_75 rfl ?_
              refine MJ_i2l dX7_ask_77 ?_
              refine MJ_ldc2 dX7_ask_78 ll_X7_136 ?_
              refine MJ_ldc2 dX7_ask_81 ll_X7_138 ?_
              refine MJ_callS (mm_in _ _ _) dX7_ask_84 ml_X7_109 mkX7_in rfl rfl (Nat.le_of_ble_eq_true rfl) ⟨Nat.le_of_ble_eq_true rfl, Nat.le_of_ble_eq_true rfl⟩ (fun v84 hp84 q84 => ?_)
              obtain ⟨rfl, z84⟩ := q84
              rw [z84]
              refine MJ_if_ne (tgt := 93) dX7_ask_87 (by decide) (fun c87 => ?_) (fun c87 => ?_)
              · have ok : askOK a s k p q t m = true := by unfold askOK; rw [bi_1.mp c9, bi_1.mp c21, bi_1.mp c33, bi_1.mp c46, bi_1.mp c59, bi_1.mp c72, bi_1.mp c87]; rfl
                refine MJ_iload_n dX7_ask_93 rfl rfl ?_
                refine MJ_iconst (v := 2) dX7_ask_94 (by decide) ?_
                refine MJ_icmp_eq (tgt := 103) dX7_ask_95 (by decide) (fun c95 => ?_) (fun c95 => ?_)
                · refine MJ_iload dX7_ask_103 rfl ?_
                  refine MJ_if_lt (tgt := 119) dX7_ask_105 (by decide) (fun c105 => ?_) (fun c105 => ?_)
                  · refine MJ_ldc dX7_ask_119 lc_X7_140 ?_
                    exact MJ_ireturn dX7_ask_121 rfl (out (bad (Or.inr (Or.inl ⟨Or.inl c95, c105⟩))))
                  · refine MJ_iload_n dX7_ask_108 rfl rfl ?_
                    refine MJ_iconst (v := 4) dX7_ask_109 (by decide) ?_
                    refine MJ_icmp_ne (tgt := 122) dX7_ask_110 (by decide) (fun c110 => ?_) (fun c110 => ?_)
                    · exact MJ_loc _ rfl (tail ok (fun z => z.elim (fun q => c105 q.2) (fun q => c110 q.1)))
                    · refine MJ_iload dX7_ask_113 rfl ?_
                      refine MJ_iconst (v := 1) dX7_ask_115 (by decide) ?_
                      refine MJ_icmp_ge (tgt := 122) dX7_ask_116 (by decide) (fun c116 => ?_) (fun c116 => ?_)
                      · exact MJ_loc _ rfl (tail ok (fun z => z.elim (fun q => c105 q.2) (fun q => by have := q.2; rw [n_lt] at this; rw [n_le] at c116; omega)))
                      · refine MJ_ldc dX7_ask_119 lc_X7_140 ?_
                        exact MJ_ireturn dX7_ask_121 rfl (out (bad (Or.inr (Or.inr ⟨c110, by rw [n_lt]; rw [n_le] at c116; omega⟩))))
                · refine MJ_iload_n dX7_ask_98 rfl rfl ?_
                  refine MJ_iconst (v := 3) dX7_ask_99 (by decide) ?_
                  refine MJ_icmp_ne (tgt := 108) dX7_ask_100 (by decide) (fun c100 => ?_) (fun c100 => ?_)
                  · refine MJ_iload_n dX7_ask_108 rfl rfl ?_
                    refine MJ_iconst (v := 4) dX7_ask_109 (by decide) ?_
                    refine MJ_icmp_ne (tgt := 122) dX7_ask_110 (by decide) (fun c110 => ?_) (fun c110 => ?_)
                    · exact MJ_loc _ rfl (tail ok (fun z => z.elim (fun q => q.1.elim c95 c100) (fun q => c110 q.1)))
                    · refine MJ_iload dX7_ask_113 rfl ?_
                      refine MJ_iconst (v := 1) dX7_ask_115 (by decide) ?_
                      refine MJ_icmp_ge (tgt := 122) dX7_ask_116 (by decide) (fun c116 => ?_) (fun c116 => ?_)
                      · exact MJ_loc _ rfl (tail ok (fun z => z.elim (fun q => q.1.elim c95 c100) (fun q => by have := q.2; rw [n_lt] at this; rw [n_le] at c116; omega)))
                      · refine MJ_ldc dX7_ask_119 lc_X7_140 ?_
                        exact MJ_ireturn dX7_ask_121 rfl (out (bad (Or.inr (Or.inr ⟨c110, by rw [n_lt]; rw [n_le] at c116; omega⟩))))
                  · refine MJ_iload dX7_ask_103 rfl ?_
                    refine MJ_if_lt (tgt := 119) dX7_ask_105 (by decide) (fun c105 => ?_) (fun c105 => ?_)
                    · refine MJ_ldc dX7_ask_119 lc_X7_140 ?_
                      exact MJ_ireturn dX7_ask_121 rfl (out (bad (Or.inr (Or.inl ⟨Or.inr c100, c105⟩))))
                    · refine MJ_iload_n dX7_ask_108 rfl rfl ?_
                      refine MJ_iconst (v := 4) dX7_ask_109 (by decide) ?_
                      refine MJ_icmp_ne (tgt := 122) dX7_ask_110 (by decide) (fun c110 => ?_) (fun c110 => ?_)
                      · exact MJ_loc _ rfl (tail ok (fun z => z.elim (fun q => c105 q.2) (fun q => c110 q.1)))
                      · refine MJ_iload dX7_ask_113 rfl ?_
                        refine MJ_iconst (v := 1) dX7_ask_115 (by decide) ?_
                        refine MJ_icmp_ge (tgt := 122) dX7_ask_116 (by decide) (fun c116 => ?_) (fun c116 => ?_)
                        · exact MJ_loc _ rfl (tail ok (fun z => z.elim (fun q => c105 q.2) (fun q => by have := q.2; rw [n_lt] at this; rw [n_le] at c116; omega)))
                        · refine MJ_ldc dX7_ask_119 lc_X7_140 ?_
                          exact MJ_ireturn dX7_ask_121 rfl (out (bad (Or.inr (Or.inr ⟨c110, by rw [n_lt]; rw [n_le] at c116; omega⟩))))
              · refine MJ_ldc dX7_ask_90 lc_X7_140 ?_
                exact MJ_ireturn dX7_ask_92 rfl (out (bad (Or.inl (by unfold askOK; rw [bi_0.mp c87]; simp))))
end P1
