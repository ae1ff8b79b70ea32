section M2
variable {x : om_x} {y : om_y} {S : Ms}
set_option maxRecDepth 100000 in
set_option maxHeartbeats 4000000 in
theorem mm_send {ask : Int32} {ans : Bool} {v : Int64} (hW : WF1 S) (ha : inN ask (nA S) = true) : MM x y 1 kX7_send [.ref y.1, .int ask, .int (bi ans), .long v] S (fun z S' => z = none ∧ S' = sendF S ask ans v) := by
  refine MM.ofJ mkX7_send.1 (Nat.le_of_ble_eq_true rfl) fun h0 => ?_
  have hnm := (hW.ask ha).1
  have ha3 := inN_le ha (Nat.le_of_lt_succ (inN_tn hW.1.1).2.1)
  have hl : inN (mI S 468) 121 = true := hW.1.2.1
  refine MJ_aload_n dX7_send_0 rfl rfl isR_r ?_
  refine MJ_getI dX7_send_1 g_X7_117 ?_
  refine MJ_if_eq (tgt := 8) dX7_send_4 (by decide) (fun c4 => ?_) (fun c4 => ?_)
  · refine MJ_aload_n dX7_send_8 rfl rfl isR_r ?_
    refine MJ_dup dX7_send_9 rfl ?_
    refine MJ_getI dX7_send_10 g_X7_121 ?_
    refine MJ_iconst (v := 1) dX7_send_13 (by decide) ?_
    refine MJ_iadd dX7_send_14 ?_
    refine MJ_putI dX7_send_15 p_X7_121 ?_
    refine MJ_aload_n dX7_send_18 rfl rfl isR_r ?_
    refine MJ_getI dX7_send_19 g_X7_124 ?_
    refine MJ_pc (pc' := 22) rfl ?_
    refine MJ_bipush (v := 120) dX7_send_22 (by decide) ?_
    refine MJ_icmp_ne (tgt := 38) dX7_send_24 (by decide) (fun c24 => ?_) (fun c24 => ?_)
    · have c24 : ¬ mI S 468 = 120 := c24
      refine MJ_aload_n dX7_send_38 rfl rfl isR_r ?_
      refine MJ_getA dX7_send_39 g_X7_66 (by decide) ?_
      refine MJ_aload_n dX7_send_42 rfl rfl isR_r ?_
      refine MJ_getI dX7_send_43 g_X7_124 ?_
      refine MJ_iload_n dX7_send_46 rfl rfl ?_
      refine MJ_iast dX7_send_47 (inx_v hl) (by decide) ?_
      refine MJ_aload_n dX7_send_48 rfl rfl isR_r ?_
      refine MJ_getA dX7_send_49 g_X7_69 (by decide) ?_
      refine MJ_pc (pc' := 52) rfl ?_
      refine MJ_aload_n dX7_send_52 rfl rfl isR_r ?_
      refine MJ_getI dX7_send_53 g_X7_124 ?_
      refine MJ_iload_n dX7_send_56 rfl rfl ?_
      refine MJ_zast dX7_send_57 (inx_v hl) bi_01 (by decide) ?_
      refine MJ_aload_n dX7_send_58 rfl rfl isR_r ?_
      refine MJ_getA dX7_send_59 g_X7_72 (by decide) ?_
      refine MJ_aload_n dX7_send_62 rfl rfl isR_r ?_
      refine MJ_getI dX7_send_63 g_X7_124 ?_
      refine MJ_pc (pc' := 66) rfl ?_
      refine MJ_iload_n dX7_send_66 rfl rfl ?_
      refine MJ_if_eq (tgt := 74) dX7_send_67 (by decide) (fun c67 => ?_) (fun c67 => ?_)
      · refine MJ_aload_n dX7_send_74 rfl rfl isR_r ?_
        refine MJ_aload_n dX7_send_75 rfl rfl isR_r ?_
        refine MJ_getA dX7_send_76 g_X7_24 (by decide) ?_
        refine MJ_iload_n dX7_send_79 rfl rfl ?_
        refine MJ_iald dX7_send_80 (inx_v ha3) (by decide) ?_
        refine MJ_callV (mm_lowest hnm hW.1.1) dX7_send_81 ml_X7_113 mkX7_lowest rfl rfl rfl (Nat.le_of_ble_eq_true rfl) ⟨Nat.le_of_ble_eq_true rfl, Nat.le_of_ble_eq_true rfl⟩ (fun v81 hp81 q81 => ?_)
        obtain ⟨rfl, z81⟩ := q81
        rw [z81]
        rw [lowS_pT (by decide), lowS_pT (by decide), lowS_pI (by decide)]
        refine MJ_iast dX7_send_84 (inx_v hl) (by decide) ?_
        refine MJ_aload_n dX7_send_85 rfl rfl isR_r ?_
        refine MJ_pc (pc' := 86) rfl ?_
        refine MJ_getA dX7_send_86 g_X7_75 (by decide) ?_
        refine MJ_aload_n dX7_send_89 rfl rfl isR_r ?_
        refine MJ_getI dX7_send_90 g_X7_124 ?_
        refine MJ_lload_n dX7_send_93 rfl rfl ?_
        refine MJ_last dX7_send_94 (inx_v hl) (by decide) ?_
        refine MJ_aload_n dX7_send_95 rfl rfl isR_r ?_
        refine MJ_getA dX7_send_96 g_X7_78 (by decide) ?_
        refine MJ_aload_n dX7_send_99 rfl rfl isR_r ?_
        refine MJ_pc (pc' := 100) rfl ?_
        refine MJ_getI dX7_send_100 g_X7_124 ?_
        refine MJ_iconst (v := 0) dX7_send_103 (by decide) ?_
        refine MJ_zast dX7_send_104 (inx_v hl) (by first | exact Or.inl rfl | exact Or.inr rfl) (by decide) ?_
        refine MJ_aload_n dX7_send_105 rfl rfl isR_r ?_
        refine MJ_dup dX7_send_106 rfl ?_
        refine MJ_getI dX7_send_107 g_X7_124 ?_
        refine MJ_iconst (v := 1) dX7_send_110 (by decide) ?_
        refine MJ_iadd dX7_send_111 ?_
        refine MJ_pc (pc' := 112) rfl ?_
        refine MJ_putI dX7_send_112 p_X7_124 ?_
        have e : ans = false := bi_0.mp c67
        subst e
        exact MJ_return dX7_send_115 rfl ⟨rfl, by unfold sendF; rw [if_neg (by simpa using c4), if_neg c24]; rfl⟩
      · refine MJ_iconst (v := -1) dX7_send_70 (by decide) ?_
        refine MJ_goto (tgt := 84) dX7_send_71 (by decide) ?_
        refine MJ_iast dX7_send_84 (inx_v hl) (by decide) ?_
        refine MJ_aload_n dX7_send_85 rfl rfl isR_r ?_
        refine MJ_getA dX7_send_86 g_X7_75 (by decide) ?_
        refine MJ_aload_n dX7_send_89 rfl rfl isR_r ?_
        refine MJ_getI dX7_send_90 g_X7_124 ?_
        refine MJ_lload_n dX7_send_93 rfl rfl ?_
        refine MJ_last dX7_send_94 (inx_v hl) (by decide) ?_
        refine MJ_pc (pc' := 95) rfl ?_
        refine MJ_aload_n dX7_send_95 rfl rfl isR_r ?_
        refine MJ_getA dX7_send_96 g_X7_78 (by decide) ?_
        refine MJ_aload_n dX7_send_99 rfl rfl isR_r ?_
        refine MJ_getI dX7_send_100 g_X7_124 ?_
        refine MJ_iconst (v := 0) dX7_send_103 (by decide) ?_
        refine MJ_zast dX7_send_104 (inx_v hl) (by first | exact Or.inl rfl | exact Or.inr rfl) (by decide) ?_
        refine MJ_aload_n dX7_send_105 rfl rfl isR_r ?_
        refine MJ_dup dX7_send_106 rfl ?_
        refine MJ_pc (pc' := 107) rfl ?_
        refine MJ_getI dX7_send_107 g_X7_124 ?_
        refine MJ_iconst (v := 1) dX7_send_110 (by decide) ?_
        refine MJ_iadd dX7_send_111 ?_
        refine MJ_putI dX7_send_112 p_X7_124 ?_
        have e : ans = true := bi_1.mp c67
        subst e
        exact MJ_return dX7_send_115 rfl ⟨rfl, by unfold sendF; rw [if_neg (by simpa using c4), if_neg c24]; rfl⟩
    · refine MJ_aload_n dX7_send_27 rfl rfl isR_r ?_
      refine MJ_dup dX7_send_28 rfl ?_
      refine MJ_getI dX7_send_29 g_X7_127 ?_
      refine MJ_iconst (v := 1) dX7_send_32 (by decide) ?_
      refine MJ_iadd dX7_send_33 ?_
      refine MJ_putI dX7_send_34 p_X7_127 ?_
      exact MJ_return dX7_send_37 rfl ⟨rfl, by unfold sendF; rw [if_neg (by simpa using c4)]; have c24 : mI S 468 = 120 := c24; rw [if_pos c24]; rfl⟩
  · exact MJ_return dX7_send_7 rfl ⟨rfl, by unfold sendF; rw [if_pos c4]⟩
set_option maxRecDepth 100000 in
set_option maxHeartbeats 4000000 in
theorem mm_newAsk {n sv kind a b t amt far : Int32} (hW : WF1 S) (hn : inN n 10 = true) (hr : nA S < 300) : MM x y 0 kX7_newAsk [.ref y.1, .int n, .int sv, .int kind, .int a, .int b, .int t, .int amt, .int far] S (fun z S' => z = some (.int (mI S 453)) ∧ S' = newAskF S n sv kind a b t amt far) := by
  refine MM.ofJ mkX7_newAsk.1 (Nat.le_of_ble_eq_true rfl) fun h0 => ?_
  have ha : inN (mI S 453) 300 = true := by
    have h1 := inN_tn hW.1.1
    rw [h1.1, inN_nI h1.2.2, decide_eq_true_iff]
    exact hr
  refine MJ_aload_n dX7_newAsk_0 rfl rfl isR_r ?_
  refine MJ_getI dX7_newAsk_1 g_X7_106 ?_
  refine MJ_istore dX7_newAsk_4 (by decide) ?_
  refine MJ_aload_n dX7_newAsk_6 rfl rfl isR_r ?_
  refine MJ_dup dX7_newAsk_7 rfl ?_
  refine MJ_getI dX7_newAsk_8 g_X7_106 ?_
  refine MJ_iconst (v := 1) dX7_newAsk_11 (by decide) ?_
  refine MJ_iadd dX7_newAsk_12 ?_
  refine MJ_pc (pc' := 13) rfl ?_
  refine MJ_putI dX7_newAsk_13 p_X7_106 ?_
  refine MJ_aload_n dX7_newAsk_16 rfl rfl isR_r ?_
  refine MJ_getA dX7_newAsk_17 g_X7_24 (by decide) ?_
  refine MJ_iload dX7_newAsk_20 rfl ?_
  refine MJ_iload_n dX7_newAsk_22 rfl rfl ?_
  refine MJ_iast dX7_newAsk_23 (inx_v ha) (by decide) ?_
  refine MJ_aload_n dX7_newAsk_24 rfl rfl isR_r ?_
  refine MJ_getA dX7_newAsk_25 g_X7_27 (by decide) ?_
  refine MJ_pc (pc' := 28) rfl ?_
  refine MJ_iload dX7_newAsk_28 rfl ?_
  refine MJ_aload_n dX7_newAsk_30 rfl rfl isR_r ?_
  refine MJ_getA dX7_newAsk_31 g_X7_13 (by decide) ?_
  refine MJ_iload_n dX7_newAsk_34 rfl rfl ?_
  refine MJ_iald dX7_newAsk_35 (inx_v hn) (by decide) ?_
  refine MJ_iast dX7_newAsk_36 (inx_v ha) (by decide) ?_
  refine MJ_aload_n dX7_newAsk_37 rfl rfl isR_r ?_
  refine MJ_getA dX7_newAsk_38 g_X7_30 (by decide) ?_
  refine MJ_pc (pc' := 41) rfl ?_
  refine MJ_iload dX7_newAsk_41 rfl ?_
  refine MJ_aload_n dX7_newAsk_43 rfl rfl isR_r ?_
  refine MJ_getA dX7_newAsk_44 g_X7_17 (by decide) ?_
  refine MJ_iload_n dX7_newAsk_47 rfl rfl ?_
  refine MJ_iald dX7_newAsk_48 (inx_v hn) (by decide) ?_
  refine MJ_iast dX7_newAsk_49 (inx_v ha) (by decide) ?_
  refine MJ_aload_n dX7_newAsk_50 rfl rfl isR_r ?_
  refine MJ_getA dX7_newAsk_51 g_X7_17 (by decide) ?_
  refine MJ_pc (pc' := 54) rfl ?_
  refine MJ_iload_n dX7_newAsk_54 rfl rfl ?_
  refine MJ_dup2 dX7_newAsk_55 rfl rfl ?_
  refine MJ_iald dX7_newAsk_56 (inx_v hn) (by decide) ?_
  refine MJ_iconst (v := 1) dX7_newAsk_57 (by decide) ?_
  refine MJ_iadd dX7_newAsk_58 ?_
  refine MJ_iast dX7_newAsk_59 (inx_v hn) (by decide) ?_
  refine MJ_aload_n dX7_newAsk_60 rfl rfl isR_r ?_
  refine MJ_getA dX7_newAsk_61 g_X7_33 (by decide) ?_
  refine MJ_pc (pc' := 64) rfl ?_
  refine MJ_iload dX7_newAsk_64 rfl ?_
  refine MJ_iload_n dX7_newAsk_66 rfl rfl ?_
  refine MJ_iast dX7_newAsk_67 (inx_v ha) (by decide) ?_
  refine MJ_aload_n dX7_newAsk_68 rfl rfl isR_r ?_
  refine MJ_getA dX7_newAsk_69 g_X7_36 (by decide) ?_
  refine MJ_iload dX7_newAsk_72 rfl ?_
  refine MJ_iload_n dX7_newAsk_74 rfl rfl ?_
  refine MJ_iast dX7_newAsk_75 (inx_v ha) (by decide) ?_
  refine MJ_pc (pc' := 76) rfl ?_
  refine MJ_aload_n dX7_newAsk_76 rfl rfl isR_r ?_
  refine MJ_getA dX7_newAsk_77 g_X7_39 (by decide) ?_
  refine MJ_iload dX7_newAsk_80 rfl ?_
  refine MJ_iload dX7_newAsk_82 rfl ?_
  refine MJ_iast dX7_newAsk_84 (inx_v ha) (by decide) ?_
  refine MJ_aload_n dX7_newAsk_85 rfl rfl isR_r ?_
  refine MJ_getA dX7_newAsk_86 g_X7_42 (by decide) ?_
  refine MJ_iload dX7_newAsk_89 rfl ?_
  refine MJ_pc (pc' := 91) rfl ?_
  refine MJ_iload dX7_newAsk_91 rfl ?_
  refine MJ_iast dX7_newAsk_93 (inx_v ha) (by decide) ?_
  refine MJ_aload_n dX7_newAsk_94 rfl rfl isR_r ?_
  refine MJ_getA dX7_newAsk_95 g_X7_45 (by decide) ?_
  refine MJ_iload dX7_newAsk_98 rfl ?_
  refine MJ_iload dX7_newAsk_100 rfl ?_
  refine MJ_iast dX7_newAsk_102 (inx_v ha) (by decide) ?_
  refine MJ_aload_n dX7_newAsk_103 rfl rfl isR_r ?_
  refine MJ_pc (pc' := 104) rfl ?_
  refine MJ_getA dX7_newAsk_104 g_X7_48 (by decide) ?_
  refine MJ_iload dX7_newAsk_107 rfl ?_
  refine MJ_iload dX7_newAsk_109 rfl ?_
  refine MJ_iast dX7_newAsk_111 (inx_v ha) (by decide) ?_
  refine MJ_aload_n dX7_newAsk_112 rfl rfl isR_r ?_
  refine MJ_getA dX7_newAsk_113 g_X7_51 (by decide) ?_
  refine MJ_iload dX7_newAsk_116 rfl ?_
  refine MJ_iconst (v := 0) dX7_newAsk_118 (by decide) ?_
  refine MJ_pc (pc' := 119) rfl ?_
  refine MJ_iast dX7_newAsk_119 (inx_v ha) (by decide) ?_
  refine MJ_aload_n dX7_newAsk_120 rfl rfl isR_r ?_
  refine MJ_getA dX7_newAsk_121 g_X7_57 (by decide) ?_
  refine MJ_iload dX7_newAsk_124 rfl ?_
  refine MJ_iload dX7_newAsk_126 rfl ?_
  refine MJ_iast dX7_newAsk_128 (inx_v ha) (by decide) ?_
  refine MJ_aload_n dX7_newAsk_129 rfl rfl isR_r ?_
  refine MJ_getA dX7_newAsk_130 g_X7_60 (by decide) ?_
  refine MJ_pc (pc' := 133) rfl ?_
  refine MJ_iload dX7_newAsk_133 rfl ?_
  refine MJ_iconst (v := -1) dX7_newAsk_135 (by decide) ?_
  refine MJ_iast dX7_newAsk_136 (inx_v ha) (by decide) ?_
  refine MJ_iload dX7_newAsk_137 rfl ?_
  exact MJ_ireturn dX7_newAsk_139 rfl ⟨rfl, rfl⟩
theorem fnd_bound {o num : Int32} {k : Nat} (hW : WF1 S) (h : fnd S o num = some k) : k < 700 := by
  have h1 := (fnd_lt h).1
  have h2 := (inN_tn hW.1.2.2).2.1
  unfold nR at h1
  omega
set_option maxRecDepth 100000 in
set_option maxHeartbeats 4000000 in
theorem mm_putRecord {o num st own : Int32} {v : Int64} (hW : WF1 S) (hr : nR S < 700) : MM x y 1 kX7_putRecord [.ref y.1, .int o, .int num, .int st, .long v, .int own] S (fun z S' => z = none ∧ S' = putRecF S o num st v own) := by
  refine MM.ofJ mkX7_putRecord.1 (Nat.le_of_ble_eq_true rfl) fun h0 => ?_
  have hR : inN (mI S 476) 700 = true := by
    have h1 := inN_tn hW.1.2.2
    rw [h1.1, inN_nI h1.2.2, decide_eq_true_iff]
    exact hr
  cases hf : fnd S o num with
  | none =>
    refine MJ_aload_n dX7_putRecord_0 rfl rfl isR_r ?_
    refine MJ_iload_n dX7_putRecord_1 rfl rfl ?_
    refine MJ_iload_n dX7_putRecord_2 rfl rfl ?_
    refine MJ_callV (mm_findRecord hW.1.2.2) dX7_putRecord_3 ml_X7_169 mkX7_findRecord rfl rfl rfl (Nat.le_of_ble_eq_true rfl) ⟨Nat.le_of_ble_eq_true rfl, Nat.le_of_ble_eq_true rfl⟩ (fun v3 hp3 q3 => ?_)
    obtain ⟨rfl, z3⟩ := q3
    rw [z3]
    refine MJ_istore dX7_putRecord_6 (by decide) ?_
    refine MJ_iload dX7_putRecord_8 rfl ?_
    refine MJ_if_ge (tgt := 29) dX7_putRecord_10 (by decide) (fun c10 => ((show False by rw [hf] at c10; exact absurd c10 (by decide))).elim) (fun c10 => ?_)
    refine MJ_aload_n dX7_putRecord_13 rfl rfl isR_r ?_
    refine MJ_getI dX7_putRecord_14 g_X7_166 ?_
    refine MJ_pc (pc' := 17) rfl ?_
    refine MJ_istore dX7_putRecord_17 (by decide) ?_
    refine MJ_aload_n dX7_putRecord_19 rfl rfl isR_r ?_
    refine MJ_dup dX7_putRecord_20 rfl ?_
    refine MJ_getI dX7_putRecord_21 g_X7_166 ?_
    refine MJ_iconst (v := 1) dX7_putRecord_24 (by decide) ?_
    refine MJ_iadd dX7_putRecord_25 ?_
    refine MJ_putI dX7_putRecord_26 p_X7_166 ?_
    refine MJ_aload_n dX7_putRecord_29 rfl rfl isR_r ?_
    refine MJ_pc (pc' := 30) rfl ?_
    refine MJ_getA dX7_putRecord_30 g_X7_87 (by decide) ?_
    refine MJ_iload dX7_putRecord_33 rfl ?_
    refine MJ_iload_n dX7_putRecord_35 rfl rfl ?_
    refine MJ_iast dX7_putRecord_36 (inx_v hR) (by decide) ?_
    refine MJ_aload_n dX7_putRecord_37 rfl rfl isR_r ?_
    refine MJ_getA dX7_putRecord_38 g_X7_90 (by decide) ?_
    refine MJ_iload dX7_putRecord_41 rfl ?_
    refine MJ_iload_n dX7_putRecord_43 rfl rfl ?_
    refine MJ_pc (pc' := 44) rfl ?_
    refine MJ_iast dX7_putRecord_44 (inx_v hR) (by decide) ?_
    refine MJ_aload_n dX7_putRecord_45 rfl rfl isR_r ?_
    refine MJ_getA dX7_putRecord_46 g_X7_93 (by decide) ?_
    refine MJ_iload dX7_putRecord_49 rfl ?_
    refine MJ_iload_n dX7_putRecord_51 rfl rfl ?_
    refine MJ_iast dX7_putRecord_52 (inx_v hR) (by decide) ?_
    refine MJ_aload_n dX7_putRecord_53 rfl rfl isR_r ?_
    refine MJ_getA dX7_putRecord_54 g_X7_96 (by decide) ?_
    refine MJ_pc (pc' := 57) rfl ?_
    refine MJ_iload dX7_putRecord_57 rfl ?_
    refine MJ_lload dX7_putRecord_59 rfl ?_
    refine MJ_last dX7_putRecord_61 (inx_v hR) (by decide) ?_
    refine MJ_aload_n dX7_putRecord_62 rfl rfl isR_r ?_
    refine MJ_getA dX7_putRecord_63 g_X7_99 (by decide) ?_
    refine MJ_iload dX7_putRecord_66 rfl ?_
    refine MJ_iload dX7_putRecord_68 rfl ?_
    refine MJ_iast dX7_putRecord_70 (inx_v hR) (by decide) ?_
    refine MJ_pc (pc' := 71) rfl ?_
    exact MJ_return dX7_putRecord_71 rfl ⟨rfl, by unfold putRecF; rw [hf]; rfl⟩
  | some k =>
    have hk := fnd_bound hW hf
    refine MJ_aload_n dX7_putRecord_0 rfl rfl isR_r ?_
    refine MJ_iload_n dX7_putRecord_1 rfl rfl ?_
    refine MJ_iload_n dX7_putRecord_2 rfl rfl ?_
    refine MJ_callV (mm_findRecord hW.1.2.2) dX7_putRecord_3 ml_X7_169 mkX7_findRecord rfl rfl rfl (Nat.le_of_ble_eq_true rfl) ⟨Nat.le_of_ble_eq_true rfl, Nat.le_of_ble_eq_true rfl⟩ (fun v3 hp3 q3 => ?_)
    obtain ⟨rfl, z3⟩ := q3
    rw [z3]
    rw [hf]
    refine MJ_istore dX7_putRecord_6 (by decide) ?_
    refine MJ_iload dX7_putRecord_8 rfl ?_
    refine MJ_if_ge (tgt := 29) dX7_putRecord_10 (by decide) (fun c10 => ?_) (fun c10 => ((c10 (nI_pos' (by omega)))).elim)
    refine MJ_aload_n dX7_putRecord_29 rfl rfl isR_r ?_
    refine MJ_getA dX7_putRecord_30 g_X7_87 (by decide) ?_
    refine MJ_pc (pc' := 33) rfl ?_
    refine MJ_iload dX7_putRecord_33 rfl ?_
    refine MJ_iload_n dX7_putRecord_35 rfl rfl ?_
    refine MJ_iast dX7_putRecord_36 (inx_n (show k < 700 from hk) (by decide)) (by decide) ?_
    refine MJ_aload_n dX7_putRecord_37 rfl rfl isR_r ?_
    refine MJ_getA dX7_putRecord_38 g_X7_90 (by decide) ?_
    refine MJ_iload dX7_putRecord_41 rfl ?_
    refine MJ_iload_n dX7_putRecord_43 rfl rfl ?_
    refine MJ_iast dX7_putRecord_44 (inx_n (show k < 700 from hk) (by decide)) (by decide) ?_
    refine MJ_pc (pc' := 45) rfl ?_
    refine MJ_aload_n dX7_putRecord_45 rfl rfl isR_r ?_
    refine MJ_getA dX7_putRecord_46 g_X7_93 (by decide) ?_
    refine MJ_iload dX7_putRecord_49 rfl ?_
    refine MJ_iload_n dX7_putRecord_51 rfl rfl ?_
    refine MJ_iast dX7_putRecord_52 (inx_n (show k < 700 from hk) (by decide)) (by decide) ?_
    refine MJ_aload_n dX7_putRecord_53 rfl rfl isR_r ?_
    refine MJ_getA dX7_putRecord_54 g_X7_96 (by decide) ?_
    refine MJ_iload dX7_putRecord_57 rfl ?_
    refine MJ_pc (pc' := 59) rfl ?_
    refine MJ_lload dX7_putRecord_59 rfl ?_
    refine MJ_last dX7_putRecord_61 (inx_n (show k < 700 from hk) (by decide)) (by decide) ?_
    refine MJ_aload_n dX7_putRecord_62 rfl rfl isR_r ?_
    refine MJ_getA dX7_putRecord_63 g_X7_99 (by decide) ?_
    refine MJ_iload dX7_putRecord_66 rfl ?_
    refine MJ_iload dX7_putRecord_68 rfl ?_
    refine MJ_iast dX7_putRecord_70 (inx_n (show k < 700 from hk) (by decide)) (by decide) ?_
    exact MJ_return dX7_putRecord_71 rfl ⟨rfl, by unfold putRecF; rw [hf]; rfl⟩
end M2
