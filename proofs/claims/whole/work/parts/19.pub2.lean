section P2
variable {x : om_x} {y : om_y} {S : Ms}
def againP (S : Ms) (a : Int32) : Int32 × Ms :=
  if inN a (nA S) = false then (-2000001, S) else if mT S 463 (tn a) ≠ 0 ∨ mT S 449 (tn (mT S 454 (tn a))) ≠ 0 then (-2000002, S)
  else if mI S 468 = 120 then (-2000003, S) else (mI (sendF S a false 0) 468, sendF S a false 0)
set_option maxRecDepth 100000 in
set_option maxHeartbeats 4000000 in
theorem mp_again {a : Int32} (hW : WF1 S) : MM x y 2 kX7_again [.ref y.1, .int a] S (fun z S' => z = some (.int (againP S a).1) ∧ S' = (againP S a).2) := by
  refine MM.ofJ mkX7_again.1 (Nat.le_of_ble_eq_true rfl) fun h0 => ?_
  unfold againP
  cases ha : inN a (nA S) with
  | false =>
    refine MJ_aload_n dX7_again_0 rfl rfl isR_r ?_
    refine MJ_iload_n dX7_again_1 rfl rfl ?_
    refine MJ_callV (mm_isAsk hW.1.1) dX7_again_2 ml_X7_155 mkX7_isAsk rfl rfl rfl (Nat.le_of_ble_eq_true rfl) ⟨Nat.le_of_ble_eq_true rfl, Nat.le_of_ble_eq_true rfl⟩ (fun v2 hp2 q2 => ?_)
    obtain ⟨rfl, z2⟩ := q2
    rw [z2]
    refine MJ_if_ne (tgt := 11) dX7_again_5 (by decide) (fun c5 => ((c5 (by rw [ha]; rfl))).elim) (fun c5 => ?_)
    refine MJ_ldc dX7_again_8 lc_X7_140 ?_
    exact MJ_ireturn dX7_again_10 rfl ⟨rfl, rfl⟩
  | true =>
    have ha3 := hW.le300 ha
    rw [if_neg (by decide)]
    refine MJ_aload_n dX7_again_0 rfl rfl isR_r ?_
    refine MJ_iload_n dX7_again_1 rfl rfl ?_
    refine MJ_callV (mm_isAsk hW.1.1) dX7_again_2 ml_X7_155 mkX7_isAsk rfl rfl rfl (Nat.le_of_ble_eq_true rfl) ⟨Nat.le_of_ble_eq_true rfl, Nat.le_of_ble_eq_true rfl⟩ (fun v2 hp2 q2 => ?_)
    obtain ⟨rfl, z2⟩ := q2
    rw [z2]
    refine MJ_if_ne (tgt := 11) dX7_again_5 (by decide) (fun c5 => ?_) (fun c5 => ((show False by rw [ha] at c5; exact absurd c5 (by decide))).elim)
    refine MJ_aload_n dX7_again_11 rfl rfl isR_r ?_
    refine MJ_getA dX7_again_12 g_X7_51 (by decide) ?_
    refine MJ_iload_n dX7_again_15 rfl rfl ?_
    refine MJ_iald dX7_again_16 (inx_v ha3) (by decide) ?_
    refine MJ_if_ne (tgt := 34) dX7_again_17 (by decide) (fun c17 => ?_) (fun c17 => ?_)
    · refine MJ_ldc dX7_again_34 lc_X7_141 ?_
      exact MJ_ireturn dX7_again_36 rfl ⟨by rw [if_pos (Or.inl c17)], by rw [if_pos (Or.inl c17)]⟩
    · refine MJ_aload_n dX7_again_20 rfl rfl isR_r ?_
      refine MJ_getA dX7_again_21 g_X7_7 (by decide) ?_
      refine MJ_aload_n dX7_again_24 rfl rfl isR_r ?_
      refine MJ_getA dX7_again_25 g_X7_24 (by decide) ?_
      refine MJ_iload_n dX7_again_28 rfl rfl ?_
      refine MJ_iald dX7_again_29 (inx_v ha3) (by decide) ?_
      refine MJ_zald dX7_again_30 (inx_v (hW.ask ha).1) (by decide) ?_
      refine MJ_if_eq (tgt := 37) dX7_again_31 (by decide) (fun c31 => ?_) (fun c31 => ?_)
      · rw [if_neg (fun z => z.elim (fun q => q c17) (fun q => q c31))]
        refine MJ_aload_n dX7_again_37 rfl rfl isR_r ?_
        refine MJ_getI dX7_again_38 g_X7_124 ?_
        refine MJ_bipush (v := 120) dX7_again_41 (by decide) ?_
        refine MJ_icmp_ne (tgt := 49) dX7_again_43 (by decide) (fun c43 => ?_) (fun c43 => ?_)
        · refine MJ_aload_n dX7_again_49 rfl rfl isR_r ?_
          refine MJ_iload_n dX7_again_50 rfl rfl ?_
          refine MJ_iconst (v := 0) dX7_again_51 (by decide) ?_
          refine MJ_lconst (v := 0) dX7_again_52 (by decide) ?_
          refine MJ_callV (mm_send (ans := false) hW ha) dX7_again_53 ml_X7_151 mkX7_send rfl rfl rfl (Nat.le_of_ble_eq_true rfl) ⟨Nat.le_of_ble_eq_true rfl, Nat.le_of_ble_eq_true rfl⟩ (fun v53 hp53 q53 => ?_)
          obtain ⟨rfl, z53⟩ := q53
          rw [z53]
          refine MJ_aload_n dX7_again_56 rfl rfl isR_r ?_
          refine MJ_getI dX7_again_57 g_X7_124 ?_
          exact MJ_ireturn dX7_again_60 rfl ⟨by rw [if_neg c43], by rw [if_neg c43]⟩
        · refine MJ_ldc dX7_again_46 lc_X7_146 ?_
          exact MJ_ireturn dX7_again_48 rfl ⟨by rw [if_pos c43], by rw [if_pos c43]⟩
      · refine MJ_ldc dX7_again_34 lc_X7_141 ?_
        exact MJ_ireturn dX7_again_36 rfl ⟨by rw [if_pos (Or.inr c31)], by rw [if_pos (Or.inr c31)]⟩
def toldP (S : Ms) (a w : Int32) : Int32 :=
  if inN a (nA S) = false then -2000001 else if w = 0 then mT S 454 (tn a) else if w = 1 then mT S 455 (tn a) else if w = 2 then mT S 456 (tn a) else if w = 3 then mT S 457 (tn a) else if w = 4 then mT S 458 (tn a) else if w = 5 then mT S 463 (tn a) else if w = 6 then mT S 465 (tn a) else if w = 7 then mT S 466 (tn a) else -2000001
set_option maxRecDepth 100000 in
set_option maxHeartbeats 4000000 in
theorem mp_told {a w : Int32} (hW : WF1 S) : MM x y 2 kX7_told [.ref y.1, .int a, .int w] S (fun z S' => z = some (.int (toldP S a w)) ∧ S' = S) := by
  refine MM.ofJ mkX7_told.1 (Nat.le_of_ble_eq_true rfl) fun h0 => ?_
  unfold toldP
  cases ha : inN a (nA S) with
  | false =>
    refine MJ_aload_n dX7_told_0 rfl rfl isR_r ?_
    refine MJ_iload_n dX7_told_1 rfl rfl ?_
    refine MJ_callV (mm_isAsk hW.1.1) dX7_told_2 ml_X7_155 mkX7_isAsk rfl rfl rfl (Nat.le_of_ble_eq_true rfl) ⟨Nat.le_of_ble_eq_true rfl, Nat.le_of_ble_eq_true rfl⟩ (fun v2 hp2 q2 => ?_)
    obtain ⟨rfl, z2⟩ := q2
    rw [z2]
    refine MJ_if_ne (tgt := 11) dX7_told_5 (by decide) (fun c5 => ((c5 (by rw [ha]; rfl))).elim) (fun c5 => ?_)
    refine MJ_ldc dX7_told_8 lc_X7_140 ?_
    exact MJ_ireturn dX7_told_10 rfl ⟨rfl, rfl⟩
  | true =>
    have ha3 := hW.le300 ha
    rw [if_neg (by decide)]
    refine MJ_aload_n dX7_told_0 rfl rfl isR_r ?_
    refine MJ_iload_n dX7_told_1 rfl rfl ?_
    refine MJ_callV (mm_isAsk hW.1.1) dX7_told_2 ml_X7_155 mkX7_isAsk rfl rfl rfl (Nat.le_of_ble_eq_true rfl) ⟨Nat.le_of_ble_eq_true rfl, Nat.le_of_ble_eq_true rfl⟩ (fun v2 hp2 q2 => ?_)
    obtain ⟨rfl, z2⟩ := q2
    rw [z2]
    refine MJ_if_ne (tgt := 11) dX7_told_5 (by decide) (fun c5 => ?_) (fun c5 => ((show False by rw [ha] at c5; exact absurd c5 (by decide))).elim)
    refine MJ_iload_n dX7_told_11 rfl rfl ?_
    by_cases s12_0 : w = 0
    · refine MJ_st (st' := [.int 0]) (by rw [s12_0] <;> rfl) ?_
      refine MJ_tswIn (off := 48) (tgt := 60) dX7_told_12 (by decide) (by decide) (by decide) (by decide) ?_
      refine MJ_aload_n dX7_told_60 rfl rfl isR_r ?_
      refine MJ_getA dX7_told_61 g_X7_24 (by decide) ?_
      refine MJ_iload_n dX7_told_64 rfl rfl ?_
      refine MJ_iald dX7_told_65 (inx_v ha3) (by decide) ?_
      exact MJ_ireturn dX7_told_66 rfl ⟨by rw [if_pos s12_0], rfl⟩
    -- else
    by_cases s12_1 : w = 1
    · refine MJ_st (st' := [.int 1]) (by rw [s12_1] <;> rfl) ?_
      refine MJ_tswIn (off := 55) (tgt := 67) dX7_told_12 (by decide) (by decide) (by decide) (by decide) ?_
      refine MJ_aload_n dX7_told_67 rfl rfl isR_r ?_
      refine MJ_getA dX7_told_68 g_X7_27 (by decide) ?_
      refine MJ_iload_n dX7_told_71 rfl rfl ?_
      refine MJ_iald dX7_told_72 (inx_v ha3) (by decide) ?_
      exact MJ_ireturn dX7_told_73 rfl ⟨by rw [if_neg s12_0, if_pos s12_1], rfl⟩
    -- else
    by_cases s12_2 : w = 2
    · refine MJ_st (st' := [.int 2]) (by rw [s12_2] <;> rfl) ?_
      refine MJ_tswIn (off := 62) (tgt := 74) dX7_told_12 (by decide) (by decide) (by decide) (by decide) ?_
      refine MJ_aload_n dX7_told_74 rfl rfl isR_r ?_
      refine MJ_getA dX7_told_75 g_X7_30 (by decide) ?_
      refine MJ_iload_n dX7_told_78 rfl rfl ?_
      refine MJ_iald dX7_told_79 (inx_v ha3) (by decide) ?_
      exact MJ_ireturn dX7_told_80 rfl ⟨by rw [if_neg s12_0, if_neg s12_1, if_pos s12_2], rfl⟩
    -- else
    by_cases s12_3 : w = 3
    · refine MJ_st (st' := [.int 3]) (by rw [s12_3] <;> rfl) ?_
      refine MJ_tswIn (off := 69) (tgt := 81) dX7_told_12 (by decide) (by decide) (by decide) (by decide) ?_
      refine MJ_aload_n dX7_told_81 rfl rfl isR_r ?_
      refine MJ_getA dX7_told_82 g_X7_33 (by decide) ?_
      refine MJ_iload_n dX7_told_85 rfl rfl ?_
      refine MJ_iald dX7_told_86 (inx_v ha3) (by decide) ?_
      exact MJ_ireturn dX7_told_87 rfl ⟨by rw [if_neg s12_0, if_neg s12_1, if_neg s12_2, if_pos s12_3], rfl⟩
    -- else
    by_cases s12_4 : w = 4
    · refine MJ_st (st' := [.int 4]) (by rw [s12_4] <;> rfl) ?_
      refine MJ_tswIn (off := 76) (tgt := 88) dX7_told_12 (by decide) (by decide) (by decide) (by decide) ?_
      refine MJ_aload_n dX7_told_88 rfl rfl isR_r ?_
      refine MJ_getA dX7_told_89 g_X7_36 (by decide) ?_
      refine MJ_iload_n dX7_told_92 rfl rfl ?_
      refine MJ_iald dX7_told_93 (inx_v ha3) (by decide) ?_
      exact MJ_ireturn dX7_told_94 rfl ⟨by rw [if_neg s12_0, if_neg s12_1, if_neg s12_2, if_neg s12_3, if_pos s12_4], rfl⟩
    -- else
    by_cases s12_5 : w = 5
    · refine MJ_st (st' := [.int 5]) (by rw [s12_5] <;> rfl) ?_
      refine MJ_tswIn (off := 83) (tgt := 95) dX7_told_12 (by decide) (by decide) (by decide) (by decide) ?_
      refine MJ_aload_n dX7_told_95 rfl rfl isR_r ?_
      refine MJ_getA dX7_told_96 g_X7_51 (by decide) ?_
      refine MJ_iload_n dX7_told_99 rfl rfl ?_
      refine MJ_iald dX7_told_100 (inx_v ha3) (by decide) ?_
      exact MJ_ireturn dX7_told_101 rfl ⟨by rw [if_neg s12_0, if_neg s12_1, if_neg s12_2, if_neg s12_3, if_neg s12_4, if_pos s12_5], rfl⟩
    -- else
    by_cases s12_6 : w = 6
    · refine MJ_st (st' := [.int 6]) (by rw [s12_6] <;> rfl) ?_
      refine MJ_tswIn (off := 90) (tgt := 102) dX7_told_12 (by decide) (by decide) (by decide) (by decide) ?_
      refine MJ_aload_n dX7_told_102 rfl rfl isR_r ?_
      refine MJ_getA dX7_told_103 g_X7_57 (by decide) ?_
      refine MJ_iload_n dX7_told_106 rfl rfl ?_
      refine MJ_iald dX7_told_107 (inx_v ha3) (by decide) ?_
      exact MJ_ireturn dX7_told_108 rfl ⟨by rw [if_neg s12_0, if_neg s12_1, if_neg s12_2, if_neg s12_3, if_neg s12_4, if_neg s12_5, if_pos s12_6], rfl⟩
    -- else
    by_cases s12_7 : w = 7
    · refine MJ_st (st' := [.int 7]) (by rw [s12_7] <;> rfl) ?_
      refine MJ_tswIn (off := 97) (tgt := 109) dX7_told_12 (by decide) (by decide) (by decide) (by decide) ?_
      refine MJ_aload_n dX7_told_109 rfl rfl isR_r ?_
      refine MJ_getA dX7_told_110 g_X7_60 (by decide) ?_
      refine MJ_iload_n dX7_told_113 rfl rfl ?_
      refine MJ_iald dX7_told_114 (inx_v ha3) (by decide) ?_
      exact MJ_ireturn dX7_told_115 rfl ⟨by rw [if_neg s12_0, if_neg s12_1, if_neg s12_2, if_neg s12_3, if_neg s12_4, if_neg s12_5, if_neg s12_6, if_pos s12_7], rfl⟩
    -- else
    have tt : (w).toInt ≠ 0 ∧ (w).toInt ≠ 1 ∧ (w).toInt ≠ 2 ∧ (w).toInt ≠ 3 ∧ (w).toInt ≠ 4 ∧ (w).toInt ≠ 5 ∧ (w).toInt ≠ 6 ∧ (w).toInt ≠ 7 := ⟨fun z => s12_0 (Int32.toInt_inj.mp (z.trans (by decide))), fun z => s12_1 (Int32.toInt_inj.mp (z.trans (by decide))), fun z => s12_2 (Int32.toInt_inj.mp (z.trans (by decide))), fun z => s12_3 (Int32.toInt_inj.mp (z.trans (by decide))), fun z => s12_4 (Int32.toInt_inj.mp (z.trans (by decide))), fun z => s12_5 (Int32.toInt_inj.mp (z.trans (by decide))), fun z => s12_6 (Int32.toInt_inj.mp (z.trans (by decide))), fun z => s12_7 (Int32.toInt_inj.mp (z.trans (by decide)))⟩
    refine MJ_tswOut (tgt := 116) dX7_told_12 (by omega) (by decide) ?_
    refine MJ_ldc dX7_told_116 lc_X7_140 ?_
    exact MJ_ireturn dX7_told_118 rfl ⟨by rw [if_neg s12_0, if_neg s12_1, if_neg s12_2, if_neg s12_3, if_neg s12_4, if_neg s12_5, if_neg s12_6, if_neg s12_7], rfl⟩
def answerP (S : Ms) (a : Int32) : Int64 := if inN a (nA S) = false then -2000001 else if mT S 463 (tn a) ≠ 1 then -2000002 else mJ S 464 (tn a)
set_option maxRecDepth 100000 in
set_option maxHeartbeats 4000000 in
theorem mp_answer {a : Int32} (hW : WF1 S) : MM x y 2 kX7_answer [.ref y.1, .int a] S (fun z S' => z = some (.long (answerP S a)) ∧ S' = S) := by
  refine MM.ofJ mkX7_answer.1 (Nat.le_of_ble_eq_true rfl) fun h0 => ?_
  unfold answerP
  cases ha : inN a (nA S) with
  | false =>
    refine MJ_aload_n dX7_answer_0 rfl rfl isR_r ?_
    refine MJ_iload_n dX7_answer_1 rfl rfl ?_
    refine MJ_callV (mm_isAsk hW.1.1) dX7_answer_2 ml_X7_155 mkX7_isAsk rfl rfl rfl (Nat.le_of_ble_eq_true rfl) ⟨Nat.le_of_ble_eq_true rfl, Nat.le_of_ble_eq_true rfl⟩ (fun v2 hp2 q2 => ?_)
    obtain ⟨rfl, z2⟩ := q2
    rw [z2]
    refine MJ_if_ne (tgt := 14) dX7_answer_5 (by decide) (fun c5 => ((c5 (by rw [ha]; rfl))).elim) (fun c5 => ?_)
    refine MJ_ldc2 dX7_answer_8 ll_X7_158 ?_
    refine MJ_goto (tgt := 36) dX7_answer_11 (by decide) ?_
    exact MJ_lreturn dX7_answer_36 rfl ⟨rfl, rfl⟩
  | true =>
    have ha3 := hW.le300 ha
    rw [if_neg (by decide)]
    refine MJ_aload_n dX7_answer_0 rfl rfl isR_r ?_
    refine MJ_iload_n dX7_answer_1 rfl rfl ?_
    refine MJ_callV (mm_isAsk hW.1.1) dX7_answer_2 ml_X7_155 mkX7_isAsk rfl rfl rfl (Nat.le_of_ble_eq_true rfl) ⟨Nat.le_of_ble_eq_true rfl, Nat.le_of_ble_eq_true rfl⟩ (fun v2 hp2 q2 => ?_)
    obtain ⟨rfl, z2⟩ := q2
    rw [z2]
    refine MJ_if_ne (tgt := 14) dX7_answer_5 (by decide) (fun c5 => ?_) (fun c5 => ((show False by rw [ha] at c5; exact absurd c5 (by decide))).elim)
    refine MJ_aload_n dX7_answer_14 rfl rfl isR_r ?_
    refine MJ_getA dX7_answer_15 g_X7_51 (by decide) ?_
    refine MJ_iload_n dX7_answer_18 rfl rfl ?_
    refine MJ_iald dX7_answer_19 (inx_v ha3) (by decide) ?_
    refine MJ_iconst (v := 1) dX7_answer_20 (by decide) ?_
    refine MJ_pc (pc' := 21) rfl ?_
    refine MJ_icmp_eq (tgt := 30) dX7_answer_21 (by decide) (fun c21 => ?_) (fun c21 => ?_)
    · refine MJ_aload_n dX7_answer_30 rfl rfl isR_r ?_
      refine MJ_getA dX7_answer_31 g_X7_54 (by decide) ?_
      refine MJ_iload_n dX7_answer_34 rfl rfl ?_
      refine MJ_lald dX7_answer_35 (inx_v ha3) (by decide) ?_
      exact MJ_lreturn dX7_answer_36 rfl ⟨by rw [if_neg (fun z => z c21)], rfl⟩
    · refine MJ_ldc2 dX7_answer_24 ll_X7_160 ?_
      refine MJ_goto (tgt := 36) dX7_answer_27 (by decide) ?_
      exact MJ_lreturn dX7_answer_36 rfl ⟨by rw [if_pos c21], rfl⟩
def nameP (S : Ms) (n w : Int32) : Int32 := if inN n 10 = false ∨ inN w 3 = false then -2000001 else if w = 0 then lowS S n else if w = 1 then mT S 450 (tn n) else mT S 451 (tn n)
set_option maxRecDepth 100000 in
set_option maxHeartbeats 4000000 in
theorem mp_name {n w : Int32} (hW : WF1 S) : MM x y 2 kX7_name [.ref y.1, .int n, .int w] S (fun z S' => z = some (.int (nameP S n w)) ∧ S' = S) := by
  refine MM.ofJ mkX7_name.1 (Nat.le_of_ble_eq_true rfl) fun h0 => ?_
  unfold nameP
  refine MJ_iload_n dX7_name_0 rfl rfl ?_
  refine MJ_i2l dX7_name_1 ?_
  refine MJ_lconst (v := 0) dX7_name_2 (by decide) ?_
  refine MJ_ldc2 dX7_name_3 ll_X7_162 ?_
  refine MJ_callS (mm_in _ _ _) dX7_name_6 ml_X7_109 mkX7_in rfl rfl (Nat.le_of_ble_eq_true rfl) ⟨Nat.le_of_ble_eq_true rfl, Nat.le_of_ble_eq_true rfl⟩ (fun v6 hp6 q6 => ?_)
  obtain ⟨rfl, z6⟩ := q6
  rw [z6]
  rw [inL_inN (m := 9) 10 (by decide)]
  refine MJ_if_eq (tgt := 24) dX7_name_9 (by decide) (fun c9 => ?_) (fun c9 => ?_)
  · refine MJ_ldc dX7_name_24 lc_X7_140 ?_
    exact MJ_ireturn dX7_name_26 rfl ⟨by rw [if_pos (Or.inl (bi_0.mp c9))], rfl⟩
  · refine MJ_iload_n dX7_name_12 rfl rfl ?_
    refine MJ_i2l dX7_name_13 ?_
    refine MJ_lconst (v := 0) dX7_name_14 (by decide) ?_
    refine MJ_ldc2 dX7_name_15 ll_X7_164 ?_
    refine MJ_callS (mm_in _ _ _) dX7_name_18 ml_X7_109 mkX7_in rfl rfl (Nat.le_of_ble_eq_true rfl) ⟨Nat.le_of_ble_eq_true rfl, Nat.le_of_ble_eq_true rfl⟩ (fun v18 hp18 q18 => ?_)
    obtain ⟨rfl, z18⟩ := q18
    rw [z18]
    rw [inL_inN (m := 2) 3 (by decide)]
    refine MJ_if_ne (tgt := 27) dX7_name_21 (by decide) (fun c21 => ?_) (fun c21 => ?_)
    · have h10 := bi_1.mp c9
      rw [if_neg (fun z => z.elim (fun q => by rw [h10] at q; cases q) (fun q => by rw [bi_1.mp c21] at q; cases q))]
      refine MJ_iload_n dX7_name_27 rfl rfl ?_
      refine MJ_if_ne (tgt := 39) dX7_name_28 (by decide) (fun c28 => ?_) (fun c28 => ?_)
      · refine MJ_iload_n dX7_name_39 rfl rfl ?_
        refine MJ_iconst (v := 1) dX7_name_40 (by decide) ?_
        refine MJ_icmp_ne (tgt := 53) dX7_name_41 (by decide) (fun c41 => ?_) (fun c41 => ?_)
        · refine MJ_aload_n dX7_name_53 rfl rfl isR_r ?_
          refine MJ_getA dX7_name_54 g_X7_17 (by decide) ?_
          refine MJ_iload_n dX7_name_57 rfl rfl ?_
          refine MJ_iald dX7_name_58 (inx_v h10) (by decide) ?_
          exact MJ_ireturn dX7_name_59 rfl ⟨by rw [if_neg c28, if_neg c41], rfl⟩
        · refine MJ_aload_n dX7_name_44 rfl rfl isR_r ?_
          refine MJ_getA dX7_name_45 g_X7_13 (by decide) ?_
          refine MJ_iload_n dX7_name_48 rfl rfl ?_
          refine MJ_iald dX7_name_49 (inx_v h10) (by decide) ?_
          refine MJ_goto (tgt := 59) dX7_name_50 (by decide) ?_
          exact MJ_ireturn dX7_name_59 rfl ⟨by rw [if_neg c28, if_pos c41], rfl⟩
      · refine MJ_aload_n dX7_name_31 rfl rfl isR_r ?_
        refine MJ_iload_n dX7_name_32 rfl rfl ?_
        refine MJ_callV (mm_lowest h10 hW.1.1) dX7_name_33 ml_X7_113 mkX7_lowest rfl rfl rfl (Nat.le_of_ble_eq_true rfl) ⟨Nat.le_of_ble_eq_true rfl, Nat.le_of_ble_eq_true rfl⟩ (fun v33 hp33 q33 => ?_)
        obtain ⟨rfl, z33⟩ := q33
        rw [z33]
        refine MJ_goto (tgt := 59) dX7_name_36 (by decide) ?_
        exact MJ_ireturn dX7_name_59 rfl ⟨by rw [if_pos c28], rfl⟩
    · refine MJ_ldc dX7_name_24 lc_X7_140 ?_
      exact MJ_ireturn dX7_name_26 rfl ⟨by rw [if_pos (Or.inr (bi_0.mp c21))], rfl⟩
def deliverP (S : Ms) (i m : Int32) : Int32 × Ms := if inN i (nL S) = false ∨ inN m 4 = false then (-2000001, S) else (mI (bringsF S (tn i) m) 486, bringsF S (tn i) m)
set_option maxRecDepth 100000 in
set_option maxHeartbeats 4000000 in
theorem mp_deliver {i m : Int32} (hW : WF1 S) (hr : nR S + 1 < 700) : MM x y 7 kX7_deliver [.ref y.1, .int i, .int m] S (fun z S' => z = some (.int (deliverP S i m).1) ∧ S' = (deliverP S i m).2) := by
  refine MM.ofJ mkX7_deliver.1 (Nat.le_of_ble_eq_true rfl) fun h0 => ?_
  unfold deliverP
  refine MJ_aload_n dX7_deliver_0 rfl rfl isR_r ?_
  refine MJ_iload_n dX7_deliver_1 rfl rfl ?_
  refine MJ_callV (mm_isLetter hW.1.2.1) dX7_deliver_2 ml_X7_229 mkX7_isLetter rfl rfl rfl (Nat.le_of_ble_eq_true rfl) ⟨Nat.le_of_ble_eq_true rfl, Nat.le_of_ble_eq_true rfl⟩ (fun v2 hp2 q2 => ?_)
  obtain ⟨rfl, z2⟩ := q2
  rw [z2]
  refine MJ_if_eq (tgt := 20) dX7_deliver_5 (by decide) (fun c5 => ?_) (fun c5 => ?_)
  · refine MJ_ldc dX7_deliver_20 lc_X7_140 ?_
    exact MJ_ireturn dX7_deliver_22 rfl ⟨by rw [if_pos (Or.inl (bi_0.mp c5))], by rw [if_pos (Or.inl (bi_0.mp c5))]⟩
  · refine MJ_iload_n dX7_deliver_8 rfl rfl ?_
    refine MJ_i2l dX7_deliver_9 ?_
    refine MJ_lconst (v := 0) dX7_deliver_10 (by decide) ?_
    refine MJ_ldc2 dX7_deliver_11 ll_X7_132 ?_
    refine MJ_callS (mm_in _ _ _) dX7_deliver_14 ml_X7_109 mkX7_in rfl rfl (Nat.le_of_ble_eq_true rfl) ⟨Nat.le_of_ble_eq_true rfl, Nat.le_of_ble_eq_true rfl⟩ (fun v14 hp14 q14 => ?_)
    obtain ⟨rfl, z14⟩ := q14
    rw [z14]
    rw [inL_inN (m := 3) 4 (by decide)]
    refine MJ_if_ne (tgt := 23) dX7_deliver_17 (by decide) (fun c17 => ?_) (fun c17 => ?_)
    · have hi := inN_tn (bi_1.mp c5)
      rw [if_neg (fun z => z.elim (fun q => by rw [bi_1.mp c5] at q; cases q) (fun q => by rw [bi_1.mp c17] at q; cases q))]
      refine MJ_aload_n dX7_deliver_23 rfl rfl isR_r ?_
      refine MJ_iload_n dX7_deliver_24 rfl rfl ?_
      refine MJ_iload_n dX7_deliver_25 rfl rfl ?_
      refine MJ_st (st' := [.int m, .int (nI (tn i)), .ref y.1]) (by rw [← hi.1] <;> rfl) ?_
      refine MJ_callV (mm_brings hW hi.2.1 hr) dX7_deliver_26 ml_X7_232 mkX7_brings rfl rfl rfl (Nat.le_of_ble_eq_true rfl) ⟨Nat.le_of_ble_eq_true rfl, Nat.le_of_ble_eq_true rfl⟩ (fun v26 hp26 q26 => ?_)
      obtain ⟨rfl, z26⟩ := q26
      rw [z26]
      refine MJ_aload_n dX7_deliver_29 rfl rfl isR_r ?_
      refine MJ_getI dX7_deliver_30 g_X7_121 ?_
      exact MJ_ireturn dX7_deliver_33 rfl ⟨rfl, rfl⟩
    · refine MJ_ldc dX7_deliver_20 lc_X7_140 ?_
      exact MJ_ireturn dX7_deliver_22 rfl ⟨by rw [if_pos (Or.inr (bi_0.mp c17))], by rw [if_pos (Or.inr (bi_0.mp c17))]⟩
def loseP (S : Ms) (i : Int32) : Int32 × Ms := if inN i (nL S) = false then (-2000001, S) else (mI (pI (removeF S (tn i)) 483 (mI (removeF S (tn i)) 483 + 1)) 468, pI (removeF S (tn i)) 483 (mI (removeF S (tn i)) 483 + 1))
set_option maxRecDepth 100000 in
set_option maxHeartbeats 4000000 in
theorem mp_lose {i : Int32} (hW : WF1 S) : MM x y 2 kX7_lose [.ref y.1, .int i] S (fun z S' => z = some (.int (loseP S i).1) ∧ S' = (loseP S i).2) := by
  refine MM.ofJ mkX7_lose.1 (Nat.le_of_ble_eq_true rfl) fun h0 => ?_
  unfold loseP
  refine MJ_aload_n dX7_lose_0 rfl rfl isR_r ?_
  refine MJ_iload_n dX7_lose_1 rfl rfl ?_
  refine MJ_callV (mm_isLetter hW.1.2.1) dX7_lose_2 ml_X7_229 mkX7_isLetter rfl rfl rfl (Nat.le_of_ble_eq_true rfl) ⟨Nat.le_of_ble_eq_true rfl, Nat.le_of_ble_eq_true rfl⟩ (fun v2 hp2 q2 => ?_)
  obtain ⟨rfl, z2⟩ := q2
  rw [z2]
  refine MJ_if_ne (tgt := 11) dX7_lose_5 (by decide) (fun c5 => ?_) (fun c5 => ?_)
  · have hi := inN_tn (bi_1.mp c5)
    rw [if_neg (fun q => by rw [bi_1.mp c5] at q; cases q)]
    refine MJ_aload_n dX7_lose_11 rfl rfl isR_r ?_
    refine MJ_iload_n dX7_lose_12 rfl rfl ?_
    refine MJ_st (st' := [.int (nI (tn i)), .ref y.1]) (by rw [← hi.1] <;> rfl) ?_
    refine MJ_callV (mm_removeLetter hW hi.2.1) dX7_lose_13 ml_X7_218 mkX7_removeLetter rfl rfl rfl (Nat.le_of_ble_eq_true rfl) ⟨Nat.le_of_ble_eq_true rfl, Nat.le_of_ble_eq_true rfl⟩ (fun v13 hp13 q13 => ?_)
    obtain ⟨rfl, z13⟩ := q13
    rw [z13]
    refine MJ_aload_n dX7_lose_16 rfl rfl isR_r ?_
    refine MJ_dup dX7_lose_17 rfl ?_
    refine MJ_getI dX7_lose_18 g_X7_127 ?_
    refine MJ_iconst (v := 1) dX7_lose_21 (by decide) ?_
    refine MJ_iadd dX7_lose_22 ?_
    refine MJ_pc (pc' := 23) rfl ?_
    refine MJ_putI dX7_lose_23 p_X7_127 ?_
    refine MJ_aload_n dX7_lose_26 rfl rfl isR_r ?_
    refine MJ_getI dX7_lose_27 g_X7_124 ?_
    exact MJ_ireturn dX7_lose_30 rfl ⟨rfl, rfl⟩
  · refine MJ_ldc dX7_lose_8 lc_X7_140 ?_
    exact MJ_ireturn dX7_lose_10 rfl ⟨by rw [if_pos (bi_0.mp c5)], by rw [if_pos (bi_0.mp c5)]⟩
def twiceF (S : Ms) (i l : Nat) : Ms := pI (pT (pJ (pT (pT (pT S 469 l (mT S 469 i)) 470 l (mT S 470 i)) 471 l (mT S 471 i)) 472 l (mJ S 472 i)) 473 l (mT S 473 i)) 468 (mI S 468 + 1)
def twiceP (S : Ms) (i : Int32) : Int32 × Ms := if inN i (nL S) = false then (-2000001, S) else if mI S 468 = 120 then (-2000003, S) else (mI (twiceF S (tn i) (nL S)) 468, twiceF S (tn i) (nL S))
set_option maxRecDepth 100000 in
set_option maxHeartbeats 4000000 in
theorem mp_twice {i : Int32} (hW : WF1 S) : MM x y 2 kX7_twice [.ref y.1, .int i] S (fun z S' => z = some (.int (twiceP S i).1) ∧ S' = (twiceP S i).2) := by
  refine MM.ofJ mkX7_twice.1 (Nat.le_of_ble_eq_true rfl) fun h0 => ?_
  unfold twiceP
  have hl : inN (mI S 468) 121 = true := hW.1.2.1
  cases hi : inN i (nL S) with
  | false =>
    refine MJ_aload_n dX7_twice_0 rfl rfl isR_r ?_
    refine MJ_iload_n dX7_twice_1 rfl rfl ?_
    refine MJ_callV (mm_isLetter hW.1.2.1) dX7_twice_2 ml_X7_229 mkX7_isLetter rfl rfl rfl (Nat.le_of_ble_eq_true rfl) ⟨Nat.le_of_ble_eq_true rfl, Nat.le_of_ble_eq_true rfl⟩ (fun v2 hp2 q2 => ?_)
    obtain ⟨rfl, z2⟩ := q2
    rw [z2]
    refine MJ_if_ne (tgt := 11) dX7_twice_5 (by decide) (fun c5 => ((c5 (by rw [hi]; rfl))).elim) (fun c5 => ?_)
    refine MJ_ldc dX7_twice_8 lc_X7_140 ?_
    exact MJ_ireturn dX7_twice_10 rfl ⟨rfl, rfl⟩
  | true =>
    have hi2 := inN_tn hi
    have hi3 : inx i (tn i) 121 := inx_v (inN_le hi (by have := (inN_tn hl).2.1; unfold nL; omega))
    have hz := hW.2.2.2.1 (tn i)
    rw [if_neg (by decide)]
    refine MJ_aload_n dX7_twice_0 rfl rfl isR_r ?_
    refine MJ_iload_n dX7_twice_1 rfl rfl ?_
    refine MJ_callV (mm_isLetter hW.1.2.1) dX7_twice_2 ml_X7_229 mkX7_isLetter rfl rfl rfl (Nat.le_of_ble_eq_true rfl) ⟨Nat.le_of_ble_eq_true rfl, Nat.le_of_ble_eq_true rfl⟩ (fun v2 hp2 q2 => ?_)
    obtain ⟨rfl, z2⟩ := q2
    rw [z2]
    refine MJ_if_ne (tgt := 11) dX7_twice_5 (by decide) (fun c5 => ?_) (fun c5 => ((show False by rw [hi] at c5; exact absurd c5 (by decide))).elim)
    refine MJ_aload_n dX7_twice_11 rfl rfl isR_r ?_
    refine MJ_getI dX7_twice_12 g_X7_124 ?_
    refine MJ_bipush (v := 120) dX7_twice_15 (by decide) ?_
    refine MJ_icmp_ne (tgt := 23) dX7_twice_17 (by decide) (fun c17 => ?_) (fun c17 => ?_)
    · refine MJ_aload_n dX7_twice_23 rfl rfl isR_r ?_
      refine MJ_getA dX7_twice_24 g_X7_66 (by decide) ?_
      refine MJ_aload_n dX7_twice_27 rfl rfl isR_r ?_
      refine MJ_getI dX7_twice_28 g_X7_124 ?_
      refine MJ_aload_n dX7_twice_31 rfl rfl isR_r ?_
      refine MJ_getA dX7_twice_32 g_X7_66 (by decide) ?_
      refine MJ_iload_n dX7_twice_35 rfl rfl ?_
      refine MJ_iald dX7_twice_36 hi3 (by decide) ?_
      refine MJ_pc (pc' := 37) rfl ?_
      refine MJ_iast dX7_twice_37 (inx_v hl) (by decide) ?_
      refine MJ_aload_n dX7_twice_38 rfl rfl isR_r ?_
      refine MJ_getA dX7_twice_39 g_X7_69 (by decide) ?_
      refine MJ_aload_n dX7_twice_42 rfl rfl isR_r ?_
      refine MJ_getI dX7_twice_43 g_X7_124 ?_
      refine MJ_aload_n dX7_twice_46 rfl rfl isR_r ?_
      refine MJ_getA dX7_twice_47 g_X7_69 (by decide) ?_
      refine MJ_iload_n dX7_twice_50 rfl rfl ?_
      refine MJ_pc (pc' := 51) rfl ?_
      refine MJ_zald dX7_twice_51 hi3 (by decide) ?_
      refine MJ_zast dX7_twice_52 (inx_v hl) hz.1 (by decide) ?_
      refine MJ_aload_n dX7_twice_53 rfl rfl isR_r ?_
      refine MJ_getA dX7_twice_54 g_X7_72 (by decide) ?_
      refine MJ_aload_n dX7_twice_57 rfl rfl isR_r ?_
      refine MJ_getI dX7_twice_58 g_X7_124 ?_
      refine MJ_aload_n dX7_twice_61 rfl rfl isR_r ?_
      refine MJ_getA dX7_twice_62 g_X7_72 (by decide) ?_
      refine MJ_pc (pc' := 65) rfl ?_
      refine MJ_iload_n dX7_twice_65 rfl rfl ?_
      refine MJ_iald dX7_twice_66 hi3 (by decide) ?_
      refine MJ_iast dX7_twice_67 (inx_v hl) (by decide) ?_
      refine MJ_aload_n dX7_twice_68 rfl rfl isR_r ?_
      refine MJ_getA dX7_twice_69 g_X7_75 (by decide) ?_
      refine MJ_aload_n dX7_twice_72 rfl rfl isR_r ?_
      refine MJ_getI dX7_twice_73 g_X7_124 ?_
      refine MJ_aload_n dX7_twice_76 rfl rfl isR_r ?_
      refine MJ_pc (pc' := 77) rfl ?_
      refine MJ_getA dX7_twice_77 g_X7_75 (by decide) ?_
      refine MJ_iload_n dX7_twice_80 rfl rfl ?_
      refine MJ_lald dX7_twice_81 hi3 (by decide) ?_
      refine MJ_last dX7_twice_82 (inx_v hl) (by decide) ?_
      refine MJ_aload_n dX7_twice_83 rfl rfl isR_r ?_
      refine MJ_getA dX7_twice_84 g_X7_78 (by decide) ?_
      refine MJ_aload_n dX7_twice_87 rfl rfl isR_r ?_
      refine MJ_getI dX7_twice_88 g_X7_124 ?_
      refine MJ_pc (pc' := 91) rfl ?_
      refine MJ_aload_n dX7_twice_91 rfl rfl isR_r ?_
      refine MJ_getA dX7_twice_92 g_X7_78 (by decide) ?_
      refine MJ_iload_n dX7_twice_95 rfl rfl ?_
      refine MJ_zald dX7_twice_96 hi3 (by decide) ?_
      refine MJ_zast dX7_twice_97 (inx_v hl) hz.2 (by decide) ?_
      refine MJ_aload_n dX7_twice_98 rfl rfl isR_r ?_
      refine MJ_dup dX7_twice_99 rfl ?_
      refine MJ_getI dX7_twice_100 g_X7_124 ?_
      refine MJ_pc (pc' := 103) rfl ?_
      refine MJ_iconst (v := 1) dX7_twice_103 (by decide) ?_
      refine MJ_iadd dX7_twice_104 ?_
      refine MJ_putI dX7_twice_105 p_X7_124 ?_
      refine MJ_aload_n dX7_twice_108 rfl rfl isR_r ?_
      refine MJ_getI dX7_twice_109 g_X7_124 ?_
      exact MJ_ireturn dX7_twice_112 rfl ⟨by rw [if_neg c17]; rfl, by rw [if_neg c17]; rfl⟩
    · refine MJ_ldc dX7_twice_20 lc_X7_146 ?_
      exact MJ_ireturn dX7_twice_22 rfl ⟨by rw [if_pos c17], by rw [if_pos c17]⟩
def bendP (S : Ms) (i : Int32) : Int32 × Ms := if inN i (nL S) = false then (-2000001, S) else (if mT S 473 (tn i) = 0 then 1 else 0, pT S 473 (tn i) 1)
set_option maxRecDepth 100000 in
set_option maxHeartbeats 4000000 in
theorem mp_bend {i : Int32} (hW : WF1 S) : MM x y 2 kX7_bend [.ref y.1, .int i] S (fun z S' => z = some (.int (bendP S i).1) ∧ S' = (bendP S i).2) := by
  refine MM.ofJ mkX7_bend.1 (Nat.le_of_ble_eq_true rfl) fun h0 => ?_
  unfold bendP
  have hl : inN (mI S 468) 121 = true := hW.1.2.1
  cases hi : inN i (nL S) with
  | false =>
    refine MJ_aload_n dX7_bend_0 rfl rfl isR_r ?_
    refine MJ_iload_n dX7_bend_1 rfl rfl ?_
    refine MJ_callV (mm_isLetter hW.1.2.1) dX7_bend_2 ml_X7_229 mkX7_isLetter rfl rfl rfl (Nat.le_of_ble_eq_true rfl) ⟨Nat.le_of_ble_eq_true rfl, Nat.le_of_ble_eq_true rfl⟩ (fun v2 hp2 q2 => ?_)
    obtain ⟨rfl, z2⟩ := q2
    rw [z2]
    refine MJ_if_ne (tgt := 11) dX7_bend_5 (by decide) (fun c5 => ((c5 (by rw [hi]; rfl))).elim) (fun c5 => ?_)
    refine MJ_ldc dX7_bend_8 lc_X7_140 ?_
    exact MJ_ireturn dX7_bend_10 rfl ⟨rfl, rfl⟩
  | true =>
    have hi3 : inx i (tn i) 121 := inx_v (inN_le hi (by have := (inN_tn hl).2.1; unfold nL; omega))
    rw [if_neg (by decide)]
    refine MJ_aload_n dX7_bend_0 rfl rfl isR_r ?_
    refine MJ_iload_n dX7_bend_1 rfl rfl ?_
    refine MJ_callV (mm_isLetter hW.1.2.1) dX7_bend_2 ml_X7_229 mkX7_isLetter rfl rfl rfl (Nat.le_of_ble_eq_true rfl) ⟨Nat.le_of_ble_eq_true rfl, Nat.le_of_ble_eq_true rfl⟩ (fun v2 hp2 q2 => ?_)
    obtain ⟨rfl, z2⟩ := q2
    rw [z2]
    refine MJ_if_ne (tgt := 11) dX7_bend_5 (by decide) (fun c5 => ?_) (fun c5 => ((show False by rw [hi] at c5; exact absurd c5 (by decide))).elim)
    refine MJ_aload_n dX7_bend_11 rfl rfl isR_r ?_
    refine MJ_getA dX7_bend_12 g_X7_78 (by decide) ?_
    refine MJ_iload_n dX7_bend_15 rfl rfl ?_
    refine MJ_zald dX7_bend_16 hi3 (by decide) ?_
    refine MJ_if_eq (tgt := 24) dX7_bend_17 (by decide) (fun c17 => ?_) (fun c17 => ?_)
    · refine MJ_iconst (v := 1) dX7_bend_24 (by decide) ?_
      refine MJ_istore_n dX7_bend_25 rfl (by decide) ?_
      refine MJ_aload_n dX7_bend_26 rfl rfl isR_r ?_
      refine MJ_getA dX7_bend_27 g_X7_78 (by decide) ?_
      refine MJ_iload_n dX7_bend_30 rfl rfl ?_
      refine MJ_iconst (v := 1) dX7_bend_31 (by decide) ?_
      refine MJ_zast dX7_bend_32 hi3 (by first | exact Or.inl rfl | exact Or.inr rfl) (by decide) ?_
      refine MJ_iload_n dX7_bend_33 rfl rfl ?_
      refine MJ_pc (pc' := 34) rfl ?_
      exact MJ_ireturn dX7_bend_34 rfl ⟨by rw [if_pos c17], rfl⟩
    · refine MJ_iconst (v := 0) dX7_bend_20 (by decide) ?_
      refine MJ_goto (tgt := 25) dX7_bend_21 (by decide) ?_
      refine MJ_istore_n dX7_bend_25 rfl (by decide) ?_
      refine MJ_aload_n dX7_bend_26 rfl rfl isR_r ?_
      refine MJ_getA dX7_bend_27 g_X7_78 (by decide) ?_
      refine MJ_iload_n dX7_bend_30 rfl rfl ?_
      refine MJ_iconst (v := 1) dX7_bend_31 (by decide) ?_
      refine MJ_zast dX7_bend_32 hi3 (by first | exact Or.inl rfl | exact Or.inr rfl) (by decide) ?_
      refine MJ_iload_n dX7_bend_33 rfl rfl ?_
      refine MJ_pc (pc' := 34) rfl ?_
      exact MJ_ireturn dX7_bend_34 rfl ⟨by rw [if_neg c17], rfl⟩
def letterP (S : Ms) (i w : Int32) : Int32 :=
  if inN w 5 = false then -2000001 else if inN i (nL S) = false then -1 else if w = 0 then mT S 469 (tn i) else if w = 1 then (if mT S 470 (tn i) = 0 then 0 else 1) else if w = 2 then mT S 471 (tn i) else if w = 3 then (if mT S 473 (tn i) = 0 then 0 else 1) else if mT S 470 (tn i) ≠ 0 ∧ mJ S 472 (tn i) = -3 then 1 else 0
set_option maxRecDepth 100000 in
set_option maxHeartbeats 4000000 in
theorem mp_letter {i w : Int32} (hW : WF1 S) : MM x y 2 kX7_letter [.ref y.1, .int i, .int w] S (fun z S' => z = some (.int (letterP S i w)) ∧ S' = S) := by
  refine MM.ofJ mkX7_letter.1 (Nat.le_of_ble_eq_true rfl) fun h0 => ?_
  unfold letterP
  have hl : inN (mI S 468) 121 = true := hW.1.2.1
  cases hw : inN w 5 with
  | false =>
    refine MJ_iload_n dX7_letter_0 rfl rfl ?_
    refine MJ_i2l dX7_letter_1 ?_
    refine MJ_lconst (v := 0) dX7_letter_2 (by decide) ?_
    refine MJ_ldc2 dX7_letter_3 ll_X7_134 ?_
    refine MJ_callS (mm_in _ _ _) dX7_letter_6 ml_X7_109 mkX7_in rfl rfl (Nat.le_of_ble_eq_true rfl) ⟨Nat.le_of_ble_eq_true rfl, Nat.le_of_ble_eq_true rfl⟩ (fun v6 hp6 q6 => ?_)
    obtain ⟨rfl, z6⟩ := q6
    rw [z6]
    rw [inL_inN (m := 4) 5 (by decide)]
    refine MJ_if_ne (tgt := 15) dX7_letter_9 (by decide) (fun c9 => ((c9 (by rw [hw]; rfl))).elim) (fun c9 => ?_)
    refine MJ_ldc dX7_letter_12 lc_X7_140 ?_
    exact MJ_ireturn dX7_letter_14 rfl ⟨rfl, rfl⟩
  | true =>
    rw [if_neg (by decide)]
    cases hi : inN i (nL S) with
    | false =>
      refine MJ_iload_n dX7_letter_0 rfl rfl ?_
      refine MJ_i2l dX7_letter_1 ?_
      refine MJ_lconst (v := 0) dX7_letter_2 (by decide) ?_
      refine MJ_ldc2 dX7_letter_3 ll_X7_134 ?_
      refine MJ_callS (mm_in _ _ _) dX7_letter_6 ml_X7_109 mkX7_in rfl rfl (Nat.le_of_ble_eq_true rfl) ⟨Nat.le_of_ble_eq_true rfl, Nat.le_of_ble_eq_true rfl⟩ (fun v6 hp6 q6 => ?_)
      obtain ⟨rfl, z6⟩ := q6
      rw [z6]
      rw [inL_inN (m := 4) 5 (by decide)]
      refine MJ_if_ne (tgt := 15) dX7_letter_9 (by decide) (fun c9 => ?_) (fun c9 => ((show False by rw [hw] at c9; exact absurd c9 (by decide))).elim)
      refine MJ_aload_n dX7_letter_15 rfl rfl isR_r ?_
      refine MJ_iload_n dX7_letter_16 rfl rfl ?_
      refine MJ_callV (mm_isLetter hW.1.2.1) dX7_letter_17 ml_X7_229 mkX7_isLetter rfl rfl rfl (Nat.le_of_ble_eq_true rfl) ⟨Nat.le_of_ble_eq_true rfl, Nat.le_of_ble_eq_true rfl⟩ (fun v17 hp17 q17 => ?_)
      obtain ⟨rfl, z17⟩ := q17
      rw [z17]
      refine MJ_pc (pc' := 20) rfl ?_
      refine MJ_if_ne (tgt := 25) dX7_letter_20 (by decide) (fun c20 => ((c20 (by rw [hi]; rfl))).elim) (fun c20 => ?_)
      refine MJ_iconst (v := -1) dX7_letter_23 (by decide) ?_
      exact MJ_ireturn dX7_letter_24 rfl ⟨rfl, rfl⟩
    | true =>
      have hi3 : inx i (tn i) 121 := inx_v (inN_le hi (by have := (inN_tn hl).2.1; unfold nL; omega))
      rw [if_neg (by decide)]
      refine MJ_iload_n dX7_letter_0 rfl rfl ?_
      refine MJ_i2l dX7_letter_1 ?_
      refine MJ_lconst (v := 0) dX7_letter_2 (by decide) ?_
      refine MJ_ldc2 dX7_letter_3 ll_X7_134 ?_
      refine MJ_callS (mm_in _ _ _) dX7_letter_6 ml_X7_109 mkX7_in rfl rfl (Nat.le_of_ble_eq_true rfl) ⟨Nat.le_of_ble_eq_true rfl, Nat.le_of_ble_eq_true rfl⟩ (fun v6 hp6 q6 => ?_)
      obtain ⟨rfl, z6⟩ := q6
      rw [z6]
      rw [inL_inN (m := 4) 5 (by decide)]
      refine MJ_if_ne (tgt := 15) dX7_letter_9 (by decide) (fun c9 => ?_) (fun c9 => ((show False by rw [hw] at c9; exact absurd c9 (by decide))).elim)
      refine MJ_aload_n dX7_letter_15 rfl rfl isR_r ?_
      refine MJ_iload_n dX7_letter_16 rfl rfl ?_
      refine MJ_callV (mm_isLetter hW.1.2.1) dX7_letter_17 ml_X7_229 mkX7_isLetter rfl rfl rfl (Nat.le_of_ble_eq_true rfl) ⟨Nat.le_of_ble_eq_true rfl, Nat.le_of_ble_eq_true rfl⟩ (fun v17 hp17 q17 => ?_)
      obtain ⟨rfl, z17⟩ := q17
      rw [z17]
      refine MJ_pc (pc' := 20) rfl ?_
      refine MJ_if_ne (tgt := 25) dX7_letter_20 (by decide) (fun c20 => ?_) (fun c20 => ((show False by rw [hi] at c20; exact absurd c20 (by decide))).elim)
      refine MJ_iload_n dX7_letter_25 rfl rfl ?_
      by_cases s26_0 : w = 0
      · refine MJ_st (st' := [.int 0]) (by rw [s26_0] <;> rfl) ?_
        refine MJ_tswIn (off := 30) (tgt := 56) dX7_letter_26 (by decide) (by decide) (by decide) (by decide) ?_
        refine MJ_aload_n dX7_letter_56 rfl rfl isR_r ?_
        refine MJ_getA dX7_letter_57 g_X7_66 (by decide) ?_
        refine MJ_iload_n dX7_letter_60 rfl rfl ?_
        refine MJ_iald dX7_letter_61 hi3 (by decide) ?_
        exact MJ_ireturn dX7_letter_62 rfl ⟨by rw [if_pos s26_0], rfl⟩
      -- else
      by_cases s26_1 : w = 1
      · refine MJ_st (st' := [.int 1]) (by rw [s26_1] <;> rfl) ?_
        refine MJ_tswIn (off := 37) (tgt := 63) dX7_letter_26 (by decide) (by decide) (by decide) (by decide) ?_
        refine MJ_aload_n dX7_letter_63 rfl rfl isR_r ?_
        refine MJ_getA dX7_letter_64 g_X7_69 (by decide) ?_
        refine MJ_iload_n dX7_letter_67 rfl rfl ?_
        refine MJ_zald dX7_letter_68 hi3 (by decide) ?_
        refine MJ_if_eq (tgt := 76) dX7_letter_69 (by decide) (fun c69 => ?_) (fun c69 => ?_)
        · refine MJ_iconst (v := 0) dX7_letter_76 (by decide) ?_
          exact MJ_ireturn dX7_letter_77 rfl ⟨by rw [if_neg s26_0, if_pos s26_1, if_pos c69], rfl⟩
        · refine MJ_iconst (v := 1) dX7_letter_72 (by decide) ?_
          refine MJ_goto (tgt := 77) dX7_letter_73 (by decide) ?_
          exact MJ_ireturn dX7_letter_77 rfl ⟨by rw [if_neg s26_0, if_pos s26_1, if_neg c69], rfl⟩
      -- else
      by_cases s26_2 : w = 2
      · refine MJ_st (st' := [.int 2]) (by rw [s26_2] <;> rfl) ?_
        refine MJ_tswIn (off := 52) (tgt := 78) dX7_letter_26 (by decide) (by decide) (by decide) (by decide) ?_
        refine MJ_aload_n dX7_letter_78 rfl rfl isR_r ?_
        refine MJ_getA dX7_letter_79 g_X7_72 (by decide) ?_
        refine MJ_iload_n dX7_letter_82 rfl rfl ?_
        refine MJ_iald dX7_letter_83 hi3 (by decide) ?_
        exact MJ_ireturn dX7_letter_84 rfl ⟨by rw [if_neg s26_0, if_neg s26_1, if_pos s26_2], rfl⟩
      -- else
      by_cases s26_3 : w = 3
      · refine MJ_st (st' := [.int 3]) (by rw [s26_3] <;> rfl) ?_
        refine MJ_tswIn (off := 59) (tgt := 85) dX7_letter_26 (by decide) (by decide) (by decide) (by decide) ?_
        refine MJ_aload_n dX7_letter_85 rfl rfl isR_r ?_
        refine MJ_getA dX7_letter_86 g_X7_78 (by decide) ?_
        refine MJ_iload_n dX7_letter_89 rfl rfl ?_
        refine MJ_zald dX7_letter_90 hi3 (by decide) ?_
        refine MJ_if_eq (tgt := 98) dX7_letter_91 (by decide) (fun c91 => ?_) (fun c91 => ?_)
        · refine MJ_iconst (v := 0) dX7_letter_98 (by decide) ?_
          exact MJ_ireturn dX7_letter_99 rfl ⟨by rw [if_neg s26_0, if_neg s26_1, if_neg s26_2, if_pos s26_3, if_pos c91], rfl⟩
        · refine MJ_iconst (v := 1) dX7_letter_94 (by decide) ?_
          refine MJ_goto (tgt := 99) dX7_letter_95 (by decide) ?_
          exact MJ_ireturn dX7_letter_99 rfl ⟨by rw [if_neg s26_0, if_neg s26_1, if_neg s26_2, if_pos s26_3, if_neg c91], rfl⟩
      -- else
      have tt : (w).toInt ≠ 0 ∧ (w).toInt ≠ 1 ∧ (w).toInt ≠ 2 ∧ (w).toInt ≠ 3 := ⟨fun z => s26_0 (Int32.toInt_inj.mp (z.trans (by decide))), fun z => s26_1 (Int32.toInt_inj.mp (z.trans (by decide))), fun z => s26_2 (Int32.toInt_inj.mp (z.trans (by decide))), fun z => s26_3 (Int32.toInt_inj.mp (z.trans (by decide)))⟩
      refine MJ_tswOut (tgt := 100) dX7_letter_26 (by omega) (by decide) ?_
      refine MJ_aload_n dX7_letter_100 rfl rfl isR_r ?_
      refine MJ_getA dX7_letter_101 g_X7_69 (by decide) ?_
      refine MJ_iload_n dX7_letter_104 rfl rfl ?_
      refine MJ_zald dX7_letter_105 hi3 (by decide) ?_
      refine MJ_if_eq (tgt := 126) dX7_letter_106 (by decide) (fun c106 => ?_) (fun c106 => ?_)
      · refine MJ_iconst (v := 0) dX7_letter_126 (by decide) ?_
        exact MJ_ireturn dX7_letter_127 rfl ⟨by rw [if_neg s26_0, if_neg s26_1, if_neg s26_2, if_neg s26_3, if_neg (fun z => z.1 c106)], rfl⟩
      · refine MJ_aload_n dX7_letter_109 rfl rfl isR_r ?_
        refine MJ_getA dX7_letter_110 g_X7_75 (by decide) ?_
        refine MJ_iload_n dX7_letter_113 rfl rfl ?_
        refine MJ_lald dX7_letter_114 hi3 (by decide) ?_
        refine MJ_ldc2 dX7_letter_115 ll_X7_179 ?_
        refine MJ_lcmp dX7_letter_118 ?_
        refine MJ_if_ne (tgt := 126) dX7_letter_119 (by decide) (fun c119 => ?_) (fun c119 => ?_)
        · refine MJ_iconst (v := 0) dX7_letter_126 (by decide) ?_
          exact MJ_ireturn dX7_letter_127 rfl ⟨by rw [if_neg s26_0, if_neg s26_1, if_neg s26_2, if_neg s26_3, if_neg (fun z => c119 ((lg_cmp_eq _ _).mpr z.2))], rfl⟩
        · refine MJ_iconst (v := 1) dX7_letter_122 (by decide) ?_
          refine MJ_goto (tgt := 127) dX7_letter_123 (by decide) ?_
          exact MJ_ireturn dX7_letter_127 rfl ⟨by rw [if_neg s26_0, if_neg s26_1, if_neg s26_2, if_neg s26_3, if_pos ⟨c106, (lg_cmp_eq _ _).mp c119⟩], rfl⟩
def fallP (S : Ms) (n : Int32) : Int32 × Ms := if inN n 10 = false then (-2000001, S) else if mT S 449 (tn n) ≠ 0 then (-2000002, S) else (1, pI (pT S 449 (tn n) 1) 484 (mI S 484 + 1))
set_option maxRecDepth 100000 in
set_option maxHeartbeats 4000000 in
theorem mp_fall {n : Int32} : MM x y 2 kX7_fall [.ref y.1, .int n] S (fun z S' => z = some (.int (fallP S n).1) ∧ S' = (fallP S n).2) := by
  refine MM.ofJ mkX7_fall.1 (Nat.le_of_ble_eq_true rfl) fun h0 => ?_
  unfold fallP
  refine MJ_iload_n dX7_fall_0 rfl rfl ?_
  refine MJ_i2l dX7_fall_1 ?_
  refine MJ_lconst (v := 0) dX7_fall_2 (by decide) ?_
  refine MJ_ldc2 dX7_fall_3 ll_X7_162 ?_
  refine MJ_callS (mm_in _ _ _) dX7_fall_6 ml_X7_109 mkX7_in rfl rfl (Nat.le_of_ble_eq_true rfl) ⟨Nat.le_of_ble_eq_true rfl, Nat.le_of_ble_eq_true rfl⟩ (fun v6 hp6 q6 => ?_)
  obtain ⟨rfl, z6⟩ := q6
  rw [z6]
  rw [inL_inN (m := 9) 10 (by decide)]
  refine MJ_if_ne (tgt := 15) dX7_fall_9 (by decide) (fun c9 => ?_) (fun c9 => ?_)
  · have h10 := bi_1.mp c9
    rw [if_neg (fun q => by rw [h10] at q; cases q)]
    refine MJ_aload_n dX7_fall_15 rfl rfl isR_r ?_
    refine MJ_getA dX7_fall_16 g_X7_7 (by decide) ?_
    refine MJ_iload_n dX7_fall_19 rfl rfl ?_
    refine MJ_zald dX7_fall_20 (inx_v h10) (by decide) ?_
    refine MJ_if_eq (tgt := 27) dX7_fall_21 (by decide) (fun c21 => ?_) (fun c21 => ?_)
    · refine MJ_aload_n dX7_fall_27 rfl rfl isR_r ?_
      refine MJ_getA dX7_fall_28 g_X7_7 (by decide) ?_
      refine MJ_iload_n dX7_fall_31 rfl rfl ?_
      refine MJ_iconst (v := 1) dX7_fall_32 (by decide) ?_
      refine MJ_zast dX7_fall_33 (inx_v h10) (by first | exact Or.inl rfl | exact Or.inr rfl) (by decide) ?_
      refine MJ_aload_n dX7_fall_34 rfl rfl isR_r ?_
      refine MJ_dup dX7_fall_35 rfl ?_
      refine MJ_getI dX7_fall_36 g_X7_215 ?_
      refine MJ_pc (pc' := 39) rfl ?_
      refine MJ_iconst (v := 1) dX7_fall_39 (by decide) ?_
      refine MJ_iadd dX7_fall_40 ?_
      refine MJ_putI dX7_fall_41 p_X7_215 ?_
      refine MJ_iconst (v := 1) dX7_fall_44 (by decide) ?_
      exact MJ_ireturn dX7_fall_45 rfl ⟨by rw [if_neg (fun z => z c21)], by rw [if_neg (fun z => z c21)]; rfl⟩
    · refine MJ_ldc dX7_fall_24 lc_X7_141 ?_
      exact MJ_ireturn dX7_fall_26 rfl ⟨by rw [if_pos c21], by rw [if_pos c21]⟩
  · refine MJ_ldc dX7_fall_12 lc_X7_140 ?_
    exact MJ_ireturn dX7_fall_14 rfl ⟨by rw [if_pos (bi_0.mp c9)], by rw [if_pos (bi_0.mp c9)]⟩
end P2
