section M3
variable {x : om_x} {y : om_y} {S : Ms}
theorem put_nA (o num st : Int32) (v : Int64) (own : Int32) : nA (putRecF S o num st v own) = nA S := congrArg tn (put_I o num st v own (by decide))
theorem send_nA (ask : Int32) (ans : Bool) (v : Int64) : nA (sendF S ask ans v) = nA S := congrArg tn (send_I ask ans v (by decide))
theorem send_nR (ask : Int32) (ans : Bool) (v : Int64) : nR (sendF S ask ans v) = nR S := congrArg tn (send_I ask ans v (by decide))
theorem forget_nA (o b : Int32) : nA (forgetF S o b) = nA S := congrArg tn (forget_I o b (by decide))
theorem WF1.le300 (hW : WF1 S) {ask : Int32} (ha : inN ask (nA S) = true) : inN ask 300 = true := inN_le ha (Nat.le_of_lt_succ (inN_tn hW.1.1).2.1)
set_option maxRecDepth 100000 in
set_option maxHeartbeats 4000000 in
theorem mm_forget {o b : Int32} (hn : inN (mI S 476) 701 = true) : MM x y 0 kX7_forget [.ref y.1, .int o, .int b] S (fun z S' => z = some (.int (nI (goneF S o b))) ∧ S' = forgetF S o b) := by
  refine MM.ofJ mkX7_forget.1 (Nat.le_of_ble_eq_true rfl) fun h0 => ?_
  obtain ⟨hn1, hn2, hn3⟩ := inN_tn hn
  have lp : ∀ m k, k ≤ nR S → nR S - k < m → MJ x y h0 0 (fun z S' => z = some (.int (nI (goneF S o b))) ∧ S' = forgetF S o b) kX7_forget 5 [(0, .ref y.1), (1, .int o), (2, .int b), (3, .int (nI (fgF S o b k).2)), (4, .int (nI k))] [] (fgF S o b k).1 := by
    intro m
    induction m with
    | zero => intro k _ h; omega
    | succ m ih =>
      intro k hk hm
      have hk2 : nR S < 701 := hn2
      have hle := fg_le (S := S) o b k
      refine MJ_iload dX7_forget_5 rfl ?_
      refine MJ_aload_n dX7_forget_7 rfl rfl isR_r ?_
      refine MJ_getI dX7_forget_8 g_X7_166 ?_
      rw [fg_I, show mI S 476 = nI (nR S) from hn1]
      refine MJ_icmp_ge (tgt := 110) dX7_forget_11 (by decide) (fun c11 => ?_) (fun c11 => ?_)
      · rw [nI_lei (by omega) (by omega)] at c11
        have e : k = nR S := by omega
        subst e
        refine MJ_aload_n dX7_forget_110 rfl rfl isR_r ?_
        refine MJ_getI dX7_forget_111 g_X7_166 ?_
        refine MJ_iload_n dX7_forget_114 rfl rfl ?_
        rw [fg_I, show mI S 476 = nI (nR S) from hn1]
        refine MJ_isub dX7_forget_115 ?_
        rw [nI_sub hle]
        refine MJ_istore dX7_forget_116 (by decide) ?_
        refine MJ_aload_n dX7_forget_118 rfl rfl isR_r ?_
        refine MJ_iload_n dX7_forget_119 rfl rfl ?_
        refine MJ_putI dX7_forget_120 p_X7_166 ?_
        refine MJ_pc (pc' := 123) rfl ?_
        refine MJ_iload dX7_forget_123 rfl ?_
        exact MJ_ireturn dX7_forget_125 rfl ⟨rfl, rfl⟩
      · rw [nI_lei (by omega) (by omega)] at c11
        refine MJ_aload_n dX7_forget_14 rfl rfl isR_r ?_
        refine MJ_getA dX7_forget_15 g_X7_87 (by decide) ?_
        refine MJ_iload dX7_forget_18 rfl ?_
        refine MJ_iald dX7_forget_20 (by first | assumption | exact inx_v (by assumption) | exact inx_n (show _ < 700 by omega) (by decide)) (by decide) ?_
        refine MJ_iload_n dX7_forget_21 rfl rfl ?_
        refine MJ_icmp_ne (tgt := 36) dX7_forget_22 (by decide) (fun c22 => ?_) (fun c22 => ?_)
        · refine MJ_aload_n dX7_forget_36 rfl rfl isR_r ?_
          refine MJ_getA dX7_forget_37 g_X7_87 (by decide) ?_
          refine MJ_iload_n dX7_forget_40 rfl rfl ?_
          refine MJ_aload_n dX7_forget_41 rfl rfl isR_r ?_
          refine MJ_getA dX7_forget_42 g_X7_87 (by decide) ?_
          refine MJ_iload dX7_forget_45 rfl ?_
          refine MJ_iald dX7_forget_47 (by first | assumption | exact inx_v (by assumption) | exact inx_n (show _ < 700 by omega) (by decide)) (by decide) ?_
          refine MJ_iast dX7_forget_48 (by first | assumption | exact inx_v (by assumption) | exact inx_n (show _ < 700 by omega) (by decide)) (by decide) ?_
          refine MJ_pc (pc' := 49) rfl ?_
          refine MJ_aload_n dX7_forget_49 rfl rfl isR_r ?_
          refine MJ_getA dX7_forget_50 g_X7_90 (by decide) ?_
          refine MJ_iload_n dX7_forget_53 rfl rfl ?_
          refine MJ_aload_n dX7_forget_54 rfl rfl isR_r ?_
          refine MJ_getA dX7_forget_55 g_X7_90 (by decide) ?_
          refine MJ_iload dX7_forget_58 rfl ?_
          refine MJ_iald dX7_forget_60 (by first | assumption | exact inx_v (by assumption) | exact inx_n (show _ < 700 by omega) (by decide)) (by decide) ?_
          refine MJ_iast dX7_forget_61 (by first | assumption | exact inx_v (by assumption) | exact inx_n (show _ < 700 by omega) (by decide)) (by decide) ?_
          refine MJ_pc (pc' := 62) rfl ?_
          refine MJ_aload_n dX7_forget_62 rfl rfl isR_r ?_
          refine MJ_getA dX7_forget_63 g_X7_93 (by decide) ?_
          refine MJ_iload_n dX7_forget_66 rfl rfl ?_
          refine MJ_aload_n dX7_forget_67 rfl rfl isR_r ?_
          refine MJ_getA dX7_forget_68 g_X7_93 (by decide) ?_
          refine MJ_iload dX7_forget_71 rfl ?_
          refine MJ_iald dX7_forget_73 (by first | assumption | exact inx_v (by assumption) | exact inx_n (show _ < 700 by omega) (by decide)) (by decide) ?_
          refine MJ_iast dX7_forget_74 (by first | assumption | exact inx_v (by assumption) | exact inx_n (show _ < 700 by omega) (by decide)) (by decide) ?_
          refine MJ_pc (pc' := 75) rfl ?_
          refine MJ_aload_n dX7_forget_75 rfl rfl isR_r ?_
          refine MJ_getA dX7_forget_76 g_X7_96 (by decide) ?_
          refine MJ_iload_n dX7_forget_79 rfl rfl ?_
          refine MJ_aload_n dX7_forget_80 rfl rfl isR_r ?_
          refine MJ_getA dX7_forget_81 g_X7_96 (by decide) ?_
          refine MJ_iload dX7_forget_84 rfl ?_
          refine MJ_lald dX7_forget_86 (by first | assumption | exact inx_v (by assumption) | exact inx_n (show _ < 700 by omega) (by decide)) (by decide) ?_
          refine MJ_last dX7_forget_87 (by first | assumption | exact inx_v (by assumption) | exact inx_n (show _ < 700 by omega) (by decide)) (by decide) ?_
          refine MJ_pc (pc' := 88) rfl ?_
          refine MJ_aload_n dX7_forget_88 rfl rfl isR_r ?_
          refine MJ_getA dX7_forget_89 g_X7_99 (by decide) ?_
          refine MJ_iload_n dX7_forget_92 rfl rfl ?_
          refine MJ_aload_n dX7_forget_93 rfl rfl isR_r ?_
          refine MJ_getA dX7_forget_94 g_X7_99 (by decide) ?_
          refine MJ_iload dX7_forget_97 rfl ?_
          refine MJ_iald dX7_forget_99 (by first | assumption | exact inx_v (by assumption) | exact inx_n (show _ < 700 by omega) (by decide)) (by decide) ?_
          refine MJ_iast dX7_forget_100 (by first | assumption | exact inx_v (by assumption) | exact inx_n (show _ < 700 by omega) (by decide)) (by decide) ?_
          refine MJ_pc (pc' := 101) rfl ?_
          refine MJ_iinc dX7_forget_101 rfl (nI_inc _) (by decide) ?_
          refine MJ_iinc dX7_forget_104 rfl (nI_inc _) (by decide) ?_
          refine MJ_goto (tgt := 5) dX7_forget_107 (by decide) ?_
          have e : fgF S o b (k + 1) = (recTo (fgF S o b k).1 (fgF S o b k).2 k, (fgF S o b k).2 + 1) := by simp only [fgF]; rw [if_pos (Or.inl c22)]
          refine MJ_S (S' := (fgF S o b (k + 1)).1) (by rw [e]; rfl) ?_
          exact MJ_loc _ rfl (by have := ih (k + 1) (by omega) (by omega); rw [show (fgF S o b (k + 1)).2 = (fgF S o b k).2 + 1 by rw [e]] at this; exact this)
        · refine MJ_aload_n dX7_forget_25 rfl rfl isR_r ?_
          refine MJ_getA dX7_forget_26 g_X7_90 (by decide) ?_
          refine MJ_iload dX7_forget_29 rfl ?_
          refine MJ_iald dX7_forget_31 (by first | assumption | exact inx_v (by assumption) | exact inx_n (show _ < 700 by omega) (by decide)) (by decide) ?_
          refine MJ_iload_n dX7_forget_32 rfl rfl ?_
          refine MJ_icmp_lt (tgt := 104) dX7_forget_33 (by decide) (fun c33 => ?_) (fun c33 => ?_)
          · refine MJ_iinc dX7_forget_104 rfl (nI_inc _) (by decide) ?_
            refine MJ_goto (tgt := 5) dX7_forget_107 (by decide) ?_
            have e : fgF S o b (k + 1) = fgF S o b k := by simp only [fgF]; rw [if_neg (fun z => z.elim (fun q => q c22) (fun z => by rw [n_le] at z; rw [n_lt] at c33; omega))]
            exact MJ_loc _ rfl (by have := ih (k + 1) (by omega) (by omega); rw [e] at this; exact this)
          · refine MJ_aload_n dX7_forget_36 rfl rfl isR_r ?_
            refine MJ_getA dX7_forget_37 g_X7_87 (by decide) ?_
            refine MJ_iload_n dX7_forget_40 rfl rfl ?_
            refine MJ_aload_n dX7_forget_41 rfl rfl isR_r ?_
            refine MJ_getA dX7_forget_42 g_X7_87 (by decide) ?_
            refine MJ_iload dX7_forget_45 rfl ?_
            refine MJ_iald dX7_forget_47 (by first | assumption | exact inx_v (by assumption) | exact inx_n (show _ < 700 by omega) (by decide)) (by decide) ?_
            refine MJ_iast dX7_forget_48 (by first | assumption | exact inx_v (by assumption) | exact inx_n (show _ < 700 by omega) (by decide)) (by decide) ?_
            refine MJ_pc (pc' := 49) rfl ?_
            refine MJ_aload_n dX7_forget_49 rfl rfl isR_r ?_
            refine MJ_getA dX7_forget_50 g_X7_90 (by decide) ?_
            refine MJ_iload_n dX7_forget_53 rfl rfl ?_
            refine MJ_aload_n dX7_forget_54 rfl rfl isR_r ?_
            refine MJ_getA dX7_forget_55 g_X7_90 (by decide) ?_
            refine MJ_iload dX7_forget_58 rfl ?_
            refine MJ_iald dX7_forget_60 (by first | assumption | exact inx_v (by assumption) | exact inx_n (show _ < 700 by omega) (by decide)) (by decide) ?_
            refine MJ_iast dX7_forget_61 (by first | assumption | exact inx_v (by assumption) | exact inx_n (show _ < 700 by omega) (by decide)) (by decide) ?_
            refine MJ_pc (pc' := 62) rfl ?_
            refine MJ_aload_n dX7_forget_62 rfl rfl isR_r ?_
            refine MJ_getA dX7_forget_63 g_X7_93 (by decide) ?_
            refine MJ_iload_n dX7_forget_66 rfl rfl ?_
            refine MJ_aload_n dX7_forget_67 rfl rfl isR_r ?_
            refine MJ_getA dX7_forget_68 g_X7_93 (by decide) ?_
            refine MJ_iload dX7_forget_71 rfl ?_
            refine MJ_iald dX7_forget_73 (by first | assumption | exact inx_v (by assumption) | exact inx_n (show _ < 700 by omega) (by decide)) (by decide) ?_
            refine MJ_iast dX7_forget_74 (by first | assumption | exact inx_v (by assumption) | exact inx_n (show _ < 700 by omega) (by decide)) (by decide) ?_
            refine MJ_pc (pc' := 75) rfl ?_
            refine MJ_aload_n dX7_forget_75 rfl rfl isR_r ?_
            refine MJ_getA dX7_forget_76 g_X7_96 (by decide) ?_
            refine MJ_iload_n dX7_forget_79 rfl rfl ?_
            refine MJ_aload_n dX7_forget_80 rfl rfl isR_r ?_
            refine MJ_getA dX7_forget_81 g_X7_96 (by decide) ?_
            refine MJ_iload dX7_forget_84 rfl ?_
            refine MJ_lald dX7_forget_86 (by first | assumption | exact inx_v (by assumption) | exact inx_n (show _ < 700 by omega) (by decide)) (by decide) ?_
            refine MJ_last dX7_forget_87 (by first | assumption | exact inx_v (by assumption) | exact inx_n (show _ < 700 by omega) (by decide)) (by decide) ?_
            refine MJ_pc (pc' := 88) rfl ?_
            refine MJ_aload_n dX7_forget_88 rfl rfl isR_r ?_
            refine MJ_getA dX7_forget_89 g_X7_99 (by decide) ?_
            refine MJ_iload_n dX7_forget_92 rfl rfl ?_
            refine MJ_aload_n dX7_forget_93 rfl rfl isR_r ?_
            refine MJ_getA dX7_forget_94 g_X7_99 (by decide) ?_
            refine MJ_iload dX7_forget_97 rfl ?_
            refine MJ_iald dX7_forget_99 (by first | assumption | exact inx_v (by assumption) | exact inx_n (show _ < 700 by omega) (by decide)) (by decide) ?_
            refine MJ_iast dX7_forget_100 (by first | assumption | exact inx_v (by assumption) | exact inx_n (show _ < 700 by omega) (by decide)) (by decide) ?_
            refine MJ_pc (pc' := 101) rfl ?_
            refine MJ_iinc dX7_forget_101 rfl (nI_inc _) (by decide) ?_
            refine MJ_iinc dX7_forget_104 rfl (nI_inc _) (by decide) ?_
            refine MJ_goto (tgt := 5) dX7_forget_107 (by decide) ?_
            have e : fgF S o b (k + 1) = (recTo (fgF S o b k).1 (fgF S o b k).2 k, (fgF S o b k).2 + 1) := by simp only [fgF]; rw [if_pos (Or.inr (by rw [n_le]; rw [n_lt] at c33; omega))]
            refine MJ_S (S' := (fgF S o b (k + 1)).1) (by rw [e]; rfl) ?_
            exact MJ_loc _ rfl (by have := ih (k + 1) (by omega) (by omega); rw [show (fgF S o b (k + 1)).2 = (fgF S o b k).2 + 1 by rw [e]] at this; exact this)
  refine MJ_iconst (v := 0) dX7_forget_0 (by decide) ?_
  refine MJ_istore_n dX7_forget_1 rfl (by decide) ?_
  refine MJ_iconst (v := 0) dX7_forget_2 (by decide) ?_
  refine MJ_istore dX7_forget_3 (by decide) ?_
  exact MJ_loc _ rfl (lp (nR S + 1) 0 (by omega) (by omega))
set_option maxRecDepth 100000 in
set_option maxHeartbeats 4000000 in
theorem mm_done {o ask : Int32} {v : Int64} (hW : WF1 S) (ha : inN ask (nA S) = true) (hr : nR S < 700) : MM x y 2 kX7_done [.ref y.1, .int o, .int ask, .long v] S (fun z S' => z = none ∧ S' = doneF S o ask v) := by
  refine MM.ofJ mkX7_done.1 (Nat.le_of_ble_eq_true rfl) fun h0 => ?_
  refine MJ_aload_n dX7_done_0 rfl rfl isR_r ?_
  refine MJ_iload_n dX7_done_1 rfl rfl ?_
  refine MJ_aload_n dX7_done_2 rfl rfl isR_r ?_
  refine MJ_getA dX7_done_3 g_X7_30 (by decide) ?_
  refine MJ_iload_n dX7_done_6 rfl rfl ?_
  refine MJ_iald dX7_done_7 (inx_v (hW.le300 ha)) (by decide) ?_
  refine MJ_iconst (v := 1) dX7_done_8 (by decide) ?_
  refine MJ_lload_n dX7_done_9 rfl rfl ?_
  refine MJ_pc (pc' := 10) rfl ?_
  refine MJ_iconst (v := -1) dX7_done_10 (by decide) ?_
  refine MJ_callV (mm_putRecord hW hr) dX7_done_11 ml_X7_175 mkX7_putRecord rfl rfl rfl (Nat.le_of_ble_eq_true rfl) ⟨Nat.le_of_ble_eq_true rfl, Nat.le_of_ble_eq_true rfl⟩ (fun v11 hp11 q11 => ?_)
  obtain ⟨rfl, z11⟩ := q11
  rw [z11]
  refine MJ_aload_n dX7_done_14 rfl rfl isR_r ?_
  refine MJ_iload_n dX7_done_15 rfl rfl ?_
  refine MJ_iconst (v := 1) dX7_done_16 (by decide) ?_
  refine MJ_lload_n dX7_done_17 rfl rfl ?_
  refine MJ_callV (mm_send (ans := true) (WF1_put hW hr (fun z => absurd z (by decide))) (by rw [put_nA]; exact ha)) dX7_done_18 ml_X7_151 mkX7_send rfl rfl rfl (Nat.le_of_ble_eq_true rfl) ⟨Nat.le_of_ble_eq_true rfl, Nat.le_of_ble_eq_true rfl⟩ (fun v18 hp18 q18 => ?_)
  obtain ⟨rfl, z18⟩ := q18
  rw [z18]
  exact MJ_return dX7_done_21 rfl ⟨rfl, rfl⟩
theorem WF1_done (hW : WF1 S) {o ask : Int32} {v : Int64} (ha : inN ask (nA S) = true) (hr : nR S < 700) : WF1 (doneF S o ask v) := WF1_send (WF1_put hW hr (fun z => absurd z (by decide))) (by rw [put_nA]; exact ha)
set_option maxRecDepth 100000 in
set_option maxHeartbeats 4000000 in
theorem mm_cancel {o ask : Int32} (hW : WF1 S) (ho : inN o 40 = true) (ha : inN ask (nA S) = true) (hr : nR S + 1 < 700) : MM x y 3 kX7_cancel [.ref y.1, .int o, .int ask] S (fun z S' => z = none ∧ S' = cancelF S o ask) := by
  refine MM.ofJ mkX7_cancel.1 (Nat.le_of_ble_eq_true rfl) fun h0 => ?_
  have ha3 := hW.le300 ha
  have fin : ∀ v : Int64, cancelA S o ask = v → v ≠ 1 → cancelF S o ask = doneF S o ask v := fun v e h => by unfold cancelF; rw [e, if_neg h]
  have fin1 : cancelA S o ask = 1 → cancelF S o ask = doneF (putRecF S o (mT S 462 (tn ask)) 3 0 (-1)) o ask 1 := fun e => by unfold cancelF; rw [e, if_pos rfl]
  cases hf : fnd S o (mT S 462 (tn ask)) with
  | none =>
    refine MJ_aload_n dX7_cancel_0 rfl rfl isR_r ?_
    refine MJ_getA dX7_cancel_1 g_X7_48 (by decide) ?_
    refine MJ_iload_n dX7_cancel_4 rfl rfl ?_
    refine MJ_iald dX7_cancel_5 (inx_v ha3) (by decide) ?_
    refine MJ_istore_n dX7_cancel_6 rfl (by decide) ?_
    refine MJ_aload_n dX7_cancel_7 rfl rfl isR_r ?_
    refine MJ_iload_n dX7_cancel_8 rfl rfl ?_
    refine MJ_iload_n dX7_cancel_9 rfl rfl ?_
    refine MJ_pc (pc' := 10) rfl ?_
    refine MJ_callV (mm_findRecord hW.1.2.2) dX7_cancel_10 ml_X7_169 mkX7_findRecord rfl rfl rfl (Nat.le_of_ble_eq_true rfl) ⟨Nat.le_of_ble_eq_true rfl, Nat.le_of_ble_eq_true rfl⟩ (fun v10 hp10 q10 => ?_)
    obtain ⟨rfl, z10⟩ := q10
    rw [z10]
    refine MJ_istore dX7_cancel_13 (by decide) ?_
    refine MJ_lconst (v := 1) dX7_cancel_15 (by decide) ?_
    refine MJ_lstore dX7_cancel_16 (by decide) ?_
    refine MJ_iload_n dX7_cancel_18 rfl rfl ?_
    refine MJ_aload_n dX7_cancel_19 rfl rfl isR_r ?_
    refine MJ_getA dX7_cancel_20 g_X7_30 (by decide) ?_
    refine MJ_iload_n dX7_cancel_23 rfl rfl ?_
    refine MJ_pc (pc' := 24) rfl ?_
    refine MJ_iald dX7_cancel_24 (inx_v ha3) (by decide) ?_
    refine MJ_icmp_eq (tgt := 54) dX7_cancel_25 (by decide) (fun c25 => ?_) (fun c25 => ?_)
    · refine MJ_lconst (v := 0) dX7_cancel_54 (by decide) ?_
      refine MJ_lstore dX7_cancel_55 (by decide) ?_
      refine MJ_goto (tgt := 116) dX7_cancel_57 (by decide) ?_
      refine MJ_aload_n dX7_cancel_116 rfl rfl isR_r ?_
      refine MJ_iload_n dX7_cancel_117 rfl rfl ?_
      refine MJ_iload_n dX7_cancel_118 rfl rfl ?_
      refine MJ_lload dX7_cancel_119 rfl ?_
      refine MJ_callV (mm_done hW ha (by omega)) dX7_cancel_121 ml_X7_195 mkX7_done rfl rfl rfl (Nat.le_of_ble_eq_true rfl) ⟨Nat.le_of_ble_eq_true rfl, Nat.le_of_ble_eq_true rfl⟩ (fun v121 hp121 q121 => ?_)
      obtain ⟨rfl, z121⟩ := q121
      rw [z121]
      exact MJ_return dX7_cancel_124 rfl ⟨rfl, (fin 0 (by unfold cancelA; rw [if_pos (Or.inl c25)]) (by decide)).symm⟩
    · refine MJ_iload_n dX7_cancel_28 rfl rfl ?_
      refine MJ_aload_n dX7_cancel_29 rfl rfl isR_r ?_
      refine MJ_getA dX7_cancel_30 g_X7_84 (by decide) ?_
      refine MJ_iload_n dX7_cancel_33 rfl rfl ?_
      refine MJ_iald dX7_cancel_34 (inx_v ho) (by decide) ?_
      refine MJ_icmp_lt (tgt := 54) dX7_cancel_35 (by decide) (fun c35 => ?_) (fun c35 => ?_)
      · refine MJ_lconst (v := 0) dX7_cancel_54 (by decide) ?_
        refine MJ_lstore dX7_cancel_55 (by decide) ?_
        refine MJ_goto (tgt := 116) dX7_cancel_57 (by decide) ?_
        refine MJ_aload_n dX7_cancel_116 rfl rfl isR_r ?_
        refine MJ_iload_n dX7_cancel_117 rfl rfl ?_
        refine MJ_iload_n dX7_cancel_118 rfl rfl ?_
        refine MJ_lload dX7_cancel_119 rfl ?_
        refine MJ_callV (mm_done hW ha (by omega)) dX7_cancel_121 ml_X7_195 mkX7_done rfl rfl rfl (Nat.le_of_ble_eq_true rfl) ⟨Nat.le_of_ble_eq_true rfl, Nat.le_of_ble_eq_true rfl⟩ (fun v121 hp121 q121 => ?_)
        obtain ⟨rfl, z121⟩ := q121
        rw [z121]
        exact MJ_return dX7_cancel_124 rfl ⟨rfl, (fin 0 (by unfold cancelA; rw [if_pos (Or.inr c35)]) (by decide)).symm⟩
      · refine MJ_iload dX7_cancel_38 rfl ?_
        refine MJ_if_lt (tgt := 60) dX7_cancel_40 (by decide) (fun c40 => ?_) (fun c40 => ((c40 (show oI _ < 0 by rw [hf]; decide))).elim)
        refine MJ_iload dX7_cancel_60 rfl ?_
        refine MJ_if_lt (tgt := 84) dX7_cancel_62 (by decide) (fun c62 => ?_) (fun c62 => ((c62 (show oI _ < 0 by rw [hf]; decide))).elim)
        refine MJ_iload_n dX7_cancel_84 rfl rfl ?_
        refine MJ_aload_n dX7_cancel_85 rfl rfl isR_r ?_
        refine MJ_getA dX7_cancel_86 g_X7_84 (by decide) ?_
        refine MJ_iload_n dX7_cancel_89 rfl rfl ?_
        refine MJ_iald dX7_cancel_90 (inx_v ho) (by decide) ?_
        refine MJ_aload_n dX7_cancel_91 rfl rfl isR_r ?_
        refine MJ_pc (pc' := 92) rfl ?_
        refine MJ_getI dX7_cancel_92 g_X7_102 ?_
        refine MJ_iadd dX7_cancel_95 ?_
        refine MJ_icmp_lt (tgt := 107) dX7_cancel_96 (by decide) (fun c96 => ?_) (fun c96 => ?_)
        · refine MJ_aload_n dX7_cancel_107 rfl rfl isR_r ?_
          refine MJ_iload_n dX7_cancel_108 rfl rfl ?_
          refine MJ_iload_n dX7_cancel_109 rfl rfl ?_
          refine MJ_iconst (v := 3) dX7_cancel_110 (by decide) ?_
          refine MJ_lconst (v := 0) dX7_cancel_111 (by decide) ?_
          refine MJ_iconst (v := -1) dX7_cancel_112 (by decide) ?_
          refine MJ_callV (mm_putRecord hW (by omega)) dX7_cancel_113 ml_X7_175 mkX7_putRecord rfl rfl rfl (Nat.le_of_ble_eq_true rfl) ⟨Nat.le_of_ble_eq_true rfl, Nat.le_of_ble_eq_true rfl⟩ (fun v113 hp113 q113 => ?_)
          obtain ⟨rfl, z113⟩ := q113
          rw [z113]
          refine MJ_aload_n dX7_cancel_116 rfl rfl isR_r ?_
          refine MJ_pc (pc' := 117) rfl ?_
          refine MJ_iload_n dX7_cancel_117 rfl rfl ?_
          refine MJ_iload_n dX7_cancel_118 rfl rfl ?_
          refine MJ_lload dX7_cancel_119 rfl ?_
          refine MJ_callV (mm_done (WF1_put hW (by omega) (fun z => absurd z (by decide))) (by rw [put_nA]; exact ha) (by have := put_n hW (show nR S < 700 by omega) o (mT S 462 (tn ask)) 3 0 (-1); omega)) dX7_cancel_121 ml_X7_195 mkX7_done rfl rfl rfl (Nat.le_of_ble_eq_true rfl) ⟨Nat.le_of_ble_eq_true rfl, Nat.le_of_ble_eq_true rfl⟩ (fun v121 hp121 q121 => ?_)
          obtain ⟨rfl, z121⟩ := q121
          rw [z121]
          exact MJ_return dX7_cancel_124 rfl ⟨rfl, (fin1 (by unfold cancelA; rw [if_neg (fun z => z.elim c25 c35), hf]; simp only; rw [if_neg (fun z => by rw [n_lt] at c96; rw [n_le] at z; omega)])).symm⟩
        · refine MJ_ldc2 dX7_cancel_99 ll_X7_132 ?_
          refine MJ_lstore dX7_cancel_102 (by decide) ?_
          refine MJ_goto (tgt := 116) dX7_cancel_104 (by decide) ?_
          refine MJ_aload_n dX7_cancel_116 rfl rfl isR_r ?_
          refine MJ_iload_n dX7_cancel_117 rfl rfl ?_
          refine MJ_iload_n dX7_cancel_118 rfl rfl ?_
          refine MJ_lload dX7_cancel_119 rfl ?_
          refine MJ_callV (mm_done hW ha (by omega)) dX7_cancel_121 ml_X7_195 mkX7_done rfl rfl rfl (Nat.le_of_ble_eq_true rfl) ⟨Nat.le_of_ble_eq_true rfl, Nat.le_of_ble_eq_true rfl⟩ (fun v121 hp121 q121 => ?_)
          obtain ⟨rfl, z121⟩ := q121
          rw [z121]
          exact MJ_return dX7_cancel_124 rfl ⟨rfl, (fin 3 (by unfold cancelA; rw [if_neg (fun z => z.elim c25 c35), hf]; simp only; rw [if_pos (by rw [n_lt] at c96; rw [n_le]; omega)]) (by decide)).symm⟩
  | some r =>
    have hr7 := fnd_bound hW hf
    refine MJ_aload_n dX7_cancel_0 rfl rfl isR_r ?_
    refine MJ_getA dX7_cancel_1 g_X7_48 (by decide) ?_
    refine MJ_iload_n dX7_cancel_4 rfl rfl ?_
    refine MJ_iald dX7_cancel_5 (inx_v ha3) (by decide) ?_
    refine MJ_istore_n dX7_cancel_6 rfl (by decide) ?_
    refine MJ_aload_n dX7_cancel_7 rfl rfl isR_r ?_
    refine MJ_iload_n dX7_cancel_8 rfl rfl ?_
    refine MJ_iload_n dX7_cancel_9 rfl rfl ?_
    refine MJ_pc (pc' := 10) rfl ?_
    refine MJ_callV (mm_findRecord hW.1.2.2) dX7_cancel_10 ml_X7_169 mkX7_findRecord rfl rfl rfl (Nat.le_of_ble_eq_true rfl) ⟨Nat.le_of_ble_eq_true rfl, Nat.le_of_ble_eq_true rfl⟩ (fun v10 hp10 q10 => ?_)
    obtain ⟨rfl, z10⟩ := q10
    rw [z10]
    rw [hf]
    refine MJ_istore dX7_cancel_13 (by decide) ?_
    refine MJ_lconst (v := 1) dX7_cancel_15 (by decide) ?_
    refine MJ_lstore dX7_cancel_16 (by decide) ?_
    refine MJ_iload_n dX7_cancel_18 rfl rfl ?_
    refine MJ_aload_n dX7_cancel_19 rfl rfl isR_r ?_
    refine MJ_getA dX7_cancel_20 g_X7_30 (by decide) ?_
    refine MJ_iload_n dX7_cancel_23 rfl rfl ?_
    refine MJ_pc (pc' := 24) rfl ?_
    refine MJ_iald dX7_cancel_24 (inx_v ha3) (by decide) ?_
    refine MJ_icmp_eq (tgt := 54) dX7_cancel_25 (by decide) (fun c25 => ?_) (fun c25 => ?_)
    · refine MJ_lconst (v := 0) dX7_cancel_54 (by decide) ?_
      refine MJ_lstore dX7_cancel_55 (by decide) ?_
      refine MJ_goto (tgt := 116) dX7_cancel_57 (by decide) ?_
      refine MJ_aload_n dX7_cancel_116 rfl rfl isR_r ?_
      refine MJ_iload_n dX7_cancel_117 rfl rfl ?_
      refine MJ_iload_n dX7_cancel_118 rfl rfl ?_
      refine MJ_lload dX7_cancel_119 rfl ?_
      refine MJ_callV (mm_done hW ha (by omega)) dX7_cancel_121 ml_X7_195 mkX7_done rfl rfl rfl (Nat.le_of_ble_eq_true rfl) ⟨Nat.le_of_ble_eq_true rfl, Nat.le_of_ble_eq_true rfl⟩ (fun v121 hp121 q121 => ?_)
      obtain ⟨rfl, z121⟩ := q121
      rw [z121]
      exact MJ_return dX7_cancel_124 rfl ⟨rfl, (fin 0 (by unfold cancelA; rw [if_pos (Or.inl c25)]) (by decide)).symm⟩
    · refine MJ_iload_n dX7_cancel_28 rfl rfl ?_
      refine MJ_aload_n dX7_cancel_29 rfl rfl isR_r ?_
      refine MJ_getA dX7_cancel_30 g_X7_84 (by decide) ?_
      refine MJ_iload_n dX7_cancel_33 rfl rfl ?_
      refine MJ_iald dX7_cancel_34 (inx_v ho) (by decide) ?_
      refine MJ_icmp_lt (tgt := 54) dX7_cancel_35 (by decide) (fun c35 => ?_) (fun c35 => ?_)
      · refine MJ_lconst (v := 0) dX7_cancel_54 (by decide) ?_
        refine MJ_lstore dX7_cancel_55 (by decide) ?_
        refine MJ_goto (tgt := 116) dX7_cancel_57 (by decide) ?_
        refine MJ_aload_n dX7_cancel_116 rfl rfl isR_r ?_
        refine MJ_iload_n dX7_cancel_117 rfl rfl ?_
        refine MJ_iload_n dX7_cancel_118 rfl rfl ?_
        refine MJ_lload dX7_cancel_119 rfl ?_
        refine MJ_callV (mm_done hW ha (by omega)) dX7_cancel_121 ml_X7_195 mkX7_done rfl rfl rfl (Nat.le_of_ble_eq_true rfl) ⟨Nat.le_of_ble_eq_true rfl, Nat.le_of_ble_eq_true rfl⟩ (fun v121 hp121 q121 => ?_)
        obtain ⟨rfl, z121⟩ := q121
        rw [z121]
        exact MJ_return dX7_cancel_124 rfl ⟨rfl, (fin 0 (by unfold cancelA; rw [if_pos (Or.inr c35)]) (by decide)).symm⟩
      · refine MJ_iload dX7_cancel_38 rfl ?_
        refine MJ_if_lt (tgt := 60) dX7_cancel_40 (by decide) (fun c40 => ((nI_pos (show r < 2 ^ 31 by omega) c40)).elim) (fun c40 => ?_)
        refine MJ_aload_n dX7_cancel_43 rfl rfl isR_r ?_
        refine MJ_getA dX7_cancel_44 g_X7_93 (by decide) ?_
        refine MJ_iload dX7_cancel_47 rfl ?_
        refine MJ_iald dX7_cancel_49 (inx_n (show r < 700 from hr7) (by decide)) (by decide) ?_
        refine MJ_iconst (v := 1) dX7_cancel_50 (by decide) ?_
        refine MJ_icmp_ne (tgt := 60) dX7_cancel_51 (by decide) (fun c51 => ?_) (fun c51 => ?_)
        · refine MJ_iload dX7_cancel_60 rfl ?_
          refine MJ_if_lt (tgt := 84) dX7_cancel_62 (by decide) (fun c62 => ((nI_pos (show r < 2 ^ 31 by omega) c62)).elim) (fun c62 => ?_)
          refine MJ_aload_n dX7_cancel_65 rfl rfl isR_r ?_
          refine MJ_getA dX7_cancel_66 g_X7_93 (by decide) ?_
          refine MJ_iload dX7_cancel_69 rfl ?_
          refine MJ_iald dX7_cancel_71 (inx_n (show r < 700 from hr7) (by decide)) (by decide) ?_
          refine MJ_iconst (v := 2) dX7_cancel_72 (by decide) ?_
          refine MJ_icmp_ne (tgt := 84) dX7_cancel_73 (by decide) (fun c73 => ?_) (fun c73 => ?_)
          · refine MJ_iload_n dX7_cancel_84 rfl rfl ?_
            refine MJ_aload_n dX7_cancel_85 rfl rfl isR_r ?_
            refine MJ_getA dX7_cancel_86 g_X7_84 (by decide) ?_
            refine MJ_iload_n dX7_cancel_89 rfl rfl ?_
            refine MJ_iald dX7_cancel_90 (inx_v ho) (by decide) ?_
            refine MJ_aload_n dX7_cancel_91 rfl rfl isR_r ?_
            refine MJ_getI dX7_cancel_92 g_X7_102 ?_
            refine MJ_iadd dX7_cancel_95 ?_
            refine MJ_pc (pc' := 96) rfl ?_
            refine MJ_icmp_lt (tgt := 107) dX7_cancel_96 (by decide) (fun c96 => ?_) (fun c96 => ?_)
            · refine MJ_aload_n dX7_cancel_107 rfl rfl isR_r ?_
              refine MJ_iload_n dX7_cancel_108 rfl rfl ?_
              refine MJ_iload_n dX7_cancel_109 rfl rfl ?_
              refine MJ_iconst (v := 3) dX7_cancel_110 (by decide) ?_
              refine MJ_lconst (v := 0) dX7_cancel_111 (by decide) ?_
              refine MJ_iconst (v := -1) dX7_cancel_112 (by decide) ?_
              refine MJ_callV (mm_putRecord hW (by omega)) dX7_cancel_113 ml_X7_175 mkX7_putRecord rfl rfl rfl (Nat.le_of_ble_eq_true rfl) ⟨Nat.le_of_ble_eq_true rfl, Nat.le_of_ble_eq_true rfl⟩ (fun v113 hp113 q113 => ?_)
              obtain ⟨rfl, z113⟩ := q113
              rw [z113]
              refine MJ_aload_n dX7_cancel_116 rfl rfl isR_r ?_
              refine MJ_pc (pc' := 117) rfl ?_
              refine MJ_iload_n dX7_cancel_117 rfl rfl ?_
              refine MJ_iload_n dX7_cancel_118 rfl rfl ?_
              refine MJ_lload dX7_cancel_119 rfl ?_
              refine MJ_callV (mm_done (WF1_put hW (by omega) (fun z => absurd z (by decide))) (by rw [put_nA]; exact ha) (by have := put_n hW (show nR S < 700 by omega) o (mT S 462 (tn ask)) 3 0 (-1); omega)) dX7_cancel_121 ml_X7_195 mkX7_done rfl rfl rfl (Nat.le_of_ble_eq_true rfl) ⟨Nat.le_of_ble_eq_true rfl, Nat.le_of_ble_eq_true rfl⟩ (fun v121 hp121 q121 => ?_)
              obtain ⟨rfl, z121⟩ := q121
              rw [z121]
              exact MJ_return dX7_cancel_124 rfl ⟨rfl, (fin1 (by unfold cancelA; rw [if_neg (fun z => z.elim c25 c35), hf]; simp only; rw [if_neg c51, if_neg c73, if_neg (fun z => by rw [n_lt] at c96; rw [n_le] at z; omega)])).symm⟩
            · refine MJ_ldc2 dX7_cancel_99 ll_X7_132 ?_
              refine MJ_lstore dX7_cancel_102 (by decide) ?_
              refine MJ_goto (tgt := 116) dX7_cancel_104 (by decide) ?_
              refine MJ_aload_n dX7_cancel_116 rfl rfl isR_r ?_
              refine MJ_iload_n dX7_cancel_117 rfl rfl ?_
              refine MJ_iload_n dX7_cancel_118 rfl rfl ?_
              refine MJ_lload dX7_cancel_119 rfl ?_
              refine MJ_callV (mm_done hW ha (by omega)) dX7_cancel_121 ml_X7_195 mkX7_done rfl rfl rfl (Nat.le_of_ble_eq_true rfl) ⟨Nat.le_of_ble_eq_true rfl, Nat.le_of_ble_eq_true rfl⟩ (fun v121 hp121 q121 => ?_)
              obtain ⟨rfl, z121⟩ := q121
              rw [z121]
              exact MJ_return dX7_cancel_124 rfl ⟨rfl, (fin 3 (by unfold cancelA; rw [if_neg (fun z => z.elim c25 c35), hf]; simp only; rw [if_neg c51, if_neg c73, if_pos (by rw [n_lt] at c96; rw [n_le]; omega)]) (by decide)).symm⟩
          · refine MJ_ldc2 dX7_cancel_76 ll_X7_164 ?_
            refine MJ_lstore dX7_cancel_79 (by decide) ?_
            refine MJ_goto (tgt := 116) dX7_cancel_81 (by decide) ?_
            refine MJ_aload_n dX7_cancel_116 rfl rfl isR_r ?_
            refine MJ_iload_n dX7_cancel_117 rfl rfl ?_
            refine MJ_iload_n dX7_cancel_118 rfl rfl ?_
            refine MJ_lload dX7_cancel_119 rfl ?_
            refine MJ_callV (mm_done hW ha (by omega)) dX7_cancel_121 ml_X7_195 mkX7_done rfl rfl rfl (Nat.le_of_ble_eq_true rfl) ⟨Nat.le_of_ble_eq_true rfl, Nat.le_of_ble_eq_true rfl⟩ (fun v121 hp121 q121 => ?_)
            obtain ⟨rfl, z121⟩ := q121
            rw [z121]
            exact MJ_return dX7_cancel_124 rfl ⟨rfl, (fin 2 (by unfold cancelA; rw [if_neg (fun z => z.elim c25 c35), hf]; simp only; rw [if_neg c51, if_pos c73]) (by decide)).symm⟩
        · refine MJ_lconst (v := 0) dX7_cancel_54 (by decide) ?_
          refine MJ_lstore dX7_cancel_55 (by decide) ?_
          refine MJ_goto (tgt := 116) dX7_cancel_57 (by decide) ?_
          refine MJ_aload_n dX7_cancel_116 rfl rfl isR_r ?_
          refine MJ_iload_n dX7_cancel_117 rfl rfl ?_
          refine MJ_iload_n dX7_cancel_118 rfl rfl ?_
          refine MJ_lload dX7_cancel_119 rfl ?_
          refine MJ_callV (mm_done hW ha (by omega)) dX7_cancel_121 ml_X7_195 mkX7_done rfl rfl rfl (Nat.le_of_ble_eq_true rfl) ⟨Nat.le_of_ble_eq_true rfl, Nat.le_of_ble_eq_true rfl⟩ (fun v121 hp121 q121 => ?_)
          obtain ⟨rfl, z121⟩ := q121
          rw [z121]
          exact MJ_return dX7_cancel_124 rfl ⟨rfl, (fin 0 (by unfold cancelA; rw [if_neg (fun z => z.elim c25 c35), hf]; simp only; rw [if_pos c51]) (by decide)).symm⟩
theorem WF1_cancel (hW : WF1 S) {o ask : Int32} (ha : inN ask (nA S) = true) (hr : nR S + 1 < 700) : WF1 (cancelF S o ask) := by
  unfold cancelF
  split
  · exact WF1_done (WF1_put hW (by omega) (fun z => absurd z (by decide))) (by rw [put_nA]; exact ha) (by have := put_n hW (show nR S < 700 by omega) o (mT S 462 (tn ask)) 3 0 (-1); omega)
  · exact WF1_done hW ha (by omega)
end M3
