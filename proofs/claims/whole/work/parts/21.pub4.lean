section P4
variable {x : om_x} {y : om_y} {S : Ms}
def midS (S : Ms) (o : Int32) : Nat → Bool
  | 0 => false
  | k + 1 => midS S o k || decide (mT S 477 k = o ∧ mT S 479 k = 2)
def leaveF (S : Ms) (o : Int32) : Ms := pT (pT S 474 (tn o) (mT S 474 (tn o) + 1)) 475 (tn o) 1
def leaveP (S : Ms) (s a : Int32) : Int32 × Ms := if inN s 4 = false ∨ inN a 6 = false then (-2000001, S) else if mT S 449 (tn (6 + s)) ≠ 0 ∨ midS S (10 * s + a) (nR S) = true then (-2000002, S) else (nI (goneF (leaveF S (10 * s + a)) (10 * s + a) 2147483647), forgetF (leaveF S (10 * s + a)) (10 * s + a) 2147483647)
set_option maxRecDepth 100000 in
set_option maxHeartbeats 4000000 in
theorem mp_leave {s a : Int32} (hn : inN (mI S 476) 701 = true) : MM x y 2 kX7_leave [.ref y.1, .int s, .int a] S (fun z S' => z = some (.int (leaveP S s a).1) ∧ S' = (leaveP S s a).2) := by
  refine MM.ofJ mkX7_leave.1 (Nat.le_of_ble_eq_true rfl) fun h0 => ?_
  obtain ⟨hn1, hn2, hn3⟩ := inN_tn hn
  have hk2 : nR S < 701 := hn2
  have lp : inN s 4 = true → inN (10 * s + a) 40 = true → ∀ m k, k ≤ nR S → nR S - k < m → MJ x y h0 2 (fun z S' => z = some (.int (if mT S 449 (tn (6 + s)) ≠ 0 ∨ midS S (10 * s + a) (nR S) = true then (-2000002, S) else (nI (goneF (leaveF S (10 * s + a)) (10 * s + a) 2147483647), forgetF (leaveF S (10 * s + a)) (10 * s + a) 2147483647)).1) ∧ S' = (if mT S 449 (tn (6 + s)) ≠ 0 ∨ midS S (10 * s + a) (nR S) = true then ((-2000002 : Int32), S) else (nI (goneF (leaveF S (10 * s + a)) (10 * s + a) 2147483647), forgetF (leaveF S (10 * s + a)) (10 * s + a) 2147483647)).2) kX7_leave 35 [(0, .ref y.1), (1, .int s), (2, .int a), (3, .int (10 * s + a)), (4, .int (bi (midS S (10 * s + a) k))), (5, .int (nI k))] [] S := by
    intro hs ho m
    have hs6 := inN_sv hs
    induction m with
    | zero => intro k _ h; omega
    | succ m ih =>
      intro k hk hm
      have h8 := ih (k + 1)
      simp only [midS] at h8
      refine MJ_iload dX7_leave_35 rfl ?_
      refine MJ_aload_n dX7_leave_37 rfl rfl isR_r ?_
      refine MJ_getI dX7_leave_38 g_X7_166 ?_
      rw [show mI S 476 = nI (nR S) from hn1]
      refine MJ_icmp_ge (tgt := 84) dX7_leave_41 (by decide) (fun c41 => ?_) (fun c41 => ?_)
      · rw [nI_lei (by omega) (by omega)] at c41
        have e : k = nR S := by omega
        subst e
        refine MJ_aload_n dX7_leave_84 rfl rfl isR_r ?_
        refine MJ_getA dX7_leave_85 g_X7_7 (by decide) ?_
        refine MJ_bipush (v := 6) dX7_leave_88 (by decide) ?_
        refine MJ_iload_n dX7_leave_90 rfl rfl ?_
        refine MJ_iadd dX7_leave_91 ?_
        refine MJ_zald dX7_leave_92 (inx_v hs6) (by decide) ?_
        refine MJ_if_ne (tgt := 101) dX7_leave_93 (by decide) (fun c93 => ?_) (fun c93 => ?_)
        · refine MJ_ldc dX7_leave_101 lc_X7_141 ?_
          exact MJ_ireturn dX7_leave_103 rfl ⟨by rw [if_pos (Or.inl c93)], by rw [if_pos (Or.inl c93)]⟩
        · refine MJ_iload dX7_leave_96 rfl ?_
          refine MJ_if_eq (tgt := 104) dX7_leave_98 (by decide) (fun c98 => ?_) (fun c98 => ?_)
          · rw [if_neg (fun z => z.elim (fun q => q c93) (fun q => by rw [bi_0.mp c98] at q; cases q))]
            refine MJ_aload_n dX7_leave_104 rfl rfl isR_r ?_
            refine MJ_getA dX7_leave_105 g_X7_81 (by decide) ?_
            refine MJ_iload_n dX7_leave_108 rfl rfl ?_
            refine MJ_dup2 dX7_leave_109 rfl rfl ?_
            refine MJ_iald dX7_leave_110 (inx_v ho) (by decide) ?_
            refine MJ_iconst (v := 1) dX7_leave_111 (by decide) ?_
            refine MJ_iadd dX7_leave_112 ?_
            refine MJ_iast dX7_leave_113 (inx_v ho) (by decide) ?_
            refine MJ_pc (pc' := 114) rfl ?_
            refine MJ_aload_n dX7_leave_114 rfl rfl isR_r ?_
            refine MJ_getA dX7_leave_115 g_X7_84 (by decide) ?_
            refine MJ_iload_n dX7_leave_118 rfl rfl ?_
            refine MJ_iconst (v := 1) dX7_leave_119 (by decide) ?_
            refine MJ_iast dX7_leave_120 (inx_v ho) (by decide) ?_
            refine MJ_aload_n dX7_leave_121 rfl rfl isR_r ?_
            refine MJ_iload_n dX7_leave_122 rfl rfl ?_
            refine MJ_ldc dX7_leave_123 lc_X7_181 ?_
            refine MJ_pc (pc' := 125) rfl ?_
            refine MJ_callV (mm_forget hn) dX7_leave_125 ml_X7_182 mkX7_forget rfl rfl rfl (Nat.le_of_ble_eq_true rfl) ⟨Nat.le_of_ble_eq_true rfl, Nat.le_of_ble_eq_true rfl⟩ (fun v125 hp125 q125 => ?_)
            obtain ⟨rfl, z125⟩ := q125
            rw [z125]
            exact MJ_ireturn dX7_leave_128 rfl ⟨rfl, rfl⟩
          · refine MJ_ldc dX7_leave_101 lc_X7_141 ?_
            exact MJ_ireturn dX7_leave_103 rfl ⟨by rw [if_pos (Or.inr (bi_1.mp c98))], by rw [if_pos (Or.inr (bi_1.mp c98))]⟩
      · rw [nI_lei (by omega) (by omega)] at c41
        refine MJ_iload dX7_leave_44 rfl ?_
        refine MJ_if_ne (tgt := 71) dX7_leave_46 (by decide) (fun c46 => ?_) (fun c46 => ?_)
        · refine MJ_iconst (v := 1) dX7_leave_71 (by decide) ?_
          refine MJ_goto (tgt := 76) dX7_leave_72 (by decide) ?_
          refine MJ_istore dX7_leave_76 (by decide) ?_
          refine MJ_iinc dX7_leave_78 rfl (nI_inc _) (by decide) ?_
          refine MJ_goto (tgt := 35) dX7_leave_81 (by decide) ?_
          rw [bi_1.mp c46, Bool.true_or] at h8
          exact MJ_loc _ rfl (h8 (by omega) (by omega))
        · refine MJ_aload_n dX7_leave_49 rfl rfl isR_r ?_
          refine MJ_getA dX7_leave_50 g_X7_87 (by decide) ?_
          refine MJ_iload dX7_leave_53 rfl ?_
          refine MJ_iald dX7_leave_55 (by first | assumption | exact inx_v (by assumption) | exact inx_n (show _ < 700 by omega) (by decide)) (by decide) ?_
          refine MJ_iload_n dX7_leave_56 rfl rfl ?_
          refine MJ_icmp_ne (tgt := 75) dX7_leave_57 (by decide) (fun c57 => ?_) (fun c57 => ?_)
          · refine MJ_iconst (v := 0) dX7_leave_75 (by decide) ?_
            refine MJ_istore dX7_leave_76 (by decide) ?_
            refine MJ_iinc dX7_leave_78 rfl (nI_inc _) (by decide) ?_
            refine MJ_goto (tgt := 35) dX7_leave_81 (by decide) ?_
            rw [bi_0.mp c46, decide_eq_false (fun z => c57 z.1)] at h8
            exact MJ_loc _ rfl (h8 (by omega) (by omega))
          · refine MJ_aload_n dX7_leave_60 rfl rfl isR_r ?_
            refine MJ_getA dX7_leave_61 g_X7_93 (by decide) ?_
            refine MJ_iload dX7_leave_64 rfl ?_
            refine MJ_iald dX7_leave_66 (by first | assumption | exact inx_v (by assumption) | exact inx_n (show _ < 700 by omega) (by decide)) (by decide) ?_
            refine MJ_iconst (v := 2) dX7_leave_67 (by decide) ?_
            refine MJ_icmp_ne (tgt := 75) dX7_leave_68 (by decide) (fun c68 => ?_) (fun c68 => ?_)
            · refine MJ_iconst (v := 0) dX7_leave_75 (by decide) ?_
              refine MJ_istore dX7_leave_76 (by decide) ?_
              refine MJ_iinc dX7_leave_78 rfl (nI_inc _) (by decide) ?_
              refine MJ_goto (tgt := 35) dX7_leave_81 (by decide) ?_
              rw [bi_0.mp c46, decide_eq_false (fun z => c68 z.2)] at h8
              exact MJ_loc _ rfl (h8 (by omega) (by omega))
            · refine MJ_iconst (v := 1) dX7_leave_71 (by decide) ?_
              refine MJ_goto (tgt := 76) dX7_leave_72 (by decide) ?_
              refine MJ_istore dX7_leave_76 (by decide) ?_
              refine MJ_iinc dX7_leave_78 rfl (nI_inc _) (by decide) ?_
              refine MJ_goto (tgt := 35) dX7_leave_81 (by decide) ?_
              rw [decide_eq_true ⟨c57, c68⟩, Bool.or_true] at h8
              exact MJ_loc _ rfl (h8 (by omega) (by omega))
  unfold leaveP
  refine MJ_iload_n dX7_leave_0 rfl rfl ?_
  refine MJ_callS (mm_isServer) dX7_leave_1 ml_X7_237 mkX7_isServer rfl rfl (Nat.le_of_ble_eq_true rfl) ⟨Nat.le_of_ble_eq_true rfl, Nat.le_of_ble_eq_true rfl⟩ (fun v1 hp1 q1 => ?_)
  obtain ⟨rfl, z1⟩ := q1
  rw [z1]
  refine MJ_if_eq (tgt := 19) dX7_leave_4 (by decide) (fun c4 => ?_) (fun c4 => ?_)
  · refine MJ_ldc dX7_leave_19 lc_X7_140 ?_
    exact MJ_ireturn dX7_leave_21 rfl ⟨by rw [if_pos (Or.inl (bi_0.mp c4))], by rw [if_pos (Or.inl (bi_0.mp c4))]⟩
  · refine MJ_iload_n dX7_leave_7 rfl rfl ?_
    refine MJ_i2l dX7_leave_8 ?_
    refine MJ_lconst (v := 0) dX7_leave_9 (by decide) ?_
    refine MJ_ldc2 dX7_leave_10 ll_X7_130 ?_
    refine MJ_callS (mm_in _ _ _) dX7_leave_13 ml_X7_109 mkX7_in rfl rfl (Nat.le_of_ble_eq_true rfl) ⟨Nat.le_of_ble_eq_true rfl, Nat.le_of_ble_eq_true rfl⟩ (fun v13 hp13 q13 => ?_)
    obtain ⟨rfl, z13⟩ := q13
    rw [z13]
    rw [inL_inN (m := 5) 6 (by decide)]
    refine MJ_if_ne (tgt := 22) dX7_leave_16 (by decide) (fun c16 => ?_) (fun c16 => ?_)
    · have ho := inN_of (bi_1.mp c4) (inN_le (bi_1.mp c16) (show 6 ≤ 10 by decide))
      rw [if_neg (fun z => z.elim (fun q => by rw [bi_1.mp c4] at q; cases q) (fun q => by rw [bi_1.mp c16] at q; cases q))]
      refine MJ_bipush (v := 10) dX7_leave_22 (by decide) ?_
      refine MJ_iload_n dX7_leave_24 rfl rfl ?_
      refine MJ_imul dX7_leave_25 ?_
      refine MJ_iload_n dX7_leave_26 rfl rfl ?_
      refine MJ_iadd dX7_leave_27 ?_
      refine MJ_istore_n dX7_leave_28 rfl (by decide) ?_
      refine MJ_iconst (v := 0) dX7_leave_29 (by decide) ?_
      refine MJ_istore dX7_leave_30 (by decide) ?_
      refine MJ_pc (pc' := 32) rfl ?_
      refine MJ_iconst (v := 0) dX7_leave_32 (by decide) ?_
      refine MJ_istore dX7_leave_33 (by decide) ?_
      exact MJ_loc _ rfl (lp (bi_1.mp c4) ho (nR S + 1) 0 (by omega) (by omega))
    · refine MJ_ldc dX7_leave_19 lc_X7_140 ?_
      exact MJ_ireturn dX7_leave_21 rfl ⟨by rw [if_pos (Or.inr (bi_0.mp c16))], by rw [if_pos (Or.inr (bi_0.mp c16))]⟩
def timesP (S : Ms) (a : Int32) : Int32 := if inN a (nA S) = false then -2000001 else if mT S 467 (tn a) = 0 then 0 else 1
set_option maxRecDepth 100000 in
set_option maxHeartbeats 4000000 in
theorem mp_times {a : Int32} (hW : WF1 S) : MM x y 2 kX7_times [.ref y.1, .int a] S (fun z S' => z = some (.int (timesP S a)) ∧ S' = S) := by
  refine MM.ofJ mkX7_times.1 (Nat.le_of_ble_eq_true rfl) fun h0 => ?_
  unfold timesP
  cases ha : inN a (nA S) with
  | false =>
    refine MJ_aload_n dX7_times_0 rfl rfl isR_r ?_
    refine MJ_iload_n dX7_times_1 rfl rfl ?_
    refine MJ_callV (mm_isAsk hW.1.1) dX7_times_2 ml_X7_155 mkX7_isAsk rfl rfl rfl (Nat.le_of_ble_eq_true rfl) ⟨Nat.le_of_ble_eq_true rfl, Nat.le_of_ble_eq_true rfl⟩ (fun v2 hp2 q2 => ?_)
    obtain ⟨rfl, z2⟩ := q2
    rw [z2]
    refine MJ_if_ne (tgt := 13) dX7_times_5 (by decide) (fun c5 => ((c5 (by rw [ha]; rfl))).elim) (fun c5 => ?_)
    refine MJ_ldc dX7_times_8 lc_X7_140 ?_
    refine MJ_goto (tgt := 27) dX7_times_10 (by decide) ?_
    exact MJ_ireturn dX7_times_27 rfl ⟨rfl, rfl⟩
  | true =>
    have ha3 := hW.le300 ha
    rw [if_neg (by decide)]
    refine MJ_aload_n dX7_times_0 rfl rfl isR_r ?_
    refine MJ_iload_n dX7_times_1 rfl rfl ?_
    refine MJ_callV (mm_isAsk hW.1.1) dX7_times_2 ml_X7_155 mkX7_isAsk rfl rfl rfl (Nat.le_of_ble_eq_true rfl) ⟨Nat.le_of_ble_eq_true rfl, Nat.le_of_ble_eq_true rfl⟩ (fun v2 hp2 q2 => ?_)
    obtain ⟨rfl, z2⟩ := q2
    rw [z2]
    refine MJ_if_ne (tgt := 13) dX7_times_5 (by decide) (fun c5 => ?_) (fun c5 => ((show False by rw [ha] at c5; exact absurd c5 (by decide))).elim)
    refine MJ_aload_n dX7_times_13 rfl rfl isR_r ?_
    refine MJ_getA dX7_times_14 g_X7_63 (by decide) ?_
    refine MJ_iload_n dX7_times_17 rfl rfl ?_
    refine MJ_zald dX7_times_18 (inx_v ha3) (by decide) ?_
    refine MJ_if_eq (tgt := 26) dX7_times_19 (by decide) (fun c19 => ?_) (fun c19 => ?_)
    · refine MJ_iconst (v := 0) dX7_times_26 (by decide) ?_
      exact MJ_ireturn dX7_times_27 rfl ⟨by rw [if_pos c19], rfl⟩
    · refine MJ_iconst (v := 1) dX7_times_22 (by decide) ?_
      refine MJ_goto (tgt := 27) dX7_times_23 (by decide) ?_
      exact MJ_ireturn dX7_times_27 rfl ⟨by rw [if_neg c19], rfl⟩
def accS (S : Ms) : Nat → Int64
  | 0 => 0
  | k + 1 => accS S k + mJ S 452 k
def undS (S : Ms) : Nat → Int64
  | 0 => 0
  | k + 1 => undS S k + (if mT S 458 k = 3 ∧ mT S 467 k ≠ 0 ∧ mT S 467 (tn (mT S 466 k)) = 0 then (mT S 462 k).toInt64 else 0)
def addS (S : Ms) : Nat → Int64
  | 0 => 0
  | k + 1 => addS S k + (if mT S 458 k = 1 ∧ mT S 454 k < 6 ∧ mT S 467 k ≠ 0 then (mT S 462 k).toInt64 else 0)
def auditP (S : Ms) (w : Int32) : Int64 := if w = 0 then accS S 24 else if w = 1 then undS S (nA S) else if w = 2 then addS S (nA S) else -2000001
set_option maxRecDepth 100000 in
set_option maxHeartbeats 4000000 in
theorem mp_audit {w : Int32} (hW : WF1 S) (hF : ∀ k, k < nA S → mT S 458 k = 3 → mT S 467 k ≠ 0 → inN (mT S 466 k) (nA S) = true) : MM x y 2 kX7_audit [.ref y.1, .int w] S (fun z S' => z = some (.long (auditP S w)) ∧ S' = S) := by
  refine MM.ofJ mkX7_audit.1 (Nat.le_of_ble_eq_true rfl) fun h0 => ?_
  obtain ⟨hn1, hn2, hn3⟩ := inN_tn hW.1.1
  have hk2 : nA S < 301 := hn2
  have lp0 : ∀ m k, k ≤ 24 → 24 - k < m → MJ x y h0 2 (fun z S' => z = some (.long (accS S 24)) ∧ S' = S) kX7_audit 31 [(0, .ref y.1), (1, .int w), (2, .long (accS S k)), (4, .int (nI k))] [] S := by
    intro m
    induction m with
    | zero => intro k _ h; omega
    | succ m ih =>
      intro k hk hm
      have h8 := ih (k + 1)
      simp only [accS] at h8
      refine MJ_iload dX7_audit_31 rfl ?_
      refine MJ_bipush (v := 24) dX7_audit_33 (by decide) ?_
      refine MJ_st (st' := [.int (nI 24), .int (nI k)]) rfl ?_
      refine MJ_icmp_ge (tgt := 54) dX7_audit_35 (by decide) (fun c35 => ?_) (fun c35 => ?_)
      · rw [nI_lei (by omega) (by omega)] at c35
        have e : k = 24 := by omega
        subst e
        refine MJ_lload_n dX7_audit_54 rfl rfl ?_
        exact MJ_lreturn dX7_audit_55 rfl ⟨rfl, rfl⟩
      · rw [nI_lei (by omega) (by omega)] at c35
        refine MJ_lload_n dX7_audit_38 rfl rfl ?_
        refine MJ_aload_n dX7_audit_39 rfl rfl isR_r ?_
        refine MJ_getA dX7_audit_40 g_X7_20 (by decide) ?_
        refine MJ_iload dX7_audit_43 rfl ?_
        refine MJ_lald dX7_audit_45 (inx_n (show k < 24 by omega) (by decide)) (by decide) ?_
        refine MJ_ladd dX7_audit_46 ?_
        refine MJ_lstore_n dX7_audit_47 rfl (by decide) ?_
        refine MJ_iinc dX7_audit_48 rfl (nI_inc _) (by decide) ?_
        refine MJ_pc (pc' := 51) rfl ?_
        refine MJ_goto (tgt := 31) dX7_audit_51 (by decide) ?_
        exact MJ_loc _ rfl (h8 (by omega) (by omega))
  have lp1 : ∀ m k, k ≤ nA S → nA S - k < m → MJ x y h0 2 (fun z S' => z = some (.long (undS S (nA S))) ∧ S' = S) kX7_audit 59 [(0, .ref y.1), (1, .int w), (2, .long (undS S k)), (4, .int (nI k))] [] S := by
    intro m
    induction m with
    | zero => intro k _ h; omega
    | succ m ih =>
      intro k hk hm
      have h8 := ih (k + 1)
      simp only [undS] at h8
      refine MJ_iload dX7_audit_59 rfl ?_
      refine MJ_aload_n dX7_audit_61 rfl rfl isR_r ?_
      refine MJ_getI dX7_audit_62 g_X7_106 ?_
      rw [show mI S 453 = nI (nA S) from hn1]
      refine MJ_icmp_ge (tgt := 125) dX7_audit_65 (by decide) (fun c65 => ?_) (fun c65 => ?_)
      · rw [nI_lei (by omega) (by omega)] at c65
        have e : k = nA S := by omega
        subst e
        refine MJ_lload_n dX7_audit_125 rfl rfl ?_
        exact MJ_lreturn dX7_audit_126 rfl ⟨rfl, rfl⟩
      · rw [nI_lei (by omega) (by omega)] at c65
        refine MJ_lload_n dX7_audit_68 rfl rfl ?_
        refine MJ_aload_n dX7_audit_69 rfl rfl isR_r ?_
        refine MJ_getA dX7_audit_70 g_X7_36 (by decide) ?_
        refine MJ_iload dX7_audit_73 rfl ?_
        refine MJ_iald dX7_audit_75 (by first | assumption | exact inx_v (by assumption) | exact inx_n (show _ < 300 by omega) (by decide)) (by decide) ?_
        refine MJ_iconst (v := 3) dX7_audit_76 (by decide) ?_
        refine MJ_icmp_ne (tgt := 116) dX7_audit_77 (by decide) (fun c77 => ?_) (fun c77 => ?_)
        · refine MJ_lconst (v := 0) dX7_audit_116 (by decide) ?_
          refine MJ_ladd dX7_audit_117 ?_
          refine MJ_lstore_n dX7_audit_118 rfl (by decide) ?_
          refine MJ_iinc dX7_audit_119 rfl (nI_inc _) (by decide) ?_
          refine MJ_goto (tgt := 59) dX7_audit_122 (by decide) ?_
          rw [if_neg (fun z => c77 z.1)] at h8
          exact MJ_loc _ rfl (h8 (by omega) (by omega))
        · refine MJ_aload_n dX7_audit_80 rfl rfl isR_r ?_
          refine MJ_getA dX7_audit_81 g_X7_63 (by decide) ?_
          refine MJ_iload dX7_audit_84 rfl ?_
          refine MJ_zald dX7_audit_86 (by first | assumption | exact inx_v (by assumption) | exact inx_n (show _ < 300 by omega) (by decide)) (by decide) ?_
          refine MJ_if_eq (tgt := 116) dX7_audit_87 (by decide) (fun c87 => ?_) (fun c87 => ?_)
          · refine MJ_lconst (v := 0) dX7_audit_116 (by decide) ?_
            refine MJ_ladd dX7_audit_117 ?_
            refine MJ_lstore_n dX7_audit_118 rfl (by decide) ?_
            refine MJ_iinc dX7_audit_119 rfl (nI_inc _) (by decide) ?_
            refine MJ_goto (tgt := 59) dX7_audit_122 (by decide) ?_
            rw [if_neg (fun z => z.2.1 c87)] at h8
            exact MJ_loc _ rfl (h8 (by omega) (by omega))
          · refine MJ_aload_n dX7_audit_90 rfl rfl isR_r ?_
            refine MJ_getA dX7_audit_91 g_X7_63 (by decide) ?_
            refine MJ_aload_n dX7_audit_94 rfl rfl isR_r ?_
            refine MJ_getA dX7_audit_95 g_X7_60 (by decide) ?_
            refine MJ_iload dX7_audit_98 rfl ?_
            refine MJ_iald dX7_audit_100 (by first | assumption | exact inx_v (by assumption) | exact inx_n (show _ < 300 by omega) (by decide)) (by decide) ?_
            have hown := hW.le300 (hF k (by omega) c77 c87)
            refine MJ_zald dX7_audit_101 (inx_v hown) (by decide) ?_
            refine MJ_if_ne (tgt := 116) dX7_audit_102 (by decide) (fun c102 => ?_) (fun c102 => ?_)
            · refine MJ_lconst (v := 0) dX7_audit_116 (by decide) ?_
              refine MJ_ladd dX7_audit_117 ?_
              refine MJ_lstore_n dX7_audit_118 rfl (by decide) ?_
              refine MJ_iinc dX7_audit_119 rfl (nI_inc _) (by decide) ?_
              refine MJ_goto (tgt := 59) dX7_audit_122 (by decide) ?_
              rw [if_neg (fun z => c102 z.2.2)] at h8
              exact MJ_loc _ rfl (h8 (by omega) (by omega))
            · refine MJ_aload_n dX7_audit_105 rfl rfl isR_r ?_
              refine MJ_getA dX7_audit_106 g_X7_48 (by decide) ?_
              refine MJ_iload dX7_audit_109 rfl ?_
              refine MJ_iald dX7_audit_111 (by first | assumption | exact inx_v (by assumption) | exact inx_n (show _ < 300 by omega) (by decide)) (by decide) ?_
              refine MJ_i2l dX7_audit_112 ?_
              refine MJ_goto (tgt := 117) dX7_audit_113 (by decide) ?_
              refine MJ_ladd dX7_audit_117 ?_
              refine MJ_lstore_n dX7_audit_118 rfl (by decide) ?_
              refine MJ_iinc dX7_audit_119 rfl (nI_inc _) (by decide) ?_
              refine MJ_pc (pc' := 122) rfl ?_
              refine MJ_goto (tgt := 59) dX7_audit_122 (by decide) ?_
              rw [if_pos ⟨c77, c87, c102⟩] at h8
              exact MJ_loc _ rfl (h8 (by omega) (by omega))
  have lp2 : ∀ m k, k ≤ nA S → nA S - k < m → MJ x y h0 2 (fun z S' => z = some (.long (addS S (nA S))) ∧ S' = S) kX7_audit 130 [(0, .ref y.1), (1, .int w), (2, .long (addS S k)), (4, .int (nI k))] [] S := by
    intro m
    induction m with
    | zero => intro k _ h; omega
    | succ m ih =>
      intro k hk hm
      have h8 := ih (k + 1)
      simp only [addS] at h8
      refine MJ_iload dX7_audit_130 rfl ?_
      refine MJ_aload_n dX7_audit_132 rfl rfl isR_r ?_
      refine MJ_getI dX7_audit_133 g_X7_106 ?_
      rw [show mI S 453 = nI (nA S) from hn1]
      refine MJ_icmp_ge (tgt := 193) dX7_audit_136 (by decide) (fun c136 => ?_) (fun c136 => ?_)
      · rw [nI_lei (by omega) (by omega)] at c136
        have e : k = nA S := by omega
        subst e
        refine MJ_lload_n dX7_audit_193 rfl rfl ?_
        exact MJ_lreturn dX7_audit_194 rfl ⟨rfl, rfl⟩
      · rw [nI_lei (by omega) (by omega)] at c136
        refine MJ_lload_n dX7_audit_139 rfl rfl ?_
        refine MJ_aload_n dX7_audit_140 rfl rfl isR_r ?_
        refine MJ_getA dX7_audit_141 g_X7_36 (by decide) ?_
        refine MJ_iload dX7_audit_144 rfl ?_
        refine MJ_iald dX7_audit_146 (by first | assumption | exact inx_v (by assumption) | exact inx_n (show _ < 300 by omega) (by decide)) (by decide) ?_
        refine MJ_iconst (v := 1) dX7_audit_147 (by decide) ?_
        refine MJ_icmp_ne (tgt := 184) dX7_audit_148 (by decide) (fun c148 => ?_) (fun c148 => ?_)
        · refine MJ_lconst (v := 0) dX7_audit_184 (by decide) ?_
          refine MJ_ladd dX7_audit_185 ?_
          refine MJ_lstore_n dX7_audit_186 rfl (by decide) ?_
          refine MJ_iinc dX7_audit_187 rfl (nI_inc _) (by decide) ?_
          refine MJ_goto (tgt := 130) dX7_audit_190 (by decide) ?_
          rw [if_neg (fun z => c148 z.1)] at h8
          exact MJ_loc _ rfl (h8 (by omega) (by omega))
        · refine MJ_aload_n dX7_audit_151 rfl rfl isR_r ?_
          refine MJ_getA dX7_audit_152 g_X7_24 (by decide) ?_
          refine MJ_iload dX7_audit_155 rfl ?_
          refine MJ_iald dX7_audit_157 (by first | assumption | exact inx_v (by assumption) | exact inx_n (show _ < 300 by omega) (by decide)) (by decide) ?_
          refine MJ_bipush (v := 6) dX7_audit_158 (by decide) ?_
          refine MJ_icmp_ge (tgt := 184) dX7_audit_160 (by decide) (fun c160 => ?_) (fun c160 => ?_)
          · refine MJ_lconst (v := 0) dX7_audit_184 (by decide) ?_
            refine MJ_ladd dX7_audit_185 ?_
            refine MJ_lstore_n dX7_audit_186 rfl (by decide) ?_
            refine MJ_iinc dX7_audit_187 rfl (nI_inc _) (by decide) ?_
            refine MJ_goto (tgt := 130) dX7_audit_190 (by decide) ?_
            rw [if_neg (fun z => by have := z.2.1; rw [n_lt] at this; rw [n_le] at c160; omega)] at h8
            exact MJ_loc _ rfl (h8 (by omega) (by omega))
          · refine MJ_aload_n dX7_audit_163 rfl rfl isR_r ?_
            refine MJ_getA dX7_audit_164 g_X7_63 (by decide) ?_
            refine MJ_iload dX7_audit_167 rfl ?_
            refine MJ_zald dX7_audit_169 (by first | assumption | exact inx_v (by assumption) | exact inx_n (show _ < 300 by omega) (by decide)) (by decide) ?_
            refine MJ_if_eq (tgt := 184) dX7_audit_170 (by decide) (fun c170 => ?_) (fun c170 => ?_)
            · refine MJ_lconst (v := 0) dX7_audit_184 (by decide) ?_
              refine MJ_ladd dX7_audit_185 ?_
              refine MJ_lstore_n dX7_audit_186 rfl (by decide) ?_
              refine MJ_iinc dX7_audit_187 rfl (nI_inc _) (by decide) ?_
              refine MJ_goto (tgt := 130) dX7_audit_190 (by decide) ?_
              rw [if_neg (fun z => z.2.2 c170)] at h8
              exact MJ_loc _ rfl (h8 (by omega) (by omega))
            · refine MJ_aload_n dX7_audit_173 rfl rfl isR_r ?_
              refine MJ_getA dX7_audit_174 g_X7_48 (by decide) ?_
              refine MJ_iload dX7_audit_177 rfl ?_
              refine MJ_iald dX7_audit_179 (by first | assumption | exact inx_v (by assumption) | exact inx_n (show _ < 300 by omega) (by decide)) (by decide) ?_
              refine MJ_i2l dX7_audit_180 ?_
              refine MJ_goto (tgt := 185) dX7_audit_181 (by decide) ?_
              refine MJ_ladd dX7_audit_185 ?_
              refine MJ_lstore_n dX7_audit_186 rfl (by decide) ?_
              refine MJ_iinc dX7_audit_187 rfl (nI_inc _) (by decide) ?_
              refine MJ_pc (pc' := 190) rfl ?_
              refine MJ_goto (tgt := 130) dX7_audit_190 (by decide) ?_
              rw [if_pos ⟨c148, by rw [n_lt]; rw [n_le] at c160; omega, c170⟩] at h8
              exact MJ_loc _ rfl (h8 (by omega) (by omega))
  unfold auditP
  refine MJ_lconst (v := 0) dX7_audit_0 (by decide) ?_
  refine MJ_lstore_n dX7_audit_1 rfl (by decide) ?_
  refine MJ_iload_n dX7_audit_2 rfl rfl ?_
  by_cases s3_0 : w = 0
  · refine MJ_st (st' := [.int 0]) (by rw [s3_0] <;> rfl) ?_
    refine MJ_tswIn (off := 25) (tgt := 28) dX7_audit_3 (by decide) (by decide) (by decide) (by decide) ?_
    refine MJ_iconst (v := 0) dX7_audit_28 (by decide) ?_
    refine MJ_istore dX7_audit_29 (by decide) ?_
    rw [if_pos s3_0]
    exact MJ_loc _ rfl (lp0 25 0 (by omega) (by omega))
  -- else
  by_cases s3_1 : w = 1
  · refine MJ_st (st' := [.int 1]) (by rw [s3_1] <;> rfl) ?_
    refine MJ_tswIn (off := 53) (tgt := 56) dX7_audit_3 (by decide) (by decide) (by decide) (by decide) ?_
    refine MJ_iconst (v := 0) dX7_audit_56 (by decide) ?_
    refine MJ_istore dX7_audit_57 (by decide) ?_
    rw [if_neg s3_0, if_pos s3_1]
    exact MJ_loc _ rfl (lp1 (nA S + 1) 0 (by omega) (by omega))
  -- else
  by_cases s3_2 : w = 2
  · refine MJ_st (st' := [.int 2]) (by rw [s3_2] <;> rfl) ?_
    refine MJ_tswIn (off := 124) (tgt := 127) dX7_audit_3 (by decide) (by decide) (by decide) (by decide) ?_
    refine MJ_iconst (v := 0) dX7_audit_127 (by decide) ?_
    refine MJ_istore dX7_audit_128 (by decide) ?_
    rw [if_neg s3_0, if_neg s3_1, if_pos s3_2]
    exact MJ_loc _ rfl (lp2 (nA S + 1) 0 (by omega) (by omega))
  -- else
  have tt : (w).toInt ≠ 0 ∧ (w).toInt ≠ 1 ∧ (w).toInt ≠ 2 := ⟨fun z => s3_0 (Int32.toInt_inj.mp (z.trans (by decide))), fun z => s3_1 (Int32.toInt_inj.mp (z.trans (by decide))), fun z => s3_2 (Int32.toInt_inj.mp (z.trans (by decide)))⟩
  refine MJ_tswOut (tgt := 195) dX7_audit_3 (by omega) (by decide) ?_
  refine MJ_ldc2 dX7_audit_195 ll_X7_158 ?_
  exact MJ_lreturn dX7_audit_198 rfl ⟨by rw [if_neg s3_0, if_neg s3_1, if_neg s3_2], rfl⟩
def witS (S : Ms) (k : Nat) : Int64 := 31 * (31 * (31 * (31 * (31 * (31 * 17 + (mT S 454 k).toInt64) + (mT S 455 k).toInt64) + (mT S 456 k).toInt64) + (mT S 457 k).toInt64) + (mT S 458 k).toInt64) + mJ S 464 k
set_option maxRecDepth 100000 in
set_option maxHeartbeats 4000000 in
theorem mm_witnessOf {a : Int32} (ha3 : inN a 300 = true) : MM x y 0 kX7_witnessOf [.ref y.1, .int a] S (fun z S' => z = some (.long (witS S (tn a))) ∧ S' = S) := by
  refine MM.ofJ mkX7_witnessOf.1 (Nat.le_of_ble_eq_true rfl) fun h0 => ?_
  refine MJ_ldc2 dX7_witnessOf_0 ll_X7_243 ?_
  refine MJ_lstore_n dX7_witnessOf_3 rfl (by decide) ?_
  refine MJ_ldc2 dX7_witnessOf_4 ll_X7_245 ?_
  refine MJ_lload_n dX7_witnessOf_7 rfl rfl ?_
  refine MJ_lmul dX7_witnessOf_8 ?_
  refine MJ_aload_n dX7_witnessOf_9 rfl rfl isR_r ?_
  refine MJ_getA dX7_witnessOf_10 g_X7_24 (by decide) ?_
  refine MJ_iload_n dX7_witnessOf_13 rfl rfl ?_
  refine MJ_pc (pc' := 14) rfl ?_
  refine MJ_iald dX7_witnessOf_14 (inx_v ha3) (by decide) ?_
  refine MJ_i2l dX7_witnessOf_15 ?_
  refine MJ_ladd dX7_witnessOf_16 ?_
  refine MJ_lstore_n dX7_witnessOf_17 rfl (by decide) ?_
  refine MJ_ldc2 dX7_witnessOf_18 ll_X7_245 ?_
  refine MJ_lload_n dX7_witnessOf_21 rfl rfl ?_
  refine MJ_lmul dX7_witnessOf_22 ?_
  refine MJ_aload_n dX7_witnessOf_23 rfl rfl isR_r ?_
  refine MJ_pc (pc' := 24) rfl ?_
  refine MJ_getA dX7_witnessOf_24 g_X7_27 (by decide) ?_
  refine MJ_iload_n dX7_witnessOf_27 rfl rfl ?_
  refine MJ_iald dX7_witnessOf_28 (inx_v ha3) (by decide) ?_
  refine MJ_i2l dX7_witnessOf_29 ?_
  refine MJ_ladd dX7_witnessOf_30 ?_
  refine MJ_lstore_n dX7_witnessOf_31 rfl (by decide) ?_
  refine MJ_ldc2 dX7_witnessOf_32 ll_X7_245 ?_
  refine MJ_lload_n dX7_witnessOf_35 rfl rfl ?_
  refine MJ_pc (pc' := 36) rfl ?_
  refine MJ_lmul dX7_witnessOf_36 ?_
  refine MJ_aload_n dX7_witnessOf_37 rfl rfl isR_r ?_
  refine MJ_getA dX7_witnessOf_38 g_X7_30 (by decide) ?_
  refine MJ_iload_n dX7_witnessOf_41 rfl rfl ?_
  refine MJ_iald dX7_witnessOf_42 (inx_v ha3) (by decide) ?_
  refine MJ_i2l dX7_witnessOf_43 ?_
  refine MJ_ladd dX7_witnessOf_44 ?_
  refine MJ_lstore_n dX7_witnessOf_45 rfl (by decide) ?_
  refine MJ_pc (pc' := 46) rfl ?_
  refine MJ_ldc2 dX7_witnessOf_46 ll_X7_245 ?_
  refine MJ_lload_n dX7_witnessOf_49 rfl rfl ?_
  refine MJ_lmul dX7_witnessOf_50 ?_
  refine MJ_aload_n dX7_witnessOf_51 rfl rfl isR_r ?_
  refine MJ_getA dX7_witnessOf_52 g_X7_33 (by decide) ?_
  refine MJ_iload_n dX7_witnessOf_55 rfl rfl ?_
  refine MJ_iald dX7_witnessOf_56 (inx_v ha3) (by decide) ?_
  refine MJ_i2l dX7_witnessOf_57 ?_
  refine MJ_pc (pc' := 58) rfl ?_
  refine MJ_ladd dX7_witnessOf_58 ?_
  refine MJ_lstore_n dX7_witnessOf_59 rfl (by decide) ?_
  refine MJ_ldc2 dX7_witnessOf_60 ll_X7_245 ?_
  refine MJ_lload_n dX7_witnessOf_63 rfl rfl ?_
  refine MJ_lmul dX7_witnessOf_64 ?_
  refine MJ_aload_n dX7_witnessOf_65 rfl rfl isR_r ?_
  refine MJ_getA dX7_witnessOf_66 g_X7_36 (by decide) ?_
  refine MJ_iload_n dX7_witnessOf_69 rfl rfl ?_
  refine MJ_pc (pc' := 70) rfl ?_
  refine MJ_iald dX7_witnessOf_70 (inx_v ha3) (by decide) ?_
  refine MJ_i2l dX7_witnessOf_71 ?_
  refine MJ_ladd dX7_witnessOf_72 ?_
  refine MJ_lstore_n dX7_witnessOf_73 rfl (by decide) ?_
  refine MJ_ldc2 dX7_witnessOf_74 ll_X7_245 ?_
  refine MJ_lload_n dX7_witnessOf_77 rfl rfl ?_
  refine MJ_lmul dX7_witnessOf_78 ?_
  refine MJ_aload_n dX7_witnessOf_79 rfl rfl isR_r ?_
  refine MJ_pc (pc' := 80) rfl ?_
  refine MJ_getA dX7_witnessOf_80 g_X7_54 (by decide) ?_
  refine MJ_iload_n dX7_witnessOf_83 rfl rfl ?_
  refine MJ_lald dX7_witnessOf_84 (inx_v ha3) (by decide) ?_
  refine MJ_ladd dX7_witnessOf_85 ?_
  exact MJ_lreturn dX7_witnessOf_86 rfl ⟨rfl, rfl⟩
def witnessP (S : Ms) (a : Int32) : Int64 := if inN a (nA S) = false then -2000001 else if mT S 463 (tn a) ≠ 1 then -2000002 else witS S (tn a)
set_option maxRecDepth 100000 in
set_option maxHeartbeats 4000000 in
theorem mp_witness {a : Int32} (hW : WF1 S) : MM x y 2 kX7_witness [.ref y.1, .int a] S (fun z S' => z = some (.long (witnessP S a)) ∧ S' = S) := by
  refine MM.ofJ mkX7_witness.1 (Nat.le_of_ble_eq_true rfl) fun h0 => ?_
  unfold witnessP
  cases ha : inN a (nA S) with
  | false =>
    refine MJ_aload_n dX7_witness_0 rfl rfl isR_r ?_
    refine MJ_iload_n dX7_witness_1 rfl rfl ?_
    refine MJ_callV (mm_isAsk hW.1.1) dX7_witness_2 ml_X7_155 mkX7_isAsk rfl rfl rfl (Nat.le_of_ble_eq_true rfl) ⟨Nat.le_of_ble_eq_true rfl, Nat.le_of_ble_eq_true rfl⟩ (fun v2 hp2 q2 => ?_)
    obtain ⟨rfl, z2⟩ := q2
    rw [z2]
    refine MJ_if_ne (tgt := 14) dX7_witness_5 (by decide) (fun c5 => ((c5 (by rw [ha]; rfl))).elim) (fun c5 => ?_)
    refine MJ_ldc2 dX7_witness_8 ll_X7_158 ?_
    refine MJ_goto (tgt := 35) dX7_witness_11 (by decide) ?_
    exact MJ_lreturn dX7_witness_35 rfl ⟨rfl, rfl⟩
  | true =>
    have ha3 := hW.le300 ha
    rw [if_neg (by decide)]
    refine MJ_aload_n dX7_witness_0 rfl rfl isR_r ?_
    refine MJ_iload_n dX7_witness_1 rfl rfl ?_
    refine MJ_callV (mm_isAsk hW.1.1) dX7_witness_2 ml_X7_155 mkX7_isAsk rfl rfl rfl (Nat.le_of_ble_eq_true rfl) ⟨Nat.le_of_ble_eq_true rfl, Nat.le_of_ble_eq_true rfl⟩ (fun v2 hp2 q2 => ?_)
    obtain ⟨rfl, z2⟩ := q2
    rw [z2]
    refine MJ_if_ne (tgt := 14) dX7_witness_5 (by decide) (fun c5 => ?_) (fun c5 => ((show False by rw [ha] at c5; exact absurd c5 (by decide))).elim)
    refine MJ_aload_n dX7_witness_14 rfl rfl isR_r ?_
    refine MJ_getA dX7_witness_15 g_X7_51 (by decide) ?_
    refine MJ_iload_n dX7_witness_18 rfl rfl ?_
    refine MJ_iald dX7_witness_19 (inx_v ha3) (by decide) ?_
    refine MJ_iconst (v := 1) dX7_witness_20 (by decide) ?_
    refine MJ_pc (pc' := 21) rfl ?_
    refine MJ_icmp_eq (tgt := 30) dX7_witness_21 (by decide) (fun c21 => ?_) (fun c21 => ?_)
    · refine MJ_aload_n dX7_witness_30 rfl rfl isR_r ?_
      refine MJ_iload_n dX7_witness_31 rfl rfl ?_
      refine MJ_callV (mm_witnessOf ha3) dX7_witness_32 ml_X7_247 mkX7_witnessOf rfl rfl rfl (Nat.le_of_ble_eq_true rfl) ⟨Nat.le_of_ble_eq_true rfl, Nat.le_of_ble_eq_true rfl⟩ (fun v32 hp32 q32 => ?_)
      obtain ⟨rfl, z32⟩ := q32
      rw [z32]
      exact MJ_lreturn dX7_witness_35 rfl ⟨by rw [if_neg (fun z => z c21)], rfl⟩
    · refine MJ_ldc2 dX7_witness_24 ll_X7_160 ?_
      refine MJ_goto (tgt := 35) dX7_witness_27 (by decide) ?_
      exact MJ_lreturn dX7_witness_35 rfl ⟨by rw [if_pos c21], rfl⟩
def checkP (S : Ms) (a : Int32) (v : Int64) : Int32 := if inN a (nA S) = false then -2000001 else if mT S 463 (tn a) = 1 ∧ witS S (tn a) = v then 1 else 0
set_option maxRecDepth 100000 in
set_option maxHeartbeats 4000000 in
theorem mp_check {a : Int32} {v : Int64} (hW : WF1 S) : MM x y 2 kX7_check [.ref y.1, .int a, .long v] S (fun z S' => z = some (.int (checkP S a v)) ∧ S' = S) := by
  refine MM.ofJ mkX7_check.1 (Nat.le_of_ble_eq_true rfl) fun h0 => ?_
  unfold checkP
  cases ha : inN a (nA S) with
  | false =>
    refine MJ_aload_n dX7_check_0 rfl rfl isR_r ?_
    refine MJ_iload_n dX7_check_1 rfl rfl ?_
    refine MJ_callV (mm_isAsk hW.1.1) dX7_check_2 ml_X7_155 mkX7_isAsk rfl rfl rfl (Nat.le_of_ble_eq_true rfl) ⟨Nat.le_of_ble_eq_true rfl, Nat.le_of_ble_eq_true rfl⟩ (fun v2 hp2 q2 => ?_)
    obtain ⟨rfl, z2⟩ := q2
    rw [z2]
    refine MJ_if_ne (tgt := 13) dX7_check_5 (by decide) (fun c5 => ((c5 (by rw [ha]; rfl))).elim) (fun c5 => ?_)
    refine MJ_ldc dX7_check_8 lc_X7_140 ?_
    refine MJ_goto (tgt := 38) dX7_check_10 (by decide) ?_
    exact MJ_ireturn dX7_check_38 rfl ⟨rfl, rfl⟩
  | true =>
    have ha3 := hW.le300 ha
    rw [if_neg (by decide)]
    refine MJ_aload_n dX7_check_0 rfl rfl isR_r ?_
    refine MJ_iload_n dX7_check_1 rfl rfl ?_
    refine MJ_callV (mm_isAsk hW.1.1) dX7_check_2 ml_X7_155 mkX7_isAsk rfl rfl rfl (Nat.le_of_ble_eq_true rfl) ⟨Nat.le_of_ble_eq_true rfl, Nat.le_of_ble_eq_true rfl⟩ (fun v2 hp2 q2 => ?_)
    obtain ⟨rfl, z2⟩ := q2
    rw [z2]
    refine MJ_if_ne (tgt := 13) dX7_check_5 (by decide) (fun c5 => ?_) (fun c5 => ((show False by rw [ha] at c5; exact absurd c5 (by decide))).elim)
    refine MJ_aload_n dX7_check_13 rfl rfl isR_r ?_
    refine MJ_getA dX7_check_14 g_X7_51 (by decide) ?_
    refine MJ_iload_n dX7_check_17 rfl rfl ?_
    refine MJ_iald dX7_check_18 (inx_v ha3) (by decide) ?_
    refine MJ_iconst (v := 1) dX7_check_19 (by decide) ?_
    refine MJ_pc (pc' := 20) rfl ?_
    refine MJ_icmp_ne (tgt := 37) dX7_check_20 (by decide) (fun c20 => ?_) (fun c20 => ?_)
    · refine MJ_iconst (v := 0) dX7_check_37 (by decide) ?_
      exact MJ_ireturn dX7_check_38 rfl ⟨by rw [if_neg (fun z => c20 z.1)], rfl⟩
    · refine MJ_aload_n dX7_check_23 rfl rfl isR_r ?_
      refine MJ_iload_n dX7_check_24 rfl rfl ?_
      refine MJ_callV (mm_witnessOf ha3) dX7_check_25 ml_X7_247 mkX7_witnessOf rfl rfl rfl (Nat.le_of_ble_eq_true rfl) ⟨Nat.le_of_ble_eq_true rfl, Nat.le_of_ble_eq_true rfl⟩ (fun v25 hp25 q25 => ?_)
      obtain ⟨rfl, z25⟩ := q25
      rw [z25]
      refine MJ_lload_n dX7_check_28 rfl rfl ?_
      refine MJ_lcmp dX7_check_29 ?_
      refine MJ_if_ne (tgt := 37) dX7_check_30 (by decide) (fun c30 => ?_) (fun c30 => ?_)
      · refine MJ_iconst (v := 0) dX7_check_37 (by decide) ?_
        exact MJ_ireturn dX7_check_38 rfl ⟨by rw [if_neg (fun z => c30 ((lg_cmp_eq _ _).mpr z.2))], rfl⟩
      · refine MJ_iconst (v := 1) dX7_check_33 (by decide) ?_
        refine MJ_goto (tgt := 38) dX7_check_34 (by decide) ?_
        exact MJ_ireturn dX7_check_38 rfl ⟨by rw [if_pos ⟨c20, (lg_cmp_eq _ _).mp c30⟩], rfl⟩
def opnS (S : Ms) : Nat → Int32
  | 0 => 0
  | k + 1 => opnS S k + (if mT S 463 k = 0 then 1 else 0)
def countP (S : Ms) (w : Int32) : Int32 := if w = 0 then mI S 453 else if w = 1 then opnS S (nA S) else if w = 2 then mI S 468 else if w = 3 then mI S 482 else if w = 4 then mI S 483 else if w = 5 then mI S 484 else if w = 6 then mI S 476 else if w = 7 then mI S 448 else -2000001
set_option maxRecDepth 100000 in
set_option maxHeartbeats 4000000 in
theorem mp_count {w : Int32} (hn : inN (mI S 453) 301 = true) : MM x y 2 kX7_count [.ref y.1, .int w] S (fun z S' => z = some (.int (countP S w)) ∧ S' = S) := by
  refine MM.ofJ mkX7_count.1 (Nat.le_of_ble_eq_true rfl) fun h0 => ?_
  obtain ⟨hn1, hn2, hn3⟩ := inN_tn hn
  have hk2 : nA S < 301 := hn2
  have lp : ∀ m k, k ≤ nA S → nA S - k < m → MJ x y h0 2 (fun z S' => z = some (.int (opnS S (nA S))) ∧ S' = S) kX7_count 55 [(0, .ref y.1), (1, .int w), (2, .int (opnS S k)), (3, .int (nI k))] [] S := by
    intro m
    induction m with
    | zero => intro k _ h; omega
    | succ m ih =>
      intro k hk hm
      have h8 := ih (k + 1)
      simp only [opnS] at h8
      refine MJ_iload_n dX7_count_55 rfl rfl ?_
      refine MJ_aload_n dX7_count_56 rfl rfl isR_r ?_
      refine MJ_getI dX7_count_57 g_X7_106 ?_
      rw [show mI S 453 = nI (nA S) from hn1]
      refine MJ_icmp_ge (tgt := 86) dX7_count_60 (by decide) (fun c60 => ?_) (fun c60 => ?_)
      · rw [nI_lei (by omega) (by omega)] at c60
        have e : k = nA S := by omega
        subst e
        refine MJ_iload_n dX7_count_86 rfl rfl ?_
        exact MJ_ireturn dX7_count_87 rfl ⟨rfl, rfl⟩
      · rw [nI_lei (by omega) (by omega)] at c60
        refine MJ_iload_n dX7_count_63 rfl rfl ?_
        refine MJ_aload_n dX7_count_64 rfl rfl isR_r ?_
        refine MJ_getA dX7_count_65 g_X7_51 (by decide) ?_
        refine MJ_iload_n dX7_count_68 rfl rfl ?_
        refine MJ_iald dX7_count_69 (by first | assumption | exact inx_v (by assumption) | exact inx_n (show _ < 300 by omega) (by decide)) (by decide) ?_
        refine MJ_if_ne (tgt := 77) dX7_count_70 (by decide) (fun c70 => ?_) (fun c70 => ?_)
        · refine MJ_iconst (v := 0) dX7_count_77 (by decide) ?_
          refine MJ_iadd dX7_count_78 ?_
          refine MJ_istore_n dX7_count_79 rfl (by decide) ?_
          refine MJ_iinc dX7_count_80 rfl (nI_inc _) (by decide) ?_
          refine MJ_goto (tgt := 55) dX7_count_83 (by decide) ?_
          rw [if_neg c70] at h8
          exact MJ_loc _ rfl (h8 (by omega) (by omega))
        · refine MJ_iconst (v := 1) dX7_count_73 (by decide) ?_
          refine MJ_goto (tgt := 78) dX7_count_74 (by decide) ?_
          refine MJ_iadd dX7_count_78 ?_
          refine MJ_istore_n dX7_count_79 rfl (by decide) ?_
          refine MJ_iinc dX7_count_80 rfl (nI_inc _) (by decide) ?_
          refine MJ_goto (tgt := 55) dX7_count_83 (by decide) ?_
          rw [if_pos c70] at h8
          exact MJ_loc _ rfl (h8 (by omega) (by omega))
  unfold countP
  refine MJ_iconst (v := 0) dX7_count_0 (by decide) ?_
  refine MJ_istore_n dX7_count_1 rfl (by decide) ?_
  refine MJ_iload_n dX7_count_2 rfl rfl ?_
  by_cases s3_0 : w = 0
  · refine MJ_st (st' := [.int 0]) (by rw [s3_0] <;> rfl) ?_
    refine MJ_tswIn (off := 45) (tgt := 48) dX7_count_3 (by decide) (by decide) (by decide) (by decide) ?_
    refine MJ_aload_n dX7_count_48 rfl rfl isR_r ?_
    refine MJ_getI dX7_count_49 g_X7_106 ?_
    exact MJ_ireturn dX7_count_52 rfl ⟨by rw [if_pos s3_0], rfl⟩
  -- else
  by_cases s3_1 : w = 1
  · refine MJ_st (st' := [.int 1]) (by rw [s3_1] <;> rfl) ?_
    refine MJ_tswIn (off := 50) (tgt := 53) dX7_count_3 (by decide) (by decide) (by decide) (by decide) ?_
    refine MJ_iconst (v := 0) dX7_count_53 (by decide) ?_
    refine MJ_istore_n dX7_count_54 rfl (by decide) ?_
    rw [if_neg s3_0, if_pos s3_1]
    exact MJ_loc _ rfl (lp (nA S + 1) 0 (by omega) (by omega))
  -- else
  by_cases s3_2 : w = 2
  · refine MJ_st (st' := [.int 2]) (by rw [s3_2] <;> rfl) ?_
    refine MJ_tswIn (off := 85) (tgt := 88) dX7_count_3 (by decide) (by decide) (by decide) (by decide) ?_
    refine MJ_aload_n dX7_count_88 rfl rfl isR_r ?_
    refine MJ_getI dX7_count_89 g_X7_124 ?_
    exact MJ_ireturn dX7_count_92 rfl ⟨by rw [if_neg s3_0, if_neg s3_1, if_pos s3_2], rfl⟩
  -- else
  by_cases s3_3 : w = 3
  · refine MJ_st (st' := [.int 3]) (by rw [s3_3] <;> rfl) ?_
    refine MJ_tswIn (off := 90) (tgt := 93) dX7_count_3 (by decide) (by decide) (by decide) (by decide) ?_
    refine MJ_aload_n dX7_count_93 rfl rfl isR_r ?_
    refine MJ_getI dX7_count_94 g_X7_222 ?_
    exact MJ_ireturn dX7_count_97 rfl ⟨by rw [if_neg s3_0, if_neg s3_1, if_neg s3_2, if_pos s3_3], rfl⟩
  -- else
  by_cases s3_4 : w = 4
  · refine MJ_st (st' := [.int 4]) (by rw [s3_4] <;> rfl) ?_
    refine MJ_tswIn (off := 95) (tgt := 98) dX7_count_3 (by decide) (by decide) (by decide) (by decide) ?_
    refine MJ_aload_n dX7_count_98 rfl rfl isR_r ?_
    refine MJ_getI dX7_count_99 g_X7_127 ?_
    exact MJ_ireturn dX7_count_102 rfl ⟨by rw [if_neg s3_0, if_neg s3_1, if_neg s3_2, if_neg s3_3, if_pos s3_4], rfl⟩
  -- else
  by_cases s3_5 : w = 5
  · refine MJ_st (st' := [.int 5]) (by rw [s3_5] <;> rfl) ?_
    refine MJ_tswIn (off := 100) (tgt := 103) dX7_count_3 (by decide) (by decide) (by decide) (by decide) ?_
    refine MJ_aload_n dX7_count_103 rfl rfl isR_r ?_
    refine MJ_getI dX7_count_104 g_X7_215 ?_
    exact MJ_ireturn dX7_count_107 rfl ⟨by rw [if_neg s3_0, if_neg s3_1, if_neg s3_2, if_neg s3_3, if_neg s3_4, if_pos s3_5], rfl⟩
  -- else
  by_cases s3_6 : w = 6
  · refine MJ_st (st' := [.int 6]) (by rw [s3_6] <;> rfl) ?_
    refine MJ_tswIn (off := 105) (tgt := 108) dX7_count_3 (by decide) (by decide) (by decide) (by decide) ?_
    refine MJ_aload_n dX7_count_108 rfl rfl isR_r ?_
    refine MJ_getI dX7_count_109 g_X7_166 ?_
    exact MJ_ireturn dX7_count_112 rfl ⟨by rw [if_neg s3_0, if_neg s3_1, if_neg s3_2, if_neg s3_3, if_neg s3_4, if_neg s3_5, if_pos s3_6], rfl⟩
  -- else
  by_cases s3_7 : w = 7
  · refine MJ_st (st' := [.int 7]) (by rw [s3_7] <;> rfl) ?_
    refine MJ_tswIn (off := 110) (tgt := 113) dX7_count_3 (by decide) (by decide) (by decide) (by decide) ?_
    refine MJ_aload_n dX7_count_113 rfl rfl isR_r ?_
    refine MJ_getI dX7_count_114 g_X7_102 ?_
    exact MJ_ireturn dX7_count_117 rfl ⟨by rw [if_neg s3_0, if_neg s3_1, if_neg s3_2, if_neg s3_3, if_neg s3_4, if_neg s3_5, if_neg s3_6, if_pos s3_7], rfl⟩
  -- else
  have tt : (w).toInt ≠ 0 ∧ (w).toInt ≠ 1 ∧ (w).toInt ≠ 2 ∧ (w).toInt ≠ 3 ∧ (w).toInt ≠ 4 ∧ (w).toInt ≠ 5 ∧ (w).toInt ≠ 6 ∧ (w).toInt ≠ 7 := ⟨fun z => s3_0 (Int32.toInt_inj.mp (z.trans (by decide))), fun z => s3_1 (Int32.toInt_inj.mp (z.trans (by decide))), fun z => s3_2 (Int32.toInt_inj.mp (z.trans (by decide))), fun z => s3_3 (Int32.toInt_inj.mp (z.trans (by decide))), fun z => s3_4 (Int32.toInt_inj.mp (z.trans (by decide))), fun z => s3_5 (Int32.toInt_inj.mp (z.trans (by decide))), fun z => s3_6 (Int32.toInt_inj.mp (z.trans (by decide))), fun z => s3_7 (Int32.toInt_inj.mp (z.trans (by decide)))⟩
  refine MJ_tswOut (tgt := 118) dX7_count_3 (by omega) (by decide) ?_
  refine MJ_ldc dX7_count_118 lc_X7_140 ?_
  exact MJ_ireturn dX7_count_120 rfl ⟨by rw [if_neg s3_0, if_neg s3_1, if_neg s3_2, if_neg s3_3, if_neg s3_4, if_neg s3_5, if_neg s3_6, if_neg s3_7], rfl⟩
end P4
