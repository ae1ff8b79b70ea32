section P3
variable {x : om_x} {y : om_y} {S : Ms}
/-- flow: how many come, and the state then, of n at most -/
def flowK (S : Ms) : Nat → Nat × Ms
  | 0 => (0, S)
  | n + 1 => if 0 < mI S 468 then ((flowK (bringsF S 0 3) n).1 + 1, (flowK (bringsF S 0 3) n).2) else (0, S)
theorem flowK_le : ∀ (n : Nat) (S : Ms), (flowK S n).1 ≤ n
  | 0, _ => Nat.le_refl _
  | n + 1, S => by
    simp only [flowK]
    split
    · exact Nat.succ_le_succ (flowK_le n _)
    · exact Nat.zero_le _
def flowP (S : Ms) (n : Int32) : Int32 × Ms := if inL n.toInt64 1 200 = false then (-2000001, S) else (nI (flowK S (tn n)).1, (flowK S (tn n)).2)
/-- what every step of a flow needs, as long as it goes on -/
def stepOk (P : Ms → Prop) : Prop := ∀ S, P S → WF1 S ∧ nR S + 1 < 700 ∧ (0 < nL S → P (bringsF S 0 3))
theorem inL_rng {n : Int32} (h : inL n.toInt64 1 200 = true) : n = nI (tn n) ∧ 1 ≤ tn n ∧ tn n ≤ 200 := by
  unfold inL at h
  rw [decide_eq_true_iff, n_le64, n_le64, Int32.toInt_toInt64] at h
  have h1 : (1 : Int64).toInt = 1 := by decide
  have h2 : (200 : Int64).toInt = 200 := by decide
  obtain ⟨j, e, h3, h4⟩ := zI_ex (v := n) (n := 201) (by omega) (by omega)
  subst e
  rw [tn_nI h4]
  rw [nI_int h4] at h
  exact ⟨rfl, by omega, by omega⟩
set_option maxRecDepth 100000 in
set_option maxHeartbeats 4000000 in
theorem mp_flow {P : Ms → Prop} {n : Int32} (hP : stepOk P) (hS : P S) : MM x y 7 kX7_flow [.ref y.1, .int n] S (fun z S' => z = some (.int (flowP S n).1) ∧ S' = (flowP S n).2) := by
  refine MM.ofJ mkX7_flow.1 (Nat.le_of_ble_eq_true rfl) fun h0 => ?_
  have lp : n = nI (tn n) → tn n ≤ 200 → ∀ m j S', j + m = tn n → P S' → MJ x y h0 7 (fun z S2 => z = some (.int (nI (j + (flowK S' m).1))) ∧ S2 = (flowK S' m).2) kX7_flow 17 [(0, .ref y.1), (1, .int n), (2, .int (nI j))] [] S' := by
    intro hn h200 m
    induction m with
    | zero =>
      intro j S' hj hp
      refine MJ_iload_n dX7_flow_17 rfl rfl ?_
      refine MJ_iload_n dX7_flow_18 rfl rfl ?_
      refine MJ_st (st' := [.int (nI (tn n)), .int (nI j)]) (by rw [← hn] <;> rfl) ?_
      refine MJ_icmp_ge (tgt := 41) dX7_flow_19 (by decide) (fun c19 => ?_) (fun c19 => ((c19 (by rw [nI_lei (by omega) (by omega)]; omega))).elim)
      refine MJ_iload_n dX7_flow_41 rfl rfl ?_
      exact MJ_ireturn dX7_flow_42 rfl ⟨rfl, rfl⟩
    | succ m ih =>
      intro j S' hj hp
      obtain ⟨w1, w2, w3⟩ := hP S' hp
      have hl := inN_tn w1.1.2.1
      refine MJ_iload_n dX7_flow_17 rfl rfl ?_
      refine MJ_iload_n dX7_flow_18 rfl rfl ?_
      refine MJ_st (st' := [.int (nI (tn n)), .int (nI j)]) (by rw [← hn] <;> rfl) ?_
      refine MJ_icmp_ge (tgt := 41) dX7_flow_19 (by decide) (fun c19 => ((show False by rw [nI_lei (by omega) (by omega)] at c19; omega)).elim) (fun c19 => ?_)
      refine MJ_aload_n dX7_flow_22 rfl rfl isR_r ?_
      refine MJ_getI dX7_flow_23 g_X7_124 ?_
      refine MJ_if_le (tgt := 41) dX7_flow_26 (by decide) (fun c26 => ?_) (fun c26 => ?_)
      · refine MJ_iload_n dX7_flow_41 rfl rfl ?_
        exact MJ_ireturn dX7_flow_42 rfl ⟨by simp only [flowK]; rw [if_neg (fun z => by rw [n_lt] at z; rw [n_le] at c26; omega)]; rfl, by simp only [flowK]; rw [if_neg (fun z => by rw [n_lt] at z; rw [n_le] at c26; omega)]⟩
      · refine MJ_aload_n dX7_flow_29 rfl rfl isR_r ?_
        refine MJ_iconst (v := 0) dX7_flow_30 (by decide) ?_
        refine MJ_iconst (v := 3) dX7_flow_31 (by decide) ?_
        have hpos : 0 < mI S' 468 := by rw [n_lt]; rw [n_le] at c26; omega
        have hpos2 : 0 < nL S' := by
         have h9 := hpos
         rw [hl.1, show (0 : Int32) = nI 0 from rfl, nI_lti (by decide) hl.2.2] at h9
         exact h9
        refine MJ_st (st' := [.int 3, .int (nI 0), .ref y.1]) rfl ?_
        refine MJ_callV (mm_brings w1 hpos2 w2) dX7_flow_32 ml_X7_232 mkX7_brings rfl rfl rfl (Nat.le_of_ble_eq_true rfl) ⟨Nat.le_of_ble_eq_true rfl, Nat.le_of_ble_eq_true rfl⟩ (fun v32 hp32 q32 => ?_)
        obtain ⟨rfl, z32⟩ := q32
        rw [z32]
        refine MJ_iinc dX7_flow_35 rfl (nI_inc _) (by decide) ?_
        refine MJ_goto (tgt := 17) dX7_flow_38 (by decide) ?_
        have h8 := ih (j + 1) _ (by omega) (w3 hpos2)
        simp only [flowK, if_pos hpos]
        rw [show j + ((flowK (bringsF S' 0 3) m).1 + 1) = j + 1 + (flowK (bringsF S' 0 3) m).1 by omega]
        exact MJ_loc _ rfl h8
  unfold flowP
  refine MJ_iload_n dX7_flow_0 rfl rfl ?_
  refine MJ_i2l dX7_flow_1 ?_
  refine MJ_lconst (v := 1) dX7_flow_2 (by decide) ?_
  refine MJ_ldc2 dX7_flow_3 ll_X7_235 ?_
  refine MJ_callS (mm_in _ _ _) dX7_flow_6 ml_X7_109 mkX7_in rfl rfl (Nat.le_of_ble_eq_true rfl) ⟨Nat.le_of_ble_eq_true rfl, Nat.le_of_ble_eq_true rfl⟩ (fun v6 hp6 q6 => ?_)
  obtain ⟨rfl, z6⟩ := q6
  rw [z6]
  refine MJ_if_ne (tgt := 15) dX7_flow_9 (by decide) (fun c9 => ?_) (fun c9 => ?_)
  · obtain ⟨e1, e2, e3⟩ := inL_rng (bi_1.mp c9)
    rw [if_neg (fun q => by rw [bi_1.mp c9] at q; cases q)]
    refine MJ_iconst (v := 0) dX7_flow_15 (by decide) ?_
    refine MJ_istore_n dX7_flow_16 rfl (by decide) ?_
    have h8 := lp e1 e3 (tn n) 0 S (Nat.zero_add _) hS
    rw [Nat.zero_add] at h8
    exact MJ_loc _ rfl h8
  · refine MJ_ldc dX7_flow_12 lc_X7_140 ?_
    exact MJ_ireturn dX7_flow_14 rfl ⟨by rw [if_pos (bi_0.mp c9)], by rw [if_pos (bi_0.mp c9)]⟩
/-- as an asker rises: what was not answered is over -/
def rsF (S : Ms) (n : Int32) : Nat → Ms
  | 0 => S
  | k + 1 => pT (rsF S n k) 463 k (if mT (rsF S n k) 454 k = n ∧ mT (rsF S n k) 463 k = 0 then 2 else mT (rsF S n k) 463 k)
def riseF (S : Ms) (n : Int32) : Ms := if n < 6 then rsF (pT (pT (pT S 449 (tn n) 0) 450 (tn n) (mT S 450 (tn n) + 1)) 451 (tn n) 1) n (nA S) else pT S 449 (tn n) 0
def riseP (S : Ms) (n : Int32) : Int32 × Ms := if inN n 10 = false then (-2000001, S) else if mT S 449 (tn n) = 0 then (-2000002, S) else (mT (riseF S n) 450 (tn n), riseF S n)
theorem rs_I (n : Int32) (f : Nat) : ∀ k, mI (rsF S n k) f = mI S f
  | 0 => rfl
  | k + 1 => rs_I n f k
set_option maxRecDepth 100000 in
set_option maxHeartbeats 4000000 in
theorem mp_rise {n : Int32} (hW : WF1 S) : MM x y 2 kX7_rise [.ref y.1, .int n] S (fun z S' => z = some (.int (riseP S n).1) ∧ S' = (riseP S n).2) := by
  refine MM.ofJ mkX7_rise.1 (Nat.le_of_ble_eq_true rfl) fun h0 => ?_
  have hA := inN_tn hW.1.1
  have hA2 : nA S < 301 := hA.2.1
  have lp : inN n 10 = true → ∀ S0, mI S0 453 = nI (nA S) → ∀ m k, k ≤ nA S → nA S - k < m → MJ x y h0 2 (fun z S' => z = some (.int (mT (rsF S0 n (nA S)) 450 (tn n))) ∧ S' = rsF S0 n (nA S)) kX7_rise 59 [(0, .ref y.1), (1, .int n), (2, .int (nI k))] [] (rsF S0 n k) := by
    intro h10 S0 hS0 m
    induction m with
    | zero => intro k _ h; omega
    | succ m ih =>
      intro k hk hm
      have h8 := ih (k + 1)
      simp only [rsF] at h8
      have e453 : mI (rsF S0 n k) 453 = nI (nA S) := by rw [rs_I, hS0]
      refine MJ_iload_n dX7_rise_59 rfl rfl ?_
      refine MJ_aload_n dX7_rise_60 rfl rfl isR_r ?_
      refine MJ_getI dX7_rise_61 g_X7_106 ?_
      rw [e453]
      refine MJ_icmp_ge (tgt := 108) dX7_rise_64 (by decide) (fun c64 => ?_) (fun c64 => ?_)
      · rw [nI_lei (by omega) (by omega)] at c64
        have e : k = nA S := by omega
        subst e
        refine MJ_aload_n dX7_rise_108 rfl rfl isR_r ?_
        refine MJ_getA dX7_rise_109 g_X7_13 (by decide) ?_
        refine MJ_iload_n dX7_rise_112 rfl rfl ?_
        refine MJ_iald dX7_rise_113 (inx_v h10) (by decide) ?_
        exact MJ_ireturn dX7_rise_114 rfl ⟨rfl, rfl⟩
      · rw [nI_lei (by omega) (by omega)] at c64
        refine MJ_aload_n dX7_rise_67 rfl rfl isR_r ?_
        refine MJ_getA dX7_rise_68 g_X7_51 (by decide) ?_
        refine MJ_iload_n dX7_rise_71 rfl rfl ?_
        refine MJ_aload_n dX7_rise_72 rfl rfl isR_r ?_
        refine MJ_getA dX7_rise_73 g_X7_24 (by decide) ?_
        refine MJ_iload_n dX7_rise_76 rfl rfl ?_
        refine MJ_iald dX7_rise_77 (by first | assumption | exact inx_v (by assumption) | exact inx_n (show _ < 300 by omega) (by decide)) (by decide) ?_
        refine MJ_iload_n dX7_rise_78 rfl rfl ?_
        refine MJ_pc (pc' := 79) rfl ?_
        refine MJ_icmp_ne (tgt := 95) dX7_rise_79 (by decide) (fun c79 => ?_) (fun c79 => ?_)
        · refine MJ_aload_n dX7_rise_95 rfl rfl isR_r ?_
          refine MJ_getA dX7_rise_96 g_X7_51 (by decide) ?_
          refine MJ_iload_n dX7_rise_99 rfl rfl ?_
          refine MJ_iald dX7_rise_100 (by first | assumption | exact inx_v (by assumption) | exact inx_n (show _ < 300 by omega) (by decide)) (by decide) ?_
          refine MJ_iast dX7_rise_101 (by first | assumption | exact inx_v (by assumption) | exact inx_n (show _ < 300 by omega) (by decide)) (by decide) ?_
          refine MJ_iinc dX7_rise_102 rfl (nI_inc _) (by decide) ?_
          refine MJ_goto (tgt := 59) dX7_rise_105 (by decide) ?_
          rw [if_neg (fun z => c79 z.1)] at h8
          exact MJ_loc _ rfl (h8 (by omega) (by omega))
        · refine MJ_aload_n dX7_rise_82 rfl rfl isR_r ?_
          refine MJ_getA dX7_rise_83 g_X7_51 (by decide) ?_
          refine MJ_iload_n dX7_rise_86 rfl rfl ?_
          refine MJ_iald dX7_rise_87 (by first | assumption | exact inx_v (by assumption) | exact inx_n (show _ < 300 by omega) (by decide)) (by decide) ?_
          refine MJ_if_ne (tgt := 95) dX7_rise_88 (by decide) (fun c88 => ?_) (fun c88 => ?_)
          · refine MJ_aload_n dX7_rise_95 rfl rfl isR_r ?_
            refine MJ_getA dX7_rise_96 g_X7_51 (by decide) ?_
            refine MJ_iload_n dX7_rise_99 rfl rfl ?_
            refine MJ_iald dX7_rise_100 (by first | assumption | exact inx_v (by assumption) | exact inx_n (show _ < 300 by omega) (by decide)) (by decide) ?_
            refine MJ_iast dX7_rise_101 (by first | assumption | exact inx_v (by assumption) | exact inx_n (show _ < 300 by omega) (by decide)) (by decide) ?_
            refine MJ_iinc dX7_rise_102 rfl (nI_inc _) (by decide) ?_
            refine MJ_goto (tgt := 59) dX7_rise_105 (by decide) ?_
            rw [if_neg (fun z => c88 z.2)] at h8
            exact MJ_loc _ rfl (h8 (by omega) (by omega))
          · refine MJ_iconst (v := 2) dX7_rise_91 (by decide) ?_
            refine MJ_goto (tgt := 101) dX7_rise_92 (by decide) ?_
            refine MJ_iast dX7_rise_101 (by first | assumption | exact inx_v (by assumption) | exact inx_n (show _ < 300 by omega) (by decide)) (by decide) ?_
            refine MJ_iinc dX7_rise_102 rfl (nI_inc _) (by decide) ?_
            refine MJ_goto (tgt := 59) dX7_rise_105 (by decide) ?_
            rw [if_pos ⟨c79, c88⟩] at h8
            exact MJ_loc _ rfl (h8 (by omega) (by omega))
  unfold riseP riseF
  refine MJ_iload_n dX7_rise_0 rfl rfl ?_
  refine MJ_i2l dX7_rise_1 ?_
  refine MJ_lconst (v := 0) dX7_rise_2 (by decide) ?_
  refine MJ_ldc2 dX7_rise_3 ll_X7_162 ?_
  refine MJ_callS (mm_in _ _ _) dX7_rise_6 ml_X7_109 mkX7_in rfl rfl (Nat.le_of_ble_eq_true rfl) ⟨Nat.le_of_ble_eq_true rfl, Nat.le_of_ble_eq_true rfl⟩ (fun v6 hp6 q6 => ?_)
  obtain ⟨rfl, z6⟩ := q6
  rw [z6]
  rw [inL_inN (m := 9) 10 (by decide)]
  refine MJ_if_ne (tgt := 15) dX7_rise_9 (by decide) (fun c9 => ?_) (fun c9 => ?_)
  · have h10 := bi_1.mp c9
    rw [if_neg (fun q => by rw [h10] at q; cases q)]
    refine MJ_aload_n dX7_rise_15 rfl rfl isR_r ?_
    refine MJ_getA dX7_rise_16 g_X7_7 (by decide) ?_
    refine MJ_iload_n dX7_rise_19 rfl rfl ?_
    refine MJ_zald dX7_rise_20 (inx_v h10) (by decide) ?_
    refine MJ_if_ne (tgt := 27) dX7_rise_21 (by decide) (fun c21 => ?_) (fun c21 => ?_)
    · rw [if_neg c21]
      refine MJ_aload_n dX7_rise_27 rfl rfl isR_r ?_
      refine MJ_getA dX7_rise_28 g_X7_7 (by decide) ?_
      refine MJ_iload_n dX7_rise_31 rfl rfl ?_
      refine MJ_iconst (v := 0) dX7_rise_32 (by decide) ?_
      refine MJ_zast dX7_rise_33 (inx_v h10) (by first | exact Or.inl rfl | exact Or.inr rfl) (by decide) ?_
      refine MJ_iload_n dX7_rise_34 rfl rfl ?_
      refine MJ_bipush (v := 6) dX7_rise_35 (by decide) ?_
      refine MJ_icmp_ge (tgt := 108) dX7_rise_37 (by decide) (fun c37 => ?_) (fun c37 => ?_)
      · rw [if_neg (fun z => by rw [n_lt] at z; rw [n_le] at c37; omega)]
        refine MJ_aload_n dX7_rise_108 rfl rfl isR_r ?_
        refine MJ_getA dX7_rise_109 g_X7_13 (by decide) ?_
        refine MJ_iload_n dX7_rise_112 rfl rfl ?_
        refine MJ_iald dX7_rise_113 (inx_v h10) (by decide) ?_
        exact MJ_ireturn dX7_rise_114 rfl ⟨rfl, rfl⟩
      · refine MJ_aload_n dX7_rise_40 rfl rfl isR_r ?_
        refine MJ_getA dX7_rise_41 g_X7_13 (by decide) ?_
        refine MJ_iload_n dX7_rise_44 rfl rfl ?_
        refine MJ_dup2 dX7_rise_45 rfl rfl ?_
        refine MJ_iald dX7_rise_46 (inx_v h10) (by decide) ?_
        refine MJ_iconst (v := 1) dX7_rise_47 (by decide) ?_
        refine MJ_iadd dX7_rise_48 ?_
        refine MJ_iast dX7_rise_49 (inx_v h10) (by decide) ?_
        refine MJ_pc (pc' := 50) rfl ?_
        refine MJ_aload_n dX7_rise_50 rfl rfl isR_r ?_
        refine MJ_getA dX7_rise_51 g_X7_17 (by decide) ?_
        refine MJ_iload_n dX7_rise_54 rfl rfl ?_
        refine MJ_iconst (v := 1) dX7_rise_55 (by decide) ?_
        refine MJ_iast dX7_rise_56 (inx_v h10) (by decide) ?_
        refine MJ_iconst (v := 0) dX7_rise_57 (by decide) ?_
        refine MJ_istore_n dX7_rise_58 rfl (by decide) ?_
        have hn6 : n < 6 := by rw [n_lt]; rw [n_le] at c37; omega
        rw [if_pos hn6]
        exact MJ_loc _ rfl (lp h10 (pT (pT (pT S 449 (tn n) 0) 450 (tn n) (mT S 450 (tn n) + 1)) 451 (tn n) 1) hA.1 (nA S + 1) 0 (by omega) (by omega))
    · refine MJ_ldc dX7_rise_24 lc_X7_141 ?_
      exact MJ_ireturn dX7_rise_26 rfl ⟨by rw [if_pos c21], by rw [if_pos c21]⟩
  · refine MJ_ldc dX7_rise_12 lc_X7_140 ?_
    exact MJ_ireturn dX7_rise_14 rfl ⟨by rw [if_pos (bi_0.mp c9)], by rw [if_pos (bi_0.mp c9)]⟩
def accountP (S : Ms) (s a : Int32) : Int64 := if inN s 4 = false ∨ inN a 6 = false then -2000001 else mJ S 452 (tn (6 * s + a))
set_option maxRecDepth 100000 in
set_option maxHeartbeats 4000000 in
theorem mp_account {s a : Int32} : MM x y 2 kX7_account [.ref y.1, .int s, .int a] S (fun z S' => z = some (.long (accountP S s a)) ∧ S' = S) := by
  refine MM.ofJ mkX7_account.1 (Nat.le_of_ble_eq_true rfl) fun h0 => ?_
  unfold accountP
  refine MJ_iload_n dX7_account_0 rfl rfl ?_
  refine MJ_callS (mm_isServer) dX7_account_1 ml_X7_237 mkX7_isServer rfl rfl (Nat.le_of_ble_eq_true rfl) ⟨Nat.le_of_ble_eq_true rfl, Nat.le_of_ble_eq_true rfl⟩ (fun v1 hp1 q1 => ?_)
  obtain ⟨rfl, z1⟩ := q1
  rw [z1]
  refine MJ_if_eq (tgt := 33) dX7_account_4 (by decide) (fun c4 => ?_) (fun c4 => ?_)
  · refine MJ_ldc2 dX7_account_33 ll_X7_158 ?_
    exact MJ_lreturn dX7_account_36 rfl ⟨by rw [if_pos (Or.inl (bi_0.mp c4))], rfl⟩
  · refine MJ_iload_n dX7_account_7 rfl rfl ?_
    refine MJ_i2l dX7_account_8 ?_
    refine MJ_lconst (v := 0) dX7_account_9 (by decide) ?_
    refine MJ_ldc2 dX7_account_10 ll_X7_130 ?_
    refine MJ_callS (mm_in _ _ _) dX7_account_13 ml_X7_109 mkX7_in rfl rfl (Nat.le_of_ble_eq_true rfl) ⟨Nat.le_of_ble_eq_true rfl, Nat.le_of_ble_eq_true rfl⟩ (fun v13 hp13 q13 => ?_)
    obtain ⟨rfl, z13⟩ := q13
    rw [z13]
    rw [inL_inN (m := 5) 6 (by decide)]
    refine MJ_if_eq (tgt := 33) dX7_account_16 (by decide) (fun c16 => ?_) (fun c16 => ?_)
    · refine MJ_ldc2 dX7_account_33 ll_X7_158 ?_
      exact MJ_lreturn dX7_account_36 rfl ⟨by rw [if_pos (Or.inr (bi_0.mp c16))], rfl⟩
    · refine MJ_aload_n dX7_account_19 rfl rfl isR_r ?_
      refine MJ_getA dX7_account_20 g_X7_20 (by decide) ?_
      refine MJ_bipush (v := 6) dX7_account_23 (by decide) ?_
      refine MJ_iload_n dX7_account_25 rfl rfl ?_
      refine MJ_imul dX7_account_26 ?_
      refine MJ_iload_n dX7_account_27 rfl rfl ?_
      refine MJ_iadd dX7_account_28 ?_
      have hac := inN_ac (bi_1.mp c4) (bi_1.mp c16)
      refine MJ_lald dX7_account_29 (inx_v hac) (by decide) ?_
      refine MJ_pc (pc' := 30) rfl ?_
      refine MJ_goto (tgt := 36) dX7_account_30 (by decide) ?_
      exact MJ_lreturn dX7_account_36 rfl ⟨by rw [if_neg (fun z => z.elim (fun q => by rw [bi_1.mp c4] at q; cases q) (fun q => by rw [bi_1.mp c16] at q; cases q))], rfl⟩
def rcF (S : Ms) (o : Int32) : Nat → Int32
  | 0 => 0
  | k + 1 => rcF S o k + (if mT S 477 k = o then 1 else 0)
set_option maxRecDepth 100000 in
set_option maxHeartbeats 4000000 in
theorem mm_recordsOf {o : Int32} (hn : inN (mI S 476) 701 = true) : MM x y 0 kX7_recordsOf [.ref y.1, .int o] S (fun z S' => z = some (.int (rcF S o (nR S))) ∧ S' = S) := by
  refine MM.ofJ mkX7_recordsOf.1 (Nat.le_of_ble_eq_true rfl) fun h0 => ?_
  obtain ⟨hn1, hn2, hn3⟩ := inN_tn hn
  have lp : ∀ m k, k ≤ nR S → nR S - k < m → MJ x y h0 0 (fun z S' => z = some (.int (rcF S o (nR S))) ∧ S' = S) kX7_recordsOf 4 [(0, .ref y.1), (1, .int o), (2, .int (rcF S o k)), (3, .int (nI k))] [] S := by
    intro m
    induction m with
    | zero => intro k _ h; omega
    | succ m ih =>
      intro k hk hm
      have hk2 : nR S < 701 := hn2
      have h8 := ih (k + 1)
      simp only [rcF] at h8
      refine MJ_iload_n dX7_recordsOf_4 rfl rfl ?_
      refine MJ_aload_n dX7_recordsOf_5 rfl rfl isR_r ?_
      refine MJ_getI dX7_recordsOf_6 g_X7_166 ?_
      rw [show mI S 476 = nI (nR S) from hn1]
      refine MJ_icmp_ge (tgt := 36) dX7_recordsOf_9 (by decide) (fun c9 => ?_) (fun c9 => ?_)
      · rw [nI_lei (by omega) (by omega)] at c9
        have e : k = nR S := by omega
        subst e
        refine MJ_iload_n dX7_recordsOf_36 rfl rfl ?_
        exact MJ_ireturn dX7_recordsOf_37 rfl ⟨rfl, rfl⟩
      · rw [nI_lei (by omega) (by omega)] at c9
        refine MJ_iload_n dX7_recordsOf_12 rfl rfl ?_
        refine MJ_aload_n dX7_recordsOf_13 rfl rfl isR_r ?_
        refine MJ_getA dX7_recordsOf_14 g_X7_87 (by decide) ?_
        refine MJ_iload_n dX7_recordsOf_17 rfl rfl ?_
        refine MJ_iald dX7_recordsOf_18 (by first | assumption | exact inx_v (by assumption) | exact inx_n (show _ < 700 by omega) (by decide)) (by decide) ?_
        refine MJ_iload_n dX7_recordsOf_19 rfl rfl ?_
        refine MJ_icmp_ne (tgt := 27) dX7_recordsOf_20 (by decide) (fun c20 => ?_) (fun c20 => ?_)
        · refine MJ_iconst (v := 0) dX7_recordsOf_27 (by decide) ?_
          refine MJ_iadd dX7_recordsOf_28 ?_
          refine MJ_istore_n dX7_recordsOf_29 rfl (by decide) ?_
          refine MJ_iinc dX7_recordsOf_30 rfl (nI_inc _) (by decide) ?_
          refine MJ_goto (tgt := 4) dX7_recordsOf_33 (by decide) ?_
          rw [if_neg c20] at h8
          exact MJ_loc _ rfl (h8 (by omega) (by omega))
        · refine MJ_iconst (v := 1) dX7_recordsOf_23 (by decide) ?_
          refine MJ_goto (tgt := 28) dX7_recordsOf_24 (by decide) ?_
          refine MJ_iadd dX7_recordsOf_28 ?_
          refine MJ_istore_n dX7_recordsOf_29 rfl (by decide) ?_
          refine MJ_iinc dX7_recordsOf_30 rfl (nI_inc _) (by decide) ?_
          refine MJ_goto (tgt := 4) dX7_recordsOf_33 (by decide) ?_
          rw [if_pos c20] at h8
          exact MJ_loc _ rfl (h8 (by omega) (by omega))
  refine MJ_iconst (v := 0) dX7_recordsOf_0 (by decide) ?_
  refine MJ_istore_n dX7_recordsOf_1 rfl (by decide) ?_
  refine MJ_iconst (v := 0) dX7_recordsOf_2 (by decide) ?_
  refine MJ_istore_n dX7_recordsOf_3 rfl (by decide) ?_
  exact MJ_loc _ rfl (lp (nR S + 1) 0 (by omega) (by omega))
def keptP (S : Ms) (s n w : Int32) : Int32 := if inN s 4 = false ∨ inN n 10 = false ∨ inN w 3 = false then -2000001 else if w = 0 then mT S 474 (tn (10 * s + n)) else if w = 1 then mT S 475 (tn (10 * s + n)) else rcF S (10 * s + n) (nR S)
set_option maxRecDepth 100000 in
set_option maxHeartbeats 4000000 in
theorem mp_kept {s n w : Int32} (hn : inN (mI S 476) 701 = true) : MM x y 2 kX7_kept [.ref y.1, .int s, .int n, .int w] S (fun z S' => z = some (.int (keptP S s n w)) ∧ S' = S) := by
  refine MM.ofJ mkX7_kept.1 (Nat.le_of_ble_eq_true rfl) fun h0 => ?_
  unfold keptP
  refine MJ_iload_n dX7_kept_0 rfl rfl ?_
  refine MJ_callS (mm_isServer) dX7_kept_1 ml_X7_237 mkX7_isServer rfl rfl (Nat.le_of_ble_eq_true rfl) ⟨Nat.le_of_ble_eq_true rfl, Nat.le_of_ble_eq_true rfl⟩ (fun v1 hp1 q1 => ?_)
  obtain ⟨rfl, z1⟩ := q1
  rw [z1]
  refine MJ_if_eq (tgt := 31) dX7_kept_4 (by decide) (fun c4 => ?_) (fun c4 => ?_)
  · refine MJ_ldc dX7_kept_31 lc_X7_140 ?_
    exact MJ_ireturn dX7_kept_33 rfl ⟨by rw [if_pos (Or.inl (bi_0.mp c4))], rfl⟩
  · refine MJ_iload_n dX7_kept_7 rfl rfl ?_
    refine MJ_i2l dX7_kept_8 ?_
    refine MJ_lconst (v := 0) dX7_kept_9 (by decide) ?_
    refine MJ_ldc2 dX7_kept_10 ll_X7_162 ?_
    refine MJ_callS (mm_in _ _ _) dX7_kept_13 ml_X7_109 mkX7_in rfl rfl (Nat.le_of_ble_eq_true rfl) ⟨Nat.le_of_ble_eq_true rfl, Nat.le_of_ble_eq_true rfl⟩ (fun v13 hp13 q13 => ?_)
    obtain ⟨rfl, z13⟩ := q13
    rw [z13]
    rw [inL_inN (m := 9) 10 (by decide)]
    refine MJ_if_eq (tgt := 31) dX7_kept_16 (by decide) (fun c16 => ?_) (fun c16 => ?_)
    · refine MJ_ldc dX7_kept_31 lc_X7_140 ?_
      exact MJ_ireturn dX7_kept_33 rfl ⟨by rw [if_pos (Or.inr (Or.inl (bi_0.mp c16)))], rfl⟩
    · refine MJ_iload_n dX7_kept_19 rfl rfl ?_
      refine MJ_i2l dX7_kept_20 ?_
      refine MJ_lconst (v := 0) dX7_kept_21 (by decide) ?_
      refine MJ_ldc2 dX7_kept_22 ll_X7_164 ?_
      refine MJ_callS (mm_in _ _ _) dX7_kept_25 ml_X7_109 mkX7_in rfl rfl (Nat.le_of_ble_eq_true rfl) ⟨Nat.le_of_ble_eq_true rfl, Nat.le_of_ble_eq_true rfl⟩ (fun v25 hp25 q25 => ?_)
      obtain ⟨rfl, z25⟩ := q25
      rw [z25]
      rw [inL_inN (m := 2) 3 (by decide)]
      refine MJ_if_ne (tgt := 34) dX7_kept_28 (by decide) (fun c28 => ?_) (fun c28 => ?_)
      · have ho := inN_of (bi_1.mp c4) (bi_1.mp c16)
        rw [if_neg (fun z => z.elim (fun q => by rw [bi_1.mp c4] at q; cases q) (fun z => z.elim (fun q => by rw [bi_1.mp c16] at q; cases q) (fun q => by rw [bi_1.mp c28] at q; cases q)))]
        refine MJ_bipush (v := 10) dX7_kept_34 (by decide) ?_
        refine MJ_iload_n dX7_kept_36 rfl rfl ?_
        refine MJ_imul dX7_kept_37 ?_
        refine MJ_iload_n dX7_kept_38 rfl rfl ?_
        refine MJ_iadd dX7_kept_39 ?_
        refine MJ_istore dX7_kept_40 (by decide) ?_
        refine MJ_iload_n dX7_kept_42 rfl rfl ?_
        refine MJ_if_ne (tgt := 56) dX7_kept_43 (by decide) (fun c43 => ?_) (fun c43 => ?_)
        · refine MJ_iload_n dX7_kept_56 rfl rfl ?_
          refine MJ_iconst (v := 1) dX7_kept_57 (by decide) ?_
          refine MJ_icmp_ne (tgt := 71) dX7_kept_58 (by decide) (fun c58 => ?_) (fun c58 => ?_)
          · refine MJ_aload_n dX7_kept_71 rfl rfl isR_r ?_
            refine MJ_iload dX7_kept_72 rfl ?_
            refine MJ_callV (mm_recordsOf hn) dX7_kept_74 ml_X7_240 mkX7_recordsOf rfl rfl rfl (Nat.le_of_ble_eq_true rfl) ⟨Nat.le_of_ble_eq_true rfl, Nat.le_of_ble_eq_true rfl⟩ (fun v74 hp74 q74 => ?_)
            obtain ⟨rfl, z74⟩ := q74
            rw [z74]
            exact MJ_ireturn dX7_kept_77 rfl ⟨by rw [if_neg c43, if_neg c58], rfl⟩
          · refine MJ_aload_n dX7_kept_61 rfl rfl isR_r ?_
            refine MJ_getA dX7_kept_62 g_X7_84 (by decide) ?_
            refine MJ_iload dX7_kept_65 rfl ?_
            refine MJ_iald dX7_kept_67 (inx_v ho) (by decide) ?_
            refine MJ_goto (tgt := 77) dX7_kept_68 (by decide) ?_
            exact MJ_ireturn dX7_kept_77 rfl ⟨by rw [if_neg c43, if_pos c58], rfl⟩
        · refine MJ_aload_n dX7_kept_46 rfl rfl isR_r ?_
          refine MJ_getA dX7_kept_47 g_X7_81 (by decide) ?_
          refine MJ_iload dX7_kept_50 rfl ?_
          refine MJ_iald dX7_kept_52 (inx_v ho) (by decide) ?_
          refine MJ_goto (tgt := 77) dX7_kept_53 (by decide) ?_
          exact MJ_ireturn dX7_kept_77 rfl ⟨by rw [if_pos c43], rfl⟩
      · refine MJ_ldc dX7_kept_31 lc_X7_140 ?_
        exact MJ_ireturn dX7_kept_33 rfl ⟨by rw [if_pos (Or.inr (Or.inr (bi_0.mp c28)))], rfl⟩
def recordP (S : Ms) (s n num : Int32) : Int32 := if inN s 4 = false ∨ inN n 10 = false then -2000001 else match fnd S (10 * s + n) num with
  | some r => mT S 479 r
  | none => 0
set_option maxRecDepth 100000 in
set_option maxHeartbeats 4000000 in
theorem mp_record {s n num : Int32} (hW : WF1 S) : MM x y 2 kX7_record [.ref y.1, .int s, .int n, .int num] S (fun z S' => z = some (.int (recordP S s n num)) ∧ S' = S) := by
  refine MM.ofJ mkX7_record.1 (Nat.le_of_ble_eq_true rfl) fun h0 => ?_
  unfold recordP
  cases hf : fnd S (10 * s + n) num with
  | none =>
    refine MJ_iload_n dX7_record_0 rfl rfl ?_
    refine MJ_callS (mm_isServer) dX7_record_1 ml_X7_237 mkX7_isServer rfl rfl (Nat.le_of_ble_eq_true rfl) ⟨Nat.le_of_ble_eq_true rfl, Nat.le_of_ble_eq_true rfl⟩ (fun v1 hp1 q1 => ?_)
    obtain ⟨rfl, z1⟩ := q1
    rw [z1]
    refine MJ_if_eq (tgt := 19) dX7_record_4 (by decide) (fun c4 => ?_) (fun c4 => ?_)
    · refine MJ_ldc dX7_record_19 lc_X7_140 ?_
      exact MJ_ireturn dX7_record_21 rfl ⟨by rw [if_pos (Or.inl (bi_0.mp c4))], rfl⟩
    · refine MJ_iload_n dX7_record_7 rfl rfl ?_
      refine MJ_i2l dX7_record_8 ?_
      refine MJ_lconst (v := 0) dX7_record_9 (by decide) ?_
      refine MJ_ldc2 dX7_record_10 ll_X7_162 ?_
      refine MJ_callS (mm_in _ _ _) dX7_record_13 ml_X7_109 mkX7_in rfl rfl (Nat.le_of_ble_eq_true rfl) ⟨Nat.le_of_ble_eq_true rfl, Nat.le_of_ble_eq_true rfl⟩ (fun v13 hp13 q13 => ?_)
      obtain ⟨rfl, z13⟩ := q13
      rw [z13]
      rw [inL_inN (m := 9) 10 (by decide)]
      refine MJ_if_ne (tgt := 22) dX7_record_16 (by decide) (fun c16 => ?_) (fun c16 => ?_)
      · rw [if_neg (fun z => z.elim (fun q => by rw [bi_1.mp c4] at q; cases q) (fun q => by rw [bi_1.mp c16] at q; cases q))]
        refine MJ_aload_n dX7_record_22 rfl rfl isR_r ?_
        refine MJ_bipush (v := 10) dX7_record_23 (by decide) ?_
        refine MJ_iload_n dX7_record_25 rfl rfl ?_
        refine MJ_imul dX7_record_26 ?_
        refine MJ_iload_n dX7_record_27 rfl rfl ?_
        refine MJ_iadd dX7_record_28 ?_
        refine MJ_iload_n dX7_record_29 rfl rfl ?_
        refine MJ_callV (mm_findRecord hW.1.2.2) dX7_record_30 ml_X7_169 mkX7_findRecord rfl rfl rfl (Nat.le_of_ble_eq_true rfl) ⟨Nat.le_of_ble_eq_true rfl, Nat.le_of_ble_eq_true rfl⟩ (fun v30 hp30 q30 => ?_)
        obtain ⟨rfl, z30⟩ := q30
        rw [z30]
        refine MJ_pc (pc' := 33) rfl ?_
        refine MJ_st (st' := [.int (oI (fnd S (10 * s + n) num))]) rfl ?_
        rw [hf]
        refine MJ_istore dX7_record_33 (by decide) ?_
        refine MJ_iload dX7_record_35 rfl ?_
        refine MJ_if_ge (tgt := 44) dX7_record_37 (by decide) (fun c37 => ((show False from absurd c37 (by decide))).elim) (fun c37 => ?_)
        refine MJ_iconst (v := 0) dX7_record_40 (by decide) ?_
        refine MJ_goto (tgt := 51) dX7_record_41 (by decide) ?_
        exact MJ_ireturn dX7_record_51 rfl ⟨rfl, rfl⟩
      · refine MJ_ldc dX7_record_19 lc_X7_140 ?_
        exact MJ_ireturn dX7_record_21 rfl ⟨by rw [if_pos (Or.inr (bi_0.mp c16))], rfl⟩
  | some r =>
    have hr7 := fnd_bound hW hf
    refine MJ_iload_n dX7_record_0 rfl rfl ?_
    refine MJ_callS (mm_isServer) dX7_record_1 ml_X7_237 mkX7_isServer rfl rfl (Nat.le_of_ble_eq_true rfl) ⟨Nat.le_of_ble_eq_true rfl, Nat.le_of_ble_eq_true rfl⟩ (fun v1 hp1 q1 => ?_)
    obtain ⟨rfl, z1⟩ := q1
    rw [z1]
    refine MJ_if_eq (tgt := 19) dX7_record_4 (by decide) (fun c4 => ?_) (fun c4 => ?_)
    · refine MJ_ldc dX7_record_19 lc_X7_140 ?_
      exact MJ_ireturn dX7_record_21 rfl ⟨by rw [if_pos (Or.inl (bi_0.mp c4))], rfl⟩
    · refine MJ_iload_n dX7_record_7 rfl rfl ?_
      refine MJ_i2l dX7_record_8 ?_
      refine MJ_lconst (v := 0) dX7_record_9 (by decide) ?_
      refine MJ_ldc2 dX7_record_10 ll_X7_162 ?_
      refine MJ_callS (mm_in _ _ _) dX7_record_13 ml_X7_109 mkX7_in rfl rfl (Nat.le_of_ble_eq_true rfl) ⟨Nat.le_of_ble_eq_true rfl, Nat.le_of_ble_eq_true rfl⟩ (fun v13 hp13 q13 => ?_)
      obtain ⟨rfl, z13⟩ := q13
      rw [z13]
      rw [inL_inN (m := 9) 10 (by decide)]
      refine MJ_if_ne (tgt := 22) dX7_record_16 (by decide) (fun c16 => ?_) (fun c16 => ?_)
      · rw [if_neg (fun z => z.elim (fun q => by rw [bi_1.mp c4] at q; cases q) (fun q => by rw [bi_1.mp c16] at q; cases q))]
        refine MJ_aload_n dX7_record_22 rfl rfl isR_r ?_
        refine MJ_bipush (v := 10) dX7_record_23 (by decide) ?_
        refine MJ_iload_n dX7_record_25 rfl rfl ?_
        refine MJ_imul dX7_record_26 ?_
        refine MJ_iload_n dX7_record_27 rfl rfl ?_
        refine MJ_iadd dX7_record_28 ?_
        refine MJ_iload_n dX7_record_29 rfl rfl ?_
        refine MJ_callV (mm_findRecord hW.1.2.2) dX7_record_30 ml_X7_169 mkX7_findRecord rfl rfl rfl (Nat.le_of_ble_eq_true rfl) ⟨Nat.le_of_ble_eq_true rfl, Nat.le_of_ble_eq_true rfl⟩ (fun v30 hp30 q30 => ?_)
        obtain ⟨rfl, z30⟩ := q30
        rw [z30]
        refine MJ_pc (pc' := 33) rfl ?_
        refine MJ_st (st' := [.int (oI (fnd S (10 * s + n) num))]) rfl ?_
        rw [hf]
        refine MJ_istore dX7_record_33 (by decide) ?_
        refine MJ_iload dX7_record_35 rfl ?_
        refine MJ_if_ge (tgt := 44) dX7_record_37 (by decide) (fun c37 => ?_) (fun c37 => ((c37 (nI_pos' (by omega)))).elim)
        refine MJ_aload_n dX7_record_44 rfl rfl isR_r ?_
        refine MJ_getA dX7_record_45 g_X7_93 (by decide) ?_
        refine MJ_iload dX7_record_48 rfl ?_
        refine MJ_iald dX7_record_50 (inx_n (show r < 700 from hr7) (by decide)) (by decide) ?_
        exact MJ_ireturn dX7_record_51 rfl ⟨rfl, rfl⟩
      · refine MJ_ldc dX7_record_19 lc_X7_140 ?_
        exact MJ_ireturn dX7_record_21 rfl ⟨by rw [if_pos (Or.inr (bi_0.mp c16))], rfl⟩
end P3
