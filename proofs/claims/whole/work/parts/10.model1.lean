/-! the reference's small methods -/
set_option maxRecDepth 100000 in
set_option maxHeartbeats 4000000 in
theorem m_in (x : om_x) (h : Hp) (v l m : Int64) : Mt x 0 kX7_in 0 0 [.long v, .long l, .long m] h (fun z h' => z = some (.int (bi (inL v l m))) ∧ h' = h) := by
  refine Mt.ofJ mkX7_in.1 (Nat.le_of_ble_eq_true rfl) ?_
  refine J_lload_n dX7_in_0 rfl rfl ?_
  refine J_lload_n dX7_in_1 rfl rfl ?_
  refine J_lcmp dX7_in_2 ?_
  refine J_if_lt (tgt := 17) dX7_in_3 (by decide) (fun c3 => ?_) (fun c3 => ?_)
  · refine J_iconst (v := 0) dX7_in_17 (by decide) ?_
    have e : bi (inL v l m) = 0 := by
      rw [bi_0]; unfold inL; rw [lg_cmp_lt] at c3; rw [decide_eq_false_iff_not]; intro z; rw [n_lt64] at c3; have := z.1; rw [n_le64] at this; omega
    exact J_zreturn dX7_in_18 rfl (by first | exact Or.inl rfl | exact Or.inr rfl | exact bi_01) ⟨by rw [e], rfl⟩ (Nat.le_of_ble_eq_true rfl) (Nat.le_of_ble_eq_true rfl)
  · refine J_lload_n dX7_in_6 rfl rfl ?_
    refine J_lload dX7_in_7 rfl ?_
    refine J_lcmp dX7_in_9 ?_
    refine J_if_gt (tgt := 17) dX7_in_10 (by decide) (fun c10 => ?_) (fun c10 => ?_)
    · refine J_iconst (v := 0) dX7_in_17 (by decide) ?_
      have e : bi (inL v l m) = 0 := by
        rw [bi_0]; unfold inL; rw [lg_cmp_gt] at c10; rw [decide_eq_false_iff_not]; intro z; rw [n_lt64] at c10; have := z.2; rw [n_le64] at this; omega
      exact J_zreturn dX7_in_18 rfl (by first | exact Or.inl rfl | exact Or.inr rfl | exact bi_01) ⟨by rw [e], rfl⟩ (Nat.le_of_ble_eq_true rfl) (Nat.le_of_ble_eq_true rfl)
    · refine J_iconst (v := 1) dX7_in_13 (by decide) ?_
      refine J_goto (tgt := 18) dX7_in_14 (by decide) ?_
      have e : bi (inL v l m) = 1 := by
        have : inL v l m = true := by
          unfold inL; rw [lg_cmp_lt] at c3; rw [lg_cmp_gt] at c10; rw [n_lt64] at c3 c10; rw [decide_eq_true_iff, n_le64, n_le64]; omega
        rw [this]; rfl
      exact J_zreturn dX7_in_18 rfl (by first | exact Or.inl rfl | exact Or.inr rfl | exact bi_01) ⟨by rw [e], rfl⟩ (Nat.le_of_ble_eq_true rfl) (Nat.le_of_ble_eq_true rfl)
section M1
variable {x : om_x} {y : om_y} {S : Ms}
theorem mm_in (v l m : Int64) : MM x y 0 kX7_in [.long v, .long l, .long m] S (fun z S' => z = some (.int (bi (inL v l m))) ∧ S' = S) := MM.pure (fun h => m_in x h v l m)
theorem in_m1 {v a : Int32} {n : Nat} (ha : inN a n = true) (hb : n ≤ 1000) : inL v.toInt64 0 (a - 1).toInt64 = inN v (tn a) := by
  obtain ⟨h1, h2, h3⟩ := inN_tn ha
  have := nI_m1 h3
  rw [← h1] at this
  exact inL_inN _ this
set_option maxRecDepth 100000 in
set_option maxHeartbeats 4000000 in
theorem mm_isAsk {v : Int32} (hn : inN (mI S 453) 301 = true) : MM x y 1 kX7_isAsk [.ref y.1, .int v] S (fun z S' => z = some (.int (bi (inN v (nA S)))) ∧ S' = S) := by
  refine MM.ofJ mkX7_isAsk.1 (Nat.le_of_ble_eq_true rfl) fun h0 => ?_
  refine MJ_iload_n dX7_isAsk_0 rfl rfl ?_
  refine MJ_i2l dX7_isAsk_1 ?_
  refine MJ_lconst (v := 0) dX7_isAsk_2 (by decide) ?_
  refine MJ_aload_n dX7_isAsk_3 rfl rfl isR_r ?_
  refine MJ_getI dX7_isAsk_4 g_X7_106 ?_
  refine MJ_iconst (v := 1) dX7_isAsk_7 (by decide) ?_
  refine MJ_isub dX7_isAsk_8 ?_
  refine MJ_i2l dX7_isAsk_9 ?_
  refine MJ_pc (pc' := 10) rfl ?_
  refine MJ_callS (mm_in _ _ _) dX7_isAsk_10 ml_X7_109 mkX7_in rfl rfl (Nat.le_of_ble_eq_true rfl) ⟨Nat.le_of_ble_eq_true rfl, Nat.le_of_ble_eq_true rfl⟩ (fun v10 hp10 q10 => ?_)
  obtain ⟨rfl, z10⟩ := q10
  rw [z10]
  exact MJ_zreturn dX7_isAsk_13 rfl (by first | exact Or.inl rfl | exact Or.inr rfl | exact bi_01) ⟨by rw [in_m1 hn (by decide)]; rfl, rfl⟩
set_option maxRecDepth 100000 in
set_option maxHeartbeats 4000000 in
theorem mm_isLetter {v : Int32} (hn : inN (mI S 468) 121 = true) : MM x y 1 kX7_isLetter [.ref y.1, .int v] S (fun z S' => z = some (.int (bi (inN v (nL S)))) ∧ S' = S) := by
  refine MM.ofJ mkX7_isLetter.1 (Nat.le_of_ble_eq_true rfl) fun h0 => ?_
  refine MJ_iload_n dX7_isLetter_0 rfl rfl ?_
  refine MJ_i2l dX7_isLetter_1 ?_
  refine MJ_lconst (v := 0) dX7_isLetter_2 (by decide) ?_
  refine MJ_aload_n dX7_isLetter_3 rfl rfl isR_r ?_
  refine MJ_getI dX7_isLetter_4 g_X7_124 ?_
  refine MJ_iconst (v := 1) dX7_isLetter_7 (by decide) ?_
  refine MJ_isub dX7_isLetter_8 ?_
  refine MJ_i2l dX7_isLetter_9 ?_
  refine MJ_pc (pc' := 10) rfl ?_
  refine MJ_callS (mm_in _ _ _) dX7_isLetter_10 ml_X7_109 mkX7_in rfl rfl (Nat.le_of_ble_eq_true rfl) ⟨Nat.le_of_ble_eq_true rfl, Nat.le_of_ble_eq_true rfl⟩ (fun v10 hp10 q10 => ?_)
  obtain ⟨rfl, z10⟩ := q10
  rw [z10]
  exact MJ_zreturn dX7_isLetter_13 rfl (by first | exact Or.inl rfl | exact Or.inr rfl | exact bi_01) ⟨by rw [in_m1 hn (by decide)]; rfl, rfl⟩
set_option maxRecDepth 100000 in
set_option maxHeartbeats 4000000 in
theorem mm_isServer {v : Int32} : MM x y 1 kX7_isServer [.int v] S (fun z S' => z = some (.int (bi (inN v 4))) ∧ S' = S) := by
  refine MM.ofJ mkX7_isServer.1 (Nat.le_of_ble_eq_true rfl) fun h0 => ?_
  refine MJ_iload_n dX7_isServer_0 rfl rfl ?_
  refine MJ_i2l dX7_isServer_1 ?_
  refine MJ_lconst (v := 0) dX7_isServer_2 (by decide) ?_
  refine MJ_ldc2 dX7_isServer_3 ll_X7_132 ?_
  refine MJ_callS (mm_in _ _ _) dX7_isServer_6 ml_X7_109 mkX7_in rfl rfl (Nat.le_of_ble_eq_true rfl) ⟨Nat.le_of_ble_eq_true rfl, Nat.le_of_ble_eq_true rfl⟩ (fun v6 hp6 q6 => ?_)
  obtain ⟨rfl, z6⟩ := q6
  rw [z6]
  exact MJ_zreturn dX7_isServer_9 rfl (by first | exact Or.inl rfl | exact Or.inr rfl | exact bi_01) ⟨by rw [inL_inN 4 (by decide)], rfl⟩
set_option maxRecDepth 100000 in
set_option maxHeartbeats 4000000 in
theorem mm_mayBe {v : Int64} : MM x y 1 kX7_mayBe [.ref y.1, .long v] S (fun z S' => z = some (.int (bi (okV v))) ∧ S' = S) := by
  refine MM.ofJ mkX7_mayBe.1 (Nat.le_of_ble_eq_true rfl) fun h0 => ?_
  refine MJ_lload_n dX7_mayBe_0 rfl rfl ?_
  refine MJ_lconst (v := 0) dX7_mayBe_1 (by decide) ?_
  refine MJ_ldc2 dX7_mayBe_2 ll_X7_173 ?_
  refine MJ_callS (mm_in _ _ _) dX7_mayBe_5 ml_X7_109 mkX7_in rfl rfl (Nat.le_of_ble_eq_true rfl) ⟨Nat.le_of_ble_eq_true rfl, Nat.le_of_ble_eq_true rfl⟩ (fun v5 hp5 q5 => ?_)
  obtain ⟨rfl, z5⟩ := q5
  rw [z5]
  exact MJ_zreturn dX7_mayBe_8 rfl (by first | exact Or.inl rfl | exact Or.inr rfl | exact bi_01) ⟨rfl, rfl⟩
set_option maxRecDepth 100000 in
set_option maxHeartbeats 4000000 in
theorem mm_lowest {n : Int32} (h10 : inN n 10 = true) (hn : inN (mI S 453) 301 = true) : MM x y 0 kX7_lowest [.ref y.1, .int n] S (fun z S' => z = some (.int (lowS S n)) ∧ S' = S) := by
  refine MM.ofJ mkX7_lowest.1 (Nat.le_of_ble_eq_true rfl) fun h0 => ?_
  obtain ⟨hn1, hn2, hn3⟩ := inN_tn hn
  have lp : ∀ m k, k ≤ nA S → nA S - k < m → MJ x y h0 0 (fun z S' => z = some (.int (lowS S n)) ∧ S' = S) kX7_lowest 9 [(0, .ref y.1), (1, .int n), (2, .int (lowF S n k)), (3, .int (nI k))] [] S := by
    intro m
    induction m with
    | zero => intro k _ h; omega
    | succ m ih =>
      intro k hk hm
      have hk2 : nA S < 301 := hn2
      refine MJ_iload_n dX7_lowest_9 rfl rfl ?_
      refine MJ_aload_n dX7_lowest_10 rfl rfl isR_r ?_
      refine MJ_getI dX7_lowest_11 g_X7_106 ?_
      rw [show mI S 453 = nI (nA S) from hn1]
      refine MJ_icmp_ge (tgt := 74) dX7_lowest_14 (by decide) (fun c14 => ?_) (fun c14 => ?_)
      · rw [nI_lei (by omega) (by omega)] at c14
        have e : k = nA S := by omega
        refine MJ_iload_n dX7_lowest_74 rfl rfl ?_
        exact MJ_ireturn dX7_lowest_75 rfl ⟨by rw [e]; rfl, rfl⟩
      · rw [nI_lei (by omega) (by omega)] at c14
        refine MJ_aload_n dX7_lowest_17 rfl rfl isR_r ?_
        refine MJ_getA dX7_lowest_18 g_X7_24 (by decide) ?_
        refine MJ_iload_n dX7_lowest_21 rfl rfl ?_
        refine MJ_iald dX7_lowest_22 (by first | assumption | exact inx_v (by assumption) | exact inx_n (show _ < 300 by omega) (by decide)) (by decide) ?_
        refine MJ_iload_n dX7_lowest_23 rfl rfl ?_
        refine MJ_icmp_ne (tgt := 68) dX7_lowest_24 (by decide) (fun c24 => ?_) (fun c24 => ?_)
        · refine MJ_iinc dX7_lowest_68 rfl (nI_inc _) (by decide) ?_
          have e : lowF S n k = lowF S n (k + 1) := by simp [lowF, c24]
          rw [e]
          refine MJ_goto (tgt := 9) dX7_lowest_71 (by decide) ?_
          exact MJ_loc _ rfl (ih (k + 1) (by omega) (by omega))
        · refine MJ_aload_n dX7_lowest_27 rfl rfl isR_r ?_
          refine MJ_getA dX7_lowest_28 g_X7_27 (by decide) ?_
          refine MJ_iload_n dX7_lowest_31 rfl rfl ?_
          refine MJ_iald dX7_lowest_32 (by first | assumption | exact inx_v (by assumption) | exact inx_n (show _ < 300 by omega) (by decide)) (by decide) ?_
          refine MJ_aload_n dX7_lowest_33 rfl rfl isR_r ?_
          refine MJ_getA dX7_lowest_34 g_X7_13 (by decide) ?_
          refine MJ_iload_n dX7_lowest_37 rfl rfl ?_
          refine MJ_iald dX7_lowest_38 (inx_v h10) (by decide) ?_
          refine MJ_pc (pc' := 39) rfl ?_
          refine MJ_icmp_ne (tgt := 68) dX7_lowest_39 (by decide) (fun c39 => ?_) (fun c39 => ?_)
          · refine MJ_iinc dX7_lowest_68 rfl (nI_inc _) (by decide) ?_
            have e : lowF S n k = lowF S n (k + 1) := by simp [lowF, c39]
            rw [e]
            refine MJ_goto (tgt := 9) dX7_lowest_71 (by decide) ?_
            exact MJ_loc _ rfl (ih (k + 1) (by omega) (by omega))
          · refine MJ_aload_n dX7_lowest_42 rfl rfl isR_r ?_
            refine MJ_getA dX7_lowest_43 g_X7_51 (by decide) ?_
            refine MJ_iload_n dX7_lowest_46 rfl rfl ?_
            refine MJ_iald dX7_lowest_47 (by first | assumption | exact inx_v (by assumption) | exact inx_n (show _ < 300 by omega) (by decide)) (by decide) ?_
            refine MJ_if_ne (tgt := 68) dX7_lowest_48 (by decide) (fun c48 => ?_) (fun c48 => ?_)
            · refine MJ_iinc dX7_lowest_68 rfl (nI_inc _) (by decide) ?_
              have e : lowF S n k = lowF S n (k + 1) := by simp [lowF, c48]
              rw [e]
              refine MJ_goto (tgt := 9) dX7_lowest_71 (by decide) ?_
              exact MJ_loc _ rfl (ih (k + 1) (by omega) (by omega))
            · refine MJ_aload_n dX7_lowest_51 rfl rfl isR_r ?_
              refine MJ_getA dX7_lowest_52 g_X7_30 (by decide) ?_
              refine MJ_iload_n dX7_lowest_55 rfl rfl ?_
              refine MJ_iald dX7_lowest_56 (by first | assumption | exact inx_v (by assumption) | exact inx_n (show _ < 300 by omega) (by decide)) (by decide) ?_
              refine MJ_iload_n dX7_lowest_57 rfl rfl ?_
              refine MJ_icmp_ge (tgt := 68) dX7_lowest_58 (by decide) (fun c58 => ?_) (fun c58 => ?_)
              · refine MJ_iinc dX7_lowest_68 rfl (nI_inc _) (by decide) ?_
                have e : lowF S n k = lowF S n (k + 1) := by
                 have : ¬ mT S 456 k < lowF S n k := by rw [n_lt]; rw [n_le] at c58; omega
                 simp [lowF, this]
                rw [e]
                refine MJ_goto (tgt := 9) dX7_lowest_71 (by decide) ?_
                exact MJ_loc _ rfl (ih (k + 1) (by omega) (by omega))
              · refine MJ_aload_n dX7_lowest_61 rfl rfl isR_r ?_
                refine MJ_getA dX7_lowest_62 g_X7_30 (by decide) ?_
                refine MJ_iload_n dX7_lowest_65 rfl rfl ?_
                refine MJ_iald dX7_lowest_66 (by first | assumption | exact inx_v (by assumption) | exact inx_n (show _ < 300 by omega) (by decide)) (by decide) ?_
                refine MJ_istore_n dX7_lowest_67 rfl (by decide) ?_
                refine MJ_iinc dX7_lowest_68 rfl (nI_inc _) (by decide) ?_
                have e : mT S 456 k = lowF S n (k + 1) := by
                 have : mT S 456 k < lowF S n k := by rw [n_lt]; rw [n_le] at c58; omega
                 simp [lowF, this, c24, c39, c48]
                rw [e]
                refine MJ_goto (tgt := 9) dX7_lowest_71 (by decide) ?_
                exact MJ_loc _ rfl (ih (k + 1) (by omega) (by omega))
  refine MJ_aload_n dX7_lowest_0 rfl rfl isR_r ?_
  refine MJ_getA dX7_lowest_1 g_X7_17 (by decide) ?_
  refine MJ_iload_n dX7_lowest_4 rfl rfl ?_
  refine MJ_iald dX7_lowest_5 (inx_v h10) (by decide) ?_
  refine MJ_istore_n dX7_lowest_6 rfl (by decide) ?_
  refine MJ_iconst (v := 0) dX7_lowest_7 (by decide) ?_
  refine MJ_istore_n dX7_lowest_8 rfl (by decide) ?_
  exact MJ_loc _ rfl (lp (nA S + 1) 0 (by omega) (by omega))
set_option maxRecDepth 100000 in
set_option maxHeartbeats 4000000 in
theorem mm_isUsedUp {n : Int32} (h10 : inN n 10 = true) (hn : inN (mI S 453) 301 = true) : MM x y 1 kX7_isUsedUp [.ref y.1, .int n] S (fun z S' => z = some (.int (bi (usedUp S n))) ∧ S' = S) := by
  refine MM.ofJ mkX7_isUsedUp.1 (Nat.le_of_ble_eq_true rfl) fun h0 => ?_
  refine MJ_aload_n dX7_isUsedUp_0 rfl rfl isR_r ?_
  refine MJ_getA dX7_isUsedUp_1 g_X7_17 (by decide) ?_
  refine MJ_iload_n dX7_isUsedUp_4 rfl rfl ?_
  refine MJ_iald dX7_isUsedUp_5 (inx_v h10) (by decide) ?_
  refine MJ_aload_n dX7_isUsedUp_6 rfl rfl isR_r ?_
  refine MJ_iload_n dX7_isUsedUp_7 rfl rfl ?_
  refine MJ_callV (mm_lowest h10 hn) dX7_isUsedUp_8 ml_X7_113 mkX7_lowest rfl rfl rfl (Nat.le_of_ble_eq_true rfl) ⟨Nat.le_of_ble_eq_true rfl, Nat.le_of_ble_eq_true rfl⟩ (fun v8 hp8 q8 => ?_)
  obtain ⟨rfl, z8⟩ := q8
  rw [z8]
  refine MJ_aload_n dX7_isUsedUp_11 rfl rfl isR_r ?_
  refine MJ_pc (pc' := 12) rfl ?_
  refine MJ_getI dX7_isUsedUp_12 g_X7_102 ?_
  refine MJ_iadd dX7_isUsedUp_15 ?_
  refine MJ_icmp_lt (tgt := 23) dX7_isUsedUp_16 (by decide) (fun c16 => ?_) (fun c16 => ?_)
  · refine MJ_iconst (v := 0) dX7_isUsedUp_23 (by decide) ?_
    have e : usedUp S n = false := by
     unfold usedUp; rw [decide_eq_false_iff_not]; intro z; rw [n_lt] at c16; rw [n_le] at z; omega
    exact MJ_zreturn dX7_isUsedUp_24 rfl (by first | exact Or.inl rfl | exact Or.inr rfl | exact bi_01) ⟨by rw [e]; rfl, rfl⟩
  · refine MJ_iconst (v := 1) dX7_isUsedUp_19 (by decide) ?_
    refine MJ_goto (tgt := 24) dX7_isUsedUp_20 (by decide) ?_
    have e : usedUp S n = true := by
     unfold usedUp; rw [decide_eq_true_iff]; rw [n_lt] at c16; rw [n_le]; omega
    exact MJ_zreturn dX7_isUsedUp_24 rfl (by first | exact Or.inl rfl | exact Or.inr rfl | exact bi_01) ⟨by rw [e]; rfl, rfl⟩
theorem fnd_none {o num : Int32} (h : ∀ j, j < nR S → ¬ (mT S 477 j = o ∧ mT S 478 j = num)) : fnd S o num = none := by
  unfold fnd
  rw [List.find?_eq_none]
  intro j hj
  simpa using h j (List.mem_range.mp hj)
theorem fnd_some {o num : Int32} {k : Nat} (hk : k < nR S) (h : ∀ j, j < k → ¬ (mT S 477 j = o ∧ mT S 478 j = num)) (h2 : mT S 477 k = o ∧ mT S 478 k = num) : fnd S o num = some k := by
  unfold fnd
  rw [List.find?_range_eq_some]
  exact ⟨by simpa using h2, List.mem_range.mpr hk, fun j hj => by simp only [Bool.not_eq_true', decide_eq_false_iff_not]; exact h j hj⟩
theorem fnd_lt {o num : Int32} {k : Nat} (h : fnd S o num = some k) : k < nR S ∧ mT S 477 k = o ∧ mT S 478 k = num := by
  unfold fnd at h
  rw [List.find?_range_eq_some] at h
  exact ⟨List.mem_range.mp h.2.1, by simpa using h.1⟩
set_option maxRecDepth 100000 in
set_option maxHeartbeats 4000000 in
theorem mm_findRecord {o num : Int32} (hn : inN (mI S 476) 701 = true) : MM x y 0 kX7_findRecord [.ref y.1, .int o, .int num] S (fun z S' => z = some (.int (oI (fnd S o num))) ∧ S' = S) := by
  refine MM.ofJ mkX7_findRecord.1 (Nat.le_of_ble_eq_true rfl) fun h0 => ?_
  obtain ⟨hn1, hn2, hn3⟩ := inN_tn hn
  have lp : ∀ m k, k ≤ nR S → (∀ j, j < k → ¬ (mT S 477 j = o ∧ mT S 478 j = num)) → nR S - k < m → MJ x y h0 0 (fun z S' => z = some (.int (oI (fnd S o num))) ∧ S' = S) kX7_findRecord 2 [(0, .ref y.1), (1, .int o), (2, .int num), (3, .int (nI k))] [] S := by
    intro m
    induction m with
    | zero => intro k _ _ h; omega
    | succ m ih =>
      intro k hk hj hm
      have hk2 : nR S < 701 := hn2
      have nx : ¬ (mT S 477 k = o ∧ mT S 478 k = num) → ∀ j, j < k + 1 → ¬ (mT S 477 j = o ∧ mT S 478 j = num) := fun z j hj2 => by
        rcases Nat.lt_succ_iff_lt_or_eq.mp hj2 with h | rfl
        · exact hj j h
        · exact z
      refine MJ_iload_n dX7_findRecord_2 rfl rfl ?_
      refine MJ_aload_n dX7_findRecord_3 rfl rfl isR_r ?_
      refine MJ_getI dX7_findRecord_4 g_X7_166 ?_
      rw [show mI S 476 = nI (nR S) from hn1]
      refine MJ_icmp_ge (tgt := 38) dX7_findRecord_7 (by decide) (fun c7 => ?_) (fun c7 => ?_)
      · rw [nI_lei (by omega) (by omega)] at c7
        have e : k = nR S := by omega
        refine MJ_iconst (v := -1) dX7_findRecord_38 (by decide) ?_
        exact MJ_ireturn dX7_findRecord_39 rfl ⟨by rw [fnd_none (fun j hj2 => hj j (by omega))]; rfl, rfl⟩
      · rw [nI_lei (by omega) (by omega)] at c7
        refine MJ_aload_n dX7_findRecord_10 rfl rfl isR_r ?_
        refine MJ_getA dX7_findRecord_11 g_X7_87 (by decide) ?_
        refine MJ_iload_n dX7_findRecord_14 rfl rfl ?_
        refine MJ_iald dX7_findRecord_15 (by first | assumption | exact inx_v (by assumption) | exact inx_n (show _ < 700 by omega) (by decide)) (by decide) ?_
        refine MJ_iload_n dX7_findRecord_16 rfl rfl ?_
        refine MJ_icmp_ne (tgt := 32) dX7_findRecord_17 (by decide) (fun c17 => ?_) (fun c17 => ?_)
        · refine MJ_iinc dX7_findRecord_32 rfl (nI_inc _) (by decide) ?_
          refine MJ_goto (tgt := 2) dX7_findRecord_35 (by decide) ?_
          exact MJ_loc _ rfl (ih (k + 1) (by omega) (nx (fun z => c17 z.1)) (by omega))
        · refine MJ_aload_n dX7_findRecord_20 rfl rfl isR_r ?_
          refine MJ_getA dX7_findRecord_21 g_X7_90 (by decide) ?_
          refine MJ_iload_n dX7_findRecord_24 rfl rfl ?_
          refine MJ_iald dX7_findRecord_25 (by first | assumption | exact inx_v (by assumption) | exact inx_n (show _ < 700 by omega) (by decide)) (by decide) ?_
          refine MJ_iload_n dX7_findRecord_26 rfl rfl ?_
          refine MJ_icmp_ne (tgt := 32) dX7_findRecord_27 (by decide) (fun c27 => ?_) (fun c27 => ?_)
          · refine MJ_iinc dX7_findRecord_32 rfl (nI_inc _) (by decide) ?_
            refine MJ_goto (tgt := 2) dX7_findRecord_35 (by decide) ?_
            exact MJ_loc _ rfl (ih (k + 1) (by omega) (nx (fun z => c27 z.2)) (by omega))
          · refine MJ_iload_n dX7_findRecord_30 rfl rfl ?_
            exact MJ_ireturn dX7_findRecord_31 rfl ⟨by rw [fnd_some (by omega) hj ⟨c17, c27⟩]; rfl, rfl⟩
  refine MJ_iconst (v := 0) dX7_findRecord_0 (by decide) ?_
  refine MJ_istore_n dX7_findRecord_1 rfl (by decide) ?_
  exact MJ_loc _ rfl (lp (nR S + 1) 0 (by omega) (fun j hj => by omega) (by omega))
end M1
