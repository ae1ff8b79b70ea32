/-! count, audit -/
section SU
variable {x : om_x} {w : om_w} {h h' : Hp} {as : Nat → Nat} {S S' : Ms} {g : Nat}
set_option maxRecDepth 100000 in
set_option maxHeartbeats 4000000 in
theorem c_openAsks (hr : Rep w as S h) (hW : WF2 g S) : Mt x 1 kX6_openAsks 0 0 [.ref (w 0 0)] h (fun z h' => z = some (.int (opnS S (nA S))) ∧ h' = h) := by
  refine Mt.ofJ mkX6_openAsks.1 (Nat.le_of_ble_eq_true rfl) ?_
  have o1 := hr.1.1.1
  have hA := hr.2.2.2.1
  have eN := inN_tn hW.1.1.1
  have eN2 : nA S < 301 := eN.2.1
  have e389 : hI h 389 (w 0 0) = nI (nA S) := by rw [hr.2.1.2.1]; exact eN.1
  have lp : ∀ m j, j + m = nA S → J x (om_m x 1 0 0 (fun z h' => z = some (.int (opnS S (nA S))) ∧ h' = h)) kX6_openAsks 4 [(0, .ref (w 0 0)), (1, .int (opnS S j)), (2, .int (nI j))] [] h 0 0 := by
    intro m
    induction m with
    | zero =>
      intro j hj
      refine J_iload_n dX6_openAsks_4 rfl rfl ?_
      refine J_aload_n dX6_openAsks_5 rfl rfl isR_r ?_
      refine J_getI dX6_openAsks_6 g_X6_229 (by first | with_reducible assumption | (simp only [hK_sI, hK_sJ, hK_sR, hK_tI, hK_tJ, hK_tR]; with_reducible assumption)) ?_
      refine J_icmp_ge (tgt := 38) dX6_openAsks_9 (by decide) (fun c9 => ?_) (fun c9 => (c9 (by rw [e389]; exact (nI_lei (by omega) (by omega)).mpr (by omega))).elim)
      refine J_iload_n dX6_openAsks_38 rfl rfl ?_
      exact J_ireturn dX6_openAsks_39 rfl ⟨by rw [show nA S = j by omega], rfl⟩ (Nat.le_of_ble_eq_true rfl) (Nat.le_of_ble_eq_true rfl)
    | succ m ih =>
      intro j hj
      have q := hA.2.2.1 j (by omega)
      have q0 := q.1
      have q10 : hI h 10 (as j) = mT S 463 j := q.2.2.2.2.2.2.2.2.2.2.1
      refine J_iload_n dX6_openAsks_4 rfl rfl ?_
      refine J_aload_n dX6_openAsks_5 rfl rfl isR_r ?_
      refine J_getI dX6_openAsks_6 g_X6_229 (by first | with_reducible assumption | (simp only [hK_sI, hK_sJ, hK_sR, hK_tI, hK_tJ, hK_tR]; with_reducible assumption)) ?_
      refine J_icmp_ge (tgt := 38) dX6_openAsks_9 (by decide) (fun c9 => ((show False by rw [e389, nI_lei (by omega) (by omega)] at c9; omega)).elim) (fun c9 => ?_)
      refine J_aload_n dX6_openAsks_12 rfl rfl isR_r ?_
      refine J_iload_n dX6_openAsks_13 rfl rfl ?_
      refine J_callV (c_askOf hr.1 hA hW.1.1.1) dX6_openAsks_14 ml_X6_85 mkX6_askOf rfl (by first | with_reducible assumption | (simp only [hK_sI, hK_sJ, hK_sR, hK_tI, hK_tJ, hK_tR]; with_reducible assumption)) (by decide) rfl rfl (Nat.le_of_ble_eq_true rfl) ⟨Nat.le_of_ble_eq_true rfl, Nat.le_of_ble_eq_true rfl⟩ ⟨Nat.le_of_ble_eq_true rfl, Nat.le_of_ble_eq_true rfl⟩ (fun v14 hp14 q14 => ?_)
      obtain ⟨rfl, z14⟩ := q14
      rw [z14]
      rw [inN_nIlt (show j < nA S by omega) (by omega), tn_nI (show j < 2147483648 by omega)]
      refine J_astore_n dX6_openAsks_17 rfl isR_r (by decide) ?_
      refine J_aload_n dX6_openAsks_18 rfl rfl isR_r ?_
      refine J_pc (pc' := 19) rfl ?_
      refine J_ifnull_r dX6_openAsks_19 ?_
      refine J_aload_n dX6_openAsks_22 rfl rfl isR_r ?_
      refine J_getI dX6_openAsks_23 g_X6_92 (by first | with_reducible assumption | (simp only [hK_sI, hK_sJ, hK_sR, hK_tI, hK_tJ, hK_tR]; with_reducible assumption)) ?_
      refine J_if_ne (tgt := 32) dX6_openAsks_26 (by decide) (fun c26 => ?_) (fun c26 => ?_)
      · refine J_iinc dX6_openAsks_32 rfl (nI_inc _) (by decide) ?_
        refine J_goto (tgt := 4) dX6_openAsks_35 (by decide) ?_
        have e : opnS S (j + 1) = opnS S j := by
         simp only [opnS]
         rw [if_neg (by rw [← q10]; exact c26), Int32.add_zero]
        have h8 := ih (j + 1) (by omega)
        rw [e] at h8
        exact J_loc _ rfl h8
      · refine J_iinc dX6_openAsks_29 rfl ((show opnS S j + Int32.ofInt 1 = opnS S (j + 1) by simp only [opnS]; rw [if_pos (by rw [← q10]; exact c26)]; rfl)) (by decide) ?_
        refine J_iinc dX6_openAsks_32 rfl (nI_inc _) (by decide) ?_
        refine J_goto (tgt := 4) dX6_openAsks_35 (by decide) ?_
        exact J_loc _ rfl (ih (j + 1) (by omega))
  refine J_iconst (v := 0) dX6_openAsks_0 (by decide) ?_
  refine J_istore_n dX6_openAsks_1 rfl (by decide) ?_
  refine J_iconst (v := 0) dX6_openAsks_2 (by decide) ?_
  refine J_istore_n dX6_openAsks_3 rfl (by decide) ?_
  exact J_loc _ rfl (lp (nA S) 0 (Nat.zero_add _))
def sumI (S : Ms) (k : Nat) : Nat → Nat
  | 0 => 0
  | j + 1 => sumI S k j + rcN S j k
theorem sumI_0 : ∀ j, sumI S 0 j = 0
  | 0 => rfl
  | j + 1 => by simp only [sumI, rcN]; rw [sumI_0 j]
theorem sumI_s {k r : Nat} (hr : r < 40) (e : mT S 477 k = nI r) : ∀ j, j ≤ 40 → sumI S (k + 1) j = sumI S k j + (if r < j then 1 else 0)
  | 0, _ => rfl
  | j + 1, hj => by
    simp only [sumI, rcN]
    rw [sumI_s hr e j (by omega), e]
    by_cases c : r = j
    · rw [if_neg (show ¬ r < j by omega), if_pos (show nI r = nI j by rw [c]), if_pos (show r < j + 1 by omega)]
      omega
    · rw [if_neg (fun z => c (nI_inj (by omega) (by omega) z))]
      by_cases d : r < j
      · rw [if_pos d, if_pos (by omega)]; omega
      · rw [if_neg d, if_neg (by omega)]; omega
theorem sumI_40 (hW : WF2 g S) : ∀ k, k ≤ nR S → sumI S k 40 = k
  | 0, _ => sumI_0 40
  | k + 1, hk => by
    have q := inN_tn (hW.2.2.2.2.2.2.2.2.1 k (by omega)).1.1
    rw [sumI_s q.2.1 q.1 40 (Nat.le_refl _), sumI_40 hW k (by omega), if_pos q.2.1]
theorem kept2 {s n : Nat} (hs : s < 4) (hn : n < 10) : keptP S (nI s) (nI n) 2 = nI (rcN S (10 * s + n) (nR S)) := by
  unfold keptP
  have c1 : inN (nI s) 4 = true := inN_nIlt hs (by decide)
  have c2 : inN (nI n) 10 = true := inN_nIlt hn (by decide)
  obtain ⟨-, t2⟩ := of_tn c1 c2
  rw [if_neg (fun z => by rcases z with z | z | z; rw [c1] at z; cases z; rw [c2] at z; cases z; exact absurd z (by decide)), if_neg (by decide), if_neg (by decide), t2, tn_nI (by omega), tn_nI (by omega), rcF_N]
set_option maxRecDepth 100000 in
set_option maxHeartbeats 4000000 in
theorem c_allRecords (hr : Rep w as S h) (hW : WF2 g S) : Mt x 3 kX6_allRecords 0 0 [.ref (w 0 0)] h (fun z h' => z = some (.int (mI S 476)) ∧ h' = h) := by
  refine Mt.ofJ mkX6_allRecords.1 (Nat.le_of_ble_eq_true rfl) ?_
  have o1 := hr.1.1.1
  generalize hQ : (fun z h' => z = some (Value.int (mI S 476)) ∧ h' = h) = Q
  have fin : Q (some (.int (nI (sumI S (nR S) 40)))) h := by
    rw [← hQ]
    show _ ∧ _
    rw [sumI_40 hW _ (Nat.le_refl _)]
    exact ⟨by rw [(inN_tn hW.1.1.2.2).1]; rfl, rfl⟩
  have inner : ∀ s, s < 4 → J x (om_m x 3 0 0 Q) kX6_allRecords 33 [(0, .ref (w 0 0)), (1, .int (nI (sumI S (nR S) (10 * s + 10)))), (2, .int (nI s)), (3, .int (nI 10))] [] h 0 0 → ∀ m n, n + m = 10 → J x (om_m x 3 0 0 Q) kX6_allRecords 11 [(0, .ref (w 0 0)), (1, .int (nI (sumI S (nR S) (10 * s + n)))), (2, .int (nI s)), (3, .int (nI n))] [] h 0 0 := by
    intro s hs hk m
    induction m with
    | zero =>
      intro n hn
      have : n = 10 := by omega
      subst this
      refine J_iload_n dX6_allRecords_11 rfl rfl ?_
      refine J_bipush (v := 10) dX6_allRecords_12 (by decide) ?_
      refine J_icmp_ge (tgt := 33) dX6_allRecords_14 (by decide) (fun c14 => ?_) (fun c14 => (c14 (by decide)).elim)
      exact hk
    | succ m ih =>
      intro n hn
      refine J_iload_n dX6_allRecords_11 rfl rfl ?_
      refine J_bipush (v := 10) dX6_allRecords_12 (by decide) ?_
      refine J_icmp_ge (tgt := 33) dX6_allRecords_14 (by decide) (fun c14 => ((show False by have c14 : nI 10 ≤ nI n := c14; rw [nI_lei (by decide) (by omega)] at c14; omega)).elim) (fun c14 => ?_)
      refine J_iload_n dX6_allRecords_17 rfl rfl ?_
      refine J_aload_n dX6_allRecords_18 rfl rfl isR_r ?_
      refine J_iload_n dX6_allRecords_19 rfl rfl ?_
      refine J_iload_n dX6_allRecords_20 rfl rfl ?_
      refine J_iconst (v := 2) dX6_allRecords_21 (by decide) ?_
      refine J_callV (c_kept (s := nI s) (n := nI n) (v := 2) hr hW) dX6_allRecords_22 ml_X6_356 mkX6_kept rfl (by first | with_reducible assumption | (simp only [hK_sI, hK_sJ, hK_sR, hK_tI, hK_tJ, hK_tR]; with_reducible assumption)) (by decide) rfl rfl (Nat.le_of_ble_eq_true rfl) ⟨Nat.le_of_ble_eq_true rfl, Nat.le_of_ble_eq_true rfl⟩ ⟨Nat.le_of_ble_eq_true rfl, Nat.le_of_ble_eq_true rfl⟩ (fun v22 hp22 q22 => ?_)
      obtain ⟨rfl, z22⟩ := q22
      rw [z22]
      refine J_pc (pc' := 25) rfl ?_
      rw [kept2 hs (by omega)]
      refine J_iadd dX6_allRecords_25 ?_
      rw [zI_add]
      refine J_istore_n dX6_allRecords_26 rfl (by decide) ?_
      refine J_iinc dX6_allRecords_27 rfl (nI_inc _) (by decide) ?_
      refine J_goto (tgt := 11) dX6_allRecords_30 (by decide) ?_
      exact J_loc _ rfl (ih (n + 1) (by omega))
  have outer : ∀ m s, s + m = 4 → J x (om_m x 3 0 0 Q) kX6_allRecords 4 [(0, .ref (w 0 0)), (1, .int (nI (sumI S (nR S) (10 * s)))), (2, .int (nI s))] [] h 0 0 := by
    intro m
    induction m with
    | zero =>
      intro s hs
      have : s = 4 := by omega
      subst this
      refine J_iload_n dX6_allRecords_4 rfl rfl ?_
      refine J_iconst (v := 4) dX6_allRecords_5 (by decide) ?_
      refine J_icmp_ge (tgt := 39) dX6_allRecords_6 (by decide) (fun c6 => ?_) (fun c6 => (c6 (by decide)).elim)
      refine J_iload_n dX6_allRecords_39 rfl rfl ?_
      exact J_ireturn dX6_allRecords_40 rfl fin (Nat.le_of_ble_eq_true rfl) (Nat.le_of_ble_eq_true rfl)
    | succ m ih =>
      intro s hs
      have hk : J x (om_m x 3 0 0 Q) kX6_allRecords 33 [(0, .ref (w 0 0)), (1, .int (nI (sumI S (nR S) (10 * s + 10)))), (2, .int (nI s)), (3, .int (nI 10))] [] h 0 0 := by
        refine J_iinc dX6_allRecords_33 rfl (nI_inc _) (by decide) ?_
        refine J_goto (tgt := 4) dX6_allRecords_36 (by decide) ?_
        exact J_loc _ rfl (ih (s + 1) (by omega))
      refine J_iload_n dX6_allRecords_4 rfl rfl ?_
      refine J_iconst (v := 4) dX6_allRecords_5 (by decide) ?_
      refine J_icmp_ge (tgt := 39) dX6_allRecords_6 (by decide) (fun c6 => ((show False by have c6 : nI 4 ≤ nI s := c6; rw [nI_lei (by decide) (by omega)] at c6; omega)).elim) (fun c6 => ?_)
      refine J_iconst (v := 0) dX6_allRecords_9 (by decide) ?_
      refine J_istore_n dX6_allRecords_10 rfl (by decide) ?_
      exact J_loc _ rfl (inner s (by omega) hk 10 0 (Nat.zero_add _))
  refine J_iconst (v := 0) dX6_allRecords_0 (by decide) ?_
  refine J_istore_n dX6_allRecords_1 rfl (by decide) ?_
  refine J_iconst (v := 0) dX6_allRecords_2 (by decide) ?_
  refine J_istore_n dX6_allRecords_3 rfl (by decide) ?_
  exact J_loc _ rfl (outer 4 0 (Nat.zero_add _))
set_option maxRecDepth 100000 in
set_option maxHeartbeats 4000000 in
theorem c_count {v : Int32} (hr : Rep w as S h) (hW : WF2 g S) : Mt x 4 kX6_count 0 0 [.ref (w 0 0), .int v] h (fun z h' => z = some (.int (countP S v)) ∧ h' = h) := by
  refine Mt.ofJ mkX6_count.1 (Nat.le_of_ble_eq_true rfl) ?_
  have o1 := hr.1.1.1
  have o4 := hr.1.1.2.2.2.2
  have k4 := hr.1.2.1.2.2.2.1.1
  obtain ⟨p1, p2, p3, p4, p5, p6⟩ := hr.2.1
  unfold countP
  refine J_iload_n dX6_count_0 rfl rfl ?_
  by_cases s1_0 : v = 0
  · refine J_st (st' := [.int 0]) (by rw [s1_0] <;> rfl) ?_
    refine J_tswIn (off := 47) (tgt := 48) dX6_count_1 (by decide) (by decide) (by decide) (by decide) ?_
    refine J_aload_n dX6_count_48 rfl rfl isR_r ?_
    refine J_getI dX6_count_49 g_X6_229 (by first | with_reducible assumption | (simp only [hK_sI, hK_sJ, hK_sR, hK_tI, hK_tJ, hK_tR]; with_reducible assumption)) ?_
    exact J_ireturn dX6_count_52 rfl ⟨by rw [s1_0, if_pos rfl, p2], rfl⟩ (Nat.le_of_ble_eq_true rfl) (Nat.le_of_ble_eq_true rfl)
  -- else
  by_cases s1_1 : v = 1
  · refine J_st (st' := [.int 1]) (by rw [s1_1] <;> rfl) ?_
    refine J_tswIn (off := 52) (tgt := 53) dX6_count_1 (by decide) (by decide) (by decide) (by decide) ?_
    refine J_aload_n dX6_count_53 rfl rfl isR_r ?_
    refine J_callV (c_openAsks hr hW) dX6_count_54 ml_X6_232 mkX6_openAsks rfl (by first | with_reducible assumption | (simp only [hK_sI, hK_sJ, hK_sR, hK_tI, hK_tJ, hK_tR]; with_reducible assumption)) (by decide) rfl rfl (Nat.le_of_ble_eq_true rfl) ⟨Nat.le_of_ble_eq_true rfl, Nat.le_of_ble_eq_true rfl⟩ ⟨Nat.le_of_ble_eq_true rfl, Nat.le_of_ble_eq_true rfl⟩ (fun v54 hp54 q54 => ?_)
    obtain ⟨rfl, z54⟩ := q54
    rw [z54]
    exact J_ireturn dX6_count_57 rfl ⟨by rw [s1_1, if_neg (by decide), if_pos rfl], rfl⟩ (Nat.le_of_ble_eq_true rfl) (Nat.le_of_ble_eq_true rfl)
  -- else
  by_cases s1_2 : v = 2
  · refine J_st (st' := [.int 2]) (by rw [s1_2] <;> rfl) ?_
    refine J_tswIn (off := 57) (tgt := 58) dX6_count_1 (by decide) (by decide) (by decide) (by decide) ?_
    refine J_aload_n dX6_count_58 rfl rfl isR_r ?_
    refine J_getRr dX6_count_59 g_X6_30 (by first | with_reducible assumption | (simp only [hK_sI, hK_sJ, hK_sR, hK_tI, hK_tJ, hK_tR]; with_reducible assumption)) (by first | with_reducible assumption | (simp only [hR_sI, hR_sJ, hR_tI, hR_tJ, hR_tR]; with_reducible assumption)) ?_
    refine J_getI dX6_count_62 g_X6_99 (by first | with_reducible assumption | (simp only [hK_sI, hK_sJ, hK_sR, hK_tI, hK_tJ, hK_tR]; with_reducible assumption)) ?_
    exact J_ireturn dX6_count_65 rfl ⟨by rw [s1_2, if_neg (by decide), if_neg (by decide), if_pos rfl, p4], rfl⟩ (Nat.le_of_ble_eq_true rfl) (Nat.le_of_ble_eq_true rfl)
  -- else
  by_cases s1_3 : v = 3
  · refine J_st (st' := [.int 3]) (by rw [s1_3] <;> rfl) ?_
    refine J_tswIn (off := 65) (tgt := 66) dX6_count_1 (by decide) (by decide) (by decide) (by decide) ?_
    refine J_aload_n dX6_count_66 rfl rfl isR_r ?_
    refine J_getRr dX6_count_67 g_X6_30 (by first | with_reducible assumption | (simp only [hK_sI, hK_sJ, hK_sR, hK_tI, hK_tJ, hK_tR]; with_reducible assumption)) (by first | with_reducible assumption | (simp only [hR_sI, hR_sJ, hR_tI, hR_tJ, hR_tR]; with_reducible assumption)) ?_
    refine J_getI dX6_count_70 g_X6_235 (by first | with_reducible assumption | (simp only [hK_sI, hK_sJ, hK_sR, hK_tI, hK_tJ, hK_tR]; with_reducible assumption)) ?_
    exact J_ireturn dX6_count_73 rfl ⟨by rw [s1_3, if_neg (by decide), if_neg (by decide), if_neg (by decide), if_pos rfl, p5], rfl⟩ (Nat.le_of_ble_eq_true rfl) (Nat.le_of_ble_eq_true rfl)
  -- else
  by_cases s1_4 : v = 4
  · refine J_st (st' := [.int 4]) (by rw [s1_4] <;> rfl) ?_
    refine J_tswIn (off := 73) (tgt := 74) dX6_count_1 (by decide) (by decide) (by decide) (by decide) ?_
    refine J_aload_n dX6_count_74 rfl rfl isR_r ?_
    refine J_getRr dX6_count_75 g_X6_30 (by first | with_reducible assumption | (simp only [hK_sI, hK_sJ, hK_sR, hK_tI, hK_tJ, hK_tR]; with_reducible assumption)) (by first | with_reducible assumption | (simp only [hR_sI, hR_sJ, hR_tI, hR_tJ, hR_tR]; with_reducible assumption)) ?_
    refine J_getI dX6_count_78 g_X6_151 (by first | with_reducible assumption | (simp only [hK_sI, hK_sJ, hK_sR, hK_tI, hK_tJ, hK_tR]; with_reducible assumption)) ?_
    exact J_ireturn dX6_count_81 rfl ⟨by rw [s1_4, if_neg (by decide), if_neg (by decide), if_neg (by decide), if_neg (by decide), if_pos rfl, p6], rfl⟩ (Nat.le_of_ble_eq_true rfl) (Nat.le_of_ble_eq_true rfl)
  -- else
  by_cases s1_5 : v = 5
  · refine J_st (st' := [.int 5]) (by rw [s1_5] <;> rfl) ?_
    refine J_tswIn (off := 81) (tgt := 82) dX6_count_1 (by decide) (by decide) (by decide) (by decide) ?_
    refine J_aload_n dX6_count_82 rfl rfl isR_r ?_
    refine J_getI dX6_count_83 g_X6_238 (by first | with_reducible assumption | (simp only [hK_sI, hK_sJ, hK_sR, hK_tI, hK_tJ, hK_tR]; with_reducible assumption)) ?_
    exact J_ireturn dX6_count_86 rfl ⟨by rw [s1_5, if_neg (by decide), if_neg (by decide), if_neg (by decide), if_neg (by decide), if_neg (by decide), if_pos rfl, p3], rfl⟩ (Nat.le_of_ble_eq_true rfl) (Nat.le_of_ble_eq_true rfl)
  -- else
  by_cases s1_6 : v = 6
  · refine J_st (st' := [.int 6]) (by rw [s1_6] <;> rfl) ?_
    refine J_tswIn (off := 86) (tgt := 87) dX6_count_1 (by decide) (by decide) (by decide) (by decide) ?_
    refine J_aload_n dX6_count_87 rfl rfl isR_r ?_
    refine J_callV (c_allRecords hr hW) dX6_count_88 ml_X6_241 mkX6_allRecords rfl (by first | with_reducible assumption | (simp only [hK_sI, hK_sJ, hK_sR, hK_tI, hK_tJ, hK_tR]; with_reducible assumption)) (by decide) rfl rfl (Nat.le_of_ble_eq_true rfl) ⟨Nat.le_of_ble_eq_true rfl, Nat.le_of_ble_eq_true rfl⟩ ⟨Nat.le_of_ble_eq_true rfl, Nat.le_of_ble_eq_true rfl⟩ (fun v88 hp88 q88 => ?_)
    obtain ⟨rfl, z88⟩ := q88
    rw [z88]
    exact J_ireturn dX6_count_91 rfl ⟨by rw [s1_6, if_neg (by decide), if_neg (by decide), if_neg (by decide), if_neg (by decide), if_neg (by decide), if_neg (by decide), if_pos rfl], rfl⟩ (Nat.le_of_ble_eq_true rfl) (Nat.le_of_ble_eq_true rfl)
  -- else
  by_cases s1_7 : v = 7
  · refine J_st (st' := [.int 7]) (by rw [s1_7] <;> rfl) ?_
    refine J_tswIn (off := 91) (tgt := 92) dX6_count_1 (by decide) (by decide) (by decide) (by decide) ?_
    refine J_aload_n dX6_count_92 rfl rfl isR_r ?_
    refine J_getI dX6_count_93 g_X6_43 (by first | with_reducible assumption | (simp only [hK_sI, hK_sJ, hK_sR, hK_tI, hK_tJ, hK_tR]; with_reducible assumption)) ?_
    exact J_ireturn dX6_count_96 rfl ⟨by rw [s1_7, if_neg (by decide), if_neg (by decide), if_neg (by decide), if_neg (by decide), if_neg (by decide), if_neg (by decide), if_neg (by decide), if_pos rfl, p1], rfl⟩ (Nat.le_of_ble_eq_true rfl) (Nat.le_of_ble_eq_true rfl)
  -- else
  have tt : (v).toInt ≠ 0 ∧ (v).toInt ≠ 1 ∧ (v).toInt ≠ 2 ∧ (v).toInt ≠ 3 ∧ (v).toInt ≠ 4 ∧ (v).toInt ≠ 5 ∧ (v).toInt ≠ 6 ∧ (v).toInt ≠ 7 := ⟨fun z => s1_0 (Int32.toInt_inj.mp (z.trans (by decide))), fun z => s1_1 (Int32.toInt_inj.mp (z.trans (by decide))), fun z => s1_2 (Int32.toInt_inj.mp (z.trans (by decide))), fun z => s1_3 (Int32.toInt_inj.mp (z.trans (by decide))), fun z => s1_4 (Int32.toInt_inj.mp (z.trans (by decide))), fun z => s1_5 (Int32.toInt_inj.mp (z.trans (by decide))), fun z => s1_6 (Int32.toInt_inj.mp (z.trans (by decide))), fun z => s1_7 (Int32.toInt_inj.mp (z.trans (by decide)))⟩
  refine J_tswOut (tgt := 97) dX6_count_1 (by omega) (by decide) ?_
  refine J_ldc dX6_count_97 lc_X6_55 ?_
  exact J_ireturn dX6_count_99 rfl ⟨by rw [if_neg s1_0, if_neg s1_1, if_neg s1_2, if_neg s1_3, if_neg s1_4, if_neg s1_5, if_neg s1_6, if_neg s1_7], rfl⟩ (Nat.le_of_ble_eq_true rfl) (Nat.le_of_ble_eq_true rfl)
def sumL (f : Nat → Int64) : Nat → Int64
  | 0 => 0
  | k + 1 => sumL f k + f k
theorem sumL_0 {f : Nat → Int64} : ∀ n, (∀ o, o < n → f o = 0) → sumL f n = 0
  | 0, _ => rfl
  | n + 1, z => by
    simp only [sumL]
    rw [sumL_0 n (fun o ho => z o (by omega)), z n (by omega), Int64.add_zero]
theorem sumL_1 {f : Nat → Int64} {j : Nat} : ∀ n, j < n → (∀ o, o < n → o ≠ j → f o = 0) → sumL f n = f j
  | 0, hj, _ => absurd hj (Nat.not_lt_zero _)
  | n + 1, hj, z => by
    simp only [sumL]
    by_cases c : j = n
    · rw [sumL_0 n (fun o ho => z o (by omega) (by omega)), c, Int64.zero_add]
    · rw [sumL_1 n (by omega) (fun o ho h2 => z o (by omega) h2), z n (by omega) (fun y => c y.symm), Int64.add_zero]
theorem sumL_c {f f2 : Nat → Int64} : ∀ n, (∀ o, o < n → f o = f2 o) → sumL f n = sumL f2 n
  | 0, _ => rfl
  | n + 1, z => by
    simp only [sumL]
    rw [sumL_c n (fun o ho => z o (by omega)), z n (by omega)]
theorem sumL_a {f f2 : Nat → Int64} : ∀ n, sumL (fun o => f o + f2 o) n = sumL f n + sumL f2 n
  | 0 => rfl
  | n + 1 => by
    simp only [sumL]
    rw [sumL_a n]
    rw [Int64.add_assoc (sumL f n) (sumL f2 n), ← Int64.add_assoc (sumL f2 n) (f n), Int64.add_comm (sumL f2 n) (f n), Int64.add_assoc (f n) (sumL f2 n), ← Int64.add_assoc (sumL f n) (f n)]
theorem sumL_sw {c : Nat → Nat → Int64} (n : Nat) : ∀ m, sumL (fun k => sumL (fun o => c k o) n) m = sumL (fun o => sumL (fun k => c k o) m) n
  | 0 => (sumL_0 n (fun _ _ => rfl)).symm
  | m + 1 => by
    simp only [sumL]
    rw [sumL_sw n m, ← sumL_a]
def undB (S : Ms) (o : Nat) : Int64 := if mT S 465 o ≠ -1 ∧ mT S 467 o = 0 then (mT S 462 o).toInt64 else 0
theorem nI_m1ne {o : Nat} (ho : o < 2147483648) : nI o ≠ -1 := fun z => by
  have e1 := congrArg Int32.toInt z
  rw [nI_int ho, show (-1 : Int32).toInt = -1 from by decide] at e1
  omega
theorem und_eq (hW : WF2 g S) : sumL (undB S) (nA S) = undS S (nA S) := by
  have eN2 : nA S < 301 := (inN_tn hW.1.1.1).2.1
  have hA : ∀ n, undS S n = sumL (fun k => if mT S 458 k = 3 ∧ mT S 467 k ≠ 0 ∧ mT S 467 (tn (mT S 466 k)) = 0 then (mT S 462 k).toInt64 else 0) n := fun n => by
    induction n with
    | zero => rfl
    | succ n ih => simp only [undS, sumL]; rw [ih]
  have own : ∀ k, k < nA S → mT S 466 k ≠ -1 → mT S 458 k = 3 ∧ mT S 467 k ≠ 0 ∧ inN (mT S 466 k) (nA S) = true ∧ mT S 465 (tn (mT S 466 k)) = nI k := fun k hk z => by
    have a := hW.2.2.2.1 k hk
    obtain ⟨p1, p2, p3⟩ := a.2.2.2.2.2.1 z
    have ho := (inN_tn p1).2.1
    obtain ⟨-, -, -, -, b5, -⟩ := (hW.2.2.2.1 _ ho).2.2.2.2.1.2 p3
    rw [p2, tn_nI (by omega)] at b5
    refine ⟨Decidable.byContradiction fun y => z (a.2.2.2.2.2.2.2.1 y), by rw [b5]; decide, p1, p2⟩
  rw [hA, sumL_c (f := fun k => if mT S 458 k = 3 ∧ mT S 467 k ≠ 0 ∧ mT S 467 (tn (mT S 466 k)) = 0 then (mT S 462 k).toInt64 else 0) (f2 := fun k => sumL (fun o => if mT S 466 k = nI o ∧ mT S 467 o = 0 then (mT S 462 k).toInt64 else 0) (nA S)) (nA S) (fun k hk => ?_), sumL_sw]
  · refine sumL_c _ (fun o ho => ?_)
    have a := hW.2.2.2.1 o ho
    by_cases c : mT S 465 o = -1
    · rw [sumL_0 _ (fun k hk => if_neg (fun z => ?_))]
      · unfold undB
        rw [if_neg (fun z => z.1 c)]
      · have q := own k hk (by rw [z.1]; exact nI_m1ne (by omega))
        have q4 := q.2.2.2
        rw [z.1, tn_nI (by omega), c] at q4
        exact nI_m1ne (by omega) q4.symm
    · have h6 : 6 ≤ tn (mT S 454 o) := Decidable.byContradiction fun z => c (a.2.2.2.2.1.1 (by omega))
      obtain ⟨-, p2, p3, -, -, -, p7, -⟩ := a.2.2.2.2.1.2 h6
      have hk0 := (inN_tn p2).2.1
      rw [sumL_1 (j := tn (mT S 465 o)) _ hk0 (fun k hk hne => if_neg (fun z => hne ?_))]
      · unfold undB
        rw [p3]
        by_cases d : mT S 467 o = 0
        · rw [if_pos ⟨c, d⟩, if_pos ⟨rfl, d⟩, p7]
        · rw [if_neg (fun z => d z.2), if_neg (fun z => d z.2)]
      · have q := own k hk (by rw [z.1]; exact nI_m1ne (by omega))
        have q4 := q.2.2.2
        rw [z.1, tn_nI (by omega)] at q4
        rw [q4, tn_nI (by omega)]
  · by_cases c : mT S 466 k = -1
    · have a := hW.2.2.2.1 k hk
      rw [sumL_0 _ (fun o ho => if_neg (fun z => nI_m1ne (by omega) (z.1.symm.trans c)))]
      exact if_neg (fun z => a.2.2.2.2.2.2.1 z.1 z.2.1 c)
    · obtain ⟨q1, q2, q3, q4⟩ := own k hk c
      have ho := inN_tn q3
      rw [sumL_1 (j := tn (mT S 466 k)) _ ho.2.1 (fun o h1 h2 => if_neg (fun z => h2 (by rw [z.1, tn_nI (by omega)])))]
      by_cases d : mT S 467 (tn (mT S 466 k)) = 0
      · rw [if_pos ⟨q1, q2, d⟩, if_pos ⟨ho.1, d⟩]
      · rw [if_neg (fun z => d z.2.2), if_neg (fun z => d z.2)]
set_option maxRecDepth 100000 in
set_option maxHeartbeats 4000000 in
theorem c_sumOfAccounts (hr : Rep w as S h) : Mt x 3 kX6_sumOfAccounts 0 0 [.ref (w 0 0)] h (fun z h' => z = some (.long (accS S 24)) ∧ h' = h) := by
  refine Mt.ofJ mkX6_sumOfAccounts.1 (Nat.le_of_ble_eq_true rfl) ?_
  have o1 := hr.1.1.1
  generalize hQ : (fun z h' => z = some (Value.long (accS S 24)) ∧ h' = h) = Q
  have fin : Q (some (.long (accS S 24))) h := by
    rw [← hQ]
    exact ⟨rfl, rfl⟩
  have acc : ∀ s a, s < 4 → a < 6 → accountP S (nI s) (nI a) = mJ S 452 (6 * s + a) := fun s a hs ha => by
    unfold accountP
    have c1 : inN (nI s) 4 = true := inN_nIlt hs (by decide)
    have c2 : inN (nI a) 6 = true := inN_nIlt ha (by decide)
    rw [if_neg (fun z => z.elim (fun y => by rw [c1] at y; cases y) (fun y => by rw [c2] at y; cases y)), ac_tn c1 c2, tn_nI (by omega), tn_nI (by omega)]
  have inner : ∀ s, s < 4 → J x (om_m x 3 0 0 Q) kX6_sumOfAccounts 35 [(0, .ref (w 0 0)), (1, .long (accS S (6 * s + 6))), (3, .int (nI s)), (4, .int (nI 6))] [] h 0 0 → ∀ m n, n + m = 6 → J x (om_m x 3 0 0 Q) kX6_sumOfAccounts 12 [(0, .ref (w 0 0)), (1, .long (accS S (6 * s + n))), (3, .int (nI s)), (4, .int (nI n))] [] h 0 0 := by
    intro s hs hk m
    induction m with
    | zero =>
      intro n hn
      have : n = 6 := by omega
      subst this
      refine J_iload dX6_sumOfAccounts_12 rfl ?_
      refine J_bipush (v := 6) dX6_sumOfAccounts_14 (by decide) ?_
      refine J_icmp_ge (tgt := 35) dX6_sumOfAccounts_16 (by decide) (fun c16 => ?_) (fun c16 => (c16 (by decide)).elim)
      exact hk
    | succ m ih =>
      intro n hn
      refine J_iload dX6_sumOfAccounts_12 rfl ?_
      refine J_bipush (v := 6) dX6_sumOfAccounts_14 (by decide) ?_
      refine J_icmp_ge (tgt := 35) dX6_sumOfAccounts_16 (by decide) (fun c16 => ((show False by have c16 : nI 6 ≤ nI n := c16; rw [nI_lei (by decide) (by omega)] at c16; omega)).elim) (fun c16 => ?_)
      refine J_lload_n dX6_sumOfAccounts_19 rfl rfl ?_
      refine J_aload_n dX6_sumOfAccounts_20 rfl rfl isR_r ?_
      refine J_iload_n dX6_sumOfAccounts_21 rfl rfl ?_
      refine J_iload dX6_sumOfAccounts_22 rfl ?_
      refine J_callV (c_account (s := nI s) (a := nI n) hr) dX6_sumOfAccounts_24 ml_X6_352 mkX6_account rfl (by first | with_reducible assumption | (simp only [hK_sI, hK_sJ, hK_sR, hK_tI, hK_tJ, hK_tR]; with_reducible assumption)) (by decide) rfl rfl (Nat.le_of_ble_eq_true rfl) ⟨Nat.le_of_ble_eq_true rfl, Nat.le_of_ble_eq_true rfl⟩ ⟨Nat.le_of_ble_eq_true rfl, Nat.le_of_ble_eq_true rfl⟩ (fun v24 hp24 q24 => ?_)
      obtain ⟨rfl, z24⟩ := q24
      rw [z24]
      rw [acc s n hs (by omega)]
      refine J_ladd dX6_sumOfAccounts_27 ?_
      refine J_pc (pc' := 28) rfl ?_
      refine J_lstore_n dX6_sumOfAccounts_28 rfl (by decide) ?_
      refine J_iinc dX6_sumOfAccounts_29 rfl (nI_inc _) (by decide) ?_
      refine J_goto (tgt := 12) dX6_sumOfAccounts_32 (by decide) ?_
      exact J_loc _ rfl (ih (n + 1) (by omega))
  have outer : ∀ m s, s + m = 4 → J x (om_m x 3 0 0 Q) kX6_sumOfAccounts 4 [(0, .ref (w 0 0)), (1, .long (accS S (6 * s))), (3, .int (nI s))] [] h 0 0 := by
    intro m
    induction m with
    | zero =>
      intro s hs
      have : s = 4 := by omega
      subst this
      refine J_iload_n dX6_sumOfAccounts_4 rfl rfl ?_
      refine J_iconst (v := 4) dX6_sumOfAccounts_5 (by decide) ?_
      refine J_icmp_ge (tgt := 41) dX6_sumOfAccounts_6 (by decide) (fun c6 => ?_) (fun c6 => (c6 (by decide)).elim)
      refine J_lload_n dX6_sumOfAccounts_41 rfl rfl ?_
      exact J_lreturn dX6_sumOfAccounts_42 rfl fin (Nat.le_of_ble_eq_true rfl) (Nat.le_of_ble_eq_true rfl)
    | succ m ih =>
      intro s hs
      have hk : J x (om_m x 3 0 0 Q) kX6_sumOfAccounts 35 [(0, .ref (w 0 0)), (1, .long (accS S (6 * s + 6))), (3, .int (nI s)), (4, .int (nI 6))] [] h 0 0 := by
        refine J_iinc dX6_sumOfAccounts_35 rfl (nI_inc _) (by decide) ?_
        refine J_goto (tgt := 4) dX6_sumOfAccounts_38 (by decide) ?_
        exact J_loc _ rfl (ih (s + 1) (by omega))
      refine J_iload_n dX6_sumOfAccounts_4 rfl rfl ?_
      refine J_iconst (v := 4) dX6_sumOfAccounts_5 (by decide) ?_
      refine J_icmp_ge (tgt := 41) dX6_sumOfAccounts_6 (by decide) (fun c6 => ((show False by have c6 : nI 4 ≤ nI s := c6; rw [nI_lei (by decide) (by omega)] at c6; omega)).elim) (fun c6 => ?_)
      refine J_iconst (v := 0) dX6_sumOfAccounts_9 (by decide) ?_
      refine J_istore dX6_sumOfAccounts_10 (by decide) ?_
      exact J_loc _ rfl (inner s (by omega) hk 6 0 (Nat.zero_add _))
  refine J_lconst (v := 0) dX6_sumOfAccounts_0 (by decide) ?_
  refine J_lstore_n dX6_sumOfAccounts_1 rfl (by decide) ?_
  refine J_iconst (v := 0) dX6_sumOfAccounts_2 (by decide) ?_
  refine J_istore_n dX6_sumOfAccounts_3 rfl (by decide) ?_
  exact J_loc _ rfl (outer 4 0 (Nat.zero_add _))
set_option maxRecDepth 100000 in
set_option maxHeartbeats 4000000 in
theorem c_sumUnderWay (hr : Rep w as S h) (hW : WF2 g S) : Mt x 1 kX6_sumUnderWay 0 0 [.ref (w 0 0)] h (fun z h' => z = some (.long (undS S (nA S))) ∧ h' = h) := by
  rw [← und_eq hW]
  refine Mt.ofJ mkX6_sumUnderWay.1 (Nat.le_of_ble_eq_true rfl) ?_
  have o1 := hr.1.1.1
  have hA := hr.2.2.2.1
  have eN := inN_tn hW.1.1.1
  have eN2 : nA S < 301 := eN.2.1
  have e389 : hI h 389 (w 0 0) = nI (nA S) := by rw [hr.2.1.2.1]; exact eN.1
  have lp : ∀ m j, j + m = nA S → J x (om_m x 1 0 0 (fun z h' => z = some (.long (sumL (undB S) (nA S))) ∧ h' = h)) kX6_sumUnderWay 4 [(0, .ref (w 0 0)), (1, .long (sumL (undB S) j)), (3, .int (nI j))] [] h 0 0 := by
    intro m
    induction m with
    | zero =>
      intro j hj
      refine J_iload_n dX6_sumUnderWay_4 rfl rfl ?_
      refine J_aload_n dX6_sumUnderWay_5 rfl rfl isR_r ?_
      refine J_getI dX6_sumUnderWay_6 g_X6_229 (by first | with_reducible assumption | (simp only [hK_sI, hK_sJ, hK_sR, hK_tI, hK_tJ, hK_tR]; with_reducible assumption)) ?_
      refine J_icmp_ge (tgt := 55) dX6_sumUnderWay_9 (by decide) (fun c9 => ?_) (fun c9 => (c9 (by rw [e389]; exact (nI_lei (by omega) (by omega)).mpr (by omega))).elim)
      refine J_lload_n dX6_sumUnderWay_55 rfl rfl ?_
      exact J_lreturn dX6_sumUnderWay_56 rfl ⟨by rw [show nA S = j by omega], rfl⟩ (Nat.le_of_ble_eq_true rfl) (Nat.le_of_ble_eq_true rfl)
    | succ m ih =>
      intro j hj
      have q := hA.2.2.1 j (by omega)
      have q0 := q.1
      obtain ⟨-, -, -, -, -, -, -, -, -, q9, -, -, q12, q13, -⟩ := q
      have h8 := ih (j + 1) (by omega)
      simp only [sumL] at h8
      unfold undB at h8
      have far := hW.far (show j < nA S by omega)
      by_cases d : mT S 465 j = -1
      · rw [if_neg (fun z => z.1 d), Int64.add_zero] at h8
        have q13n : hR h 13 (as j) = none := by rw [q13]; exact lnk_n d
        refine J_iload_n dX6_sumUnderWay_4 rfl rfl ?_
        refine J_aload_n dX6_sumUnderWay_5 rfl rfl isR_r ?_
        refine J_getI dX6_sumUnderWay_6 g_X6_229 (by first | with_reducible assumption | (simp only [hK_sI, hK_sJ, hK_sR, hK_tI, hK_tJ, hK_tR]; with_reducible assumption)) ?_
        refine J_icmp_ge (tgt := 55) dX6_sumUnderWay_9 (by decide) (fun c9 => ((show False by rw [e389, nI_lei (by omega) (by omega)] at c9; omega)).elim) (fun c9 => ?_)
        refine J_aload_n dX6_sumUnderWay_12 rfl rfl isR_r ?_
        refine J_iload_n dX6_sumUnderWay_13 rfl rfl ?_
        refine J_callV (c_askOf hr.1 hA hW.1.1.1) dX6_sumUnderWay_14 ml_X6_85 mkX6_askOf rfl (by first | with_reducible assumption | (simp only [hK_sI, hK_sJ, hK_sR, hK_tI, hK_tJ, hK_tR]; with_reducible assumption)) (by decide) rfl rfl (Nat.le_of_ble_eq_true rfl) ⟨Nat.le_of_ble_eq_true rfl, Nat.le_of_ble_eq_true rfl⟩ ⟨Nat.le_of_ble_eq_true rfl, Nat.le_of_ble_eq_true rfl⟩ (fun v14 hp14 q14 => ?_)
        obtain ⟨rfl, z14⟩ := q14
        rw [z14]
        rw [inN_nIlt (show j < nA S by omega) (by omega), tn_nI (show j < 2147483648 by omega)]
        refine J_astore dX6_sumUnderWay_17 isR_r (by decide) ?_
        refine J_aload dX6_sumUnderWay_19 rfl isR_r ?_
        refine J_pc (pc' := 21) rfl ?_
        refine J_ifnull_r dX6_sumUnderWay_21 ?_
        refine J_aload dX6_sumUnderWay_24 rfl isR_r ?_
        refine J_getR dX6_sumUnderWay_26 g_X6_114 (by first | with_reducible assumption | (simp only [hK_sI, hK_sJ, hK_sR, hK_tI, hK_tJ, hK_tR]; with_reducible assumption)) q13n ?_
        refine J_ifnull_n (tgt := 49) dX6_sumUnderWay_29 (by decide) ?_
        refine J_iinc dX6_sumUnderWay_49 rfl (nI_inc _) (by decide) ?_
        refine J_goto (tgt := 4) dX6_sumUnderWay_52 (by decide) ?_
        exact J_loc _ rfl h8
      · have q13r : hR h 13 (as j) = some (as (tn (mT S 465 j))) := by rw [q13]; exact lnk_r (far.resolve_left d)
        by_cases d2 : mT S 467 j = 0
        · rw [if_pos ⟨d, d2⟩] at h8
          refine J_iload_n dX6_sumUnderWay_4 rfl rfl ?_
          refine J_aload_n dX6_sumUnderWay_5 rfl rfl isR_r ?_
          refine J_getI dX6_sumUnderWay_6 g_X6_229 (by first | with_reducible assumption | (simp only [hK_sI, hK_sJ, hK_sR, hK_tI, hK_tJ, hK_tR]; with_reducible assumption)) ?_
          refine J_icmp_ge (tgt := 55) dX6_sumUnderWay_9 (by decide) (fun c9 => ((show False by rw [e389, nI_lei (by omega) (by omega)] at c9; omega)).elim) (fun c9 => ?_)
          refine J_aload_n dX6_sumUnderWay_12 rfl rfl isR_r ?_
          refine J_iload_n dX6_sumUnderWay_13 rfl rfl ?_
          refine J_callV (c_askOf hr.1 hA hW.1.1.1) dX6_sumUnderWay_14 ml_X6_85 mkX6_askOf rfl (by first | with_reducible assumption | (simp only [hK_sI, hK_sJ, hK_sR, hK_tI, hK_tJ, hK_tR]; with_reducible assumption)) (by decide) rfl rfl (Nat.le_of_ble_eq_true rfl) ⟨Nat.le_of_ble_eq_true rfl, Nat.le_of_ble_eq_true rfl⟩ ⟨Nat.le_of_ble_eq_true rfl, Nat.le_of_ble_eq_true rfl⟩ (fun v14 hp14 q14 => ?_)
          obtain ⟨rfl, z14⟩ := q14
          rw [z14]
          rw [inN_nIlt (show j < nA S by omega) (by omega), tn_nI (show j < 2147483648 by omega)]
          refine J_astore dX6_sumUnderWay_17 isR_r (by decide) ?_
          refine J_aload dX6_sumUnderWay_19 rfl isR_r ?_
          refine J_pc (pc' := 21) rfl ?_
          refine J_ifnull_r dX6_sumUnderWay_21 ?_
          refine J_aload dX6_sumUnderWay_24 rfl isR_r ?_
          refine J_getRr dX6_sumUnderWay_26 g_X6_114 (by first | with_reducible assumption | (simp only [hK_sI, hK_sJ, hK_sR, hK_tI, hK_tJ, hK_tR]; with_reducible assumption)) q13r ?_
          refine J_ifnull_r dX6_sumUnderWay_29 ?_
          refine J_aload dX6_sumUnderWay_32 rfl isR_r ?_
          refine J_getI dX6_sumUnderWay_34 g_X6_213 (by first | with_reducible assumption | (simp only [hK_sI, hK_sJ, hK_sR, hK_tI, hK_tJ, hK_tR]; with_reducible assumption)) ?_
          refine J_if_ne (tgt := 49) dX6_sumUnderWay_37 (by decide) (fun c37 => (c37 (by rw [q12]; exact d2)).elim) (fun c37 => ?_)
          refine J_lload_n dX6_sumUnderWay_40 rfl rfl ?_
          refine J_aload dX6_sumUnderWay_41 rfl isR_r ?_
          refine J_pc (pc' := 43) rfl ?_
          refine J_getI dX6_sumUnderWay_43 g_X6_261 (by first | with_reducible assumption | (simp only [hK_sI, hK_sJ, hK_sR, hK_tI, hK_tJ, hK_tR]; with_reducible assumption)) ?_
          refine J_i2l dX6_sumUnderWay_46 ?_
          rw [q9]
          refine J_ladd dX6_sumUnderWay_47 ?_
          refine J_lstore_n dX6_sumUnderWay_48 rfl (by decide) ?_
          refine J_iinc dX6_sumUnderWay_49 rfl (nI_inc _) (by decide) ?_
          refine J_goto (tgt := 4) dX6_sumUnderWay_52 (by decide) ?_
          exact J_loc _ rfl h8
        · rw [if_neg (fun z => d2 z.2), Int64.add_zero] at h8
          refine J_iload_n dX6_sumUnderWay_4 rfl rfl ?_
          refine J_aload_n dX6_sumUnderWay_5 rfl rfl isR_r ?_
          refine J_getI dX6_sumUnderWay_6 g_X6_229 (by first | with_reducible assumption | (simp only [hK_sI, hK_sJ, hK_sR, hK_tI, hK_tJ, hK_tR]; with_reducible assumption)) ?_
          refine J_icmp_ge (tgt := 55) dX6_sumUnderWay_9 (by decide) (fun c9 => ((show False by rw [e389, nI_lei (by omega) (by omega)] at c9; omega)).elim) (fun c9 => ?_)
          refine J_aload_n dX6_sumUnderWay_12 rfl rfl isR_r ?_
          refine J_iload_n dX6_sumUnderWay_13 rfl rfl ?_
          refine J_callV (c_askOf hr.1 hA hW.1.1.1) dX6_sumUnderWay_14 ml_X6_85 mkX6_askOf rfl (by first | with_reducible assumption | (simp only [hK_sI, hK_sJ, hK_sR, hK_tI, hK_tJ, hK_tR]; with_reducible assumption)) (by decide) rfl rfl (Nat.le_of_ble_eq_true rfl) ⟨Nat.le_of_ble_eq_true rfl, Nat.le_of_ble_eq_true rfl⟩ ⟨Nat.le_of_ble_eq_true rfl, Nat.le_of_ble_eq_true rfl⟩ (fun v14 hp14 q14 => ?_)
          obtain ⟨rfl, z14⟩ := q14
          rw [z14]
          rw [inN_nIlt (show j < nA S by omega) (by omega), tn_nI (show j < 2147483648 by omega)]
          refine J_astore dX6_sumUnderWay_17 isR_r (by decide) ?_
          refine J_aload dX6_sumUnderWay_19 rfl isR_r ?_
          refine J_pc (pc' := 21) rfl ?_
          refine J_ifnull_r dX6_sumUnderWay_21 ?_
          refine J_aload dX6_sumUnderWay_24 rfl isR_r ?_
          refine J_getRr dX6_sumUnderWay_26 g_X6_114 (by first | with_reducible assumption | (simp only [hK_sI, hK_sJ, hK_sR, hK_tI, hK_tJ, hK_tR]; with_reducible assumption)) q13r ?_
          refine J_ifnull_r dX6_sumUnderWay_29 ?_
          refine J_aload dX6_sumUnderWay_32 rfl isR_r ?_
          refine J_getI dX6_sumUnderWay_34 g_X6_213 (by first | with_reducible assumption | (simp only [hK_sI, hK_sJ, hK_sR, hK_tI, hK_tJ, hK_tR]; with_reducible assumption)) ?_
          refine J_if_ne (tgt := 49) dX6_sumUnderWay_37 (by decide) (fun c37 => ?_) (fun c37 => (d2 (by rw [← q12]; exact c37)).elim)
          refine J_iinc dX6_sumUnderWay_49 rfl (nI_inc _) (by decide) ?_
          refine J_goto (tgt := 4) dX6_sumUnderWay_52 (by decide) ?_
          exact J_loc _ rfl h8
  refine J_lconst (v := 0) dX6_sumUnderWay_0 (by decide) ?_
  refine J_lstore_n dX6_sumUnderWay_1 rfl (by decide) ?_
  refine J_iconst (v := 0) dX6_sumUnderWay_2 (by decide) ?_
  refine J_istore_n dX6_sumUnderWay_3 rfl (by decide) ?_
  exact J_loc _ rfl (lp (nA S) 0 (Nat.zero_add _))
set_option maxRecDepth 100000 in
set_option maxHeartbeats 4000000 in
theorem c_sumOfAdds (hr : Rep w as S h) (hW : WF2 g S) : Mt x 1 kX6_sumOfAdds 0 0 [.ref (w 0 0)] h (fun z h' => z = some (.long (addS S (nA S))) ∧ h' = h) := by
  refine Mt.ofJ mkX6_sumOfAdds.1 (Nat.le_of_ble_eq_true rfl) ?_
  have o1 := hr.1.1.1
  have hA := hr.2.2.2.1
  have eN := inN_tn hW.1.1.1
  have eN2 : nA S < 301 := eN.2.1
  have e389 : hI h 389 (w 0 0) = nI (nA S) := by rw [hr.2.1.2.1]; exact eN.1
  have lp : ∀ m j, j + m = nA S → J x (om_m x 1 0 0 (fun z h' => z = some (.long (addS S (nA S))) ∧ h' = h)) kX6_sumOfAdds 4 [(0, .ref (w 0 0)), (1, .long (addS S j)), (3, .int (nI j))] [] h 0 0 := by
    intro m
    induction m with
    | zero =>
      intro j hj
      refine J_iload_n dX6_sumOfAdds_4 rfl rfl ?_
      refine J_aload_n dX6_sumOfAdds_5 rfl rfl isR_r ?_
      refine J_getI dX6_sumOfAdds_6 g_X6_229 (by first | with_reducible assumption | (simp only [hK_sI, hK_sJ, hK_sR, hK_tI, hK_tJ, hK_tR]; with_reducible assumption)) ?_
      refine J_icmp_ge (tgt := 66) dX6_sumOfAdds_9 (by decide) (fun c9 => ?_) (fun c9 => (c9 (by rw [e389]; exact (nI_lei (by omega) (by omega)).mpr (by omega))).elim)
      refine J_lload_n dX6_sumOfAdds_66 rfl rfl ?_
      exact J_lreturn dX6_sumOfAdds_67 rfl ⟨by rw [show nA S = j by omega], rfl⟩ (Nat.le_of_ble_eq_true rfl) (Nat.le_of_ble_eq_true rfl)
    | succ m ih =>
      intro j hj
      have q := hA.2.2.1 j (by omega)
      have q0 := q.1
      obtain ⟨-, -, q2, -, -, -, q6, -, -, q9, -, -, q12, -, -⟩ := q
      have h8 := ih (j + 1) (by omega)
      simp only [addS] at h8
      have no : ¬ (mT S 458 j = 1 ∧ mT S 454 j < 6 ∧ mT S 467 j ≠ 0) → J x (om_m x 1 0 0 (fun z h' => z = some (.long (addS S (nA S))) ∧ h' = h)) kX6_sumOfAdds 4 [(0, .ref (w 0 0)), (1, .long (addS S j)), (3, .int (nI (j + 1)))] [] h 0 0 := fun z => by
        rw [if_neg z, Int64.add_zero] at h8
        exact h8
      refine J_iload_n dX6_sumOfAdds_4 rfl rfl ?_
      refine J_aload_n dX6_sumOfAdds_5 rfl rfl isR_r ?_
      refine J_getI dX6_sumOfAdds_6 g_X6_229 (by first | with_reducible assumption | (simp only [hK_sI, hK_sJ, hK_sR, hK_tI, hK_tJ, hK_tR]; with_reducible assumption)) ?_
      refine J_icmp_ge (tgt := 66) dX6_sumOfAdds_9 (by decide) (fun c9 => ((show False by rw [e389, nI_lei (by omega) (by omega)] at c9; omega)).elim) (fun c9 => ?_)
      refine J_aload_n dX6_sumOfAdds_12 rfl rfl isR_r ?_
      refine J_iload_n dX6_sumOfAdds_13 rfl rfl ?_
      refine J_callV (c_askOf hr.1 hA hW.1.1.1) dX6_sumOfAdds_14 ml_X6_85 mkX6_askOf rfl (by first | with_reducible assumption | (simp only [hK_sI, hK_sJ, hK_sR, hK_tI, hK_tJ, hK_tR]; with_reducible assumption)) (by decide) rfl rfl (Nat.le_of_ble_eq_true rfl) ⟨Nat.le_of_ble_eq_true rfl, Nat.le_of_ble_eq_true rfl⟩ ⟨Nat.le_of_ble_eq_true rfl, Nat.le_of_ble_eq_true rfl⟩ (fun v14 hp14 q14 => ?_)
      obtain ⟨rfl, z14⟩ := q14
      rw [z14]
      rw [inN_nIlt (show j < nA S by omega) (by omega), tn_nI (show j < 2147483648 by omega)]
      refine J_astore dX6_sumOfAdds_17 isR_r (by decide) ?_
      refine J_aload dX6_sumOfAdds_19 rfl isR_r ?_
      refine J_pc (pc' := 21) rfl ?_
      refine J_ifnull_r dX6_sumOfAdds_21 ?_
      refine J_aload dX6_sumOfAdds_24 rfl isR_r ?_
      refine J_getI dX6_sumOfAdds_26 g_X6_111 (by first | with_reducible assumption | (simp only [hK_sI, hK_sJ, hK_sR, hK_tI, hK_tJ, hK_tR]; with_reducible assumption)) ?_
      refine J_iconst (v := 1) dX6_sumOfAdds_29 (by decide) ?_
      refine J_icmp_ne (tgt := 60) dX6_sumOfAdds_30 (by decide) (fun c30 => ?_) (fun c30 => ?_)
      · refine J_iinc dX6_sumOfAdds_60 rfl (nI_inc _) (by decide) ?_
        refine J_goto (tgt := 4) dX6_sumOfAdds_63 (by decide) ?_
        exact J_loc _ rfl (no (fun z => c30 (by rw [q6]; exact z.1)))
      · refine J_aload dX6_sumOfAdds_33 rfl isR_r ?_
        refine J_getI dX6_sumOfAdds_35 g_X6_89 (by first | with_reducible assumption | (simp only [hK_sI, hK_sJ, hK_sR, hK_tI, hK_tJ, hK_tR]; with_reducible assumption)) ?_
        refine J_bipush (v := 6) dX6_sumOfAdds_38 (by decide) ?_
        refine J_icmp_ge (tgt := 60) dX6_sumOfAdds_40 (by decide) (fun c40 => ?_) (fun c40 => ?_)
        · refine J_iinc dX6_sumOfAdds_60 rfl (nI_inc _) (by decide) ?_
          refine J_goto (tgt := 4) dX6_sumOfAdds_63 (by decide) ?_
          exact J_loc _ rfl (no (fun z => i32_nle.mpr z.2.1 (by rw [← q2]; exact c40)))
        · refine J_aload dX6_sumOfAdds_43 rfl isR_r ?_
          refine J_getI dX6_sumOfAdds_45 g_X6_213 (by first | with_reducible assumption | (simp only [hK_sI, hK_sJ, hK_sR, hK_tI, hK_tJ, hK_tR]; with_reducible assumption)) ?_
          refine J_if_eq (tgt := 60) dX6_sumOfAdds_48 (by decide) (fun c48 => ?_) (fun c48 => ?_)
          · refine J_iinc dX6_sumOfAdds_60 rfl (nI_inc _) (by decide) ?_
            refine J_goto (tgt := 4) dX6_sumOfAdds_63 (by decide) ?_
            exact J_loc _ rfl (no (fun z => z.2.2 (by rw [← q12]; exact c48)))
          · refine J_lload_n dX6_sumOfAdds_51 rfl rfl ?_
            refine J_aload dX6_sumOfAdds_52 rfl isR_r ?_
            refine J_getI dX6_sumOfAdds_54 g_X6_261 (by first | with_reducible assumption | (simp only [hK_sI, hK_sJ, hK_sR, hK_tI, hK_tJ, hK_tR]; with_reducible assumption)) ?_
            refine J_i2l dX6_sumOfAdds_57 ?_
            rw [q9]
            refine J_ladd dX6_sumOfAdds_58 ?_
            refine J_lstore_n dX6_sumOfAdds_59 rfl (by decide) ?_
            refine J_iinc dX6_sumOfAdds_60 rfl (nI_inc _) (by decide) ?_
            refine J_goto (tgt := 4) dX6_sumOfAdds_63 (by decide) ?_
            rw [if_pos ⟨by rw [← q6]; exact c30, i32_nle.mp (fun y => c40 (by rw [q2]; exact y)), fun y => c48 (by rw [q12]; exact y)⟩] at h8
            exact J_loc _ rfl h8
  refine J_lconst (v := 0) dX6_sumOfAdds_0 (by decide) ?_
  refine J_lstore_n dX6_sumOfAdds_1 rfl (by decide) ?_
  refine J_iconst (v := 0) dX6_sumOfAdds_2 (by decide) ?_
  refine J_istore_n dX6_sumOfAdds_3 rfl (by decide) ?_
  exact J_loc _ rfl (lp (nA S) 0 (Nat.zero_add _))
set_option maxRecDepth 100000 in
set_option maxHeartbeats 4000000 in
theorem c_audit {v : Int32} (hr : Rep w as S h) (hW : WF2 g S) : Mt x 4 kX6_audit 0 0 [.ref (w 0 0), .int v] h (fun z h' => z = some (.long (auditP S v)) ∧ h' = h) := by
  refine Mt.ofJ mkX6_audit.1 (Nat.le_of_ble_eq_true rfl) ?_
  have o1 := hr.1.1.1
  unfold auditP
  refine J_iload_n dX6_audit_0 rfl rfl ?_
  by_cases s1_0 : v = 0
  · refine J_st (st' := [.int 0]) (by rw [s1_0] <;> rfl) ?_
    refine J_tswIn (off := 27) (tgt := 28) dX6_audit_1 (by decide) (by decide) (by decide) (by decide) ?_
    refine J_aload_n dX6_audit_28 rfl rfl isR_r ?_
    refine J_callV (c_sumOfAccounts hr) dX6_audit_29 ml_X6_216 mkX6_sumOfAccounts rfl (by first | with_reducible assumption | (simp only [hK_sI, hK_sJ, hK_sR, hK_tI, hK_tJ, hK_tR]; with_reducible assumption)) (by decide) rfl rfl (Nat.le_of_ble_eq_true rfl) ⟨Nat.le_of_ble_eq_true rfl, Nat.le_of_ble_eq_true rfl⟩ ⟨Nat.le_of_ble_eq_true rfl, Nat.le_of_ble_eq_true rfl⟩ (fun v29 hp29 q29 => ?_)
    obtain ⟨rfl, z29⟩ := q29
    rw [z29]
    exact J_lreturn dX6_audit_32 rfl ⟨by rw [s1_0, if_pos rfl], rfl⟩ (Nat.le_of_ble_eq_true rfl) (Nat.le_of_ble_eq_true rfl)
  -- else
  by_cases s1_1 : v = 1
  · refine J_st (st' := [.int 1]) (by rw [s1_1] <;> rfl) ?_
    refine J_tswIn (off := 32) (tgt := 33) dX6_audit_1 (by decide) (by decide) (by decide) (by decide) ?_
    refine J_aload_n dX6_audit_33 rfl rfl isR_r ?_
    refine J_callV (c_sumUnderWay hr hW) dX6_audit_34 ml_X6_220 mkX6_sumUnderWay rfl (by first | with_reducible assumption | (simp only [hK_sI, hK_sJ, hK_sR, hK_tI, hK_tJ, hK_tR]; with_reducible assumption)) (by decide) rfl rfl (Nat.le_of_ble_eq_true rfl) ⟨Nat.le_of_ble_eq_true rfl, Nat.le_of_ble_eq_true rfl⟩ ⟨Nat.le_of_ble_eq_true rfl, Nat.le_of_ble_eq_true rfl⟩ (fun v34 hp34 q34 => ?_)
    obtain ⟨rfl, z34⟩ := q34
    rw [z34]
    exact J_lreturn dX6_audit_37 rfl ⟨by rw [s1_1, if_neg (by decide), if_pos rfl], rfl⟩ (Nat.le_of_ble_eq_true rfl) (Nat.le_of_ble_eq_true rfl)
  -- else
  by_cases s1_2 : v = 2
  · refine J_st (st' := [.int 2]) (by rw [s1_2] <;> rfl) ?_
    refine J_tswIn (off := 37) (tgt := 38) dX6_audit_1 (by decide) (by decide) (by decide) (by decide) ?_
    refine J_aload_n dX6_audit_38 rfl rfl isR_r ?_
    refine J_callV (c_sumOfAdds hr hW) dX6_audit_39 ml_X6_223 mkX6_sumOfAdds rfl (by first | with_reducible assumption | (simp only [hK_sI, hK_sJ, hK_sR, hK_tI, hK_tJ, hK_tR]; with_reducible assumption)) (by decide) rfl rfl (Nat.le_of_ble_eq_true rfl) ⟨Nat.le_of_ble_eq_true rfl, Nat.le_of_ble_eq_true rfl⟩ ⟨Nat.le_of_ble_eq_true rfl, Nat.le_of_ble_eq_true rfl⟩ (fun v39 hp39 q39 => ?_)
    obtain ⟨rfl, z39⟩ := q39
    rw [z39]
    exact J_lreturn dX6_audit_42 rfl ⟨by rw [s1_2, if_neg (by decide), if_neg (by decide), if_pos rfl], rfl⟩ (Nat.le_of_ble_eq_true rfl) (Nat.le_of_ble_eq_true rfl)
  -- else
  have tt : (v).toInt ≠ 0 ∧ (v).toInt ≠ 1 ∧ (v).toInt ≠ 2 := ⟨fun z => s1_0 (Int32.toInt_inj.mp (z.trans (by decide))), fun z => s1_1 (Int32.toInt_inj.mp (z.trans (by decide))), fun z => s1_2 (Int32.toInt_inj.mp (z.trans (by decide)))⟩
  refine J_tswOut (tgt := 43) dX6_audit_1 (by omega) (by decide) ?_
  refine J_ldc2 dX6_audit_43 ll_X6_125 ?_
  exact J_lreturn dX6_audit_46 rfl ⟨by rw [if_neg s1_0, if_neg s1_1, if_neg s1_2], rfl⟩ (Nat.le_of_ble_eq_true rfl) (Nat.le_of_ble_eq_true rfl)
end SU
