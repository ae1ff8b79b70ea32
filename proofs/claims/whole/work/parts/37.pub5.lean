/-! the class's face: what only reads -/
section P1
variable {x : om_x} {w : om_w} {h : Hp} {as : Nat → Nat} {S : Ms} {g : Nat}
theorem lnk_n {v : Int32} (e : v = -1) : lnk as v = none := by unfold lnk; rw [if_pos e]
theorem lnk_r {v : Int32} {n : Nat} (e : inN v n = true) : lnk as v = some (as (tn v)) := by
  unfold lnk
  rw [if_neg (fun z => by rw [z] at e; rw [inN_neg (by decide)] at e; cases e)]
theorem c_idlnk {v : Int32} (hA : RAsk w as S h) (hv : v = -1 ∨ inN v (nA S) = true) : Mt x 0 kX6_idOf 0 0 [va_rf (lnk as v)] h (fun z h' => z = some (.int v) ∧ h' = h) := by
  by_cases e : v = -1
  · rw [lnk_n e, e]
    exact c_idOf_n
  · have e2 := hv.resolve_left e
    have e3 := inN_tn e2
    obtain ⟨q0, q1, -⟩ := hA.2.2.1 _ e3.2.1
    rw [lnk_r e2]
    have := c_idOf_r (x := x) q0
    rw [q1, ← e3.1] at this
    exact this
theorem WF2.far {k : Nat} (hW : WF2 g S) (hk : k < nA S) : mT S 465 k = -1 ∨ inN (mT S 465 k) (nA S) = true := by
  obtain ⟨-, -, -, -, ⟨e1, e2⟩, -⟩ := hW.2.2.2.1 k hk
  by_cases e : tn (mT S 454 k) < 6
  · exact Or.inl (e1 e)
  · exact Or.inr (e2 (by omega)).2.1
theorem WF2.own {k : Nat} (hW : WF2 g S) (hk : k < nA S) : mT S 466 k = -1 ∨ inN (mT S 466 k) (nA S) = true := by
  obtain ⟨-, -, -, -, -, ⟨e1, -⟩⟩ := hW.2.2.2.1 k hk
  by_cases e : mT S 466 k = -1
  · exact Or.inl e
  · exact Or.inr (e1 e).1
set_option maxRecDepth 100000 in
set_option maxHeartbeats 4000000 in
theorem c_told {a v : Int32} (hr : Rep w as S h) (hW : WF2 g S) : Mt x 1 kX6_told 0 0 [.ref (w 0 0), .int a, .int v] h (fun z h' => z = some (.int (toldP S a v)) ∧ h' = h) := by
  refine Mt.ofJ mkX6_told.1 (Nat.le_of_ble_eq_true rfl) ?_
  have o1 := hr.1.1.1
  have hA := hr.2.2.2.1
  unfold toldP
  cases ha : inN a (nA S) with
  | false =>
    refine J_aload_n dX6_told_0 rfl rfl isR_r ?_
    refine J_iload_n dX6_told_1 rfl rfl ?_
    refine J_callV (c_askOf hr.1 hA hW.1.1.1) dX6_told_2 ml_X6_85 mkX6_askOf rfl (by first | with_reducible assumption | (simp only [hK_sI, hK_sJ, hK_sR, hK_tI, hK_tJ, hK_tR]; with_reducible assumption)) (by decide) rfl rfl (Nat.le_of_ble_eq_true rfl) ⟨Nat.le_of_ble_eq_true rfl, Nat.le_of_ble_eq_true rfl⟩ ⟨Nat.le_of_ble_eq_true rfl, Nat.le_of_ble_eq_true rfl⟩ (fun v2 hp2 q2 => ?_)
    obtain ⟨rfl, z2⟩ := q2
    rw [z2]
    rw [ha]
    refine J_astore_n dX6_told_5 rfl isR_n (by decide) ?_
    refine J_aload_n dX6_told_6 rfl rfl isR_n ?_
    refine J_ifnonnull_n dX6_told_7 ?_
    refine J_ldc dX6_told_10 lc_X6_55 ?_
    exact J_ireturn dX6_told_12 rfl ⟨rfl, rfl⟩ (Nat.le_of_ble_eq_true rfl) (Nat.le_of_ble_eq_true rfl)
  | true =>
    rw [if_neg (by decide)]
    have hk := (inN_tn ha).2.1
    obtain ⟨q0, q1, q2, q3, q4, q5, q6, q7, q8, q9, q10, q11, q12, q13, q14⟩ := hA.2.2.1 _ hk
    refine J_aload_n dX6_told_0 rfl rfl isR_r ?_
    refine J_iload_n dX6_told_1 rfl rfl ?_
    refine J_callV (c_askOf hr.1 hA hW.1.1.1) dX6_told_2 ml_X6_85 mkX6_askOf rfl (by first | with_reducible assumption | (simp only [hK_sI, hK_sJ, hK_sR, hK_tI, hK_tJ, hK_tR]; with_reducible assumption)) (by decide) rfl rfl (Nat.le_of_ble_eq_true rfl) ⟨Nat.le_of_ble_eq_true rfl, Nat.le_of_ble_eq_true rfl⟩ ⟨Nat.le_of_ble_eq_true rfl, Nat.le_of_ble_eq_true rfl⟩ (fun v2 hp2 q2 => ?_)
    obtain ⟨rfl, z2⟩ := q2
    rw [z2]
    rw [ha]
    refine J_astore_n dX6_told_5 rfl isR_r (by decide) ?_
    refine J_aload_n dX6_told_6 rfl rfl isR_r ?_
    refine J_ifnonnull_r (tgt := 13) dX6_told_7 (by decide) ?_
    refine J_iload_n dX6_told_13 rfl rfl ?_
    by_cases s14_0 : v = 0
    · refine J_st (st' := [.int 0]) (by rw [s14_0] <;> rfl) ?_
      refine J_tswIn (off := 46) (tgt := 60) dX6_told_14 (by decide) (by decide) (by decide) (by decide) ?_
      refine J_aload_n dX6_told_60 rfl rfl isR_r ?_
      refine J_getI dX6_told_61 g_X6_89 (by first | with_reducible assumption | (simp only [hK_sI, hK_sJ, hK_sR, hK_tI, hK_tJ, hK_tR]; with_reducible assumption)) ?_
      exact J_ireturn dX6_told_64 rfl ⟨by rw [if_pos s14_0, q2], rfl⟩ (Nat.le_of_ble_eq_true rfl) (Nat.le_of_ble_eq_true rfl)
    -- else
    by_cases s14_1 : v = 1
    · refine J_st (st' := [.int 1]) (by rw [s14_1] <;> rfl) ?_
      refine J_tswIn (off := 51) (tgt := 65) dX6_told_14 (by decide) (by decide) (by decide) (by decide) ?_
      refine J_aload_n dX6_told_65 rfl rfl isR_r ?_
      refine J_getI dX6_told_66 g_X6_102 (by first | with_reducible assumption | (simp only [hK_sI, hK_sJ, hK_sR, hK_tI, hK_tJ, hK_tR]; with_reducible assumption)) ?_
      exact J_ireturn dX6_told_69 rfl ⟨by rw [if_neg s14_0, if_pos s14_1, q3], rfl⟩ (Nat.le_of_ble_eq_true rfl) (Nat.le_of_ble_eq_true rfl)
    -- else
    by_cases s14_2 : v = 2
    · refine J_st (st' := [.int 2]) (by rw [s14_2] <;> rfl) ?_
      refine J_tswIn (off := 56) (tgt := 70) dX6_told_14 (by decide) (by decide) (by decide) (by decide) ?_
      refine J_aload_n dX6_told_70 rfl rfl isR_r ?_
      refine J_getI dX6_told_71 g_X6_105 (by first | with_reducible assumption | (simp only [hK_sI, hK_sJ, hK_sR, hK_tI, hK_tJ, hK_tR]; with_reducible assumption)) ?_
      exact J_ireturn dX6_told_74 rfl ⟨by rw [if_neg s14_0, if_neg s14_1, if_pos s14_2, q4], rfl⟩ (Nat.le_of_ble_eq_true rfl) (Nat.le_of_ble_eq_true rfl)
    -- else
    by_cases s14_3 : v = 3
    · refine J_st (st' := [.int 3]) (by rw [s14_3] <;> rfl) ?_
      refine J_tswIn (off := 61) (tgt := 75) dX6_told_14 (by decide) (by decide) (by decide) (by decide) ?_
      refine J_aload_n dX6_told_75 rfl rfl isR_r ?_
      refine J_getI dX6_told_76 g_X6_108 (by first | with_reducible assumption | (simp only [hK_sI, hK_sJ, hK_sR, hK_tI, hK_tJ, hK_tR]; with_reducible assumption)) ?_
      exact J_ireturn dX6_told_79 rfl ⟨by rw [if_neg s14_0, if_neg s14_1, if_neg s14_2, if_pos s14_3, q5], rfl⟩ (Nat.le_of_ble_eq_true rfl) (Nat.le_of_ble_eq_true rfl)
    -- else
    by_cases s14_4 : v = 4
    · refine J_st (st' := [.int 4]) (by rw [s14_4] <;> rfl) ?_
      refine J_tswIn (off := 66) (tgt := 80) dX6_told_14 (by decide) (by decide) (by decide) (by decide) ?_
      refine J_aload_n dX6_told_80 rfl rfl isR_r ?_
      refine J_getI dX6_told_81 g_X6_111 (by first | with_reducible assumption | (simp only [hK_sI, hK_sJ, hK_sR, hK_tI, hK_tJ, hK_tR]; with_reducible assumption)) ?_
      exact J_ireturn dX6_told_84 rfl ⟨by rw [if_neg s14_0, if_neg s14_1, if_neg s14_2, if_neg s14_3, if_pos s14_4, q6], rfl⟩ (Nat.le_of_ble_eq_true rfl) (Nat.le_of_ble_eq_true rfl)
    -- else
    by_cases s14_5 : v = 5
    · refine J_st (st' := [.int 5]) (by rw [s14_5] <;> rfl) ?_
      refine J_tswIn (off := 71) (tgt := 85) dX6_told_14 (by decide) (by decide) (by decide) (by decide) ?_
      refine J_aload_n dX6_told_85 rfl rfl isR_r ?_
      refine J_getI dX6_told_86 g_X6_92 (by first | with_reducible assumption | (simp only [hK_sI, hK_sJ, hK_sR, hK_tI, hK_tJ, hK_tR]; with_reducible assumption)) ?_
      exact J_ireturn dX6_told_89 rfl ⟨by rw [if_neg s14_0, if_neg s14_1, if_neg s14_2, if_neg s14_3, if_neg s14_4, if_pos s14_5, q10], rfl⟩ (Nat.le_of_ble_eq_true rfl) (Nat.le_of_ble_eq_true rfl)
    -- else
    by_cases s14_6 : v = 6
    · refine J_st (st' := [.int 6]) (by rw [s14_6] <;> rfl) ?_
      refine J_tswIn (off := 76) (tgt := 90) dX6_told_14 (by decide) (by decide) (by decide) (by decide) ?_
      refine J_aload_n dX6_told_90 rfl rfl isR_r ?_
      refine J_getR dX6_told_91 g_X6_114 (by first | with_reducible assumption | (simp only [hK_sI, hK_sJ, hK_sR, hK_tI, hK_tJ, hK_tR]; with_reducible assumption)) rfl ?_
      rw [q13]
      refine J_callS (c_idlnk hA (hW.far hk)) dX6_told_94 ml_X6_118 mkX6_idOf rfl rfl (Nat.le_of_ble_eq_true rfl) ⟨Nat.le_of_ble_eq_true rfl, Nat.le_of_ble_eq_true rfl⟩ ⟨Nat.le_of_ble_eq_true rfl, Nat.le_of_ble_eq_true rfl⟩ (fun v94 hp94 q94 => ?_)
      obtain ⟨rfl, z94⟩ := q94
      rw [z94]
      exact J_ireturn dX6_told_97 rfl ⟨by rw [if_neg s14_0, if_neg s14_1, if_neg s14_2, if_neg s14_3, if_neg s14_4, if_neg s14_5, if_pos s14_6], rfl⟩ (Nat.le_of_ble_eq_true rfl) (Nat.le_of_ble_eq_true rfl)
    -- else
    by_cases s14_7 : v = 7
    · refine J_st (st' := [.int 7]) (by rw [s14_7] <;> rfl) ?_
      refine J_tswIn (off := 84) (tgt := 98) dX6_told_14 (by decide) (by decide) (by decide) (by decide) ?_
      refine J_aload_n dX6_told_98 rfl rfl isR_r ?_
      refine J_getR dX6_told_99 g_X6_122 (by first | with_reducible assumption | (simp only [hK_sI, hK_sJ, hK_sR, hK_tI, hK_tJ, hK_tR]; with_reducible assumption)) rfl ?_
      rw [q14]
      refine J_callS (c_idlnk hA (hW.own hk)) dX6_told_102 ml_X6_118 mkX6_idOf rfl rfl (Nat.le_of_ble_eq_true rfl) ⟨Nat.le_of_ble_eq_true rfl, Nat.le_of_ble_eq_true rfl⟩ ⟨Nat.le_of_ble_eq_true rfl, Nat.le_of_ble_eq_true rfl⟩ (fun v102 hp102 q102 => ?_)
      obtain ⟨rfl, z102⟩ := q102
      rw [z102]
      exact J_ireturn dX6_told_105 rfl ⟨by rw [if_neg s14_0, if_neg s14_1, if_neg s14_2, if_neg s14_3, if_neg s14_4, if_neg s14_5, if_neg s14_6, if_pos s14_7], rfl⟩ (Nat.le_of_ble_eq_true rfl) (Nat.le_of_ble_eq_true rfl)
    -- else
    have tt : (v).toInt ≠ 0 ∧ (v).toInt ≠ 1 ∧ (v).toInt ≠ 2 ∧ (v).toInt ≠ 3 ∧ (v).toInt ≠ 4 ∧ (v).toInt ≠ 5 ∧ (v).toInt ≠ 6 ∧ (v).toInt ≠ 7 := ⟨fun z => s14_0 (Int32.toInt_inj.mp (z.trans (by decide))), fun z => s14_1 (Int32.toInt_inj.mp (z.trans (by decide))), fun z => s14_2 (Int32.toInt_inj.mp (z.trans (by decide))), fun z => s14_3 (Int32.toInt_inj.mp (z.trans (by decide))), fun z => s14_4 (Int32.toInt_inj.mp (z.trans (by decide))), fun z => s14_5 (Int32.toInt_inj.mp (z.trans (by decide))), fun z => s14_6 (Int32.toInt_inj.mp (z.trans (by decide))), fun z => s14_7 (Int32.toInt_inj.mp (z.trans (by decide)))⟩
    refine J_tswOut (tgt := 106) dX6_told_14 (by omega) (by decide) ?_
    refine J_ldc dX6_told_106 lc_X6_55 ?_
    exact J_ireturn dX6_told_108 rfl ⟨by rw [if_neg s14_0, if_neg s14_1, if_neg s14_2, if_neg s14_3, if_neg s14_4, if_neg s14_5, if_neg s14_6, if_neg s14_7], rfl⟩ (Nat.le_of_ble_eq_true rfl) (Nat.le_of_ble_eq_true rfl)
set_option maxRecDepth 100000 in
set_option maxHeartbeats 4000000 in
theorem c_answer {a : Int32} (hr : Rep w as S h) (hW : WF2 g S) : Mt x 1 kX6_answer 0 0 [.ref (w 0 0), .int a] h (fun z h' => z = some (.long (answerP S a)) ∧ h' = h) := by
  refine Mt.ofJ mkX6_answer.1 (Nat.le_of_ble_eq_true rfl) ?_
  have o1 := hr.1.1.1
  have hA := hr.2.2.2.1
  unfold answerP
  cases ha : inN a (nA S) with
  | false =>
    refine J_aload_n dX6_answer_0 rfl rfl isR_r ?_
    refine J_iload_n dX6_answer_1 rfl rfl ?_
    refine J_callV (c_askOf hr.1 hA hW.1.1.1) dX6_answer_2 ml_X6_85 mkX6_askOf rfl (by first | with_reducible assumption | (simp only [hK_sI, hK_sJ, hK_sR, hK_tI, hK_tJ, hK_tR]; with_reducible assumption)) (by decide) rfl rfl (Nat.le_of_ble_eq_true rfl) ⟨Nat.le_of_ble_eq_true rfl, Nat.le_of_ble_eq_true rfl⟩ ⟨Nat.le_of_ble_eq_true rfl, Nat.le_of_ble_eq_true rfl⟩ (fun v2 hp2 q2 => ?_)
    obtain ⟨rfl, z2⟩ := q2
    rw [z2]
    rw [ha]
    refine J_astore_n dX6_answer_5 rfl isR_n (by decide) ?_
    refine J_aload_n dX6_answer_6 rfl rfl isR_n ?_
    refine J_ifnonnull_n dX6_answer_7 ?_
    refine J_ldc2 dX6_answer_10 ll_X6_125 ?_
    exact J_lreturn dX6_answer_13 rfl ⟨rfl, rfl⟩ (Nat.le_of_ble_eq_true rfl) (Nat.le_of_ble_eq_true rfl)
  | true =>
    rw [if_neg (by decide)]
    have hk := (inN_tn ha).2.1
    obtain ⟨q0, q1, q2, q3, q4, q5, q6, q7, q8, q9, q10, q11, q12, q13, q14⟩ := hA.2.2.1 _ hk
    refine J_aload_n dX6_answer_0 rfl rfl isR_r ?_
    refine J_iload_n dX6_answer_1 rfl rfl ?_
    refine J_callV (c_askOf hr.1 hA hW.1.1.1) dX6_answer_2 ml_X6_85 mkX6_askOf rfl (by first | with_reducible assumption | (simp only [hK_sI, hK_sJ, hK_sR, hK_tI, hK_tJ, hK_tR]; with_reducible assumption)) (by decide) rfl rfl (Nat.le_of_ble_eq_true rfl) ⟨Nat.le_of_ble_eq_true rfl, Nat.le_of_ble_eq_true rfl⟩ ⟨Nat.le_of_ble_eq_true rfl, Nat.le_of_ble_eq_true rfl⟩ (fun v2 hp2 q2 => ?_)
    obtain ⟨rfl, z2⟩ := q2
    rw [z2]
    rw [ha]
    refine J_astore_n dX6_answer_5 rfl isR_r (by decide) ?_
    refine J_aload_n dX6_answer_6 rfl rfl isR_r ?_
    refine J_ifnonnull_r (tgt := 14) dX6_answer_7 (by decide) ?_
    refine J_aload_n dX6_answer_14 rfl rfl isR_r ?_
    refine J_getI dX6_answer_15 g_X6_92 (by first | with_reducible assumption | (simp only [hK_sI, hK_sJ, hK_sR, hK_tI, hK_tJ, hK_tR]; with_reducible assumption)) ?_
    refine J_iconst (v := 1) dX6_answer_18 (by decide) ?_
    refine J_pc (pc' := 19) rfl ?_
    refine J_icmp_ne (tgt := 29) dX6_answer_19 (by decide) (fun c19 => ?_) (fun c19 => ?_)
    · refine J_ldc2 dX6_answer_29 ll_X6_131 ?_
      exact J_lreturn dX6_answer_32 rfl ⟨by rw [if_pos (by rw [← q10]; exact c19)], rfl⟩ (Nat.le_of_ble_eq_true rfl) (Nat.le_of_ble_eq_true rfl)
    · refine J_aload_n dX6_answer_22 rfl rfl isR_r ?_
      refine J_getJ dX6_answer_23 g_X6_127 (by first | with_reducible assumption | (simp only [hK_sI, hK_sJ, hK_sR, hK_tI, hK_tJ, hK_tR]; with_reducible assumption)) ?_
      refine J_goto (tgt := 32) dX6_answer_26 (by decide) ?_
      exact J_lreturn dX6_answer_32 rfl ⟨by rw [if_neg (fun z => z (by rw [← q10]; exact c19)), q11 (by rw [← q10]; exact c19)], rfl⟩ (Nat.le_of_ble_eq_true rfl) (Nat.le_of_ble_eq_true rfl)
set_option maxRecDepth 100000 in
set_option maxHeartbeats 4000000 in
theorem c_times {a : Int32} (hr : Rep w as S h) (hW : WF2 g S) : Mt x 1 kX6_times 0 0 [.ref (w 0 0), .int a] h (fun z h' => z = some (.int (timesP S a)) ∧ h' = h) := by
  refine Mt.ofJ mkX6_times.1 (Nat.le_of_ble_eq_true rfl) ?_
  have o1 := hr.1.1.1
  have hA := hr.2.2.2.1
  unfold timesP
  cases ha : inN a (nA S) with
  | false =>
    refine J_aload_n dX6_times_0 rfl rfl isR_r ?_
    refine J_iload_n dX6_times_1 rfl rfl ?_
    refine J_callV (c_askOf hr.1 hA hW.1.1.1) dX6_times_2 ml_X6_85 mkX6_askOf rfl (by first | with_reducible assumption | (simp only [hK_sI, hK_sJ, hK_sR, hK_tI, hK_tJ, hK_tR]; with_reducible assumption)) (by decide) rfl rfl (Nat.le_of_ble_eq_true rfl) ⟨Nat.le_of_ble_eq_true rfl, Nat.le_of_ble_eq_true rfl⟩ ⟨Nat.le_of_ble_eq_true rfl, Nat.le_of_ble_eq_true rfl⟩ (fun v2 hp2 q2 => ?_)
    obtain ⟨rfl, z2⟩ := q2
    rw [z2]
    rw [ha]
    refine J_astore_n dX6_times_5 rfl isR_n (by decide) ?_
    refine J_aload_n dX6_times_6 rfl rfl isR_n ?_
    refine J_ifnonnull_n dX6_times_7 ?_
    refine J_ldc dX6_times_10 lc_X6_55 ?_
    exact J_ireturn dX6_times_12 rfl ⟨rfl, rfl⟩ (Nat.le_of_ble_eq_true rfl) (Nat.le_of_ble_eq_true rfl)
  | true =>
    rw [if_neg (by decide)]
    have hk := (inN_tn ha).2.1
    obtain ⟨q0, q1, q2, q3, q4, q5, q6, q7, q8, q9, q10, q11, q12, q13, q14⟩ := hA.2.2.1 _ hk
    refine J_aload_n dX6_times_0 rfl rfl isR_r ?_
    refine J_iload_n dX6_times_1 rfl rfl ?_
    refine J_callV (c_askOf hr.1 hA hW.1.1.1) dX6_times_2 ml_X6_85 mkX6_askOf rfl (by first | with_reducible assumption | (simp only [hK_sI, hK_sJ, hK_sR, hK_tI, hK_tJ, hK_tR]; with_reducible assumption)) (by decide) rfl rfl (Nat.le_of_ble_eq_true rfl) ⟨Nat.le_of_ble_eq_true rfl, Nat.le_of_ble_eq_true rfl⟩ ⟨Nat.le_of_ble_eq_true rfl, Nat.le_of_ble_eq_true rfl⟩ (fun v2 hp2 q2 => ?_)
    obtain ⟨rfl, z2⟩ := q2
    rw [z2]
    rw [ha]
    refine J_astore_n dX6_times_5 rfl isR_r (by decide) ?_
    refine J_aload_n dX6_times_6 rfl rfl isR_r ?_
    refine J_ifnonnull_r (tgt := 13) dX6_times_7 (by decide) ?_
    refine J_aload_n dX6_times_13 rfl rfl isR_r ?_
    refine J_getI dX6_times_14 g_X6_213 (by first | with_reducible assumption | (simp only [hK_sI, hK_sJ, hK_sR, hK_tI, hK_tJ, hK_tR]; with_reducible assumption)) ?_
    refine J_if_eq (tgt := 24) dX6_times_17 (by decide) (fun c17 => ?_) (fun c17 => ?_)
    · refine J_iconst (v := 0) dX6_times_24 (by decide) ?_
      exact J_ireturn dX6_times_25 rfl ⟨by rw [if_pos (by rw [← q12]; exact c17)], rfl⟩ (Nat.le_of_ble_eq_true rfl) (Nat.le_of_ble_eq_true rfl)
    · refine J_iconst (v := 1) dX6_times_20 (by decide) ?_
      refine J_goto (tgt := 25) dX6_times_21 (by decide) ?_
      exact J_ireturn dX6_times_25 rfl ⟨by rw [if_neg (by rw [← q12]; exact c17)], rfl⟩ (Nat.le_of_ble_eq_true rfl) (Nat.le_of_ble_eq_true rfl)
theorem sealH_wit {k : Nat} (q : AskOK as S h k) (e : mT S 463 k = 1) : sealH h (as k) = witS S k := by
  obtain ⟨q0, q1, q2, q3, q4, q5, q6, q7, q8, q9, q10, q11, q12, q13, q14⟩ := q
  unfold sealH witS
  rw [q2, q3, q4, q5, q6, q11 e]
set_option maxRecDepth 100000 in
set_option maxHeartbeats 4000000 in
theorem c_witness {a : Int32} (hr : Rep w as S h) (hW : WF2 g S) : Mt x 1 kX6_witness 0 0 [.ref (w 0 0), .int a] h (fun z h' => z = some (.long (witnessP S a)) ∧ h' = h) := by
  refine Mt.ofJ mkX6_witness.1 (Nat.le_of_ble_eq_true rfl) ?_
  have o1 := hr.1.1.1
  have hA := hr.2.2.2.1
  unfold witnessP
  cases ha : inN a (nA S) with
  | false =>
    refine J_aload_n dX6_witness_0 rfl rfl isR_r ?_
    refine J_iload_n dX6_witness_1 rfl rfl ?_
    refine J_callV (c_askOf hr.1 hA hW.1.1.1) dX6_witness_2 ml_X6_85 mkX6_askOf rfl (by first | with_reducible assumption | (simp only [hK_sI, hK_sJ, hK_sR, hK_tI, hK_tJ, hK_tR]; with_reducible assumption)) (by decide) rfl rfl (Nat.le_of_ble_eq_true rfl) ⟨Nat.le_of_ble_eq_true rfl, Nat.le_of_ble_eq_true rfl⟩ ⟨Nat.le_of_ble_eq_true rfl, Nat.le_of_ble_eq_true rfl⟩ (fun v2 hp2 q2 => ?_)
    obtain ⟨rfl, z2⟩ := q2
    rw [z2]
    rw [ha]
    refine J_astore_n dX6_witness_5 rfl isR_n (by decide) ?_
    refine J_aload_n dX6_witness_6 rfl rfl isR_n ?_
    refine J_ifnonnull_n dX6_witness_7 ?_
    refine J_ldc2 dX6_witness_10 ll_X6_125 ?_
    exact J_lreturn dX6_witness_13 rfl ⟨rfl, rfl⟩ (Nat.le_of_ble_eq_true rfl) (Nat.le_of_ble_eq_true rfl)
  | true =>
    rw [if_neg (by decide)]
    have hk := (inN_tn ha).2.1
    have q := hA.2.2.1 _ hk
    have q0 := q.1
    have q10 := q.2.2.2.2.2.2.2.2.2.2.1
    refine J_aload_n dX6_witness_0 rfl rfl isR_r ?_
    refine J_iload_n dX6_witness_1 rfl rfl ?_
    refine J_callV (c_askOf hr.1 hA hW.1.1.1) dX6_witness_2 ml_X6_85 mkX6_askOf rfl (by first | with_reducible assumption | (simp only [hK_sI, hK_sJ, hK_sR, hK_tI, hK_tJ, hK_tR]; with_reducible assumption)) (by decide) rfl rfl (Nat.le_of_ble_eq_true rfl) ⟨Nat.le_of_ble_eq_true rfl, Nat.le_of_ble_eq_true rfl⟩ ⟨Nat.le_of_ble_eq_true rfl, Nat.le_of_ble_eq_true rfl⟩ (fun v2 hp2 q2 => ?_)
    obtain ⟨rfl, z2⟩ := q2
    rw [z2]
    rw [ha]
    refine J_astore_n dX6_witness_5 rfl isR_r (by decide) ?_
    refine J_aload_n dX6_witness_6 rfl rfl isR_r ?_
    refine J_ifnonnull_r (tgt := 14) dX6_witness_7 (by decide) ?_
    refine J_aload_n dX6_witness_14 rfl rfl isR_r ?_
    refine J_getI dX6_witness_15 g_X6_92 (by first | with_reducible assumption | (simp only [hK_sI, hK_sJ, hK_sR, hK_tI, hK_tJ, hK_tR]; with_reducible assumption)) ?_
    refine J_iconst (v := 1) dX6_witness_18 (by decide) ?_
    refine J_pc (pc' := 19) rfl ?_
    refine J_icmp_ne (tgt := 29) dX6_witness_19 (by decide) (fun c19 => ?_) (fun c19 => ?_)
    · refine J_ldc2 dX6_witness_29 ll_X6_131 ?_
      exact J_lreturn dX6_witness_32 rfl ⟨by rw [if_pos (by rw [← q10]; exact c19)], rfl⟩ (Nat.le_of_ble_eq_true rfl) (Nat.le_of_ble_eq_true rfl)
    · refine J_aload_n dX6_witness_22 rfl rfl isR_r ?_
      refine J_callV (c_seal q0) dX6_witness_23 ml_X6_226 mkX0_seal rfl (by first | with_reducible assumption | (simp only [hK_sI, hK_sJ, hK_sR, hK_tI, hK_tJ, hK_tR]; with_reducible assumption)) (by decide) rfl rfl (Nat.le_of_ble_eq_true rfl) ⟨Nat.le_of_ble_eq_true rfl, Nat.le_of_ble_eq_true rfl⟩ ⟨Nat.le_of_ble_eq_true rfl, Nat.le_of_ble_eq_true rfl⟩ (fun v23 hp23 q23 => ?_)
      obtain ⟨rfl, z23⟩ := q23
      rw [z23]
      refine J_goto (tgt := 32) dX6_witness_26 (by decide) ?_
      exact J_lreturn dX6_witness_32 rfl ⟨by rw [if_neg (fun z => z (by rw [← q10]; exact c19)), sealH_wit q (by rw [← q10]; exact c19)], rfl⟩ (Nat.le_of_ble_eq_true rfl) (Nat.le_of_ble_eq_true rfl)
set_option maxRecDepth 100000 in
set_option maxHeartbeats 4000000 in
theorem c_check {a : Int32} {v : Int64} (hr : Rep w as S h) (hW : WF2 g S) : Mt x 1 kX6_check 0 0 [.ref (w 0 0), .int a, .long v] h (fun z h' => z = some (.int (checkP S a v)) ∧ h' = h) := by
  refine Mt.ofJ mkX6_check.1 (Nat.le_of_ble_eq_true rfl) ?_
  have o1 := hr.1.1.1
  have hA := hr.2.2.2.1
  unfold checkP
  cases ha : inN a (nA S) with
  | false =>
    refine J_aload_n dX6_check_0 rfl rfl isR_r ?_
    refine J_iload_n dX6_check_1 rfl rfl ?_
    refine J_callV (c_askOf hr.1 hA hW.1.1.1) dX6_check_2 ml_X6_85 mkX6_askOf rfl (by first | with_reducible assumption | (simp only [hK_sI, hK_sJ, hK_sR, hK_tI, hK_tJ, hK_tR]; with_reducible assumption)) (by decide) rfl rfl (Nat.le_of_ble_eq_true rfl) ⟨Nat.le_of_ble_eq_true rfl, Nat.le_of_ble_eq_true rfl⟩ ⟨Nat.le_of_ble_eq_true rfl, Nat.le_of_ble_eq_true rfl⟩ (fun v2 hp2 q2 => ?_)
    obtain ⟨rfl, z2⟩ := q2
    rw [z2]
    rw [ha]
    refine J_astore dX6_check_5 isR_n (by decide) ?_
    refine J_aload dX6_check_7 rfl isR_n ?_
    refine J_ifnonnull_n dX6_check_9 ?_
    refine J_ldc dX6_check_12 lc_X6_55 ?_
    exact J_ireturn dX6_check_14 rfl ⟨rfl, rfl⟩ (Nat.le_of_ble_eq_true rfl) (Nat.le_of_ble_eq_true rfl)
  | true =>
    rw [if_neg (by decide)]
    have hk := (inN_tn ha).2.1
    have q := hA.2.2.1 _ hk
    have q0 := q.1
    have q10 := q.2.2.2.2.2.2.2.2.2.2.1
    refine J_aload_n dX6_check_0 rfl rfl isR_r ?_
    refine J_iload_n dX6_check_1 rfl rfl ?_
    refine J_callV (c_askOf hr.1 hA hW.1.1.1) dX6_check_2 ml_X6_85 mkX6_askOf rfl (by first | with_reducible assumption | (simp only [hK_sI, hK_sJ, hK_sR, hK_tI, hK_tJ, hK_tR]; with_reducible assumption)) (by decide) rfl rfl (Nat.le_of_ble_eq_true rfl) ⟨Nat.le_of_ble_eq_true rfl, Nat.le_of_ble_eq_true rfl⟩ ⟨Nat.le_of_ble_eq_true rfl, Nat.le_of_ble_eq_true rfl⟩ (fun v2 hp2 q2 => ?_)
    obtain ⟨rfl, z2⟩ := q2
    rw [z2]
    rw [ha]
    refine J_astore dX6_check_5 isR_r (by decide) ?_
    refine J_aload dX6_check_7 rfl isR_r ?_
    refine J_ifnonnull_r (tgt := 15) dX6_check_9 (by decide) ?_
    refine J_aload dX6_check_15 rfl isR_r ?_
    refine J_getI dX6_check_17 g_X6_92 (by first | with_reducible assumption | (simp only [hK_sI, hK_sJ, hK_sR, hK_tI, hK_tJ, hK_tR]; with_reducible assumption)) ?_
    refine J_iconst (v := 1) dX6_check_20 (by decide) ?_
    refine J_pc (pc' := 21) rfl ?_
    refine J_icmp_ne (tgt := 38) dX6_check_21 (by decide) (fun c21 => ?_) (fun c21 => ?_)
    · refine J_iconst (v := 0) dX6_check_38 (by decide) ?_
      exact J_ireturn dX6_check_39 rfl ⟨by rw [if_neg (fun z => c21 (by rw [q10]; exact z.1))], rfl⟩ (Nat.le_of_ble_eq_true rfl) (Nat.le_of_ble_eq_true rfl)
    · refine J_aload dX6_check_24 rfl isR_r ?_
      refine J_callV (c_seal q0) dX6_check_26 ml_X6_226 mkX0_seal rfl (by first | with_reducible assumption | (simp only [hK_sI, hK_sJ, hK_sR, hK_tI, hK_tJ, hK_tR]; with_reducible assumption)) (by decide) rfl rfl (Nat.le_of_ble_eq_true rfl) ⟨Nat.le_of_ble_eq_true rfl, Nat.le_of_ble_eq_true rfl⟩ ⟨Nat.le_of_ble_eq_true rfl, Nat.le_of_ble_eq_true rfl⟩ (fun v26 hp26 q26 => ?_)
      obtain ⟨rfl, z26⟩ := q26
      rw [z26]
      refine J_lload_n dX6_check_29 rfl rfl ?_
      refine J_lcmp dX6_check_30 ?_
      refine J_if_ne (tgt := 38) dX6_check_31 (by decide) (fun c31 => ?_) (fun c31 => ?_)
      · refine J_iconst (v := 0) dX6_check_38 (by decide) ?_
        exact J_ireturn dX6_check_39 rfl ⟨by rw [if_neg (fun z => c31 ((lg_cmp_eq _ _).mpr (by rw [sealH_wit q z.1]; exact z.2)))], rfl⟩ (Nat.le_of_ble_eq_true rfl) (Nat.le_of_ble_eq_true rfl)
      · refine J_iconst (v := 1) dX6_check_34 (by decide) ?_
        refine J_goto (tgt := 39) dX6_check_35 (by decide) ?_
        exact J_ireturn dX6_check_39 rfl ⟨by rw [if_pos ⟨by rw [← q10]; exact c21, by rw [← sealH_wit q (by rw [← q10]; exact c21)]; exact (lg_cmp_eq _ _).mp c31⟩], rfl⟩ (Nat.le_of_ble_eq_true rfl) (Nat.le_of_ble_eq_true rfl)
theorem ac_tn {s a : Int32} (hs : inN s 4 = true) (ha : inN a 6 = true) : tn (6 * s + a) = 6 * tn s + tn a := by
  have h1 := (inN_lin (c := 6) hs ha (by decide)).1
  have h2 := (inN_tn hs).2.1
  have h3 := (inN_tn ha).2.1
  rw [show 6 * s + a = nI (6 * tn s + tn a) from h1, tn_nI (by omega)]
theorem of_tn {s n : Int32} (hs : inN s 4 = true) (hn : inN n 10 = true) : tn (10 * s + n) = 10 * tn s + tn n ∧ 10 * s + n = nI (10 * tn s + tn n) := by
  have h1 := (inN_lin (c := 10) hs hn (by decide)).1
  have h2 := (inN_tn hs).2.1
  have h3 := (inN_tn hn).2.1
  refine ⟨?_, h1⟩
  rw [show 10 * s + n = nI (10 * tn s + tn n) from h1, tn_nI (by omega)]
set_option maxRecDepth 100000 in
set_option maxHeartbeats 4000000 in
theorem c_account {s a : Int32} (hr : Rep w as S h) : Mt x 2 kX6_account 0 0 [.ref (w 0 0), .int s, .int a] h (fun z h' => z = some (.long (accountP S s a)) ∧ h' = h) := by
  refine Mt.ofJ mkX6_account.1 (Nat.le_of_ble_eq_true rfl) ?_
  have o1 := hr.1.1.1
  unfold accountP
  cases hs : inN s 4 with
  | false =>
    refine J_aload_n dX6_account_0 rfl rfl isR_r ?_
    refine J_iload_n dX6_account_1 rfl rfl ?_
    refine J_callV (c_serverOf hr.1) dX6_account_2 ml_X6_51 mkX6_serverOf rfl (by first | with_reducible assumption | (simp only [hK_sI, hK_sJ, hK_sR, hK_tI, hK_tJ, hK_tR]; with_reducible assumption)) (by decide) rfl rfl (Nat.le_of_ble_eq_true rfl) ⟨Nat.le_of_ble_eq_true rfl, Nat.le_of_ble_eq_true rfl⟩ ⟨Nat.le_of_ble_eq_true rfl, Nat.le_of_ble_eq_true rfl⟩ (fun v2 hp2 q2 => ?_)
    obtain ⟨rfl, z2⟩ := q2
    rw [z2]
    rw [hs]
    refine J_astore_n dX6_account_5 rfl isR_n (by decide) ?_
    refine J_aload_n dX6_account_6 rfl rfl isR_n ?_
    refine J_ifnull_n (tgt := 17) dX6_account_7 (by decide) ?_
    refine J_ldc2 dX6_account_17 ll_X6_125 ?_
    exact J_lreturn dX6_account_20 rfl ⟨by rw [if_pos (Or.inl rfl)], rfl⟩ (Nat.le_of_ble_eq_true rfl) (Nat.le_of_ble_eq_true rfl)
  | true =>
    have hs4 := (inN_tn hs).2.1
    have k8 := (hr.1.2.2.2.1 _ hs4).2.1
    refine J_aload_n dX6_account_0 rfl rfl isR_r ?_
    refine J_iload_n dX6_account_1 rfl rfl ?_
    refine J_callV (c_serverOf hr.1) dX6_account_2 ml_X6_51 mkX6_serverOf rfl (by first | with_reducible assumption | (simp only [hK_sI, hK_sJ, hK_sR, hK_tI, hK_tJ, hK_tR]; with_reducible assumption)) (by decide) rfl rfl (Nat.le_of_ble_eq_true rfl) ⟨Nat.le_of_ble_eq_true rfl, Nat.le_of_ble_eq_true rfl⟩ ⟨Nat.le_of_ble_eq_true rfl, Nat.le_of_ble_eq_true rfl⟩ (fun v2 hp2 q2 => ?_)
    obtain ⟨rfl, z2⟩ := q2
    rw [z2]
    rw [hs]
    refine J_astore_n dX6_account_5 rfl isR_r (by decide) ?_
    refine J_aload_n dX6_account_6 rfl rfl isR_r ?_
    refine J_ifnull_r dX6_account_7 ?_
    refine J_iload_n dX6_account_10 rfl rfl ?_
    refine J_callS (c_isAccount) dX6_account_11 ml_X6_56 mkX6_isAccount rfl rfl (Nat.le_of_ble_eq_true rfl) ⟨Nat.le_of_ble_eq_true rfl, Nat.le_of_ble_eq_true rfl⟩ ⟨Nat.le_of_ble_eq_true rfl, Nat.le_of_ble_eq_true rfl⟩ (fun v11 hp11 q11 => ?_)
    obtain ⟨rfl, z11⟩ := q11
    rw [z11]
    refine J_pc (pc' := 14) rfl ?_
    refine J_if_ne (tgt := 21) dX6_account_14 (by decide) (fun c14 => ?_) (fun c14 => ?_)
    · refine J_aload_n dX6_account_21 rfl rfl isR_r ?_
      refine J_iload_n dX6_account_22 rfl rfl ?_
      have ha := bi_1.mp c14
      refine J_callV (c_has hr.1 hs4 ha) dX6_account_23 ml_X6_187 mkX5_has rfl (by first | with_reducible assumption | (simp only [hK_sI, hK_sJ, hK_sR, hK_tI, hK_tJ, hK_tR]; with_reducible assumption)) (by decide) rfl rfl (Nat.le_of_ble_eq_true rfl) ⟨Nat.le_of_ble_eq_true rfl, Nat.le_of_ble_eq_true rfl⟩ ⟨Nat.le_of_ble_eq_true rfl, Nat.le_of_ble_eq_true rfl⟩ (fun v23 hp23 q23 => ?_)
      obtain ⟨rfl, z23⟩ := q23
      rw [z23]
      exact J_lreturn dX6_account_26 rfl ⟨by rw [if_neg (fun z => z.elim (fun q => by cases q) (fun q => by rw [ha] at q; cases q)), hr.2.2.2.2.2.1 _ _ hs4 (inN_tn ha).2.1, ac_tn hs ha], rfl⟩ (Nat.le_of_ble_eq_true rfl) (Nat.le_of_ble_eq_true rfl)
    · refine J_ldc2 dX6_account_17 ll_X6_125 ?_
      exact J_lreturn dX6_account_20 rfl ⟨by rw [if_pos (Or.inr (bi_0.mp c14))], rfl⟩ (Nat.le_of_ble_eq_true rfl) (Nat.le_of_ble_eq_true rfl)
end P1
