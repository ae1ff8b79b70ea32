/-! the class's small methods -/
section C1
variable {x : om_x} {w : om_w} {h : Hp}
set_option maxRecDepth 100000 in
set_option maxHeartbeats 4000000 in
theorem c_endOf {v : Int32} (hC : CS w h) : Mt x 0 kX6_endOf 0 0 [.ref (w 0 0), .int v] h (fun z h' => z = some (va_rf (if inN v 10 then some (w 6 (tn v)) else none)) ∧ h' = h) := by
  refine Mt.ofJ mkX6_endOf.1 (Nat.le_of_ble_eq_true rfl) ?_
  obtain ⟨⟨o1, o2, o3, o4, o5⟩, ⟨⟨e1, e2⟩, -⟩, f1, -⟩ := hC
  refine J_iload_n dX6_endOf_0 rfl rfl ?_
  refine J_if_lt (tgt := 22) dX6_endOf_1 (by decide) (fun c1 => ?_) (fun c1 => ?_)
  · refine J_null dX6_endOf_22 ?_
    exact J_areturn dX6_endOf_23 rfl (Or.inl ⟨_, rfl⟩) isR_n ⟨by rw [inN_neg c1]; rfl, rfl⟩ (Nat.le_of_ble_eq_true rfl) (Nat.le_of_ble_eq_true rfl)
  · refine J_iload_n dX6_endOf_4 rfl rfl ?_
    refine J_aload_n dX6_endOf_5 rfl rfl isR_r ?_
    refine J_getRr dX6_endOf_6 g_X6_11 (by first | with_reducible assumption | (simp only [hK_sI, hK_sJ, hK_sR, hK_tI, hK_tJ, hK_tR]; with_reducible assumption)) (by first | with_reducible assumption | (simp only [hR_sI, hR_sJ, hR_tI, hR_tJ, hR_tR]; with_reducible assumption)) ?_
    refine J_alen dX6_endOf_9 (by first | with_reducible assumption | (simp only [hK_sI, hK_sJ, hK_sR, hK_tI, hK_tJ, hK_tR]; with_reducible assumption)) (by decide) (show nI (hN h (w 1 0)) = nI 10 by rw [e2]) ?_
    refine J_icmp_ge (tgt := 22) dX6_endOf_10 (by decide) (fun c10 => ?_) (fun c10 => ?_)
    · refine J_null dX6_endOf_22 ?_
      exact J_areturn dX6_endOf_23 rfl (Or.inl ⟨_, rfl⟩) isR_n ⟨by rw [inN_big (by decide) c10]; rfl, rfl⟩ (Nat.le_of_ble_eq_true rfl) (Nat.le_of_ble_eq_true rfl)
    · have hi := inN_mid (by decide) c1 c10
      have f2 := (f1 _ (inN_tn hi).2.1).1
      refine J_aload_n dX6_endOf_13 rfl rfl isR_r ?_
      refine J_getRr dX6_endOf_14 g_X6_11 (by first | with_reducible assumption | (simp only [hK_sI, hK_sJ, hK_sR, hK_tI, hK_tJ, hK_tR]; with_reducible assumption)) (by first | with_reducible assumption | (simp only [hR_sI, hR_sJ, hR_tI, hR_tJ, hR_tR]; with_reducible assumption)) ?_
      refine J_iload_n dX6_endOf_17 rfl rfl ?_
      refine J_aaldr dX6_endOf_18 (by first | with_reducible assumption | (simp only [hK_sI, hK_sJ, hK_sR, hK_tI, hK_tJ, hK_tR]; with_reducible assumption)) ⟨by decide, by decide⟩ (show inx v (tn v) (hN h (w 1 0)) by rw [e2]; exact inx_v hi) (by first | with_reducible assumption | (simp only [aR_sI, aR_sJ, aR_sR, aR_tI, aR_tJ]; with_reducible assumption)) ?_
      refine J_goto (tgt := 23) dX6_endOf_19 (by decide) ?_
      exact J_areturn dX6_endOf_23 rfl (Or.inl ⟨_, rfl⟩) isR_r ⟨by rw [hi]; rfl, rfl⟩ (Nat.le_of_ble_eq_true rfl) (Nat.le_of_ble_eq_true rfl)
set_option maxRecDepth 100000 in
set_option maxHeartbeats 4000000 in
theorem c_serverOf {v : Int32} (hC : CS w h) : Mt x 0 kX6_serverOf 0 0 [.ref (w 0 0), .int v] h (fun z h' => z = some (va_rf (if inN v 4 then some (w 8 (tn v)) else none)) ∧ h' = h) := by
  refine Mt.ofJ mkX6_serverOf.1 (Nat.le_of_ble_eq_true rfl) ?_
  obtain ⟨⟨o1, o2, o3, o4, o5⟩, ⟨-, ⟨e1, e2⟩, -⟩, -, f1, -⟩ := hC
  refine J_iload_n dX6_serverOf_0 rfl rfl ?_
  refine J_if_lt (tgt := 22) dX6_serverOf_1 (by decide) (fun c1 => ?_) (fun c1 => ?_)
  · refine J_null dX6_serverOf_22 ?_
    exact J_areturn dX6_serverOf_23 rfl (Or.inl ⟨_, rfl⟩) isR_n ⟨by rw [inN_neg c1]; rfl, rfl⟩ (Nat.le_of_ble_eq_true rfl) (Nat.le_of_ble_eq_true rfl)
  · refine J_iload_n dX6_serverOf_4 rfl rfl ?_
    refine J_aload_n dX6_serverOf_5 rfl rfl isR_r ?_
    refine J_getRr dX6_serverOf_6 g_X6_17 (by first | with_reducible assumption | (simp only [hK_sI, hK_sJ, hK_sR, hK_tI, hK_tJ, hK_tR]; with_reducible assumption)) (by first | with_reducible assumption | (simp only [hR_sI, hR_sJ, hR_tI, hR_tJ, hR_tR]; with_reducible assumption)) ?_
    refine J_alen dX6_serverOf_9 (by first | with_reducible assumption | (simp only [hK_sI, hK_sJ, hK_sR, hK_tI, hK_tJ, hK_tR]; with_reducible assumption)) (by decide) (show nI (hN h (w 2 0)) = nI 4 by rw [e2]) ?_
    refine J_icmp_ge (tgt := 22) dX6_serverOf_10 (by decide) (fun c10 => ?_) (fun c10 => ?_)
    · refine J_null dX6_serverOf_22 ?_
      exact J_areturn dX6_serverOf_23 rfl (Or.inl ⟨_, rfl⟩) isR_n ⟨by rw [inN_big (by decide) c10]; rfl, rfl⟩ (Nat.le_of_ble_eq_true rfl) (Nat.le_of_ble_eq_true rfl)
    · have hi := inN_mid (by decide) c1 c10
      have f2 := (f1 _ (inN_tn hi).2.1).1
      refine J_aload_n dX6_serverOf_13 rfl rfl isR_r ?_
      refine J_getRr dX6_serverOf_14 g_X6_17 (by first | with_reducible assumption | (simp only [hK_sI, hK_sJ, hK_sR, hK_tI, hK_tJ, hK_tR]; with_reducible assumption)) (by first | with_reducible assumption | (simp only [hR_sI, hR_sJ, hR_tI, hR_tJ, hR_tR]; with_reducible assumption)) ?_
      refine J_iload_n dX6_serverOf_17 rfl rfl ?_
      refine J_aaldr dX6_serverOf_18 (by first | with_reducible assumption | (simp only [hK_sI, hK_sJ, hK_sR, hK_tI, hK_tJ, hK_tR]; with_reducible assumption)) ⟨by decide, by decide⟩ (show inx v (tn v) (hN h (w 2 0)) by rw [e2]; exact inx_v hi) (by first | with_reducible assumption | (simp only [aR_sI, aR_sJ, aR_sR, aR_tI, aR_tJ]; with_reducible assumption)) ?_
      refine J_goto (tgt := 23) dX6_serverOf_19 (by decide) ?_
      exact J_areturn dX6_serverOf_23 rfl (Or.inl ⟨_, rfl⟩) isR_r ⟨by rw [hi]; rfl, rfl⟩ (Nat.le_of_ble_eq_true rfl) (Nat.le_of_ble_eq_true rfl)
set_option maxRecDepth 100000 in
set_option maxHeartbeats 4000000 in
theorem c_askOf {as : Nat → Nat} {S : Ms} {v : Int32} (hC : CS w h) (hA : RAsk w as S h) (hn : inN (mI S 453) 301 = true) : Mt x 0 kX6_askOf 0 0 [.ref (w 0 0), .int v] h (fun z h' => z = some (va_rf (if inN v (nA S) then some (as (tn v)) else none)) ∧ h' = h) := by
  refine Mt.ofJ mkX6_askOf.1 (Nat.le_of_ble_eq_true rfl) ?_
  obtain ⟨⟨o1, o2, o3, o4, o5⟩, ⟨-, -, ⟨e1, e2⟩, -⟩, -⟩ := hC
  have hn2 : nA S < 301 := (inN_tn hn).2.1
  refine J_iload_n dX6_askOf_0 rfl rfl ?_
  refine J_if_lt (tgt := 22) dX6_askOf_1 (by decide) (fun c1 => ?_) (fun c1 => ?_)
  · refine J_null dX6_askOf_22 ?_
    exact J_areturn dX6_askOf_23 rfl (Or.inl ⟨_, rfl⟩) isR_n ⟨by rw [inN_neg c1]; rfl, rfl⟩ (Nat.le_of_ble_eq_true rfl) (Nat.le_of_ble_eq_true rfl)
  · refine J_iload_n dX6_askOf_4 rfl rfl ?_
    refine J_aload_n dX6_askOf_5 rfl rfl isR_r ?_
    refine J_getRr dX6_askOf_6 g_X6_23 (by first | with_reducible assumption | (simp only [hK_sI, hK_sJ, hK_sR, hK_tI, hK_tJ, hK_tR]; with_reducible assumption)) (by first | with_reducible assumption | (simp only [hR_sI, hR_sJ, hR_tI, hR_tJ, hR_tR]; with_reducible assumption)) ?_
    refine J_alen dX6_askOf_9 (by first | with_reducible assumption | (simp only [hK_sI, hK_sJ, hK_sR, hK_tI, hK_tJ, hK_tR]; with_reducible assumption)) (by decide) (show nI (hN h (w 3 0)) = nI 300 by rw [e2]) ?_
    refine J_icmp_ge (tgt := 22) dX6_askOf_10 (by decide) (fun c10 => ?_) (fun c10 => ?_)
    · refine J_null dX6_askOf_22 ?_
      exact J_areturn dX6_askOf_23 rfl (Or.inl ⟨_, rfl⟩) isR_n ⟨by rw [show inN v (nA S) = false by cases h9 : inN v (nA S) with | false => rfl | true => exact absurd (inN_le h9 (show nA S ≤ 300 by omega)) (by rw [inN_big (by decide) c10]; decide)]; rfl, rfl⟩ (Nat.le_of_ble_eq_true rfl) (Nat.le_of_ble_eq_true rfl)
    · have hi := inN_mid (by decide) c1 c10
      refine J_aload_n dX6_askOf_13 rfl rfl isR_r ?_
      refine J_getRr dX6_askOf_14 g_X6_23 (by first | with_reducible assumption | (simp only [hK_sI, hK_sJ, hK_sR, hK_tI, hK_tJ, hK_tR]; with_reducible assumption)) (by first | with_reducible assumption | (simp only [hR_sI, hR_sJ, hR_tI, hR_tJ, hR_tR]; with_reducible assumption)) ?_
      refine J_iload_n dX6_askOf_17 rfl rfl ?_
      refine J_aald dX6_askOf_18 (by first | with_reducible assumption | (simp only [hK_sI, hK_sJ, hK_sR, hK_tI, hK_tJ, hK_tR]; with_reducible assumption)) ⟨by decide, by decide⟩ (show inx v (tn v) (hN h (w 3 0)) by rw [e2]; exact inx_v hi) rfl ?_
      refine J_goto (tgt := 23) dX6_askOf_19 (by decide) ?_
      have ht := inN_tn hi
      exact J_areturn dX6_askOf_23 rfl (Or.inl ⟨_, rfl⟩) isR_w ⟨by
       by_cases h9 : tn v < nA S
       · rw [hA.1 _ h9, show inN v (nA S) = true by rw [ht.1]; exact inN_nIlt h9 (by omega)]; rfl
       · rw [hA.2.1 _ (by omega) ht.2.1, show inN v (nA S) = false by rw [ht.1, inN_nI ht.2.2, decide_eq_false_iff_not]; exact h9]; rfl, rfl⟩ (Nat.le_of_ble_eq_true rfl) (Nat.le_of_ble_eq_true rfl)
set_option maxRecDepth 100000 in
set_option maxHeartbeats 4000000 in
theorem c_mem5 {s : Nat} {v : Int32} (hC : CS w h) (hs : s < 4) : Mt x 0 kX5_memoryOf 0 0 [.ref (w 8 s), .int v] h (fun z h' => z = some (va_rf (if inN v 10 then some (w 11 (10 * s + tn v)) else none)) ∧ h' = h) := by
  refine Mt.ofJ mkX5_memoryOf.1 (Nat.le_of_ble_eq_true rfl) ?_
  obtain ⟨-, -, -, f1, f2, -⟩ := hC
  obtain ⟨g1, g2, g3, g4, g5, g6, g7, g8⟩ := f1 s hs
  refine J_iload_n dX5_memoryOf_0 rfl rfl ?_
  refine J_if_lt (tgt := 22) dX5_memoryOf_1 (by decide) (fun c1 => ?_) (fun c1 => ?_)
  · refine J_null dX5_memoryOf_22 ?_
    exact J_areturn dX5_memoryOf_23 rfl (Or.inl ⟨_, rfl⟩) isR_n ⟨by rw [inN_neg c1]; rfl, rfl⟩ (Nat.le_of_ble_eq_true rfl) (Nat.le_of_ble_eq_true rfl)
  · refine J_iload_n dX5_memoryOf_4 rfl rfl ?_
    refine J_aload_n dX5_memoryOf_5 rfl rfl isR_r ?_
    refine J_getRr dX5_memoryOf_6 g_X5_17 (by first | with_reducible assumption | (simp only [hK_sI, hK_sJ, hK_sR, hK_tI, hK_tJ, hK_tR]; with_reducible assumption)) (by first | with_reducible assumption | (simp only [hR_sI, hR_sJ, hR_tI, hR_tJ, hR_tR]; with_reducible assumption)) ?_
    refine J_alen dX5_memoryOf_9 (by first | with_reducible assumption | (simp only [hK_sI, hK_sJ, hK_sR, hK_tI, hK_tJ, hK_tR]; with_reducible assumption)) (by decide) (show nI (hN h (w 10 s)) = nI 10 by rw [g8]) ?_
    refine J_icmp_ge (tgt := 22) dX5_memoryOf_10 (by decide) (fun c10 => ?_) (fun c10 => ?_)
    · refine J_null dX5_memoryOf_22 ?_
      exact J_areturn dX5_memoryOf_23 rfl (Or.inl ⟨_, rfl⟩) isR_n ⟨by rw [inN_big (by decide) c10]; rfl, rfl⟩ (Nat.le_of_ble_eq_true rfl) (Nat.le_of_ble_eq_true rfl)
    · have hi := inN_mid (by decide) c1 c10
      have f3 := f2 s _ hs (inN_tn hi).2.1
      refine J_aload_n dX5_memoryOf_13 rfl rfl isR_r ?_
      refine J_getRr dX5_memoryOf_14 g_X5_17 (by first | with_reducible assumption | (simp only [hK_sI, hK_sJ, hK_sR, hK_tI, hK_tJ, hK_tR]; with_reducible assumption)) (by first | with_reducible assumption | (simp only [hR_sI, hR_sJ, hR_tI, hR_tJ, hR_tR]; with_reducible assumption)) ?_
      refine J_iload_n dX5_memoryOf_17 rfl rfl ?_
      refine J_aaldr dX5_memoryOf_18 (by first | with_reducible assumption | (simp only [hK_sI, hK_sJ, hK_sR, hK_tI, hK_tJ, hK_tR]; with_reducible assumption)) ⟨by decide, by decide⟩ (show inx v (tn v) (hN h (w 10 s)) by rw [g8]; exact inx_v hi) (by first | with_reducible assumption | (simp only [aR_sI, aR_sJ, aR_sR, aR_tI, aR_tJ]; with_reducible assumption)) ?_
      refine J_goto (tgt := 23) dX5_memoryOf_19 (by decide) ?_
      exact J_areturn dX5_memoryOf_23 rfl (Or.inl ⟨_, rfl⟩) isR_r ⟨by rw [hi]; rfl, rfl⟩ (Nat.le_of_ble_eq_true rfl) (Nat.le_of_ble_eq_true rfl)
set_option maxRecDepth 100000 in
set_option maxHeartbeats 4000000 in
theorem c_memoryOf {s n : Int32} (hC : CS w h) : Mt x 1 kX6_memoryOf 0 0 [.ref (w 0 0), .int s, .int n] h (fun z h' => z = some (va_rf (if inN s 4 = true ∧ inN n 10 = true then some (w 11 (10 * tn s + tn n)) else none)) ∧ h' = h) := by
  refine Mt.ofJ mkX6_memoryOf.1 (Nat.le_of_ble_eq_true rfl) ?_
  have o1 := hC.1.1
  cases hs : inN s 4 with
  | false =>
    refine J_aload_n dX6_memoryOf_0 rfl rfl isR_r ?_
    refine J_iload_n dX6_memoryOf_1 rfl rfl ?_
    refine J_callV (c_serverOf hC) dX6_memoryOf_2 ml_X6_51 mkX6_serverOf rfl (by first | with_reducible assumption | (simp only [hK_sI, hK_sJ, hK_sR, hK_tI, hK_tJ, hK_tR]; with_reducible assumption)) (by decide) rfl rfl (Nat.le_of_ble_eq_true rfl) ⟨Nat.le_of_ble_eq_true rfl, Nat.le_of_ble_eq_true rfl⟩ ⟨Nat.le_of_ble_eq_true rfl, Nat.le_of_ble_eq_true rfl⟩ (fun v2 hp2 q2 => ?_)
    obtain ⟨rfl, z2⟩ := q2
    rw [z2]
    rw [hs]
    refine J_astore_n dX6_memoryOf_5 rfl isR_n (by decide) ?_
    refine J_aload_n dX6_memoryOf_6 rfl rfl isR_n ?_
    refine J_ifnonnull_n dX6_memoryOf_7 ?_
    refine J_null dX6_memoryOf_10 ?_
    refine J_goto (tgt := 19) dX6_memoryOf_11 (by decide) ?_
    exact J_areturn dX6_memoryOf_19 rfl (Or.inl ⟨_, rfl⟩) isR_n ⟨by rw [if_neg (fun z => by cases z.1)]; rfl, rfl⟩ (Nat.le_of_ble_eq_true rfl) (Nat.le_of_ble_eq_true rfl)
  | true =>
    have hs4 := (inN_tn hs).2.1
    have k8 := (hC.2.2.2.1 _ hs4).2.1
    refine J_aload_n dX6_memoryOf_0 rfl rfl isR_r ?_
    refine J_iload_n dX6_memoryOf_1 rfl rfl ?_
    refine J_callV (c_serverOf hC) dX6_memoryOf_2 ml_X6_51 mkX6_serverOf rfl (by first | with_reducible assumption | (simp only [hK_sI, hK_sJ, hK_sR, hK_tI, hK_tJ, hK_tR]; with_reducible assumption)) (by decide) rfl rfl (Nat.le_of_ble_eq_true rfl) ⟨Nat.le_of_ble_eq_true rfl, Nat.le_of_ble_eq_true rfl⟩ ⟨Nat.le_of_ble_eq_true rfl, Nat.le_of_ble_eq_true rfl⟩ (fun v2 hp2 q2 => ?_)
    obtain ⟨rfl, z2⟩ := q2
    rw [z2]
    rw [hs]
    refine J_astore_n dX6_memoryOf_5 rfl isR_r (by decide) ?_
    refine J_aload_n dX6_memoryOf_6 rfl rfl isR_r ?_
    refine J_ifnonnull_r (tgt := 14) dX6_memoryOf_7 (by decide) ?_
    refine J_aload_n dX6_memoryOf_14 rfl rfl isR_r ?_
    refine J_iload_n dX6_memoryOf_15 rfl rfl ?_
    refine J_callV (c_mem5 hC hs4) dX6_memoryOf_16 ml_X6_244 mkX5_memoryOf rfl (by first | with_reducible assumption | (simp only [hK_sI, hK_sJ, hK_sR, hK_tI, hK_tJ, hK_tR]; with_reducible assumption)) (by decide) rfl rfl (Nat.le_of_ble_eq_true rfl) ⟨Nat.le_of_ble_eq_true rfl, Nat.le_of_ble_eq_true rfl⟩ ⟨Nat.le_of_ble_eq_true rfl, Nat.le_of_ble_eq_true rfl⟩ (fun v16 hp16 q16 => ?_)
    obtain ⟨rfl, z16⟩ := q16
    rw [z16]
    refine J_pc (pc' := 19) rfl ?_
    exact J_areturn dX6_memoryOf_19 rfl (Or.inl ⟨_, rfl⟩) isR_w ⟨by simp, rfl⟩ (Nat.le_of_ble_eq_true rfl) (Nat.le_of_ble_eq_true rfl)
set_option maxRecDepth 100000 in
set_option maxHeartbeats 4000000 in
theorem c_has {s : Nat} {v : Int32} (hC : CS w h) (hs : s < 4) (hv : inN v 6 = true) : Mt x 0 kX5_has 0 0 [.ref (w 8 s), .int v] h (fun z h' => z = some (.long (aJ h 65 (w 9 s) (tn v))) ∧ h' = h) := by
  refine Mt.ofJ mkX5_has.1 (Nat.le_of_ble_eq_true rfl) ?_
  obtain ⟨-, -, -, f1, -⟩ := hC
  obtain ⟨g1, g2, g3, g4, g5, g6, g7, g8⟩ := f1 s hs
  refine J_iload_n dX5_has_0 rfl rfl ?_
  refine J_if_lt (tgt := 22) dX5_has_1 (by decide) (fun c1 => ((show False by rw [inN_neg c1] at hv; cases hv)).elim) (fun c1 => ?_)
  refine J_iload_n dX5_has_4 rfl rfl ?_
  refine J_aload_n dX5_has_5 rfl rfl isR_r ?_
  refine J_getRr dX5_has_6 g_X5_9 (by first | with_reducible assumption | (simp only [hK_sI, hK_sJ, hK_sR, hK_tI, hK_tJ, hK_tR]; with_reducible assumption)) (by first | with_reducible assumption | (simp only [hR_sI, hR_sJ, hR_tI, hR_tJ, hR_tR]; with_reducible assumption)) ?_
  refine J_alen dX5_has_9 (by first | with_reducible assumption | (simp only [hK_sI, hK_sJ, hK_sR, hK_tI, hK_tJ, hK_tR]; with_reducible assumption)) (by decide) (show nI (hN h (w 9 s)) = nI 6 by rw [g5]) ?_
  refine J_icmp_ge (tgt := 22) dX5_has_10 (by decide) (fun c10 => ((show False by rw [inN_big (by decide) c10] at hv; cases hv)).elim) (fun c10 => ?_)
  refine J_aload_n dX5_has_13 rfl rfl isR_r ?_
  refine J_getRr dX5_has_14 g_X5_9 (by first | with_reducible assumption | (simp only [hK_sI, hK_sJ, hK_sR, hK_tI, hK_tJ, hK_tR]; with_reducible assumption)) (by first | with_reducible assumption | (simp only [hR_sI, hR_sJ, hR_tI, hR_tJ, hR_tR]; with_reducible assumption)) ?_
  refine J_iload_n dX5_has_17 rfl rfl ?_
  refine J_pc (pc' := 18) rfl ?_
  refine J_lald dX5_has_18 (by first | with_reducible assumption | (simp only [hK_sI, hK_sJ, hK_sR, hK_tI, hK_tJ, hK_tR]; with_reducible assumption)) ⟨by decide, by decide⟩ (show inx v (tn v) (hN h (w 9 s)) by rw [g5]; exact inx_v hv) ?_
  refine J_goto (tgt := 23) dX5_has_19 (by decide) ?_
  exact J_lreturn dX5_has_23 rfl ⟨rfl, rfl⟩ (Nat.le_of_ble_eq_true rfl) (Nat.le_of_ble_eq_true rfl)
set_option maxRecDepth 100000 in
set_option maxHeartbeats 4000000 in
theorem c_lets {s : Nat} {v : Int32} {m : Int64} (hC : CS w h) (hs : s < 4) (hv : inN v 6 = true) : Mt x 1 kX5_lets 0 0 [.ref (w 8 s), .int v, .long m] h (fun z h' => z = some (.int (bi (okV (aJ h 65 (w 9 s) (tn v) + m)))) ∧ h' = h) := by
  refine Mt.ofJ mkX5_lets.1 (Nat.le_of_ble_eq_true rfl) ?_
  have g2 := (hC.2.2.2.1 s hs).2.1
  refine J_aload_n dX5_lets_0 rfl rfl isR_r ?_
  refine J_iload_n dX5_lets_1 rfl rfl ?_
  refine J_callV (c_has hC hs hv) dX5_lets_2 ml_X5_24 mkX5_has rfl (by first | with_reducible assumption | (simp only [hK_sI, hK_sJ, hK_sR, hK_tI, hK_tJ, hK_tR]; with_reducible assumption)) (by decide) rfl rfl (Nat.le_of_ble_eq_true rfl) ⟨Nat.le_of_ble_eq_true rfl, Nat.le_of_ble_eq_true rfl⟩ ⟨Nat.le_of_ble_eq_true rfl, Nat.le_of_ble_eq_true rfl⟩ (fun v2 hp2 q2 => ?_)
  obtain ⟨rfl, z2⟩ := q2
  rw [z2]
  refine J_lload_n dX5_lets_5 rfl rfl ?_
  refine J_ladd dX5_lets_6 ?_
  refine J_lstore dX5_lets_7 (by decide) ?_
  refine J_lload dX5_lets_9 rfl ?_
  refine J_lconst (v := 0) dX5_lets_11 (by decide) ?_
  refine J_pc (pc' := 12) rfl ?_
  refine J_lcmp dX5_lets_12 ?_
  refine J_if_lt (tgt := 29) dX5_lets_13 (by decide) (fun c13 => ?_) (fun c13 => ?_)
  · refine J_iconst (v := 0) dX5_lets_29 (by decide) ?_
    exact J_zreturn dX5_lets_30 rfl (by first | exact Or.inl rfl | exact Or.inr rfl | exact bi_01) ⟨by rw [show okV (aJ h 65 (w 9 s) (tn v) + m) = false by unfold okV inL; rw [lg_cmp_lt] at c13; rw [decide_eq_false_iff_not]; intro z; rw [n_lt64] at c13; have := z.1; rw [n_le64] at this; omega]; rfl, rfl⟩ (Nat.le_of_ble_eq_true rfl) (Nat.le_of_ble_eq_true rfl)
  · refine J_lload dX5_lets_16 rfl ?_
    refine J_ldc2 dX5_lets_18 ll_X5_28 ?_
    refine J_lcmp dX5_lets_21 ?_
    refine J_if_gt (tgt := 29) dX5_lets_22 (by decide) (fun c22 => ?_) (fun c22 => ?_)
    · refine J_iconst (v := 0) dX5_lets_29 (by decide) ?_
      exact J_zreturn dX5_lets_30 rfl (by first | exact Or.inl rfl | exact Or.inr rfl | exact bi_01) ⟨by rw [show okV (aJ h 65 (w 9 s) (tn v) + m) = false by unfold okV inL; rw [lg_cmp_gt] at c22; rw [decide_eq_false_iff_not]; intro z; rw [n_lt64] at c22; have := z.2; rw [n_le64] at this; omega]; rfl, rfl⟩ (Nat.le_of_ble_eq_true rfl) (Nat.le_of_ble_eq_true rfl)
    · refine J_iconst (v := 1) dX5_lets_25 (by decide) ?_
      refine J_goto (tgt := 30) dX5_lets_26 (by decide) ?_
      exact J_zreturn dX5_lets_30 rfl (by first | exact Or.inl rfl | exact Or.inr rfl | exact bi_01) ⟨by rw [show okV (aJ h 65 (w 9 s) (tn v) + m) = true by unfold okV inL; rw [lg_cmp_lt] at c13; rw [lg_cmp_gt] at c22; rw [n_lt64] at c13 c22; rw [decide_eq_true_iff, n_le64, n_le64]; omega]; rfl, rfl⟩ (Nat.le_of_ble_eq_true rfl) (Nat.le_of_ble_eq_true rfl)
set_option maxRecDepth 100000 in
set_option maxHeartbeats 4000000 in
theorem c_change {s : Nat} {v : Int32} {m : Int64} (hC : CS w h) (hs : s < 4) (hv : inN v 6 = true) : Mt x 0 kX5_change 0 0 [.ref (w 8 s), .int v, .long m] h (fun z h' => z = none ∧ h' = tJ h 65 (w 9 s) (tn v) (aJ h 65 (w 9 s) (tn v) + m)) := by
  refine Mt.ofJ mkX5_change.1 (Nat.le_of_ble_eq_true rfl) ?_
  obtain ⟨-, -, -, f1, -⟩ := hC
  obtain ⟨g1, g2, g3, g4, g5, g6, g7, g8⟩ := f1 s hs
  have hi : inx v (tn v) (hN h (w 9 s)) := by rw [g5]; exact inx_v hv
  refine J_iload_n dX5_change_0 rfl rfl ?_
  refine J_if_lt (tgt := 23) dX5_change_1 (by decide) (fun c1 => ((show False by rw [inN_neg c1] at hv; cases hv)).elim) (fun c1 => ?_)
  refine J_iload_n dX5_change_4 rfl rfl ?_
  refine J_aload_n dX5_change_5 rfl rfl isR_r ?_
  refine J_getRr dX5_change_6 g_X5_9 (by first | with_reducible assumption | (simp only [hK_sI, hK_sJ, hK_sR, hK_tI, hK_tJ, hK_tR]; with_reducible assumption)) (by first | with_reducible assumption | (simp only [hR_sI, hR_sJ, hR_tI, hR_tJ, hR_tR]; with_reducible assumption)) ?_
  refine J_alen dX5_change_9 (by first | with_reducible assumption | (simp only [hK_sI, hK_sJ, hK_sR, hK_tI, hK_tJ, hK_tR]; with_reducible assumption)) (by decide) (show nI (hN h (w 9 s)) = nI 6 by rw [g5]) ?_
  refine J_icmp_ge (tgt := 23) dX5_change_10 (by decide) (fun c10 => ((show False by rw [inN_big (by decide) c10] at hv; cases hv)).elim) (fun c10 => ?_)
  refine J_aload_n dX5_change_13 rfl rfl isR_r ?_
  refine J_getRr dX5_change_14 g_X5_9 (by first | with_reducible assumption | (simp only [hK_sI, hK_sJ, hK_sR, hK_tI, hK_tJ, hK_tR]; with_reducible assumption)) (by first | with_reducible assumption | (simp only [hR_sI, hR_sJ, hR_tI, hR_tJ, hR_tR]; with_reducible assumption)) ?_
  refine J_iload_n dX5_change_17 rfl rfl ?_
  refine J_pc (pc' := 18) rfl ?_
  refine J_dup2 dX5_change_18 rfl rfl ?_
  refine J_lald dX5_change_19 (by first | with_reducible assumption | (simp only [hK_sI, hK_sJ, hK_sR, hK_tI, hK_tJ, hK_tR]; with_reducible assumption)) ⟨by decide, by decide⟩ hi ?_
  refine J_lload_n dX5_change_20 rfl rfl ?_
  refine J_ladd dX5_change_21 ?_
  refine J_last dX5_change_22 (by first | with_reducible assumption | (simp only [hK_sI, hK_sJ, hK_sR, hK_tI, hK_tJ, hK_tR]; with_reducible assumption)) ⟨by decide, by decide⟩ hi ?_
  exact J_return dX5_change_23 rfl ⟨rfl, rfl⟩ (Nat.le_of_ble_eq_true rfl) (Nat.le_of_ble_eq_true rfl)
set_option maxRecDepth 100000 in
set_option maxHeartbeats 4000000 in
theorem c_isAccount {v : Int32} : Mt x 0 kX6_isAccount 0 0 [.int v] h (fun z h' => z = some (.int (bi (inN v 6))) ∧ h' = h) := by
  refine Mt.ofJ mkX6_isAccount.1 (Nat.le_of_ble_eq_true rfl) ?_
  refine J_iload_n dX6_isAccount_0 rfl rfl ?_
  refine J_if_lt (tgt := 14) dX6_isAccount_1 (by decide) (fun c1 => ?_) (fun c1 => ?_)
  · refine J_iconst (v := 0) dX6_isAccount_14 (by decide) ?_
    exact J_zreturn dX6_isAccount_15 rfl (by first | exact Or.inl rfl | exact Or.inr rfl | exact bi_01) ⟨by rw [inN_neg c1]; rfl, rfl⟩ (Nat.le_of_ble_eq_true rfl) (Nat.le_of_ble_eq_true rfl)
  · refine J_iload_n dX6_isAccount_4 rfl rfl ?_
    refine J_bipush (v := 6) dX6_isAccount_5 (by decide) ?_
    refine J_icmp_ge (tgt := 14) dX6_isAccount_7 (by decide) (fun c7 => ?_) (fun c7 => ?_)
    · refine J_iconst (v := 0) dX6_isAccount_14 (by decide) ?_
      exact J_zreturn dX6_isAccount_15 rfl (by first | exact Or.inl rfl | exact Or.inr rfl | exact bi_01) ⟨by rw [inN_big (n := 6) (by decide) c7]; rfl, rfl⟩ (Nat.le_of_ble_eq_true rfl) (Nat.le_of_ble_eq_true rfl)
    · refine J_iconst (v := 1) dX6_isAccount_10 (by decide) ?_
      refine J_goto (tgt := 15) dX6_isAccount_11 (by decide) ?_
      exact J_zreturn dX6_isAccount_15 rfl (by first | exact Or.inl rfl | exact Or.inr rfl | exact bi_01) ⟨by rw [inN_mid (n := 6) (by decide) c1 c7]; rfl, rfl⟩ (Nat.le_of_ble_eq_true rfl) (Nat.le_of_ble_eq_true rfl)
set_option maxRecDepth 100000 in
set_option maxHeartbeats 4000000 in
theorem c_idOf_n : Mt x 0 kX6_idOf 0 0 [.null] h (fun z h' => z = some (.int (-1)) ∧ h' = h) := by
  refine Mt.ofJ mkX6_idOf.1 (Nat.le_of_ble_eq_true rfl) ?_
  refine J_aload_n dX6_idOf_0 rfl rfl isR_n ?_
  refine J_ifnonnull_n dX6_idOf_1 ?_
  refine J_iconst (v := -1) dX6_idOf_4 (by decide) ?_
  refine J_goto (tgt := 12) dX6_idOf_5 (by decide) ?_
  exact J_ireturn dX6_idOf_12 rfl ⟨rfl, rfl⟩ (Nat.le_of_ble_eq_true rfl) (Nat.le_of_ble_eq_true rfl)
set_option maxRecDepth 100000 in
set_option maxHeartbeats 4000000 in
theorem c_idOf_r {a : Nat} (hk : hK h a = 1) : Mt x 0 kX6_idOf 0 0 [.ref a] h (fun z h' => z = some (.int (hI h 0 a)) ∧ h' = h) := by
  refine Mt.ofJ mkX6_idOf.1 (Nat.le_of_ble_eq_true rfl) ?_
  refine J_aload_n dX6_idOf_0 rfl rfl isR_r ?_
  refine J_ifnonnull_r (tgt := 8) dX6_idOf_1 (by decide) ?_
  refine J_aload_n dX6_idOf_8 rfl rfl isR_r ?_
  refine J_getI dX6_idOf_9 g_X6_82 (by first | with_reducible assumption | (simp only [hK_sI, hK_sJ, hK_sR, hK_tI, hK_tJ, hK_tR]; with_reducible assumption)) ?_
  exact J_ireturn dX6_idOf_12 rfl ⟨rfl, rfl⟩ (Nat.le_of_ble_eq_true rfl) (Nat.le_of_ble_eq_true rfl)
set_option maxRecDepth 100000 in
set_option maxHeartbeats 4000000 in
theorem c_isOpen_n : Mt x 0 kX1_isOpen 0 0 [.null] h (fun z h' => z = some (.int (bi false)) ∧ h' = h) := by
  refine Mt.ofJ mkX1_isOpen.1 (Nat.le_of_ble_eq_true rfl) ?_
  refine J_aload_n dX1_isOpen_0 rfl rfl isR_n ?_
  refine J_ifnull_n (tgt := 15) dX1_isOpen_1 (by decide) ?_
  refine J_iconst (v := 0) dX1_isOpen_15 (by decide) ?_
  exact J_zreturn dX1_isOpen_16 rfl (by first | exact Or.inl rfl | exact Or.inr rfl | exact bi_01) ⟨rfl, rfl⟩ (Nat.le_of_ble_eq_true rfl) (Nat.le_of_ble_eq_true rfl)
set_option maxRecDepth 100000 in
set_option maxHeartbeats 4000000 in
theorem c_isOpen_r {a : Nat} (hk : hK h a = 1) : Mt x 0 kX1_isOpen 0 0 [.ref a] h (fun z h' => z = some (.int (bi (decide (hI h 10 a = 0)))) ∧ h' = h) := by
  refine Mt.ofJ mkX1_isOpen.1 (Nat.le_of_ble_eq_true rfl) ?_
  refine J_aload_n dX1_isOpen_0 rfl rfl isR_r ?_
  refine J_ifnull_r dX1_isOpen_1 ?_
  refine J_aload_n dX1_isOpen_4 rfl rfl isR_r ?_
  refine J_getI dX1_isOpen_5 g_X1_38 (by first | with_reducible assumption | (simp only [hK_sI, hK_sJ, hK_sR, hK_tI, hK_tJ, hK_tR]; with_reducible assumption)) ?_
  refine J_if_ne (tgt := 15) dX1_isOpen_8 (by decide) (fun c8 => ?_) (fun c8 => ?_)
  · refine J_iconst (v := 0) dX1_isOpen_15 (by decide) ?_
    exact J_zreturn dX1_isOpen_16 rfl (by first | exact Or.inl rfl | exact Or.inr rfl | exact bi_01) ⟨by rw [decide_eq_false c8]; rfl, rfl⟩ (Nat.le_of_ble_eq_true rfl) (Nat.le_of_ble_eq_true rfl)
  · refine J_iconst (v := 1) dX1_isOpen_11 (by decide) ?_
    refine J_goto (tgt := 16) dX1_isOpen_12 (by decide) ?_
    exact J_zreturn dX1_isOpen_16 rfl (by first | exact Or.inl rfl | exact Or.inr rfl | exact bi_01) ⟨by rw [decide_eq_true c8]; rfl, rfl⟩ (Nat.le_of_ble_eq_true rfl) (Nat.le_of_ble_eq_true rfl)
set_option maxRecDepth 100000 in
set_option maxHeartbeats 4000000 in
theorem c_close {a : Nat} {v : Int64} (hk : hK h a = 1) : Mt x 0 kX0_close 0 0 [.ref a, .long v] h (fun z h' => z = none ∧ h' = sJ (sI h 10 a 1) 11 a v) := by
  refine Mt.ofJ mkX0_close.1 (Nat.le_of_ble_eq_true rfl) ?_
  refine J_aload_n dX0_close_0 rfl rfl isR_r ?_
  refine J_iconst (v := 1) dX0_close_1 (by decide) ?_
  refine J_putI dX0_close_2 p_X0_9 (by first | with_reducible assumption | (simp only [hK_sI, hK_sJ, hK_sR, hK_tI, hK_tJ, hK_tR]; with_reducible assumption)) ?_
  refine J_aload_n dX0_close_5 rfl rfl isR_r ?_
  refine J_lload_n dX0_close_6 rfl rfl ?_
  refine J_putJ dX0_close_7 p_X0_27 (by first | with_reducible assumption | (simp only [hK_sI, hK_sJ, hK_sR, hK_tI, hK_tJ, hK_tR]; with_reducible assumption)) ?_
  exact J_return dX0_close_10 rfl ⟨rfl, rfl⟩ (Nat.le_of_ble_eq_true rfl) (Nat.le_of_ble_eq_true rfl)
def sealH (h : Hp) (a : Nat) : Int64 := 31 * (31 * (31 * (31 * (31 * (31 * 17 + (hI h 1 a).toInt64) + (hI h 2 a).toInt64) + (hI h 3 a).toInt64) + (hI h 4 a).toInt64) + (hI h 5 a).toInt64) + hJ h 11 a
set_option maxRecDepth 100000 in
set_option maxHeartbeats 4000000 in
theorem c_seal {a : Nat} (hk : hK h a = 1) : Mt x 0 kX0_seal 0 0 [.ref a] h (fun z h' => z = some (.long (sealH h a)) ∧ h' = h) := by
  refine Mt.ofJ mkX0_seal.1 (Nat.le_of_ble_eq_true rfl) ?_
  refine J_ldc2 dX0_seal_0 ll_X0_31 ?_
  refine J_lstore_n dX0_seal_3 rfl (by decide) ?_
  refine J_ldc2 dX0_seal_4 ll_X0_33 ?_
  refine J_lload_n dX0_seal_7 rfl rfl ?_
  refine J_lmul dX0_seal_8 ?_
  refine J_aload_n dX0_seal_9 rfl rfl isR_r ?_
  refine J_getI dX0_seal_10 g_X0_18 (by first | with_reducible assumption | (simp only [hK_sI, hK_sJ, hK_sR, hK_tI, hK_tJ, hK_tR]; with_reducible assumption)) ?_
  refine J_i2l dX0_seal_13 ?_
  refine J_pc (pc' := 14) rfl ?_
  refine J_ladd dX0_seal_14 ?_
  refine J_lstore_n dX0_seal_15 rfl (by decide) ?_
  refine J_ldc2 dX0_seal_16 ll_X0_33 ?_
  refine J_lload_n dX0_seal_19 rfl rfl ?_
  refine J_lmul dX0_seal_20 ?_
  refine J_aload_n dX0_seal_21 rfl rfl isR_r ?_
  refine J_getI dX0_seal_22 g_X0_21 (by first | with_reducible assumption | (simp only [hK_sI, hK_sJ, hK_sR, hK_tI, hK_tJ, hK_tR]; with_reducible assumption)) ?_
  refine J_i2l dX0_seal_25 ?_
  refine J_pc (pc' := 26) rfl ?_
  refine J_ladd dX0_seal_26 ?_
  refine J_lstore_n dX0_seal_27 rfl (by decide) ?_
  refine J_ldc2 dX0_seal_28 ll_X0_33 ?_
  refine J_lload_n dX0_seal_31 rfl rfl ?_
  refine J_lmul dX0_seal_32 ?_
  refine J_aload_n dX0_seal_33 rfl rfl isR_r ?_
  refine J_getI dX0_seal_34 g_X0_24 (by first | with_reducible assumption | (simp only [hK_sI, hK_sJ, hK_sR, hK_tI, hK_tJ, hK_tR]; with_reducible assumption)) ?_
  refine J_i2l dX0_seal_37 ?_
  refine J_pc (pc' := 38) rfl ?_
  refine J_ladd dX0_seal_38 ?_
  refine J_lstore_n dX0_seal_39 rfl (by decide) ?_
  refine J_ldc2 dX0_seal_40 ll_X0_33 ?_
  refine J_lload_n dX0_seal_43 rfl rfl ?_
  refine J_lmul dX0_seal_44 ?_
  refine J_aload_n dX0_seal_45 rfl rfl isR_r ?_
  refine J_getI dX0_seal_46 g_X0_35 (by first | with_reducible assumption | (simp only [hK_sI, hK_sJ, hK_sR, hK_tI, hK_tJ, hK_tR]; with_reducible assumption)) ?_
  refine J_i2l dX0_seal_49 ?_
  refine J_pc (pc' := 50) rfl ?_
  refine J_ladd dX0_seal_50 ?_
  refine J_lstore_n dX0_seal_51 rfl (by decide) ?_
  refine J_ldc2 dX0_seal_52 ll_X0_33 ?_
  refine J_lload_n dX0_seal_55 rfl rfl ?_
  refine J_lmul dX0_seal_56 ?_
  refine J_aload_n dX0_seal_57 rfl rfl isR_r ?_
  refine J_getI dX0_seal_58 g_X0_38 (by first | with_reducible assumption | (simp only [hK_sI, hK_sJ, hK_sR, hK_tI, hK_tJ, hK_tR]; with_reducible assumption)) ?_
  refine J_i2l dX0_seal_61 ?_
  refine J_pc (pc' := 62) rfl ?_
  refine J_ladd dX0_seal_62 ?_
  refine J_lstore_n dX0_seal_63 rfl (by decide) ?_
  refine J_ldc2 dX0_seal_64 ll_X0_33 ?_
  refine J_lload_n dX0_seal_67 rfl rfl ?_
  refine J_lmul dX0_seal_68 ?_
  refine J_aload_n dX0_seal_69 rfl rfl isR_r ?_
  refine J_getJ dX0_seal_70 g_X0_27 (by first | with_reducible assumption | (simp only [hK_sI, hK_sJ, hK_sR, hK_tI, hK_tJ, hK_tR]; with_reducible assumption)) ?_
  refine J_ladd dX0_seal_73 ?_
  refine J_pc (pc' := 74) rfl ?_
  exact J_lreturn dX0_seal_74 rfl ⟨rfl, rfl⟩ (Nat.le_of_ble_eq_true rfl) (Nat.le_of_ble_eq_true rfl)
/-- an ask's letter, an answer's, an OVER's -/
def asksH (h : Hp) (a k : Nat) (v : Int32) : Hp := sJ (sI (sI (sI (sI (sR h 128 a (some k)) 129 a 0) 130 a 0) 131 a 0) 132 a v) 133 a 0
def repliesH (h : Hp) (a k : Nat) (v : Int64) : Hp := sJ (sI (asksH h a k 0) 129 a 1) 133 a v
def refusesH (h : Hp) (a k : Nat) : Hp := sI (repliesH h a k 0) 130 a 1
def bcm (h : Hp) (f a b : Nat) : Hp := sI h f a (hI h f b)
def becomeH (h : Hp) (a b k : Nat) : Hp := sJ (bcm (bcm (bcm (bcm (sR h 128 a (some k)) 129 a b) 130 a b) 131 a b) 132 a b) 133 a (hJ (bcm (bcm (bcm (bcm (sR h 128 a (some k)) 129 a b) 130 a b) 131 a b) 132 a b) 133 b)
theorem bcm_ne (h : Hp) (f a b : Nat) {g : Nat} (c : Nat) (hg : g ≠ f) : hI (bcm h f a b) g c = hI h g c := by
  unfold bcm
  rw [hI_sI, if_neg (fun z => hg z.1)]
theorem hK_asksH (h : Hp) (a k : Nat) (v : Int32) : hK (asksH h a k v) = hK h := by unfold asksH; simp only [hK_sI, hK_sJ, hK_sR]
theorem hK_repliesH (h : Hp) (a k : Nat) (v : Int64) : hK (repliesH h a k v) = hK h := by unfold repliesH; simp only [hK_sI, hK_sJ, hK_asksH]
set_option maxRecDepth 100000 in
set_option maxHeartbeats 4000000 in
theorem c_asks {a k : Nat} {v : Int32} (hk : hK h a = 3) : Mt x 0 kX2_asks 0 0 [.ref a, .ref k, .int v] h (fun z h' => z = none ∧ h' = asksH h a k v) := by
  refine Mt.ofJ mkX2_asks.1 (Nat.le_of_ble_eq_true rfl) ?_
  refine J_aload_n dX2_asks_0 rfl rfl isR_r ?_
  refine J_aload_n dX2_asks_1 rfl rfl isR_r ?_
  refine J_putRr dX2_asks_2 p_X2_7 (Or.inl ⟨_, rfl⟩) (by first | with_reducible assumption | (simp only [hK_sI, hK_sJ, hK_sR, hK_tI, hK_tJ, hK_tR]; with_reducible assumption)) ?_
  refine J_aload_n dX2_asks_5 rfl rfl isR_r ?_
  refine J_iconst (v := 0) dX2_asks_6 (by decide) ?_
  refine J_putZ dX2_asks_7 p_X2_13 (by first | with_reducible assumption | (simp only [hK_sI, hK_sJ, hK_sR, hK_tI, hK_tJ, hK_tR]; with_reducible assumption)) (by first | exact Or.inl rfl | exact Or.inr rfl) ?_
  refine J_aload_n dX2_asks_10 rfl rfl isR_r ?_
  refine J_iconst (v := 0) dX2_asks_11 (by decide) ?_
  refine J_pc (pc' := 12) rfl ?_
  refine J_putZ dX2_asks_12 p_X2_17 (by first | with_reducible assumption | (simp only [hK_sI, hK_sJ, hK_sR, hK_tI, hK_tJ, hK_tR]; with_reducible assumption)) (by first | exact Or.inl rfl | exact Or.inr rfl) ?_
  refine J_aload_n dX2_asks_15 rfl rfl isR_r ?_
  refine J_iconst (v := 0) dX2_asks_16 (by decide) ?_
  refine J_putZ dX2_asks_17 p_X2_20 (by first | with_reducible assumption | (simp only [hK_sI, hK_sJ, hK_sR, hK_tI, hK_tJ, hK_tR]; with_reducible assumption)) (by first | exact Or.inl rfl | exact Or.inr rfl) ?_
  refine J_aload_n dX2_asks_20 rfl rfl isR_r ?_
  refine J_iload_n dX2_asks_21 rfl rfl ?_
  refine J_putI dX2_asks_22 p_X2_23 (by first | with_reducible assumption | (simp only [hK_sI, hK_sJ, hK_sR, hK_tI, hK_tJ, hK_tR]; with_reducible assumption)) ?_
  refine J_aload_n dX2_asks_25 rfl rfl isR_r ?_
  refine J_pc (pc' := 26) rfl ?_
  refine J_lconst (v := 0) dX2_asks_26 (by decide) ?_
  refine J_putJ dX2_asks_27 p_X2_27 (by first | with_reducible assumption | (simp only [hK_sI, hK_sJ, hK_sR, hK_tI, hK_tJ, hK_tR]; with_reducible assumption)) ?_
  exact J_return dX2_asks_30 rfl ⟨rfl, rfl⟩ (Nat.le_of_ble_eq_true rfl) (Nat.le_of_ble_eq_true rfl)
set_option maxRecDepth 100000 in
set_option maxHeartbeats 4000000 in
theorem c_replies {a k : Nat} {v : Int64} (hk : hK h a = 3) : Mt x 1 kX2_replies 0 0 [.ref a, .ref k, .long v] h (fun z h' => z = none ∧ h' = repliesH h a k v) := by
  refine Mt.ofJ mkX2_replies.1 (Nat.le_of_ble_eq_true rfl) ?_
  refine J_aload_n dX2_replies_0 rfl rfl isR_r ?_
  refine J_aload_n dX2_replies_1 rfl rfl isR_r ?_
  refine J_iconst (v := 0) dX2_replies_2 (by decide) ?_
  refine J_callV (c_asks hk) dX2_replies_3 ml_X2_31 mkX2_asks rfl (by first | with_reducible assumption | (simp only [hK_sI, hK_sJ, hK_sR, hK_tI, hK_tJ, hK_tR]; with_reducible assumption)) (by decide) rfl rfl (Nat.le_of_ble_eq_true rfl) ⟨Nat.le_of_ble_eq_true rfl, Nat.le_of_ble_eq_true rfl⟩ ⟨Nat.le_of_ble_eq_true rfl, Nat.le_of_ble_eq_true rfl⟩ (fun v3 hp3 q3 => ?_)
  obtain ⟨rfl, z3⟩ := q3
  rw [z3]
  have hk : hK (asksH h a k 0) a = 3 := by rw [hK_asksH]; exact hk
  refine J_aload_n dX2_replies_6 rfl rfl isR_r ?_
  refine J_iconst (v := 1) dX2_replies_7 (by decide) ?_
  refine J_putZ dX2_replies_8 p_X2_13 (by first | with_reducible assumption | (simp only [hK_sI, hK_sJ, hK_sR, hK_tI, hK_tJ, hK_tR]; with_reducible assumption)) (by first | exact Or.inl rfl | exact Or.inr rfl) ?_
  refine J_aload_n dX2_replies_11 rfl rfl isR_r ?_
  refine J_pc (pc' := 12) rfl ?_
  refine J_lload_n dX2_replies_12 rfl rfl ?_
  refine J_putJ dX2_replies_13 p_X2_27 (by first | with_reducible assumption | (simp only [hK_sI, hK_sJ, hK_sR, hK_tI, hK_tJ, hK_tR]; with_reducible assumption)) ?_
  exact J_return dX2_replies_16 rfl ⟨rfl, rfl⟩ (Nat.le_of_ble_eq_true rfl) (Nat.le_of_ble_eq_true rfl)
set_option maxRecDepth 100000 in
set_option maxHeartbeats 4000000 in
theorem c_refuses {a k : Nat} (hk : hK h a = 3) : Mt x 2 kX2_refuses 0 0 [.ref a, .ref k] h (fun z h' => z = none ∧ h' = refusesH h a k) := by
  refine Mt.ofJ mkX2_refuses.1 (Nat.le_of_ble_eq_true rfl) ?_
  refine J_aload_n dX2_refuses_0 rfl rfl isR_r ?_
  refine J_aload_n dX2_refuses_1 rfl rfl isR_r ?_
  refine J_lconst (v := 0) dX2_refuses_2 (by decide) ?_
  refine J_callV (c_replies hk) dX2_refuses_3 ml_X2_35 mkX2_replies rfl (by first | with_reducible assumption | (simp only [hK_sI, hK_sJ, hK_sR, hK_tI, hK_tJ, hK_tR]; with_reducible assumption)) (by decide) rfl rfl (Nat.le_of_ble_eq_true rfl) ⟨Nat.le_of_ble_eq_true rfl, Nat.le_of_ble_eq_true rfl⟩ ⟨Nat.le_of_ble_eq_true rfl, Nat.le_of_ble_eq_true rfl⟩ (fun v3 hp3 q3 => ?_)
  obtain ⟨rfl, z3⟩ := q3
  rw [z3]
  have hk : hK (repliesH h a k 0) a = 3 := by rw [hK_repliesH]; exact hk
  refine J_aload_n dX2_refuses_6 rfl rfl isR_r ?_
  refine J_iconst (v := 1) dX2_refuses_7 (by decide) ?_
  refine J_putZ dX2_refuses_8 p_X2_17 (by first | with_reducible assumption | (simp only [hK_sI, hK_sJ, hK_sR, hK_tI, hK_tJ, hK_tR]; with_reducible assumption)) (by first | exact Or.inl rfl | exact Or.inr rfl) ?_
  exact J_return dX2_refuses_11 rfl ⟨rfl, rfl⟩ (Nat.le_of_ble_eq_true rfl) (Nat.le_of_ble_eq_true rfl)
set_option maxRecDepth 100000 in
set_option maxHeartbeats 4000000 in
theorem c_become {a b k : Nat} (hk : hK h a = 3) (hb : hK h b = 3) (hr : hR h 128 b = some k) (hab : a ≠ b) (z9 : hI h 129 b = 0 ∨ hI h 129 b = 1) (z0 : hI h 130 b = 0 ∨ hI h 130 b = 1) (z1 : hI h 131 b = 0 ∨ hI h 131 b = 1) : Mt x 0 kX2_become 0 0 [.ref a, .ref b] h (fun z h' => z = none ∧ h' = becomeH h a b k) := by
  refine Mt.ofJ mkX2_become.1 (Nat.le_of_ble_eq_true rfl) ?_
  refine J_aload_n dX2_become_0 rfl rfl isR_r ?_
  refine J_aload_n dX2_become_1 rfl rfl isR_r ?_
  refine J_getRr dX2_become_2 g_X2_7 (by first | with_reducible assumption | (simp only [hK_sI, hK_sJ, hK_sR, hK_tI, hK_tJ, hK_tR]; with_reducible assumption)) (by first | with_reducible assumption | (simp only [hR_sI, hR_sJ, hR_tI, hR_tJ, hR_tR]; with_reducible assumption)) ?_
  refine J_putRr dX2_become_5 p_X2_7 (Or.inl ⟨_, rfl⟩) (by first | with_reducible assumption | (simp only [hK_sI, hK_sJ, hK_sR, hK_tI, hK_tJ, hK_tR]; with_reducible assumption)) ?_
  refine J_aload_n dX2_become_8 rfl rfl isR_r ?_
  refine J_aload_n dX2_become_9 rfl rfl isR_r ?_
  refine J_getI dX2_become_10 g_X2_13 (by first | with_reducible assumption | (simp only [hK_sI, hK_sJ, hK_sR, hK_tI, hK_tJ, hK_tR]; with_reducible assumption)) ?_
  refine J_putZ dX2_become_13 p_X2_13 (by first | with_reducible assumption | (simp only [hK_sI, hK_sJ, hK_sR, hK_tI, hK_tJ, hK_tR]; with_reducible assumption)) z9 ?_
  refine J_pc (pc' := 16) rfl ?_
  refine J_aload_n dX2_become_16 rfl rfl isR_r ?_
  refine J_aload_n dX2_become_17 rfl rfl isR_r ?_
  refine J_getI dX2_become_18 g_X2_17 (by first | with_reducible assumption | (simp only [hK_sI, hK_sJ, hK_sR, hK_tI, hK_tJ, hK_tR]; with_reducible assumption)) ?_
  have z0 : hI (sI (sR h 128 a (some k)) 129 a (hI (sR h 128 a (some k)) 129 b)) 130 b = 0 ∨ hI (sI (sR h 128 a (some k)) 129 a (hI (sR h 128 a (some k)) 129 b)) 130 b = 1 := by rw [hI_sI, if_neg (fun z => absurd z.1 (by decide)), hI_sR]; exact z0
  refine J_putZ dX2_become_21 p_X2_17 (by first | with_reducible assumption | (simp only [hK_sI, hK_sJ, hK_sR, hK_tI, hK_tJ, hK_tR]; with_reducible assumption)) z0 ?_
  refine J_aload_n dX2_become_24 rfl rfl isR_r ?_
  refine J_aload_n dX2_become_25 rfl rfl isR_r ?_
  refine J_getI dX2_become_26 g_X2_20 (by first | with_reducible assumption | (simp only [hK_sI, hK_sJ, hK_sR, hK_tI, hK_tJ, hK_tR]; with_reducible assumption)) ?_
  have z1 : ∀ v u, hI (sI (sI (sR h 128 a (some k)) 129 a v) 130 a u) 131 b = 0 ∨ hI (sI (sI (sR h 128 a (some k)) 129 a v) 130 a u) 131 b = 1 := fun v u => by rw [hI_sI, if_neg (fun z => absurd z.1 (by decide)), hI_sI, if_neg (fun z => absurd z.1 (by decide)), hI_sR]; exact z1
  refine J_putZ dX2_become_29 p_X2_20 (by first | with_reducible assumption | (simp only [hK_sI, hK_sJ, hK_sR, hK_tI, hK_tJ, hK_tR]; with_reducible assumption)) (z1 _ _) ?_
  refine J_pc (pc' := 32) rfl ?_
  refine J_aload_n dX2_become_32 rfl rfl isR_r ?_
  refine J_aload_n dX2_become_33 rfl rfl isR_r ?_
  refine J_getI dX2_become_34 g_X2_23 (by first | with_reducible assumption | (simp only [hK_sI, hK_sJ, hK_sR, hK_tI, hK_tJ, hK_tR]; with_reducible assumption)) ?_
  refine J_putI dX2_become_37 p_X2_23 (by first | with_reducible assumption | (simp only [hK_sI, hK_sJ, hK_sR, hK_tI, hK_tJ, hK_tR]; with_reducible assumption)) ?_
  refine J_aload_n dX2_become_40 rfl rfl isR_r ?_
  refine J_aload_n dX2_become_41 rfl rfl isR_r ?_
  refine J_getJ dX2_become_42 g_X2_27 (by first | with_reducible assumption | (simp only [hK_sI, hK_sJ, hK_sR, hK_tI, hK_tJ, hK_tR]; with_reducible assumption)) ?_
  refine J_putJ dX2_become_45 p_X2_27 (by first | with_reducible assumption | (simp only [hK_sI, hK_sJ, hK_sR, hK_tI, hK_tJ, hK_tR]; with_reducible assumption)) ?_
  refine J_pc (pc' := 48) rfl ?_
  exact J_return dX2_become_48 rfl ⟨rfl, rfl⟩ (Nat.le_of_ble_eq_true rfl) (Nat.le_of_ble_eq_true rfl)
end C1
