/-! ADD and MOVE -/
section AM
variable {x : om_x} {w : om_w} {h h' : Hp} {as : Nat → Nat} {S S' : Ms} {g : Nat}
theorem neg64 {v : Int32} (h1 : -1000000 ≤ v.toInt) (h2 : v.toInt ≤ 1000000) : (0 - v).toInt64 = 0 - v.toInt64 := by
  rw [Int32.zero_sub]
  apply Int64.toInt_inj.mp
  rw [Int32.toInt_toInt64, Int32.toInt_neg, Int64.toInt_sub, Int32.toInt_toInt64]
  have e : (0 : Int64).toInt = 0 := by decide
  rw [e]
  unfold Int.bmod
  simp only []
  split <;> split <;> omega
theorem add_z64 (a b : Int64) : a + (0 - b) = a - b := by rw [Int64.zero_sub, ← Int64.sub_eq_add_neg]
theorem RSrv.s (e : ∀ j, mJ S' 452 j = mJ S 452 j) (r : RSrv w S h) : RSrv w S' h := fun s a hs ha => by rw [e]; exact r s a hs ha
theorem RSrv.hp (e : aJ h' = aJ h) (r : RSrv w S h) : RSrv w S h' := fun s a hs ha => by rw [e]; exact r s a hs ha
theorem moved_S {sv ask a : Int32} : SX [452, 467] S (movedF S sv ask a) := (SX_pT (by decide)).tr ((SX_pJ (by decide)).tr (SX_pJ (by decide)))
theorem moved_467 {sv ask a : Int32} (j : Nat) : mT (movedF S sv ask a) 467 j = if j = tn ask then 1 else mT S 467 j := by
  unfold movedF
  simp [mT_pJ, mT_pT]
/-- what an ASK says of itself, for the walks -/
def AkF (as : Nat → Nat) (S : Ms) (h : Hp) (k : Nat) : Prop := hK h (as k) = 1 ∧ hI h 1 (as k) = mT S 454 k ∧ hI h 6 (as k) = mT S 459 k ∧ hI h 9 (as k) = mT S 462 k
theorem moved_ne3 {sv ask a : Int32} : mT (movedF S sv ask a) 458 = mT S 458 := (moved_S 458 (by decide)).2.1
set_option maxRecDepth 100000 in
set_option maxHeartbeats 4000000 in
theorem c_add {k : Int32} (hr : Rep w as S h) (hI1 : Inj w) (hW : WF1 S) (hk : inN k (nA S) = true) (hkd : mT S 458 (tn k) = 1) : Mt x 2 kX6_add 0 0 [.ref (w 0 0), .ref (w 8 (tn (mT S 457 (tn k)))), .ref (as (tn k))] h (fun z h' => if letF S (mT S 457 (tn k)) k (6 * mT S 457 (tn k) + mT S 459 (tn k)) = false then z = some (.long (-1)) ∧ h' = h else z = some (.long (mJ (movedF S (mT S 457 (tn k)) k (6 * mT S 457 (tn k) + mT S 459 (tn k))) 452 (tn (6 * mT S 457 (tn k) + mT S 459 (tn k))))) ∧ Rep w as (movedF S (mT S 457 (tn k)) k (6 * mT S 457 (tn k) + mT S 459 (tn k))) h' ∧ HX [12, 335] h h') := by
  refine Mt.ofJ mkX6_add.1 (Nat.le_of_ble_eq_true rfl) ?_
  have hkk := (inN_tn hk).2.1
  obtain ⟨w1, w2, w3, w4, w5⟩ := hW.ask hk
  obtain ⟨q0, q1, q2, q3, q4, q5, q6, q7, q8, q9, q10, -⟩ := hr.2.2.2.1.2.2.1 _ hkk
  have hs4 := (inN_tn w2).2.1
  have ha6 := (inN_tn w3).2.1
  have k8 := (hr.1.2.2.2.1 _ hs4).2.1
  have eA := ac_tn w2 w3
  have eV := hr.2.2.2.2.2.1 _ _ hs4 ha6
  generalize hs : mT S 457 (tn k) = sv at *
  generalize hA : 6 * sv + mT S 459 (tn k) = A at *
  have eL : letF S sv k A = (decide (5 < mT S 454 (tn k)) || okV (aJ h 65 (w 9 (tn sv)) (tn (mT S 459 (tn k))) + (mT S 462 (tn k)).toInt64)) := by
    unfold letF
    rw [if_pos hkd, eV, eA]
  have a9 : inN (hI h 6 (as (tn k))) 6 = true := by rw [q7]; exact w3
  have hV : RSrv w (movedF S sv k A) (sI (tJ h 65 (w 9 (tn sv)) (tn (hI h 6 (as (tn k)))) (aJ h 65 (w 9 (tn sv)) (tn (hI h 6 (as (tn k)))) + (hI h 9 (as (tn k))).toInt64)) 12 (as (tn k)) 1) := by
    rw [q7, q9]
    refine RSrv.hp (by rw [aJ_sI]) (RSrv.s (fun j => ?_) (RSrv_at hI1 hs4 ha6 hr.2.2.2.2.2.1 (u := (mT S 462 (tn k)).toInt64)))
    unfold movedF
    have h2 : ¬ mT S 458 (tn k) = 2 := by rw [hkd]; decide
    simp only [if_pos hkd, if_neg h2]
    rw [← eA]
    simp only [mJ_pJ, mJ_pT, Int64.add_zero, true_and]
    by_cases e : j = tn (6 * sv + mT S 460 (tn k))
    · rw [if_pos e, ← e]
    · rw [if_neg e]
  have hH : HX [12, 335] h (sI (tJ h 65 (w 9 (tn sv)) (tn (hI h 6 (as (tn k)))) (aJ h 65 (w 9 (tn sv)) (tn (hI h 6 (as (tn k)))) + (hI h 9 (as (tn k))).toInt64)) 12 (as (tn k)) 1) := (HX_tJ (by decide)).tr (HX_sI (by decide))
  have hD : Rep w as (movedF S sv k A) (sI (tJ h 65 (w 9 (tn sv)) (tn (hI h 6 (as (tn k)))) (aJ h 65 (w 9 (tn sv)) (tn (hI h 6 (as (tn k)))) + (hI h 9 (as (tn k))).toInt64)) 12 (as (tn k)) 1) := Rep_done hr hkk moved_S moved_467 hH (fun b hb => by rw [hI_sI, if_neg (fun z => hb z.2), hI_tJ]) (by rw [hI_sI, if_pos ⟨rfl, rfl⟩]) hV
  have hz := hV _ _ hs4 ha6
  rw [← eA] at hz
  refine J_aload_n dX6_add_0 rfl rfl isR_r ?_
  refine J_getI dX6_add_1 g_X6_89 (by first | with_reducible assumption | (simp only [hK_sI, hK_sJ, hK_sR, hK_tI, hK_tJ, hK_tR]; with_reducible assumption)) ?_
  refine J_bipush (v := 6) dX6_add_4 (by decide) ?_
  refine J_icmp_ge (tgt := 29) dX6_add_6 (by decide) (fun c6 => ?_) (fun c6 => ?_)
  · have ht : letF S sv k A = true := by
     rw [eL, decide_eq_true (by rw [q2] at c6; rw [n_le] at c6; rw [n_lt]; rw [show (6 : Int32).toInt = 6 from rfl] at c6; rw [show (5 : Int32).toInt = 5 from rfl]; omega)]
     rfl
    refine J_aload_n dX6_add_29 rfl rfl isR_r ?_
    refine J_aload_n dX6_add_30 rfl rfl isR_r ?_
    refine J_getI dX6_add_31 g_X6_252 (by first | with_reducible assumption | (simp only [hK_sI, hK_sJ, hK_sR, hK_tI, hK_tJ, hK_tR]; with_reducible assumption)) ?_
    refine J_aload_n dX6_add_34 rfl rfl isR_r ?_
    refine J_getI dX6_add_35 g_X6_261 (by first | with_reducible assumption | (simp only [hK_sI, hK_sJ, hK_sR, hK_tI, hK_tJ, hK_tR]; with_reducible assumption)) ?_
    refine J_i2l dX6_add_38 ?_
    refine J_callV (c_change hr.1 hs4 a9) dX6_add_39 ml_X6_339 mkX5_change rfl (by first | with_reducible assumption | (simp only [hK_sI, hK_sJ, hK_sR, hK_tI, hK_tJ, hK_tR]; with_reducible assumption)) (by decide) rfl rfl (Nat.le_of_ble_eq_true rfl) ⟨Nat.le_of_ble_eq_true rfl, Nat.le_of_ble_eq_true rfl⟩ ⟨Nat.le_of_ble_eq_true rfl, Nat.le_of_ble_eq_true rfl⟩ (fun v39 hp39 q39 => ?_)
    obtain ⟨rfl, z39⟩ := q39
    rw [z39]
    refine J_aload_n dX6_add_42 rfl rfl isR_r ?_
    refine J_pc (pc' := 43) rfl ?_
    refine J_iconst (v := 1) dX6_add_43 (by decide) ?_
    refine J_putZ dX6_add_44 p_X6_213 (by first | with_reducible assumption | (simp only [hK_sI, hK_sJ, hK_sR, hK_tI, hK_tJ, hK_tR]; with_reducible assumption)) (by first | exact Or.inl rfl | exact Or.inr rfl) ?_
    refine J_aload_n dX6_add_47 rfl rfl isR_r ?_
    refine J_aload_n dX6_add_48 rfl rfl isR_r ?_
    refine J_getI dX6_add_49 g_X6_252 (by first | with_reducible assumption | (simp only [hK_sI, hK_sJ, hK_sR, hK_tI, hK_tJ, hK_tR]; with_reducible assumption)) ?_
    refine J_callV (c_has (CS_sI (by decide) (CS_tJ hr.1)) hs4 (by rw [hI_ne 6 (by decide), hI_tJ]; exact a9)) dX6_add_52 ml_X6_187 mkX5_has rfl (by first | with_reducible assumption | (simp only [hK_sI, hK_sJ, hK_sR, hK_tI, hK_tJ, hK_tR]; with_reducible assumption)) (by decide) rfl rfl (Nat.le_of_ble_eq_true rfl) ⟨Nat.le_of_ble_eq_true rfl, Nat.le_of_ble_eq_true rfl⟩ ⟨Nat.le_of_ble_eq_true rfl, Nat.le_of_ble_eq_true rfl⟩ (fun v52 hp52 q52 => ?_)
    obtain ⟨rfl, z52⟩ := q52
    rw [z52]
    exact J_lreturn dX6_add_55 rfl (by
     rw [if_neg (by rw [ht]; decide)]
     refine ⟨?_, hD, hH⟩
     rw [← hz, hI_ne 6 (by decide), hI_tJ]
     rw [q7]) (Nat.le_of_ble_eq_true rfl) (Nat.le_of_ble_eq_true rfl)
  · refine J_aload_n dX6_add_9 rfl rfl isR_r ?_
    refine J_aload_n dX6_add_10 rfl rfl isR_r ?_
    refine J_getI dX6_add_11 g_X6_252 (by first | with_reducible assumption | (simp only [hK_sI, hK_sJ, hK_sR, hK_tI, hK_tJ, hK_tR]; with_reducible assumption)) ?_
    refine J_aload_n dX6_add_14 rfl rfl isR_r ?_
    refine J_getI dX6_add_15 g_X6_261 (by first | with_reducible assumption | (simp only [hK_sI, hK_sJ, hK_sR, hK_tI, hK_tJ, hK_tR]; with_reducible assumption)) ?_
    refine J_i2l dX6_add_18 ?_
    refine J_callV (c_lets hr.1 hs4 a9) dX6_add_19 ml_X6_335 mkX5_lets rfl (by first | with_reducible assumption | (simp only [hK_sI, hK_sJ, hK_sR, hK_tI, hK_tJ, hK_tR]; with_reducible assumption)) (by decide) rfl rfl (Nat.le_of_ble_eq_true rfl) ⟨Nat.le_of_ble_eq_true rfl, Nat.le_of_ble_eq_true rfl⟩ ⟨Nat.le_of_ble_eq_true rfl, Nat.le_of_ble_eq_true rfl⟩ (fun v19 hp19 q19 => ?_)
    obtain ⟨rfl, z19⟩ := q19
    rw [z19]
    refine J_if_ne (tgt := 29) dX6_add_22 (by decide) (fun c22 => ?_) (fun c22 => ?_)
    · have ht : letF S sv k A = true := by
       rw [eL, ← q7, ← q9, bi_1.mp c22]
       exact Bool.or_true _
      refine J_aload_n dX6_add_29 rfl rfl isR_r ?_
      refine J_aload_n dX6_add_30 rfl rfl isR_r ?_
      refine J_getI dX6_add_31 g_X6_252 (by first | with_reducible assumption | (simp only [hK_sI, hK_sJ, hK_sR, hK_tI, hK_tJ, hK_tR]; with_reducible assumption)) ?_
      refine J_aload_n dX6_add_34 rfl rfl isR_r ?_
      refine J_getI dX6_add_35 g_X6_261 (by first | with_reducible assumption | (simp only [hK_sI, hK_sJ, hK_sR, hK_tI, hK_tJ, hK_tR]; with_reducible assumption)) ?_
      refine J_i2l dX6_add_38 ?_
      refine J_callV (c_change hr.1 hs4 a9) dX6_add_39 ml_X6_339 mkX5_change rfl (by first | with_reducible assumption | (simp only [hK_sI, hK_sJ, hK_sR, hK_tI, hK_tJ, hK_tR]; with_reducible assumption)) (by decide) rfl rfl (Nat.le_of_ble_eq_true rfl) ⟨Nat.le_of_ble_eq_true rfl, Nat.le_of_ble_eq_true rfl⟩ ⟨Nat.le_of_ble_eq_true rfl, Nat.le_of_ble_eq_true rfl⟩ (fun v39 hp39 q39 => ?_)
      obtain ⟨rfl, z39⟩ := q39
      rw [z39]
      refine J_aload_n dX6_add_42 rfl rfl isR_r ?_
      refine J_pc (pc' := 43) rfl ?_
      refine J_iconst (v := 1) dX6_add_43 (by decide) ?_
      refine J_putZ dX6_add_44 p_X6_213 (by first | with_reducible assumption | (simp only [hK_sI, hK_sJ, hK_sR, hK_tI, hK_tJ, hK_tR]; with_reducible assumption)) (by first | exact Or.inl rfl | exact Or.inr rfl) ?_
      refine J_aload_n dX6_add_47 rfl rfl isR_r ?_
      refine J_aload_n dX6_add_48 rfl rfl isR_r ?_
      refine J_getI dX6_add_49 g_X6_252 (by first | with_reducible assumption | (simp only [hK_sI, hK_sJ, hK_sR, hK_tI, hK_tJ, hK_tR]; with_reducible assumption)) ?_
      refine J_callV (c_has (CS_sI (by decide) (CS_tJ hr.1)) hs4 (by rw [hI_ne 6 (by decide), hI_tJ]; exact a9)) dX6_add_52 ml_X6_187 mkX5_has rfl (by first | with_reducible assumption | (simp only [hK_sI, hK_sJ, hK_sR, hK_tI, hK_tJ, hK_tR]; with_reducible assumption)) (by decide) rfl rfl (Nat.le_of_ble_eq_true rfl) ⟨Nat.le_of_ble_eq_true rfl, Nat.le_of_ble_eq_true rfl⟩ ⟨Nat.le_of_ble_eq_true rfl, Nat.le_of_ble_eq_true rfl⟩ (fun v52 hp52 q52 => ?_)
      obtain ⟨rfl, z52⟩ := q52
      rw [z52]
      exact J_lreturn dX6_add_55 rfl (by
       rw [if_neg (by rw [ht]; decide)]
       refine ⟨?_, hD, hH⟩
       rw [← hz, hI_ne 6 (by decide), hI_tJ]
       rw [q7]) (Nat.le_of_ble_eq_true rfl) (Nat.le_of_ble_eq_true rfl)
    · refine J_ldc2 dX6_add_25 ll_X6_318 ?_
      exact J_lreturn dX6_add_28 rfl (by
       have e : letF S sv k A = false := by
         rw [eL, decide_eq_false (fun z => c6 (by rw [q2]; rw [n_lt] at z; rw [n_le]; rw [show (5 : Int32).toInt = 5 from rfl] at z; rw [show (6 : Int32).toInt = 6 from rfl]; omega)), ← q7, ← q9, bi_0.mp c22]
         rfl
       rw [if_pos e]
       exact ⟨rfl, rfl⟩) (Nat.le_of_ble_eq_true rfl) (Nat.le_of_ble_eq_true rfl)
set_option maxRecDepth 100000 in
set_option maxHeartbeats 4000000 in
theorem c_move {k : Int32} (hr : Rep w as S h) (hI1 : Inj w) (hW : WF1 S) (hk : inN k (nA S) = true) (hkd : mT S 458 (tn k) = 2) (hnm : mT S 454 (tn k) < 6) (hb1 : -1000000 ≤ (mT S 462 (tn k)).toInt) (hb2 : (mT S 462 (tn k)).toInt ≤ 1000000) : Mt x 2 kX6_move 0 0 [.ref (w 0 0), .ref (w 8 (tn (mT S 457 (tn k)))), .ref (as (tn k))] h (fun z h' => if letF S (mT S 457 (tn k)) k (6 * mT S 457 (tn k) + mT S 459 (tn k)) = false then z = some (.long (-1)) ∧ h' = h else z = some (.long (mJ (movedF S (mT S 457 (tn k)) k (6 * mT S 457 (tn k) + mT S 459 (tn k))) 452 (tn (6 * mT S 457 (tn k) + mT S 459 (tn k))))) ∧ Rep w as (movedF S (mT S 457 (tn k)) k (6 * mT S 457 (tn k) + mT S 459 (tn k))) h' ∧ HX [12, 335] h h') := by
  refine Mt.ofJ mkX6_move.1 (Nat.le_of_ble_eq_true rfl) ?_
  have hkk := (inN_tn hk).2.1
  obtain ⟨w1, w2, w3, w4, w5⟩ := hW.ask hk
  obtain ⟨q0, q1, q2, q3, q4, q5, q6, q7, q8, q9, q10, -⟩ := hr.2.2.2.1.2.2.1 _ hkk
  have hs4 := (inN_tn w2).2.1
  have ha6 := (inN_tn w3).2.1
  have hb6 := (inN_tn w4).2.1
  have k8 := (hr.1.2.2.2.1 _ hs4).2.1
  have eA := ac_tn w2 w3
  have eB := ac_tn w2 w4
  have q8' := (q8 hnm).1
  have eV := hr.2.2.2.2.2.1 _ _ hs4 ha6
  have eU := hr.2.2.2.2.2.1 _ _ hs4 hb6
  generalize hs : mT S 457 (tn k) = sv at *
  have hAB : 6 * sv + mT S 459 (tn k) = 6 * sv + mT S 460 (tn k) ↔ mT S 459 (tn k) = mT S 460 (tn k) := ⟨fun z => by
    have z2 := congrArg tn z
    rw [eA, eB] at z2
    rw [(inN_tn w3).1, (inN_tn w4).1, show tn (mT S 459 (tn k)) = tn (mT S 460 (tn k)) by omega], fun z => by rw [z]⟩
  have n1 : ¬ mT S 458 (tn k) = 1 := by rw [hkd]; decide
  have eng : (0 - hI h 9 (as (tn k))).toInt64 = 0 - (mT S 462 (tn k)).toInt64 := by rw [q9]; exact neg64 hb1 hb2
  have eL : letF S sv k (6 * sv + mT S 459 (tn k)) = (decide (mT S 459 (tn k) = mT S 460 (tn k)) || (okV (aJ h 65 (w 9 (tn sv)) (tn (hI h 6 (as (tn k)))) + (0 - hI h 9 (as (tn k))).toInt64) && okV (aJ h 65 (w 9 (tn sv)) (tn (hI h 7 (as (tn k)))) + (hI h 9 (as (tn k))).toInt64))) := by
    unfold letF
    rw [if_neg n1, if_pos hkd, eng, q7, q8', q9, eV, eU, ← eA, ← eB, add_z64]
    congr 1
    exact decide_eq_decide.mpr hAB
  have a9 : inN (hI h 6 (as (tn k))) 6 = true := by rw [q7]; exact w3
  have b9 : inN (hI h 7 (as (tn k))) 6 = true := by rw [q8']; exact w4
  have S467 := moved_467 (S := S) (sv := sv) (ask := k) (a := 6 * sv + mT S 459 (tn k))
  have mv : ∀ j, mJ (movedF S sv k (6 * sv + mT S 459 (tn k))) 452 j = (if j = 6 * tn sv + tn (mT S 460 (tn k)) then (if j = 6 * tn sv + tn (mT S 459 (tn k)) then mJ S 452 j + (0 - (mT S 462 (tn k)).toInt64) else mJ S 452 j) + (mT S 462 (tn k)).toInt64 else if j = 6 * tn sv + tn (mT S 459 (tn k)) then mJ S 452 j + (0 - (mT S 462 (tn k)).toInt64) else mJ S 452 j) := by
    intro j
    unfold movedF
    simp only [if_neg n1, if_pos hkd]
    rw [eA, eB]
    simp only [mJ_pJ, mJ_pT, true_and]
    by_cases e1 : j = 6 * tn sv + tn (mT S 460 (tn k))
    · rw [if_pos e1, if_pos e1, ← e1]
      by_cases e2 : j = 6 * tn sv + tn (mT S 459 (tn k))
      · rw [if_pos e2, if_pos e2, ← e2]
      · rw [if_neg e2, if_neg e2]
    · rw [if_neg e1, if_neg e1]
      by_cases e2 : j = 6 * tn sv + tn (mT S 459 (tn k))
      · rw [if_pos e2, if_pos e2, ← e2]
      · rw [if_neg e2, if_neg e2]
  by_cases eq : mT S 459 (tn k) = mT S 460 (tn k)
  · have ht : letF S sv k (6 * sv + mT S 459 (tn k)) = true := by rw [eL, decide_eq_true eq]; rfl
    have hV : RSrv w (movedF S sv k (6 * sv + mT S 459 (tn k))) (sI h 12 (as (tn k)) 1) := by
      refine RSrv.hp (by rw [aJ_sI]) (RSrv.s (fun j => ?_) hr.2.2.2.2.2.1)
      rw [mv, eq]
      split
      · rw [add_z64, Int64.sub_add_cancel]
      · rfl
    have hH : HX [12, 335] h (sI h 12 (as (tn k)) 1) := HX_sI (by decide)
    have hD : Rep w as (movedF S sv k (6 * sv + mT S 459 (tn k))) (sI h 12 (as (tn k)) 1) := Rep_done hr hkk moved_S S467 hH (fun b hb => by rw [hI_sI, if_neg (fun z => hb z.2)]) (by rw [hI_sI, if_pos ⟨rfl, rfl⟩]) hV
    have hz := hV _ _ hs4 ha6
    rw [← eA] at hz
    refine J_aload_n dX6_move_0 rfl rfl isR_r ?_
    refine J_getI dX6_move_1 g_X6_252 (by first | with_reducible assumption | (simp only [hK_sI, hK_sJ, hK_sR, hK_tI, hK_tJ, hK_tR]; with_reducible assumption)) ?_
    refine J_aload_n dX6_move_4 rfl rfl isR_r ?_
    refine J_getI dX6_move_5 g_X6_255 (by first | with_reducible assumption | (simp only [hK_sI, hK_sJ, hK_sR, hK_tI, hK_tJ, hK_tR]; with_reducible assumption)) ?_
    refine J_icmp_eq (tgt := 75) dX6_move_8 (by decide) (fun c8 => ?_) (fun c8 => ((show False from c8 (by rw [q7, q8']; exact eq))).elim)
    refine J_aload_n dX6_move_75 rfl rfl isR_r ?_
    refine J_iconst (v := 1) dX6_move_76 (by decide) ?_
    refine J_putZ dX6_move_77 p_X6_213 (by first | with_reducible assumption | (simp only [hK_sI, hK_sJ, hK_sR, hK_tI, hK_tJ, hK_tR]; with_reducible assumption)) (by first | exact Or.inl rfl | exact Or.inr rfl) ?_
    refine J_aload_n dX6_move_80 rfl rfl isR_r ?_
    refine J_pc (pc' := 81) rfl ?_
    refine J_aload_n dX6_move_81 rfl rfl isR_r ?_
    refine J_getI dX6_move_82 g_X6_252 (by first | with_reducible assumption | (simp only [hK_sI, hK_sJ, hK_sR, hK_tI, hK_tJ, hK_tR]; with_reducible assumption)) ?_
    refine J_callV (c_has (CS_sI (by decide) hr.1) hs4 (by rw [hI_ne 6 (by decide)]; exact a9)) dX6_move_85 ml_X6_187 mkX5_has rfl (by first | with_reducible assumption | (simp only [hK_sI, hK_sJ, hK_sR, hK_tI, hK_tJ, hK_tR]; with_reducible assumption)) (by decide) rfl rfl (Nat.le_of_ble_eq_true rfl) ⟨Nat.le_of_ble_eq_true rfl, Nat.le_of_ble_eq_true rfl⟩ ⟨Nat.le_of_ble_eq_true rfl, Nat.le_of_ble_eq_true rfl⟩ (fun v85 hp85 q85 => ?_)
    obtain ⟨rfl, z85⟩ := q85
    rw [z85]
    exact J_lreturn dX6_move_88 rfl (by
     rw [if_neg (by rw [ht]; decide)]
     refine ⟨?_, hD, hH⟩
     rw [← hz, hI_ne 6 (by decide), q7]) (Nat.le_of_ble_eq_true rfl) (Nat.le_of_ble_eq_true rfl)
  · have hHp : ∃ hh, hh = sI (tJ (tJ h 65 (w 9 (tn sv)) (tn (hI h 6 (as (tn k)))) (aJ h 65 (w 9 (tn sv)) (tn (hI h 6 (as (tn k)))) + (0 - hI h 9 (as (tn k))).toInt64)) 65 (w 9 (tn sv)) (tn (hI h 7 (as (tn k)))) (aJ (tJ h 65 (w 9 (tn sv)) (tn (hI h 6 (as (tn k)))) (aJ h 65 (w 9 (tn sv)) (tn (hI h 6 (as (tn k)))) + (0 - hI h 9 (as (tn k))).toInt64)) 65 (w 9 (tn sv)) (tn (hI h 7 (as (tn k)))) + (hI h 9 (as (tn k))).toInt64)) 12 (as (tn k)) 1 := ⟨_, rfl⟩
    obtain ⟨hh, ehh⟩ := hHp
    have hV : RSrv w (movedF S sv k (6 * sv + mT S 459 (tn k))) hh := by
      rw [ehh, eng, q7, q8', q9]
      refine RSrv.hp (by rw [aJ_sI]) (RSrv.s (fun j => ?_) (RSrv_at hI1 hs4 hb6 (RSrv_at hI1 hs4 ha6 hr.2.2.2.2.2.1 (u := 0 - (mT S 462 (tn k)).toInt64)) (u := (mT S 462 (tn k)).toInt64)))
      rw [mv]
      simp only [mJ_pJ, true_and]
      by_cases e1 : j = 6 * tn sv + tn (mT S 460 (tn k))
      · rw [if_pos e1, if_pos e1, ← e1]
        by_cases e2 : j = 6 * tn sv + tn (mT S 459 (tn k))
        · rw [if_pos e2, if_pos e2, ← e2]
        · rw [if_neg e2, if_neg e2]
      · rw [if_neg e1, if_neg e1]
        by_cases e2 : j = 6 * tn sv + tn (mT S 459 (tn k))
        · rw [if_pos e2, if_pos e2, ← e2]
        · rw [if_neg e2, if_neg e2]
    have hH : HX [12, 335] h hh := by rw [ehh]; exact (HX_tJ (by decide)).tr ((HX_tJ (by decide)).tr (HX_sI (by decide)))
    have hD : Rep w as (movedF S sv k (6 * sv + mT S 459 (tn k))) hh := Rep_done hr hkk moved_S S467 hH (fun b hb => by rw [ehh, hI_sI, if_neg (fun z => hb z.2), hI_tJ, hI_tJ]) (by rw [ehh, hI_sI, if_pos ⟨rfl, rfl⟩]) hV
    have hz := hV _ _ hs4 ha6
    rw [← eA] at hz
    refine J_aload_n dX6_move_0 rfl rfl isR_r ?_
    refine J_getI dX6_move_1 g_X6_252 (by first | with_reducible assumption | (simp only [hK_sI, hK_sJ, hK_sR, hK_tI, hK_tJ, hK_tR]; with_reducible assumption)) ?_
    refine J_aload_n dX6_move_4 rfl rfl isR_r ?_
    refine J_getI dX6_move_5 g_X6_255 (by first | with_reducible assumption | (simp only [hK_sI, hK_sJ, hK_sR, hK_tI, hK_tJ, hK_tR]; with_reducible assumption)) ?_
    refine J_icmp_eq (tgt := 75) dX6_move_8 (by decide) (fun c8 => ((show False from eq (by rw [q7, q8'] at c8; exact c8))).elim) (fun c8 => ?_)
    refine J_aload_n dX6_move_11 rfl rfl isR_r ?_
    refine J_aload_n dX6_move_12 rfl rfl isR_r ?_
    refine J_getI dX6_move_13 g_X6_252 (by first | with_reducible assumption | (simp only [hK_sI, hK_sJ, hK_sR, hK_tI, hK_tJ, hK_tR]; with_reducible assumption)) ?_
    refine J_aload_n dX6_move_16 rfl rfl isR_r ?_
    refine J_pc (pc' := 17) rfl ?_
    refine J_getI dX6_move_17 g_X6_261 (by first | with_reducible assumption | (simp only [hK_sI, hK_sJ, hK_sR, hK_tI, hK_tJ, hK_tR]; with_reducible assumption)) ?_
    refine J_ineg dX6_move_20 ?_
    refine J_i2l dX6_move_21 ?_
    refine J_callV (c_lets hr.1 hs4 a9) dX6_move_22 ml_X6_335 mkX5_lets rfl (by first | with_reducible assumption | (simp only [hK_sI, hK_sJ, hK_sR, hK_tI, hK_tJ, hK_tR]; with_reducible assumption)) (by decide) rfl rfl (Nat.le_of_ble_eq_true rfl) ⟨Nat.le_of_ble_eq_true rfl, Nat.le_of_ble_eq_true rfl⟩ ⟨Nat.le_of_ble_eq_true rfl, Nat.le_of_ble_eq_true rfl⟩ (fun v22 hp22 q22 => ?_)
    obtain ⟨rfl, z22⟩ := q22
    rw [z22]
    refine J_if_eq (tgt := 44) dX6_move_25 (by decide) (fun c25 => ?_) (fun c25 => ?_)
    · refine J_ldc2 dX6_move_44 ll_X6_318 ?_
      exact J_lreturn dX6_move_47 rfl (by
       rw [if_pos (by rw [eL, decide_eq_false eq, bi_0.mp c25]; rfl)]
       exact ⟨rfl, rfl⟩) (Nat.le_of_ble_eq_true rfl) (Nat.le_of_ble_eq_true rfl)
    · refine J_aload_n dX6_move_28 rfl rfl isR_r ?_
      refine J_aload_n dX6_move_29 rfl rfl isR_r ?_
      refine J_getI dX6_move_30 g_X6_255 (by first | with_reducible assumption | (simp only [hK_sI, hK_sJ, hK_sR, hK_tI, hK_tJ, hK_tR]; with_reducible assumption)) ?_
      refine J_aload_n dX6_move_33 rfl rfl isR_r ?_
      refine J_getI dX6_move_34 g_X6_261 (by first | with_reducible assumption | (simp only [hK_sI, hK_sJ, hK_sR, hK_tI, hK_tJ, hK_tR]; with_reducible assumption)) ?_
      refine J_i2l dX6_move_37 ?_
      refine J_callV (c_lets hr.1 hs4 b9) dX6_move_38 ml_X6_335 mkX5_lets rfl (by first | with_reducible assumption | (simp only [hK_sI, hK_sJ, hK_sR, hK_tI, hK_tJ, hK_tR]; with_reducible assumption)) (by decide) rfl rfl (Nat.le_of_ble_eq_true rfl) ⟨Nat.le_of_ble_eq_true rfl, Nat.le_of_ble_eq_true rfl⟩ ⟨Nat.le_of_ble_eq_true rfl, Nat.le_of_ble_eq_true rfl⟩ (fun v38 hp38 q38 => ?_)
      obtain ⟨rfl, z38⟩ := q38
      rw [z38]
      refine J_if_ne (tgt := 48) dX6_move_41 (by decide) (fun c41 => ?_) (fun c41 => ?_)
      · have ht : letF S sv k (6 * sv + mT S 459 (tn k)) = true := by rw [eL, bi_1.mp c25, bi_1.mp c41]; exact Bool.or_true _
        refine J_aload_n dX6_move_48 rfl rfl isR_r ?_
        refine J_aload_n dX6_move_49 rfl rfl isR_r ?_
        refine J_getI dX6_move_50 g_X6_252 (by first | with_reducible assumption | (simp only [hK_sI, hK_sJ, hK_sR, hK_tI, hK_tJ, hK_tR]; with_reducible assumption)) ?_
        refine J_aload_n dX6_move_53 rfl rfl isR_r ?_
        refine J_getI dX6_move_54 g_X6_261 (by first | with_reducible assumption | (simp only [hK_sI, hK_sJ, hK_sR, hK_tI, hK_tJ, hK_tR]; with_reducible assumption)) ?_
        refine J_ineg dX6_move_57 ?_
        refine J_i2l dX6_move_58 ?_
        refine J_callV (c_change hr.1 hs4 a9) dX6_move_59 ml_X6_339 mkX5_change rfl (by first | with_reducible assumption | (simp only [hK_sI, hK_sJ, hK_sR, hK_tI, hK_tJ, hK_tR]; with_reducible assumption)) (by decide) rfl rfl (Nat.le_of_ble_eq_true rfl) ⟨Nat.le_of_ble_eq_true rfl, Nat.le_of_ble_eq_true rfl⟩ ⟨Nat.le_of_ble_eq_true rfl, Nat.le_of_ble_eq_true rfl⟩ (fun v59 hp59 q59 => ?_)
        obtain ⟨rfl, z59⟩ := q59
        rw [z59]
        refine J_pc (pc' := 62) rfl ?_
        refine J_aload_n dX6_move_62 rfl rfl isR_r ?_
        refine J_aload_n dX6_move_63 rfl rfl isR_r ?_
        refine J_getI dX6_move_64 g_X6_255 (by first | with_reducible assumption | (simp only [hK_sI, hK_sJ, hK_sR, hK_tI, hK_tJ, hK_tR]; with_reducible assumption)) ?_
        refine J_aload_n dX6_move_67 rfl rfl isR_r ?_
        refine J_getI dX6_move_68 g_X6_261 (by first | with_reducible assumption | (simp only [hK_sI, hK_sJ, hK_sR, hK_tI, hK_tJ, hK_tR]; with_reducible assumption)) ?_
        refine J_i2l dX6_move_71 ?_
        rw [hI_tJ]
        refine J_callV (c_change (CS_tJ hr.1) hs4 b9) dX6_move_72 ml_X6_339 mkX5_change rfl (by first | with_reducible assumption | (simp only [hK_sI, hK_sJ, hK_sR, hK_tI, hK_tJ, hK_tR]; with_reducible assumption)) (by decide) rfl rfl (Nat.le_of_ble_eq_true rfl) ⟨Nat.le_of_ble_eq_true rfl, Nat.le_of_ble_eq_true rfl⟩ ⟨Nat.le_of_ble_eq_true rfl, Nat.le_of_ble_eq_true rfl⟩ (fun v72 hp72 q72 => ?_)
        obtain ⟨rfl, z72⟩ := q72
        rw [z72]
        refine J_aload_n dX6_move_75 rfl rfl isR_r ?_
        refine J_pc (pc' := 76) rfl ?_
        refine J_iconst (v := 1) dX6_move_76 (by decide) ?_
        refine J_putZ dX6_move_77 p_X6_213 (by first | with_reducible assumption | (simp only [hK_sI, hK_sJ, hK_sR, hK_tI, hK_tJ, hK_tR]; with_reducible assumption)) (by first | exact Or.inl rfl | exact Or.inr rfl) ?_
        refine J_aload_n dX6_move_80 rfl rfl isR_r ?_
        refine J_aload_n dX6_move_81 rfl rfl isR_r ?_
        refine J_getI dX6_move_82 g_X6_252 (by first | with_reducible assumption | (simp only [hK_sI, hK_sJ, hK_sR, hK_tI, hK_tJ, hK_tR]; with_reducible assumption)) ?_
        refine J_callV (c_has (CS_sI (by decide) (CS_tJ (CS_tJ hr.1))) hs4 (by rw [hI_ne 6 (by decide), hI_tJ, hI_tJ]; exact a9)) dX6_move_85 ml_X6_187 mkX5_has rfl (by first | with_reducible assumption | (simp only [hK_sI, hK_sJ, hK_sR, hK_tI, hK_tJ, hK_tR]; with_reducible assumption)) (by decide) rfl rfl (Nat.le_of_ble_eq_true rfl) ⟨Nat.le_of_ble_eq_true rfl, Nat.le_of_ble_eq_true rfl⟩ ⟨Nat.le_of_ble_eq_true rfl, Nat.le_of_ble_eq_true rfl⟩ (fun v85 hp85 q85 => ?_)
        obtain ⟨rfl, z85⟩ := q85
        rw [z85]
        exact J_lreturn dX6_move_88 rfl (by
         rw [if_neg (by rw [ht]; decide)]
         rw [← ehh]
         refine ⟨?_, hD, hH⟩
         rw [← hz, show hI hh 6 (as (tn k)) = hI h 6 (as (tn k)) by rw [ehh, hI_ne 6 (by decide), hI_tJ, hI_tJ], q7]) (Nat.le_of_ble_eq_true rfl) (Nat.le_of_ble_eq_true rfl)
      · refine J_ldc2 dX6_move_44 ll_X6_318 ?_
        exact J_lreturn dX6_move_47 rfl (by
         rw [if_pos (by rw [eL, decide_eq_false eq, bi_0.mp c41, Bool.and_false]; rfl)]
         exact ⟨rfl, rfl⟩) (Nat.le_of_ble_eq_true rfl) (Nat.le_of_ble_eq_true rfl)
end AM
