/-! CANCEL; what is written and answered at the end of an act -/
section CN
variable {x : om_x} {w : om_w} {h h' : Hp} {as : Nat → Nat} {S S' : Ms} {g : Nat}
theorem cancel_eq {i : Nat} {k : Int32} (hi : i < 40) : cancelA S (nI i) k = (if mT S 462 (tn k) = mT S 456 (tn k) ∨ mT S 462 (tn k) < mT S 475 i then 0 else if stR (fR S (nI i) (mT S 462 (tn k))) = 1 then 0 else if stR (fR S (nI i) (mT S 462 (tn k))) = 2 then 2 else if mT S 475 i + mI S 448 ≤ mT S 462 (tn k) then 3 else 1) := by
  unfold cancelA
  rw [tn_nI (by omega), fR_fnd]
  split
  · rfl
  · cases fnd S (nI i) (mT S 462 (tn k)) with
    | none =>
      rw [show stR (Option.map (rc S) none) = 0 from rfl, if_neg (show ¬ (0 : Int32) = 1 by decide), if_neg (show ¬ (0 : Int32) = 2 by decide)]
    | some r => rfl
set_option maxRecDepth 100000 in
set_option maxHeartbeats 4000000 in
theorem c_cancel {i : Nat} {k : Int32} (hr : Rep w as S h) (hI1 : Inj w) (hW : WF1 S) (hR : RWn S) (h7 : nR S < 700) (hk : inN k (nA S) = true) (hi : i < 40) (h5 : inN (mT S 475 i) 400 = true) (h8 : inN (mI S 448) 17 = true) (hb1 : 1 ≤ (mT S 462 (tn k)).toInt) (hb2 : (mT S 462 (tn k)).toInt ≤ 1000000) : Mt x 2 kX6_cancel 0 0 [.ref (w 0 0), .ref (w 11 i), .ref (as (tn k))] h (fun z h' => z = some (.long (cancelA S (nI i) k)) ∧ Rep w as (if cancelA S (nI i) k = 1 then putRecF S (nI i) (mT S 462 (tn k)) 3 0 (-1) else S) h' ∧ HX MemX h h') := by
  refine Mt.ofJ mkX6_cancel.1 (Nat.le_of_ble_eq_true rfl) ?_
  have hl : LoOK S i := ⟨by have := (inN_tn h8).2.1; omega, by have := (inN_tn h5).2.1; omega⟩
  have hkk := (inN_tn hk).2.1
  obtain ⟨q0, q1, q2, q3, q4, q5, q6, q7, q8, q9, q10, -⟩ := hr.2.2.2.1.2.2.1 _ hkk
  obtain ⟨A, hA, hA2, hA3⟩ := zI_ex (v := mT S 462 (tn k)) (n := 1000001) (by omega) (by omega)
  have o1 := hr.1.1.1
  obtain ⟨k1, k2, k3, k4, k5, k6, k7⟩ := Rep.mk hr.1 hi
  obtain ⟨m1, m2, m3, m4, m5, m6⟩ := hr.2.2.2.2.2.2 i hi
  have e5 := (inN_tn h5)
  have e8 := (inN_tn h8)
  have hlo : hI h 194 (w 11 i) = mT S 475 i := by rw [m3, ← e5.1]
  have ce := cancel_eq (S := S) (k := k) hi
  have hwin : ¬ mT S 462 (tn k) < mT S 475 i → (inW (tn (mT S 475 i)) (tn (mI S 448)) (mT S 462 (tn k)) = true ↔ ¬ mT S 475 i + mI S 448 ≤ mT S 462 (tn k)) := fun z => by
    have e : mT S 475 i + mI S 448 = nI (tn (mT S 475 i) + tn (mI S 448)) := by
      conv => lhs; rw [e5.1, e8.1]
      rw [zI_add]
    rw [e, hA, inW_n (by omega) (by omega) (by omega), decide_eq_true_iff, nI_lei (by omega) (by omega)]
    rw [hA, e5.1, nI_lti (by omega) (by omega)] at z
    omega
  generalize hQ : (fun z h' => z = some (Value.long (cancelA S (nI i) k)) ∧ Rep w as (if cancelA S (nI i) k = 1 then putRecF S (nI i) (mT S 462 (tn k)) 3 0 (-1) else S) h' ∧ HX MemX h h') = Q
  have leaf : ∀ v : Int64, v ≠ 1 → cancelA S (nI i) k = v → Q (some (.long v)) h := fun v v1 v2 => by
    rw [← hQ]
    show _ ∧ _
    rw [v2, if_neg v1]
    exact ⟨rfl, hr, HX.rf⟩
  refine J_aload_n dX6_cancel_0 rfl rfl isR_r ?_
  refine J_getI dX6_cancel_1 g_X6_261 (by first | with_reducible assumption | (simp only [hK_sI, hK_sJ, hK_sR, hK_tI, hK_tJ, hK_tR]; with_reducible assumption)) ?_
  refine J_istore_n dX6_cancel_4 rfl (by decide) ?_
  refine J_aload_n dX6_cancel_5 rfl rfl isR_r ?_
  refine J_iload_n dX6_cancel_6 rfl rfl ?_
  rw [q9]
  refine J_callV (c_stateR hr hR hi hl) dX6_cancel_7 ml_X6_204 mkX3_stateOf rfl (by first | with_reducible assumption | (simp only [hK_sI, hK_sJ, hK_sR, hK_tI, hK_tJ, hK_tR]; with_reducible assumption)) (by decide) rfl rfl (Nat.le_of_ble_eq_true rfl) ⟨Nat.le_of_ble_eq_true rfl, Nat.le_of_ble_eq_true rfl⟩ ⟨Nat.le_of_ble_eq_true rfl, Nat.le_of_ble_eq_true rfl⟩ (fun v7 hp7 q7 => ?_)
  obtain ⟨rfl, z7⟩ := q7
  rw [z7]
  refine J_istore dX6_cancel_10 (by decide) ?_
  refine J_iload_n dX6_cancel_12 rfl rfl ?_
  refine J_pc (pc' := 13) rfl ?_
  refine J_aload_n dX6_cancel_13 rfl rfl isR_r ?_
  refine J_getI dX6_cancel_14 g_X6_105 (by first | with_reducible assumption | (simp only [hK_sI, hK_sJ, hK_sR, hK_tI, hK_tJ, hK_tR]; with_reducible assumption)) ?_
  refine J_icmp_eq (tgt := 34) dX6_cancel_17 (by decide) (fun c17 => ?_) (fun c17 => ?_)
  · refine J_lconst (v := 0) dX6_cancel_34 (by decide) ?_
    exact J_lreturn dX6_cancel_35 rfl (leaf 0 (by decide) (by rw [ce, if_pos (Or.inl (by rw [← q4]; exact c17))])) (Nat.le_of_ble_eq_true rfl) (Nat.le_of_ble_eq_true rfl)
  · refine J_iload_n dX6_cancel_20 rfl rfl ?_
    refine J_aload_n dX6_cancel_21 rfl rfl isR_r ?_
    refine J_getI dX6_cancel_22 g_X6_198 (by first | with_reducible assumption | (simp only [hK_sI, hK_sJ, hK_sR, hK_tI, hK_tJ, hK_tR]; with_reducible assumption)) ?_
    refine J_icmp_lt (tgt := 34) dX6_cancel_25 (by decide) (fun c25 => ?_) (fun c25 => ?_)
    · refine J_lconst (v := 0) dX6_cancel_34 (by decide) ?_
      exact J_lreturn dX6_cancel_35 rfl (leaf 0 (by decide) (by rw [ce, if_pos (Or.inr (by rw [← hlo]; exact c25))])) (Nat.le_of_ble_eq_true rfl) (Nat.le_of_ble_eq_true rfl)
    · have ng : ¬ (mT S 462 (tn k) = mT S 456 (tn k) ∨ mT S 462 (tn k) < mT S 475 i) := fun z => z.elim (fun y => c17 (by rw [q4]; exact y)) (fun y => c25 (by rw [hlo]; exact y))
      refine J_iload dX6_cancel_28 rfl ?_
      refine J_iconst (v := 1) dX6_cancel_30 (by decide) ?_
      refine J_icmp_ne (tgt := 36) dX6_cancel_31 (by decide) (fun c31 => ?_) (fun c31 => ?_)
      · refine J_iload dX6_cancel_36 rfl ?_
        refine J_iconst (v := 2) dX6_cancel_38 (by decide) ?_
        refine J_icmp_ne (tgt := 46) dX6_cancel_39 (by decide) (fun c39 => ?_) (fun c39 => ?_)
        · refine J_aload_n dX6_cancel_46 rfl rfl isR_r ?_
          refine J_iload_n dX6_cancel_47 rfl rfl ?_
          refine J_callV (c_isWithin (Rep.mk hr.1 hi) (hr.2.2.2.2.2.2 i hi)) dX6_cancel_48 ml_X6_345 mkX3_isWithin rfl (by first | with_reducible assumption | (simp only [hK_sI, hK_sJ, hK_sR, hK_tI, hK_tJ, hK_tR]; with_reducible assumption)) (by decide) rfl rfl (Nat.le_of_ble_eq_true rfl) ⟨Nat.le_of_ble_eq_true rfl, Nat.le_of_ble_eq_true rfl⟩ ⟨Nat.le_of_ble_eq_true rfl, Nat.le_of_ble_eq_true rfl⟩ (fun v48 hp48 q48 => ?_)
          obtain ⟨rfl, z48⟩ := q48
          rw [z48]
          refine J_if_ne (tgt := 58) dX6_cancel_51 (by decide) (fun c51 => ?_) (fun c51 => ?_)
          · refine J_aload_n dX6_cancel_58 rfl rfl isR_r ?_
            refine J_iload_n dX6_cancel_59 rfl rfl ?_
            refine J_iconst (v := 3) dX6_cancel_60 (by decide) ?_
            refine J_ldc2 dX6_cancel_61 ll_X6_350 ?_
            have hin := bi_1.mp c51
            have c1 : cancelA S (nI i) k = 1 := by rw [ce, if_neg ng, if_neg c31, if_neg c39, if_neg ((hwin (fun u => ng (Or.inr u))).mp hin)]
            rw [hA, inW_n (by omega) (by omega) (by omega), decide_eq_true_iff] at hin
            rw [hA]
            refine J_callV (c_writeR (V := 0) (own := -1) hr hI1 hW.1.2.2 h7 hi hl hin.1 hin.2 (Or.inr (Or.inr ⟨rfl, rfl⟩))) dX6_cancel_64 ml_X6_331 mkX3_write rfl (by first | with_reducible assumption | (simp only [hK_sI, hK_sJ, hK_sR, hK_tI, hK_tJ, hK_tR]; with_reducible assumption)) (by decide) rfl rfl (Nat.le_of_ble_eq_true rfl) ⟨Nat.le_of_ble_eq_true rfl, Nat.le_of_ble_eq_true rfl⟩ ⟨Nat.le_of_ble_eq_true rfl, Nat.le_of_ble_eq_true rfl⟩ (fun v64 hp64 q64 => ?_)
            obtain ⟨rfl, z1, z2⟩ := q64
            refine J_lconst (v := 1) dX6_cancel_67 (by decide) ?_
            exact J_lreturn dX6_cancel_68 rfl (by
             rw [← hQ]
             show _ ∧ _
             rw [c1, if_pos rfl, hA]
             exact ⟨rfl, z1, z2⟩) (Nat.le_of_ble_eq_true rfl) (Nat.le_of_ble_eq_true rfl)
          · refine J_ldc2 dX6_cancel_54 ll_X6_348 ?_
            exact J_lreturn dX6_cancel_57 rfl (leaf 3 (by decide) (by rw [ce, if_neg ng, if_neg c31, if_neg c39, if_pos (Decidable.byContradiction fun y => by have := (hwin (fun u => ng (Or.inr u))).mpr y; rw [bi_0.mp c51] at this; cases this)])) (Nat.le_of_ble_eq_true rfl) (Nat.le_of_ble_eq_true rfl)
        · refine J_ldc2 dX6_cancel_42 ll_X6_343 ?_
          exact J_lreturn dX6_cancel_45 rfl (leaf 2 (by decide) (by rw [ce, if_neg ng, if_neg c31, if_pos c39])) (Nat.le_of_ble_eq_true rfl) (Nat.le_of_ble_eq_true rfl)
      · refine J_lconst (v := 0) dX6_cancel_34 (by decide) ?_
        exact J_lreturn dX6_cancel_35 rfl (leaf 0 (by decide) (by rw [ce, if_neg ng, if_pos c31])) (Nat.le_of_ble_eq_true rfl) (Nat.le_of_ble_eq_true rfl)
end CN
