/-! record; remind; rise -/
section RI
variable {x : om_x} {w : om_w} {h h' : Hp} {as : Nat → Nat} {S S' : Ms} {g : Nat}
set_option maxRecDepth 100000 in
set_option maxHeartbeats 4000000 in
theorem c_record {s n num : Int32} (hr : Rep w as S h) (hW : WF2 g S) : Mt x 2 kX6_record 0 0 [.ref (w 0 0), .int s, .int n, .int num] h (fun z h' => z = some (.int (recordP S s n num)) ∧ h' = h) := by
  refine Mt.ofJ mkX6_record.1 (Nat.le_of_ble_eq_true rfl) ?_
  have o1 := hr.1.1.1
  by_cases c : inN s 4 = true ∧ inN n 10 = true
  · have hs := (inN_tn c.1).2.1
    have hn := (inN_tn c.2).2.1
    have hi : 10 * tn s + tn n < 40 := by omega
    have kM := (Rep.mk hr.1 hi).1
    have e : recordP S s n num = stR (fR S (nI (10 * tn s + tn n)) num) := by
      unfold recordP
      rw [if_neg (fun z => z.elim (fun q => by rw [c.1] at q; cases q) (fun q => by rw [c.2] at q; cases q)), (of_tn c.1 c.2).2, fR_fnd]
      cases fnd S (nI (10 * tn s + tn n)) num <;> rfl
    rw [e]
    refine J_aload_n dX6_record_0 rfl rfl isR_r ?_
    refine J_iload_n dX6_record_1 rfl rfl ?_
    refine J_iload_n dX6_record_2 rfl rfl ?_
    refine J_callV (c_memoryOf hr.1) dX6_record_3 ml_X6_191 mkX6_memoryOf rfl (by first | with_reducible assumption | (simp only [hK_sI, hK_sJ, hK_sR, hK_tI, hK_tJ, hK_tR]; with_reducible assumption)) (by decide) rfl rfl (Nat.le_of_ble_eq_true rfl) ⟨Nat.le_of_ble_eq_true rfl, Nat.le_of_ble_eq_true rfl⟩ ⟨Nat.le_of_ble_eq_true rfl, Nat.le_of_ble_eq_true rfl⟩ (fun v3 hp3 q3 => ?_)
    obtain ⟨rfl, z3⟩ := q3
    rw [z3]
    rw [if_pos c]
    refine J_astore dX6_record_6 isR_r (by decide) ?_
    refine J_aload dX6_record_8 rfl isR_r ?_
    refine J_ifnonnull_r (tgt := 18) dX6_record_10 (by decide) ?_
    refine J_aload dX6_record_18 rfl isR_r ?_
    refine J_iload_n dX6_record_20 rfl rfl ?_
    refine J_pc (pc' := 21) rfl ?_
    refine J_callV (c_stateR hr hW.rw_ hi (hW.lo hi)) dX6_record_21 ml_X6_204 mkX3_stateOf rfl (by first | with_reducible assumption | (simp only [hK_sI, hK_sJ, hK_sR, hK_tI, hK_tJ, hK_tR]; with_reducible assumption)) (by decide) rfl rfl (Nat.le_of_ble_eq_true rfl) ⟨Nat.le_of_ble_eq_true rfl, Nat.le_of_ble_eq_true rfl⟩ ⟨Nat.le_of_ble_eq_true rfl, Nat.le_of_ble_eq_true rfl⟩ (fun v21 hp21 q21 => ?_)
    obtain ⟨rfl, z21⟩ := q21
    rw [z21]
    exact J_ireturn dX6_record_24 rfl ⟨rfl, rfl⟩ (Nat.le_of_ble_eq_true rfl) (Nat.le_of_ble_eq_true rfl)
  · have bad : inN s 4 = false ∨ inN n 10 = false := by
      cases hs : inN s 4 with
      | false => exact Or.inl rfl
      | true => cases hn : inN n 10 with
        | false => exact Or.inr rfl
        | true => exact absurd ⟨hs, hn⟩ c
    have e : recordP S s n num = -2000001 := by unfold recordP; rw [if_pos bad]
    rw [e]
    refine J_aload_n dX6_record_0 rfl rfl isR_r ?_
    refine J_iload_n dX6_record_1 rfl rfl ?_
    refine J_iload_n dX6_record_2 rfl rfl ?_
    refine J_callV (c_memoryOf hr.1) dX6_record_3 ml_X6_191 mkX6_memoryOf rfl (by first | with_reducible assumption | (simp only [hK_sI, hK_sJ, hK_sR, hK_tI, hK_tJ, hK_tR]; with_reducible assumption)) (by decide) rfl rfl (Nat.le_of_ble_eq_true rfl) ⟨Nat.le_of_ble_eq_true rfl, Nat.le_of_ble_eq_true rfl⟩ ⟨Nat.le_of_ble_eq_true rfl, Nat.le_of_ble_eq_true rfl⟩ (fun v3 hp3 q3 => ?_)
    obtain ⟨rfl, z3⟩ := q3
    rw [z3]
    rw [if_neg c]
    refine J_astore dX6_record_6 isR_n (by decide) ?_
    refine J_aload dX6_record_8 rfl isR_n ?_
    refine J_ifnonnull_n dX6_record_10 ?_
    refine J_ldc dX6_record_13 lc_X6_55 ?_
    refine J_pc (pc' := 15) rfl ?_
    refine J_goto (tgt := 24) dX6_record_15 (by decide) ?_
    exact J_ireturn dX6_record_24 rfl ⟨rfl, rfl⟩ (Nat.le_of_ble_eq_true rfl) (Nat.le_of_ble_eq_true rfl)
set_option maxRecDepth 100000 in
set_option maxHeartbeats 4000000 in
theorem c_remind {o b : Int32} (hr : Rep w as S h) (hI1 : Inj w) (hW : WF1 S) (hLf : LifeOK S) (ho : o = -1 ∨ inN o (nA S) = true) (hb : lv S b) : Mt x 3 kX6_remind 0 0 [.ref (w 0 0), va_rf (lnk as o), .int b] h (fun z h' => z = some (.int (mI (if o ≠ -1 ∧ mT S 463 (tn o) = 0 then sendF S o false 0 else S) 486 - mI S 486)) ∧ Rep w as (if o ≠ -1 ∧ mT S 463 (tn o) = 0 then sendF S o false 0 else S) h' ∧ HX SndX h h') := by
  have o1 := hr.1.1.1
  by_cases e : o = -1
  · rw [lnk_n e, if_neg (fun z => z.1 e), Int32.sub_self]
    refine Mt.ofJ mkX6_remind.1 (Nat.le_of_ble_eq_true rfl) ?_
    refine J_aload_n dX6_remind_0 rfl rfl isR_n ?_
    refine J_ifnull_n (tgt := 20) dX6_remind_1 (by decide) ?_
    refine J_iconst (v := 0) dX6_remind_20 (by decide) ?_
    exact J_ireturn dX6_remind_21 rfl ⟨rfl, hr, HX.rf⟩ (Nat.le_of_ble_eq_true rfl) (Nat.le_of_ble_eq_true rfl)
  · have e2 := ho.resolve_left e
    have hkk := (inN_tn e2).2.1
    obtain ⟨q0, q1, q2, q3, q4, q5, q6, q7, q8, q9, q10, -⟩ := hr.2.2.2.1.2.2.1 _ hkk
    rw [lnk_r e2]
    refine Mt.ofJ mkX6_remind.1 (Nat.le_of_ble_eq_true rfl) ?_
    by_cases c : mT S 463 (tn o) = 0
    · rw [if_pos ⟨e, c⟩]
      refine J_aload_n dX6_remind_0 rfl rfl isR_r ?_
      refine J_ifnull_r dX6_remind_1 ?_
      refine J_aload_n dX6_remind_4 rfl rfl isR_r ?_
      refine J_getI dX6_remind_5 g_X6_92 (by first | with_reducible assumption | (simp only [hK_sI, hK_sJ, hK_sR, hK_tI, hK_tJ, hK_tR]; with_reducible assumption)) ?_
      refine J_if_ne (tgt := 20) dX6_remind_8 (by decide) (fun c8 => ((show False from c8 (by rw [q10]; exact c))).elim) (fun c8 => ?_)
      refine J_aload_n dX6_remind_11 rfl rfl isR_r ?_
      refine J_aload_n dX6_remind_12 rfl rfl isR_r ?_
      refine J_iload_n dX6_remind_13 rfl rfl ?_
      refine J_callV (c_sendAsk hr hI1 hW hLf e2 hb) dX6_remind_14 ml_X6_78 mkX6_sendAsk rfl (by first | with_reducible assumption | (simp only [hK_sI, hK_sJ, hK_sR, hK_tI, hK_tJ, hK_tR]; with_reducible assumption)) (by decide) rfl rfl (Nat.le_of_ble_eq_true rfl) ⟨Nat.le_of_ble_eq_true rfl, Nat.le_of_ble_eq_true rfl⟩ ⟨Nat.le_of_ble_eq_true rfl, Nat.le_of_ble_eq_true rfl⟩ (fun v14 hp14 q14 => ?_)
      obtain ⟨rfl, z1, z2⟩ := q14
      refine J_pc (pc' := 17) rfl ?_
      refine J_goto (tgt := 21) dX6_remind_17 (by decide) ?_
      exact J_ireturn dX6_remind_21 rfl ⟨rfl, z1, z2⟩ (Nat.le_of_ble_eq_true rfl) (Nat.le_of_ble_eq_true rfl)
    · rw [if_neg (fun z => c z.2), Int32.sub_self]
      refine J_aload_n dX6_remind_0 rfl rfl isR_r ?_
      refine J_ifnull_r dX6_remind_1 ?_
      refine J_aload_n dX6_remind_4 rfl rfl isR_r ?_
      refine J_getI dX6_remind_5 g_X6_92 (by first | with_reducible assumption | (simp only [hK_sI, hK_sJ, hK_sR, hK_tI, hK_tJ, hK_tR]; with_reducible assumption)) ?_
      refine J_if_ne (tgt := 20) dX6_remind_8 (by decide) (fun c8 => ?_) (fun c8 => ((show False from c (by rw [← q10]; exact c8))).elim)
      refine J_iconst (v := 0) dX6_remind_20 (by decide) ?_
      exact J_ireturn dX6_remind_21 rfl ⟨rfl, hr, HX.rf⟩ (Nat.le_of_ble_eq_true rfl) (Nat.le_of_ble_eq_true rfl)
theorem rs_at (n : Int32) : ∀ k f j, mT (rsF S n k) f j = if f = 463 ∧ j < k ∧ mT S 454 j = n ∧ mT S 463 j = 0 then 2 else mT S f j
  | 0, f, j => by rw [if_neg (fun z => absurd z.2.1 (by omega))]; rfl
  | k + 1, f, j => by
    have i1 := rs_at n k 454 k
    have i2 := rs_at n k 463 k
    rw [if_neg (fun z => absurd z.1 (by decide))] at i1
    rw [if_neg (fun z => absurd z.2.1 (by omega))] at i2
    simp only [rsF]
    rw [mT_pT, i1, i2]
    by_cases e : f = 463 ∧ j = k
    · rw [if_pos e, e.1, e.2]
      by_cases c : mT S 454 k = n ∧ mT S 463 k = 0
      · rw [if_pos c, if_pos ⟨rfl, by omega, c.1, c.2⟩]
      · rw [if_neg c, if_neg (fun z => c ⟨z.2.2.1, z.2.2.2⟩)]
    · rw [if_neg e, rs_at n k f j]
      by_cases c : f = 463 ∧ j < k ∧ mT S 454 j = n ∧ mT S 463 j = 0
      · rw [if_pos c, if_pos ⟨c.1, by omega, c.2.2.1, c.2.2.2⟩]
      · rw [if_neg c, if_neg (fun z => c ⟨z.1, by have := z.2.1; have : j ≠ k := fun y => e ⟨z.1, y⟩; omega, z.2.2.1, z.2.2.2⟩)]
theorem rs_J (n : Int32) : ∀ k f, mJ (rsF S n k) f = mJ S f
  | 0, _ => rfl
  | k + 1, f => by
    simp only [rsF]
    exact rs_J n k f
theorem SX_rs (n : Int32) (k : Nat) : SX [463] S (rsF S n k) := fun f hf => ⟨rs_I n f k, funext fun j => by rw [rs_at, if_neg (fun z => hf (by rw [z.1]; decide))], rs_J n k f⟩
theorem Rep_up {n : Nat} (hI1 : Inj w) (hn : n < 10) (hr : Rep w as S h) : Rep w as (pT S 449 n 0) (sI h 65 (w 6 n) 1) := by
  have hS : SX [449] S (pT S 449 n 0) := SX_pT (by decide)
  have hH : HX [65] h (sI h 65 (w 6 n) 1) := HX_sI (by decide)
  obtain ⟨a1, a2, a3, a4, a5, a6, a7⟩ := hr
  refine ⟨a1.x hH (by decide), a2.x hS hH (by decide) (by decide) a1, ?_, a4.x hS hH (by decide) (by decide) a1, a5.x hS hH (by decide) (by decide) a1, a6.x hS hH (by decide) (by decide) a1, a7.x hS hH (by decide) (by decide) a1⟩
  intro i hi
  obtain ⟨⟨r1, r1b, r1c⟩, r2, r3⟩ := a3 i hi
  rw [hI_ne 66 (by decide), hI_ne 67 (by decide), aR_sI, nA_pT, (hS 450 (by decide)).2.1, (hS 451 (by decide)).2.1, (hS 454 (by decide)).2.1, (hS 456 (by decide)).2.1, (hS 463 (by decide)).2.1, hI_ne 68 (by decide)]
  refine ⟨⟨?_, r1b, r1c⟩, r2, r3⟩
  rw [hI_sI, mT_pT]
  by_cases e : i = n
  · subst e
    simp
  · have w1 : w 6 i ≠ w 6 n := fun z => e (hI1 6 i n (Or.inl ⟨rfl, hi, hn⟩) z)
    simp only [w1, e, and_false, if_false]
    exact r1
end RI
