/-! LOWEST, as the class finds it -/
section LW
variable {x : om_x} {w : om_w} {h : Hp} {as : Nat → Nat} {S : Ms} {g : Nat}
theorem lowS_is {n m nx : Nat} (hn : n < 10) (hx : nx < 1000000) (e1 : mT S 451 n = nI nx) (hm : m ≤ nx) (lo : ∀ k, k < nA S → mT S 454 k = nI n → mT S 463 k = 0 → ∃ num, mT S 456 k = nI num ∧ m ≤ num ∧ num < nx) (hit : m < nx → ∃ k, k < nA S ∧ mT S 454 k = nI n ∧ mT S 455 k = mT S 450 n ∧ mT S 463 k = 0 ∧ mT S 456 k = nI m) : lowS S (nI n) = nI m := by
  have tnn : tn (nI n) = n := tn_nI (by omega)
  have key : ∀ j, j ≤ nA S → ∃ v, lowF S (nI n) j = nI v ∧ m ≤ v ∧ v ≤ nx ∧ ∀ k, k < j → mT S 454 k = nI n → mT S 455 k = mT S 450 n → mT S 463 k = 0 → mT S 456 k = nI m → v = m := by
    intro j
    induction j with
    | zero => intro _; exact ⟨nx, by simp only [lowF]; rw [tnn, e1], hm, Nat.le_refl _, fun k hk => by omega⟩
    | succ j ih =>
      intro hj
      obtain ⟨v, i1, i2, i3, i4⟩ := ih (by omega)
      simp only [lowF]
      rw [i1, tnn]
      by_cases c : mT S 454 j = nI n ∧ mT S 455 j = mT S 450 n ∧ mT S 463 j = 0 ∧ mT S 456 j < nI v
      · rw [if_pos c]
        obtain ⟨num, j1, j2, j3⟩ := lo j (by omega) c.1 c.2.2.1
        have c4 := c.2.2.2
        rw [j1, nI_lti (by omega) (by omega)] at c4
        refine ⟨num, j1, j2, by omega, fun k hk k1 k2 k3 k4 => ?_⟩
        by_cases ek : k = j
        · rw [ek, j1] at k4
          have := congrArg tn k4
          rw [tn_nI (by omega), tn_nI (by omega)] at this
          exact this
        · have := i4 k (by omega) k1 k2 k3 k4
          omega
      · rw [if_neg c]
        refine ⟨v, rfl, i2, i3, fun k hk k1 k2 k3 k4 => ?_⟩
        by_cases ek : k = j
        · subst ek
          by_cases hv : m < v
          · exact absurd ⟨k1, k2, k3, by rw [k4, nI_lti (by omega) (by omega)]; exact hv⟩ c
          · omega
        · exact i4 k (by omega) k1 k2 k3 k4
  obtain ⟨v, i1, i2, i3, i4⟩ := key (nA S) (Nat.le_refl _)
  unfold lowS
  rw [i1]
  by_cases hv : m < nx
  · obtain ⟨k, k1, k2, k3, k4, k5⟩ := hit hv
    rw [i4 k k1 k2 k3 k4 k5]
  · rw [show v = m by omega]
theorem REnd_low {n m : Nat} (hI1 : Inj w) (hn : n < 10) (r : REnd w as S h) (hc : ∃ nx, mT S 451 n = nI nx ∧ nx < 1000 ∧ 1 ≤ m ∧ m ≤ nx ∧ nx ≤ m + 16 ∧ ∀ k, k < nA S → mT S 454 k = nI n → mT S 463 k = 0 → ∃ num, mT S 456 k = nI num ∧ m ≤ num ∧ num < nx ∧ aR h 59 (w 7 n) (num % 16) = some (as k)) : REnd w as S (sI h 68 (w 6 n) (nI m)) := by
  intro i hi
  obtain ⟨r1, ⟨lw, nx, r2, r3, r3b, r4, r5, r5b, r6⟩, r7⟩ := r i hi
  rw [hI_ne 65 (by decide), hI_ne 66 (by decide), hI_ne 67 (by decide), aR_sI]
  refine ⟨r1, ?_, r7⟩
  by_cases e : i = n
  · subst e
    rw [hI_sI, if_pos ⟨rfl, rfl⟩]
    obtain ⟨nx, c⟩ := hc
    exact ⟨m, nx, rfl, c⟩
  · rw [hI_sI, if_neg (fun z => e (hI1 6 i n (Or.inl ⟨rfl, hi, hn⟩) z.2))]
    exact ⟨lw, nx, r2, r3, r3b, r4, r5, r5b, r6⟩
theorem Rep_low {n m : Nat} (hr : Rep w as S h) (he : REnd w as S (sI h 68 (w 6 n) (nI m))) : Rep w as S (sI h 68 (w 6 n) (nI m)) := by
  obtain ⟨a1, a2, a3, a4, a5, a6, a7⟩ := hr
  have hH : HX [68] h (sI h 68 (w 6 n) (nI m)) := HX_sI (by decide)
  exact ⟨a1.x hH (by decide), a2.x (L := []) SX.rf hH (by decide) (by decide) a1, he, a4.x (L := []) SX.rf hH (by decide) (by decide) a1, a5.x (L := []) SX.rf hH (by decide) (by decide) a1, a6.x (L := []) SX.rf hH (by decide) (by decide) a1, a7.x (L := []) SX.rf hH (by decide) (by decide) a1⟩
/-- one that is OPEN is of its name's LIFE -/
def LifeOK (S : Ms) : Prop := ∀ k, k < nA S → mT S 463 k = 0 → mT S 455 k = mT S 450 (tn (mT S 454 k))
theorem WF2.life (hW : WF2 g S) : LifeOK S := fun k hk o => (hW.2.2.2.1 k hk).2.2.2.1.2.2 o
theorem REnd.ek {n : Nat} (hC : CS w h) (hE : REnd w as S h) (hA : ∀ k, k < nA S → AskOK as S h k) (hn : n < 10) : EK h (w 6 n) (w 7 n) := by
  obtain ⟨q1, q2, q3, q4, q5, q6⟩ := hC.2.2.1 n hn
  refine ⟨q2, q4, q5, q6, fun j hj a ha => ?_⟩
  rcases (hE n hn).2.2 j hj with e | ⟨k, k1, k2, -⟩
  · rw [e] at ha; cases ha
  · rw [k2] at ha
    injection ha with ha
    rw [← ha]
    exact (hA k k1).1
theorem c_lowE {n : Nat} (hC : CS w h) (hE : REnd w as S h) (hA : ∀ k, k < nA S → AskOK as S h k) (hI1 : Inj w) (hW : LifeOK S) (hn : n < 10) : Mt x 1 kX1_lowestOpen 0 0 [.ref (w 6 n)] h (fun z h' => z = some (.int (lowS S (nI n))) ∧ ∃ m, lowS S (nI n) = nI m ∧ m < 1000 ∧ (∃ nx, mT S 451 n = nI nx ∧ m ≤ nx ∧ nx < 1000 ∧ nx ≤ m + 16) ∧ h' = sI h 68 (w 6 n) (nI m) ∧ REnd w as S h') := by
  obtain ⟨⟨r0, r0b, r0c⟩, ⟨lw, nx, r2, r3, r3b, r4, r5, r5b, r6⟩, r7⟩ := hE n hn
  have hlow := c_lowestOpen (x := x) (hE.ek hC hA hn) r2 (r0c.trans r3) r5 (by omega)
  refine Mt.weak (fun z h' q => ?_) hlow
  obtain ⟨m, m1, m2, m3, m4, m5, m6⟩ := q
  have opn_ : ∀ k, k < nA S → mT S 454 k = nI n → mT S 463 k = 0 → ∃ num, mT S 456 k = nI num ∧ m ≤ num ∧ num < nx ∧ aR h 59 (w 7 n) (num % 16) = some (as k) := by
    intro k k1 k2 k3
    obtain ⟨num, p1, p2, p3, p4⟩ := r6 k k1 k2 k3
    refine ⟨num, p1, ?_, p3, p4⟩
    rcases Nat.lt_or_ge num m with q | q
    · have := m3 num p2 q
      rw [p4] at this
      unfold opU at this
      rw [decide_eq_false_iff_not, (hA k k1).2.2.2.2.2.2.2.2.2.2.1] at this
      exact absurd k3 this
    · exact q
  have hit : m < nx → ∃ k, k < nA S ∧ mT S 454 k = nI n ∧ mT S 455 k = mT S 450 n ∧ mT S 463 k = 0 ∧ mT S 456 k = nI m := by
    intro hm
    have o := m4 hm
    rcases r7 (m % 16) (Nat.mod_lt _ (by decide)) with e | ⟨k, k1, k2, k3, num, k4, k5, k6⟩
    · rw [e] at o; cases o
    · rw [k2] at o
      unfold opU at o
      rw [decide_eq_true_iff, (hA k k1).2.2.2.2.2.2.2.2.2.2.1] at o
      obtain ⟨num', p1, p2, p3, p4⟩ := r6 k k1 k3 o
      have w3 := hW k k1
      have en : num' = num := by
        have := congrArg tn (p1.symm.trans k4)
        rw [tn_nI (by omega), tn_nI (by omega)] at this
        exact this
      refine ⟨k, k1, k3, ?_, o, ?_⟩
      · have := w3 o
        rw [k3, tn_nI (by omega)] at this
        exact this
      · rw [p1, show num' = m by omega]
  have e := lowS_is hn (by omega) r3 m2 (fun k k1 k2 k3 => by
    obtain ⟨num, p1, p2, p3, p4⟩ := opn_ k k1 k2 k3
    exact ⟨num, p1, p2, p3⟩) hit
  rw [m6, m5, e]
  exact ⟨rfl, m, rfl, by omega, ⟨nx, r3, m2, r3b, by omega⟩, rfl, REnd_low hI1 hn hE ⟨nx, r3, r3b, by omega, m2, by omega, opn_⟩⟩
theorem c_lowR {n : Nat} (hr : Rep w as S h) (hI1 : Inj w) (hW : LifeOK S) (hn : n < 10) : Mt x 1 kX1_lowestOpen 0 0 [.ref (w 6 n)] h (fun z h' => z = some (.int (lowS S (nI n))) ∧ ∃ m, lowS S (nI n) = nI m ∧ m < 1000 ∧ (∃ nx, mT S 451 n = nI nx ∧ m ≤ nx ∧ nx < 1000 ∧ nx ≤ m + 16) ∧ h' = sI h 68 (w 6 n) (nI m) ∧ Rep w as S h') := by
  refine Mt.weak (fun z h' q => ?_) (c_lowE hr.1 hr.2.2.1 hr.2.2.2.1.2.2.1 hI1 hW hn)
  obtain ⟨q1, m, q2, q3, q4, q5, q6⟩ := q
  subst q5
  exact ⟨q1, m, q2, q3, q4, rfl, Rep_low hr q6⟩
theorem inN3 {v : Int32} (a : ¬ v = 0) (b : ¬ v = 1) (c : ¬ v = 2) : inN v 3 = false := by
  cases h9 : inN v 3 with
  | false => rfl
  | true =>
    have z := inN_tn h9
    have z2 : tn v = 0 ∨ tn v = 1 ∨ tn v = 2 := by omega
    rcases z2 with e | e | e
    · rw [e] at z; exact absurd z.1 a
    · rw [e] at z; exact absurd z.1 b
    · rw [e] at z; exact absurd z.1 c
set_option maxRecDepth 100000 in
set_option maxHeartbeats 4000000 in
theorem c_name {n v : Int32} (hr : Rep w as S h) (hI1 : Inj w) (hW : WF2 g S) : Mt x 2 kX6_name 0 0 [.ref (w 0 0), .int n, .int v] h (fun z h' => z = some (.int (nameP S n v)) ∧ Rep w as S h' ∧ HX [68] h h') := by
  refine Mt.ofJ mkX6_name.1 (Nat.le_of_ble_eq_true rfl) ?_
  have o1 := hr.1.1.1
  unfold nameP
  cases hn : inN n 10 with
  | false =>
    rw [if_pos (Or.inl rfl)]
    refine J_aload_n dX6_name_0 rfl rfl isR_r ?_
    refine J_iload_n dX6_name_1 rfl rfl ?_
    refine J_callV (c_endOf hr.1) dX6_name_2 ml_X6_64 mkX6_endOf rfl (by first | with_reducible assumption | (simp only [hK_sI, hK_sJ, hK_sR, hK_tI, hK_tJ, hK_tR]; with_reducible assumption)) (by decide) rfl rfl (Nat.le_of_ble_eq_true rfl) ⟨Nat.le_of_ble_eq_true rfl, Nat.le_of_ble_eq_true rfl⟩ ⟨Nat.le_of_ble_eq_true rfl, Nat.le_of_ble_eq_true rfl⟩ (fun v2 hp2 q2 => ?_)
    obtain ⟨rfl, z2⟩ := q2
    rw [z2]
    rw [hn]
    refine J_astore_n dX6_name_5 rfl isR_n (by decide) ?_
    refine J_aload_n dX6_name_6 rfl rfl isR_n ?_
    refine J_ifnonnull_n dX6_name_7 ?_
    refine J_ldc dX6_name_10 lc_X6_55 ?_
    exact J_ireturn dX6_name_12 rfl ⟨rfl, hr, HX.rf⟩ (Nat.le_of_ble_eq_true rfl) (Nat.le_of_ble_eq_true rfl)
  | true =>
    have ht := inN_tn hn
    obtain ⟨q1, q2, q3, q4, q5, q6⟩ := hr.1.2.2.1 _ ht.2.1
    obtain ⟨⟨r0, r0b, r0c⟩, -⟩ := hr.2.2.1 _ ht.2.1
    refine J_aload_n dX6_name_0 rfl rfl isR_r ?_
    refine J_iload_n dX6_name_1 rfl rfl ?_
    refine J_callV (c_endOf hr.1) dX6_name_2 ml_X6_64 mkX6_endOf rfl (by first | with_reducible assumption | (simp only [hK_sI, hK_sJ, hK_sR, hK_tI, hK_tJ, hK_tR]; with_reducible assumption)) (by decide) rfl rfl (Nat.le_of_ble_eq_true rfl) ⟨Nat.le_of_ble_eq_true rfl, Nat.le_of_ble_eq_true rfl⟩ ⟨Nat.le_of_ble_eq_true rfl, Nat.le_of_ble_eq_true rfl⟩ (fun v2 hp2 q2 => ?_)
    obtain ⟨rfl, z2⟩ := q2
    rw [z2]
    rw [hn]
    refine J_astore_n dX6_name_5 rfl isR_r (by decide) ?_
    refine J_aload_n dX6_name_6 rfl rfl isR_r ?_
    refine J_ifnonnull_r (tgt := 13) dX6_name_7 (by decide) ?_
    refine J_iload_n dX6_name_13 rfl rfl ?_
    by_cases s14_0 : v = 0
    · refine J_st (st' := [.int 0]) (by rw [s14_0] <;> rfl) ?_
      refine J_tswIn (off := 26) (tgt := 40) dX6_name_14 (by decide) (by decide) (by decide) (by decide) ?_
      refine J_aload_n dX6_name_40 rfl rfl isR_r ?_
      refine J_callV (c_lowR hr hI1 hW.life ht.2.1) dX6_name_41 ml_X6_133 mkX1_lowestOpen rfl (by first | with_reducible assumption | (simp only [hK_sI, hK_sJ, hK_sR, hK_tI, hK_tJ, hK_tR]; with_reducible assumption)) (by decide) rfl rfl (Nat.le_of_ble_eq_true rfl) ⟨Nat.le_of_ble_eq_true rfl, Nat.le_of_ble_eq_true rfl⟩ ⟨Nat.le_of_ble_eq_true rfl, Nat.le_of_ble_eq_true rfl⟩ (fun v41 hp41 q41 => ?_)
      obtain ⟨rfl, m, z41, z42, z4x, z43, z44⟩ := q41
      exact J_ireturn dX6_name_44 rfl ⟨by rw [s14_0, if_neg (fun z => z.elim (fun q => by cases q) (fun q => absurd q (by decide))), if_pos rfl, ← ht.1], z44, by rw [z43]; exact HX_sI (by decide)⟩ (Nat.le_of_ble_eq_true rfl) (Nat.le_of_ble_eq_true rfl)
    -- else
    by_cases s14_1 : v = 1
    · refine J_st (st' := [.int 1]) (by rw [s14_1] <;> rfl) ?_
      refine J_tswIn (off := 31) (tgt := 45) dX6_name_14 (by decide) (by decide) (by decide) (by decide) ?_
      refine J_aload_n dX6_name_45 rfl rfl isR_r ?_
      refine J_getI dX6_name_46 g_X6_137 (by first | with_reducible assumption | (simp only [hK_sI, hK_sJ, hK_sR, hK_tI, hK_tJ, hK_tR]; with_reducible assumption)) ?_
      exact J_ireturn dX6_name_49 rfl ⟨by rw [s14_1, if_neg (fun z => z.elim (fun q => by cases q) (fun q => absurd q (by decide))), if_neg (by decide), if_pos rfl, r0b], hr, HX.rf⟩ (Nat.le_of_ble_eq_true rfl) (Nat.le_of_ble_eq_true rfl)
    -- else
    by_cases s14_2 : v = 2
    · refine J_st (st' := [.int 2]) (by rw [s14_2] <;> rfl) ?_
      refine J_tswIn (off := 36) (tgt := 50) dX6_name_14 (by decide) (by decide) (by decide) (by decide) ?_
      refine J_aload_n dX6_name_50 rfl rfl isR_r ?_
      refine J_getI dX6_name_51 g_X6_138 (by first | with_reducible assumption | (simp only [hK_sI, hK_sJ, hK_sR, hK_tI, hK_tJ, hK_tR]; with_reducible assumption)) ?_
      exact J_ireturn dX6_name_54 rfl ⟨by rw [s14_2, if_neg (fun z => z.elim (fun q => by cases q) (fun q => absurd q (by decide))), if_neg (by decide), if_neg (by decide), r0c], hr, HX.rf⟩ (Nat.le_of_ble_eq_true rfl) (Nat.le_of_ble_eq_true rfl)
    -- else
    have tt : (v).toInt ≠ 0 ∧ (v).toInt ≠ 1 ∧ (v).toInt ≠ 2 := ⟨fun z => s14_0 (Int32.toInt_inj.mp (z.trans (by decide))), fun z => s14_1 (Int32.toInt_inj.mp (z.trans (by decide))), fun z => s14_2 (Int32.toInt_inj.mp (z.trans (by decide)))⟩
    refine J_tswOut (tgt := 55) dX6_name_14 (by omega) (by decide) ?_
    refine J_ldc dX6_name_55 lc_X6_55 ?_
    exact J_ireturn dX6_name_57 rfl ⟨by rw [if_pos (Or.inr (inN3 s14_0 s14_1 s14_2))], hr, HX.rf⟩ (Nat.le_of_ble_eq_true rfl) (Nat.le_of_ble_eq_true rfl)
end LW
