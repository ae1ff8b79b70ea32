/-! a new LIFE of an end -/
section RJ
variable {x : om_x} {w : om_w} {h h' : Hp} {as : Nat → Nat} {S S' : Ms} {g : Nat}
theorem Rep_life {n : Nat} (hr : Rep w as S h) (hI1 : Inj w) (hn : n < 10) (hF : FrE h h' (w 6 n)) (e66 : hI h' 66 (w 6 n) = hI h 66 (w 6 n) + 1) (e67 : hI h' 67 (w 6 n) = 1) (e68 : hI h' 68 (w 6 n) = 1) (hin : ∀ b, inSl h (w 7 n) 16 b → hI h 10 b = 0 → hI h' 10 b = 2) (hout : ∀ b, ¬ (inSl h (w 7 n) 16 b ∧ hI h 10 b = 0) → hI h' 10 b = hI h 10 b) : Rep w as (rsF (pT (pT S 450 n (mT S 450 n + 1)) 451 n 1) (nI n) (nA S)) h' := by
  have hS2 : SX [450, 451] S (pT (pT S 450 n (mT S 450 n + 1)) 451 n 1) := (SX_pT (by decide)).tr (SX_pT (by decide))
  have hS : SX [450, 451, 463] S (rsF (pT (pT S 450 n (mT S 450 n + 1)) 451 n 1) (nI n) (nA S)) := (hS2.sub (by decide)).tr ((SX_rs _ _).sub (by decide))
  have m463 : ∀ j, mT (rsF (pT (pT S 450 n (mT S 450 n + 1)) 451 n 1) (nI n) (nA S)) 463 j = if j < nA S ∧ mT S 454 j = nI n ∧ mT S 463 j = 0 then 2 else mT S 463 j := fun j => by
    rw [rs_at, (hS2 454 (by decide)).2.1, (hS2 463 (by decide)).2.1]
    by_cases c : j < nA S ∧ mT S 454 j = nI n ∧ mT S 463 j = 0
    · rw [if_pos c, if_pos ⟨rfl, c⟩]
    · rw [if_neg c, if_neg (fun z => c z.2)]
  have m450 : ∀ j, mT (rsF (pT (pT S 450 n (mT S 450 n + 1)) 451 n 1) (nI n) (nA S)) 450 j = if j = n then mT S 450 n + 1 else mT S 450 j := fun j => by
    rw [rs_at, if_neg (fun z => absurd z.1 (by decide))]
    simp [mT_pT]
  have m451 : ∀ j, mT (rsF (pT (pT S 450 n (mT S 450 n + 1)) 451 n 1) (nI n) (nA S)) 451 j = if j = n then 1 else mT S 451 j := fun j => by
    rw [rs_at, if_neg (fun z => absurd z.1 (by decide))]
    simp [mT_pT]
  generalize hS' : rsF (pT (pT S 450 n (mT S 450 n + 1)) 451 n 1) (nI n) (nA S) = S' at *
  have hH : HX [10, 66, 67, 68] h h' := hF.x
  have eA : nA S' = nA S := by unfold nA; rw [(hS 453 (by decide)).1]
  have hF8 := hF.2.2.2.2.2.2.2
  obtain ⟨a1, a2, a3, a4, a5, a6, a7⟩ := hr
  refine ⟨a1.x hH (by decide), a2.x hS hH (by decide) (by decide) a1, fun i hi => ?_, ?_, a5.x hS hH (by decide) (by decide) a1, a6.x hS hH (by decide) (by decide) a1, a7.x hS hH (by decide) (by decide) a1⟩
  · obtain ⟨-, q2, -, -, q5, -⟩ := a1.2.2.1 i hi
    have k0 : hK h (w 6 i) ≠ 0 := by rw [q2]; decide
    obtain ⟨⟨r1, r1b, r1c⟩, ⟨lw, nx, r2, r3, r3b, r4, r5, r5b, r6⟩, r7⟩ := a3 i hi
    rw [eA, (hH.2.1 65 _ (by decide) k0).1, (hS 449 (by decide)).2.1, (hS 454 (by decide)).2.1, (hS 456 (by decide)).2.1, hF.2.2.2.2.2.2.1, m450, m451]
    by_cases e : i = n
    · subst e
      rw [if_pos rfl, if_pos rfl, e66, e67, e68]
      refine ⟨⟨r1, by rw [r1b], rfl⟩, ⟨1, 1, rfl, rfl, by omega, by omega, by omega, by omega, fun k j1 j2 j3 => ?_⟩, r7⟩
      rw [m463] at j3
      by_cases c : k < nA S ∧ mT S 454 k = nI i ∧ mT S 463 k = 0
      · rw [if_pos c] at j3; exact absurd j3 (by decide)
      · rw [if_neg c] at j3; exact absurd ⟨j1, j2, j3⟩ c
    · have w1 : w 6 i ≠ w 6 n := fun z => e (hI1 6 i n (Or.inl ⟨rfl, hi, hn⟩) z)
      rw [if_neg e, if_neg e, hF8 66 _ (by decide) (fun z => w1 z.1), hF8 67 _ (by decide) (fun z => w1 z.1), hF8 68 _ (by decide) (fun z => w1 z.1)]
      refine ⟨⟨r1, r1b, r1c⟩, ⟨lw, nx, r2, r3, r3b, r4, r5, r5b, fun k j1 j2 j3 => r6 k j1 j2 ?_⟩, r7⟩
      rw [m463, if_neg (fun z => e (by have := congrArg tn (j2.symm.trans z.2.1); rw [tn_nI (by omega), tn_nI (by omega)] at this; exact this))] at j3
      exact j3
  · obtain ⟨r1, r2, r3, r4⟩ := a4
    obtain ⟨-, ⟨lw, nx, -, -, -, -, -, -, c6⟩, c7⟩ := a3 n hn
    have k3 : hK h (w 3 0) ≠ 0 := by rw [a1.2.1.2.2.1.1]; decide
    refine ⟨fun j hj => ?_, fun j hj hj2 => ?_, fun j hj => ?_, fun j l hj hl => r4 j l (eA ▸ hj) (eA ▸ hl)⟩
    · rw [(hH.2.2 43 _ j (by decide) k3).2.2]; exact r1 j (eA ▸ hj)
    · rw [(hH.2.2 43 _ j (by decide) k3).2.2]; exact r2 j (eA ▸ hj) hj2
    · have hj' : j < nA S := eA ▸ hj
      have q := r3 j hj'
      have k0 : hK h (as j) ≠ 0 := by rw [q.1]; decide
      unfold AskOK at q ⊢
      rw [(hH.1 _ k0).1, (hH.2.1 0 _ (by decide) k0).1, (hH.2.1 1 _ (by decide) k0).1, (hH.2.1 2 _ (by decide) k0).1, (hH.2.1 3 _ (by decide) k0).1, (hH.2.1 4 _ (by decide) k0).1, (hH.2.1 5 _ (by decide) k0).1, (hH.2.1 6 _ (by decide) k0).1, (hH.2.1 7 _ (by decide) k0).1, (hH.2.1 8 _ (by decide) k0).1, (hH.2.1 9 _ (by decide) k0).1, (hH.2.1 11 _ (by decide) k0).2.1, (hH.2.1 12 _ (by decide) k0).1, (hH.2.1 13 _ (by decide) k0).2.2, (hH.2.1 14 _ (by decide) k0).2.2]
      rw [(hS 454 (by decide)).2.1, (hS 455 (by decide)).2.1, (hS 456 (by decide)).2.1, (hS 457 (by decide)).2.1, (hS 458 (by decide)).2.1, (hS 459 (by decide)).2.1, (hS 460 (by decide)).2.1, (hS 461 (by decide)).2.1, (hS 462 (by decide)).2.1, (hS 464 (by decide)).2.2, (hS 465 (by decide)).2.1, (hS 466 (by decide)).2.1, (hS 467 (by decide)).2.1, m463]
      obtain ⟨q0, q1, q2, q3, q4, q5, q6, q7, q8, q9, q10, q11, q12, q13, q14⟩ := q
      refine ⟨q0, q1, q2, q3, q4, q5, q6, q7, q8, q9, ?_, ?_, q12, q13, q14⟩
      · by_cases c : j < nA S ∧ mT S 454 j = nI n ∧ mT S 463 j = 0
        · rw [if_pos c]
          obtain ⟨num, p1, p2, p3, p4⟩ := c6 j c.1 c.2.1 c.2.2
          exact hin _ ⟨num % 16, Nat.mod_lt _ (by decide), p4⟩ (by rw [q10]; exact c.2.2)
        · rw [if_neg c, hout _ (fun z => c ?_), q10]
          obtain ⟨⟨l, l1, l2⟩, z2⟩ := z
          rcases c7 l l1 with e | ⟨k, p1, p2, p3, -⟩
          · rw [l2] at e; cases e
          · rw [l2] at p2
            injection p2 with p2
            have := r4 j k hj' p1 p2
            rw [← this] at p3
            exact ⟨hj', p3, by rw [← q10]; exact z2⟩
      · by_cases c : j < nA S ∧ mT S 454 j = nI n ∧ mT S 463 j = 0
        · rw [if_pos c]; exact fun z => absurd z (by decide)
        · rw [if_neg c]; exact q11
set_option maxRecDepth 100000 in
set_option maxHeartbeats 4000000 in
theorem c_rise {n : Int32} (hI1 : Inj w) (hr : Rep w as S h) : Mt x 2 kX6_rise 0 0 [.ref (w 0 0), .int n] h (fun z h' => z = some (.int (riseP S n).1) ∧ Rep w as (riseP S n).2 h' ∧ HX [10, 65, 66, 67, 68] h h') := by
  refine Mt.ofJ mkX6_rise.1 (Nat.le_of_ble_eq_true rfl) ?_
  have o1 := hr.1.1.1
  unfold riseP
  cases hi : inN n 10 with
  | false =>
    rw [if_pos rfl]
    refine J_aload_n dX6_rise_0 rfl rfl isR_r ?_
    refine J_iload_n dX6_rise_1 rfl rfl ?_
    refine J_callV (c_endOf hr.1) dX6_rise_2 ml_X6_64 mkX6_endOf rfl (by first | with_reducible assumption | (simp only [hK_sI, hK_sJ, hK_sR, hK_tI, hK_tJ, hK_tR]; with_reducible assumption)) (by decide) rfl rfl (Nat.le_of_ble_eq_true rfl) ⟨Nat.le_of_ble_eq_true rfl, Nat.le_of_ble_eq_true rfl⟩ ⟨Nat.le_of_ble_eq_true rfl, Nat.le_of_ble_eq_true rfl⟩ (fun v2 hp2 q2 => ?_)
    obtain ⟨rfl, z2⟩ := q2
    rw [z2]
    rw [hi]
    refine J_astore_n dX6_rise_5 rfl isR_n (by decide) ?_
    refine J_aload_n dX6_rise_6 rfl rfl isR_n ?_
    refine J_ifnonnull_n dX6_rise_7 ?_
    refine J_ldc dX6_rise_10 lc_X6_55 ?_
    exact J_ireturn dX6_rise_12 rfl ⟨rfl, hr, HX.rf⟩ (Nat.le_of_ble_eq_true rfl) (Nat.le_of_ble_eq_true rfl)
  | true =>
    have ht := (inN_tn hi).2.1
    have hte := (inN_tn hi).1
    have k6 := (hr.1.2.2.1 _ ht).2.1
    have e64 := (hr.1.2.2.1 _ ht).2.2.1
    have hU := Rep_up hI1 ht hr
    have hX1 : HX [65] h (sI h 65 (w 6 (tn n)) 1) := HX_sI (by decide)
    rw [if_neg (by decide)]
    refine J_aload_n dX6_rise_0 rfl rfl isR_r ?_
    refine J_iload_n dX6_rise_1 rfl rfl ?_
    refine J_callV (c_endOf hr.1) dX6_rise_2 ml_X6_64 mkX6_endOf rfl (by first | with_reducible assumption | (simp only [hK_sI, hK_sJ, hK_sR, hK_tI, hK_tJ, hK_tR]; with_reducible assumption)) (by decide) rfl rfl (Nat.le_of_ble_eq_true rfl) ⟨Nat.le_of_ble_eq_true rfl, Nat.le_of_ble_eq_true rfl⟩ ⟨Nat.le_of_ble_eq_true rfl, Nat.le_of_ble_eq_true rfl⟩ (fun v2 hp2 q2 => ?_)
    obtain ⟨rfl, z2⟩ := q2
    rw [z2]
    rw [hi]
    refine J_astore_n dX6_rise_5 rfl isR_r (by decide) ?_
    refine J_aload_n dX6_rise_6 rfl rfl isR_r ?_
    refine J_ifnonnull_r (tgt := 13) dX6_rise_7 (by decide) ?_
    refine J_aload_n dX6_rise_13 rfl rfl isR_r ?_
    refine J_getI dX6_rise_14 g_X6_68 (by first | with_reducible assumption | (simp only [hK_sI, hK_sJ, hK_sR, hK_tI, hK_tJ, hK_tR]; with_reducible assumption)) ?_
    refine J_if_eq (tgt := 23) dX6_rise_17 (by decide) (fun c17 => ?_) (fun c17 => ?_)
    · rw [if_neg ((up_iff hr.2.2.1 ht).mp c17)]
      refine J_aload_n dX6_rise_23 rfl rfl isR_r ?_
      refine J_iconst (v := 1) dX6_rise_24 (by decide) ?_
      refine J_putZ dX6_rise_25 p_X6_68 (by first | with_reducible assumption | (simp only [hK_sI, hK_sJ, hK_sR, hK_tI, hK_tJ, hK_tR]; with_reducible assumption)) (by first | exact Or.inl rfl | exact Or.inr rfl) ?_
      refine J_aload_n dX6_rise_28 rfl rfl isR_r ?_
      refine J_getI dX6_rise_29 g_X6_183 (by first | with_reducible assumption | (simp only [hK_sI, hK_sJ, hK_sR, hK_tI, hK_tJ, hK_tR]; with_reducible assumption)) ?_
      refine J_bipush (v := 6) dX6_rise_32 (by decide) ?_
      rw [hI_ne 64 (by decide), e64, ← hte]
      refine J_icmp_ge (tgt := 41) dX6_rise_34 (by decide) (fun c34 => ?_) (fun c34 => ?_)
      · have e6 : riseF S n = pT S 449 (tn n) 0 := by unfold riseF; rw [if_neg (fun z => by rw [n_lt] at z; rw [n_le] at c34; omega)]
        refine J_aload_n dX6_rise_41 rfl rfl isR_r ?_
        refine J_getI dX6_rise_42 g_X6_137 (by first | with_reducible assumption | (simp only [hK_sI, hK_sJ, hK_sR, hK_tI, hK_tJ, hK_tR]; with_reducible assumption)) ?_
        exact J_ireturn dX6_rise_45 rfl (by
         rw [e6]
         exact ⟨by rw [(hU.2.2.1 _ ht).1.2.1], hU, hX1.sub (by decide)⟩) (Nat.le_of_ble_eq_true rfl) (Nat.le_of_ble_eq_true rfl)
      · refine J_aload_n dX6_rise_37 rfl rfl isR_r ?_
        refine J_callV (c_beginLife1 (hU.2.2.1.ek hU.1 hU.2.2.2.1.2.2.1 ht)) dX6_rise_38 ml_X6_184 mkX1_beginLife rfl (by first | with_reducible assumption | (simp only [hK_sI, hK_sJ, hK_sR, hK_tI, hK_tJ, hK_tR]; with_reducible assumption)) (by decide) rfl rfl (Nat.le_of_ble_eq_true rfl) ⟨Nat.le_of_ble_eq_true rfl, Nat.le_of_ble_eq_true rfl⟩ ⟨Nat.le_of_ble_eq_true rfl, Nat.le_of_ble_eq_true rfl⟩ (fun v38 hp38 q38 => ?_)
        obtain ⟨rfl, z1, z2, z3, z4, z5, z6⟩ := q38
        have e6 : riseF S n = rsF (pT (pT (pT S 449 (tn n) 0) 450 (tn n) (mT (pT S 449 (tn n) 0) 450 (tn n) + 1)) 451 (tn n) 1) (nI (tn n)) (nA (pT S 449 (tn n) 0)) := by
         unfold riseF
         rw [if_pos (by rw [n_lt]; rw [n_le] at c34; omega), nA_pT, ← hte, mT_pT, if_neg (fun z => absurd z.1 (by decide))]
        have hL := Rep_life hU hI1 ht z1 z2 z3 z4 z5 z6
        rw [← e6] at hL
        have k6' := (hL.1.2.2.1 _ ht).2.1
        refine J_aload_n dX6_rise_41 rfl rfl isR_r ?_
        refine J_getI dX6_rise_42 g_X6_137 (by first | with_reducible assumption | (simp only [hK_sI, hK_sJ, hK_sR, hK_tI, hK_tJ, hK_tR]; with_reducible assumption)) ?_
        exact J_ireturn dX6_rise_45 rfl (by exact ⟨by rw [(hL.2.2.1 _ ht).1.2.1], hL, (hX1.sub (by decide)).tr (z1.x.sub (by decide))⟩) (Nat.le_of_ble_eq_true rfl) (Nat.le_of_ble_eq_true rfl)
    · refine J_ldc dX6_rise_20 lc_X6_72 ?_
      exact J_ireturn dX6_rise_22 rfl (by
       have : mT S 449 (tn n) = 0 := Decidable.byContradiction fun z => c17 ((up_iff hr.2.2.1 ht).mpr z)
       rw [if_pos this]
       exact ⟨rfl, hr, HX.rf⟩) (Nat.le_of_ble_eq_true rfl) (Nat.le_of_ble_eq_true rfl)
end RJ
