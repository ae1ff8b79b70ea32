/-! deliver, flow; how many records there are at most -/
section FL
variable {x : om_x} {w : om_w} {h h' : Hp} {as : Nat → Nat} {S S' : Ms} {g : Nat}
theorem om_pig : ∀ (m n : Nat) (f : Nat → Nat), (∀ i, i < n → f i < m) → (∀ i j, i < n → j < n → f i = f j → i = j) → n ≤ m
  | 0, n, f, h1, _ => by
    cases n with
    | zero => exact Nat.le_refl _
    | succ n => exact absurd (h1 0 (Nat.succ_pos _)) (Nat.not_lt_zero _)
  | m + 1, n, f, h1, h2 => by
    cases n with
    | zero => exact Nat.zero_le _
    | succ n =>
      have := om_pig m n (fun i => if f i = m then f n else f i) (fun i hi => by
        have a1 := h1 i (by omega)
        have a2 := h1 n (by omega)
        have a3 : f i ≠ f n := fun z => by have := h2 i n (by omega) (by omega) z; omega
        split <;> omega) (fun i j hi hj e => by
        have a3 : f i ≠ f n := fun z => by have := h2 i n (by omega) (by omega) z; omega
        have a4 : f j ≠ f n := fun z => by have := h2 j n (by omega) (by omega) z; omega
        have a5 : f i = f j → i = j := h2 i j (by omega) (by omega)
        split at e <;> split at e <;> first | exact a5 (by omega) | omega)
      omega
theorem WF2_nR (hW : WF2 g S) : nR S ≤ 640 := by
  have hr := hW.2.2.2.2.2.2.2.2.1
  have hu := hW.2.2.2.2.2.2.2.2.2.1
  have hw := (inN_tn hW.2.1.2.1).2.1
  refine om_pig 640 (nR S) (fun r => 16 * tn (mT S 477 r) + tn (mT S 478 r) % 16) (fun r h1 => ?_) (fun r s h1 h2 e => ?_)
  · have := (inN_tn (hr r h1).1.1).2.1
    omega
  · skip
    obtain ⟨r1, r2, r3, r4⟩ := (hr r h1).1
    obtain ⟨s1, s2, s3, s4⟩ := (hr s h2).1
    have e1 : tn (mT S 477 r) = tn (mT S 477 s) := by omega
    rw [e1] at r3 r4
    have e2 : tn (mT S 478 r) = tn (mT S 478 s) := by omega
    exact hu r s h1 h2 (by rw [(inN_tn r1).1, (inN_tn s1).1, e1]) (by rw [(inN_tn r2).1, (inN_tn s2).1, e2])
/-- what holds between two calls -/
def Iv (g : Nat) (S : Ms) : Prop := WF2 g S ∧ (∀ k, nA S ≤ k → mT S 467 k = 0) ∧ mI S 485 = 0
set_option maxRecDepth 100000 in
set_option maxHeartbeats 4000000 in
theorem c_deliver {i m : Int32} (hr : Rep w as S h) (hI1 : Inj w) (hV : Iv g S) : Mt x 7 kX6_deliver 1 15 [.ref (w 0 0), .int i, .int m] h (fun z h' => z = some (.int (deliverP S i m).1) ∧ ∃ as' : Nat → Nat, Rep w as' (deliverP S i m).2 h' ∧ HX BrX h h') := by
  refine Mt.ofJ mkX6_deliver.1 (Nat.le_of_ble_eq_true rfl) ?_
  obtain ⟨hW, h467, h485⟩ := hV
  have h7 := WF2_nR hW
  obtain ⟨f, lt, hL, hk3, hinj, hok⟩ := hr.lr hW.1
  have o1 := hr.1.1.1
  have o4 := hr.1.1.2.2.2.2
  have k4 := hr.1.2.1.2.2.2.1.1
  unfold deliverP
  cases hi : inN i (nL S) with
  | false =>
    rw [if_pos (Or.inl rfl)]
    refine J_aload_n dX6_deliver_0 rfl rfl isR_r ?_
    refine J_getRr dX6_deliver_1 g_X6_30 (by first | with_reducible assumption | (simp only [hK_sI, hK_sJ, hK_sR, hK_tI, hK_tJ, hK_tR]; with_reducible assumption)) (by first | with_reducible assumption | (simp only [hR_sI, hR_sJ, hR_tI, hR_tJ, hR_tR]; with_reducible assumption)) ?_
    refine J_iload_n dX6_deliver_4 rfl rfl ?_
    refine J_callV (c_at hL) dX6_deliver_5 ml_X6_141 mkX4_at rfl (by first | with_reducible assumption | (simp only [hK_sI, hK_sJ, hK_sR, hK_tI, hK_tJ, hK_tR]; with_reducible assumption)) (by decide) rfl rfl (Nat.le_of_ble_eq_true rfl) ⟨Nat.le_of_ble_eq_true rfl, Nat.le_of_ble_eq_true rfl⟩ ⟨Nat.le_of_ble_eq_true rfl, Nat.le_of_ble_eq_true rfl⟩ (fun v5 hp5 q5 => ?_)
    obtain ⟨rfl, z5⟩ := q5
    rw [z5]
    rw [hi]
    refine J_ifnull_n (tgt := 20) dX6_deliver_8 (by decide) ?_
    refine J_ldc dX6_deliver_20 lc_X6_55 ?_
    exact J_ireturn dX6_deliver_22 rfl ⟨rfl, as, hr, HX.rf⟩ (Nat.le_of_ble_eq_true rfl) (Nat.le_of_ble_eq_true rfl)
  | true =>
    by_cases hm : inN m 4 = true
    · rw [if_neg (fun z => z.elim (fun y => by cases y) (fun y => by rw [hm] at y; cases y))]
      have hm2 := inN_tn hm
      refine J_aload_n dX6_deliver_0 rfl rfl isR_r ?_
      refine J_getRr dX6_deliver_1 g_X6_30 (by first | with_reducible assumption | (simp only [hK_sI, hK_sJ, hK_sR, hK_tI, hK_tJ, hK_tR]; with_reducible assumption)) (by first | with_reducible assumption | (simp only [hR_sI, hR_sJ, hR_tI, hR_tJ, hR_tR]; with_reducible assumption)) ?_
      refine J_iload_n dX6_deliver_4 rfl rfl ?_
      refine J_callV (c_at hL) dX6_deliver_5 ml_X6_141 mkX4_at rfl (by first | with_reducible assumption | (simp only [hK_sI, hK_sJ, hK_sR, hK_tI, hK_tJ, hK_tR]; with_reducible assumption)) (by decide) rfl rfl (Nat.le_of_ble_eq_true rfl) ⟨Nat.le_of_ble_eq_true rfl, Nat.le_of_ble_eq_true rfl⟩ ⟨Nat.le_of_ble_eq_true rfl, Nat.le_of_ble_eq_true rfl⟩ (fun v5 hp5 q5 => ?_)
      obtain ⟨rfl, z5⟩ := q5
      rw [z5]
      rw [hi]
      refine J_ifnull_r dX6_deliver_8 ?_
      refine J_iload_n dX6_deliver_11 rfl rfl ?_
      refine J_if_lt (tgt := 20) dX6_deliver_12 (by decide) (fun c12 => ((show False by rw [hm2.1, show (0 : Int32) = nI 0 from rfl, nI_lti (by omega) (by decide)] at c12; omega)).elim) (fun c12 => ?_)
      refine J_iload_n dX6_deliver_15 rfl rfl ?_
      refine J_iconst (v := 3) dX6_deliver_16 (by decide) ?_
      refine J_pc (pc' := 17) rfl ?_
      refine J_icmp_le (tgt := 23) dX6_deliver_17 (by decide) (fun c17 => ?_) (fun c17 => (c17 (by rw [hm2.1]; exact (show nI (tn m) ≤ nI 3 from (nI_lei (by omega) (by decide)).mpr (by omega)))).elim)
      refine J_aload_n dX6_deliver_23 rfl rfl isR_r ?_
      refine J_iload_n dX6_deliver_24 rfl rfl ?_
      refine J_iload_n dX6_deliver_25 rfl rfl ?_
      refine J_callV (c_come hr hI1 hW h467 (by omega) hi hm) dX6_deliver_26 ml_X6_145 mkX6_come rfl (by first | with_reducible assumption | (simp only [hK_sI, hK_sJ, hK_sR, hK_tI, hK_tJ, hK_tR]; with_reducible assumption)) (by decide) rfl rfl (Nat.le_of_ble_eq_true rfl) ⟨Nat.le_of_ble_eq_true rfl, Nat.le_of_ble_eq_true rfl⟩ ⟨Nat.le_of_ble_eq_true rfl, Nat.le_of_ble_eq_true rfl⟩ (fun v26 hp26 q26 => ?_)
      obtain ⟨rfl, as', z1, z2, z3⟩ := q26
      exact J_ireturn dX6_deliver_29 rfl ⟨rfl, as', z2, z3⟩ (Nat.le_of_ble_eq_true rfl) (Nat.le_of_ble_eq_true rfl)
    · have hm0 : inN m 4 = false := by cases u : inN m 4; rfl; exact absurd u hm
      rw [if_pos (Or.inr hm0)]
      refine J_aload_n dX6_deliver_0 rfl rfl isR_r ?_
      refine J_getRr dX6_deliver_1 g_X6_30 (by first | with_reducible assumption | (simp only [hK_sI, hK_sJ, hK_sR, hK_tI, hK_tJ, hK_tR]; with_reducible assumption)) (by first | with_reducible assumption | (simp only [hR_sI, hR_sJ, hR_tI, hR_tJ, hR_tR]; with_reducible assumption)) ?_
      refine J_iload_n dX6_deliver_4 rfl rfl ?_
      refine J_callV (c_at hL) dX6_deliver_5 ml_X6_141 mkX4_at rfl (by first | with_reducible assumption | (simp only [hK_sI, hK_sJ, hK_sR, hK_tI, hK_tJ, hK_tR]; with_reducible assumption)) (by decide) rfl rfl (Nat.le_of_ble_eq_true rfl) ⟨Nat.le_of_ble_eq_true rfl, Nat.le_of_ble_eq_true rfl⟩ ⟨Nat.le_of_ble_eq_true rfl, Nat.le_of_ble_eq_true rfl⟩ (fun v5 hp5 q5 => ?_)
      obtain ⟨rfl, z5⟩ := q5
      rw [z5]
      rw [hi]
      refine J_ifnull_r dX6_deliver_8 ?_
      refine J_iload_n dX6_deliver_11 rfl rfl ?_
      refine J_if_lt (tgt := 20) dX6_deliver_12 (by decide) (fun c12 => ?_) (fun c12 => ?_)
      · refine J_ldc dX6_deliver_20 lc_X6_55 ?_
        exact J_ireturn dX6_deliver_22 rfl ⟨rfl, as, hr, HX.rf⟩ (Nat.le_of_ble_eq_true rfl) (Nat.le_of_ble_eq_true rfl)
      · refine J_iload_n dX6_deliver_15 rfl rfl ?_
        refine J_iconst (v := 3) dX6_deliver_16 (by decide) ?_
        refine J_icmp_le (tgt := 23) dX6_deliver_17 (by decide) (fun c17 => ((show False by rw [inN_mid (n := 4) (by decide) c12 (fun z => by rw [n_le] at z c17; have e3 : (3 : Int32).toInt = 3 := (by decide); have e4 : (nI 4).toInt = 4 := (by decide); omega)] at hm0; cases hm0)).elim) (fun c17 => ?_)
        refine J_ldc dX6_deliver_20 lc_X6_55 ?_
        exact J_ireturn dX6_deliver_22 rfl ⟨rfl, as, hr, HX.rf⟩ (Nat.le_of_ble_eq_true rfl) (Nat.le_of_ble_eq_true rfl)
set_option maxRecDepth 100000 in
set_option maxHeartbeats 4000000 in
theorem c_flow {n : Int32} (hr : Rep w as S h) (hI1 : Inj w) (hV : Iv g S) (hg : g + 200 < 1000000) (hP : ∀ g S, Iv g S → 0 < nL S → g + 1 < 1000000 → Iv (g + 1) (bringsF S 0 3)) : Mt x 7 kX6_flow 200 3000 [.ref (w 0 0), .int n] h (fun z h' => z = some (.int (flowP S n).1) ∧ ∃ as' : Nat → Nat, Rep w as' (flowP S n).2 h' ∧ HX BrX h h') := by
  refine Mt.ofJ mkX6_flow.1 (Nat.le_of_ble_eq_true rfl) ?_
  have o1 := hr.1.1.1
  generalize hQ : (fun z h' => z = some (Value.int (flowP S n).1) ∧ ∃ as' : Nat → Nat, Rep w as' (flowP S n).2 h' ∧ HX BrX h h') = Q
  have e0 : tn (0 : Int32) = 0 := by decide
  have lp : n = nI (tn n) → tn n ≤ 200 → flowP S n = (nI (flowK S (tn n)).1, (flowK S (tn n)).2) → ∀ m j S' as' h', j + m = tn n → Iv (g + j) S' → Rep w as' S' h' → HX BrX h h' → (flowK S (tn n)).1 = j + (flowK S' m).1 → (flowK S (tn n)).2 = (flowK S' m).2 → J x (om_m x 7 200 3000 Q) kX6_flow 17 [(0, .ref (w 0 0)), (1, .int n), (2, .int (nI j))] [] h' j (15 * j) := by
    intro hn h200 hfp m
    induction m with
    | zero =>
      intro j S' as' h' hj hv hr' hx e1 e2
      refine J_iload_n dX6_flow_17 rfl rfl ?_
      refine J_iload_n dX6_flow_18 rfl rfl ?_
      refine J_st (st' := [.int (nI (tn n)), .int (nI j)]) (by rw [← hn] <;> rfl) ?_
      refine J_icmp_ge (tgt := 45) dX6_flow_19 (by decide) (fun c19 => ?_) (fun c19 => (c19 ((nI_lei (by omega) (by omega)).mpr (by omega))).elim)
      refine J_iload_n dX6_flow_45 rfl rfl ?_
      exact J_ireturn dX6_flow_46 rfl (by
       rw [← hQ]
       show _ ∧ _
       rw [hfp, e1, e2]
       exact ⟨rfl, as', hr', hx⟩) (by omega) (by omega)
    | succ m ih =>
      intro j S' as' h' hj hv hr' hx e1 e2
      obtain ⟨w1, w2, w3⟩ := hv
      have h7 := WF2_nR w1
      have hl := inN_tn w1.1.1.2.1
      have o1' := hr'.1.1.1
      have o4' := hr'.1.1.2.2.2.2
      have k4' := hr'.1.2.1.2.2.2.1.1
      have under : hI h' 256 (w 4 0) = mI S' 468 := hr'.2.1.2.2.2.1
      by_cases hpos : 0 < nL S'
      · have hp8 : 0 < mI S' 468 := by rw [hl.1, show (0 : Int32) = nI 0 from rfl, nI_lti (by decide) hl.2.2]; exact hpos
        simp only [flowK, if_pos hp8] at e1 e2
        refine J_iload_n dX6_flow_17 rfl rfl ?_
        refine J_iload_n dX6_flow_18 rfl rfl ?_
        refine J_st (st' := [.int (nI (tn n)), .int (nI j)]) (by rw [← hn] <;> rfl) ?_
        refine J_icmp_ge (tgt := 45) dX6_flow_19 (by decide) (fun c19 => ((show False by rw [nI_lei (by omega) (by omega)] at c19; omega)).elim) (fun c19 => ?_)
        refine J_aload_n dX6_flow_22 rfl rfl isR_r ?_
        refine J_getRr dX6_flow_23 g_X6_30 (by first | with_reducible assumption | (simp only [hK_sI, hK_sJ, hK_sR, hK_tI, hK_tJ, hK_tR]; with_reducible assumption)) (by first | with_reducible assumption | (simp only [hR_sI, hR_sJ, hR_tI, hR_tJ, hR_tR]; with_reducible assumption)) ?_
        refine J_getI dX6_flow_26 g_X6_99 (by first | with_reducible assumption | (simp only [hK_sI, hK_sJ, hK_sR, hK_tI, hK_tJ, hK_tR]; with_reducible assumption)) ?_
        refine J_if_le (tgt := 45) dX6_flow_29 (by decide) (fun c29 => ((i32_nle.mpr hp8) (by rw [← under]; exact c29)).elim) (fun c29 => ?_)
        refine J_aload_n dX6_flow_32 rfl rfl isR_r ?_
        refine J_iconst (v := 0) dX6_flow_33 (by decide) ?_
        refine J_iconst (v := 3) dX6_flow_34 (by decide) ?_
        refine J_pc (pc' := 35) rfl ?_
        refine J_st (st' := [.int 3, .int 0, .ref (w 0 0)]) rfl ?_
        refine J_callV (c_come (i := 0) (m := 3) hr' hI1 w1 w2 (by omega) (show inN (nI 0) (nL S') = true from inN_nIlt hpos (by have h9 : tn (mI S' 468) < 121 := hl.2.1; unfold nL; omega)) (by decide)) dX6_flow_35 ml_X6_145 mkX6_come rfl (by first | with_reducible assumption | (simp only [hK_sI, hK_sJ, hK_sR, hK_tI, hK_tJ, hK_tR]; with_reducible assumption)) (by decide) rfl rfl (Nat.le_of_ble_eq_true rfl) ⟨Nat.le_of_ble_eq_true rfl, Nat.le_of_ble_eq_true rfl⟩ ⟨show j + 1 ≤ 200 by omega, show 15 * j + 15 ≤ 3000 by omega⟩ (fun v35 hp35 q35 => ?_)
        obtain ⟨rfl, as2, z1, z2, z3⟩ := q35
        rw [e0] at z2
        refine J_pop dX6_flow_38 rfl ?_
        refine J_iinc dX6_flow_39 rfl (nI_inc _) (by decide) ?_
        refine J_goto (tgt := 17) dX6_flow_42 (by decide) ?_
        have h8 := ih (j + 1) _ as2 _ (by omega) (hP (g + j) S' ⟨w1, w2, w3⟩ hpos (by omega)) z2 (hx.tr z3) (by omega) e2
        rw [Nat.mul_succ] at h8
        exact J_loc _ rfl h8
      · have hp8 : ¬ 0 < mI S' 468 := by rw [hl.1, show (0 : Int32) = nI 0 from rfl, nI_lti (by decide) hl.2.2]; exact hpos
        simp only [flowK, if_neg hp8] at e1 e2
        refine J_iload_n dX6_flow_17 rfl rfl ?_
        refine J_iload_n dX6_flow_18 rfl rfl ?_
        refine J_st (st' := [.int (nI (tn n)), .int (nI j)]) (by rw [← hn] <;> rfl) ?_
        refine J_icmp_ge (tgt := 45) dX6_flow_19 (by decide) (fun c19 => ((show False by rw [nI_lei (by omega) (by omega)] at c19; omega)).elim) (fun c19 => ?_)
        refine J_aload_n dX6_flow_22 rfl rfl isR_r ?_
        refine J_getRr dX6_flow_23 g_X6_30 (by first | with_reducible assumption | (simp only [hK_sI, hK_sJ, hK_sR, hK_tI, hK_tJ, hK_tR]; with_reducible assumption)) (by first | with_reducible assumption | (simp only [hR_sI, hR_sJ, hR_tI, hR_tJ, hR_tR]; with_reducible assumption)) ?_
        refine J_getI dX6_flow_26 g_X6_99 (by first | with_reducible assumption | (simp only [hK_sI, hK_sJ, hK_sR, hK_tI, hK_tJ, hK_tR]; with_reducible assumption)) ?_
        refine J_if_le (tgt := 45) dX6_flow_29 (by decide) (fun c29 => ?_) (fun c29 => (hp8 (by rw [← under]; exact i32_nle.mp c29)).elim)
        refine J_iload_n dX6_flow_45 rfl rfl ?_
        exact J_ireturn dX6_flow_46 rfl (by
         rw [← hQ]
         show _ ∧ _
         rw [hfp, e1, e2]
         exact ⟨rfl, as', hr', hx⟩) (by omega) (by omega)
  have rng : ¬ n < 1 → ¬ 200 < n → inL n.toInt64 1 200 = true := fun a b => by
    unfold inL
    rw [decide_eq_true_iff, n_le64, n_le64, Int32.toInt_toInt64]
    rw [n_lt] at a b
    have h1 : (1 : Int64).toInt = 1 := by decide
    have h2 : (200 : Int64).toInt = 200 := by decide
    have h3 : (1 : Int32).toInt = 1 := by decide
    have h4 : (200 : Int32).toInt = 200 := by decide
    omega
  have bad : ¬ inL n.toInt64 1 200 = true → Q (some (.int (-2000001))) h := fun z => by
    rw [← hQ]
    show _ ∧ _
    unfold flowP
    rw [if_pos (by cases u : inL n.toInt64 1 200; rfl; exact absurd u z)]
    exact ⟨rfl, as, hr, HX.rf⟩
  have inv : inL n.toInt64 1 200 = true → ¬ n < 1 ∧ n ≤ 200 := fun z => by
    obtain ⟨z1, z2, z3⟩ := inL_rng z
    rw [z1]
    exact ⟨fun y => by rw [show (1 : Int32) = nI 1 from rfl, nI_lti (by omega) (by decide)] at y; omega, (nI_lei (by omega) (by decide)).mpr z3⟩
  refine J_iload_n dX6_flow_0 rfl rfl ?_
  refine J_iconst (v := 1) dX6_flow_1 (by decide) ?_
  refine J_icmp_lt (tgt := 12) dX6_flow_2 (by decide) (fun c2 => ?_) (fun c2 => ?_)
  · refine J_ldc dX6_flow_12 lc_X6_55 ?_
    exact J_ireturn dX6_flow_14 rfl (bad (fun z => (inv z).1 c2)) (Nat.le_of_ble_eq_true rfl) (Nat.le_of_ble_eq_true rfl)
  · refine J_iload_n dX6_flow_5 rfl rfl ?_
    refine J_sipush (v := 200) dX6_flow_6 (by decide) ?_
    refine J_icmp_le (tgt := 15) dX6_flow_9 (by decide) (fun c9 => ?_) (fun c9 => ?_)
    · refine J_iconst (v := 0) dX6_flow_15 (by decide) ?_
      refine J_istore_n dX6_flow_16 rfl (by decide) ?_
      have hin := rng c2 (fun z => i32_nle.mpr z c9)
      obtain ⟨u1, u2, u3⟩ := inL_rng hin
      have fp : flowP S n = (nI (flowK S (tn n)).1, (flowK S (tn n)).2) := by
       unfold flowP
       rw [if_neg (by rw [hin]; decide)]
      exact J_loc _ rfl (lp u1 u3 fp (tn n) 0 S as h (Nat.zero_add _) hV hr HX.rf (Nat.zero_add _).symm rfl)
    · refine J_ldc dX6_flow_12 lc_X6_55 ?_
      exact J_ireturn dX6_flow_14 rfl (bad (fun z => c9 (inv z).2)) (Nat.le_of_ble_eq_true rfl) (Nat.le_of_ble_eq_true rfl)
end FL
