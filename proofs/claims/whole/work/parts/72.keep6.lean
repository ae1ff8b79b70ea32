/-! every call keeps what holds between two calls -/
section K6
variable {x : om_x} {y : om_y} {S S' : Ms} {g : Nat} {L : List Nat}
theorem Iv_of (hV : Iw g S) (h : mI S 485 = 0) : Iv g S := ⟨hV.1, hV.2, h⟩
theorem Iv_w (hV : Iv g S) : Iw g S := ⟨hV.1, hV.2.1⟩
theorem Iv_up {g2 : Nat} (hV : Iv g S) (h1 : g ≤ g2) (h2 : g2 < 1000000) : Iv g2 S := ⟨WF2_mono hV.1 h1 h2, hV.2⟩
theorem Iv_flow : ∀ (n g : Nat) (S : Ms), Iv g S → g + n < 1000000 → Iv (g + n) (flowK S n).2
  | 0, _, _, hV, _ => hV
  | n + 1, g, S, hV, hg => by
    simp only [flowK]
    by_cases c : 0 < mI S 468
    · rw [if_pos c]
      have hl := inN_tn hV.1.1.1.2.1
      have c2 : 0 < nL S := by
        rw [hl.1, show (0 : Int32) = nI 0 from rfl, nI_lti (by decide) hl.2.2] at c
        exact c
      have := Iv_flow n (g + 1) (bringsF S 0 3) (Iv_brings hV (by omega) c2) (by omega)
      rw [show g + (n + 1) = g + 1 + n by omega]
      exact this
    · rw [if_neg c]
      exact Iv_up hV (by omega) hg
theorem Iv_flowP {n : Int32} (hV : Iv g S) (hg : g + 200 < 1000000) : Iv (g + 200) (flowP S n).2 := by
  unfold flowP
  cases c : inL n.toInt64 1 200 with
  | false => rw [if_pos rfl]; exact Iv_up hV (by omega) hg
  | true =>
    rw [if_neg (by decide)]
    obtain ⟨-, -, c3⟩ := inL_rng c
    exact Iv_up (Iv_flow (tn n) g S hV (by omega)) (by omega) hg
theorem Iv_deliverP {i m : Int32} (hV : Iv g S) (hg : g + 200 < 1000000) : Iv (g + 200) (deliverP S i m).2 := by
  unfold deliverP
  split
  · exact Iv_up hV (by omega) hg
  · next c =>
    have hi : inN i (nL S) = true := by
      cases u : inN i (nL S) with
      | true => rfl
      | false => exact absurd (Or.inl u) c
    exact Iv_up (Iv_brings hV (by omega) (inN_tn hi).2.1) (by omega) hg
theorem Iv_askP {a s k p q t m : Int32} (hV : Iv g S) (hg : g + 200 < 1000000) : Iv (g + 200) (askP S a s k p q t m).2 := by
  unfold askP
  split
  · exact Iv_up hV (by omega) hg
  · next c1 =>
    split
    · exact Iv_up hV (by omega) hg
    · split
      · exact Iv_up hV (by omega) hg
      · next c3 =>
        obtain ⟨h1, h2, h3, h4, h5, h6⟩ := (ask_ok a s k p q t m).mp c1
        have eN := (inN_tn hV.1.1.1.1).1
        have hA301 : nA S < 301 := (inN_tn hV.1.1.1.1).2.1
        have h300 : nA S < 300 := by
          have : nA S ≠ 300 := fun z => c3 (Or.inl (by rw [eN, show tn (mI S 453) = 300 from z]; rfl))
          omega
        have hu : usedUp S a = false := by
          cases u : usedUp S a with
          | false => rfl
          | true => exact absurd (Or.inr u) c3
        have hm := of_decide_eq_true h6
        have j5 : (1000000 : Int32).toInt = 1000000 := by decide
        have j6 : (-1000000 : Int32).toInt = -1000000 := by decide
        have i0 : (0 : Int32).toInt = 0 := by decide
        have i1 : (1 : Int32).toInt = 1 := by decide
        have i2 : (2 : Int32).toInt = 2 := by decide
        have i3 : (3 : Int32).toInt = 3 := by decide
        have i4 : (4 : Int32).toInt = 4 := by decide
        simp only [n_le, n_eq, i0, i1, i2, i3, i4, j5, j6] at hm
        have hk5 : inN k 5 = true := by
          unfold inN
          rw [decide_eq_true_iff]
          omega
        have hW := WF2_newA (sv := s) (kind := k) (a := p) (b := q) (t := t) (amt := m) hV.1 hV.2.1 h1 h2 h4 h5 h3 hk5 h300 hu ⟨by omega, by omega, fun z => by simp only [n_eq, i2, i3] at z; omega, fun z => by simp only [n_eq, i4] at z; omega⟩
        have hX := SX_new (S := S) (n := a) (sv := s) (kind := k) (a := p) (b := q) (t := t) (amt := m) (far := -1)
        have hn := (new_n (S := S) (n := a) (sv := s) (kind := k) (a := p) (b := q) (t := t) (amt := m) (far := -1) hV.1.1 h300).2
        have h63 := (new_T (S := S) (n := a) (sv := s) (kind := k) (a := p) (b := q) (t := t) (amt := m) (far := -1) (nA S)).2.2.2.2.2.2.2.2.2.2.1
        have e53 : mI S 453 = nI (nA S) := eN
        have hN : Iw g (newAskF S a s k p q t m (-1)) := ⟨hW, fun j hj => by rw [(hX 467 (by decide)).2.1]; exact hV.2.1 j (by omega)⟩
        have e485 : mI (newAskF S a s k p q t m (-1)) 485 = 0 := by rw [(hX 485 (by decide)).1]; exact hV.2.2
        have hs := Iw_send (a := mI S 453) (ans := false) (v := 0) hN (by rw [hn, e53]; exact inN_nIlt (Nat.lt_succ_self _) (by omega)) (fun _ => by rw [e53, tn_nI (by omega), h63, if_pos rfl]) (fun z => absurd z (by decide))
        exact Iv_up (Iv_of hs (by rw [send_I _ _ _ (by decide)]; exact e485)) (by omega) hg
theorem Iv_againP {a : Int32} (hV : Iv g S) (hg : g + 200 < 1000000) : Iv (g + 200) (againP S a).2 := by
  unfold againP
  cases ha : inN a (nA S) with
  | false => rw [if_pos rfl]; exact Iv_up hV (by omega) hg
  | true =>
    rw [if_neg (by decide)]
    split
    · exact Iv_up hV (by omega) hg
    · next c =>
      split
      · exact Iv_up hV (by omega) hg
      · have ho : mT S 463 (tn a) = 0 := Decidable.byContradiction fun z => c (Or.inl z)
        exact Iv_up (Iv_of (Iw_send (Iv_w hV) ha (fun _ => ho) (fun z => absurd z (by decide))) (by rw [send_I _ _ _ (by decide)]; exact hV.2.2)) (by omega) hg
theorem Iv_loseP {i : Int32} (hV : Iv g S) (hg : g + 200 < 1000000) : Iv (g + 200) (loseP S i).2 := by
  unfold loseP
  cases hi : inN i (nL S) with
  | false => rw [if_pos rfl]; exact Iv_up hV (by omega) hg
  | true =>
    rw [if_neg (by decide)]
    have hX := SX_remove (S := S) (tn i)
    have h1 : Iw g (removeF S (tn i)) := ⟨WF2_remove hV.1 (inN_tn hi).2.1, Hs_x hX (by decide) hV.2.1⟩
    exact Iv_up (Iv_of (Iw_pI h1 (by omega)) (by rw [mI_pI_ne _ _ (by decide), (hX 485 (by decide)).1]; exact hV.2.2)) (by omega) hg
theorem Iv_twiceP {i : Int32} (hV : Iv g S) (hg : g + 200 < 1000000) : Iv (g + 200) (twiceP S i).2 := by
  unfold twiceP
  cases hi : inN i (nL S) with
  | false => rw [if_pos rfl]; exact Iv_up hV (by omega) hg
  | true =>
    rw [if_neg (by decide)]
    split
    · exact Iv_up hV (by omega) hg
    · next c =>
      have hX := SX_twice (S := S) (i := tn i) (l := nL S)
      exact Iv_up ⟨WF2_twice hV.1 (inN_tn hi).2.1 (fun z => c ((hL120 hV.1.1).mp z)), Hs_x hX (by decide) hV.2.1, by rw [(hX 485 (by decide)).1]; exact hV.2.2⟩ (by omega) hg
theorem Iv_bendP {i : Int32} (hV : Iv g S) (hg : g + 200 < 1000000) : Iv (g + 200) (bendP S i).2 := by
  unfold bendP
  cases hi : inN i (nL S) with
  | false => rw [if_pos rfl]; exact Iv_up hV (by omega) hg
  | true =>
    rw [if_neg (by decide)]
    exact Iv_up ⟨WF2_bend hV.1, Hs_x (L := [473]) (SX_pT (by decide)) (by decide) hV.2.1, hV.2.2⟩ (by omega) hg
theorem Iv_fallP {n : Int32} (hV : Iv g S) (hg : g + 200 < 1000000) : Iv (g + 200) (fallP S n).2 := by
  unfold fallP
  cases hi : inN n 10 with
  | false => rw [if_pos rfl]; exact Iv_up hV (by omega) hg
  | true =>
    rw [if_neg (by decide)]
    split
    · exact Iv_up hV (by omega) hg
    · have h1 : Iw g (pT S 449 (tn n) 1) := ⟨WF2_449 hV.1 (Or.inr rfl), Hs_x (L := [449]) (SX_pT (by decide)) (by decide) hV.2.1⟩
      exact Iv_up (Iv_of (Iw_pI h1 (by omega)) (by rw [mI_pI_ne _ _ (by decide), mI_pT]; exact hV.2.2)) (by omega) hg
theorem Iv_riseP {n : Int32} (hV : Iv g S) (hg : g + 200 < 1000000) : Iv (g + 200) (riseP S n).2 := by
  unfold riseP
  cases hi : inN n 10 with
  | false => rw [if_pos rfl]; exact Iv_up hV (by omega) hg
  | true =>
    rw [if_neg (by decide)]
    have hn := inN_tn hi
    split
    · exact Iv_up hV (by omega) hg
    · have h1 : Iv g (pT S 449 (tn n) 0) := ⟨WF2_449 hV.1 (Or.inl rfl), Hs_x (L := [449]) (SX_pT (by decide)) (by decide) hV.2.1, hV.2.2⟩
      show Iv (g + 200) (riseF S n)
      unfold riseF
      by_cases c : n < 6
      · rw [if_pos c]
        have c6 : tn n < 6 := by
          rw [hn.1, show (6 : Int32) = nI 6 from rfl, nI_lti (by omega) (by decide)] at c
          exact c
        have h2 := WF2_rise (n := tn n) h1.1 (by omega) c6
        rw [nA_pT, mT_pT_ne _ _ _ (by decide), ← hn.1] at h2
        have hX : SX [450, 451, 463] (pT S 449 (tn n) 0) (rsF (pT (pT (pT S 449 (tn n) 0) 450 (tn n) (mT S 450 (tn n) + 1)) 451 (tn n) 1) n (nA S)) := (SX_pT (by decide)).tr ((SX_pT (by decide)).tr ((SX_rs _ _).sub (by decide)))
        exact Iv_up ⟨h2, Hs_x hX (by decide) h1.2.1, by rw [(hX 485 (by decide)).1]; exact h1.2.2⟩ (by omega) hg
      · rw [if_neg c]
        exact Iv_up h1 (by omega) hg
theorem Iv_leaveP {s a : Int32} (hV : Iv g S) (hg : g + 200 < 1000000) : Iv (g + 200) (leaveP S s a).2 := by
  unfold leaveP
  split
  · exact Iv_up hV (by omega) hg
  · next c =>
    split
    · exact Iv_up hV (by omega) hg
    · have c1 : inN s 4 = true := by
        cases u : inN s 4 with
        | true => rfl
        | false => exact absurd (Or.inl u) c
      have c2 : inN a 6 = true := by
        cases u : inN a 6 with
        | true => rfl
        | false => exact absurd (Or.inr u) c
      have ca := inN_le c2 (show 6 ≤ 10 by decide)
      have e1 := (inN_tn c1).2.1
      have e2 := (inN_tn c2).2.1
      obtain ⟨-, t2⟩ := of_tn c1 ca
      have h2 := WF2_leave (i := 10 * tn s + tn a) hV.1 (by omega) (by omega) (by omega)
      have hX := SX_life (S := S) (i := 10 * tn s + tn a) (lv := mT S 474 (10 * tn s + tn a) + 1)
      have e : forgetF (leaveF S (10 * s + a)) (10 * s + a) 2147483647 = lifeF S (10 * tn s + tn a) (mT S 474 (10 * tn s + tn a) + 1) := by
        rw [t2]
        unfold leaveF lifeF
        rw [tn_nI (by omega)]
      rw [e]
      exact Iv_up ⟨h2, Hs_x hX (by decide) hV.2.1, by rw [(hX 485 (by decide)).1]; exact hV.2.2⟩ (by omega) hg
theorem Iv_F (hV : Iv g S) : ∀ k, k < nA S → mT S 458 k = 3 → mT S 467 k ≠ 0 → inN (mT S 466 k) (nA S) = true := fun k hk z1 z2 => by
  have q := hV.1.2.2.2.1 k hk
  exact (q.2.2.2.2.2.1 (q.2.2.2.2.2.2.1 z1 z2)).1
set_option maxRecDepth 100000 in
set_option maxHeartbeats 4000000 in
theorem mp_flow2 {n : Int32} (hV : Iv g S) (hg : g + 200 < 1000000) : MM x y 7 kX7_flow [.ref y.1, .int n] S (fun z S' => z = some (.int (flowP S n).1) ∧ S' = (flowP S n).2) := by
  refine MM.ofJ mkX7_flow.1 (Nat.le_of_ble_eq_true rfl) fun h0 => ?_
  have lp : n = nI (tn n) → tn n ≤ 200 → ∀ m j S', j + m = tn n → Iv (g + j) S' → MJ x y h0 7 (fun z S2 => z = some (.int (nI (j + (flowK S' m).1))) ∧ S2 = (flowK S' m).2) kX7_flow 17 [(0, .ref y.1), (1, .int n), (2, .int (nI j))] [] S' := by
    intro hn h200 m
    induction m with
    | zero =>
      intro j S' hj hp
      refine MJ_iload_n dX7_flow_17 rfl rfl ?_
      refine MJ_iload_n dX7_flow_18 rfl rfl ?_
      refine MJ_st (st' := [.int (nI (tn n)), .int (nI j)]) (by rw [← hn] <;> rfl) ?_
      refine MJ_icmp_ge (tgt := 41) dX7_flow_19 (by decide) (fun c19 => ?_) (fun c19 => ((c19 (by rw [nI_lei (by omega) (by omega)]; omega))).elim)
      refine MJ_iload_n dX7_flow_41 rfl rfl ?_
      exact MJ_ireturn dX7_flow_42 rfl ⟨rfl, rfl⟩
    | succ m ih =>
      intro j S' hj hp
      have w1 := hp.1.1
      have w2 := WF2_nR hp.1
      have hl := inN_tn w1.1.2.1
      refine MJ_iload_n dX7_flow_17 rfl rfl ?_
      refine MJ_iload_n dX7_flow_18 rfl rfl ?_
      refine MJ_st (st' := [.int (nI (tn n)), .int (nI j)]) (by rw [← hn] <;> rfl) ?_
      refine MJ_icmp_ge (tgt := 41) dX7_flow_19 (by decide) (fun c19 => ((show False by rw [nI_lei (by omega) (by omega)] at c19; omega)).elim) (fun c19 => ?_)
      refine MJ_aload_n dX7_flow_22 rfl rfl isR_r ?_
      refine MJ_getI dX7_flow_23 g_X7_124 ?_
      refine MJ_if_le (tgt := 41) dX7_flow_26 (by decide) (fun c26 => ?_) (fun c26 => ?_)
      · refine MJ_iload_n dX7_flow_41 rfl rfl ?_
        exact MJ_ireturn dX7_flow_42 rfl ⟨by simp only [flowK]; rw [if_neg (fun z => by rw [n_lt] at z; rw [n_le] at c26; omega)]; rfl, by simp only [flowK]; rw [if_neg (fun z => by rw [n_lt] at z; rw [n_le] at c26; omega)]⟩
      · refine MJ_aload_n dX7_flow_29 rfl rfl isR_r ?_
        refine MJ_iconst (v := 0) dX7_flow_30 (by decide) ?_
        refine MJ_iconst (v := 3) dX7_flow_31 (by decide) ?_
        have hpos : 0 < mI S' 468 := by rw [n_lt]; rw [n_le] at c26; omega
        have hpos2 : 0 < nL S' := by
         have h9 := hpos
         rw [hl.1, show (0 : Int32) = nI 0 from rfl, nI_lti (by decide) hl.2.2] at h9
         exact h9
        refine MJ_st (st' := [.int 3, .int (nI 0), .ref y.1]) rfl ?_
        refine MJ_callV (mm_brings w1 hpos2 (by omega)) dX7_flow_32 ml_X7_232 mkX7_brings rfl rfl rfl (Nat.le_of_ble_eq_true rfl) ⟨Nat.le_of_ble_eq_true rfl, Nat.le_of_ble_eq_true rfl⟩ (fun v32 hp32 q32 => ?_)
        obtain ⟨rfl, z32⟩ := q32
        rw [z32]
        refine MJ_iinc dX7_flow_35 rfl (nI_inc _) (by decide) ?_
        refine MJ_goto (tgt := 17) dX7_flow_38 (by decide) ?_
        have h8 := ih (j + 1) _ (by omega) (Iv_brings (g := g + j) (m := 3) hp (by omega) hpos2)
        simp only [flowK, if_pos hpos]
        rw [show j + ((flowK (bringsF S' 0 3) m).1 + 1) = j + 1 + (flowK (bringsF S' 0 3) m).1 by omega]
        exact MJ_loc _ rfl h8
  unfold flowP
  refine MJ_iload_n dX7_flow_0 rfl rfl ?_
  refine MJ_i2l dX7_flow_1 ?_
  refine MJ_lconst (v := 1) dX7_flow_2 (by decide) ?_
  refine MJ_ldc2 dX7_flow_3 ll_X7_235 ?_
  refine MJ_callS (mm_in _ _ _) dX7_flow_6 ml_X7_109 mkX7_in rfl rfl (Nat.le_of_ble_eq_true rfl) ⟨Nat.le_of_ble_eq_true rfl, Nat.le_of_ble_eq_true rfl⟩ (fun v6 hp6 q6 => ?_)
  obtain ⟨rfl, z6⟩ := q6
  rw [z6]
  refine MJ_if_ne (tgt := 15) dX7_flow_9 (by decide) (fun c9 => ?_) (fun c9 => ?_)
  · obtain ⟨e1, e2, e3⟩ := inL_rng (bi_1.mp c9)
    rw [if_neg (fun q => by rw [bi_1.mp c9] at q; cases q)]
    refine MJ_iconst (v := 0) dX7_flow_15 (by decide) ?_
    refine MJ_istore_n dX7_flow_16 rfl (by decide) ?_
    have h8 := lp e1 e3 (tn n) 0 S (Nat.zero_add _) hV
    rw [Nat.zero_add] at h8
    exact MJ_loc _ rfl h8
  · refine MJ_ldc dX7_flow_12 lc_X7_140 ?_
    exact MJ_ireturn dX7_flow_14 rfl ⟨by rw [if_pos (bi_0.mp c9)], by rw [if_pos (bi_0.mp c9)]⟩
end K6
