/-! act -/
section AC
variable {x : om_x} {w : om_w} {h h' : Hp} {as : Nat → Nat} {S S' : Ms} {g : Nat}
theorem moved_mJ (sv k A : Int32) (j : Nat) : mJ (movedF S sv k A) 452 j = (if mT S 458 (tn k) = 1 then (if j = tn A then mJ S 452 j + (mT S 462 (tn k)).toInt64 else mJ S 452 j) else if mT S 458 (tn k) = 2 then (if tn A = tn (6 * sv + mT S 460 (tn k)) then mJ S 452 j else if j = tn A then mJ S 452 j - (mT S 462 (tn k)).toInt64 else if j = tn (6 * sv + mT S 460 (tn k)) then mJ S 452 j + (mT S 462 (tn k)).toInt64 else mJ S 452 j) else (if j = tn A then mJ S 452 j - (mT S 462 (tn k)).toInt64 else mJ S 452 j)) := by
  unfold movedF
  simp only [mJ_pJ, mJ_pT, true_and]
  generalize tn (6 * sv + mT S 460 (tn k)) = B
  generalize tn A = a
  generalize (mT S 462 (tn k)).toInt64 = u
  by_cases h1 : mT S 458 (tn k) = 1
  · rw [if_pos h1, if_neg (show ¬ mT S 458 (tn k) = 2 by rw [h1]; decide), Int64.add_zero, if_pos h1]
    by_cases hj : j = B
    · rw [if_pos hj, ← hj]
      by_cases hja : j = a
      · rw [if_pos hja, if_pos hja, ← hja]
      · rw [if_neg hja, if_neg hja]
    · rw [if_neg hj]
      by_cases hja : j = a
      · rw [if_pos hja, if_pos hja, ← hja]
      · rw [if_neg hja, if_neg hja]
  · rw [if_neg h1, if_neg h1]
    by_cases h2 : mT S 458 (tn k) = 2
    · rw [if_pos h2, if_pos h2, add_z64]
      by_cases hj : j = B
      · rw [if_pos hj, ← hj]
        by_cases hja : j = a
        · rw [if_pos hja, if_pos hja.symm, ← hja, Int64.sub_add_cancel]
        · rw [if_neg hja, if_neg (fun z => hja z.symm), if_neg hja, if_pos rfl]
      · rw [if_neg hj]
        by_cases hja : j = a
        · rw [if_pos hja, if_neg (fun z => hj (by rw [hja]; exact z)), if_pos hja, ← hja]
        · rw [if_neg hja, if_neg hja, if_neg hj]
          by_cases hab : a = B
          · rw [if_pos hab]
          · rw [if_neg hab]
    · rw [if_neg h2, if_neg h2, Int64.add_zero, add_z64]
      by_cases hj : j = B
      · rw [if_pos hj, ← hj]
        by_cases hja : j = a
        · rw [if_pos hja, if_pos hja, ← hja]
        · rw [if_neg hja, if_neg hja]
      · rw [if_neg hj]
        by_cases hja : j = a
        · rw [if_pos hja, if_pos hja, ← hja]
        · rw [if_neg hja, if_neg hja]
theorem okV_b {v : Int64} (z : okV v = true) : 0 ≤ v.toInt ∧ v.toInt ≤ 1000000000000 := by
  have := of_decide_eq_true z
  rw [n_le64, n_le64] at this
  exact this
theorem add64 {a b : Int64} {M : Int} (h1 : 0 ≤ a.toInt) (h2 : a.toInt ≤ M) (h3 : 0 ≤ b.toInt) (h4 : b.toInt ≤ 1000000) (hM : M ≤ 1000000000000000000) : (a + b).toInt = a.toInt + b.toInt := by
  rw [Int64.toInt_add]
  exact Int.bmod_eq_of_le (by omega) (by omega)
/-- what the accounts have behind a deed that is let -/
theorem moved_ok {k A : Int32} (hW : WF2 g S) (hk : inN k (nA S) = true) (hA : A = 6 * mT S 457 (tn k) + mT S 459 (tn k)) (hL : letF S (mT S 457 (tn k)) k A = true) (hd : mT S 458 (tn k) = 1 ∨ mT S 458 (tn k) = 2 ∨ mT S 458 (tn k) = 3) (j : Nat) (hj : j < 24) : 0 ≤ (mJ (movedF S (mT S 457 (tn k)) k A) 452 j).toInt ∧ (mJ (movedF S (mT S 457 (tn k)) k A) 452 j).toInt ≤ 1000000000000 + 1000000 * ((g + 1 : Nat) : Int) := by
  have hkk := (inN_tn hk).2.1
  have hw := hW.2.2.2.1 _ hkk
  have hg := hW.2.1.1
  have acc := hW.2.2.2.2.2.2.2.2.2.2 j hj
  obtain ⟨w1, w2, w3, w4, w5⟩ := hW.1.ask hk
  have hA24 := inN_ac w2 w3
  have hB24 := inN_ac w2 w4
  rw [moved_mJ]
  generalize hB : 6 * mT S 457 (tn k) + mT S 460 (tn k) = B at *
  rw [← hA] at hA24
  have old : 0 ≤ (mJ S 452 j).toInt ∧ (mJ S 452 j).toInt ≤ 1000000000000 + 1000000 * ((g + 1 : Nat) : Int) := by omega
  have one : ∀ v : Int64, okV v = true → 0 ≤ v.toInt ∧ v.toInt ≤ 1000000000000 + 1000000 * ((g + 1 : Nat) : Int) := fun v z => by have := okV_b z; omega
  by_cases h1 : mT S 458 (tn k) = 1
  · rw [if_pos h1]
    by_cases hja : j = tn A
    · rw [if_pos hja]
      unfold letF at hL
      rw [if_pos h1] at hL
      rcases (Bool.or_eq_true _ _).mp hL with z | z
      · have z2 := of_decide_eq_true z
        have h6 : 6 ≤ tn (mT S 454 (tn k)) := by
          have := (inN_tn w1)
          rw [this.1, show (5 : Int32) = nI 5 from rfl, nI_lti (by decide) (by omega)] at z2
          omega
        have h0 := (hw.2.2.2.2.1.2 h6).2.2.2.2.2.2.2.1
        have hb := hw.2.2.1.2.1
        have e := add64 (a := mJ S 452 j) (b := (mT S 462 (tn k)).toInt64) (M := 1000000000000 + 1000000 * (g : Int)) acc.1 acc.2 (by rw [Int32.toInt_toInt64]; exact h0) (by rw [Int32.toInt_toInt64]; exact hb) (by omega)
        rw [e, Int32.toInt_toInt64]
        omega
      · rw [← hja] at z
        exact one _ z
    · rw [if_neg hja]; exact old
  · rw [if_neg h1]
    by_cases h2 : mT S 458 (tn k) = 2
    · rw [if_pos h2]
      by_cases hab : tn A = tn B
      · rw [if_pos hab]; exact old
      · rw [if_neg hab]
        unfold letF at hL
        rw [if_neg h1, if_pos h2, hB, decide_eq_false (fun z => hab (by rw [z])), Bool.false_or, Bool.and_eq_true] at hL
        by_cases hja : j = tn A
        · rw [if_pos hja, hja]
          exact one _ hL.1
        · rw [if_neg hja]
          by_cases hjb : j = tn B
          · rw [if_pos hjb, hjb]; exact one _ hL.2
          · rw [if_neg hjb]; exact old
    · rw [if_neg h2]
      by_cases hja : j = tn A
      · rw [if_pos hja, hja]
        unfold letF at hL
        rw [if_neg h1, if_neg h2, Bool.and_eq_true] at hL
        exact one _ hL.1
      · rw [if_neg hja]; exact old
theorem ne_m3 {v : Int64} (z : 0 ≤ v.toInt) : v ≠ -3 := fun e => by rw [e] at z; exact absurd z (by decide)
theorem cancelA_ne {o k : Int32} : cancelA S o k ≠ -3 := by
  unfold cancelA
  repeat' split
  all_goals decide
theorem LifeOK_x {L : List Nat} (hS : SX L S S') (d : dj [450, 453, 454, 455, 463] L) (hL : LifeOK S) : LifeOK S' := by
  intro k hk o
  have eA : nA S' = nA S := by unfold nA; rw [(hS 453 d.at).1]
  rw [(hS 463 d.at).2.1] at o
  rw [(hS 455 d.at).2.1, (hS 450 d.at).2.1, (hS 454 d.at).2.1]
  exact hL k (eA ▸ hk) o
theorem WF1_farG {sv o k : Int32} (hW : WF1 S) (h300 : nA S < 300) (h7 : nR S < 700) (hs : inN sv 4 = true) (hk : inN k (nA S) = true) : WF1 (farG S sv o k) ∧ nA (farG S sv o k) = nA S + 1 := by
  obtain ⟨w1, w2, w3, w4, w5⟩ := hW.ask hk
  obtain ⟨z4, n4⟩ := WF1_newAsk hW h300 (inN_sv hs) (sv := mT S 461 (tn k)) (a := mT S 460 (tn k)) (b := 0) (t := 0) (kind := 1) (amt := mT S 462 (tn k)) (far := k) w5 w4 (by decide) (by decide) (fun _ => hk)
  have eN := (inN_tn hW.1.1).1
  refine ⟨WF1_put (WF1_pT (by decide) z4) (by rw [nR_pT, newAsk_nR]; exact h7) (fun _ => by rw [nA_pT, n4, eN]; exact inN_nIlt (Nat.lt_succ_self _) (by omega)), ?_⟩
  unfold farG
  rw [put_nA, nA_pT, n4]
theorem SX_farG {sv o k : Int32} : SX [453, 454, 455, 456, 451, 457, 458, 459, 460, 461, 462, 463, 465, 466, 476, 477, 478, 479, 480, 481] S (farG S sv o k) := (SX_new.sub (by decide)).tr ((SX_pT (by decide)).tr ((SX_put _ _ _ _ _).sub (by decide)))
theorem LifeOK_farG {sv o k : Int32} (hW : WF1 S) (h300 : nA S < 300) (hL : LifeOK S) : LifeOK (farG S sv o k) :=
  LifeOK_x (SX_put _ _ _ _ _) (by decide) (LifeOK_x (SX_pT (f := 466) (L := [466]) (by decide)) (by decide) (LifeOK_new hW h300 hL))
def ActX : List Nat := [67, 68, 389, 313, 329, 12, 13, 14, 335, 193, 194, 195, 350, 359, 128, 129, 130, 131, 132, 133, 256, 258]
set_option maxRecDepth 100000 in
set_option maxHeartbeats 4000000 in
theorem act_111 {k b : Int32} {i num s c sl : Nat} {v : Int64} {Q : Option Value → Hp → Prop} (hc : c ≤ 1) (hs : sl ≤ 15) (hr : Rep w as S h) (hI1 : Inj w) (hW : WF1 S) (hl : LoOK S i) (h7 : nR S < 700) (hk : inN k (nA S) = true) (hi : i < 40) (hnum : mT S 456 (tn k) = nI num) (hw1 : tn (mT S 475 i) ≤ num) (hw2 : num < tn (mT S 475 i) + tn (mI S 448)) (hv : v ≠ -3) (hb : lv S b) (hQ : ∀ h', Rep w as (doneF S (nI i) k v) h' → HX ActX h h' → Q (some (.int (mI (doneF S (nI i) k v) 486 - mI S 486))) h') : J x (om_m x 4 1 15 Q) kX6_act 111 [(0, .ref (w 0 0)), (1, .ref (w 8 s)), (2, .ref (w 11 i)), (3, .ref (as (tn k))), (4, .int b), (5, .null), (6, .long v)] [] h c sl := by
  have hkk := (inN_tn hk).2.1
  obtain ⟨q0, q1, q2, q3, q4, q5, q6, q7, q8, q9, q10, -⟩ := hr.2.2.2.1.2.2.1 _ hkk
  have o1 := hr.1.1.1
  have kM := (Rep.mk hr.1 hi).1
  have ed : doneF S (nI i) k v = sendF (putRecF S (nI i) (nI num) 1 v (-1)) k true v := by unfold doneF; rw [hnum]
  have e6 : mI (putRecF S (nI i) (nI num) 1 v (-1)) 486 = mI S 486 := put_I _ _ _ _ _ (by decide)
  have e5 : mI (putRecF S (nI i) (nI num) 1 v (-1)) 485 = mI S 485 := put_I _ _ _ _ _ (by decide)
  have wp : WF1 (putRecF S (nI i) (nI num) 1 v (-1)) := WF1_put hW h7 (fun z => absurd z (by decide))
  refine J_aload_n dX6_act_111 rfl rfl isR_r ?_
  refine J_aload_n dX6_act_112 rfl rfl isR_r ?_
  refine J_getI dX6_act_113 g_X6_105 (by first | with_reducible assumption | (simp only [hK_sI, hK_sJ, hK_sR, hK_tI, hK_tJ, hK_tR]; with_reducible assumption)) ?_
  refine J_iconst (v := 1) dX6_act_116 (by decide) ?_
  refine J_lload dX6_act_117 rfl ?_
  rw [q4, hnum]
  refine J_callV (c_writeR (own := -1) (V := v) hr hI1 hW.1.2.2 h7 hi hl hw1 hw2 (Or.inl ⟨rfl, rfl⟩)) dX6_act_119 ml_X6_331 mkX3_write rfl (by first | with_reducible assumption | (simp only [hK_sI, hK_sJ, hK_sR, hK_tI, hK_tJ, hK_tR]; with_reducible assumption)) (by decide) rfl rfl (Nat.le_of_ble_eq_true rfl) ⟨Nat.le_of_ble_eq_true rfl, Nat.le_of_ble_eq_true rfl⟩ ⟨hc, hs⟩ (fun v119 hp119 q119 => ?_)
  obtain ⟨rfl, z1, z2⟩ := q119
  have o1' := z1.1.1.1
  refine J_aload_n dX6_act_122 rfl rfl isR_r ?_
  refine J_aload_n dX6_act_123 rfl rfl isR_r ?_
  refine J_pc (pc' := 124) rfl ?_
  refine J_lload dX6_act_124 rfl ?_
  refine J_iload dX6_act_126 rfl ?_
  refine J_callV (c_sendAnswer (a := k) z1 wp (by rw [put_nA]; exact hk) hv (by unfold lv at hb ⊢; rw [e5]; exact hb)) dX6_act_128 ml_X6_310 mkX6_sendAnswer rfl (by first | with_reducible assumption | (simp only [hK_sI, hK_sJ, hK_sR, hK_tI, hK_tJ, hK_tR]; with_reducible assumption)) (by decide) rfl rfl (Nat.le_of_ble_eq_true rfl) ⟨Nat.le_of_ble_eq_true rfl, Nat.le_of_ble_eq_true rfl⟩ ⟨hc, hs⟩ (fun v128 hp128 q128 => ?_)
  obtain ⟨rfl, z3, z4⟩ := q128
  exact J_ireturn dX6_act_131 rfl (by
   have := hQ hp128 (by rw [ed]; exact z3) ((z2.sub (by decide)).tr (z4.sub (by decide)))
   rw [ed] at this
   rw [e6]
   exact this) hc hs
set_option maxRecDepth 100000 in
set_option maxHeartbeats 4000000 in
theorem c_act {k b : Int32} {i num : Nat} (hr : Rep w as S h) (hI1 : Inj w) (hW : WF2 g S) (h467 : ∀ k, nA S ≤ k → mT S 467 k = 0) (h7 : nR S + 1 < 700) (hk : inN k (nA S) = true) (hi : i < 40) (hb : lv S b) (hnum : mT S 456 (tn k) = nI num) (hw1 : tn (mT S 475 i) ≤ num) (hw2 : num < tn (mT S 475 i) + tn (mI S 448)) : Mt x 4 kX6_act 1 15 [.ref (w 0 0), .ref (w 8 (tn (mT S 457 (tn k)))), .ref (w 11 i), .ref (as (tn k)), .int b] h (fun z h' => z = some (.int (mI (actF S (mT S 457 (tn k)) (nI i) k) 486 - mI S 486)) ∧ ∃ as' : Nat → Nat, (∀ j, j < nA S → as' j = as j) ∧ Rep w as' (actF S (mT S 457 (tn k)) (nI i) k) h' ∧ HX ActX h h') := by
  refine Mt.ofJ mkX6_act.1 (Nat.le_of_ble_eq_true rfl) ?_
  have hkk := (inN_tn hk).2.1
  have hke := (inN_tn hk).1
  obtain ⟨w1, w2, w3, w4, w5⟩ := hW.1.ask hk
  obtain ⟨q0, q1, q2, q3, q4, q5, q6, q7, q8, q9, q10, -⟩ := hr.2.2.2.1.2.2.1 _ hkk
  have hak := hW.2.2.2.1 _ hkk
  have o1 := hr.1.1.1
  have hs4 := (inN_tn w2).2.1
  have ha6 := (inN_tn w3).2.1
  have eA := ac_tn w2 w3
  have eV := hr.2.2.2.2.2.1 _ _ hs4 ha6
  have kM := (Rep.mk hr.1 hi).1
  have k8 := (hr.1.2.2.2.1 _ hs4).2.1
  have hl := hW.lo hi
  have hkd5 := hak.2.1.2.2
  have hb1 := hak.2.2.1.1
  have hb2 := hak.2.2.1.2.1
  have hn6 : mT S 458 (tn k) ≠ 1 → mT S 454 (tn k) < 6 := fun z => by
    have e4 := inN_tn w1
    rw [e4.1, show (6 : Int32) = nI 6 from rfl, nI_lti (by omega) (by decide)]
    by_cases y : 6 ≤ tn (mT S 454 (tn k))
    · exact absurd (hak.2.2.2.2.1.2 y).1 z
    · omega
  have mok : ∀ j, j < 24 → letF S (mT S 457 (tn k)) k (6 * mT S 457 (tn k) + mT S 459 (tn k)) = true → (mT S 458 (tn k) = 1 ∨ mT S 458 (tn k) = 2 ∨ mT S 458 (tn k) = 3) → mJ (movedF S (mT S 457 (tn k)) k (6 * mT S 457 (tn k) + mT S 459 (tn k))) 452 j ≠ -3 := fun j hj z1 z2 => ne_m3 (moved_ok hW hk rfl z1 z2 j hj).1
  have ha24 := inN_ac w2 w3
  have hM := moved_S (S := S) (sv := mT S 457 (tn k)) (ask := k) (a := 6 * mT S 457 (tn k) + mT S 459 (tn k))
  generalize hsv : mT S 457 (tn k) = sv at *
  generalize hQ : (fun z h' => z = some (Value.int (mI (actF S sv (nI i) k) 486 - mI S 486)) ∧ ∃ as' : Nat → Nat, (∀ j, j < nA S → as' j = as j) ∧ Rep w as' (actF S sv (nI i) k) h' ∧ HX ActX h h') = Q
  have leaf : ∀ S1 : Ms, actF S sv (nI i) k = S1 → ∀ h', Rep w as S1 h' → HX ActX h h' → Q (some (.int (mI S1 486 - mI S 486))) h' := fun S1 e h' z1 z2 => by
    rw [← hQ]
    show _ ∧ _
    rw [e]
    exact ⟨rfl, as, fun _ _ => rfl, z1, z2⟩
  have ch : ¬ mT S 458 (tn k) = 0 → ¬ mT S 458 (tn k) = 4 → actF S sv (nI i) k = changeF S sv (nI i) k (6 * sv + mT S 459 (tn k)) := fun z1 z2 => by unfold actF; rw [if_neg z1, if_neg z2]
  have wM : WF1 (movedF S sv k (6 * sv + mT S 459 (tn k))) := WF1_moved hW.1 _ _ _
  have nM : nA (movedF S sv k (6 * sv + mT S 459 (tn k))) = nA S := by unfold nA; rw [(hM 453 (by decide)).1]
  have rM : nR (movedF S sv k (6 * sv + mT S 459 (tn k))) = nR S := by unfold nR; rw [(hM 476 (by decide)).1]
  have done0 : ∀ (c sl : Nat) (v : Int64), c ≤ 1 → sl ≤ 15 → v ≠ -3 → actF S sv (nI i) k = doneF S (nI i) k v → J x (om_m x 4 1 15 Q) kX6_act 111 [(0, .ref (w 0 0)), (1, .ref (w 8 (tn sv))), (2, .ref (w 11 i)), (3, .ref (as (tn k))), (4, .int b), (5, .null), (6, .long v)] [] h c sl := fun c sl v hc hs hv e => act_111 hc hs hr hI1 hW.1 hl (by omega) hk hi hnum hw1 hw2 hv hb (fun h' z1 z2 => leaf _ e h' z1 z2)
  have doneM : ∀ (c sl : Nat) (h1 : Hp), c ≤ 1 → sl ≤ 15 → letF S sv k (6 * sv + mT S 459 (tn k)) = true → (mT S 458 (tn k) = 1 ∨ mT S 458 (tn k) = 2) → Rep w as (movedF S sv k (6 * sv + mT S 459 (tn k))) h1 → HX [12, 335] h h1 → J x (om_m x 4 1 15 Q) kX6_act 111 [(0, .ref (w 0 0)), (1, .ref (w 8 (tn sv))), (2, .ref (w 11 i)), (3, .ref (as (tn k))), (4, .int b), (5, .null), (6, .long (mJ (movedF S sv k (6 * sv + mT S 459 (tn k))) 452 (tn (6 * sv + mT S 459 (tn k)))))] [] h1 c sl := fun c sl h1 hc hs zl zk zr zx => by
    have n0 : ¬ mT S 458 (tn k) = 0 := fun z => by rw [z] at zk; revert zk; decide
    have n3 : mT S 458 (tn k) ≠ 3 := fun z => by rw [z] at zk; revert zk; decide
    have n4 : ¬ mT S 458 (tn k) = 4 := fun z => by rw [z] at zk; revert zk; decide
    have e : actF S sv (nI i) k = doneF (movedF S sv k (6 * sv + mT S 459 (tn k))) (nI i) k (mJ (movedF S sv k (6 * sv + mT S 459 (tn k))) 452 (tn (6 * sv + mT S 459 (tn k)))) := by
      rw [ch n0 n4]
      unfold changeF
      rw [if_neg (by rw [zl]; decide), if_pos n3]
    refine act_111 hc hs zr hI1 wM (by unfold LoOK; rw [(hM 448 (by decide)).1, (hM 475 (by decide)).2.1]; exact hl) (by rw [rM]; omega) (by rw [nM]; exact hk) hi (by rw [(hM 456 (by decide)).2.1]; exact hnum) (by rw [(hM 475 (by decide)).2.1]; exact hw1) (by rw [(hM 448 (by decide)).1, (hM 475 (by decide)).2.1]; exact hw2) (mok _ (inN_tn ha24).2.1 zl (zk.elim Or.inl (fun z => Or.inr (Or.inl z)))) (by unfold lv at hb ⊢; rw [(hM 485 (by decide)).1]; exact hb) (fun h' z1 z2 => ?_)
    have := leaf _ e h' z1 ((zx.sub (by decide)).tr z2)
    rw [(hM 486 (by decide)).1]
    exact this
  by_cases k0 : mT S 458 (tn k) = 0
  · have e : actF S sv (nI i) k = sendF S k true (mJ S 452 (tn (6 * sv + mT S 459 (tn k)))) := by unfold actF; rw [if_pos k0]
    have v0 := hW.2.2.2.2.2.2.2.2.2.2 _ (inN_tn ha24).2.1
    refine J_aload_n dX6_act_0 rfl rfl isR_r ?_
    refine J_getI dX6_act_1 g_X6_111 (by first | with_reducible assumption | (simp only [hK_sI, hK_sJ, hK_sR, hK_tI, hK_tJ, hK_tR]; with_reducible assumption)) ?_
    refine J_if_ne (tgt := 23) dX6_act_4 (by decide) (fun c4 => (c4 (by rw [q6]; exact k0)).elim) (fun c4 => ?_)
    refine J_aload_n dX6_act_7 rfl rfl isR_r ?_
    refine J_aload_n dX6_act_8 rfl rfl isR_r ?_
    refine J_aload_n dX6_act_9 rfl rfl isR_r ?_
    refine J_aload_n dX6_act_10 rfl rfl isR_r ?_
    refine J_getI dX6_act_11 g_X6_252 (by first | with_reducible assumption | (simp only [hK_sI, hK_sJ, hK_sR, hK_tI, hK_tJ, hK_tR]; with_reducible assumption)) ?_
    rw [q7]
    refine J_callV (c_has hr.1 hs4 w3) dX6_act_14 ml_X6_187 mkX5_has rfl (by first | with_reducible assumption | (simp only [hK_sI, hK_sJ, hK_sR, hK_tI, hK_tJ, hK_tR]; with_reducible assumption)) (by decide) rfl rfl (Nat.le_of_ble_eq_true rfl) ⟨Nat.le_of_ble_eq_true rfl, Nat.le_of_ble_eq_true rfl⟩ ⟨Nat.le_of_ble_eq_true rfl, Nat.le_of_ble_eq_true rfl⟩ (fun v14 hp14 q14 => ?_)
    obtain ⟨rfl, z14⟩ := q14
    rw [z14]
    refine J_pc (pc' := 17) rfl ?_
    refine J_iload dX6_act_17 rfl ?_
    rw [eV, ← eA]
    refine J_callV (c_sendAnswer (a := k) hr hW.1 hk (ne_m3 v0.1) hb) dX6_act_19 ml_X6_310 mkX6_sendAnswer rfl (by first | with_reducible assumption | (simp only [hK_sI, hK_sJ, hK_sR, hK_tI, hK_tJ, hK_tR]; with_reducible assumption)) (by decide) rfl rfl (Nat.le_of_ble_eq_true rfl) ⟨Nat.le_of_ble_eq_true rfl, Nat.le_of_ble_eq_true rfl⟩ ⟨Nat.le_of_ble_eq_true rfl, Nat.le_of_ble_eq_true rfl⟩ (fun v19 hp19 q19 => ?_)
    obtain ⟨rfl, z1, z2⟩ := q19
    exact J_ireturn dX6_act_22 rfl (leaf _ e hp19 z1 (z2.sub (by decide))) (Nat.le_of_ble_eq_true rfl) (Nat.le_of_ble_eq_true rfl)
  by_cases k3 : mT S 458 (tn k) = 3
  · have n4 : ¬ mT S 458 (tn k) = 4 := by rw [k3]; decide
    have cBF := c_beginFar (x := x) (num := num) hr hI1 hW h467 (by omega) hk k3 (hn6 (by rw [k3]; decide)) hb1 hb2 hi hnum hw1 hw2
    rw [hsv] at cBF
    have ec := ch k0 n4
    by_cases hlet : letF S sv k (6 * sv + mT S 459 (tn k)) = false
    · have ed : actF S sv (nI i) k = doneF S (nI i) k (-1) := by rw [ec]; unfold changeF; rw [if_pos hlet]
      have done1 : ∀ (c sl : Nat) (h1 : Hp), c ≤ 1 → sl ≤ 15 → Rep w as S h1 → HX FarX h h1 → J x (om_m x 4 1 15 Q) kX6_act 111 [(0, .ref (w 0 0)), (1, .ref (w 8 (tn sv))), (2, .ref (w 11 i)), (3, .ref (as (tn k))), (4, .int b), (5, .null), (6, .long (-1))] [] h1 c sl := fun c sl h1 hc hs zr zx => act_111 hc hs zr hI1 hW.1 hl (by omega) hk hi hnum hw1 hw2 (by decide) hb (fun h' z1 z2 => leaf _ ed h' z1 ((zx.sub (by decide)).tr z2))
      refine J_aload_n dX6_act_0 rfl rfl isR_r ?_
      refine J_getI dX6_act_1 g_X6_111 (by first | with_reducible assumption | (simp only [hK_sI, hK_sJ, hK_sR, hK_tI, hK_tJ, hK_tR]; with_reducible assumption)) ?_
      refine J_if_ne (tgt := 23) dX6_act_4 (by decide) (fun c4 => ?_) (fun c4 => (k0 (by rw [← q6]; exact c4)).elim)
      refine J_aload_n dX6_act_23 rfl rfl isR_r ?_
      refine J_getI dX6_act_24 g_X6_111 (by first | with_reducible assumption | (simp only [hK_sI, hK_sJ, hK_sR, hK_tI, hK_tJ, hK_tR]; with_reducible assumption)) ?_
      refine J_iconst (v := 3) dX6_act_27 (by decide) ?_
      refine J_icmp_ne (tgt := 41) dX6_act_28 (by decide) (fun c28 => (c28 (by rw [q6]; exact k3)).elim) (fun c28 => ?_)
      refine J_aload_n dX6_act_31 rfl rfl isR_r ?_
      refine J_aload_n dX6_act_32 rfl rfl isR_r ?_
      refine J_aload_n dX6_act_33 rfl rfl isR_r ?_
      refine J_pc (pc' := 34) rfl ?_
      refine J_aload_n dX6_act_34 rfl rfl isR_r ?_
      refine J_callV (cBF) dX6_act_35 ml_X6_314 mkX6_beginFar rfl (by first | with_reducible assumption | (simp only [hK_sI, hK_sJ, hK_sR, hK_tI, hK_tJ, hK_tR]; with_reducible assumption)) (by decide) rfl rfl (Nat.le_of_ble_eq_true rfl) ⟨Nat.le_of_ble_eq_true rfl, Nat.le_of_ble_eq_true rfl⟩ ⟨Nat.le_of_ble_eq_true rfl, Nat.le_of_ble_eq_true rfl⟩ (fun v35 hp35 q35 => ?_)
      rw [if_pos hlet] at q35
      obtain ⟨rfl, z1, z2⟩ := q35
      have ak := z1.2.2.2.1.2.2.1 _ hkk
      have p0 := ak.1
      have p6 : hI hp35 5 (as (tn k)) = 3 := by rw [ak.2.2.2.2.2.2.1]; exact k3
      refine J_goto (tgt := 42) dX6_act_38 (by decide) ?_
      refine J_astore dX6_act_42 isR_n (by decide) ?_
      refine J_aload dX6_act_44 rfl isR_n ?_
      refine J_ifnull_n (tgt := 58) dX6_act_46 (by decide) ?_
      refine J_ldc2 dX6_act_58 ll_X6_318 ?_
      refine J_lstore dX6_act_61 (by decide) ?_
      refine J_aload_n dX6_act_63 rfl rfl isR_r ?_
      refine J_getI dX6_act_64 g_X6_111 (by first | with_reducible assumption | (simp only [hK_sI, hK_sJ, hK_sR, hK_tI, hK_tJ, hK_tR]; with_reducible assumption)) ?_
      refine J_pc (pc' := 67) rfl ?_
      refine J_iconst (v := 1) dX6_act_67 (by decide) ?_
      refine J_icmp_ne (tgt := 79) dX6_act_68 (by decide) (fun c68 => ?_) (fun c68 => (show False from absurd (p6.symm.trans c68) (by decide)).elim)
      refine J_aload_n dX6_act_79 rfl rfl isR_r ?_
      refine J_getI dX6_act_80 g_X6_111 (by first | with_reducible assumption | (simp only [hK_sI, hK_sJ, hK_sR, hK_tI, hK_tJ, hK_tR]; with_reducible assumption)) ?_
      refine J_iconst (v := 2) dX6_act_83 (by decide) ?_
      refine J_icmp_ne (tgt := 95) dX6_act_84 (by decide) (fun c84 => ?_) (fun c84 => (show False from absurd (p6.symm.trans c84) (by decide)).elim)
      refine J_aload_n dX6_act_95 rfl rfl isR_r ?_
      refine J_getI dX6_act_96 g_X6_111 (by first | with_reducible assumption | (simp only [hK_sI, hK_sJ, hK_sR, hK_tI, hK_tJ, hK_tR]; with_reducible assumption)) ?_
      refine J_iconst (v := 4) dX6_act_99 (by decide) ?_
      refine J_icmp_ne (tgt := 111) dX6_act_100 (by decide) (fun c100 => ?_) (fun c100 => (show False from absurd (p6.symm.trans c100) (by decide)).elim)
      exact J_loc _ rfl (done1 _ _ _ (by decide) (by decide) z1 z2)
    · have hlt : letF S sv k (6 * sv + mT S 459 (tn k)) = true := by cases u : letF S sv k (6 * sv + mT S 459 (tn k)) with
        | true => rfl
        | false => exact absurd u hlet
      have ed : actF S sv (nI i) k = sendF (farG (movedF S sv k (6 * sv + mT S 459 (tn k))) sv (nI i) k) (mI (movedF S sv k (6 * sv + mT S 459 (tn k))) 453) false 0 := by
        rw [ec]
        unfold changeF
        rw [if_neg hlet, if_neg (fun z => z k3)]
        exact farF_G _ _ _ _
      have eN := (inN_tn hW.1.1.1).1
      have eN3 : nA S < 301 := (inN_tn hW.1.1.1).2.1
      have h300 : nA S < 300 := by
        have z := hlt
        unfold letF at z
        rw [if_neg (by rw [k3]; decide), if_neg (by rw [k3]; decide)] at z
        simp only [Bool.and_eq_true, decide_eq_true_eq] at z
        have z3 := z.2.1
        rw [eN, show (300 : Int32) = nI 300 from rfl, nI_lti (by unfold nA at eN3; omega) (by decide)] at z3
        exact z3
      obtain ⟨wG, nG⟩ := WF1_farG (o := nI i) wM (by rw [nM]; exact h300) (by rw [rM]; omega) w2 (by rw [nM]; exact hk)
      have lG : LifeOK (farG (movedF S sv k (6 * sv + mT S 459 (tn k))) sv (nI i) k) := LifeOK_farG wM (by rw [nM]; exact h300) (LifeOK_x hM (by decide) hW.life)
      have e485 : mI (farG (movedF S sv k (6 * sv + mT S 459 (tn k))) sv (nI i) k) 485 = mI S 485 := (SX_farG 485 (by decide)).1.trans (hM 485 (by decide)).1
      have e486 : mI (farG (movedF S sv k (6 * sv + mT S 459 (tn k))) sv (nI i) k) 486 = mI S 486 := (SX_farG 486 (by decide)).1.trans (hM 486 (by decide)).1
      rw [(hM 453 (by decide)).1] at ed
      generalize hG : farG (movedF S sv k (6 * sv + mT S 459 (tn k))) sv (nI i) k = G at *
      refine J_aload_n dX6_act_0 rfl rfl isR_r ?_
      refine J_getI dX6_act_1 g_X6_111 (by first | with_reducible assumption | (simp only [hK_sI, hK_sJ, hK_sR, hK_tI, hK_tJ, hK_tR]; with_reducible assumption)) ?_
      refine J_if_ne (tgt := 23) dX6_act_4 (by decide) (fun c4 => ?_) (fun c4 => (k0 (by rw [← q6]; exact c4)).elim)
      refine J_aload_n dX6_act_23 rfl rfl isR_r ?_
      refine J_getI dX6_act_24 g_X6_111 (by first | with_reducible assumption | (simp only [hK_sI, hK_sJ, hK_sR, hK_tI, hK_tJ, hK_tR]; with_reducible assumption)) ?_
      refine J_iconst (v := 3) dX6_act_27 (by decide) ?_
      refine J_icmp_ne (tgt := 41) dX6_act_28 (by decide) (fun c28 => (c28 (by rw [q6]; exact k3)).elim) (fun c28 => ?_)
      refine J_aload_n dX6_act_31 rfl rfl isR_r ?_
      refine J_aload_n dX6_act_32 rfl rfl isR_r ?_
      refine J_aload_n dX6_act_33 rfl rfl isR_r ?_
      refine J_pc (pc' := 34) rfl ?_
      refine J_aload_n dX6_act_34 rfl rfl isR_r ?_
      refine J_callV (cBF) dX6_act_35 ml_X6_314 mkX6_beginFar rfl (by first | with_reducible assumption | (simp only [hK_sI, hK_sJ, hK_sR, hK_tI, hK_tJ, hK_tR]; with_reducible assumption)) (by decide) rfl rfl (Nat.le_of_ble_eq_true rfl) ⟨Nat.le_of_ble_eq_true rfl, Nat.le_of_ble_eq_true rfl⟩ ⟨Nat.le_of_ble_eq_true rfl, Nat.le_of_ble_eq_true rfl⟩ (fun v35 hp35 q35 => ?_)
      rw [if_neg hlet] at q35
      obtain ⟨q, rfl, z1, z2⟩ := q35
      have o1' := z1.1.1.1
      refine J_goto (tgt := 42) dX6_act_38 (by decide) ?_
      refine J_astore dX6_act_42 isR_r (by decide) ?_
      refine J_aload dX6_act_44 rfl isR_r ?_
      refine J_ifnull_r dX6_act_46 ?_
      refine J_aload_n dX6_act_49 rfl rfl isR_r ?_
      refine J_aload dX6_act_50 rfl isR_r ?_
      refine J_iload dX6_act_52 rfl ?_
      refine J_pc (pc' := 54) rfl ?_
      refine J_st (st' := [.int b, .ref (asN as S q (tn (mI S 453))), .ref (w 0 0)]) (by rw [show asN as S q (tn (mI S 453)) = q from asN_new] <;> rfl) ?_
      refine J_callV (c_sendAsk (a := mI S 453) z1 hI1 wG lG (by rw [nG, nM, eN]; exact inN_nIlt (Nat.lt_succ_self _) (by omega)) (by unfold lv at hb ⊢; rw [e485]; exact hb)) dX6_act_54 ml_X6_78 mkX6_sendAsk rfl (by first | with_reducible assumption | (simp only [hK_sI, hK_sJ, hK_sR, hK_tI, hK_tJ, hK_tR]; with_reducible assumption)) (by decide) rfl rfl (Nat.le_of_ble_eq_true rfl) ⟨Nat.le_of_ble_eq_true rfl, Nat.le_of_ble_eq_true rfl⟩ ⟨Nat.le_of_ble_eq_true rfl, Nat.le_of_ble_eq_true rfl⟩ (fun v54 hp54 q54 => ?_)
      obtain ⟨rfl, z3, z4⟩ := q54
      exact J_ireturn dX6_act_57 rfl (by
       rw [← hQ]
       show _ ∧ _
       rw [ed, e486]
       exact ⟨rfl, asN as S q, fun j hj => asN_old hj, z3, (z2.sub (by decide)).tr (z4.sub (by decide))⟩) (Nat.le_of_ble_eq_true rfl) (Nat.le_of_ble_eq_true rfl)
  by_cases k1 : mT S 458 (tn k) = 1
  · have n4 : ¬ mT S 458 (tn k) = 4 := by rw [k1]; decide
    have cAD := c_add (x := x) hr hI1 hW.1 hk k1
    rw [hsv] at cAD
    have n2 : ¬ mT S 458 (tn k) = 2 := by rw [k1]; decide
    have ec := ch k0 n4
    by_cases hlet : letF S sv k (6 * sv + mT S 459 (tn k)) = false
    · have ed : actF S sv (nI i) k = doneF S (nI i) k (-1) := by rw [ec]; unfold changeF; rw [if_pos hlet]
      refine J_aload_n dX6_act_0 rfl rfl isR_r ?_
      refine J_getI dX6_act_1 g_X6_111 (by first | with_reducible assumption | (simp only [hK_sI, hK_sJ, hK_sR, hK_tI, hK_tJ, hK_tR]; with_reducible assumption)) ?_
      refine J_if_ne (tgt := 23) dX6_act_4 (by decide) (fun c4 => ?_) (fun c4 => (k0 (by rw [← q6]; exact c4)).elim)
      refine J_aload_n dX6_act_23 rfl rfl isR_r ?_
      refine J_getI dX6_act_24 g_X6_111 (by first | with_reducible assumption | (simp only [hK_sI, hK_sJ, hK_sR, hK_tI, hK_tJ, hK_tR]; with_reducible assumption)) ?_
      refine J_iconst (v := 3) dX6_act_27 (by decide) ?_
      refine J_icmp_ne (tgt := 41) dX6_act_28 (by decide) (fun c28 => ?_) (fun c28 => (k3 (by rw [← q6]; exact c28)).elim)
      refine J_null dX6_act_41 ?_
      refine J_astore dX6_act_42 isR_n (by decide) ?_
      refine J_aload dX6_act_44 rfl isR_n ?_
      refine J_pc (pc' := 46) rfl ?_
      refine J_ifnull_n (tgt := 58) dX6_act_46 (by decide) ?_
      refine J_ldc2 dX6_act_58 ll_X6_318 ?_
      refine J_lstore dX6_act_61 (by decide) ?_
      refine J_aload_n dX6_act_63 rfl rfl isR_r ?_
      refine J_getI dX6_act_64 g_X6_111 (by first | with_reducible assumption | (simp only [hK_sI, hK_sJ, hK_sR, hK_tI, hK_tJ, hK_tR]; with_reducible assumption)) ?_
      refine J_iconst (v := 1) dX6_act_67 (by decide) ?_
      refine J_icmp_ne (tgt := 79) dX6_act_68 (by decide) (fun c68 => (c68 (by rw [q6]; exact k1)).elim) (fun c68 => ?_)
      refine J_aload_n dX6_act_71 rfl rfl isR_r ?_
      refine J_aload_n dX6_act_72 rfl rfl isR_r ?_
      refine J_aload_n dX6_act_73 rfl rfl isR_r ?_
      refine J_pc (pc' := 74) rfl ?_
      refine J_callV (cAD) dX6_act_74 ml_X6_320 mkX6_add rfl (by first | with_reducible assumption | (simp only [hK_sI, hK_sJ, hK_sR, hK_tI, hK_tJ, hK_tR]; with_reducible assumption)) (by decide) rfl rfl (Nat.le_of_ble_eq_true rfl) ⟨Nat.le_of_ble_eq_true rfl, Nat.le_of_ble_eq_true rfl⟩ ⟨Nat.le_of_ble_eq_true rfl, Nat.le_of_ble_eq_true rfl⟩ (fun v74 hp74 q74 => ?_)
      rw [if_pos hlet] at q74
      obtain ⟨rfl, rfl⟩ := q74
      refine J_lstore dX6_act_77 (by decide) ?_
      refine J_aload_n dX6_act_79 rfl rfl isR_r ?_
      refine J_getI dX6_act_80 g_X6_111 (by first | with_reducible assumption | (simp only [hK_sI, hK_sJ, hK_sR, hK_tI, hK_tJ, hK_tR]; with_reducible assumption)) ?_
      refine J_iconst (v := 2) dX6_act_83 (by decide) ?_
      refine J_icmp_ne (tgt := 95) dX6_act_84 (by decide) (fun c84 => ?_) (fun c84 => (n2 (by rw [← q6]; exact c84)).elim)
      refine J_aload_n dX6_act_95 rfl rfl isR_r ?_
      refine J_getI dX6_act_96 g_X6_111 (by first | with_reducible assumption | (simp only [hK_sI, hK_sJ, hK_sR, hK_tI, hK_tJ, hK_tR]; with_reducible assumption)) ?_
      refine J_iconst (v := 4) dX6_act_99 (by decide) ?_
      refine J_pc (pc' := 100) rfl ?_
      refine J_icmp_ne (tgt := 111) dX6_act_100 (by decide) (fun c100 => ?_) (fun c100 => (n4 (by rw [← q6]; exact c100)).elim)
      exact J_loc _ rfl (done0 _ _ (-1) (by decide) (by decide) (by decide) ed)
    · have hlt : letF S sv k (6 * sv + mT S 459 (tn k)) = true := by
        cases u : letF S sv k (6 * sv + mT S 459 (tn k)) with
        | true => rfl
        | false => exact absurd u hlet
      refine J_aload_n dX6_act_0 rfl rfl isR_r ?_
      refine J_getI dX6_act_1 g_X6_111 (by first | with_reducible assumption | (simp only [hK_sI, hK_sJ, hK_sR, hK_tI, hK_tJ, hK_tR]; with_reducible assumption)) ?_
      refine J_if_ne (tgt := 23) dX6_act_4 (by decide) (fun c4 => ?_) (fun c4 => (k0 (by rw [← q6]; exact c4)).elim)
      refine J_aload_n dX6_act_23 rfl rfl isR_r ?_
      refine J_getI dX6_act_24 g_X6_111 (by first | with_reducible assumption | (simp only [hK_sI, hK_sJ, hK_sR, hK_tI, hK_tJ, hK_tR]; with_reducible assumption)) ?_
      refine J_iconst (v := 3) dX6_act_27 (by decide) ?_
      refine J_icmp_ne (tgt := 41) dX6_act_28 (by decide) (fun c28 => ?_) (fun c28 => (k3 (by rw [← q6]; exact c28)).elim)
      refine J_null dX6_act_41 ?_
      refine J_astore dX6_act_42 isR_n (by decide) ?_
      refine J_aload dX6_act_44 rfl isR_n ?_
      refine J_pc (pc' := 46) rfl ?_
      refine J_ifnull_n (tgt := 58) dX6_act_46 (by decide) ?_
      refine J_ldc2 dX6_act_58 ll_X6_318 ?_
      refine J_lstore dX6_act_61 (by decide) ?_
      refine J_aload_n dX6_act_63 rfl rfl isR_r ?_
      refine J_getI dX6_act_64 g_X6_111 (by first | with_reducible assumption | (simp only [hK_sI, hK_sJ, hK_sR, hK_tI, hK_tJ, hK_tR]; with_reducible assumption)) ?_
      refine J_iconst (v := 1) dX6_act_67 (by decide) ?_
      refine J_icmp_ne (tgt := 79) dX6_act_68 (by decide) (fun c68 => (c68 (by rw [q6]; exact k1)).elim) (fun c68 => ?_)
      refine J_aload_n dX6_act_71 rfl rfl isR_r ?_
      refine J_aload_n dX6_act_72 rfl rfl isR_r ?_
      refine J_aload_n dX6_act_73 rfl rfl isR_r ?_
      refine J_pc (pc' := 74) rfl ?_
      refine J_callV (cAD) dX6_act_74 ml_X6_320 mkX6_add rfl (by first | with_reducible assumption | (simp only [hK_sI, hK_sJ, hK_sR, hK_tI, hK_tJ, hK_tR]; with_reducible assumption)) (by decide) rfl rfl (Nat.le_of_ble_eq_true rfl) ⟨Nat.le_of_ble_eq_true rfl, Nat.le_of_ble_eq_true rfl⟩ ⟨Nat.le_of_ble_eq_true rfl, Nat.le_of_ble_eq_true rfl⟩ (fun v74 hp74 q74 => ?_)
      rw [if_neg hlet] at q74
      obtain ⟨rfl, z1, z2⟩ := q74
      have ak := z1.2.2.2.1.2.2.1 _ (by rw [nM]; exact hkk)
      have p0 := ak.1
      have p6 : hI hp74 5 (as (tn k)) = 1 := by rw [ak.2.2.2.2.2.2.1, (hM 458 (by decide)).2.1]; exact k1
      refine J_lstore dX6_act_77 (by decide) ?_
      refine J_aload_n dX6_act_79 rfl rfl isR_r ?_
      refine J_getI dX6_act_80 g_X6_111 (by first | with_reducible assumption | (simp only [hK_sI, hK_sJ, hK_sR, hK_tI, hK_tJ, hK_tR]; with_reducible assumption)) ?_
      refine J_iconst (v := 2) dX6_act_83 (by decide) ?_
      refine J_icmp_ne (tgt := 95) dX6_act_84 (by decide) (fun c84 => ?_) (fun c84 => (show False from absurd (p6.symm.trans c84) (by decide)).elim)
      refine J_aload_n dX6_act_95 rfl rfl isR_r ?_
      refine J_getI dX6_act_96 g_X6_111 (by first | with_reducible assumption | (simp only [hK_sI, hK_sJ, hK_sR, hK_tI, hK_tJ, hK_tR]; with_reducible assumption)) ?_
      refine J_iconst (v := 4) dX6_act_99 (by decide) ?_
      refine J_pc (pc' := 100) rfl ?_
      refine J_icmp_ne (tgt := 111) dX6_act_100 (by decide) (fun c100 => ?_) (fun c100 => (show False from absurd (p6.symm.trans c100) (by decide)).elim)
      exact J_loc _ rfl (doneM _ _ _ (by decide) (by decide) hlt (Or.inl k1) z1 z2)
  by_cases k2 : mT S 458 (tn k) = 2
  · have n4 : ¬ mT S 458 (tn k) = 4 := by rw [k2]; decide
    have cMV := c_move (x := x) hr hI1 hW.1 hk k2 (hn6 k1) hb1 hb2
    rw [hsv] at cMV
    have ec := ch k0 n4
    by_cases hlet : letF S sv k (6 * sv + mT S 459 (tn k)) = false
    · have ed : actF S sv (nI i) k = doneF S (nI i) k (-1) := by rw [ec]; unfold changeF; rw [if_pos hlet]
      refine J_aload_n dX6_act_0 rfl rfl isR_r ?_
      refine J_getI dX6_act_1 g_X6_111 (by first | with_reducible assumption | (simp only [hK_sI, hK_sJ, hK_sR, hK_tI, hK_tJ, hK_tR]; with_reducible assumption)) ?_
      refine J_if_ne (tgt := 23) dX6_act_4 (by decide) (fun c4 => ?_) (fun c4 => (k0 (by rw [← q6]; exact c4)).elim)
      refine J_aload_n dX6_act_23 rfl rfl isR_r ?_
      refine J_getI dX6_act_24 g_X6_111 (by first | with_reducible assumption | (simp only [hK_sI, hK_sJ, hK_sR, hK_tI, hK_tJ, hK_tR]; with_reducible assumption)) ?_
      refine J_iconst (v := 3) dX6_act_27 (by decide) ?_
      refine J_icmp_ne (tgt := 41) dX6_act_28 (by decide) (fun c28 => ?_) (fun c28 => (k3 (by rw [← q6]; exact c28)).elim)
      refine J_null dX6_act_41 ?_
      refine J_astore dX6_act_42 isR_n (by decide) ?_
      refine J_aload dX6_act_44 rfl isR_n ?_
      refine J_pc (pc' := 46) rfl ?_
      refine J_ifnull_n (tgt := 58) dX6_act_46 (by decide) ?_
      refine J_ldc2 dX6_act_58 ll_X6_318 ?_
      refine J_lstore dX6_act_61 (by decide) ?_
      refine J_aload_n dX6_act_63 rfl rfl isR_r ?_
      refine J_getI dX6_act_64 g_X6_111 (by first | with_reducible assumption | (simp only [hK_sI, hK_sJ, hK_sR, hK_tI, hK_tJ, hK_tR]; with_reducible assumption)) ?_
      refine J_iconst (v := 1) dX6_act_67 (by decide) ?_
      refine J_icmp_ne (tgt := 79) dX6_act_68 (by decide) (fun c68 => ?_) (fun c68 => (k1 (by rw [← q6]; exact c68)).elim)
      refine J_aload_n dX6_act_79 rfl rfl isR_r ?_
      refine J_getI dX6_act_80 g_X6_111 (by first | with_reducible assumption | (simp only [hK_sI, hK_sJ, hK_sR, hK_tI, hK_tJ, hK_tR]; with_reducible assumption)) ?_
      refine J_iconst (v := 2) dX6_act_83 (by decide) ?_
      refine J_pc (pc' := 84) rfl ?_
      refine J_icmp_ne (tgt := 95) dX6_act_84 (by decide) (fun c84 => (c84 (by rw [q6]; exact k2)).elim) (fun c84 => ?_)
      refine J_aload_n dX6_act_87 rfl rfl isR_r ?_
      refine J_aload_n dX6_act_88 rfl rfl isR_r ?_
      refine J_aload_n dX6_act_89 rfl rfl isR_r ?_
      refine J_callV (cMV) dX6_act_90 ml_X6_324 mkX6_move rfl (by first | with_reducible assumption | (simp only [hK_sI, hK_sJ, hK_sR, hK_tI, hK_tJ, hK_tR]; with_reducible assumption)) (by decide) rfl rfl (Nat.le_of_ble_eq_true rfl) ⟨Nat.le_of_ble_eq_true rfl, Nat.le_of_ble_eq_true rfl⟩ ⟨Nat.le_of_ble_eq_true rfl, Nat.le_of_ble_eq_true rfl⟩ (fun v90 hp90 q90 => ?_)
      rw [if_pos hlet] at q90
      obtain ⟨rfl, rfl⟩ := q90
      refine J_lstore dX6_act_93 (by decide) ?_
      refine J_aload_n dX6_act_95 rfl rfl isR_r ?_
      refine J_getI dX6_act_96 g_X6_111 (by first | with_reducible assumption | (simp only [hK_sI, hK_sJ, hK_sR, hK_tI, hK_tJ, hK_tR]; with_reducible assumption)) ?_
      refine J_iconst (v := 4) dX6_act_99 (by decide) ?_
      refine J_pc (pc' := 100) rfl ?_
      refine J_icmp_ne (tgt := 111) dX6_act_100 (by decide) (fun c100 => ?_) (fun c100 => (n4 (by rw [← q6]; exact c100)).elim)
      exact J_loc _ rfl (done0 _ _ (-1) (by decide) (by decide) (by decide) ed)
    · have hlt : letF S sv k (6 * sv + mT S 459 (tn k)) = true := by
        cases u : letF S sv k (6 * sv + mT S 459 (tn k)) with
        | true => rfl
        | false => exact absurd u hlet
      refine J_aload_n dX6_act_0 rfl rfl isR_r ?_
      refine J_getI dX6_act_1 g_X6_111 (by first | with_reducible assumption | (simp only [hK_sI, hK_sJ, hK_sR, hK_tI, hK_tJ, hK_tR]; with_reducible assumption)) ?_
      refine J_if_ne (tgt := 23) dX6_act_4 (by decide) (fun c4 => ?_) (fun c4 => (k0 (by rw [← q6]; exact c4)).elim)
      refine J_aload_n dX6_act_23 rfl rfl isR_r ?_
      refine J_getI dX6_act_24 g_X6_111 (by first | with_reducible assumption | (simp only [hK_sI, hK_sJ, hK_sR, hK_tI, hK_tJ, hK_tR]; with_reducible assumption)) ?_
      refine J_iconst (v := 3) dX6_act_27 (by decide) ?_
      refine J_icmp_ne (tgt := 41) dX6_act_28 (by decide) (fun c28 => ?_) (fun c28 => (k3 (by rw [← q6]; exact c28)).elim)
      refine J_null dX6_act_41 ?_
      refine J_astore dX6_act_42 isR_n (by decide) ?_
      refine J_aload dX6_act_44 rfl isR_n ?_
      refine J_pc (pc' := 46) rfl ?_
      refine J_ifnull_n (tgt := 58) dX6_act_46 (by decide) ?_
      refine J_ldc2 dX6_act_58 ll_X6_318 ?_
      refine J_lstore dX6_act_61 (by decide) ?_
      refine J_aload_n dX6_act_63 rfl rfl isR_r ?_
      refine J_getI dX6_act_64 g_X6_111 (by first | with_reducible assumption | (simp only [hK_sI, hK_sJ, hK_sR, hK_tI, hK_tJ, hK_tR]; with_reducible assumption)) ?_
      refine J_iconst (v := 1) dX6_act_67 (by decide) ?_
      refine J_icmp_ne (tgt := 79) dX6_act_68 (by decide) (fun c68 => ?_) (fun c68 => (k1 (by rw [← q6]; exact c68)).elim)
      refine J_aload_n dX6_act_79 rfl rfl isR_r ?_
      refine J_getI dX6_act_80 g_X6_111 (by first | with_reducible assumption | (simp only [hK_sI, hK_sJ, hK_sR, hK_tI, hK_tJ, hK_tR]; with_reducible assumption)) ?_
      refine J_iconst (v := 2) dX6_act_83 (by decide) ?_
      refine J_pc (pc' := 84) rfl ?_
      refine J_icmp_ne (tgt := 95) dX6_act_84 (by decide) (fun c84 => (c84 (by rw [q6]; exact k2)).elim) (fun c84 => ?_)
      refine J_aload_n dX6_act_87 rfl rfl isR_r ?_
      refine J_aload_n dX6_act_88 rfl rfl isR_r ?_
      refine J_aload_n dX6_act_89 rfl rfl isR_r ?_
      refine J_callV (cMV) dX6_act_90 ml_X6_324 mkX6_move rfl (by first | with_reducible assumption | (simp only [hK_sI, hK_sJ, hK_sR, hK_tI, hK_tJ, hK_tR]; with_reducible assumption)) (by decide) rfl rfl (Nat.le_of_ble_eq_true rfl) ⟨Nat.le_of_ble_eq_true rfl, Nat.le_of_ble_eq_true rfl⟩ ⟨Nat.le_of_ble_eq_true rfl, Nat.le_of_ble_eq_true rfl⟩ (fun v90 hp90 q90 => ?_)
      rw [if_neg hlet] at q90
      obtain ⟨rfl, z1, z2⟩ := q90
      have ak := z1.2.2.2.1.2.2.1 _ (by rw [nM]; exact hkk)
      have p0 := ak.1
      have p6 : hI hp90 5 (as (tn k)) = 2 := by rw [ak.2.2.2.2.2.2.1, (hM 458 (by decide)).2.1]; exact k2
      refine J_lstore dX6_act_93 (by decide) ?_
      refine J_aload_n dX6_act_95 rfl rfl isR_r ?_
      refine J_getI dX6_act_96 g_X6_111 (by first | with_reducible assumption | (simp only [hK_sI, hK_sJ, hK_sR, hK_tI, hK_tJ, hK_tR]; with_reducible assumption)) ?_
      refine J_iconst (v := 4) dX6_act_99 (by decide) ?_
      refine J_pc (pc' := 100) rfl ?_
      refine J_icmp_ne (tgt := 111) dX6_act_100 (by decide) (fun c100 => ?_) (fun c100 => (show False from absurd (p6.symm.trans c100) (by decide)).elim)
      exact J_loc _ rfl (doneM _ _ _ (by decide) (by decide) hlt (Or.inr k2) z1 z2)
  have k4 : mT S 458 (tn k) = 4 := by
    have e := inN_tn hkd5
    have e2 : tn (mT S 458 (tn k)) ≠ 0 := fun z => k0 (by rw [e.1, z]; rfl)
    have e3 : tn (mT S 458 (tn k)) ≠ 1 := fun z => k1 (by rw [e.1, z]; rfl)
    have e4 : tn (mT S 458 (tn k)) ≠ 2 := fun z => k2 (by rw [e.1, z]; rfl)
    have e5 : tn (mT S 458 (tn k)) ≠ 3 := fun z => k3 (by rw [e.1, z]; rfl)
    have e6 : tn (mT S 458 (tn k)) = 4 := by omega
    rw [e.1, e6]; rfl
  have ed : actF S sv (nI i) k = doneF (if cancelA S (nI i) k = 1 then putRecF S (nI i) (mT S 462 (tn k)) 3 0 (-1) else S) (nI i) k (cancelA S (nI i) k) := by
    unfold actF
    rw [if_neg k0, if_pos k4]
    rfl
  have hC : ∀ S1 : Ms, (if cancelA S (nI i) k = 1 then putRecF S (nI i) (mT S 462 (tn k)) 3 0 (-1) else S) = S1 → SX [476, 477, 478, 479, 480, 481] S S1 ∧ WF1 S1 ∧ nR S1 < 700 := fun S1 e => by
    by_cases c1 : cancelA S (nI i) k = 1
    · rw [if_pos c1] at e
      rw [← e]
      exact ⟨SX_put _ _ _ _ _, WF1_put hW.1 (by omega) (fun z => absurd z (by decide)), by have := put_n hW.1 (show nR S < 700 by omega) (nI i) (mT S 462 (tn k)) 3 0 (-1); omega⟩
    · rw [if_neg c1] at e
      rw [← e]
      exact ⟨SX.rf, hW.1, by omega⟩
  generalize hS1 : (if cancelA S (nI i) k = 1 then putRecF S (nI i) (mT S 462 (tn k)) 3 0 (-1) else S) = S1 at *
  obtain ⟨hX, hW1, hR1⟩ := hC S1 rfl
  have a1 : nA S1 = nA S := by unfold nA; rw [(hX 453 (by decide)).1]
  refine J_aload_n dX6_act_0 rfl rfl isR_r ?_
  refine J_getI dX6_act_1 g_X6_111 (by first | with_reducible assumption | (simp only [hK_sI, hK_sJ, hK_sR, hK_tI, hK_tJ, hK_tR]; with_reducible assumption)) ?_
  refine J_if_ne (tgt := 23) dX6_act_4 (by decide) (fun c4 => ?_) (fun c4 => (k0 (by rw [← q6]; exact c4)).elim)
  refine J_aload_n dX6_act_23 rfl rfl isR_r ?_
  refine J_getI dX6_act_24 g_X6_111 (by first | with_reducible assumption | (simp only [hK_sI, hK_sJ, hK_sR, hK_tI, hK_tJ, hK_tR]; with_reducible assumption)) ?_
  refine J_iconst (v := 3) dX6_act_27 (by decide) ?_
  refine J_icmp_ne (tgt := 41) dX6_act_28 (by decide) (fun c28 => ?_) (fun c28 => (k3 (by rw [← q6]; exact c28)).elim)
  refine J_null dX6_act_41 ?_
  refine J_astore dX6_act_42 isR_n (by decide) ?_
  refine J_aload dX6_act_44 rfl isR_n ?_
  refine J_pc (pc' := 46) rfl ?_
  refine J_ifnull_n (tgt := 58) dX6_act_46 (by decide) ?_
  refine J_ldc2 dX6_act_58 ll_X6_318 ?_
  refine J_lstore dX6_act_61 (by decide) ?_
  refine J_aload_n dX6_act_63 rfl rfl isR_r ?_
  refine J_getI dX6_act_64 g_X6_111 (by first | with_reducible assumption | (simp only [hK_sI, hK_sJ, hK_sR, hK_tI, hK_tJ, hK_tR]; with_reducible assumption)) ?_
  refine J_iconst (v := 1) dX6_act_67 (by decide) ?_
  refine J_icmp_ne (tgt := 79) dX6_act_68 (by decide) (fun c68 => ?_) (fun c68 => (k1 (by rw [← q6]; exact c68)).elim)
  refine J_aload_n dX6_act_79 rfl rfl isR_r ?_
  refine J_getI dX6_act_80 g_X6_111 (by first | with_reducible assumption | (simp only [hK_sI, hK_sJ, hK_sR, hK_tI, hK_tJ, hK_tR]; with_reducible assumption)) ?_
  refine J_iconst (v := 2) dX6_act_83 (by decide) ?_
  refine J_pc (pc' := 84) rfl ?_
  refine J_icmp_ne (tgt := 95) dX6_act_84 (by decide) (fun c84 => ?_) (fun c84 => (k2 (by rw [← q6]; exact c84)).elim)
  refine J_aload_n dX6_act_95 rfl rfl isR_r ?_
  refine J_getI dX6_act_96 g_X6_111 (by first | with_reducible assumption | (simp only [hK_sI, hK_sJ, hK_sR, hK_tI, hK_tJ, hK_tR]; with_reducible assumption)) ?_
  refine J_iconst (v := 4) dX6_act_99 (by decide) ?_
  refine J_icmp_ne (tgt := 111) dX6_act_100 (by decide) (fun c100 => (c100 (by rw [q6]; exact k4)).elim) (fun c100 => ?_)
  refine J_aload_n dX6_act_103 rfl rfl isR_r ?_
  refine J_aload_n dX6_act_104 rfl rfl isR_r ?_
  refine J_aload_n dX6_act_105 rfl rfl isR_r ?_
  refine J_callV (c_cancel hr hI1 hW.1 hW.rw_ (by omega) hk hi (hW.2.2.2.2.2.2.2.1 i hi).2.1 hW.2.1.2.1 (hak.2.2.1.2.2.2 k4) hb2) dX6_act_106 ml_X6_327 mkX6_cancel rfl (by first | with_reducible assumption | (simp only [hK_sI, hK_sJ, hK_sR, hK_tI, hK_tJ, hK_tR]; with_reducible assumption)) (by decide) rfl rfl (Nat.le_of_ble_eq_true rfl) ⟨Nat.le_of_ble_eq_true rfl, Nat.le_of_ble_eq_true rfl⟩ ⟨Nat.le_of_ble_eq_true rfl, Nat.le_of_ble_eq_true rfl⟩ (fun v106 hp106 q106 => ?_)
  obtain ⟨rfl, z1, z2⟩ := q106
  rw [hS1] at z1
  refine J_lstore dX6_act_109 (by decide) ?_
  exact J_loc _ rfl (act_111 (by decide) (by decide) z1 hI1 hW1 (by unfold LoOK; rw [(hX 448 (by decide)).1, (hX 475 (by decide)).2.1]; exact hl) hR1 (by rw [a1]; exact hk) hi (by rw [(hX 456 (by decide)).2.1]; exact hnum) (by rw [(hX 475 (by decide)).2.1]; exact hw1) (by rw [(hX 448 (by decide)).1, (hX 475 (by decide)).2.1]; exact hw2) cancelA_ne (by unfold lv at hb ⊢; rw [(hX 485 (by decide)).1]; exact hb) (fun h' y1 y2 => by
   have := leaf _ ed h' y1 ((z2.sub (by decide)).tr y2)
   rw [(hX 486 (by decide)).1]
   exact this))
end AC
