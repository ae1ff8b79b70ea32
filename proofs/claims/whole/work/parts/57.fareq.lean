/-! FAR: the class's order of writing and the reference's come to the same -/
section FE
variable {S : Ms}
theorem farF_G (S : Ms) (sv o ask : Int32) : farF S sv o ask = sendF (farG S sv o ask) (mI S 453) false 0 := Eq.trans rfl rfl
theorem moved_452 {sv k A : Int32} (e3 : mT S 458 (tn k) = 3) (j : Nat) : mJ (movedF S sv k A) 452 j = if j = tn A then mJ S 452 j + (0 - (mT S 462 (tn k)).toInt64) else mJ S 452 j := by
  unfold movedF
  have h1 : ¬ mT S 458 (tn k) = 1 := by rw [e3]; decide
  have h2 : ¬ mT S 458 (tn k) = 2 := by rw [e3]; decide
  simp only [if_neg h1, if_neg h2]
  simp only [mJ_pJ, mJ_pT, Int64.add_zero, true_and]
  by_cases e : j = tn (6 * sv + mT S 460 (tn k))
  · rw [if_pos e, ← e]
    by_cases e2 : j = tn A
    · rw [if_pos e2, if_pos e2, ← e2]
    · rw [if_neg e2, if_neg e2]
  · rw [if_neg e]
    by_cases e2 : j = tn A
    · rw [if_pos e2, if_pos e2, ← e2]
    · rw [if_neg e2, if_neg e2]
/-- the class's end state of FAR -/
def farH (S : Ms) (sv o k A : Int32) : Ms :=
  pT (pT (pT (putRecF (pJ (newAskF S (6 + sv) (mT S 461 (tn k)) 1 (mT S 460 (tn k)) 0 0 (mT S 462 (tn k)) (-1)) 452 (tn A) (mJ S 452 (tn A) + (0 - (mT S 462 (tn k)).toInt64))) o (mT S 456 (tn k)) 2 0 (nI (nA S))) 465 (nA S) k) 466 (tn k) (nI (nA S))) 467 (tn k) 1
theorem far_I {sv o k A : Int32} (hk : tn k < nA S) (eN : mI S 453 = nI (nA S)) (f : Nat) : mI (farH S sv o k A) f = mI (farG (movedF S sv k A) sv o k) f := by
  have hM := moved_S (S := S) (sv := sv) (ask := k) (a := A)
  have nM : nA (movedF S sv k A) = nA S := by unfold nA; rw [(hM 453 (by decide)).1]
  have e1 : mT (newAskF (movedF S sv k A) (6 + sv) (mT (movedF S sv k A) 461 (tn k)) 1 (mT (movedF S sv k A) 460 (tn k)) 0 0 (mT (movedF S sv k A) 462 (tn k)) k) 456 (tn k) = mT S 456 (tn k) := by
    rw [(new_T (tn k)).2.2.1, nM, if_neg (by omega), (hM 456 (by decide)).2.1]
  unfold farH farG
  simp only [mI_pT]
  rw [mT_pT, if_neg (fun z => absurd z.1 (by decide)), e1, (hM 453 (by decide)).1, eN]
  by_cases e : f = 476
  · subst e
    refine (put_congr _ _ _ _ _ ?_ ?_ ?_ ?_ ?_ ?_).1
    · rw [mI_pJ, mI_pT, (SX_new 476 (by decide)).1, (SX_new 476 (by decide)).1, (hM 476 (by decide)).1]
    · funext i; rw [mT_pJ, mT_pT, if_neg (fun z => absurd z.1 (by decide)), (SX_new 477 (by decide)).2.1, (SX_new 477 (by decide)).2.1, (hM 477 (by decide)).2.1]
    · funext i; rw [mT_pJ, mT_pT, if_neg (fun z => absurd z.1 (by decide)), (SX_new 478 (by decide)).2.1, (SX_new 478 (by decide)).2.1, (hM 478 (by decide)).2.1]
    · funext i; rw [mT_pJ, mT_pT, if_neg (fun z => absurd z.1 (by decide)), (SX_new 479 (by decide)).2.1, (SX_new 479 (by decide)).2.1, (hM 479 (by decide)).2.1]
    · funext i; rw [mJ_pJ, if_neg (fun z => absurd z.1 (by decide)), mJ_pT, (SX_new 480 (by decide)).2.2, (SX_new 480 (by decide)).2.2, (hM 480 (by decide)).2.2]
    · funext i; rw [mT_pJ, mT_pT, if_neg (fun z => absurd z.1 (by decide)), (SX_new 481 (by decide)).2.1, (SX_new 481 (by decide)).2.1, (hM 481 (by decide)).2.1]
  · rw [put_I _ _ _ _ _ e, put_I _ _ _ _ _ e, mI_pJ, mI_pT]
    unfold newAskF
    simp only [mI_pT, mI_pI]
    by_cases e5 : f = 453
    · rw [if_pos e5, if_pos e5, (hM 453 (by decide)).1]
    · rw [if_neg e5, if_neg e5]
      unfold movedF
      simp only [mI_pT, mI_pJ]
theorem far_J {sv o k A : Int32} (hk : tn k < nA S) (e3 : mT S 458 (tn k) = 3) (eN : mI S 453 = nI (nA S)) (f i : Nat) : mJ (farH S sv o k A) f i = mJ (farG (movedF S sv k A) sv o k) f i := by
  have hM := moved_S (S := S) (sv := sv) (ask := k) (a := A)
  have nM : nA (movedF S sv k A) = nA S := by unfold nA; rw [(hM 453 (by decide)).1]
  have e1 : mT (newAskF (movedF S sv k A) (6 + sv) (mT (movedF S sv k A) 461 (tn k)) 1 (mT (movedF S sv k A) 460 (tn k)) 0 0 (mT (movedF S sv k A) 462 (tn k)) k) 456 (tn k) = mT S 456 (tn k) := by
    rw [(new_T (tn k)).2.2.1, nM, if_neg (by omega), (hM 456 (by decide)).2.1]
  unfold farH farG
  simp only [mJ_pT]
  rw [mT_pT, if_neg (fun z => absurd z.1 (by decide)), e1, (hM 453 (by decide)).1, eN]
  by_cases e : f = 480
  · subst e
    refine congrFun (put_congr _ _ _ _ _ ?_ ?_ ?_ ?_ ?_ ?_).2.2.2.2.1 i
    · rw [mI_pJ, mI_pT, (SX_new 476 (by decide)).1, (SX_new 476 (by decide)).1, (hM 476 (by decide)).1]
    · funext i; rw [mT_pJ, mT_pT, if_neg (fun z => absurd z.1 (by decide)), (SX_new 477 (by decide)).2.1, (SX_new 477 (by decide)).2.1, (hM 477 (by decide)).2.1]
    · funext i; rw [mT_pJ, mT_pT, if_neg (fun z => absurd z.1 (by decide)), (SX_new 478 (by decide)).2.1, (SX_new 478 (by decide)).2.1, (hM 478 (by decide)).2.1]
    · funext i; rw [mT_pJ, mT_pT, if_neg (fun z => absurd z.1 (by decide)), (SX_new 479 (by decide)).2.1, (SX_new 479 (by decide)).2.1, (hM 479 (by decide)).2.1]
    · funext i; rw [mJ_pJ, if_neg (fun z => absurd z.1 (by decide)), mJ_pT, (SX_new 480 (by decide)).2.2, (SX_new 480 (by decide)).2.2, (hM 480 (by decide)).2.2]
    · funext i; rw [mT_pJ, mT_pT, if_neg (fun z => absurd z.1 (by decide)), (SX_new 481 (by decide)).2.1, (SX_new 481 (by decide)).2.1, (hM 481 (by decide)).2.1]
  · rw [put_J _ _ _ _ _ e, put_J _ _ _ _ _ e, mJ_pJ, mJ_pT]
    have n1 : ∀ (X : Ms) (n s kd a b t m fr : Int32), mJ (newAskF X n s kd a b t m fr) = mJ X := fun X n s kd a b t m fr => by unfold newAskF; rfl
    rw [n1, n1]
    by_cases e5 : f = 452
    · subst e5
      rw [moved_452 e3]
      by_cases ei : i = tn A
      · rw [if_pos ⟨rfl, ei⟩, if_pos ei, ei]
      · rw [if_neg (fun z => ei z.2), if_neg ei]
    · rw [if_neg (fun z => e5 z.1)]
      by_cases e6 : f = 467
      · subst e6
        unfold movedF
        simp [mJ_pJ, mJ_pT]
      · rw [(hM f (by simp only [List.mem_cons, List.not_mem_nil, or_false, not_or]; exact ⟨e5, e6⟩)).2.2]
theorem far_T {sv o k A : Int32} (hk : tn k < nA S) (eN : mI S 453 = nI (nA S)) (f i : Nat) : mT (farH S sv o k A) f i = mT (farG (movedF S sv k A) sv o k) f i := by
  have hM := moved_S (S := S) (sv := sv) (ask := k) (a := A)
  have nM : nA (movedF S sv k A) = nA S := by unfold nA; rw [(hM 453 (by decide)).1]
  have e1 : mT (newAskF (movedF S sv k A) (6 + sv) (mT (movedF S sv k A) 461 (tn k)) 1 (mT (movedF S sv k A) 460 (tn k)) 0 0 (mT (movedF S sv k A) 462 (tn k)) k) 456 (tn k) = mT S 456 (tn k) := by
    rw [(new_T (tn k)).2.2.1, nM, if_neg (by omega), (hM 456 (by decide)).2.1]
  unfold farH farG
  rw [show ∀ j, mT (pT (newAskF (movedF S sv k A) (6 + sv) (mT (movedF S sv k A) 461 (tn k)) 1 (mT (movedF S sv k A) 460 (tn k)) 0 0 (mT (movedF S sv k A) 462 (tn k)) k) 466 (tn k) j) 456 (tn k) = mT S 456 (tn k) from fun j => by rw [mT_pT, if_neg (fun z => absurd z.1 (by decide)), e1], (hM 453 (by decide)).1, eN, (hM 460 (by decide)).2.1, (hM 461 (by decide)).2.1, (hM 462 (by decide)).2.1]
  rw [mT_pT, mT_pT, mT_pT]
  have pc := put_congr (S1 := pJ (newAskF S (6 + sv) (mT S 461 (tn k)) 1 (mT S 460 (tn k)) 0 0 (mT S 462 (tn k)) (-1)) 452 (tn A) (mJ S 452 (tn A) + (0 - (mT S 462 (tn k)).toInt64))) (S2 := pT (newAskF (movedF S sv k A) (6 + sv) (mT S 461 (tn k)) 1 (mT S 460 (tn k)) 0 0 (mT S 462 (tn k)) k) 466 (tn k) (nI (nA S))) o (mT S 456 (tn k)) 2 0 (nI (nA S))
    (by rw [mI_pJ, mI_pT, (SX_new 476 (by decide)).1, (SX_new 476 (by decide)).1, (hM 476 (by decide)).1])
    (by funext i; rw [mT_pJ, mT_pT, if_neg (fun z => absurd z.1 (by decide)), (SX_new 477 (by decide)).2.1, (SX_new 477 (by decide)).2.1, (hM 477 (by decide)).2.1])
    (by funext i; rw [mT_pJ, mT_pT, if_neg (fun z => absurd z.1 (by decide)), (SX_new 478 (by decide)).2.1, (SX_new 478 (by decide)).2.1, (hM 478 (by decide)).2.1])
    (by funext i; rw [mT_pJ, mT_pT, if_neg (fun z => absurd z.1 (by decide)), (SX_new 479 (by decide)).2.1, (SX_new 479 (by decide)).2.1, (hM 479 (by decide)).2.1])
    (by funext i; rw [mJ_pJ, if_neg (fun z => absurd z.1 (by decide)), mJ_pT, (SX_new 480 (by decide)).2.2, (SX_new 480 (by decide)).2.2, (hM 480 (by decide)).2.2])
    (by funext i; rw [mT_pJ, mT_pT, if_neg (fun z => absurd z.1 (by decide)), (SX_new 481 (by decide)).2.1, (SX_new 481 (by decide)).2.1, (hM 481 (by decide)).2.1])
  by_cases e : f ∈ [477, 478, 479, 481]
  · simp only [List.mem_cons, List.not_mem_nil, or_false] at e
    rw [if_neg (fun z => by have := z.1; omega), if_neg (fun z => by have := z.1; omega), if_neg (fun z => by have := z.1; omega)]
    rcases e with rfl | rfl | rfl | rfl
    · exact congrFun pc.2.1 i
    · exact congrFun pc.2.2.1 i
    · exact congrFun pc.2.2.2.1 i
    · exact congrFun pc.2.2.2.2.2 i
  · rw [put_T _ _ _ _ _ e, put_T _ _ _ _ _ e, mT_pJ, mT_pT]
    by_cases e7 : f = 467
    · subst e7
      have n6 : ¬ ((467 : Nat) = 466 ∧ i = tn k) := fun z => absurd z.1 (by decide)
      have n5 : ¬ ((467 : Nat) = 465 ∧ i = nA S) := fun z => absurd z.1 (by decide)
      rw [if_neg n6, if_neg n6, if_neg n5, (SX_new 467 (by decide)).2.1, (SX_new 467 (by decide)).2.1, moved_467]
      by_cases ei : i = tn k
      · rw [if_pos ⟨rfl, ei⟩, if_pos ei]
      · rw [if_neg (fun z => ei z.2), if_neg ei]
    · rw [if_neg (fun z => e7 z.1)]
      by_cases e6 : f = 466 ∧ i = tn k
      · rw [if_pos e6, if_pos e6]
      · rw [if_neg e6, if_neg e6]
        by_cases e5 : f = 465 ∧ i = nA S
        · rw [if_pos e5, e5.1, e5.2, (new_T (nA S)).2.2.2.2.2.2.2.2.2.2.2.1, nM, if_pos rfl]
        · rw [if_neg e5]
          by_cases em : f ∈ [454, 455, 456, 451, 457, 458, 459, 460, 461, 462, 463, 465, 466]
          · obtain ⟨a1, a2, a3, a4, a5, a6, a7, a8, a9, a10, a11, a12, a13⟩ := new_T (S := S) (n := 6 + sv) (sv := mT S 461 (tn k)) (kind := 1) (a := mT S 460 (tn k)) (b := 0) (t := 0) (amt := mT S 462 (tn k)) (far := -1) i
            obtain ⟨b1, b2, b3, b4, b5, b6, b7, b8, b9, b10, b11, b12, b13⟩ := new_T (S := movedF S sv k A) (n := 6 + sv) (sv := mT S 461 (tn k)) (kind := 1) (a := mT S 460 (tn k)) (b := 0) (t := 0) (amt := mT S 462 (tn k)) (far := k) i
            simp only [List.mem_cons, List.not_mem_nil, or_false] at em
            rcases em with rfl | rfl | rfl | rfl | rfl | rfl | rfl | rfl | rfl | rfl | rfl | rfl | rfl
            · rw [a1, b1, nM, (hM 454 (by decide)).2.1]
            · rw [a2, b2, nM, (hM 450 (by decide)).2.1, (hM 455 (by decide)).2.1]
            · rw [a3, b3, nM, (hM 451 (by decide)).2.1, (hM 456 (by decide)).2.1]
            · rw [a4, b4, (hM 451 (by decide)).2.1]
            · rw [a5, b5, nM, (hM 457 (by decide)).2.1]
            · rw [a6, b6, nM, (hM 458 (by decide)).2.1]
            · rw [a7, b7, nM, (hM 459 (by decide)).2.1]
            · rw [a8, b8, nM, (hM 460 (by decide)).2.1]
            · rw [a9, b9, nM, (hM 461 (by decide)).2.1]
            · rw [a10, b10, nM, (hM 462 (by decide)).2.1]
            · rw [a11, b11, nM, (hM 463 (by decide)).2.1]
            · have ne : i ≠ nA S := fun z => e5 ⟨rfl, z⟩
              rw [a12, b12, nM, if_neg ne, if_neg ne, (hM 465 (by decide)).2.1]
            · rw [a13, b13, nM, (hM 466 (by decide)).2.1]
          · have en : ∀ (X : Ms) (n s kd a b t m fr : Int32), mT (newAskF X n s kd a b t m fr) f = mT X f := fun X n s kd a b t m fr => by
              by_cases e3 : f = 453
              · subst e3
                funext j
                unfold newAskF
                simp [mT_pT, mT_pI]
              · exact (SX_new f (by simp only [List.mem_cons, List.not_mem_nil, or_false] at em ⊢; omega)).2.1
            rw [en, en]
            by_cases e2 : f = 452
            · subst e2
              unfold movedF
              simp [mT_pT, mT_pJ]
            · rw [(hM f (by simp only [List.mem_cons, List.not_mem_nil, or_false, not_or]; exact ⟨e2, e7⟩)).2.1]
/-- the two end states are alike, field by field -/
theorem SX_far {sv o k A : Int32} (hk : tn k < nA S) (e3 : mT S 458 (tn k) = 3) (eN : mI S 453 = nI (nA S)) : SX [] (farH S sv o k A) (farG (movedF S sv k A) sv o k) := fun f _ => ⟨(far_I hk eN f).symm, funext fun i => (far_T hk eN f i).symm, funext fun i => (far_J hk e3 eN f i).symm⟩
end FE
