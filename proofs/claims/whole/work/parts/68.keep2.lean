/-! WF2 kept: letters, falls, rises, leaving -/
section K2
variable {S S' : Ms} {g : Nat} {L : List Nat}
theorem WF2_twice {i : Nat} (hW : WF2 g S) (hi : i < nL S) (hl : nL S ≠ 120) : WF2 g (twiceF S i (nL S)) := by
  have hX := SX_twice (S := S) (i := i) (l := nL S)
  obtain ⟨n1, n2⟩ := twice_L (i := i) hW.1 hl
  have hw : WF1 (twiceF S i (nL S)) := by
    have hl121 : nL S < 121 := (inN_tn hW.1.1.2.1).2.1
    have e : ∀ f, f ∉ [468, 469, 470, 471, 472, 473] → mI (twiceF S i (nL S)) f = mI S f ∧ mT (twiceF S i (nL S)) f = mT S f := fun f hf => ⟨(hX f hf).1, (hX f hf).2.1⟩
    have eA : nA (twiceF S i (nL S)) = nA S := by unfold nA; rw [(hX 453 (by decide)).1]
    have eR : nR (twiceF S i (nL S)) = nR S := by unfold nR; rw [(hX 476 (by decide)).1]
    obtain ⟨a1, a2, a3, a4, a5, a6⟩ := hW.1
    refine ⟨⟨by rw [(hX 453 (by decide)).1]; exact a1.1, by rw [n1]; exact inN_nIlt (by omega) (by decide), by rw [(hX 476 (by decide)).1]; exact a1.2.2⟩, ?_, fun j hj => ?_, fun j => ?_, ?_, ?_⟩
    · rw [eA, (hX 454 (by decide)).2.1, (hX 457 (by decide)).2.1, (hX 459 (by decide)).2.1, (hX 460 (by decide)).2.1, (hX 461 (by decide)).2.1]
      exact a2
    · rw [eA, (twice_at (S := S) (i := i) j).1]
      rw [n2] at hj
      by_cases c : j = nL S
      · rw [if_pos c]; exact a3 i hi
      · rw [if_neg c]; exact a3 j (by omega)
    · obtain ⟨-, t2, -, -, t5⟩ := twice_at (S := S) (i := i) j
      rw [t2, t5]
      by_cases c : j = nL S
      · rw [if_pos c, if_pos c]; exact a4 i
      · rw [if_neg c, if_neg c]; exact a4 j
    · rw [eR, eA, (hX 479 (by decide)).2.1, (hX 481 (by decide)).2.1]
      exact a5
    · rw [eA, (hX 454 (by decide)).2.1, (hX 465 (by decide)).2.1]
      exact a6
  refine WF2_let hW (hX.sub (by decide)) hw (fun j hj => ?_)
  rw [n2] at hj
  obtain ⟨t1, t2, t3, t4, -⟩ := twice_at (S := S) (i := i) j
  unfold LetW
  rw [t1, t2, t3, t4, (hX 448 (by decide)).1, (hX 454 (by decide)).2.1, (hX 456 (by decide)).2.1]
  by_cases c : j = nL S
  · rw [if_pos c, if_pos c, if_pos c, if_pos c]
    exact hW.2.2.2.2.2.2.1 i hi
  · rw [if_neg c, if_neg c, if_neg c, if_neg c]
    exact hW.2.2.2.2.2.2.1 j (by omega)
theorem WF2_bend {i : Nat} (hW : WF2 g S) : WF2 g (pT S 473 i 1) := by
  have hX : SX [473] S (pT S 473 i 1) := SX_pT (by decide)
  have e : ∀ f, f ≠ 473 → mT (pT S 473 i 1) f = mT S f := fun f hf => mT_pT_ne _ _ _ hf
  have hw : WF1 (pT S 473 i 1) := by
    obtain ⟨a1, a2, a3, a4, a5, a6⟩ := hW.1
    refine ⟨a1, a2, a3, fun j => ?_, a5, a6⟩
    rw [e 470 (by decide), mT_pT]
    refine ⟨(a4 j).1, ?_⟩
    split
    · exact Or.inr rfl
    · exact (a4 j).2
  exact WF2_let hW (hX.sub (by decide)) hw (fun j hj => LetW_x hX (by decide) (hW.2.2.2.2.2.2.1 j hj))
theorem WF2_449 {n : Nat} {v : Int32} (hW : WF2 g S) (hv : v = 0 ∨ v = 1) : WF2 g (pT S 449 n v) := by
  have hX : SX [449] S (pT S 449 n v) := SX_pT (by decide)
  have hR := recW_all.mp hW.2.2.2.2.2.2.2.2.1
  refine ⟨WF1_pT (by decide) hW.1, hW.2.1, fun m hm => ?_, fun k hk => AskW_x hX (by decide) (hW.2.2.2.1 k hk), UqW_x hX (by decide) hW.2.2.2.2.1, OpW_x hX (by decide) hW.2.2.2.2.2.1, fun j hj => LetW_x hX (by decide) (hW.2.2.2.2.2.2.1 j hj), fun j hj => MemW_x hX (by decide) (hW.2.2.2.2.2.2.2.1 j hj), recW_all.mpr (fun e he => RecE_y hX (by decide) (hR e (by rw [recs_x hX (by decide)] at he; exact he))), RecU_x hX (by decide) hW.2.2.2.2.2.2.2.2.2.1, hW.2.2.2.2.2.2.2.2.2.2⟩
  have q := hW.2.2.1 m hm
  have eA : nA (pT S 449 n v) = nA S := nA_pT
  unfold EndW at q ⊢
  rw [eA, (hX 450 (by decide)).2.1, (hX 451 (by decide)).2.1, mT_pT]
  refine ⟨?_, q.2⟩
  split
  · exact hv
  · exact q.1
theorem WF2_rise {n : Nat} (hW : WF2 g S) (hg : g + 1 < 1000000) (hn : n < 6) : WF2 (g + 1) (rsF (pT (pT S 450 n (mT S 450 n + 1)) 451 n 1) (nI n) (nA S)) := by
  have hW1 := WF2_mono hW (Nat.le_succ g) hg
  have hX0 : SX [450, 451] S (pT (pT S 450 n (mT S 450 n + 1)) 451 n 1) := (SX_pT (by decide)).tr (SX_pT (by decide))
  have hX : SX [450, 451, 463] S (rsF (pT (pT S 450 n (mT S 450 n + 1)) 451 n 1) (nI n) (nA S)) := (hX0.sub (by decide)).tr ((SX_rs _ _).sub (by decide))
  have t450 : ∀ m, mT (rsF (pT (pT S 450 n (mT S 450 n + 1)) 451 n 1) (nI n) (nA S)) 450 m = if m = n then mT S 450 n + 1 else mT S 450 m := fun m => by
    rw [rs_at, if_neg (fun z => absurd z.1 (by decide)), mT_pT, if_neg (fun z => absurd z.1 (by decide)), mT_pT]
    by_cases c : m = n
    · rw [if_pos c, if_pos ⟨rfl, c⟩]
    · rw [if_neg c, if_neg (fun z => c z.2)]
  have t451 : ∀ m, mT (rsF (pT (pT S 450 n (mT S 450 n + 1)) 451 n 1) (nI n) (nA S)) 451 m = if m = n then 1 else mT S 451 m := fun m => by
    rw [rs_at, if_neg (fun z => absurd z.1 (by decide)), mT_pT]
    by_cases c : m = n
    · rw [if_pos c, if_pos ⟨rfl, c⟩]
    · rw [if_neg c, if_neg (fun z => c z.2), mT_pT, if_neg (fun z => absurd z.1 (by decide))]
  have t463 : ∀ j, j < nA S → mT (rsF (pT (pT S 450 n (mT S 450 n + 1)) 451 n 1) (nI n) (nA S)) 463 j = if mT S 454 j = nI n ∧ mT S 463 j = 0 then 2 else mT S 463 j := fun j hj => by
    rw [rs_at]
    have e1 : mT (pT (pT S 450 n (mT S 450 n + 1)) 451 n 1) 454 j = mT S 454 j := by rw [(hX0 454 (by decide)).2.1]
    have e2 : mT (pT (pT S 450 n (mT S 450 n + 1)) 451 n 1) 463 j = mT S 463 j := by rw [(hX0 463 (by decide)).2.1]
    rw [e1, e2]
    by_cases c : mT S 454 j = nI n ∧ mT S 463 j = 0
    · rw [if_pos ⟨rfl, hj, c⟩, if_pos c]
    · rw [if_neg (fun z => c z.2.2), if_neg c]
  generalize rsF (pT (pT S 450 n (mT S 450 n + 1)) 451 n 1) (nI n) (nA S) = R at *
  have eA : nA R = nA S := by unfold nA; rw [(hX 453 (by decide)).1]
  have hR := recW_all.mp hW1.2.2.2.2.2.2.2.2.1
  have hw : WF1 R := WF1_congr (fun f hf => (hX f (by revert f; decide)).1) (fun f hf => (hX f (by revert f; decide)).2.1) hW.1
  have hE := hW.2.2.1 n (by omega)
  have u := inN_tn hE.2.1
  have s450 := inN_succ (v := mT S 450 n) (n := g + 1 + 2) (inN_le hE.2.1 (by omega)) (by omega) (by omega)
  have op : ∀ j, j < nA S → (mT R 463 j = 0 → mT S 463 j = 0 ∧ mT S 454 j ≠ nI n) := fun j hj z => by
    rw [t463 j hj] at z
    by_cases c : mT S 454 j = nI n ∧ mT S 463 j = 0
    · rw [if_pos c] at z; exact absurd z (by decide)
    · rw [if_neg c] at z
      exact ⟨z, fun y => c ⟨y, z⟩⟩
  refine ⟨hw, by rw [(hX 448 (by decide)).1]; exact hW1.2.1, fun m hm => ?_, fun k hk => ?_, UqW_x hX (by decide) hW1.2.2.2.2.1, ?_, fun j hj => LetW_x hX (by decide) (hW1.2.2.2.2.2.2.1 j (by unfold nL at hj ⊢; rw [(hX 468 (by decide)).1] at hj; exact hj)), fun j hj => MemW_x hX (by decide) (hW1.2.2.2.2.2.2.2.1 j hj), recW_all.mpr (fun e he => RecE_y hX (by decide) (hR e (by rw [recs_x hX (by decide)] at he; exact he))), RecU_x hX (by decide) hW1.2.2.2.2.2.2.2.2.2.1, fun a ha => by rw [(hX 452 (by decide)).2.2]; exact hW1.2.2.2.2.2.2.2.2.2.2 a ha⟩
  · have q := hW1.2.2.1 m hm
    unfold EndW at q ⊢
    rw [eA, (hX 449 (by decide)).2.1, t450, t451]
    by_cases c : m = n
    · rw [if_pos c, if_pos c, s450.2]
      exact ⟨q.1, s450.1, by omega, fun z => by omega, by rw [show (1 : Int32) = nI 1 from rfl]; exact inN_nIlt (by omega) (by have : nA S < 301 := (inN_tn hW.1.1.1).2.1; omega), by decide⟩
    · rw [if_neg c, if_neg c]
      exact q
  · have hk' : k < nA S := eA ▸ hk
    have q := hW1.2.2.2.1 k hk'
    have nm := (hW.1.2.1 k hk').1
    have o := op k hk'
    have t3 := t463 k hk'
    unfold AskW opn rw_ fnd nR at q ⊢
    rw [eA, (hX 454 (by decide)).2.1, (hX 455 (by decide)).2.1, (hX 456 (by decide)).2.1, (hX 457 (by decide)).2.1, (hX 458 (by decide)).2.1, (hX 462 (by decide)).2.1, (hX 465 (by decide)).2.1, (hX 466 (by decide)).2.1, (hX 467 (by decide)).2.1, (hX 474 (by decide)).2.1, (hX 475 (by decide)).2.1, (hX 476 (by decide)).1, (hX 477 (by decide)).2.1, (hX 478 (by decide)).2.1, t450, t451]
    obtain ⟨q1, ⟨q2, q3⟩, q5, ⟨q6, q7, q8⟩, q9⟩ := q
    refine ⟨q1, ⟨?_, q3⟩, q5, ⟨?_, ?_, fun z => ?_⟩, q9⟩
    · rw [t3]
      split
      · exact Or.inr (Or.inr rfl)
      · exact q2
    · by_cases c : tn (mT S 454 k) = n
      · rw [if_pos c, s450.2]
        rw [c] at q6
        omega
      · rw [if_neg c]; exact q6
    · by_cases c : tn (mT S 454 k) = n
      · rw [if_pos c]
        intro z
        rw [z] at q6
        rw [c, s450.2] at q6
        omega
      · rw [if_neg c, if_neg c]; exact q7
    · obtain ⟨o1, o2⟩ := o z
      have c : ¬ tn (mT S 454 k) = n := fun y => o2 (by rw [(inN_tn nm).1, y])
      rw [if_neg c]
      exact q8 o1
  · show OpW R
    unfold OpW opn
    rw [eA, (hX 454 (by decide)).2.1, (hX 456 (by decide)).2.1, (hX 448 (by decide)).1]
    exact fun k j hk hj e o1 o2 => hW.2.2.2.2.2.1 k j hk hj e (op k hk o1).1 (op j hj o2).1
theorem WF2_leave {i : Nat} (hW : WF2 g S) (hg : g + 1 < 1000000) (hi : i < 40) (h6 : i % 10 < 6) : WF2 (g + 1) (lifeF S i (mT S 474 i + 1)) := by
  have hW1 := WF2_mono hW (Nat.le_succ g) hg
  have hM := hW.2.2.2.2.2.2.2.1 i hi
  have u := inN_tn hM.1
  have s := inN_succ (v := mT S 474 i) (n := g + 1 + 2) (inN_le hM.1 (by omega)) (by omega) (by omega)
  exact WF2_life hW1 hi s.1 (fun z => by omega) (by rw [s.2]; omega)
end K2
