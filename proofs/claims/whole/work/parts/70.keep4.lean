/-! WF2 kept: FAR -/
section K4
variable {S S' : Ms} {g : Nat} {L : List Nat}
theorem far_eq {sv o k A : Int32} (hk : tn k < nA S) (e3 : mT S 458 (tn k) = 3) (eN : mI S 453 = nI (nA S)) : farG (movedF S sv k A) sv o k = farH S sv o k A :=
  Prod.ext (funext fun f => (far_I hk eN f).symm) (Prod.ext (funext fun f => funext fun i => (far_T hk eN f i).symm) (funext fun f => funext fun i => (far_J hk e3 eN f i).symm))
theorem far_let {k A : Int32} (hd : mT S 458 (tn k) = 3) (hL : letF S (mT S 457 (tn k)) k A = true) : mI S 453 < 300 ∧ usedUp S (6 + mT S 457 (tn k)) = false := by
  unfold letF at hL
  rw [if_neg (by rw [hd]; decide), if_neg (by rw [hd]; decide), Bool.and_eq_true, Bool.and_eq_true] at hL
  refine ⟨of_decide_eq_true hL.2.1, ?_⟩
  have := hL.2.2
  cases u : usedUp S (6 + mT S 457 (tn k)) with
  | false => rfl
  | true => rw [u] at this; exact absurd this (by decide)
theorem WF2_far {k A : Int32} {i : Nat} (hW : WF2 g S) (hg : g + 1 < 1000000) (h467 : ∀ k, nA S ≤ k → mT S 467 k = 0) (hk : inN k (nA S) = true) (hA : A = 6 * mT S 457 (tn k) + mT S 459 (tn k)) (hL : letF S (mT S 457 (tn k)) k A = true) (hd : mT S 458 (tn k) = 3) (hi : rw_ S (tn k) = i) (hlife : mT S 455 (tn k) = mT S 474 i) (hw1 : tn (mT S 475 i) ≤ tn (mT S 456 (tn k))) (hw2 : tn (mT S 456 (tn k)) < tn (mT S 475 i) + tn (mI S 448)) (hno : fR S (nI i) (mT S 456 (tn k)) = none) : WF2 (g + 1) (farG (movedF S (mT S 457 (tn k)) k A) (mT S 457 (tn k)) (nI i) k) ∧ nA (farG (movedF S (mT S 457 (tn k)) k A) (mT S 457 (tn k)) (nI i) k) = nA S + 1 ∧ (∀ j, mT (farG (movedF S (mT S 457 (tn k)) k A) (mT S 457 (tn k)) (nI i) k) 467 j = if j = tn k then 1 else mT S 467 j) ∧ mT (farG (movedF S (mT S 457 (tn k)) k A) (mT S 457 (tn k)) (nI i) k) 463 (nA S) = 0 := by
  have hkk := (inN_tn hk).2.1
  have hke := (inN_tn hk).1
  have hW1 := WF2_mono hW (Nat.le_succ g) hg
  have h7 := WF2_nR hW
  obtain ⟨w1, w2, w3, w4, w5⟩ := hW.1.ask hk
  have hi40 : i < 40 := by rw [← hi]; exact rw_lt hW.1 hkk
  have eN := (inN_tn hW.1.1.1).1
  obtain ⟨l1, hu⟩ := far_let hd hL
  have h300 : nA S < 300 := by
    rw [eN, show (300 : Int32) = nI 300 from rfl, nI_lti (inN_tn hW.1.1.1).2.2 (by decide)] at l1
    exact l1
  have hq := hW.2.2.2.1 _ hkk
  have hn6 : tn (mT S 454 (tn k)) < 6 := Decidable.byContradiction fun z => by
    have := (hq.2.2.2.2.1.2 (by omega)).1
    rw [hd] at this
    exact absurd this (by decide)
  have h466 : mT S 466 (tn k) = -1 := Decidable.byContradiction fun z => by
    rcases FarK_of hq z with y | ⟨-, y | y⟩
    · rw [hi, hlife] at y; omega
    · rw [hi] at y; omega
    · rw [hi] at y; exact y hno
  have hok := moved_ok hW hk hA hL (Or.inr (Or.inr hd))
  have wG := WF1_farG (S := movedF S (mT S 457 (tn k)) k A) (sv := mT S 457 (tn k)) (o := nI i) (k := k) (WF1_moved hW.1 _ _ _) (by rw [moved_nA]; exact h300) (by rw [moved_nR]; omega) w2 (by rw [moved_nA]; exact hk)
  rw [moved_nA] at wG
  have j452 : mJ (farG (movedF S (mT S 457 (tn k)) k A) (mT S 457 (tn k)) (nI i) k) 452 = mJ (movedF S (mT S 457 (tn k)) k A) 452 := (SX_farG 452 (by decide)).2.2
  have hn10 := inN_sv w2
  have e6 : tn (6 + mT S 457 (tn k)) = 6 + tn (mT S 457 (tn k)) := by
    have h2 : 6 + mT S 457 (tn k) = nI (6 + tn (mT S 457 (tn k))) := by
      conv => lhs; rw [(inN_tn w2).1]
      rw [show (6 : Int32) = nI 6 from rfl, zI_add]
    have := (inN_tn w2).2.1
    rw [h2, tn_nI (by omega)]
  have hX : SX [451, 452, 453, 454, 455, 456, 457, 458, 459, 460, 461, 462, 463, 465, 466, 467, 476, 477, 478, 479, 480, 481] S (farG (movedF S (mT S 457 (tn k)) k A) (mT S 457 (tn k)) (nI i) k) := (moved_S.sub (by decide)).tr (SX_farG.sub (by decide))
  have hMX := moved_S (S := S) (sv := mT S 457 (tn k)) (ask := k) (a := A)
  have hN2 := WF1_newAsk (S := movedF S (mT S 457 (tn k)) k A) (WF1_moved hW.1 _ _ _) (by rw [moved_nA]; exact h300) hn10 (sv := mT (movedF S (mT S 457 (tn k)) k A) 461 (tn k)) (a := mT (movedF S (mT S 457 (tn k)) k A) 460 (tn k)) (b := 0) (t := 0) (kind := 1) (amt := mT (movedF S (mT S 457 (tn k)) k A) 462 (tn k)) (far := k) (by rw [moved_T _ _ _ (by decide)]; exact w5) (by rw [moved_T _ _ _ (by decide)]; exact w4) (by decide) (by decide) (fun _ => by rw [moved_nA]; exact hk)
  obtain ⟨P, hP, hPW, hPX⟩ : ∃ P : Ms, farG (movedF S (mT S 457 (tn k)) k A) (mT S 457 (tn k)) (nI i) k = putRecF P (nI i) (mT S 456 (tn k)) 2 0 (nI (nA S)) ∧ WF1 P ∧ SX [451, 452, 453, 454, 455, 456, 457, 458, 459, 460, 461, 462, 463, 465, 466, 467] S P := by
    refine ⟨pT (newAskF (movedF S (mT S 457 (tn k)) k A) (6 + mT S 457 (tn k)) (mT (movedF S (mT S 457 (tn k)) k A) 461 (tn k)) 1 (mT (movedF S (mT S 457 (tn k)) k A) 460 (tn k)) 0 0 (mT (movedF S (mT S 457 (tn k)) k A) 462 (tn k)) k) 466 (tn k) (mI (movedF S (mT S 457 (tn k)) k A) 453), ?_, WF1_pT (by decide) hN2.1, (hMX.sub (by decide)).tr ((SX_new.sub (by decide)).tr (SX_pT (by decide)))⟩
    unfold farG
    rw [mT_pT_ne _ _ _ (by decide), (new_T (tn k)).2.2.1, moved_nA, if_neg (by omega), moved_I, eN, show mT (movedF S (mT S 457 (tn k)) k A) 456 = mT S 456 from moved_T _ _ _ (by decide)] <;> rfl
  have hPr := recs_x hPX (by decide)
  have hPn : nR P = nR S := by unfold nR; rw [(hPX 476 (by decide)).1]
  have hPU : RecU P := RecU_x hPX (by decide) hW.2.2.2.2.2.2.2.2.2.1
  have hfe := far_eq (sv := mT S 457 (tn k)) (o := nI i) (A := A) hkk hd eN
  generalize hG : farG (movedF S (mT S 457 (tn k)) k A) (mT S 457 (tn k)) (nI i) k = H at *
  have hT := fun j => new_T (S := S) (n := 6 + mT S 457 (tn k)) (sv := mT S 461 (tn k)) (kind := 1) (a := mT S 460 (tn k)) (b := 0) (t := 0) (amt := mT S 462 (tn k)) (far := -1) j
  have hNX := SX_new (S := S) (n := 6 + mT S 457 (tn k)) (sv := mT S 461 (tn k)) (kind := 1) (a := mT S 460 (tn k)) (b := 0) (t := 0) (amt := mT S 462 (tn k)) (far := -1)
  unfold farH at hfe
  generalize newAskF S (6 + mT S 457 (tn k)) (mT S 461 (tn k)) 1 (mT S 460 (tn k)) 0 0 (mT S 462 (tn k)) (-1) = N at *
  have fT : ∀ f, f ∉ [465, 466, 467, 477, 478, 479, 481] → mT H f = mT N f := fun f hf => by
    simp only [List.mem_cons, List.not_mem_nil, or_false, not_or] at hf
    rw [hfe, mT_pT_ne _ _ _ hf.2.2.1, mT_pT_ne _ _ _ hf.2.1, mT_pT_ne _ _ _ hf.1, put_T _ _ _ _ _ (by simp only [List.mem_cons, List.not_mem_nil, or_false, not_or]; omega)]
    rfl
  have f465 : ∀ j, mT H 465 j = if j = nA S then k else mT S 465 j := fun j => by
    rw [hfe, mT_pT_ne _ _ _ (by decide), mT_pT_ne _ _ _ (by decide), mT_pT, put_T _ _ _ _ _ (by decide), mT_pJ, (hT j).2.2.2.2.2.2.2.2.2.2.2.1]
    by_cases c : j = nA S
    · rw [if_pos ⟨rfl, c⟩, if_pos c]
    · rw [if_neg (fun z => c z.2), if_neg c, if_neg c]
  have f466 : ∀ j, mT H 466 j = if j = tn k then nI (nA S) else if j = nA S then -1 else mT S 466 j := fun j => by
    rw [hfe, mT_pT_ne _ _ _ (by decide), mT_pT, mT_pT_ne _ _ _ (by decide), put_T _ _ _ _ _ (by decide), mT_pJ, (hT j).2.2.2.2.2.2.2.2.2.2.2.2]
    by_cases c : j = tn k
    · rw [if_pos ⟨rfl, c⟩, if_pos c]
    · rw [if_neg (fun z => c z.2), if_neg c]
  have f467 : ∀ j, mT H 467 j = if j = tn k then 1 else mT S 467 j := fun j => by
    rw [hfe, mT_pT, mT_pT_ne _ _ _ (by decide), mT_pT_ne _ _ _ (by decide), put_T _ _ _ _ _ (by decide), mT_pJ, (hNX 467 (by decide)).2.1]
    by_cases c : j = tn k
    · rw [if_pos ⟨rfl, c⟩, if_pos c]
    · rw [if_neg (fun z => c z.2), if_neg c]
  have fRH : ∀ a b, fR H a b = if a = nI i ∧ b = mT S 456 (tn k) then some (nI i, mT S 456 (tn k), 2, 0, nI (nA S)) else fR S a b := fun a b => by
    rw [hP, fR_put hPW.1.2.2 (by omega)]
    unfold fR
    rw [hPr]
  have old : ∀ f j, f ∈ [454, 455, 456, 457, 458, 462, 463, 465] → j < nA S → mT H f j = mT S f j := fun f j hf hj => by
    obtain ⟨t1, t2, t3, -, t5, t6, -, -, -, t10, t11, -⟩ := hT j
    have ne : j ≠ nA S := by omega
    simp only [List.mem_cons, List.not_mem_nil, or_false] at hf
    rcases hf with rfl | rfl | rfl | rfl | rfl | rfl | rfl | rfl
    · rw [fT _ (by decide), t1, if_neg ne]
    · rw [fT _ (by decide), t2, if_neg ne]
    · rw [fT _ (by decide), t3, if_neg ne]
    · rw [fT _ (by decide), t5, if_neg ne]
    · rw [fT _ (by decide), t6, if_neg ne]
    · rw [fT _ (by decide), t10, if_neg ne]
    · rw [fT _ (by decide), t11, if_neg ne]
    · rw [f465, if_neg ne]
  have hTn := hT (nA S)
  rw [if_pos rfl, if_pos rfl, if_pos rfl, if_pos rfl, if_pos rfl, if_pos rfl, if_pos rfl, if_pos rfl, if_pos rfl, if_pos rfl, if_pos rfl, if_pos rfl] at hTn
  obtain ⟨n1, n2, n3, -, n5, n6, -, -, -, n10, n11, n12, n13⟩ := hTn
  have r1 : mT H 454 (nA S) = 6 + mT S 457 (tn k) := by rw [fT _ (by decide)]; exact n1
  have r6 : mT H 458 (nA S) = 1 := by rw [fT _ (by decide)]; exact n6
  have r10 : mT H 462 (nA S) = mT S 462 (tn k) := by rw [fT _ (by decide)]; exact n10
  have r11 : mT H 463 (nA S) = 0 := by rw [fT _ (by decide)]; exact n11
  have r12 : mT H 465 (nA S) = k := by rw [f465, if_pos rfl]
  have nek : nA S ≠ tn k := by omega
  have r13 : mT H 466 (nA S) = -1 := by rw [f466, if_neg nek, if_pos rfl]
  have k466 : mT H 466 (tn k) = nI (nA S) := by rw [f466, if_pos rfl]
  have k467 : mT H 467 (tn k) = 1 := by rw [f467, if_pos rfl]
  obtain ⟨c1, c2, c3, c4, c5⟩ := new_core (S := S) (S' := H) hW1 hn10 h300 hu hX (by decide) wG.2 (fun j => by rw [fT _ (by decide)]; exact (hT j).1) (fun j => by rw [fT _ (by decide)]; exact (hT j).2.1) (fun j => by rw [fT _ (by decide)]; exact (hT j).2.2.1) (fun m => by rw [fT _ (by decide)]; exact (hT m).2.2.2.1) (fun j => by rw [fT _ (by decide)]; exact (hT j).2.2.2.2.2.2.2.2.2.2.1)
  have hR := recW_all.mp hW1.2.2.2.2.2.2.2.2.1
  have e448 := (hX 448 (by decide)).1
  have e474 := (hX 474 (by decide)).2.1
  have e475 := (hX 475 (by decide)).2.1
  have hrk : rw_ H (tn k) = i := by
    unfold rw_
    rw [old 457 _ (by decide) hkk, old 454 _ (by decide) hkk]
    exact hi
  refine ⟨⟨wG.1, by rw [e448]; exact hW1.2.1, c1, fun j hj => ?_, c2, c3, c4, fun j hj => MemW_x hX (by decide) (hW1.2.2.2.2.2.2.2.1 j hj), recW_all.mpr (fun e he => ?_), ?_, fun a ha => by rw [j452]; exact hok a ha⟩, wG.2, f467, r11⟩
  · obtain ⟨p1, p4⟩ := c5 j hj
    rw [wG.2] at hj
    by_cases cj : j = nA S
    · subst cj
      refine ⟨p1, ⟨Or.inl r11, Or.inl ?_, by rw [r6]; decide⟩, ?_, p4, ⟨fun z => ?_, fun _ => ?_⟩, fun z => absurd r13 z, fun z => ?_, fun _ => r13, fun z => absurd r13 z⟩
      · rw [f467, if_neg nek]
        exact h467 _ (Nat.le_refl _)
      · rw [r10, r6]
        exact ⟨hq.2.2.1.1, hq.2.2.1.2.1, fun z => by rcases z with z | z <;> exact absurd z (by decide), fun z => absurd z (by decide)⟩
      · rw [r1, e6] at z
        omega
      · rw [r6, r12, k466, old 458 _ (by decide) hkk, k467, r1, e6, old 457 _ (by decide) hkk, r10, old 462 _ (by decide) hkk, old 454 _ (by decide) hkk]
        exact ⟨rfl, inN_le hk (by omega), rfl, hd, rfl, rfl, rfl, hq.2.2.1.2.2.1 (Or.inr hd), hn6⟩
      · rw [r6] at z
        exact absurd z (by decide)
    · have hj' : j < nA S := by omega
      have q := hW1.2.2.2.1 j hj'
      have f := FarK_of q
      obtain ⟨q1, q2, q3, q4, ⟨q5, q6⟩, q7, q8, q9, q10⟩ := q
      have r463 := old 463 j (by decide) hj'
      have r458 := old 458 j (by decide) hj'
      have r462 := old 462 j (by decide) hj'
      have r454 := old 454 j (by decide) hj'
      have r465 := old 465 j (by decide) hj'
      have r457 := old 457 j (by decide) hj'
      refine ⟨p1, ⟨by rw [r463]; exact q2.1, ?_, by rw [r458]; exact q2.2.2⟩, by rw [r462, r458]; exact q3, p4, ⟨by rw [r454, r465]; exact q5, fun z => ?_⟩, fun z => ?_, fun z1 z2 => ?_, fun z => ?_, ?_⟩
      · rw [f467]
        split
        · exact Or.inr rfl
        · exact q2.2.1
      · rw [r454] at z
        obtain ⟨b1, b2, b3, b4, b5, b6, b7, b8, b9⟩ := q6 z
        have hf := (inN_tn b2).2.1
        have nf : tn (mT S 465 j) ≠ tn k := fun y => by
          rw [y, h466] at b3
          exact nI_m1ne (by omega) b3.symm
        rw [r458, r465, f466, if_neg nf, if_neg (by omega), old 458 _ (by decide) hf, f467, if_neg nf, r454, old 457 _ (by decide) hf, r462, old 462 _ (by decide) hf, old 454 _ (by decide) hf, wG.2]
        exact ⟨b1, inN_le b2 (by omega), b3, b4, b5, b6, b7, b8, b9⟩
      · by_cases cjk : j = tn k
        · rw [cjk, k466, tn_nI (by omega), r12, r1, e6, wG.2]
          exact ⟨inN_nIlt (Nat.lt_succ_self _) (by omega), hke, by omega⟩
        · rw [f466, if_neg cjk, if_neg cj] at z ⊢
          obtain ⟨b1, b2, b3⟩ := q7 z
          have hf := (inN_tn b1).2.1
          rw [old 465 _ (by decide) hf, old 454 _ (by decide) hf, wG.2]
          exact ⟨inN_le b1 (by omega), b2, b3⟩
      · by_cases cjk : j = tn k
        · rw [cjk, k466]; exact nI_m1ne (by omega)
        · rw [r458] at z1
          rw [f467, if_neg cjk] at z2
          rw [f466, if_neg cjk, if_neg cj]
          exact q8 z1 z2
      · rw [r458] at z
        by_cases cjk : j = tn k
        · rw [cjk] at z; exact absurd hd z
        · rw [f466, if_neg cjk, if_neg cj]
          exact q9 z
      · refine FarK_to (fun z => ?_)
        by_cases cjk : j = tn k
        · rw [cjk, hrk, old 455 _ (by decide) hkk, old 456 _ (by decide) hkk, e474, e475, fRH, if_pos ⟨rfl, rfl⟩]
          exact Or.inr ⟨hlife, Or.inr (fun y => by cases y)⟩
        · rw [f466, if_neg cjk, if_neg cj] at z
          have er : rw_ H j = rw_ S j := by unfold rw_; rw [r457, r454]
          rw [er, old 455 _ (by decide) hj', old 456 _ (by decide) hj', e474, e475, fRH]
          rcases f z with y | ⟨y1, y2⟩
          · exact Or.inl y
          · refine Or.inr ⟨y1, ?_⟩
            rcases y2 with y2 | y2
            · exact Or.inl y2
            · right
              split
              · exact fun u => by cases u
              · exact y2
  · rw [hP] at he
    rcases mem_put hPW (by omega) he with y | y
    · rw [hPr] at y
      exact RecE_new hW1 (hR e y) (by omega) old e448 e474 e475
    · rw [y]
      have hi3 : tn (nI i) = i := tn_nI (by omega)
      have ho3 : tn (nI (nA S)) = nA S := tn_nI (by omega)
      refine ⟨⟨inN_nIlt hi40 (by decide), inN_le hq.1.2.2.1 (by decide), ?_, ?_⟩, Or.inr (Or.inl rfl), fun z => absurd (show (2 : Int32) = 1 from z) (by decide), fun _ => ?_⟩
      · show tn (mT H 475 (tn (nI i))) ≤ tn (mT S 456 (tn k))
        rw [hi3, e475]; exact hw1
      · show tn (mT S 456 (tn k)) < tn (mT H 475 (tn (nI i))) + tn (mI H 448)
        rw [hi3, e475, e448]; exact hw2
      · show inN (nI (nA S)) (nA H) = true ∧ 6 ≤ tn (mT H 454 (tn (nI (nA S)))) ∧ rw_ H (tn (mT H 465 (tn (nI (nA S))))) = tn (nI i) ∧ mT H 455 (tn (mT H 465 (tn (nI (nA S))))) = mT H 474 (tn (nI i)) ∧ mT H 456 (tn (mT H 465 (tn (nI (nA S))))) = mT S 456 (tn k)
        rw [hi3, ho3, r1, e6, r12, hrk, old 455 _ (by decide) hkk, old 456 _ (by decide) hkk, e474, wG.2]
        exact ⟨inN_nIlt (Nat.lt_succ_self _) (by omega), by omega, rfl, hlife, rfl⟩
  · have := RecU_put (o := nI i) (num := mT S 456 (tn k)) (st := 2) (v := 0) (own := nI (nA S)) hPW (by omega) hPU
    rw [← hP] at this
    exact this
end K4
