/-! an ASK is closed; finishFar -/
section FI
variable {x : om_x} {w : om_w} {h h' : Hp} {as : Nat → Nat} {S S' : Ms} {g : Nat}
theorem WF2_463 (hW : WF2 g S) (hS : SX [463, 464] S S') (ho : ∀ k, k < nA S → (mT S' 463 k = 0 ∨ mT S' 463 k = 1 ∨ mT S' 463 k = 2) ∧ (mT S' 463 k = 0 → mT S 463 k = 0)) : WF2 g S' := by
  obtain ⟨a1, a2, a3, a4, a5, a6, a7, a8, a9, a10, a11⟩ := hW
  have eA : nA S' = nA S := by unfold nA; rw [(hS 453 (by decide)).1]
  have eL : nL S' = nL S := by unfold nL; rw [(hS 468 (by decide)).1]
  have eR : nR S' = nR S := by unfold nR; rw [(hS 476 (by decide)).1]
  have d1 : ∀ f ∈ [453, 468, 476], mI S' f = mI S f := fun f hf => (hS f (by revert f; decide)).1
  have d2 : ∀ f ∈ wfT, mT S' f = mT S f := fun f hf => (hS f (by revert f; decide)).2.1
  refine ⟨WF1_congr d1 d2 a1, by rw [(hS 448 (by decide)).1]; exact a2, fun n hn => ?_, fun k hk => ?_, ?_, ?_, fun i hi => ?_, fun j hj => ?_, fun r hr => ?_, ?_, fun a ha => by rw [(hS 452 (by decide)).2.2]; exact a11 a ha⟩
  · have q := a3 n hn
    unfold EndW at q ⊢
    rw [eA, (hS 449 (by decide)).2.1, (hS 450 (by decide)).2.1, (hS 451 (by decide)).2.1]
    exact q
  · have hk' : k < nA S := eA ▸ hk
    have q := a4 k hk'
    have o := ho k hk'
    unfold AskW opn rw_ fnd nR at q ⊢
    rw [(hS 450 (by decide)).2.1, (hS 451 (by decide)).2.1, eA, (hS 454 (by decide)).2.1, (hS 455 (by decide)).2.1, (hS 456 (by decide)).2.1, (hS 457 (by decide)).2.1, (hS 458 (by decide)).2.1, (hS 462 (by decide)).2.1, (hS 465 (by decide)).2.1, (hS 466 (by decide)).2.1, (hS 467 (by decide)).2.1, (hS 474 (by decide)).2.1, (hS 475 (by decide)).2.1, (hS 476 (by decide)).1, (hS 477 (by decide)).2.1, (hS 478 (by decide)).2.1]
    exact ⟨q.1, ⟨o.1, q.2.1.2⟩, q.2.2.1, ⟨q.2.2.2.1.1, q.2.2.2.1.2.1, fun z => q.2.2.2.1.2.2 (o.2 z)⟩, q.2.2.2.2⟩
  · rw [eA, (hS 454 (by decide)).2.1, (hS 455 (by decide)).2.1, (hS 456 (by decide)).2.1]
    exact a5
  · unfold opn
    rw [eA, (hS 454 (by decide)).2.1, (hS 456 (by decide)).2.1, (hS 448 (by decide)).1]
    exact fun k j hk hj e o1 o2 => a6 k j hk hj e ((ho k hk).2 o1) ((ho j hj).2 o2)
  · have q := a7 i (eL ▸ hi)
    unfold LetW at q ⊢
    rw [(hS 448 (by decide)).1, (hS 454 (by decide)).2.1, (hS 456 (by decide)).2.1, (hS 469 (by decide)).2.1, (hS 470 (by decide)).2.1, (hS 471 (by decide)).2.1, (hS 472 (by decide)).2.2]
    exact q
  · have q := a8 j hj
    unfold MemW at q ⊢
    rw [(hS 474 (by decide)).2.1, (hS 475 (by decide)).2.1]
    exact q
  · have q := a9 r (eR ▸ hr)
    unfold RecW rw_ at q ⊢
    rw [eA, (hS 448 (by decide)).1, (hS 454 (by decide)).2.1, (hS 455 (by decide)).2.1, (hS 456 (by decide)).2.1, (hS 457 (by decide)).2.1, (hS 465 (by decide)).2.1, (hS 474 (by decide)).2.1, (hS 475 (by decide)).2.1, (hS 477 (by decide)).2.1, (hS 478 (by decide)).2.1, (hS 479 (by decide)).2.1, (hS 480 (by decide)).2.2, (hS 481 (by decide)).2.1]
    exact q
  · rw [eR, (hS 477 (by decide)).2.1, (hS 478 (by decide)).2.1]
    exact a10
theorem WF2_close {k : Nat} {st : Int32} {v : Int64} (hW : WF2 g S) (hst : st = 1 ∨ st = 2) : WF2 g (pJ (pT S 463 k st) 464 k v) := by
  refine WF2_463 hW ((SX_pT (by decide)).tr (SX_pJ (by decide))) (fun j hj => ?_)
  have e : mT (pJ (pT S 463 k st) 464 k v) 463 j = if j = k then st else mT S 463 j := by simp [mT_pJ, mT_pT]
  rw [e]
  by_cases c : j = k
  · rw [if_pos c]
    refine ⟨Or.inr hst, fun z => ?_⟩
    rcases hst with y | y <;> rw [y] at z <;> exact absurd z (by decide)
  · rw [if_neg c]
    exact ⟨(hW.2.2.2.1 j hj).2.1.1, fun z => z⟩
theorem put_same {r : Nat} {o num own : Int32} {v : Int64} (e : fnd S o num = some r) (ho : mT S 481 r = own) : putRecF S o num 1 v own = pJ (pT S 479 r 1) 480 r v := by
  obtain ⟨-, k2, k3⟩ := fnd_at e
  unfold putRecF
  rw [e]
  show putAt S r o num 1 v own = _
  have eT : mT (putAt S r o num 1 v own) = mT (pJ (pT S 479 r 1) 480 r v) := by
    funext f i
    unfold putAt
    simp only [mT_pT, mT_pJ]
    by_cases c1 : f = 481 ∧ i = r
    · rw [if_pos c1, if_neg (fun z => by have := z.1; omega), c1.1, c1.2, ho]
    · rw [if_neg c1]
      by_cases c2 : f = 479 ∧ i = r
      · rw [if_pos c2, if_pos c2]
      · rw [if_neg c2, if_neg c2]
        by_cases c3 : f = 478 ∧ i = r
        · rw [if_pos c3, c3.1, c3.2, k3]
        · rw [if_neg c3]
          by_cases c4 : f = 477 ∧ i = r
          · rw [if_pos c4, c4.1, c4.2, k2]
          · rw [if_neg c4]
  have eJ : mJ (putAt S r o num 1 v own) = mJ (pJ (pT S 479 r 1) 480 r v) := by
    funext f i
    unfold putAt
    simp only [mJ_pT, mJ_pJ]
  exact Prod.ext rfl (Prod.ext eT eJ)
/-- what the answer to a SERVER's own ASK brings about -/
theorem thru_eq {k : Int32} (hW : WF2 g S) (hk : inN k (nA S) = true) (h6 : 6 ≤ tn (mT S 454 (tn k))) :
    mT S 454 (tn k) - 6 = mT S 457 (tn (mT S 465 (tn k))) ∧ inN (mT S 465 (tn k)) (nA S) = true ∧
    thruF S (mT S 457 (tn (mT S 465 (tn k)))) k = (if mT S 474 (rw_ S (tn (mT S 465 (tn k)))) = mT S 455 (tn (mT S 465 (tn k))) ∧ stR (fR S (nI (rw_ S (tn (mT S 465 (tn k))))) (mT S 456 (tn (mT S 465 (tn k))))) = 2 then sendF (putRecF S (nI (rw_ S (tn (mT S 465 (tn k))))) (mT S 456 (tn (mT S 465 (tn k)))) 1 (mJ S 452 (tn (6 * mT S 457 (tn (mT S 465 (tn k))) + mT S 459 (tn (mT S 465 (tn k)))))) k) (mT S 465 (tn k)) true (mJ S 452 (tn (6 * mT S 457 (tn (mT S 465 (tn k))) + mT S 459 (tn (mT S 465 (tn k)))))) else S) := by
  have hkk := (inN_tn hk).2.1
  obtain ⟨-, p2, p3, p4, p5, p6, -⟩ := (hW.2.2.2.1 _ hkk).2.2.2.2.1.2 h6
  have hf := (inN_tn p2).2.1
  obtain ⟨w1, w2, w3, w4, w5⟩ := hW.1.ask p2
  have hn := (hW.1.ask hk).1
  refine ⟨?_, p2, ?_⟩
  · rw [(inN_tn hn).1, p6, show (6 : Int32) = nI 6 from rfl, nI_sub (by omega), Nat.add_sub_cancel_left]
    exact (inN_tn w2).1.symm
  · have hi := rw_lt hW.1 hf
    have ho : 10 * mT S 457 (tn (mT S 465 (tn k))) + mT S 454 (tn (mT S 465 (tn k))) = nI (rw_ S (tn (mT S 465 (tn k)))) := (of_tn w2 w1).2
    unfold thruF
    rw [ho]
    cases e : fnd S (nI (rw_ S (tn (mT S 465 (tn k))))) (mT S 456 (tn (mT S 465 (tn k)))) with
    | none =>
      have e2 : fR S (nI (rw_ S (tn (mT S 465 (tn k))))) (mT S 456 (tn (mT S 465 (tn k)))) = none := (fR_none _ _).mpr e
      rw [e2, if_neg (fun z => absurd z.2 (by decide))]
    | some r =>
      have e2 : fR S (nI (rw_ S (tn (mT S 465 (tn k))))) (mT S 456 (tn (mT S 465 (tn k)))) = some (rc S r) := by rw [fR_fnd, e]; rfl
      obtain ⟨r1, r2, r3⟩ := fnd_at e
      have hE : RecE S (rc S r) := hW.2.2.2.2.2.2.2.2.1 r r1
      have iff : (mT S 479 r = 2 ∧ mT S 481 r = k) ↔ (mT S 474 (rw_ S (tn (mT S 465 (tn k)))) = mT S 455 (tn (mT S 465 (tn k))) ∧ mT S 479 r = 2) := by
        constructor
        · rintro ⟨y1, y2⟩
          obtain ⟨-, -, -, o4, -⟩ := hE.2.2.2 y1
          have o4' : mT S 455 (tn (mT S 465 (tn (mT S 481 r)))) = mT S 474 (tn (mT S 477 r)) := o4
          rw [y2, r2, tn_nI (by omega)] at o4'
          exact ⟨o4'.symm, y1⟩
        · rintro ⟨y1, y2⟩
          refine ⟨y2, ?_⟩
          have m := (midst_own hW p2 e2 hE y2 y1.symm).2
          rw [p3] at m
          have m2 : mT S 481 r = nI (tn k) := m.symm
          rw [m2]
          exact (inN_tn hk).1.symm
      rw [e2, show stR (some (rc S r)) = mT S 479 r from rfl]
      simp only
      by_cases c : mT S 479 r = 2 ∧ mT S 481 r = k
      · rw [if_pos c, if_pos (iff.mp c), put_same e c.2]
      · rw [if_neg c, if_neg (fun z => c (iff.mpr z))]
def FinX : List Nat := [10, 11, 193, 194, 195, 350, 359, 68, 128, 129, 130, 131, 132, 133, 256, 258]
set_option maxRecDepth 100000 in
set_option maxHeartbeats 4000000 in
theorem fin_14 {k m : Int32} {q : Nat} {v : Int64} {Q : Option Value → Hp → Prop} (hr : Rep w as S h) (hI1 : Inj w) (hW : WF2 g S) (h7 : nR S < 700) (hk : inN k (nA S) = true) (h6 : 6 ≤ tn (mT S 454 (tn k))) (hq : hK h q = 3) (hv : hJ h 133 q = v) (hm : m = 2 ∨ m = 3) (h485 : mI S 485 = bi (decide (m < 3)))
    (hQ : ∀ (S1 : Ms) (h' : Hp), thruF (pJ (pT S 463 (tn k) 1) 464 (tn k) v) (mT S 454 (tn k) - 6) k = S1 → Rep w as S1 h' → HX FinX h h' → Q (some (.int (mI S1 486 - mI S 486))) h') : J x (om_m x 3 0 0 Q) kX6_finishFar 14 [(0, .ref (w 0 0)), (1, .ref q), (2, .ref (as (tn k))), (3, .int m)] [] h 0 0 := by
  have hkk := (inN_tn hk).2.1
  have q0 := (hr.2.2.2.1.2.2.1 _ hkk).1
  have hWT := WF2_close (k := tn k) (st := 1) (v := v) hW (Or.inl rfl)
  have hX : SX [463, 464] S (pJ (pT S 463 (tn k) 1) 464 (tn k) v) := (SX_pT (by decide)).tr (SX_pJ (by decide))
  have hRT : Rep w as (pJ (pT S 463 (tn k) 1) 464 (tn k) v) (sJ (sI h 10 (as (tn k)) 1) 11 (as (tn k)) v) := by
    refine Rep_close hr hkk (by decide) ((HX_sI (by decide)).tr (HX_sJ (by decide))) (fun b hb => ?_) ?_ (fun _ => ?_)
    · rw [hI_sJ, hI_sI, if_neg (fun z => hb z.2), hJ_sJ, if_neg (fun z => hb z.2), hJ_sI]
      exact ⟨rfl, rfl⟩
    · rw [hI_sJ, hI_sI, if_pos ⟨rfl, rfl⟩]
    · rw [hJ_sJ, if_pos ⟨rfl, rfl⟩]
  have hHX : HX [10, 11] h (sJ (sI h 10 (as (tn k)) 1) 11 (as (tn k)) v) := (HX_sI (by decide)).tr (HX_sJ (by decide))
  rw [show mT S 454 = mT (pJ (pT S 463 (tn k) 1) 464 (tn k) v) 454 from ((hX 454 (by decide)).2.1).symm] at h6 hQ
  have hkT : inN k (nA (pJ (pT S 463 (tn k) 1) 464 (tn k) v)) = true := by rw [nA_pJ, nA_pT]; exact hk
  have h7T : nR (pJ (pT S 463 (tn k) 1) 464 (tn k) v) < 700 := by rw [nR_pJ, nR_pT]; exact h7
  have e485 : mI (pJ (pT S 463 (tn k) 1) 464 (tn k) v) 485 = bi (decide (m < 3)) := by rw [mI_pJ, mI_pT]; exact h485
  rw [show mI S 486 = mI (pJ (pT S 463 (tn k) 1) 464 (tn k) v) 486 from by rw [mI_pJ, mI_pT]] at hQ
  generalize pJ (pT S 463 (tn k) 1) 464 (tn k) v = T at *
  generalize hh1 : sJ (sI h 10 (as (tn k)) 1) 11 (as (tn k)) v = h1 at *
  obtain ⟨t1, t2, t3⟩ := thru_eq hWT hkT h6
  rw [t1] at hQ
  have hf := (inN_tn t2).2.1
  have hkk' := (inN_tn hkT).2.1
  have o1 := hRT.1.1.1
  have own := hRT.2.2.2.1.2.2.1 _ hkk'
  have k13 : hR h1 13 (as (tn k)) = some (as (tn (mT T 465 (tn k)))) := by rw [own.2.2.2.2.2.2.2.2.2.2.2.2.2.1]; exact lnk_r t2
  have ko := own.1
  obtain ⟨q0f, q1, q2, q3, q4, q5, q6, q7, q8, q9, q10, -⟩ := hRT.2.2.2.1.2.2.1 _ hf
  have hi := rw_lt hWT.1 hf
  have hif : rw_ T (tn (mT T 465 (tn k))) = 10 * tn (mT T 457 (tn (mT T 465 (tn k)))) + tn (mT T 454 (tn (mT T 465 (tn k)))) := rfl
  generalize hgi : rw_ T (tn (mT T 465 (tn k))) = i at *
  obtain ⟨w1, w2, w3, w4, w5⟩ := hWT.1.ask t2
  have hs4 := (inN_tn w2).2.1
  have ha6 := (inN_tn w3).2.1
  have kM := (Rep.mk hRT.1 hi).1
  have k8 := (hRT.1.2.2.2.1 _ hs4).2.1
  have m2 := (hRT.2.2.2.2.2.2 i hi).2.1
  have eA := ac_tn w2 w3
  have eV := hRT.2.2.2.2.2.1 _ _ hs4 ha6
  have hfw := hWT.2.2.2.1 _ hf
  have hnum := (inN_tn hfw.1.2.2.1).1
  have hlv : ∀ b : Int32, (b = if m = 3 then 1 else 0) → lv T b := fun b e => by
    unfold lv
    rw [e485, e]
    rcases hm with z | z <;> subst z <;> decide
  have acc := hWT.2.2.2.2.2.2.2.2.2.2 _ (inN_tn (inN_ac w2 w3)).2.1
  have leafT : ¬ (mT T 474 i = mT T 455 (tn (mT T 465 (tn k))) ∧ stR (fR T (nI i) (mT T 456 (tn (mT T 465 (tn k))))) = 2) → Q (some (.int 0)) h1 := fun c => by
    rw [if_neg c] at t3
    have := hQ T h1 t3 hRT (hHX.sub (by decide))
    rw [Int32.sub_self] at this
    exact this
  refine J_aload_n dX6_finishFar_14 rfl rfl isR_r ?_
  refine J_aload_n dX6_finishFar_15 rfl rfl isR_r ?_
  skip
  refine J_getJ dX6_finishFar_16 g_X6_289 (by first | with_reducible assumption | (simp only [hK_sI, hK_sJ, hK_sR, hK_tI, hK_tJ, hK_tR]; with_reducible assumption)) ?_
  rw [hv]
  refine J_callV (c_close q0) dX6_finishFar_19 ml_X6_290 mkX0_close rfl (by first | with_reducible assumption | (simp only [hK_sI, hK_sJ, hK_sR, hK_tI, hK_tJ, hK_tR]; with_reducible assumption)) (by decide) rfl rfl (Nat.le_of_ble_eq_true rfl) ⟨Nat.le_of_ble_eq_true rfl, Nat.le_of_ble_eq_true rfl⟩ ⟨Nat.le_of_ble_eq_true rfl, Nat.le_of_ble_eq_true rfl⟩ (fun v19 hp19 q19 => ?_)
  obtain ⟨rfl, z19⟩ := q19
  rw [z19, hh1]
  refine J_aload_n dX6_finishFar_22 rfl rfl isR_r ?_
  refine J_getRr dX6_finishFar_23 g_X6_114 (by first | with_reducible assumption | (simp only [hK_sI, hK_sJ, hK_sR, hK_tI, hK_tJ, hK_tR]; with_reducible assumption)) k13 ?_
  refine J_astore dX6_finishFar_26 isR_r (by decide) ?_
  refine J_aload dX6_finishFar_28 rfl isR_r ?_
  refine J_pc (pc' := 30) rfl ?_
  refine J_ifnonnull_r (tgt := 35) dX6_finishFar_30 (by decide) ?_
  refine J_aload_n dX6_finishFar_35 rfl rfl isR_r ?_
  refine J_aload dX6_finishFar_36 rfl isR_r ?_
  refine J_getI dX6_finishFar_38 g_X6_108 (by first | with_reducible assumption | (simp only [hK_sI, hK_sJ, hK_sR, hK_tI, hK_tJ, hK_tR]; with_reducible assumption)) ?_
  rw [q5]
  refine J_callV (c_serverOf hRT.1) dX6_finishFar_41 ml_X6_51 mkX6_serverOf rfl (by first | with_reducible assumption | (simp only [hK_sI, hK_sJ, hK_sR, hK_tI, hK_tJ, hK_tR]; with_reducible assumption)) (by decide) rfl rfl (Nat.le_of_ble_eq_true rfl) ⟨Nat.le_of_ble_eq_true rfl, Nat.le_of_ble_eq_true rfl⟩ ⟨Nat.le_of_ble_eq_true rfl, Nat.le_of_ble_eq_true rfl⟩ (fun v41 hp41 q41 => ?_)
  obtain ⟨rfl, z41⟩ := q41
  rw [z41]
  rw [if_pos w2]
  refine J_astore dX6_finishFar_44 isR_r (by decide) ?_
  refine J_aload_n dX6_finishFar_46 rfl rfl isR_r ?_
  refine J_aload dX6_finishFar_47 rfl isR_r ?_
  refine J_getI dX6_finishFar_49 g_X6_108 (by first | with_reducible assumption | (simp only [hK_sI, hK_sJ, hK_sR, hK_tI, hK_tJ, hK_tR]; with_reducible assumption)) ?_
  refine J_pc (pc' := 52) rfl ?_
  refine J_aload dX6_finishFar_52 rfl isR_r ?_
  refine J_getI dX6_finishFar_54 g_X6_89 (by first | with_reducible assumption | (simp only [hK_sI, hK_sJ, hK_sR, hK_tI, hK_tJ, hK_tR]; with_reducible assumption)) ?_
  rw [q5, q2]
  refine J_callV (c_memoryOf hRT.1) dX6_finishFar_57 ml_X6_191 mkX6_memoryOf rfl (by first | with_reducible assumption | (simp only [hK_sI, hK_sJ, hK_sR, hK_tI, hK_tJ, hK_tR]; with_reducible assumption)) (by decide) rfl rfl (Nat.le_of_ble_eq_true rfl) ⟨Nat.le_of_ble_eq_true rfl, Nat.le_of_ble_eq_true rfl⟩ ⟨Nat.le_of_ble_eq_true rfl, Nat.le_of_ble_eq_true rfl⟩ (fun v57 hp57 q57 => ?_)
  obtain ⟨rfl, z57⟩ := q57
  rw [z57]
  rw [if_pos ⟨w2, w1⟩, ← hif]
  refine J_astore dX6_finishFar_60 isR_r (by decide) ?_
  refine J_aload dX6_finishFar_62 rfl isR_r ?_
  refine J_ifnull_r dX6_finishFar_64 ?_
  refine J_aload dX6_finishFar_67 rfl isR_r ?_
  refine J_ifnonnull_r (tgt := 74) dX6_finishFar_69 (by decide) ?_
  refine J_aload dX6_finishFar_74 rfl isR_r ?_
  refine J_pc (pc' := 76) rfl ?_
  refine J_getI dX6_finishFar_76 g_X6_195 (by first | with_reducible assumption | (simp only [hK_sI, hK_sJ, hK_sR, hK_tI, hK_tJ, hK_tR]; with_reducible assumption)) ?_
  refine J_aload dX6_finishFar_79 rfl isR_r ?_
  refine J_getI dX6_finishFar_81 g_X6_102 (by first | with_reducible assumption | (simp only [hK_sI, hK_sJ, hK_sR, hK_tI, hK_tJ, hK_tR]; with_reducible assumption)) ?_
  refine J_icmp_ne (tgt := 101) dX6_finishFar_84 (by decide) (fun c84 => ?_) (fun c84 => ?_)
  · refine J_iconst (v := 0) dX6_finishFar_101 (by decide) ?_
    exact J_ireturn dX6_finishFar_102 rfl (leafT (fun z => c84 (by rw [m2, q3]; exact z.1))) (Nat.le_of_ble_eq_true rfl) (Nat.le_of_ble_eq_true rfl)
  · refine J_aload dX6_finishFar_87 rfl isR_r ?_
    refine J_aload dX6_finishFar_89 rfl isR_r ?_
    refine J_getI dX6_finishFar_91 g_X6_105 (by first | with_reducible assumption | (simp only [hK_sI, hK_sJ, hK_sR, hK_tI, hK_tJ, hK_tR]; with_reducible assumption)) ?_
    rw [q4]
    refine J_callV (c_stateR hRT hWT.rw_ hi (hWT.lo hi)) dX6_finishFar_94 ml_X6_204 mkX3_stateOf rfl (by first | with_reducible assumption | (simp only [hK_sI, hK_sJ, hK_sR, hK_tI, hK_tJ, hK_tR]; with_reducible assumption)) (by decide) rfl rfl (Nat.le_of_ble_eq_true rfl) ⟨Nat.le_of_ble_eq_true rfl, Nat.le_of_ble_eq_true rfl⟩ ⟨Nat.le_of_ble_eq_true rfl, Nat.le_of_ble_eq_true rfl⟩ (fun v94 hp94 q94 => ?_)
    obtain ⟨rfl, z94⟩ := q94
    rw [z94]
    refine J_iconst (v := 2) dX6_finishFar_97 (by decide) ?_
    refine J_icmp_eq (tgt := 103) dX6_finishFar_98 (by decide) (fun c98 => ?_) (fun c98 => ?_)
    · refine J_aload dX6_finishFar_103 rfl isR_r ?_
      refine J_aload dX6_finishFar_105 rfl isR_r ?_
      refine J_getI dX6_finishFar_107 g_X6_252 (by first | with_reducible assumption | (simp only [hK_sI, hK_sJ, hK_sR, hK_tI, hK_tJ, hK_tR]; with_reducible assumption)) ?_
      have cc : mT T 474 i = mT T 455 (tn (mT T 465 (tn k))) ∧ stR (fR T (nI i) (mT T 456 (tn (mT T 465 (tn k))))) = 2 := ⟨by rw [← m2, ← q3]; exact c84, c98⟩
      rw [if_pos cc] at t3
      rw [q7]
      refine J_callV (c_has hRT.1 hs4 w3) dX6_finishFar_110 ml_X6_187 mkX5_has rfl (by first | with_reducible assumption | (simp only [hK_sI, hK_sJ, hK_sR, hK_tI, hK_tJ, hK_tR]; with_reducible assumption)) (by decide) rfl rfl (Nat.le_of_ble_eq_true rfl) ⟨Nat.le_of_ble_eq_true rfl, Nat.le_of_ble_eq_true rfl⟩ ⟨Nat.le_of_ble_eq_true rfl, Nat.le_of_ble_eq_true rfl⟩ (fun v110 hp110 q110 => ?_)
      obtain ⟨rfl, z110⟩ := q110
      rw [z110]
      rw [eV, ← eA]
      refine J_lstore dX6_finishFar_113 (by decide) ?_
      refine J_aload dX6_finishFar_115 rfl isR_r ?_
      refine J_aload dX6_finishFar_117 rfl isR_r ?_
      refine J_getI dX6_finishFar_119 g_X6_105 (by first | with_reducible assumption | (simp only [hK_sI, hK_sJ, hK_sR, hK_tI, hK_tJ, hK_tR]; with_reducible assumption)) ?_
      refine J_pc (pc' := 122) rfl ?_
      refine J_iconst (v := 1) dX6_finishFar_122 (by decide) ?_
      refine J_lload dX6_finishFar_123 rfl ?_
      obtain ⟨e, he⟩ : ∃ e, fR T (nI i) (mT T 456 (tn (mT T 465 (tn k)))) = some e := by
       cases hc : fR T (nI i) (mT T 456 (tn (mT T 465 (tn k)))) with
       | none => rw [hc] at cc; exact absurd cc.2 (by decide)
       | some e => exact ⟨e, rfl⟩
      obtain ⟨u1, u2, u3⟩ := fR_mem he
      have hE := recW_all.mp hWT.2.2.2.2.2.2.2.2.1 e u1
      have hlo1 := hE.1.2.2.1
      have hlo2 := hE.1.2.2.2
      rw [u2, u3, tn_nI (show i < 2147483648 by omega)] at hlo1 hlo2
      rw [q4, hnum]
      refine J_callV (c_writeR (own := k) (V := mJ T 452 (tn (6 * mT T 457 (tn (mT T 465 (tn k))) + mT T 459 (tn (mT T 465 (tn k)))))) hRT hI1 hWT.1.1.2.2 h7T hi (hWT.lo hi) hlo1 hlo2 (Or.inl ⟨rfl, rfl⟩)) dX6_finishFar_125 ml_X6_331 mkX3_write rfl (by first | with_reducible assumption | (simp only [hK_sI, hK_sJ, hK_sR, hK_tI, hK_tJ, hK_tR]; with_reducible assumption)) (by decide) rfl rfl (Nat.le_of_ble_eq_true rfl) ⟨Nat.le_of_ble_eq_true rfl, Nat.le_of_ble_eq_true rfl⟩ ⟨Nat.le_of_ble_eq_true rfl, Nat.le_of_ble_eq_true rfl⟩ (fun v125 hp125 q125 => ?_)
      obtain ⟨rfl, z1, z2⟩ := q125
      rw [← hnum] at z1
      have o1' := z1.1.1.1
      have hWP : WF1 (putRecF T (nI i) (mT T 456 (tn (mT T 465 (tn k)))) 1 (mJ T 452 (tn (6 * mT T 457 (tn (mT T 465 (tn k))) + mT T 459 (tn (mT T 465 (tn k)))))) k) := WF1_put hWT.1 h7T (fun z => absurd z (by decide))
      refine J_aload_n dX6_finishFar_128 rfl rfl isR_r ?_
      refine J_aload dX6_finishFar_129 rfl isR_r ?_
      refine J_lload dX6_finishFar_131 rfl ?_
      refine J_iload_n dX6_finishFar_133 rfl rfl ?_
      refine J_iconst (v := 3) dX6_finishFar_134 (by decide) ?_
      refine J_pc (pc' := 135) rfl ?_
      refine J_icmp_ne (tgt := 142) dX6_finishFar_135 (by decide) (fun c135 => ?_) (fun c135 => ?_)
      · refine J_iconst (v := 0) dX6_finishFar_142 (by decide) ?_
        refine J_callV (c_sendAnswer (a := mT T 465 (tn k)) z1 hWP (by rw [put_nA]; exact t2) (ne_m3 acc.1) (by have := hlv _ (by first | rw [if_pos c135] | rw [if_neg c135]); unfold lv at this ⊢; rw [put_I _ _ _ _ _ (by decide)]; exact this)) dX6_finishFar_143 ml_X6_310 mkX6_sendAnswer rfl (by first | with_reducible assumption | (simp only [hK_sI, hK_sJ, hK_sR, hK_tI, hK_tJ, hK_tR]; with_reducible assumption)) (by decide) rfl rfl (Nat.le_of_ble_eq_true rfl) ⟨Nat.le_of_ble_eq_true rfl, Nat.le_of_ble_eq_true rfl⟩ ⟨Nat.le_of_ble_eq_true rfl, Nat.le_of_ble_eq_true rfl⟩ (fun v143 hp143 q143 => ?_)
        obtain ⟨rfl, z3, z4⟩ := q143
        exact J_ireturn dX6_finishFar_146 rfl (by
         have := hQ _ _ t3 z3 ((hHX.sub (by decide)).tr ((z2.sub (by decide)).tr (z4.sub (by decide))))
         rw [put_I _ _ _ _ _ (by decide)]
         exact this) (Nat.le_of_ble_eq_true rfl) (Nat.le_of_ble_eq_true rfl)
      · refine J_iconst (v := 1) dX6_finishFar_138 (by decide) ?_
        refine J_goto (tgt := 143) dX6_finishFar_139 (by decide) ?_
        refine J_callV (c_sendAnswer (a := mT T 465 (tn k)) z1 hWP (by rw [put_nA]; exact t2) (ne_m3 acc.1) (by have := hlv _ (by first | rw [if_pos c135] | rw [if_neg c135]); unfold lv at this ⊢; rw [put_I _ _ _ _ _ (by decide)]; exact this)) dX6_finishFar_143 ml_X6_310 mkX6_sendAnswer rfl (by first | with_reducible assumption | (simp only [hK_sI, hK_sJ, hK_sR, hK_tI, hK_tJ, hK_tR]; with_reducible assumption)) (by decide) rfl rfl (Nat.le_of_ble_eq_true rfl) ⟨Nat.le_of_ble_eq_true rfl, Nat.le_of_ble_eq_true rfl⟩ ⟨Nat.le_of_ble_eq_true rfl, Nat.le_of_ble_eq_true rfl⟩ (fun v143 hp143 q143 => ?_)
        obtain ⟨rfl, z3, z4⟩ := q143
        exact J_ireturn dX6_finishFar_146 rfl (by
         have := hQ _ _ t3 z3 ((hHX.sub (by decide)).tr ((z2.sub (by decide)).tr (z4.sub (by decide))))
         rw [put_I _ _ _ _ _ (by decide)]
         exact this) (Nat.le_of_ble_eq_true rfl) (Nat.le_of_ble_eq_true rfl)
    · refine J_iconst (v := 0) dX6_finishFar_101 (by decide) ?_
      exact J_ireturn dX6_finishFar_102 rfl (leafT (fun z => c98 z.2)) (Nat.le_of_ble_eq_true rfl) (Nat.le_of_ble_eq_true rfl)
set_option maxRecDepth 100000 in
set_option maxHeartbeats 4000000 in
theorem c_finishFar {k m : Int32} {q : Nat} {v : Int64} (hr : Rep w as S h) (hI1 : Inj w) (hW : WF2 g S) (h7 : nR S < 700) (hk : inN k (nA S) = true) (h6 : 6 ≤ tn (mT S 454 (tn k))) (hq : hK h q = 3) (hv : hJ h 133 q = v) (hm : m = 1 ∨ m = 2 ∨ m = 3) (h485 : mI S 485 = bi (decide (m < 3))) : Mt x 3 kX6_finishFar 0 0 [.ref (w 0 0), .ref q, .ref (as (tn k)), .int m] h (fun z h' => z = some (.int (mI (if 1 < m then throughF S (mT S 454 (tn k) - 6) k v else S) 486 - mI S 486)) ∧ Rep w as (if 1 < m then throughF S (mT S 454 (tn k) - 6) k v else S) h' ∧ HX FinX h h') := by
  refine Mt.ofJ mkX6_finishFar.1 (Nat.le_of_ble_eq_true rfl) ?_
  have hkk := (inN_tn hk).2.1
  obtain ⟨q0, q1, q2, q3, q4, q5, q6, q7, q8, q9, q10, -⟩ := hr.2.2.2.1.2.2.1 _ hkk
  generalize hF : (if 1 < m then throughF S (mT S 454 (tn k) - 6) k v else S) = F at *
  have leafS : F = S → (fun z h' => z = some (Value.int (mI F 486 - mI S 486)) ∧ Rep w as F h' ∧ HX FinX h h') (some (.int 0)) h := fun e => by
    show _ ∧ _
    rw [e, Int32.sub_self]
    exact ⟨rfl, hr, HX.rf⟩
  by_cases d1 : m = 1
  · rw [if_neg (by rw [d1]; decide)] at hF
    refine J_iload_n dX6_finishFar_0 rfl rfl ?_
    refine J_iconst (v := 1) dX6_finishFar_1 (by decide) ?_
    refine J_icmp_eq (tgt := 12) dX6_finishFar_2 (by decide) (fun c2 => ?_) (fun c2 => (c2 d1).elim)
    refine J_iconst (v := 0) dX6_finishFar_12 (by decide) ?_
    exact J_ireturn dX6_finishFar_13 rfl (leafS hF.symm) (Nat.le_of_ble_eq_true rfl) (Nat.le_of_ble_eq_true rfl)
  have hm2 : m = 2 ∨ m = 3 := hm.resolve_left d1
  have hlt : 1 < m := by rcases hm2 with z | z <;> rw [z] <;> decide
  rw [if_pos hlt] at hF
  unfold throughF at hF
  by_cases d2 : mT S 463 (tn k) = 0
  · rw [if_neg (fun z => z d2)] at hF
    refine J_iload_n dX6_finishFar_0 rfl rfl ?_
    refine J_iconst (v := 1) dX6_finishFar_1 (by decide) ?_
    refine J_icmp_eq (tgt := 12) dX6_finishFar_2 (by decide) (fun c2 => (d1 c2).elim) (fun c2 => ?_)
    refine J_aload_n dX6_finishFar_5 rfl rfl isR_r ?_
    refine J_getI dX6_finishFar_6 g_X6_92 (by first | with_reducible assumption | (simp only [hK_sI, hK_sJ, hK_sR, hK_tI, hK_tJ, hK_tR]; with_reducible assumption)) ?_
    refine J_if_eq (tgt := 14) dX6_finishFar_9 (by decide) (fun c9 => ?_) (fun c9 => (c9 (by rw [q10]; exact d2)).elim)
    exact fin_14 hr hI1 hW h7 hk h6 hq hv hm2 h485 (fun S1 h' y1 y2 y3 => by
     show _ ∧ _
     rw [← hF, y1]
     exact ⟨rfl, y2, y3⟩)
  · rw [if_pos d2] at hF
    refine J_iload_n dX6_finishFar_0 rfl rfl ?_
    refine J_iconst (v := 1) dX6_finishFar_1 (by decide) ?_
    refine J_icmp_eq (tgt := 12) dX6_finishFar_2 (by decide) (fun c2 => (d1 c2).elim) (fun c2 => ?_)
    refine J_aload_n dX6_finishFar_5 rfl rfl isR_r ?_
    refine J_getI dX6_finishFar_6 g_X6_92 (by first | with_reducible assumption | (simp only [hK_sI, hK_sJ, hK_sR, hK_tI, hK_tJ, hK_tR]; with_reducible assumption)) ?_
    refine J_if_eq (tgt := 14) dX6_finishFar_9 (by decide) (fun c9 => (d2 (by rw [← q10]; exact c9)).elim) (fun c9 => ?_)
    refine J_iconst (v := 0) dX6_finishFar_12 (by decide) ?_
    exact J_ireturn dX6_finishFar_13 rfl (leafS hF.symm) (Nat.le_of_ble_eq_true rfl) (Nat.le_of_ble_eq_true rfl)
end FI
