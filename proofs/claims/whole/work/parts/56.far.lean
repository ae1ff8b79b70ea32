/-! towards beginFar -/
section FA
variable {x : om_x} {w : om_w} {h h' : Hp} {as : Nat → Nat} {S S' : Ms} {g : Nat}
/-- of a SERVER's own ASK nobody reads b and t -/
theorem Rep_460 (hS : SX [460, 461] S S') (e : ∀ k, k < nA S → mT S 454 k < 6 → mT S' 460 k = mT S 460 k ∧ mT S' 461 k = mT S 461 k) (hr : Rep w as S h) : Rep w as S' h := by
  have hH : HX [] h h := HX.rf
  have eA : nA S' = nA S := by unfold nA; rw [(hS 453 (by decide)).1]
  obtain ⟨a1, a2, a3, a4, a5, a6, a7⟩ := hr
  refine ⟨a1, a2.x hS hH (by decide) (by decide) a1, a3.x hS hH (by decide) (by decide) a1, ?_, a5.x hS hH (by decide) (by decide) a1, a6.x hS hH (by decide) (by decide) a1, a7.x hS hH (by decide) (by decide) a1⟩
  obtain ⟨r1, r2, r3, r4⟩ := a4
  refine ⟨fun i hi => r1 i (eA ▸ hi), fun i hi hi2 => r2 i (eA ▸ hi) hi2, fun i hi => ?_, fun i l hi hl => r4 i l (eA ▸ hi) (eA ▸ hl)⟩
  have hi' : i < nA S := eA ▸ hi
  have q := r3 i hi'
  unfold AskOK at q ⊢
  rw [(hS 454 (by decide)).2.1, (hS 455 (by decide)).2.1, (hS 456 (by decide)).2.1, (hS 457 (by decide)).2.1, (hS 458 (by decide)).2.1, (hS 459 (by decide)).2.1, (hS 462 (by decide)).2.1, (hS 463 (by decide)).2.1, (hS 464 (by decide)).2.2, (hS 465 (by decide)).2.1, (hS 466 (by decide)).2.1, (hS 467 (by decide)).2.1]
  obtain ⟨q0, q1, q2, q3, q4, q5, q6, q7, q8, q9⟩ := q
  exact ⟨q0, q1, q2, q3, q4, q5, q6, q7, fun z => by rw [(e i hi' z).1, (e i hi' z).2]; exact q8 z, q9⟩
theorem Rep_acc {s a : Nat} {u : Int64} (hI1 : Inj w) (hs : s < 4) (ha : a < 6) (hr : Rep w as S h) : Rep w as (pJ S 452 (6 * s + a) (mJ S 452 (6 * s + a) + u)) (tJ h 65 (w 9 s) a (aJ h 65 (w 9 s) a + u)) := by
  have hS : SX [452] S (pJ S 452 (6 * s + a) (mJ S 452 (6 * s + a) + u)) := SX_pJ (by decide)
  have hH : HX [335] h (tJ h 65 (w 9 s) a (aJ h 65 (w 9 s) a + u)) := HX_tJ (by decide)
  obtain ⟨a1, a2, a3, a4, a5, a6, a7⟩ := hr
  exact ⟨a1.x hH (by decide), a2.x hS hH (by decide) (by decide) a1, a3.x hS hH (by decide) (by decide) a1, a4.x hS hH (by decide) (by decide) a1, a5.x hS hH (by decide) (by decide) a1, RSrv_at hI1 hs ha a6, a7.x hS hH (by decide) (by decide) a1⟩
theorem Rep_mark {k : Nat} (hr : Rep w as S h) (hk : k < nA S) : Rep w as (pT S 467 k 1) (sI h 12 (as k) 1) :=
  Rep_done hr hk (SX_pT (by decide)) (fun j => by simp [mT_pT]) (HX_sI (by decide)) (fun b hb => by rw [hI_sI, if_neg (fun z => hb z.2)]) (by rw [hI_sI, if_pos ⟨rfl, rfl⟩]) (RSrv.hp (by rw [aJ_sI]) (RSrv.s (fun j => rfl) hr.2.2.2.2.2.1))
/-- what putRecF makes of the records hangs on the records alone -/
theorem put_congr {S1 S2 : Ms} (o num st : Int32) (v : Int64) (own : Int32) (e6 : mI S1 476 = mI S2 476) (e7 : mT S1 477 = mT S2 477) (e8 : mT S1 478 = mT S2 478) (e9 : mT S1 479 = mT S2 479) (e0 : mJ S1 480 = mJ S2 480) (e1 : mT S1 481 = mT S2 481) : mI (putRecF S1 o num st v own) 476 = mI (putRecF S2 o num st v own) 476 ∧ mT (putRecF S1 o num st v own) 477 = mT (putRecF S2 o num st v own) 477 ∧ mT (putRecF S1 o num st v own) 478 = mT (putRecF S2 o num st v own) 478 ∧ mT (putRecF S1 o num st v own) 479 = mT (putRecF S2 o num st v own) 479 ∧ mJ (putRecF S1 o num st v own) 480 = mJ (putRecF S2 o num st v own) 480 ∧ mT (putRecF S1 o num st v own) 481 = mT (putRecF S2 o num st v own) 481 := by
  have ef : fnd S1 o num = fnd S2 o num := fnd_congr (fun f hf => by
    simp only [List.mem_cons, List.not_mem_nil, or_false] at hf
    rcases hf with rfl | rfl
    · exact e7
    · exact e8) e6 o num
  have en : nR S1 = nR S2 := by unfold nR; rw [e6]
  unfold putRecF
  rw [ef, en]
  cases fnd S2 o num with
  | some k =>
    refine ⟨e6, ?_, ?_, ?_, ?_, ?_⟩ <;> funext j <;> simp [putAt, mT_pT, mT_pJ, mJ_pT, mJ_pJ, e7, e8, e9, e0, e1]
  | none =>
    refine ⟨?_, ?_, ?_, ?_, ?_, ?_⟩
    · rw [putAt_I, putAt_I, mI_pI, mI_pI, if_pos rfl, if_pos rfl, e6]
    all_goals funext j
    all_goals simp [putAt, mT_pT, mT_pJ, mJ_pT, mJ_pJ, mT_pI, mJ_pI, e7, e8, e9, e0, e1]
/-- the reference's FAR up to its sending -/
def farG (S : Ms) (sv o ask : Int32) : Ms :=
  putRecF (pT (newAskF S (6 + sv) (mT S 461 (tn ask)) 1 (mT S 460 (tn ask)) 0 0 (mT S 462 (tn ask)) ask) 466 (tn ask) (mI S 453)) o (mT (pT (newAskF S (6 + sv) (mT S 461 (tn ask)) 1 (mT S 460 (tn ask)) 0 0 (mT S 462 (tn ask)) ask) 466 (tn ask) (mI S 453)) 456 (tn ask)) 2 0 (mI S 453)
end FA
