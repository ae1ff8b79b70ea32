/-! what the spec state keeps -/
def opn (S : Ms) (k : Nat) : Prop := mT S 463 k = 0
def rw_ (S : Ms) (k : Nat) : Nat := 10 * tn (mT S 457 k) + tn (mT S 454 k)
def AskW (g : Nat) (S : Ms) (k : Nat) : Prop :=
  (inN (mT S 455 k) (g + 2) = true ∧ 1 ≤ tn (mT S 455 k) ∧ inN (mT S 456 k) 400 = true ∧ 1 ≤ tn (mT S 456 k)) ∧
  ((mT S 463 k = 0 ∨ mT S 463 k = 1 ∨ mT S 463 k = 2) ∧ (mT S 467 k = 0 ∨ mT S 467 k = 1) ∧ inN (mT S 458 k) 5 = true) ∧
  (-1000000 ≤ (mT S 462 k).toInt ∧ (mT S 462 k).toInt ≤ 1000000 ∧ (mT S 458 k = 2 ∨ mT S 458 k = 3 → 0 ≤ (mT S 462 k).toInt) ∧ (mT S 458 k = 4 → 1 ≤ (mT S 462 k).toInt)) ∧
  (tn (mT S 455 k) ≤ tn (mT S 450 (tn (mT S 454 k))) ∧ (mT S 455 k = mT S 450 (tn (mT S 454 k)) → tn (mT S 456 k) < tn (mT S 451 (tn (mT S 454 k)))) ∧ (opn S k → mT S 455 k = mT S 450 (tn (mT S 454 k)))) ∧
  ((tn (mT S 454 k) < 6 → mT S 465 k = -1) ∧ (6 ≤ tn (mT S 454 k) → mT S 458 k = 1 ∧ inN (mT S 465 k) (nA S) = true ∧ mT S 466 (tn (mT S 465 k)) = nI k ∧ mT S 458 (tn (mT S 465 k)) = 3 ∧ mT S 467 (tn (mT S 465 k)) = 1 ∧ tn (mT S 454 k) = 6 + tn (mT S 457 (tn (mT S 465 k))) ∧ mT S 462 k = mT S 462 (tn (mT S 465 k)) ∧ 0 ≤ (mT S 462 k).toInt ∧ tn (mT S 454 (tn (mT S 465 k))) < 6)) ∧
  ((mT S 466 k ≠ -1 → inN (mT S 466 k) (nA S) = true ∧ mT S 465 (tn (mT S 466 k)) = nI k ∧ 6 ≤ tn (mT S 454 (tn (mT S 466 k)))) ∧ (mT S 458 k = 3 → mT S 467 k ≠ 0 → mT S 466 k ≠ -1) ∧ (mT S 458 k ≠ 3 → mT S 466 k = -1) ∧
    (mT S 466 k ≠ -1 → tn (mT S 455 k) < tn (mT S 474 (rw_ S k)) ∨ (mT S 455 k = mT S 474 (rw_ S k) ∧ (tn (mT S 456 k) < tn (mT S 475 (rw_ S k)) ∨ fnd S (nI (rw_ S k)) (mT S 456 k) ≠ none))))
def LetW (S : Ms) (i : Nat) : Prop :=
  (mT S 470 i = 0 → inN (mT S 471 i) 400 = true ∧ 1 ≤ tn (mT S 471 i) ∧ tn (mT S 456 (tn (mT S 469 i))) < tn (mT S 471 i) + tn (mI S 448)) ∧
  (mT S 470 i ≠ 0 → mT S 471 i = -1 ∧ (mJ S 472 i = -3 → tn (mT S 454 (tn (mT S 469 i))) < 6))
def RecW (S : Ms) (r : Nat) : Prop :=
  (inN (mT S 477 r) 40 = true ∧ inN (mT S 478 r) 420 = true ∧ tn (mT S 475 (tn (mT S 477 r))) ≤ tn (mT S 478 r) ∧ tn (mT S 478 r) < tn (mT S 475 (tn (mT S 477 r))) + tn (mI S 448)) ∧
  (mT S 479 r = 1 ∨ mT S 479 r = 2 ∨ mT S 479 r = 3) ∧ (mT S 479 r = 1 → mJ S 480 r ≠ -3) ∧
  (mT S 479 r = 2 → inN (mT S 481 r) (nA S) = true ∧ 6 ≤ tn (mT S 454 (tn (mT S 481 r))) ∧ rw_ S (tn (mT S 465 (tn (mT S 481 r)))) = tn (mT S 477 r) ∧ mT S 455 (tn (mT S 465 (tn (mT S 481 r)))) = mT S 474 (tn (mT S 477 r)) ∧ mT S 456 (tn (mT S 465 (tn (mT S 481 r)))) = mT S 478 r)
def EndW (g : Nat) (S : Ms) (n : Nat) : Prop := (mT S 449 n = 0 ∨ mT S 449 n = 1) ∧ inN (mT S 450 n) (g + 2) = true ∧ 1 ≤ tn (mT S 450 n) ∧ (6 ≤ n → mT S 450 n = 1) ∧ inN (mT S 451 n) (nA S + 2) = true ∧ 1 ≤ tn (mT S 451 n)
def MemW (g : Nat) (S : Ms) (i : Nat) : Prop := inN (mT S 474 i) (g + 2) = true ∧ inN (mT S 475 i) 400 = true ∧ 1 ≤ tn (mT S 475 i) ∧ (6 ≤ i % 10 → tn (mT S 474 i) ≤ 1)
def WF2 (g : Nat) (S : Ms) : Prop :=
  WF1 S ∧ (g < 1000000 ∧ inN (mI S 448) 17 = true ∧ 1 ≤ tn (mI S 448)) ∧
  (∀ n, n < 10 → EndW g S n) ∧ (∀ k, k < nA S → AskW g S k) ∧
  (∀ k j, k < nA S → j < nA S → mT S 454 k = mT S 454 j → mT S 455 k = mT S 455 j → mT S 456 k = mT S 456 j → k = j) ∧
  (∀ k j, k < nA S → j < nA S → mT S 454 k = mT S 454 j → opn S k → opn S j → tn (mT S 456 k) < tn (mT S 456 j) + tn (mI S 448)) ∧
  (∀ i, i < nL S → LetW S i) ∧ (∀ i, i < 40 → MemW g S i) ∧ (∀ r, r < nR S → RecW S r) ∧
  (∀ r s, r < nR S → s < nR S → mT S 477 r = mT S 477 s → mT S 478 r = mT S 478 s → r = s) ∧
  (∀ a, a < 24 → 0 ≤ (mJ S 452 a).toInt ∧ (mJ S 452 a).toInt ≤ 1000000000000 + 1000000 * (g : Int))
/-- what the class leaves to the reference -/
def FrC (h h' : Hp) : Prop := (∀ a, hK h a ≠ 0 → hK h' a = hK h a ∧ hN h' a = hN h a) ∧ (∀ f a, 448 ≤ f → hK h a ≠ 0 → hI h' f a = hI h f a ∧ hR h' f a = hR h f a) ∧ ∀ t a j, 3000 ≤ t → hK h a ≠ 0 → aI h' t a j = aI h t a j ∧ aJ h' t a j = aJ h t a j
theorem FrC.rf {h : Hp} : FrC h h := ⟨fun _ _ => ⟨rfl, rfl⟩, fun _ _ _ _ => ⟨rfl, rfl⟩, fun _ _ _ _ _ => ⟨rfl, rfl⟩⟩
theorem FrC.tr {h h1 h2 : Hp} (a : FrC h h1) (b : FrC h1 h2) : FrC h h2 := by
  have n0 : ∀ q, hK h q ≠ 0 → hK h1 q ≠ 0 := fun q z => by rw [(a.1 q z).1]; exact z
  exact ⟨fun q z => ⟨(b.1 q (n0 q z)).1.trans (a.1 q z).1, (b.1 q (n0 q z)).2.trans (a.1 q z).2⟩, fun f q hf z => ⟨(b.2.1 f q hf (n0 q z)).1.trans (a.2.1 f q hf z).1, (b.2.1 f q hf (n0 q z)).2.trans (a.2.1 f q hf z).2⟩, fun t q j ht z => ⟨(b.2.2 t q j ht (n0 q z)).1.trans (a.2.2 t q j ht z).1, (b.2.2 t q j ht (n0 q z)).2.trans (a.2.2 t q j ht z).2⟩⟩
theorem FrC_sI {h : Hp} {f a : Nat} {v : Int32} (hf : f < 448) : FrC h (sI h f a v) := ⟨fun _ _ => ⟨by rw [hK_sI], by rw [hN_sI]⟩, fun g b hg _ => ⟨by rw [hI_sI, if_neg (fun z => by omega)], by rw [hR_sI]⟩, fun t b j _ _ => ⟨by rw [aI_sI], by rw [aJ_sI]⟩⟩
theorem FrC_sJ {h : Hp} {f a : Nat} {v : Int64} : FrC h (sJ h f a v) := ⟨fun _ _ => ⟨by rw [hK_sJ], by rw [hN_sJ]⟩, fun g b hg _ => ⟨by rw [hI_sJ], by rw [hR_sJ]⟩, fun t b j _ _ => ⟨by rw [aI_sJ], by rw [aJ_sJ]⟩⟩
theorem FrC_sR {h : Hp} {f a : Nat} {v : Option Nat} (hf : f < 448) : FrC h (sR h f a v) := ⟨fun _ _ => ⟨by rw [hK_sR], by rw [hN_sR]⟩, fun g b hg _ => ⟨by rw [hI_sR], by rw [hR_sR, if_neg (fun z => by omega)]⟩, fun t b j _ _ => ⟨by rw [aI_sR], by rw [aJ_sR]⟩⟩
theorem FrC_tI {h : Hp} {t a i : Nat} {v : Int32} (ht : t < 3000) : FrC h (tI h t a i v) := ⟨fun _ _ => ⟨by rw [hK_tI], by rw [hN_tI]⟩, fun g b hg _ => ⟨by rw [hI_tI], by rw [hR_tI]⟩, fun u b j hu _ => ⟨by rw [aI_tI, if_neg (fun z => by omega)], by rw [aJ_tI]⟩⟩
theorem FrC_tJ {h : Hp} {t a i : Nat} {v : Int64} (ht : t < 3000) : FrC h (tJ h t a i v) := ⟨fun _ _ => ⟨by rw [hK_tJ], by rw [hN_tJ]⟩, fun g b hg _ => ⟨by rw [hI_tJ], by rw [hR_tJ]⟩, fun u b j hu _ => ⟨by rw [aI_tJ], by rw [aJ_tJ, if_neg (fun z => by omega)]⟩⟩
theorem FrC_tR {h : Hp} {t a i : Nat} {v : Option Nat} : FrC h (tR h t a i v) := ⟨fun _ _ => ⟨by rw [hK_tR], by rw [hN_tR]⟩, fun g b hg _ => ⟨by rw [hI_tR], by rw [hR_tR]⟩, fun u b j hu _ => ⟨by rw [aI_tR], by rw [aJ_tR]⟩⟩
theorem FrM.c {h h' : Hp} {a st an : Nat} (hF : FrM h h' a st an) : FrC h h' := by
  obtain ⟨p1, p2, p3, p4, p5, p6, p7, p8⟩ := hF
  exact ⟨fun _ _ => ⟨by rw [p1], by rw [p2]⟩, fun f b hf _ => ⟨p6 f b (by omega), by rw [p4]⟩, fun t b j ht _ => ⟨by rw [p7 t b (by omega)], by rw [p8 t b (by omega)]⟩⟩
theorem FrT.c {w : om_w} {h h' : Hp} (hF : FrT w h h') : FrC h h' := by
  obtain ⟨p1, p2, p3, p4, p5, p6, p7, p8⟩ := hF
  exact ⟨fun _ _ => ⟨by rw [p1], by rw [p2]⟩, fun f b hf _ => ⟨p8 f b (by omega), by rw [p4]⟩, fun t b j ht _ => ⟨by rw [p5], by rw [p6]⟩⟩
theorem FrE.c {h h' : Hp} {e : Nat} (hF : FrE h h' e) : FrC h h' := by
  obtain ⟨p1, p2, p3, p4, p5, p6, p7, p8⟩ := hF
  exact ⟨fun _ _ => ⟨by rw [p1], by rw [p2]⟩, fun f b hf _ => ⟨p8 f b (by omega) (by omega), by rw [p4]⟩, fun t b j ht _ => ⟨by rw [p5], by rw [p6]⟩⟩
theorem RepM.fr {y : om_y} {S : Ms} {h h' : Hp} (hF : FrC h h') (hr : RepM y S h) : RepM y S h' := by
  obtain ⟨⟨m1, m2⟩, r1, r2, r3⟩ := hr
  have k0 : hK h y.1 ≠ 0 := by rw [m1]; decide
  have am : ∀ f, f ∈ mAs → 448 ≤ f := by decide
  refine ⟨⟨by rw [(hF.1 _ k0).1]; exact m1, fun f hf => ?_⟩, fun f hf => by rw [(hF.2.1 f _ hf k0).1]; exact r1 f hf, fun f j hf => ?_, fun f j hf => ?_⟩
  · obtain ⟨a1, a2, a3⟩ := m2 f hf
    have ka : hK h (y.2 f) ≠ 0 := by rw [a2]; unfold mr; omega
    exact ⟨by rw [(hF.2.1 f _ (am f hf) k0).2]; exact a1, by rw [(hF.1 _ ka).1]; exact a2, by rw [(hF.1 _ ka).2]; exact a3⟩
  · have a2 := (m2 f hf).2.1
    rw [(hF.2.2 _ _ j (mr_ge (by have := am f hf; omega)) (by rw [a2]; unfold mr; omega)).1]
    exact r2 f j hf
  · have a2 := (m2 f hf).2.1
    rw [(hF.2.2 _ _ j (mr_ge (by have := am f hf; omega)) (by rw [a2]; unfold mr; omega)).2]
    exact r3 f j hf
theorem CS.fr {w : om_w} {h h' : Hp} (hK1 : ∀ a, hK h a ≠ 0 → hK h' a = hK h a ∧ hN h' a = hN h a) (hI1 : ∀ f a, f = 64 ∨ f = 192 ∨ f = 384 → hK h a ≠ 0 → hI h' f a = hI h f a) (hR1 : ∀ f a, f = 69 ∨ f = 196 ∨ f = 197 ∨ f = 260 ∨ f = 320 ∨ f = 321 ∨ f = 385 ∨ f = 386 ∨ f = 387 ∨ f = 388 → hK h a ≠ 0 → hR h' f a = hR h f a) (hA : ∀ t a j, t = 28 ∨ t = 39 ∨ t = 78 → hK h a ≠ 0 → aR h' t a j = aR h t a j) (hC : CS w h) : CS w h' := by
  obtain ⟨⟨o1, o2, o3, o4, o5⟩, ⟨⟨a1, a2⟩, ⟨b1, b2⟩, ⟨c1, c2⟩, ⟨d1, d2⟩, ⟨e1, e2⟩⟩, f1, f2, f3, f4⟩ := hC
  have kk : ∀ {a t : Nat}, hK h a = t → t ≠ 0 → hK h' a = t := fun q z => by rw [(hK1 _ (by rw [q]; exact z)).1]; exact q
  have nn : ∀ {a t n : Nat}, hK h a = t → t ≠ 0 → hN h a = n → hN h' a = n := fun q z q2 => by rw [(hK1 _ (by rw [q]; exact z)).2]; exact q2
  have rr : ∀ {a t f : Nat} {v : Option Nat}, hK h a = t → t ≠ 0 → (f = 69 ∨ f = 196 ∨ f = 197 ∨ f = 260 ∨ f = 320 ∨ f = 321 ∨ f = 385 ∨ f = 386 ∨ f = 387 ∨ f = 388) → hR h f a = v → hR h' f a = v := fun q z hf q2 => by rw [hR1 _ _ hf (by rw [q]; exact z)]; exact q2
  refine ⟨⟨kk o1 (by decide), rr o1 (by decide) (by decide) o2, rr o1 (by decide) (by decide) o3, rr o1 (by decide) (by decide) o4, rr o1 (by decide) (by decide) o5⟩, ⟨⟨kk a1 (by decide), nn a1 (by decide) a2⟩, ⟨kk b1 (by decide), nn b1 (by decide) b2⟩, ⟨kk c1 (by decide), nn c1 (by decide) c2⟩, ⟨kk d1 (by decide), rr d1 (by decide) (by decide) d2⟩, ⟨kk e1 (by decide), nn e1 (by decide) e2⟩⟩, fun n hn => ?_, fun s hs => ?_, fun s n hs hn => ?_, fun i hi => ?_⟩
  · obtain ⟨q1, q2, q3, q4, q5, q6⟩ := f1 n hn
    exact ⟨by rw [hA 28 _ n (by decide) (by rw [a1]; decide)]; exact q1, kk q2 (by decide), by rw [hI1 64 _ (by decide) (by rw [q2]; decide)]; exact q3, rr q2 (by decide) (by decide) q4, kk q5 (by decide), nn q5 (by decide) q6⟩
  · obtain ⟨q1, q2, q3, q4, q5, q6, q7, q8⟩ := f2 s hs
    exact ⟨by rw [hA 39 _ s (by decide) (by rw [b1]; decide)]; exact q1, kk q2 (by decide), rr q2 (by decide) (by decide) q3, kk q4 (by decide), nn q4 (by decide) q5, rr q2 (by decide) (by decide) q6, kk q7 (by decide), nn q7 (by decide) q8⟩
  · obtain ⟨q1, q2, q3, q4, q5, q6, q7, q8⟩ := f2 s hs
    rw [hA 78 _ n (by decide) (by rw [q7]; decide)]
    exact f3 s n hs hn
  · obtain ⟨q1, q2, q3, q4, q5, q6, q7, q8⟩ := f4 i hi
    exact ⟨kk q1 (by decide), by rw [hI1 192 _ (by decide) (by rw [q1]; decide), hI1 384 _ (by decide) (by rw [o1]; decide)]; exact q2, rr q1 (by decide) (by decide) q3, kk q4 (by decide), nn q4 (by decide) q5, rr q1 (by decide) (by decide) q6, kk q7 (by decide), nn q7 (by decide) q8⟩
theorem CS_sI {w : om_w} {h : Hp} {f a : Nat} {v : Int32} (hf : f ≠ 64 ∧ f ≠ 192 ∧ f ≠ 384) (hC : CS w h) : CS w (sI h f a v) := hC.fr (fun _ _ => ⟨by rw [hK_sI], by rw [hN_sI]⟩) (fun g b hg _ => by rw [hI_sI, if_neg (fun z => by omega)]) (fun _ _ _ _ => by rw [hR_sI]) (fun _ _ _ _ _ => by rw [aR_sI])
theorem CS_sJ {w : om_w} {h : Hp} {f a : Nat} {v : Int64} (hC : CS w h) : CS w (sJ h f a v) := hC.fr (fun _ _ => ⟨by rw [hK_sJ], by rw [hN_sJ]⟩) (fun g b hg _ => by rw [hI_sJ]) (fun _ _ _ _ => by rw [hR_sJ]) (fun _ _ _ _ _ => by rw [aR_sJ])
theorem CS_sR {w : om_w} {h : Hp} {f a : Nat} {v : Option Nat} (hf : f = 13 ∨ f = 14 ∨ f = 128) (hC : CS w h) : CS w (sR h f a v) := hC.fr (fun _ _ => ⟨by rw [hK_sR], by rw [hN_sR]⟩) (fun g b hg _ => by rw [hI_sR]) (fun _ _ _ _ => by rw [hR_sR, if_neg (fun z => by omega)]) (fun _ _ _ _ _ => by rw [aR_sR])
theorem CS_tI {w : om_w} {h : Hp} {t a i : Nat} {v : Int32} (hC : CS w h) : CS w (tI h t a i v) := hC.fr (fun _ _ => ⟨by rw [hK_tI], by rw [hN_tI]⟩) (fun g b hg _ => by rw [hI_tI]) (fun _ _ _ _ => by rw [hR_tI]) (fun _ _ _ _ _ => by rw [aR_tI])
theorem CS_tJ {w : om_w} {h : Hp} {t a i : Nat} {v : Int64} (hC : CS w h) : CS w (tJ h t a i v) := hC.fr (fun _ _ => ⟨by rw [hK_tJ], by rw [hN_tJ]⟩) (fun g b hg _ => by rw [hI_tJ]) (fun _ _ _ _ => by rw [hR_tJ]) (fun _ _ _ _ _ => by rw [aR_tJ])
theorem CS_tR {w : om_w} {h : Hp} {t a i : Nat} {v : Option Nat} (ht : t = 43 ∨ t = 53 ∨ t = 59) (hC : CS w h) : CS w (tR h t a i v) := hC.fr (fun _ _ => ⟨by rw [hK_tR], by rw [hN_tR]⟩) (fun g b hg _ => by rw [hI_tR]) (fun _ _ _ _ => by rw [hR_tR]) (fun _ _ _ _ _ => by rw [aR_tR, if_neg (fun z => by omega)])
theorem CS_FrM {w : om_w} {h h' : Hp} {a st an : Nat} (hF : FrM h h' a st an) (hC : CS w h) : CS w h' := by
  obtain ⟨p1, p2, p3, p4, p5, p6, p7, p8⟩ := hF
  exact hC.fr (fun _ _ => ⟨by rw [p1], by rw [p2]⟩) (fun g b hg _ => p6 g b (by omega)) (fun _ _ _ _ => by rw [p4]) (fun _ _ _ _ _ => by rw [p5])
theorem CS_FrT {w : om_w} {h h' : Hp} (hF : FrT w h h') (hC : CS w h) : CS w h' := by
  obtain ⟨p1, p2, p3, p4, p5, p6, p7, p8⟩ := hF
  exact hC.fr (fun _ _ => ⟨by rw [p1], by rw [p2]⟩) (fun g b hg _ => p8 g b (by omega)) (fun _ _ _ _ => by rw [p4]) (fun t b j ht _ => by rw [p7 t b (by omega)])
theorem CS_FrE {w : om_w} {h h' : Hp} {e : Nat} (hF : FrE h h' e) (hC : CS w h) : CS w h' := by
  obtain ⟨p1, p2, p3, p4, p5, p6, p7, p8⟩ := hF
  exact hC.fr (fun _ _ => ⟨by rw [p1], by rw [p2]⟩) (fun g b hg _ => p8 g b (by omega) (by omega)) (fun _ _ _ _ => by rw [p4]) (fun t b j ht _ => by rw [p7])
