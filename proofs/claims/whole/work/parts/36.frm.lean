/-! what a step may change, field by field -/
def HX (L : List Nat) (h h' : Hp) : Prop := (∀ a, hK h a ≠ 0 → hK h' a = hK h a ∧ hN h' a = hN h a) ∧ (∀ f a, f ∉ L → hK h a ≠ 0 → hI h' f a = hI h f a ∧ hJ h' f a = hJ h f a ∧ hR h' f a = hR h f a) ∧ ∀ t a j, 270 + t ∉ L → hK h a ≠ 0 → aI h' t a j = aI h t a j ∧ aJ h' t a j = aJ h t a j ∧ aR h' t a j = aR h t a j
theorem HX.rf {L : List Nat} {h : Hp} : HX L h h := ⟨fun _ _ => ⟨rfl, rfl⟩, fun _ _ _ _ => ⟨rfl, rfl, rfl⟩, fun _ _ _ _ _ => ⟨rfl, rfl, rfl⟩⟩
theorem HX.tr {L : List Nat} {h h1 h2 : Hp} (a : HX L h h1) (b : HX L h1 h2) : HX L h h2 := by
  have n0 : ∀ q, hK h q ≠ 0 → hK h1 q ≠ 0 := fun q z => by rw [(a.1 q z).1]; exact z
  refine ⟨fun q z => ⟨(b.1 q (n0 q z)).1.trans (a.1 q z).1, (b.1 q (n0 q z)).2.trans (a.1 q z).2⟩, fun f q hf z => ?_, fun t q j ht z => ?_⟩
  · obtain ⟨a1, a2, a3⟩ := a.2.1 f q hf z
    obtain ⟨b1, b2, b3⟩ := b.2.1 f q hf (n0 q z)
    exact ⟨b1.trans a1, b2.trans a2, b3.trans a3⟩
  · obtain ⟨a1, a2, a3⟩ := a.2.2 t q j ht z
    obtain ⟨b1, b2, b3⟩ := b.2.2 t q j ht (n0 q z)
    exact ⟨b1.trans a1, b2.trans a2, b3.trans a3⟩
theorem HX.sub {L M : List Nat} {h h' : Hp} (hs : ∀ f ∈ L, f ∈ M) (a : HX L h h') : HX M h h' := ⟨a.1, fun f q hf z => a.2.1 f q (fun e => hf (hs _ e)) z, fun t q j ht z => a.2.2 t q j (fun e => ht (hs _ e)) z⟩
theorem HX_sI {L : List Nat} {h : Hp} {f a : Nat} {v : Int32} (hf : f ∈ L) : HX L h (sI h f a v) := ⟨fun _ _ => ⟨by rw [hK_sI], by rw [hN_sI]⟩, fun g b hg _ => ⟨by rw [hI_sI, if_neg (fun z => by exact hg (by rw [z.1]; exact hf))], by rw [hJ_sI], by rw [hR_sI]⟩, fun t b j _ _ => ⟨by rw [aI_sI], by rw [aJ_sI], by rw [aR_sI]⟩⟩
theorem HX_sJ {L : List Nat} {h : Hp} {f a : Nat} {v : Int64} (hf : f ∈ L) : HX L h (sJ h f a v) := ⟨fun _ _ => ⟨by rw [hK_sJ], by rw [hN_sJ]⟩, fun g b hg _ => ⟨by rw [hI_sJ], by rw [hJ_sJ, if_neg (fun z => by exact hg (by rw [z.1]; exact hf))], by rw [hR_sJ]⟩, fun t b j _ _ => ⟨by rw [aI_sJ], by rw [aJ_sJ], by rw [aR_sJ]⟩⟩
theorem HX_sR {L : List Nat} {h : Hp} {f a : Nat} {v : Option Nat} (hf : f ∈ L) : HX L h (sR h f a v) := ⟨fun _ _ => ⟨by rw [hK_sR], by rw [hN_sR]⟩, fun g b hg _ => ⟨by rw [hI_sR], by rw [hJ_sR], by rw [hR_sR, if_neg (fun z => by exact hg (by rw [z.1]; exact hf))]⟩, fun t b j _ _ => ⟨by rw [aI_sR], by rw [aJ_sR], by rw [aR_sR]⟩⟩
theorem HX_tI {L : List Nat} {h : Hp} {t a i : Nat} {v : Int32} (ht : 270 + t ∈ L) : HX L h (tI h t a i v) := ⟨fun _ _ => ⟨by rw [hK_tI], by rw [hN_tI]⟩, fun g b hg _ => ⟨by rw [hI_tI], by rw [hJ_tI], by rw [hR_tI]⟩, fun u b j hu _ => ⟨by rw [aI_tI, if_neg (fun z => by exact hu (by rw [z.1]; exact ht))], by rw [aJ_tI], by rw [aR_tI]⟩⟩
theorem HX_tJ {L : List Nat} {h : Hp} {t a i : Nat} {v : Int64} (ht : 270 + t ∈ L) : HX L h (tJ h t a i v) := ⟨fun _ _ => ⟨by rw [hK_tJ], by rw [hN_tJ]⟩, fun g b hg _ => ⟨by rw [hI_tJ], by rw [hJ_tJ], by rw [hR_tJ]⟩, fun u b j hu _ => ⟨by rw [aI_tJ], by rw [aJ_tJ, if_neg (fun z => by exact hu (by rw [z.1]; exact ht))], by rw [aR_tJ]⟩⟩
theorem HX_tR {L : List Nat} {h : Hp} {t a i : Nat} {v : Option Nat} (ht : 270 + t ∈ L) : HX L h (tR h t a i v) := ⟨fun _ _ => ⟨by rw [hK_tR], by rw [hN_tR]⟩, fun g b hg _ => ⟨by rw [hI_tR], by rw [hJ_tR], by rw [hR_tR]⟩, fun u b j hu _ => ⟨by rw [aI_tR], by rw [aJ_tR], by rw [aR_tR, if_neg (fun z => by exact hu (by rw [z.1]; exact ht))]⟩⟩
theorem FrT.x {w : om_w} {h h' : Hp} (hF : FrT w h h') : HX [256, 259, 323] h h' := by
  obtain ⟨p1, p2, p3, p4, p5, p6, p7, p8⟩ := hF
  exact ⟨fun _ _ => ⟨by rw [p1], by rw [p2]⟩, fun f a hf _ => ⟨p8 f a (fun z => hf (by simp only [List.mem_cons, List.not_mem_nil, or_false]; omega)), by rw [p3], by rw [p4]⟩, fun t a j ht _ => ⟨by rw [p5], by rw [p6], by rw [p7 t a (fun z => ht (by simp only [List.mem_cons, List.not_mem_nil, or_false]; omega))]⟩⟩
theorem FrM.x {h h' : Hp} {a st an : Nat} (hF : FrM h h' a st an) : HX [193, 194, 195, 350, 359] h h' := by
  obtain ⟨p1, p2, p3, p4, p5, p6, p7, p8⟩ := hF
  exact ⟨fun _ _ => ⟨by rw [p1], by rw [p2]⟩, fun f b hf _ => ⟨p6 f b (fun z => hf (by simp only [List.mem_cons, List.not_mem_nil, or_false]; omega)), by rw [p3], by rw [p4]⟩, fun t b j ht _ => ⟨by rw [p7 t b (fun z => ht (by simp only [List.mem_cons, List.not_mem_nil, or_false]; omega))], by rw [p8 t b (fun z => ht (by simp only [List.mem_cons, List.not_mem_nil, or_false]; omega))], by rw [p5]⟩⟩
theorem FrE.x {h h' : Hp} {e : Nat} (hF : FrE h h' e) : HX [10, 66, 67, 68] h h' := by
  obtain ⟨p1, p2, p3, p4, p5, p6, p7, p8⟩ := hF
  exact ⟨fun _ _ => ⟨by rw [p1], by rw [p2]⟩, fun f b hf _ => ⟨p8 f b (fun z => hf (by simp only [List.mem_cons, List.not_mem_nil, or_false]; omega)) (fun z => hf (by simp only [List.mem_cons, List.not_mem_nil, or_false]; omega)), by rw [p3], by rw [p4]⟩, fun t b j ht _ => ⟨by rw [p5], by rw [p6], by rw [p7]⟩⟩
theorem HX.c {L : List Nat} {h h' : Hp} (hL : ∀ f ∈ L, f < 448) (a : HX L h h') : FrC h h' := by
  obtain ⟨a1, a2, a3⟩ := a
  refine ⟨a1, fun f q hf z => ?_, fun t q j ht z => ?_⟩
  · obtain ⟨k1, k2, k3⟩ := a2 f q (fun e => by have := hL _ e; omega) z
    exact ⟨k1, k3⟩
  · obtain ⟨k1, k2, k3⟩ := a3 t q j (fun e => by have := hL _ e; omega) z
    exact ⟨k1, k2⟩
def SX (L : List Nat) (S S' : Ms) : Prop := ∀ f, f ∉ L → mI S' f = mI S f ∧ mT S' f = mT S f ∧ mJ S' f = mJ S f
theorem SX.rf {L : List Nat} {S : Ms} : SX L S S := fun _ _ => ⟨rfl, rfl, rfl⟩
theorem SX.tr {L : List Nat} {S S1 S2 : Ms} (a : SX L S S1) (b : SX L S1 S2) : SX L S S2 := fun f hf => ⟨(b f hf).1.trans (a f hf).1, (b f hf).2.1.trans (a f hf).2.1, (b f hf).2.2.trans (a f hf).2.2⟩
theorem SX.sub {L M : List Nat} {S S' : Ms} (hs : ∀ f ∈ L, f ∈ M) (a : SX L S S') : SX M S S' := fun f hf => a f (fun e => hf (hs f e))
theorem SX_pI {L : List Nat} {S : Ms} {f : Nat} {v : Int32} (hf : f ∈ L) : SX L S (pI S f v) := fun _ hg => ⟨mI_pI_ne S v (fun z => hg (z ▸ hf)), rfl, rfl⟩
theorem SX_pT {L : List Nat} {S : Ms} {f j : Nat} {v : Int32} (hf : f ∈ L) : SX L S (pT S f j v) := fun _ hg => ⟨rfl, mT_pT_ne S j v (fun z => hg (z ▸ hf)), rfl⟩
theorem SX_pJ {L : List Nat} {S : Ms} {f j : Nat} {v : Int64} (hf : f ∈ L) : SX L S (pJ S f j v) := fun _ hg => ⟨rfl, rfl, mJ_pJ_ne S j v (fun z => hg (z ▸ hf))⟩
theorem SX_send {S : Ms} (ask : Int32) (ans : Bool) (v : Int64) : SX [468, 469, 470, 471, 472, 473, 483, 486] S (sendF S ask ans v) := fun f hf => by
  simp only [List.mem_cons, List.not_mem_nil, or_false, not_or] at hf
  exact ⟨send_I ask ans v (by simp only [List.mem_cons, List.not_mem_nil, or_false, not_or]; omega), funext fun i => by rw [send_T ask ans v (by simp only [List.mem_cons, List.not_mem_nil, or_false, not_or]; omega)], by rw [send_J ask ans v (by omega)]⟩
theorem SX_put {S : Ms} (o num st : Int32) (v : Int64) (own : Int32) : SX [476, 477, 478, 479, 480, 481] S (putRecF S o num st v own) := fun f hf => by
  simp only [List.mem_cons, List.not_mem_nil, or_false, not_or] at hf
  exact ⟨put_I o num st v own (by omega), by rw [put_T o num st v own (by simp only [List.mem_cons, List.not_mem_nil, or_false, not_or]; omega)], by rw [put_J o num st v own (by omega)]⟩
theorem SX_forget {S : Ms} (o b : Int32) : SX [476, 477, 478, 479, 480, 481] S (forgetF S o b) := fun f hf => by
  simp only [List.mem_cons, List.not_mem_nil, or_false, not_or] at hf
  exact ⟨forget_I o b (by omega), by rw [forget_T o b (by simp only [List.mem_cons, List.not_mem_nil, or_false, not_or]; omega)], by rw [forget_J o b (by omega)]⟩
/-- the parts of Rep, each kept by what it doesn't read -/
abbrev dj (A L : List Nat) : Prop := ∀ f ∈ A, f ∉ L
theorem hI_ne {h : Hp} {f a b : Nat} {v : Int32} (g : Nat) (hg : g ≠ f) : hI (sI h f a v) g b = hI h g b := by rw [hI_sI, if_neg (fun z => hg z.1)]
theorem dj.at {A L : List Nat} (a : dj A L) {f : Nat} (hf : f ∈ A := by decide) : f ∉ L := a f hf
section RX
variable {w : om_w} {as : Nat → Nat} {S S' : Ms} {h h' : Hp} {L M : List Nat}
theorem CS.x (hH : HX M h h') (d : dj [64, 192, 384, 69, 196, 197, 260, 320, 321, 385, 386, 387, 388, 298, 309, 348] M) (hC : CS w h) : CS w h' := by
  have d' : ∀ f, f ∈ [64, 192, 384, 69, 196, 197, 260, 320, 321, 385, 386, 387, 388, 298, 309, 348] → f ∉ M := d
  exact hC.fr hH.1 (fun f a hf z => (hH.2.1 f a (d' f (by simp only [List.mem_cons, List.not_mem_nil, or_false]; omega)) z).1) (fun f a hf z => (hH.2.1 f a (d' f (by simp only [List.mem_cons, List.not_mem_nil, or_false]; omega)) z).2.2) (fun t a j ht z => (hH.2.2 t a j (d' (270 + t) (by simp only [List.mem_cons, List.not_mem_nil, or_false]; omega)) z).2.2)
theorem RTop.x (hS : SX L S S') (hH : HX M h h') (dL : dj [448, 453, 484, 468, 482, 483] L) (dM : dj [384, 389, 390, 256, 257, 258] M) (hC : CS w h) (r : RTop w S h) : RTop w S' h' := by
  have k0 : hK h (w 0 0) ≠ 0 := by rw [hC.1.1]; decide
  have k4 : hK h (w 4 0) ≠ 0 := by rw [hC.2.1.2.2.2.1.1]; decide
  unfold RTop
  rw [(hH.2.1 384 _ dM.at k0).1, (hH.2.1 389 _ dM.at k0).1, (hH.2.1 390 _ dM.at k0).1, (hH.2.1 256 _ dM.at k4).1, (hH.2.1 257 _ dM.at k4).1, (hH.2.1 258 _ dM.at k4).1, (hS 448 dL.at).1, (hS 453 dL.at).1, (hS 484 dL.at).1, (hS 468 dL.at).1, (hS 482 dL.at).1, (hS 483 dL.at).1]
  exact r
theorem REnd.x (hS : SX L S S') (hH : HX M h h') (dL : dj [449, 450, 451, 453, 454, 456, 463] L) (dM : dj [65, 66, 67, 68, 329] M) (hC : CS w h) (r : REnd w as S h) : REnd w as S' h' := by
  intro n hn
  obtain ⟨-, q2, -, -, q5, -⟩ := hC.2.2.1 n hn
  have k0 : hK h (w 6 n) ≠ 0 := by rw [q2]; decide
  have k4 : hK h (w 7 n) ≠ 0 := by rw [q5]; decide
  have r1 := r n hn
  unfold nA at r1 ⊢
  rw [(hH.2.1 65 _ dM.at k0).1, (hH.2.1 66 _ dM.at k0).1, (hH.2.1 67 _ dM.at k0).1, (hH.2.1 68 _ dM.at k0).1, (hS 449 dL.at).2.1, (hS 450 dL.at).2.1, (hS 451 dL.at).2.1, (hS 453 dL.at).1, (hS 454 dL.at).2.1, (hS 456 dL.at).2.1, (hS 463 dL.at).2.1, show aR h' 59 (w 7 n) = aR h 59 (w 7 n) from funext fun j => (hH.2.2 59 _ j dM.at k4).2.2]
  exact r1
theorem AskOK.x {k : Nat} (hS : SX L S S') (hH : HX M h h') (dL : dj [454, 455, 456, 457, 458, 459, 460, 461, 462, 463, 464, 465, 466, 467] L) (dM : dj [0, 1, 2, 3, 4, 5, 6, 7, 8, 9, 10, 11, 12, 13, 14] M) (r : AskOK as S h k) : AskOK as S' h' k := by
  have k0 : hK h (as k) ≠ 0 := by rw [r.1]; decide
  unfold AskOK at r ⊢
  rw [(hH.1 _ k0).1, (hH.2.1 0 _ dM.at k0).1, (hH.2.1 1 _ dM.at k0).1, (hH.2.1 2 _ dM.at k0).1, (hH.2.1 3 _ dM.at k0).1, (hH.2.1 4 _ dM.at k0).1, (hH.2.1 5 _ dM.at k0).1, (hH.2.1 6 _ dM.at k0).1, (hH.2.1 7 _ dM.at k0).1, (hH.2.1 8 _ dM.at k0).1, (hH.2.1 9 _ dM.at k0).1, (hH.2.1 10 _ dM.at k0).1, (hH.2.1 11 _ dM.at k0).2.1, (hH.2.1 12 _ dM.at k0).1, (hH.2.1 13 _ dM.at k0).2.2, (hH.2.1 14 _ dM.at k0).2.2]
  rw [(hS 454 dL.at).2.1, (hS 455 dL.at).2.1, (hS 456 dL.at).2.1, (hS 457 dL.at).2.1, (hS 458 dL.at).2.1, (hS 459 dL.at).2.1, (hS 460 dL.at).2.1, (hS 461 dL.at).2.1, (hS 462 dL.at).2.1, (hS 463 dL.at).2.1, (hS 464 dL.at).2.2, (hS 465 dL.at).2.1, (hS 466 dL.at).2.1, (hS 467 dL.at).2.1]
  exact r
theorem RAsk.x (hS : SX L S S') (hH : HX M h h') (dL : dj [453, 454, 455, 456, 457, 458, 459, 460, 461, 462, 463, 464, 465, 466, 467] L) (dM : dj [0, 1, 2, 3, 4, 5, 6, 7, 8, 9, 10, 11, 12, 13, 14, 313] M) (hC : CS w h) (r : RAsk w as S h) : RAsk w as S' h' := by
  have k3 : hK h (w 3 0) ≠ 0 := by rw [hC.2.1.2.2.1.1]; decide
  have eA : nA S' = nA S := by unfold nA; rw [(hS 453 dL.at).1]
  obtain ⟨r1, r2, r3, r4⟩ := r
  refine ⟨fun k hk => ?_, fun k hk hk2 => ?_, fun k hk => ?_, fun k j hk hj => r4 k j (eA ▸ hk) (eA ▸ hj)⟩
  · rw [(hH.2.2 43 _ k dM.at k3).2.2]; exact r1 k (eA ▸ hk)
  · rw [(hH.2.2 43 _ k dM.at k3).2.2]; exact r2 k (eA ▸ hk) hk2
  · exact (r3 k (eA ▸ hk)).x hS hH (fun f hf => dL f (List.mem_cons_of_mem _ hf)) (fun f hf => dM f (by simp only [List.mem_cons, List.not_mem_nil, or_false] at hf ⊢; omega))
theorem LetOK.x {i a : Nat} (hS : SX L S S') (hH : HX M h h') (dL : dj [469, 470, 471, 472, 473] L) (dM : dj [128, 129, 130, 131, 132, 133] M) (hk : hK h a = 3) (r : LetOK as S h i a) : LetOK as S' h' i a := by
  have k0 : hK h a ≠ 0 := by rw [hk]; decide
  unfold LetOK at r ⊢
  rw [(hH.2.1 128 _ dM.at k0).2.2, (hH.2.1 129 _ dM.at k0).1, (hH.2.1 130 _ dM.at k0).1, (hH.2.1 131 _ dM.at k0).1, (hH.2.1 132 _ dM.at k0).1, (hH.2.1 133 _ dM.at k0).2.1, (hS 469 dL.at).2.1, (hS 470 dL.at).2.1, (hS 471 dL.at).2.1, (hS 472 dL.at).2.2, (hS 473 dL.at).2.1]
  exact r
theorem RLet.x (hS : SX L S S') (hH : HX M h h') (dL : dj [468, 469, 470, 471, 472, 473] L) (dM : dj [128, 129, 130, 131, 132, 133, 259, 323] M) (hC : CS w h) (r : RLet w as S h) : RLet w as S' h' := by
  have k4 : hK h (w 4 0) ≠ 0 := by rw [hC.2.1.2.2.2.1.1]; decide
  have k5 : hK h (w 5 0) ≠ 0 := by rw [hC.2.1.2.2.2.2.1]; decide
  have eL : nL S' = nL S := by unfold nL; rw [(hS 468 dL.at).1]
  obtain ⟨f, lt, r1, r2, r3, r4, r5⟩ := r
  refine ⟨f, lt, by rw [(hH.2.1 259 _ dM.at k4).1]; exact r1, r2, fun s hs => ?_, r4, fun i hi => ?_⟩
  · obtain ⟨u1, u2⟩ := r3 s hs
    exact ⟨by rw [(hH.2.2 53 _ s dM.at k5).2.2]; exact u1, by rw [(hH.1 _ (by rw [u2]; decide)).1]; exact u2⟩
  · exact (r5 i (eL ▸ hi)).x hS hH (fun f hf => dL f (List.mem_cons_of_mem _ hf)) (fun f hf => dM f (by simp only [List.mem_cons, List.not_mem_nil, or_false] at hf ⊢; omega)) (r3 _ (Nat.mod_lt _ (by decide))).2
theorem RSrv.x (hS : SX L S S') (hH : HX M h h') (dL : dj [452] L) (dM : dj [335] M) (hC : CS w h) (r : RSrv w S h) : RSrv w S' h' := by
  intro s a hs ha
  obtain ⟨-, -, -, q4, -⟩ := hC.2.2.2.1 s hs
  rw [(hH.2.2 65 _ a dM.at (by rw [q4]; decide)).2.1, (hS 452 dL.at).2.2]
  exact r s a hs ha
theorem MR.x {a st an wn lo : Nat} {life : Int32} {f : Nat → Int32} {g : Nat → Int64} (hH : HX M h h') (dM : dj [192, 193, 194, 195, 350, 359] M) (k1 : hK h a = 4) (k2 : hK h st = 80) (k3 : hK h an = 89) (r : MR h a st an wn lo life f g) : MR h' a st an wn lo life f g := by
  have k1' : hK h a ≠ 0 := by rw [k1]; decide
  have k2' : hK h st ≠ 0 := by rw [k2]; decide
  have k3' : hK h an ≠ 0 := by rw [k3]; decide
  unfold MR at r ⊢
  rw [(hH.2.1 192 _ dM.at k1').1, (hH.2.1 193 _ dM.at k1').1, (hH.2.1 194 _ dM.at k1').1, (hH.2.1 195 _ dM.at k1').1, show aI h' 80 st = aI h 80 st from funext fun j => (hH.2.2 80 _ j dM.at k2').1, show aJ h' 89 an = aJ h 89 an from funext fun j => (hH.2.2 89 _ j dM.at k3').2.1]
  exact r
theorem stF_x (hS : SX L S S') (dL : dj [476, 477, 478, 479] L) (i : Nat) : stF S' i = stF S i := by
  funext n
  unfold stF
  rw [fnd_congr (S := S) (S' := S') (fun g hg => (hS g (dL g (by simp only [List.mem_cons, List.not_mem_nil, or_false] at hg ⊢; omega))).2.1) (hS 476 dL.at).1, (hS 479 dL.at).2.1]
theorem anF_x (hS : SX L S S') (dL : dj [476, 477, 478, 479, 480] L) (i : Nat) : anF S' i = anF S i := by
  funext n
  unfold anF
  rw [fnd_congr (S := S) (S' := S') (fun g hg => (hS g (dL g (by simp only [List.mem_cons, List.not_mem_nil, or_false] at hg ⊢; omega))).2.1) (hS 476 dL.at).1, (hS 479 dL.at).2.1, (hS 480 dL.at).2.2]
theorem RMem.x (hS : SX L S S') (hH : HX M h h') (dL : dj [448, 474, 475, 476, 477, 478, 479, 480] L) (dM : dj [192, 193, 194, 195, 350, 359] M) (hC : CS w h) (r : RMem w S h) : RMem w S' h' := by
  intro i hi
  obtain ⟨q1, -, -, q4, -, -, q7, -⟩ := hC.2.2.2.2.2 i hi
  have r1 := (r i hi).x hH dM q1 q4 q7
  rw [(hS 448 dL.at).1, (hS 474 dL.at).2.1, (hS 475 dL.at).2.1, stF_x hS (fun f hf => dL f (by simp only [List.mem_cons, List.not_mem_nil, or_false] at hf ⊢; omega)), anF_x hS (fun f hf => dL f (by simp only [List.mem_cons, List.not_mem_nil, or_false] at hf ⊢; omega))]
  exact r1
theorem Rep_memw {as' : Nat → Nat} (e : ∀ k, k < nA S → as' k = as k) (hl : ∀ i, i < nL S → tn (mT S 469 i) < nA S) (r : RLet w as S h) : RLet w as' S h := by
  obtain ⟨f, lt, r1, r2, r3, r4, r5⟩ := r
  refine ⟨f, lt, r1, r2, r3, r4, fun i hi => ?_⟩
  have := r5 i hi
  unfold LetOK at this ⊢
  rw [e _ (hl i hi)]
  exact this
end RX
