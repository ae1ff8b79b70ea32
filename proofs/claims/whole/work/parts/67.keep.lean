/-! WF2 kept, by the parts of a step -/
section KE
variable {S S' : Ms} {g : Nat} {L : List Nat}
theorem EndW_x {n : Nat} (hS : SX L S S') (d : dj [449, 450, 451, 453] L) (q : EndW g S n) : EndW g S' n := by
  have eA : nA S' = nA S := by unfold nA; rw [(hS 453 (d 453 (by decide))).1]
  unfold EndW at q ⊢
  rw [eA, (hS 449 (d 449 (by decide))).2.1, (hS 450 (d 450 (by decide))).2.1, (hS 451 (d 451 (by decide))).2.1]
  exact q
theorem AskW_x {k : Nat} (hS : SX L S S') (d : dj [450, 451, 453, 454, 455, 456, 457, 458, 462, 463, 465, 466, 467, 474, 475, 476, 477, 478] L) (q : AskW g S k) : AskW g S' k := by
  have eA : nA S' = nA S := by unfold nA; rw [(hS 453 (d 453 (by decide))).1]
  unfold AskW opn rw_ fnd nR at q ⊢
  rw [(hS 450 (d 450 (by decide))).2.1, (hS 451 (d 451 (by decide))).2.1, eA, (hS 454 (d 454 (by decide))).2.1, (hS 455 (d 455 (by decide))).2.1, (hS 456 (d 456 (by decide))).2.1, (hS 457 (d 457 (by decide))).2.1, (hS 458 (d 458 (by decide))).2.1, (hS 462 (d 462 (by decide))).2.1, (hS 463 (d 463 (by decide))).2.1, (hS 465 (d 465 (by decide))).2.1, (hS 466 (d 466 (by decide))).2.1, (hS 467 (d 467 (by decide))).2.1, (hS 474 (d 474 (by decide))).2.1, (hS 475 (d 475 (by decide))).2.1, (hS 476 (d 476 (by decide))).1, (hS 477 (d 477 (by decide))).2.1, (hS 478 (d 478 (by decide))).2.1]
  exact q
def UqW (S : Ms) : Prop := ∀ k j, k < nA S → j < nA S → mT S 454 k = mT S 454 j → mT S 455 k = mT S 455 j → mT S 456 k = mT S 456 j → k = j
def OpW (S : Ms) : Prop := ∀ k j, k < nA S → j < nA S → mT S 454 k = mT S 454 j → opn S k → opn S j → tn (mT S 456 k) < tn (mT S 456 j) + tn (mI S 448)
theorem UqW_x (hS : SX L S S') (d : dj [453, 454, 455, 456] L) (q : UqW S) : UqW S' := by
  have eA : nA S' = nA S := by unfold nA; rw [(hS 453 (d 453 (by decide))).1]
  unfold UqW at q ⊢
  rw [eA, (hS 454 (d 454 (by decide))).2.1, (hS 455 (d 455 (by decide))).2.1, (hS 456 (d 456 (by decide))).2.1]
  exact q
theorem OpW_x (hS : SX L S S') (d : dj [448, 453, 454, 456, 463] L) (q : OpW S) : OpW S' := by
  have eA : nA S' = nA S := by unfold nA; rw [(hS 453 (d 453 (by decide))).1]
  unfold OpW opn at q ⊢
  rw [eA, (hS 448 (d 448 (by decide))).1, (hS 454 (d 454 (by decide))).2.1, (hS 463 (d 463 (by decide))).2.1, (hS 456 (d 456 (by decide))).2.1]
  exact q
theorem LetW_x {i : Nat} (hS : SX L S S') (d : dj [448, 454, 456, 469, 470, 471, 472] L) (q : LetW S i) : LetW S' i := by
  unfold LetW at q ⊢
  rw [(hS 448 (d 448 (by decide))).1, (hS 454 (d 454 (by decide))).2.1, (hS 456 (d 456 (by decide))).2.1, (hS 469 (d 469 (by decide))).2.1, (hS 470 (d 470 (by decide))).2.1, (hS 471 (d 471 (by decide))).2.1, (hS 472 (d 472 (by decide))).2.2]
  exact q
theorem MemW_x {i : Nat} (hS : SX L S S') (d : dj [474, 475] L) (q : MemW g S i) : MemW g S' i := by
  unfold MemW at q ⊢
  rw [(hS 474 (d 474 (by decide))).2.1, (hS 475 (d 475 (by decide))).2.1]
  exact q
theorem RecE_y {e : om_rc} (hS : SX L S S') (d : dj [448, 453, 454, 455, 456, 457, 465, 474, 475] L) (q : RecE S e) : RecE S' e := by
  have eA : nA S' = nA S := by unfold nA; rw [(hS 453 (d 453 (by decide))).1]
  unfold RecE rw_ at q ⊢
  rw [eA, (hS 448 (d 448 (by decide))).1, (hS 454 (d 454 (by decide))).2.1, (hS 455 (d 455 (by decide))).2.1, (hS 456 (d 456 (by decide))).2.1, (hS 457 (d 457 (by decide))).2.1, (hS 465 (d 465 (by decide))).2.1, (hS 474 (d 474 (by decide))).2.1, (hS 475 (d 475 (by decide))).2.1]
  exact q
theorem recs_x (hS : SX L S S') (d : dj [476, 477, 478, 479, 480, 481] L) : recs S' = recs S := by
  have eR : nR S' = nR S := by unfold nR; rw [(hS 476 (d 476 (by decide))).1]
  unfold recs rc
  rw [eR, (hS 477 (d 477 (by decide))).2.1, (hS 478 (d 478 (by decide))).2.1, (hS 479 (d 479 (by decide))).2.1, (hS 480 (d 480 (by decide))).2.2, (hS 481 (d 481 (by decide))).2.1]
theorem RecU_x (hS : SX L S S') (d : dj [476, 477, 478] L) (q : RecU S) : RecU S' := by
  have eR : nR S' = nR S := by unfold nR; rw [(hS 476 (d 476 (by decide))).1]
  unfold RecU at q ⊢
  rw [eR, (hS 477 (d 477 (by decide))).2.1, (hS 478 (d 478 (by decide))).2.1]
  exact q
theorem WF2_mono {g2 : Nat} (hW : WF2 g S) (h1 : g ≤ g2) (h2 : g2 < 1000000) : WF2 g2 S := by
  obtain ⟨a1, a2, a3, a4, a5, a6, a7, a8, a9, a10, a11⟩ := hW
  refine ⟨a1, ⟨h2, a2.2⟩, fun n hn => ?_, fun k hk => ?_, a5, a6, a7, fun i hi => ?_, a9, a10, fun a ha => ?_⟩
  · have q := a3 n hn
    exact ⟨q.1, inN_le q.2.1 (by omega), q.2.2⟩
  · have q := a4 k hk
    exact ⟨⟨inN_le q.1.1 (by omega), q.1.2⟩, q.2⟩
  · have q := a8 i hi
    exact ⟨inN_le q.1 (by omega), q.2⟩
  · have q := a11 a ha
    exact ⟨q.1, by omega⟩
theorem lowF_or (n : Int32) : ∀ k, lowF S n k = mT S 451 (tn n) ∨ ∃ j, j < k ∧ mT S 454 j = n ∧ mT S 455 j = mT S 450 (tn n) ∧ mT S 463 j = 0 ∧ lowF S n k = mT S 456 j
  | 0 => Or.inl rfl
  | k + 1 => by
    simp only [lowF]
    by_cases c : mT S 454 k = n ∧ mT S 455 k = mT S 450 (tn n) ∧ mT S 463 k = 0 ∧ mT S 456 k < lowF S n k
    · rw [if_pos c]
      exact Or.inr ⟨k, Nat.lt_succ_self _, c.1, c.2.1, c.2.2.1, rfl⟩
    · rw [if_neg c]
      rcases lowF_or n k with z | ⟨j, z1, z2⟩
      · exact Or.inl z
      · exact Or.inr ⟨j, by omega, z2⟩
theorem lowF_le (n : Int32) : ∀ k j, j < k → mT S 454 j = n → mT S 455 j = mT S 450 (tn n) → mT S 463 j = 0 → (lowF S n k).toInt ≤ (mT S 456 j).toInt
  | 0, j, hj, _, _, _ => absurd hj (Nat.not_lt_zero _)
  | k + 1, j, hj, h1, h2, h3 => by
    simp only [lowF]
    by_cases c : mT S 454 k = n ∧ mT S 455 k = mT S 450 (tn n) ∧ mT S 463 k = 0 ∧ mT S 456 k < lowF S n k
    · rw [if_pos c]
      by_cases e : j = k
      · rw [e]; exact Int.le_refl _
      · have := lowF_le n k j (by omega) h1 h2 h3
        have c2 := c.2.2.2
        rw [n_lt] at c2
        omega
    · rw [if_neg c]
      by_cases e : j = k
      · subst e
        have : ¬ mT S 456 j < lowF S n j := fun z => c ⟨h1, h2, h3, z⟩
        rw [n_lt] at this
        omega
      · exact lowF_le n k j (by omega) h1 h2 h3
theorem low_rng {n : Int32} (hW : WF2 g S) (hn : inN n 10 = true) : inN (lowS S n) 400 = true ∧ 1 ≤ tn (lowS S n) := by
  have hE := hW.2.2.1 _ (inN_tn hn).2.1
  have hA : nA S < 301 := (inN_tn hW.1.1.1).2.1
  rcases lowF_or (S := S) n (nA S) with z | ⟨j, z1, -, -, -, z2⟩
  · unfold lowS
    rw [z]
    exact ⟨inN_le hE.2.2.2.2.1 (by omega), hE.2.2.2.2.2⟩
  · have q := (hW.2.2.2.1 j z1).1
    unfold lowS
    rw [z2]
    exact ⟨q.2.2.1, q.2.2.2⟩
theorem low_ok {a : Int32} (hW : WF2 g S) (ha : inN a (nA S) = true) (ho : mT S 463 (tn a) = 0) : tn (mT S 456 (tn a)) < tn (lowS S (mT S 454 (tn a))) + tn (mI S 448) := by
  have haa := (inN_tn ha).2.1
  have q := hW.2.2.2.1 _ haa
  have hl := q.2.2.2.1.2.2 ho
  rcases lowF_or (S := S) (mT S 454 (tn a)) (nA S) with z | ⟨j, z1, z2, z3, z4, z5⟩
  · unfold lowS
    rw [z]
    have := q.2.2.2.1.2.1 hl
    omega
  · unfold lowS
    rw [z5]
    exact hW.2.2.2.2.2.1 _ _ haa z1 z2.symm ho z4
theorem WF2_send {a : Int32} {ans : Bool} {v : Int64} (hW : WF2 g S) (ha : inN a (nA S) = true) (hop : ans = false → mT S 463 (tn a) = 0) (hv : ans = true → v = -3 → tn (mT S 454 (tn a)) < 6) : WF2 g (sendF S a ans v) := by
  by_cases h0 : mI S 485 = 0
  · by_cases hl : mI S 468 = 120
    · exact WF2_SX (L := [483, 486]) hW (SX_lost h0 hl).1 (by decide)
    · have hX := SX_sent (a := a) (ans := ans) (v := v) h0 hl
      have hl2 : nL S ≠ 120 := fun z => hl ((hL120 hW.1).mp z)
      have hn := (sent_L (a := a) (ans := ans) (v := v) hW.1 h0 hl2).2
      refine WF2_let hW (hX.sub (by decide)) (WF1_send hW.1 ha) (fun i hi => ?_)
      rw [hn] at hi
      obtain ⟨t1, t2, t3, t4, -⟩ := sent_at (a := a) (ans := ans) (v := v) h0 hl i
      unfold LetW
      rw [t1, t2, t3, t4, (hX 448 (by decide)).1, (hX 454 (by decide)).2.1, (hX 456 (by decide)).2.1]
      by_cases c : i = nL S
      · rw [if_pos c, if_pos c, if_pos c, if_pos c]
        cases ans with
        | false =>
          have o := hop rfl
          have r := low_rng hW (hW.1.ask ha).1
          refine ⟨fun _ => ⟨r.1, r.2, low_ok hW ha o⟩, fun z => absurd rfl z⟩
        | true =>
          exact ⟨fun z => absurd z (by decide), fun _ => ⟨rfl, hv rfl⟩⟩
      · rw [if_neg c, if_neg c, if_neg c, if_neg c]
        exact hW.2.2.2.2.2.2.1 i (by omega)
  · have : sendF S a ans v = S := by unfold sendF; rw [if_pos h0]
    rw [this]
    exact hW
theorem RecU_put (hW : WF1 S) (h7 : nR S < 700) {o num st : Int32} {v : Int64} {own : Int32} (hU : RecU S) : RecU (putRecF S o num st v own) := by
  have hn := put_n hW h7 o num st v own
  cases e : fnd S o num with
  | some k =>
    obtain ⟨k1, k2, k3⟩ := fnd_at e
    have eq : putRecF S o num st v own = putAt S k o num st v own := by unfold putRecF; rw [e]
    have ky : ∀ r, mT (putRecF S o num st v own) 477 r = mT S 477 r ∧ mT (putRecF S o num st v own) 478 r = mT S 478 r := fun r => by
      rw [eq]
      have q := rc_putAt (S := S) k o num st v own r
      have q7 := congrArg (fun e : om_rc => e.1) q
      have q8 := congrArg (fun e : om_rc => e.2.1) q
      by_cases c : r = k
      · rw [if_pos c] at q7 q8
        exact ⟨by rw [c, k2]; rw [c] at q7; exact q7, by rw [c, k3]; rw [c] at q8; exact q8⟩
      · rw [if_neg c] at q7 q8
        exact ⟨q7, q8⟩
    have hR : nR (putRecF S o num st v own) = nR S := by
      rw [eq]
      show tn (mI (putAt S k o num st v own) 476) = _
      rw [putAt_I]
      rfl
    intro r s h1 h2 e1 e2
    rw [hR] at h1 h2
    rw [(ky r).1, (ky s).1] at e1
    rw [(ky r).2, (ky s).2] at e2
    exact hU r s h1 h2 e1 e2
  | none =>
    have eq : putRecF S o num st v own = putAt (pI S 476 (mI S 476 + 1)) (nR S) o num st v own := by unfold putRecF; rw [e]
    have ky : ∀ r, (mT (putRecF S o num st v own) 477 r = if r = nR S then o else mT S 477 r) ∧ mT (putRecF S o num st v own) 478 r = if r = nR S then num else mT S 478 r := fun r => by
      rw [eq]
      have q := rc_putAt (S := pI S 476 (mI S 476 + 1)) (nR S) o num st v own r
      have q7 := congrArg (fun e : om_rc => e.1) q
      have q8 := congrArg (fun e : om_rc => e.2.1) q
      by_cases c : r = nR S
      · rw [if_pos c] at q7 q8 ⊢
        rw [if_pos c]
        exact ⟨q7, q8⟩
      · rw [if_neg c] at q7 q8 ⊢
        rw [if_neg c]
        exact ⟨q7, q8⟩
    intro r s h1 h2 e1 e2
    rw [(ky r).1, (ky s).1] at e1
    rw [(ky r).2, (ky s).2] at e2
    by_cases cr : r = nR S
    · by_cases cs : s = nR S
      · omega
      · rw [if_pos cr, if_neg cs] at e1 e2
        exact absurd ⟨e1.symm, e2.symm⟩ (fnd_no e s (by omega))
    · by_cases cs : s = nR S
      · rw [if_neg cr, if_pos cs] at e1 e2
        exact absurd ⟨e1, e2⟩ (fnd_no e r (by omega))
      · rw [if_neg cr, if_neg cs] at e1 e2
        exact hU r s (by omega) (by omega) e1 e2
/-- the last clause of AskW grows with the records -/
theorem FarK_put {k : Nat} (hW : WF1 S) (h7 : nR S < 700) {o num st : Int32} {v : Int64} {own : Int32} (f : FarK S k) : FarK (putRecF S o num st v own) k := by
  have hX := SX_put (S := S) o num st v own
  have er : rw_ (putRecF S o num st v own) k = rw_ S k := by unfold rw_; rw [(hX 457 (by decide)).2.1, (hX 454 (by decide)).2.1]
  unfold FarK at f ⊢
  rw [er, (hX 466 (by decide)).2.1, (hX 455 (by decide)).2.1, (hX 456 (by decide)).2.1, (hX 474 (by decide)).2.1, (hX 475 (by decide)).2.1, fR_put hW.1.2.2 h7]
  intro z
  rcases f z with y | ⟨y1, y2⟩
  · exact Or.inl y
  · refine Or.inr ⟨y1, ?_⟩
    rcases y2 with y2 | y2
    · exact Or.inl y2
    · right
      split
      · exact fun u => by cases u
      · exact y2
theorem WF2_put {i num : Nat} {st own : Int32} {v : Int64} (hW : WF2 g S) (hi : i < 40) (hn : num < 420) (h1 : tn (mT S 475 i) ≤ num) (h2 : num < tn (mT S 475 i) + tn (mI S 448)) (hst : (st = 1 ∧ v ≠ -3) ∨ st = 3) : WF2 g (putRecF S (nI i) (nI num) st v own) := by
  have h7 := WF2_nR hW
  have hX := SX_put (S := S) (nI i) (nI num) st v own
  have wp : WF1 (putRecF S (nI i) (nI num) st v own) := WF1_put hW.1 (by omega) (fun z => by rcases hst with y | y; rw [y.1] at z; exact absurd z (by decide); rw [y] at z; exact absurd z (by decide))
  have hR := recW_all.mp hW.2.2.2.2.2.2.2.2.1
  refine ⟨wp, by rw [(hX 448 (by decide)).1]; exact hW.2.1, fun n hn => EndW_x hX (by decide) (hW.2.2.1 n hn), fun k hk => ?_, UqW_x hX (by decide) hW.2.2.2.2.1, OpW_x hX (by decide) hW.2.2.2.2.2.1, fun j hj => LetW_x hX (by decide) (hW.2.2.2.2.2.2.1 j (by unfold nL at hj ⊢; rw [(hX 468 (by decide)).1] at hj; exact hj)), fun j hj => MemW_x hX (by decide) (hW.2.2.2.2.2.2.2.1 j hj), recW_all.mpr (fun e he => ?_), RecU_put hW.1 (by omega) hW.2.2.2.2.2.2.2.2.2.1, fun a ha => by rw [(hX 452 (by decide)).2.2]; exact hW.2.2.2.2.2.2.2.2.2.2 a ha⟩
  · have hk' : k < nA S := by unfold nA at hk ⊢; rw [(hX 453 (by decide)).1] at hk; exact hk
    have q := hW.2.2.2.1 k hk'
    have f := FarK_to (FarK_put (o := nI i) (num := nI num) (st := st) (v := v) (own := own) hW.1 (by omega) (FarK_of q))
    have eA : nA (putRecF S (nI i) (nI num) st v own) = nA S := put_nA _ _ _ _ _
    unfold FarK' at f
    unfold AskW opn at q ⊢
    unfold rw_ at f ⊢
    rw [(hX 450 (by decide)).2.1, (hX 451 (by decide)).2.1, eA, (hX 454 (by decide)).2.1, (hX 455 (by decide)).2.1, (hX 456 (by decide)).2.1, (hX 457 (by decide)).2.1, (hX 458 (by decide)).2.1, (hX 462 (by decide)).2.1, (hX 463 (by decide)).2.1, (hX 465 (by decide)).2.1, (hX 466 (by decide)).2.1, (hX 467 (by decide)).2.1]
    rw [(hX 454 (by decide)).2.1, (hX 455 (by decide)).2.1, (hX 456 (by decide)).2.1, (hX 457 (by decide)).2.1, (hX 466 (by decide)).2.1] at f
    exact ⟨q.1, q.2.1, q.2.2.1, q.2.2.2.1, q.2.2.2.2.1, q.2.2.2.2.2.1, q.2.2.2.2.2.2.1, q.2.2.2.2.2.2.2.1, f⟩
  · refine RecE_y hX (by decide) ?_
    rcases mem_put hW.1 (by omega) he with y | y
    · exact hR e y
    · rw [y]
      refine ⟨⟨inN_nIlt hi (by decide), inN_nIlt hn (by decide), ?_, ?_⟩, ?_, ?_, ?_⟩
      · show tn (mT S 475 (tn (nI i))) ≤ tn (nI num)
        rw [tn_nI (by omega), tn_nI (by omega)]; exact h1
      · show tn (nI num) < tn (mT S 475 (tn (nI i))) + tn (mI S 448)
        rw [tn_nI (by omega), tn_nI (by omega)]; exact h2
      · exact hst.elim (fun z => Or.inl z.1) (fun z => Or.inr (Or.inr z))
      · intro z
        rcases hst with u | u
        · exact u.2
        · have z2 : st = 1 := z
          rw [u] at z2; exact absurd z2 (by decide)
      · intro z
        have z2 : st = 2 := z
        rcases hst with u | u
        · rw [u.1] at z2; exact absurd z2 (by decide)
        · rw [u] at z2; exact absurd z2 (by decide)
theorem WF2_moved {k A : Int32} (hW : WF2 g S) (hg : g + 1 < 1000000) (hk : inN k (nA S) = true) (hA : A = 6 * mT S 457 (tn k) + mT S 459 (tn k)) (hL : letF S (mT S 457 (tn k)) k A = true) (hd : mT S 458 (tn k) = 1 ∨ mT S 458 (tn k) = 2) : WF2 (g + 1) (movedF S (mT S 457 (tn k)) k A) := by
  have hX := moved_S (S := S) (sv := mT S 457 (tn k)) (ask := k) (a := A)
  have hok := moved_ok hW hk hA hL (hd.elim Or.inl (fun z => Or.inr (Or.inl z)))
  have hW1 := WF2_mono hW (Nat.le_succ g) hg
  have n3 : mT S 458 (tn k) ≠ 3 := fun z => by rcases hd with y | y <;> rw [y] at z <;> exact absurd z (by decide)
  have e467 := fun j => moved_467 (S := S) (sv := mT S 457 (tn k)) (ask := k) (a := A) j
  have hWM := WF1_moved hW.1 (mT S 457 (tn k)) k A
  have hR := recW_all.mp hW1.2.2.2.2.2.2.2.2.1
  generalize movedF S (mT S 457 (tn k)) k A = M at *
  have eA : nA M = nA S := by unfold nA; rw [(hX 453 (by decide)).1]
  refine ⟨hWM, by rw [(hX 448 (by decide)).1]; exact hW1.2.1, fun n hn => EndW_x hX (by decide) (hW1.2.2.1 n hn), fun j hj => ?_, UqW_x hX (by decide) hW1.2.2.2.2.1, OpW_x hX (by decide) hW1.2.2.2.2.2.1, fun j hj => LetW_x hX (by decide) (hW1.2.2.2.2.2.2.1 j (by unfold nL at hj ⊢; rw [(hX 468 (by decide)).1] at hj; exact hj)), fun j hj => MemW_x hX (by decide) (hW1.2.2.2.2.2.2.2.1 j hj), recW_all.mpr (fun e he => RecE_y hX (by decide) (hR e (by rw [recs_x hX (by decide)] at he; exact he))), RecU_x hX (by decide) hW1.2.2.2.2.2.2.2.2.2.1, hok⟩
  have q := hW1.2.2.2.1 j (eA ▸ hj)
  unfold AskW opn rw_ fnd nR at q ⊢
  rw [(hX 450 (by decide)).2.1, (hX 451 (by decide)).2.1, eA, (hX 454 (by decide)).2.1, (hX 455 (by decide)).2.1, (hX 456 (by decide)).2.1, (hX 457 (by decide)).2.1, (hX 458 (by decide)).2.1, (hX 462 (by decide)).2.1, (hX 463 (by decide)).2.1, (hX 465 (by decide)).2.1, (hX 466 (by decide)).2.1, (hX 474 (by decide)).2.1, (hX 475 (by decide)).2.1, (hX 476 (by decide)).1, (hX 477 (by decide)).2.1, (hX 478 (by decide)).2.1, e467, e467]
  obtain ⟨q1, ⟨q2, q3, q4⟩, q5, q6, ⟨q7, q8⟩, q9, q10, q11, q12⟩ := q
  refine ⟨q1, ⟨q2, ?_, q4⟩, q5, q6, ⟨q7, fun z => ?_⟩, q9, fun z1 z2 => ?_, q11, q12⟩
  · by_cases c : j = tn k
    · rw [if_pos c]; exact Or.inr rfl
    · rw [if_neg c]; exact q3
  · obtain ⟨b1, b2, b3, b4, b5, b6⟩ := q8 z
    refine ⟨b1, b2, b3, b4, ?_, b6⟩
    split
    · rfl
    · exact b5
  · by_cases c : j = tn k
    · rw [c] at z1; exact absurd z1 n3
    · rw [if_neg c] at z2; exact q10 z1 z2
end KE
