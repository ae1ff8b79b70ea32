/-! WF2 kept: a new ASK; a FAR's own -/
section K3
variable {S S' : Ms} {g : Nat} {L : List Nat}
theorem inN_int {v : Int32} {n : Nat} (h : inN v n = true) : v.toInt = (tn v : Int) := by
  obtain ⟨h1, h2, h3⟩ := inN_tn h
  conv => lhs; rw [h1]
  exact nI_int h3
theorem used_no {n : Int32} (hW : WF2 g S) (hn : inN n 10 = true) (hu : usedUp S n = false) : (∀ j, j < nA S → mT S 454 j = n → mT S 463 j = 0 → tn (mT S 451 (tn n)) < tn (mT S 456 j) + tn (mI S 448)) ∧ tn (mT S 451 (tn n)) < tn (lowS S n) + tn (mI S 448) := by
  obtain ⟨r1, r2⟩ := low_rng hW hn
  have hE := hW.2.2.1 _ (inN_tn hn).2.1
  have w1 := inN_tn hW.2.1.2.1
  have l1 := inN_tn r1
  have x1 := inN_tn hE.2.2.2.2.1
  have hA : nA S < 301 := (inN_tn hW.1.1.1).2.1
  have key : tn (mT S 451 (tn n)) < tn (lowS S n) + tn (mI S 448) := by
    unfold usedUp at hu
    rw [decide_eq_false_iff_not, l1.1, w1.1, zI_add, x1.1, nI_lei (by omega) (by omega)] at hu
    omega
  refine ⟨fun j hj h1 h2 => ?_, key⟩
  have q := hW.2.2.2.1 j hj
  have hl := q.2.2.2.1.2.2 h2
  rw [h1] at hl
  have := lowF_le n (nA S) j hj h1 hl h2
  have e1 : (lowF S n (nA S)).toInt = (tn (lowS S n) : Int) := inN_int r1
  rw [e1, inN_int q.1.2.2.1] at this
  omega
/-- what a new ASK of the name n leaves of the ends, the letters and the ASKS' numbers -/
theorem new_core {n : Int32} (hW : WF2 g S) (hn : inN n 10 = true) (h300 : nA S < 300) (hu : usedUp S n = false) (hS : SX L S S') (d : dj [448, 449, 450, 468, 469, 470, 471, 472] L) (e0 : nA S' = nA S + 1) (e454 : ∀ j, mT S' 454 j = if j = nA S then n else mT S 454 j) (e455 : ∀ j, mT S' 455 j = if j = nA S then mT S 450 (tn n) else mT S 455 j) (e456 : ∀ j, mT S' 456 j = if j = nA S then mT S 451 (tn n) else mT S 456 j) (e451 : ∀ m, mT S' 451 m = if m = tn n then mT S 451 (tn n) + 1 else mT S 451 m) (e463 : ∀ j, mT S' 463 j = if j = nA S then 0 else mT S 463 j) :
    (∀ m, m < 10 → EndW g S' m) ∧ UqW S' ∧ OpW S' ∧ (∀ i, i < nL S' → LetW S' i) ∧ ∀ k, k < nA S' → (inN (mT S' 455 k) (g + 2) = true ∧ 1 ≤ tn (mT S' 455 k) ∧ inN (mT S' 456 k) 400 = true ∧ 1 ≤ tn (mT S' 456 k)) ∧ (tn (mT S' 455 k) ≤ tn (mT S' 450 (tn (mT S' 454 k))) ∧ (mT S' 455 k = mT S' 450 (tn (mT S' 454 k)) → tn (mT S' 456 k) < tn (mT S' 451 (tn (mT S' 454 k)))) ∧ (mT S' 463 k = 0 → mT S' 455 k = mT S' 450 (tn (mT S' 454 k)))) := by
  obtain ⟨u1, u2⟩ := used_no hW hn hu
  have hnn := inN_tn hn
  have hE := hW.2.2.1 _ hnn.2.1
  have x1 := inN_tn hE.2.2.2.2.1
  have s451 := inN_succ (v := mT S 451 (tn n)) (n := nA S + 1 + 2) (inN_le hE.2.2.2.2.1 (by omega)) (by omega) (by omega)
  have e450 := (hS 450 (d 450 (by decide))).2.1
  have e448 := (hS 448 (d 448 (by decide))).1
  have w1 := (inN_tn hW.2.1.2.1)
  have hw1 := hW.2.1.2.2
  refine ⟨fun m hm => ?_, fun k j hk hj e1 e2 e3 => ?_, fun k j hk hj e1 o1 o2 => ?_, fun i hi => ?_, fun k hk => ?_⟩
  · have q := hW.2.2.1 m hm
    unfold EndW at q ⊢
    rw [e0, (hS 449 (d 449 (by decide))).2.1, e450, e451]
    by_cases c : m = tn n
    · rw [if_pos c, s451.2]
      exact ⟨q.1, q.2.1, q.2.2.1, q.2.2.2.1, s451.1, by omega⟩
    · rw [if_neg c]
      exact ⟨q.1, q.2.1, q.2.2.1, q.2.2.2.1, inN_le q.2.2.2.2.1 (by omega), q.2.2.2.2.2⟩
  · rw [e0] at hk hj
    rw [e454, e454] at e1
    rw [e455, e455] at e2
    rw [e456, e456] at e3
    have aux : ∀ j, j < nA S → mT S 454 j = n → mT S 455 j = mT S 450 (tn n) → mT S 456 j ≠ mT S 451 (tn n) := fun j hj z1 z2 z3 => by
      have := (hW.2.2.2.1 j hj).2.2.2.1.2.1 (by rw [z1]; exact z2)
      rw [z1, z3] at this
      omega
    by_cases ck : k = nA S
    · by_cases cj : j = nA S
      · omega
      · rw [if_pos ck, if_neg cj] at e1 e2 e3
        exact absurd e3.symm (aux j (by omega) e1.symm e2.symm)
    · by_cases cj : j = nA S
      · rw [if_neg ck, if_pos cj] at e1 e2 e3
        exact absurd e3 (aux k (by omega) e1 e2)
      · rw [if_neg ck, if_neg cj] at e1 e2 e3
        exact hW.2.2.2.2.1 k j (by omega) (by omega) e1 e2 e3
  · unfold opn at o1 o2
    rw [e0] at hk hj
    rw [e454, e454] at e1
    rw [e463] at o1 o2
    rw [e456, e456, e448]
    by_cases ck : k = nA S
    · by_cases cj : j = nA S
      · rw [if_pos ck, if_pos cj]; omega
      · rw [if_pos ck, if_neg cj] at e1 ⊢
        rw [if_neg cj] at o2
        exact u1 j (by omega) e1.symm o2
    · by_cases cj : j = nA S
      · rw [if_neg ck, if_pos cj] at e1 ⊢
        rw [if_neg ck] at o1
        have q := (hW.2.2.2.1 k (by omega)).2.2.2.1
        have := q.2.1 (q.2.2 o1)
        rw [e1] at this
        omega
      · rw [if_neg ck, if_neg cj] at e1 ⊢
        rw [if_neg ck] at o1
        rw [if_neg cj] at o2
        exact hW.2.2.2.2.2.1 k j (by omega) (by omega) e1 o1 o2
  · have hi' : i < nL S := by unfold nL at hi ⊢; rw [(hS 468 (d 468 (by decide))).1] at hi; exact hi
    have q := hW.2.2.2.2.2.2.1 i hi'
    have ne : tn (mT S 469 i) ≠ nA S := by have := (inN_tn (hW.1.2.2.1 i hi')).2.1; omega
    unfold LetW at q ⊢
    rw [e448, (hS 469 (d 469 (by decide))).2.1, (hS 470 (d 470 (by decide))).2.1, (hS 471 (d 471 (by decide))).2.1, (hS 472 (d 472 (by decide))).2.2, e454, e456, if_neg ne, if_neg ne]
    exact q
  · rw [e0] at hk
    rw [e454, e455, e456, e463, e450]
    by_cases ck : k = nA S
    · rw [if_pos ck, if_pos ck, if_pos ck, if_pos ck, e451, if_pos rfl, s451.2]
      exact ⟨⟨hE.2.1, hE.2.2.1, inN_le hE.2.2.2.2.1 (by omega), hE.2.2.2.2.2⟩, Nat.le_refl _, fun _ => by omega, fun _ => rfl⟩
    · rw [if_neg ck, if_neg ck, if_neg ck, if_neg ck]
      have q := hW.2.2.2.1 k (by omega)
      refine ⟨q.1, q.2.2.2.1.1, fun z => ?_, q.2.2.2.1.2.2⟩
      have := q.2.2.2.1.2.1 z
      rw [e451]
      by_cases c : tn (mT S 454 k) = tn n
      · rw [if_pos c, s451.2]; rw [c] at this; omega
      · rw [if_neg c]; exact this
/-- what is known of a record stays known when ASKS are added -/
theorem RecE_new {e : om_rc} (hW : WF2 g S) (hE : RecE S e) (e0 : nA S ≤ nA S') (old : ∀ f j, f ∈ [454, 455, 456, 457, 458, 462, 463, 465] → j < nA S → mT S' f j = mT S f j) (e448 : mI S' 448 = mI S 448) (e474 : mT S' 474 = mT S 474) (e475 : mT S' 475 = mT S 475) : RecE S' e := by
  obtain ⟨a1, a2, a3, a4⟩ := hE
  unfold RecE
  rw [e448, e474, e475]
  refine ⟨a1, a2, a3, fun z => ?_⟩
  obtain ⟨b1, b2, b3, b4, b5⟩ := a4 z
  have ho := (inN_tn b1).2.1
  have hf := (hW.2.2.2.1 _ ho).2.2.2.2.1.2 b2
  have hff := (inN_tn hf.2.1).2.1
  unfold rw_ at b3 ⊢
  rw [old 454 _ (by decide) ho, old 465 _ (by decide) ho, old 457 _ (by decide) hff, old 454 _ (by decide) hff, old 455 _ (by decide) hff, old 456 _ (by decide) hff]
  exact ⟨inN_le b1 e0, b2, b3, b4, b5⟩
theorem WF2_newA {n sv kind a b t amt : Int32} (hW : WF2 g S) (h467 : ∀ k, nA S ≤ k → mT S 467 k = 0) (hn : inN n 6 = true) (hs : inN sv 4 = true) (ha : inN a 6 = true) (hb : inN b 6 = true) (ht : inN t 4 = true) (hk5 : inN kind 5 = true) (h300 : nA S < 300) (hu : usedUp S n = false) (hm : -1000000 ≤ amt.toInt ∧ amt.toInt ≤ 1000000 ∧ (kind = 2 ∨ kind = 3 → 0 ≤ amt.toInt) ∧ (kind = 4 → 1 ≤ amt.toInt)) : WF2 g (newAskF S n sv kind a b t amt (-1)) := by
  have hn10 := inN_le hn (show 6 ≤ 10 by decide)
  have hn6 := (inN_tn hn).2.1
  have h5 : 5 < n → inN (-1) (nA S) = true := fun z => by
    have := (inN_tn hn)
    rw [this.1, show (5 : Int32) = nI 5 from rfl, nI_lti (by decide) (by omega)] at z
    omega
  have w1 := (WF1_newAsk hW.1 h300 hn10 hs ha hb ht (kind := kind) (amt := amt) (far := -1) h5).1
  have hX := SX_new (S := S) (n := n) (sv := sv) (kind := kind) (a := a) (b := b) (t := t) (amt := amt) (far := -1)
  have hT := fun j => new_T (S := S) (n := n) (sv := sv) (kind := kind) (a := a) (b := b) (t := t) (amt := amt) (far := -1) j
  have hnn := (new_n (S := S) (n := n) (sv := sv) (kind := kind) (a := a) (b := b) (t := t) (amt := amt) (far := -1) hW.1 h300).2
  generalize newAskF S n sv kind a b t amt (-1) = N at *
  obtain ⟨c1, c2, c3, c4, c5⟩ := new_core hW hn10 h300 hu hX (by decide) hnn (fun j => (hT j).1) (fun j => (hT j).2.1) (fun j => (hT j).2.2.1) (fun m => (hT m).2.2.2.1) (fun j => (hT j).2.2.2.2.2.2.2.2.2.2.1)
  have old : ∀ f j, f ∈ [454, 455, 456, 457, 458, 462, 463, 465] → j < nA S → mT N f j = mT S f j := fun f j hf hj => by
    obtain ⟨t1, t2, t3, -, t5, t6, -, -, -, t10, t11, t12, -⟩ := hT j
    have ne : j ≠ nA S := by omega
    simp only [List.mem_cons, List.not_mem_nil, or_false] at hf
    rcases hf with rfl | rfl | rfl | rfl | rfl | rfl | rfl | rfl
    · rw [t1, if_neg ne]
    · rw [t2, if_neg ne]
    · rw [t3, if_neg ne]
    · rw [t5, if_neg ne]
    · rw [t6, if_neg ne]
    · rw [t10, if_neg ne]
    · rw [t11, if_neg ne]
    · rw [t12, if_neg ne]
  have o466 : ∀ j, j < nA S → mT N 466 j = mT S 466 j := fun j hj => by rw [(hT j).2.2.2.2.2.2.2.2.2.2.2.2, if_neg (by omega)]
  have e467 : mT N 467 = mT S 467 := (hX 467 (by decide)).2.1
  have hR := recW_all.mp hW.2.2.2.2.2.2.2.2.1
  refine ⟨w1, by rw [(hX 448 (by decide)).1]; exact hW.2.1, c1, fun k hk => ?_, c2, c3, c4, fun j hj => MemW_x hX (by decide) (hW.2.2.2.2.2.2.2.1 j hj), recW_all.mpr (fun e he => RecE_new hW (hR e (by rw [recs_x hX (by decide)] at he; exact he)) (by omega) old (hX 448 (by decide)).1 (hX 474 (by decide)).2.1 (hX 475 (by decide)).2.1), RecU_x hX (by decide) hW.2.2.2.2.2.2.2.2.2.1, fun a ha => by rw [(hX 452 (by decide)).2.2]; exact hW.2.2.2.2.2.2.2.2.2.2 a ha⟩
  obtain ⟨p1, p4⟩ := c5 k hk
  by_cases ck : k = nA S
  · obtain ⟨t1, t2, t3, -, t5, t6, -, -, -, t10, t11, t12, t13⟩ := hT k
    rw [if_pos ck] at t1 t2 t3 t5 t6 t10 t11 t12 t13
    have z467 : mT N 467 k = 0 := by rw [e467]; exact h467 k (by omega)
    refine ⟨p1, ⟨Or.inl t11, Or.inl z467, by rw [t6]; exact hk5⟩, by rw [t10, t6]; exact hm, p4, ⟨fun _ => t12, fun z => ?_⟩, fun z => absurd t13 z, fun _ z => absurd z467 z, fun _ => t13, fun z => absurd t13 z⟩
    rw [t1] at z
    omega
  · have hk' : k < nA S := by omega
    have q := hW.2.2.2.1 k hk'
    have f := FarK_of q
    obtain ⟨q1, q2, q3, q4, ⟨q5, q6⟩, q7, q8, q9, q10⟩ := q
    have r463 := old 463 k (by decide) hk'
    have r458 := old 458 k (by decide) hk'
    have r462 := old 462 k (by decide) hk'
    have r454 := old 454 k (by decide) hk'
    have r465 := old 465 k (by decide) hk'
    have r466 := o466 k hk'
    refine ⟨p1, by rw [r463, e467, r458]; exact q2, by rw [r462, r458]; exact q3, p4, ⟨by rw [r454, r465]; exact q5, fun z => ?_⟩, fun z => ?_, fun z1 z2 => ?_, fun z => ?_, fun z => ?_⟩
    · rw [r454] at z
      obtain ⟨b1, b2, b3, b4, b5, b6, b7, b8, b9⟩ := q6 z
      have hf := (inN_tn b2).2.1
      rw [r458, r465, o466 _ hf, old 458 _ (by decide) hf, e467, r454, old 457 _ (by decide) hf, r462, old 462 _ (by decide) hf, old 454 _ (by decide) hf]
      exact ⟨b1, inN_le b2 (by omega), b3, b4, b5, b6, b7, b8, b9⟩
    · rw [r466] at z ⊢
      obtain ⟨b1, b2, b3⟩ := q7 z
      have hf := (inN_tn b1).2.1
      rw [old 465 _ (by decide) hf, old 454 _ (by decide) hf]
      exact ⟨inN_le b1 (by omega), b2, b3⟩
    · rw [r458] at z1
      rw [e467] at z2
      rw [r466]
      exact q8 z1 z2
    · rw [r458] at z
      rw [r466]
      exact q9 z
    · have f2 : FarK' N k := FarK_to (fun z => by
        have er : rw_ N k = rw_ S k := by unfold rw_; rw [old 457 k (by decide) hk', r454]
        have ef : fR N (nI (rw_ S k)) (mT S 456 k) = fR S (nI (rw_ S k)) (mT S 456 k) := by unfold fR; rw [recs_x hX (by decide)]
        rw [er, old 455 k (by decide) hk', old 456 k (by decide) hk', (hX 474 (by decide)).2.1, (hX 475 (by decide)).2.1, ef]
        rw [r466] at z
        exact f z)
      exact f2 z
end K3
