/-! the steps of a letter that comes keep WF2 -/
section K5
variable {S S' : Ms} {g : Nat} {L : List Nat}
def Hs (S : Ms) : Prop := ∀ k, nA S ≤ k → mT S 467 k = 0
def Iw (g : Nat) (S : Ms) : Prop := WF2 g S ∧ Hs S
theorem Hs_x (hS : SX L S S') (d : dj [453, 467] L) (h : Hs S) : Hs S' := fun k hk => by
  have eA : nA S' = nA S := by unfold nA; rw [(hS 453 (d 453 (by decide))).1]
  rw [(hS 467 (d 467 (by decide))).2.1]
  exact h k (eA ▸ hk)
theorem Iw_send {a : Int32} {ans : Bool} {v : Int64} (hV : Iw g S) (ha : inN a (nA S) = true) (hop : ans = false → mT S 463 (tn a) = 0) (hv : ans = true → v ≠ -3) : Iw g (sendF S a ans v) :=
  ⟨WF2_send hV.1 ha hop (fun z y => absurd y (hv z)), Hs_x (SX_send a ans v) (by decide) hV.2⟩
theorem Iw_mono {g2 : Nat} (hV : Iw g S) (h1 : g ≤ g2) (h2 : g2 < 1000000) : Iw g2 S := ⟨WF2_mono hV.1 h1 h2, hV.2⟩
theorem Iw_done {k : Int32} {i : Nat} {v : Int64} (hV : Iw g S) (hk : inN k (nA S) = true) (hi : i < 40) (hw1 : tn (mT S 475 i) ≤ tn (mT S 456 (tn k))) (hw2 : tn (mT S 456 (tn k)) < tn (mT S 475 i) + tn (mI S 448)) (hv : v ≠ -3) : Iw g (doneF S (nI i) k v) := by
  have q := (hV.1.2.2.2.1 _ (inN_tn hk).2.1).1.2.2.1
  have hn := inN_tn q
  have h1 : WF2 g (putRecF S (nI i) (nI (tn (mT S 456 (tn k)))) 1 v (-1)) := WF2_put hV.1 hi (by omega) hw1 hw2 (Or.inl ⟨rfl, hv⟩)
  rw [← hn.1] at h1
  have h2 : Hs (putRecF S (nI i) (mT S 456 (tn k)) 1 v (-1)) := Hs_x (SX_put _ _ _ _ _) (by decide) hV.2
  unfold doneF
  exact Iw_send ⟨h1, h2⟩ (by rw [put_nA]; exact hk) (fun z => absurd z (by decide)) (fun _ => hv)
theorem acc_ne {s a : Int32} (hW : WF2 g S) (hs : inN s 4 = true) (ha : inN a 6 = true) : mJ S 452 (tn (6 * s + a)) ≠ -3 := ne_m3 (hW.2.2.2.2.2.2.2.2.2.2 _ (inN_tn (inN_ac hs ha)).2.1).1
theorem Iw_act {k : Int32} {i : Nat} (hV : Iw g S) (hg : g + 1 < 1000000) (hk : inN k (nA S) = true) (hi : rw_ S (tn k) = i) (hlife : mT S 455 (tn k) = mT S 474 i) (hw1 : tn (mT S 475 i) ≤ tn (mT S 456 (tn k))) (hw2 : tn (mT S 456 (tn k)) < tn (mT S 475 i) + tn (mI S 448)) (hno : fR S (nI i) (mT S 456 (tn k)) = none) : Iw (g + 1) (actF S (mT S 457 (tn k)) (nI i) k) := by
  have hkk := (inN_tn hk).2.1
  have hV1 := Iw_mono hV (Nat.le_succ g) hg
  have hi40 : i < 40 := by rw [← hi]; exact rw_lt hV.1.1 hkk
  obtain ⟨w1, w2, w3, w4, w5⟩ := hV.1.1.ask hk
  have hq := hV.1.2.2.2.1 _ hkk
  have ch : ¬ mT S 458 (tn k) = 0 → ¬ mT S 458 (tn k) = 4 → actF S (mT S 457 (tn k)) (nI i) k = changeF S (mT S 457 (tn k)) (nI i) k (6 * mT S 457 (tn k) + mT S 459 (tn k)) := fun z1 z2 => by unfold actF; rw [if_neg z1, if_neg z2]
  by_cases k0 : mT S 458 (tn k) = 0
  · unfold actF
    rw [if_pos k0]
    exact Iw_send hV1 hk (fun z => absurd z (by decide)) (fun _ => acc_ne hV.1 w2 w3)
  by_cases k4 : mT S 458 (tn k) = 4
  · unfold actF cancelF
    rw [if_neg k0, if_pos k4]
    by_cases c1 : cancelA S (nI i) k = 1
    · rw [if_pos c1]
      have hm := hV.1.2.2.2.2.2.2.2.1 i hi40
      have e5 := inN_tn hm.2.1
      have e8 := inN_tn hV.1.2.1.2.1
      obtain ⟨A, hA, hA2, hA3⟩ := zI_ex (v := mT S 462 (tn k)) (n := 1000001) (by have := hq.2.2.1.2.2.2 k4; omega) (by have := hq.2.2.1.2.1; omega)
      have ce := cancel_eq (S := S) (k := k) hi40
      rw [c1] at ce
      have n1 : ¬ (mT S 462 (tn k) = mT S 456 (tn k) ∨ mT S 462 (tn k) < mT S 475 i) := fun z => by rw [if_pos z] at ce; exact absurd ce (by decide)
      rw [if_neg n1] at ce
      have n2 : ¬ mT S 475 i + mI S 448 ≤ mT S 462 (tn k) := fun z => by
        rw [if_pos z] at ce
        split at ce
        · exact absurd ce (by decide)
        · split at ce <;> exact absurd ce (by decide)
      have l1 : tn (mT S 475 i) ≤ A := by
        have h9 : ¬ mT S 462 (tn k) < mT S 475 i := fun z => n1 (Or.inr z)
        rw [hA, e5.1, nI_lti (by omega) (by omega)] at h9
        omega
      have l2 : A < tn (mT S 475 i) + tn (mI S 448) := by
        rw [hA, e5.1, e8.1, zI_add, nI_lei (by omega) (by omega)] at n2
        omega
      have hP : WF2 (g + 1) (putRecF S (nI i) (mT S 462 (tn k)) 3 0 (-1)) := by
        rw [hA]
        exact WF2_put hV1.1 hi40 (by omega) l1 l2 (Or.inr rfl)
      have hX := SX_put (S := S) (nI i) (mT S 462 (tn k)) 3 0 (-1)
      refine Iw_done ⟨hP, Hs_x hX (by decide) hV.2⟩ (by rw [put_nA]; exact hk) hi40 ?_ ?_ (by rw [c1]; decide)
      · rw [(hX 475 (by decide)).2.1, (hX 456 (by decide)).2.1]; exact hw1
      · rw [(hX 475 (by decide)).2.1, (hX 456 (by decide)).2.1, (hX 448 (by decide)).1]; exact hw2
    · rw [if_neg c1]
      exact Iw_done hV1 hk hi40 hw1 hw2 cancelA_ne
  rw [ch k0 k4]
  unfold changeF
  cases hL : letF S (mT S 457 (tn k)) k (6 * mT S 457 (tn k) + mT S 459 (tn k)) with
  | false =>
    rw [if_pos rfl]
    exact Iw_done hV1 hk hi40 hw1 hw2 (by decide)
  | true =>
    rw [if_neg (by decide)]
    have hX := moved_S (S := S) (sv := mT S 457 (tn k)) (ask := k) (a := 6 * mT S 457 (tn k) + mT S 459 (tn k))
    by_cases k3 : mT S 458 (tn k) = 3
    · rw [if_neg (fun z => z k3), farF_G]
      obtain ⟨f1, f2, f3, f4⟩ := WF2_far (A := 6 * mT S 457 (tn k) + mT S 459 (tn k)) hV.1 hg hV.2 hk rfl hL k3 hi hlife hw1 hw2 hno
      have eN := (inN_tn hV.1.1.1.1).1
      have hA301 : nA S < 301 := (inN_tn hV.1.1.1.1).2.1
      have e453 : mI (movedF S (mT S 457 (tn k)) k (6 * mT S 457 (tn k) + mT S 459 (tn k))) 453 = nI (nA S) := by rw [moved_I, eN] <;> rfl
      rw [e453]
      generalize farG (movedF S (mT S 457 (tn k)) k (6 * mT S 457 (tn k) + mT S 459 (tn k))) (mT S 457 (tn k)) (nI i) k = H at *
      refine Iw_send ⟨f1, fun j hj => ?_⟩ (by rw [f2]; exact inN_nIlt (Nat.lt_succ_self _) (by omega)) (fun _ => by rw [tn_nI (by omega)]; exact f4) (fun z => absurd z (by decide))
      rw [f3, if_neg (by omega)]
      exact hV.2 j (by omega)
    · rw [if_pos k3]
      have k12 : mT S 458 (tn k) = 1 ∨ mT S 458 (tn k) = 2 := by
        have e := inN_tn hq.2.1.2.2
        have e0 : tn (mT S 458 (tn k)) ≠ 0 := fun z => k0 (by rw [e.1, z]; rfl)
        have e3 : tn (mT S 458 (tn k)) ≠ 3 := fun z => k3 (by rw [e.1, z]; rfl)
        have e4 : tn (mT S 458 (tn k)) ≠ 4 := fun z => k4 (by rw [e.1, z]; rfl)
        have : tn (mT S 458 (tn k)) = 1 ∨ tn (mT S 458 (tn k)) = 2 := by omega
        rcases this with z | z
        · exact Or.inl (by rw [e.1, z]; rfl)
        · exact Or.inr (by rw [e.1, z]; rfl)
      have hM := WF2_moved (A := 6 * mT S 457 (tn k) + mT S 459 (tn k)) hV.1 hg hk rfl hL k12
      have hMs : Hs (movedF S (mT S 457 (tn k)) k (6 * mT S 457 (tn k) + mT S 459 (tn k))) := fun j hj => by
        rw [moved_nA] at hj
        rw [moved_467, if_neg (by omega)]
        exact hV.2 j hj
      refine Iw_done ⟨hM, hMs⟩ (by rw [moved_nA]; exact hk) hi40 ?_ ?_ (ne_m3 (moved_ok hV.1 hk rfl hL (k12.elim Or.inl (fun z => Or.inr (Or.inl z))) _ (inN_tn (inN_ac w2 w3)).2.1).1)
      · rw [(hX 475 (by decide)).2.1, (hX 456 (by decide)).2.1]; exact hw1
      · rw [(hX 475 (by decide)).2.1, (hX 456 (by decide)).2.1, (hX 448 (by decide)).1]; exact hw2
theorem Iw_work2 {k : Int32} {i : Nat} (hV : Iw g S) (hg : g + 1 < 1000000) (hk : inN k (nA S) = true) (hi : rw_ S (tn k) = i) (hlife : mT S 455 (tn k) = mT S 474 i) (hw1 : tn (mT S 475 i) ≤ tn (mT S 456 (tn k))) (hw2 : tn (mT S 456 (tn k)) < tn (mT S 475 i) + tn (mI S 448)) : Iw (g + 1) (work2 S (mT S 457 (tn k)) (nI i) k) := by
  have hV1 := Iw_mono hV (Nat.le_succ g) hg
  rcases work2_eq (sv := mT S 457 (tn k)) (k := k) (i := i) hV.1 with ⟨f1, f2⟩ | ⟨e, f1, f2, f3⟩
  · rw [f2]
    exact Iw_act hV hg hk hi hlife hw1 hw2 f1
  · rw [f3]
    by_cases c : e.2.2.1 = 2
    · rw [if_neg (fun z => z c)]
      split
      · next o => exact Iw_send hV1 (f2.2.2.2 c).1 (fun _ => o) (fun z => absurd z (by decide))
      · exact hV1
    · rw [if_pos c]
      refine Iw_send hV1 hk (fun z => absurd z (by decide)) (fun _ => ?_)
      split
      · next o => exact f2.2.2.1 o
      · decide
theorem Iw_work {k : Int32} {l : Nat} {up : Bool} (hV : Iw g S) (hg : g + 1 < 1000000) (hk : inN k (nA S) = true) (hl1 : l < 400) (hlw : tn (mT S 456 (tn k)) < l + tn (mI S 448)) : Iw (g + 1) (workF S (mT S 457 (tn k)) k (nI l) up) := by
  have hV1 := Iw_mono hV (Nat.le_succ g) hg
  have hkk := (inN_tn hk).2.1
  obtain ⟨w1, w2, w3, w4, w5⟩ := hV.1.1.ask hk
  have ho : 10 * mT S 457 (tn k) + mT S 454 (tn k) = nI (rw_ S (tn k)) := (of_tn w2 w1).2
  have hi := rw_lt hV.1.1 hkk
  have hs6 : mT S 455 (tn k) < mT S 474 (rw_ S (tn k)) → tn (mT S 454 (tn k)) < 6 := fun z => Decidable.byContradiction fun y => by
    have hm := hV.1.2.2.2.2.2.2.2.1 _ hi
    have hq := hV.1.2.2.2.1 _ hkk
    have e1 := inN_tn hm.1
    have e2 := inN_tn hq.1.1
    have e3 := hm.2.2.2 (by rw [rw_mod hV.1.1 hkk]; omega)
    have e4 := hq.1.2.1
    rw [e1.1, e2.1, nI_lti e2.2.2 e1.2.2] at z
    omega
  unfold workF
  simp only [ho, tn_nI (show rw_ S (tn k) < 2147483648 by omega)]
  by_cases c1 : mT S 455 (tn k) < mT S 474 (rw_ S (tn k))
  · rw [if_pos c1]
    split
    · exact hV1
    · exact ⟨WF2_send hV1.1 hk (fun z => absurd z (by decide)) (fun _ _ => hs6 c1), Hs_x (SX_send _ _ _) (by decide) hV1.2⟩
  · rw [if_neg c1]
    obtain ⟨t1, t2⟩ := WF2_learnL hV.1 hk
    have hXT := SX_learnL (S := S) (k := k) hi
    have hlifeT : mT (learnL S (nI (rw_ S (tn k))) k) 455 (tn k) = mT (learnL S (nI (rw_ S (tn k))) k) 474 (rw_ S (tn k)) := by
      rw [(hXT 455 (by decide)).2.1]
      have c2 : ¬ mT (learnL S (nI (rw_ S (tn k))) k) 474 (rw_ S (tn k)) < mT S 455 (tn k) := t2
      rw [learnL_F hi]
      by_cases c3 : mT S 474 (rw_ S (tn k)) < mT S 455 (tn k)
      · rw [if_pos c3, (life_T _).1, if_pos rfl]
      · rw [if_neg c3, n_eq]
        rw [n_lt] at c1 c3
        omega
    generalize learnL S (nI (rw_ S (tn k))) k = T at *
    obtain ⟨u1, u2⟩ := WF2_learnW (l := l) t1 hi hl1
    have hXU := SX_learnW (S := T) (l := l) hi
    have hlifeU : mT (learnW T (nI (rw_ S (tn k))) (nI l)) 474 (rw_ S (tn k)) = mT T 474 (rw_ S (tn k)) := by
      rw [learnW_F hi]
      split
      · exact (lower_T _).1
      · rfl
    generalize learnW T (nI (rw_ S (tn k))) (nI l) = U at *
    have hX : SX SMem S U := hXT.tr hXU
    have hVU : Iw g U := ⟨u1, Hs_x hX (by decide) hV.2⟩
    have nU : nA U = nA S := by unfold nA; rw [(hX 453 (by decide)).1]
    split
    · exact Iw_mono hVU (Nat.le_succ g) hg
    · next c =>
      have e57 : mT S 457 (tn k) = mT U 457 (tn k) := by rw [(hX 457 (by decide)).2.1]
      have er : rw_ U (tn k) = rw_ S (tn k) := by unfold rw_; rw [(hX 457 (by decide)).2.1, (hX 454 (by decide)).2.1]
      rw [e57]
      refine Iw_work2 hVU hg (by rw [nU]; exact hk) er ?_ ?_ ?_
      · rw [hlifeU, ← hlifeT, (hX 455 (by decide)).2.1, (hXT 455 (by decide)).2.1]
      · have a1 := inN_tn (hVU.1.2.2.2.2.2.2.2.1 _ hi).2.1
        have a2 := inN_tn (hVU.1.2.2.2.1 _ (by rw [nU]; exact hkk)).1.2.2.1
        have c' : ¬ mT U 456 (tn k) < mT U 475 (rw_ S (tn k)) := fun z => c (Or.inr z)
        rw [a1.1, a2.1, nI_lti a2.2.2 a1.2.2] at c'
        omega
      · rw [(hX 456 (by decide)).2.1, (hX 448 (by decide)).1]
        omega
theorem Iw_close {k : Nat} {st : Int32} {v : Int64} (hV : Iw g S) (hst : st = 1 ∨ st = 2) : Iw g (pJ (pT S 463 k st) 464 k v) :=
  ⟨WF2_close hV.1 hst, Hs_x (L := [463, 464]) ((SX_pT (by decide)).tr (SX_pJ (by decide))) (by decide) hV.2⟩
theorem Iw_through {k : Int32} {v : Int64} (hV : Iw g S) (hk : inN k (nA S) = true) (h6 : 6 ≤ tn (mT S 454 (tn k))) : Iw g (throughF S (mT S 454 (tn k) - 6) k v) := by
  unfold throughF
  split
  · exact hV
  · have hT : Iw g (pJ (pT S 463 (tn k) 1) 464 (tn k) v) := Iw_close hV (Or.inl rfl)
    have e4 : mT S 454 = mT (pJ (pT S 463 (tn k) 1) 464 (tn k) v) 454 := (show SX [463, 464] S (pJ (pT S 463 (tn k) 1) 464 (tn k) v) from (SX_pT (by decide)).tr (SX_pJ (by decide))) 454 (by decide) |>.2.1.symm
    have hkT : inN k (nA (pJ (pT S 463 (tn k) 1) 464 (tn k) v)) = true := by rw [nA_pJ, nA_pT]; exact hk
    rw [e4] at h6 ⊢
    generalize pJ (pT S 463 (tn k) 1) 464 (tn k) v = T at *
    obtain ⟨t1, t2, t3⟩ := thru_eq hT.1 hkT h6
    rw [t1, t3]
    have hff := (inN_tn t2).2.1
    have hi := rw_lt hT.1.1 hff
    obtain ⟨w1, w2, w3, -, -⟩ := hT.1.1.ask t2
    generalize rw_ T (tn (mT T 465 (tn k))) = i at *
    split
    · next c =>
      obtain ⟨e, he⟩ : ∃ e, fR T (nI i) (mT T 456 (tn (mT T 465 (tn k)))) = some e := by
        cases hc : fR T (nI i) (mT T 456 (tn (mT T 465 (tn k)))) with
        | none => rw [hc] at c; exact absurd c.2 (by decide)
        | some e => exact ⟨e, rfl⟩
      obtain ⟨u1, u2, u3⟩ := fR_mem he
      have hE := recW_all.mp hT.1.2.2.2.2.2.2.2.2.1 e u1
      have hlo1 := hE.1.2.2.1
      have hlo2 := hE.1.2.2.2
      rw [u2, u3, tn_nI (show i < 2147483648 by omega)] at hlo1 hlo2
      have hnum := inN_tn (hT.1.2.2.2.1 _ hff).1.2.2.1
      have ha := acc_ne hT.1 w2 w3
      have hP : WF2 g (putRecF T (nI i) (nI (tn (mT T 456 (tn (mT T 465 (tn k)))))) 1 (mJ T 452 (tn (6 * mT T 457 (tn (mT T 465 (tn k))) + mT T 459 (tn (mT T 465 (tn k)))))) k) := WF2_put hT.1 hi (by omega) hlo1 hlo2 (Or.inl ⟨rfl, ha⟩)
      rw [← hnum.1] at hP
      exact Iw_send ⟨hP, Hs_x (SX_put _ _ _ _ _) (by decide) hT.2⟩ (by rw [put_nA]; exact t2) (fun z => absurd z (by decide)) (fun _ => ha)
    · exact hT
theorem Iw_hear {k : Int32} {v : Int64} (hV : Iw g S) : Iw g (hearF S k v) := by
  unfold hearF
  split
  · refine Iw_close hV ?_
    split
    · exact Or.inr rfl
    · exact Or.inl rfl
  · exact hV
theorem Iw_pI {f : Nat} {u : Int32} (hV : Iw g S) (hf : f = 482 ∨ f = 483 ∨ f = 484 ∨ f = 485 ∨ f = 486 ∨ f = 487) : Iw g (pI S f u) := by
  have hX : SX [482, 483, 484, 485, 486, 487] S (pI S f u) := SX_pI (by simp only [List.mem_cons, List.not_mem_nil, or_false]; omega)
  exact ⟨WF2_SX hV.1 hX (by decide), Hs_x hX (by decide) hV.2⟩
theorem Iw_comes1 {k low m : Int32} {v : Int64} {ans bent : Bool} {l : Nat} (hV : Iw g S) (hg : g + 1 < 1000000) (hk : inN k (nA S) = true) (hlow : ans = false → low = nI l ∧ l < 400 ∧ tn (mT S 456 (tn k)) < l + tn (mI S 448)) : Iw (g + 1) (comes1 S k ans low v bent m) := by
  have hV1 := Iw_mono hV (Nat.le_succ g) hg
  unfold comes1
  split
  · exact hV1
  · split
    · next c =>
      obtain ⟨l1, l2, l3⟩ := hlow c
      rw [l1]
      exact Iw_work hV hg hk l2 l3
    · split
      · next c =>
        have h6 : 6 ≤ tn (mT S 454 (tn k)) := by
          have := inN_tn (hV.1.1.ask hk).1
          rw [this.1, show (5 : Int32) = nI 5 from rfl, nI_lti (by decide) (by omega)] at c
          omega
        split
        · exact Iw_through hV1 hk h6
        · exact hV1
      · exact Iw_hear hV1
theorem Iw_fallT {n : Nat} {m : Int32} (hV : Iw g S) : Iw g (fallT S n m) := by
  have h0 : Iw g (pI S 485 0) := Iw_pI hV (by omega)
  unfold fallT
  split
  · exact Iw_pI ⟨WF2_449 h0.1 (Or.inr rfl), Hs_x (L := [449]) (SX_pT (by decide)) (by decide) h0.2⟩ (by omega)
  · exact h0
theorem Iv_brings {i : Nat} {m : Int32} (hV : Iv g S) (hg : g + 1 < 1000000) (hi : i < nL S) : Iv (g + 1) (bringsF S i m) := by
  obtain ⟨hW, h467, h485⟩ := hV
  have hB : Iw g (brS S i) := ⟨WF2_br hW hi, Hs_x (SX_br S i) (by decide) h467⟩
  have hXb := SX_br S i
  have hk := hW.1.2.2.1 i hi
  have hLW := hW.2.2.2.2.2.2.1 i hi
  have hnA : nA (brS S i) = nA S := by unfold nA; rw [(hXb 453 (by decide)).1]
  have e485 : mI (brS S i) 485 = 0 := by rw [(hXb 485 (by decide)).1]; exact h485
  rw [brings_eq]
  unfold comesF
  split
  · exact ⟨WF2_mono hB.1 (Nat.le_succ g) hg, hB.2, e485⟩
  · have h5 : Iw g (pI (brS S i) 485 (bi (decide (m < 3)))) := Iw_pI hB (by omega)
    have h6 := Iw_comes1 (k := mT S 469 i) (low := mT S 471 i) (m := m) (v := mJ S 472 i) (ans := decide (mT S 470 i ≠ 0)) (bent := decide (mT S 473 i ≠ 0)) (l := tn (mT S 471 i)) h5 hg (by rw [nA_pI (by decide), hnA]; exact hk) (fun y => by
      rw [decide_eq_false_iff_not, Decidable.not_not] at y
      obtain ⟨l1, l2, l3⟩ := hLW.1 y
      rw [mT_pI, mI_pI_ne _ _ (by decide), (hXb 456 (by decide)).2.1, (hXb 448 (by decide)).1]
      exact ⟨(inN_tn l1).1, (inN_tn l1).2.1, l3⟩)
    have h7 : Iw (g + 1) (fallT (comes1 (pI (brS S i) 485 (bi (decide (m < 3)))) (mT S 469 i) (decide (mT S 470 i ≠ 0)) (mT S 471 i) (mJ S 472 i) (decide (mT S 473 i ≠ 0)) m) (tn (endOfL (brS S i) (mT S 469 i) (decide (mT S 470 i ≠ 0)))) m) := Iw_fallT h6
    refine ⟨h7.1, h7.2, ?_⟩
    show mI (fallT _ _ _) 485 = 0
    unfold fallT
    split
    · rw [mI_pI_ne _ _ (by decide), mI_pT, mI_pI, if_pos rfl]
    · rw [mI_pI, if_pos rfl]
end K5
