/-! WF2 kept: LIFE and LOW learned -/
section WL
variable {S S' : Ms} {g : Nat}
def RecE (S : Ms) (e : om_rc) : Prop :=
  (inN e.1 40 = true ∧ inN e.2.1 420 = true ∧ tn (mT S 475 (tn e.1)) ≤ tn e.2.1 ∧ tn e.2.1 < tn (mT S 475 (tn e.1)) + tn (mI S 448)) ∧
  (e.2.2.1 = 1 ∨ e.2.2.1 = 2 ∨ e.2.2.1 = 3) ∧ (e.2.2.1 = 1 → e.2.2.2.1 ≠ -3) ∧
  (e.2.2.1 = 2 → inN e.2.2.2.2 (nA S) = true ∧ 6 ≤ tn (mT S 454 (tn e.2.2.2.2)) ∧ rw_ S (tn (mT S 465 (tn e.2.2.2.2))) = tn e.1 ∧ mT S 455 (tn (mT S 465 (tn e.2.2.2.2))) = mT S 474 (tn e.1) ∧ mT S 456 (tn (mT S 465 (tn e.2.2.2.2))) = e.2.1)
theorem recW_E (r : Nat) : RecW S r ↔ RecE S (rc S r) := Iff.rfl
theorem mem_recs {e : om_rc} : e ∈ recs S ↔ ∃ r, r < nR S ∧ rc S r = e := by
  unfold recs
  rw [List.mem_map]
  exact ⟨fun ⟨r, h1, h2⟩ => ⟨r, List.mem_range.mp h1, h2⟩, fun ⟨r, h1, h2⟩ => ⟨r, List.mem_range.mpr h1, h2⟩⟩
theorem recW_all : (∀ r, r < nR S → RecW S r) ↔ ∀ e ∈ recs S, RecE S e :=
  ⟨fun z e he => by obtain ⟨r, h1, h2⟩ := mem_recs.mp he; rw [← h2]; exact z r h1, fun z r hr => z _ (mem_recs.mpr ⟨r, hr, rfl⟩)⟩
def ky (e : om_rc) : Int32 × Int32 := (e.1, e.2.1)
def RecU (S : Ms) : Prop := ∀ r s, r < nR S → s < nR S → mT S 477 r = mT S 477 s → mT S 478 r = mT S 478 s → r = s
theorem recU_iff : RecU S ↔ ((recs S).map ky).Nodup := by
  unfold recs RecU
  rw [List.map_map]
  unfold List.Nodup
  rw [List.pairwise_iff_getElem]
  simp only [List.length_map, List.length_range, List.getElem_map, List.getElem_range]
  constructor
  · intro z i j hi hj hij e
    have e2 : (mT S 477 i, mT S 478 i) = (mT S 477 j, mT S 478 j) := e
    have := z i j hi hj (congrArg Prod.fst e2) (congrArg Prod.snd e2)
    omega
  · intro z r s hr hs e1 e2
    have e3 : (ky ∘ rc S) r = (ky ∘ rc S) s := by
      show (mT S 477 r, mT S 478 r) = (mT S 477 s, mT S 478 s)
      rw [e1, e2]
    rcases Nat.lt_trichotomy r s with c | c | c
    · exact absurd e3 (z r s hr hs c)
    · exact c
    · exact absurd e3.symm (z s r hs hr c)
theorem RecU_forget (hW : WF1 S) {o b : Int32} (h : RecU S) : RecU (forgetF S o b) := by
  rw [recU_iff] at h ⊢
  rw [recs_forget hW]
  exact List.Sublist.nodup (List.Sublist.map _ List.filter_sublist) h
/-- the last clause of AskW: a FAR that was done is known for it -/
def FarK (S : Ms) (k : Nat) : Prop := mT S 466 k ≠ -1 → tn (mT S 455 k) < tn (mT S 474 (rw_ S k)) ∨ (mT S 455 k = mT S 474 (rw_ S k) ∧ (tn (mT S 456 k) < tn (mT S 475 (rw_ S k)) ∨ fR S (nI (rw_ S k)) (mT S 456 k) ≠ none))
theorem fR_none (o n : Int32) : fR S o n = none ↔ fnd S o n = none := by
  rw [fR_fnd, Option.map_eq_none_iff]
theorem FarK_of {k : Nat} (h : AskW g S k) : FarK S k := fun z => by
  rcases h.2.2.2.2.2.2.2.2 z with q | ⟨q1, q2⟩
  · exact Or.inl q
  · exact Or.inr ⟨q1, q2.elim Or.inl (fun u => Or.inr (fun v => u ((fR_none _ _).mp v)))⟩
def FarK' (S : Ms) (k : Nat) : Prop := mT S 466 k ≠ -1 → tn (mT S 455 k) < tn (mT S 474 (rw_ S k)) ∨ (mT S 455 k = mT S 474 (rw_ S k) ∧ (tn (mT S 456 k) < tn (mT S 475 (rw_ S k)) ∨ fnd S (nI (rw_ S k)) (mT S 456 k) ≠ none))
theorem FarK_to {k : Nat} (h : FarK S k) : FarK' S k := fun z => by
  rcases h z with q | ⟨q1, q2⟩
  · exact Or.inl q
  · exact Or.inr ⟨q1, q2.elim Or.inl (fun u => Or.inr (fun v => u ((fR_none _ _).mpr v)))⟩
theorem rw_lt {k : Nat} (hW : WF1 S) (hk : k < nA S) : rw_ S k < 40 := by
  obtain ⟨w1, w2, -⟩ := hW.2.1 k hk
  have := (inN_tn w1).2.1
  have := (inN_tn w2).2.1
  unfold rw_
  omega
theorem rw_mod {k : Nat} (hW : WF1 S) (hk : k < nA S) : rw_ S k % 10 = tn (mT S 454 k) := by
  obtain ⟨w1, w2, -⟩ := hW.2.1 k hk
  have := (inN_tn w1).2.1
  unfold rw_
  omega
/-- a step that touches LIFE, LOW and RECORDS of one row alone -/
theorem WF2_mem {i : Nat} (hW : WF2 g S) (hS : SX SMem S S') (h1 : WF1 S') (h4 : ∀ j, j ≠ i → j < 40 → mT S' 474 j = mT S 474 j ∧ mT S' 475 j = mT S 475 j) (hM : i < 40 → MemW g S' i) (hE : ∀ e ∈ recs S', RecE S' e) (hU : RecU S') (hF : ∀ k, k < nA S → FarK S' k) : WF2 g S' := by
  obtain ⟨a1, a2, a3, a4, a5, a6, a7, a8, a9, a10, a11⟩ := hW
  have eA : nA S' = nA S := by unfold nA; rw [(hS 453 (by decide)).1]
  have eL : nL S' = nL S := by unfold nL; rw [(hS 468 (by decide)).1]
  refine ⟨h1, by rw [(hS 448 (by decide)).1]; exact a2, fun n hn => ?_, fun k hk => ?_, ?_, ?_, fun i hi => ?_, fun j hj => ?_, recW_all.mpr hE, hU, fun a ha => by rw [(hS 452 (by decide)).2.2]; exact a11 a ha⟩
  · have q := a3 n hn
    unfold EndW at q ⊢
    rw [eA, (hS 449 (by decide)).2.1, (hS 450 (by decide)).2.1, (hS 451 (by decide)).2.1]
    exact q
  · have hk' : k < nA S := eA ▸ hk
    have q := a4 k hk'
    have f := FarK_to (hF k hk')
    unfold FarK' at f
    unfold AskW opn at q ⊢
    unfold rw_ at f ⊢
    rw [(hS 450 (by decide)).2.1, (hS 451 (by decide)).2.1, eA, (hS 454 (by decide)).2.1, (hS 455 (by decide)).2.1, (hS 456 (by decide)).2.1, (hS 457 (by decide)).2.1, (hS 458 (by decide)).2.1, (hS 462 (by decide)).2.1, (hS 463 (by decide)).2.1, (hS 465 (by decide)).2.1, (hS 466 (by decide)).2.1, (hS 467 (by decide)).2.1]
    rw [(hS 454 (by decide)).2.1, (hS 455 (by decide)).2.1, (hS 456 (by decide)).2.1, (hS 457 (by decide)).2.1, (hS 466 (by decide)).2.1] at f
    exact ⟨q.1, q.2.1, q.2.2.1, q.2.2.2.1, q.2.2.2.2.1, q.2.2.2.2.2.1, q.2.2.2.2.2.2.1, q.2.2.2.2.2.2.2.1, f⟩
  · rw [eA, (hS 454 (by decide)).2.1, (hS 455 (by decide)).2.1, (hS 456 (by decide)).2.1]
    exact a5
  · unfold opn
    rw [eA, (hS 454 (by decide)).2.1, (hS 456 (by decide)).2.1, (hS 463 (by decide)).2.1, (hS 448 (by decide)).1]
    exact a6
  · have q := a7 i (eL ▸ hi)
    unfold LetW at q ⊢
    rw [(hS 448 (by decide)).1, (hS 454 (by decide)).2.1, (hS 456 (by decide)).2.1, (hS 469 (by decide)).2.1, (hS 470 (by decide)).2.1, (hS 471 (by decide)).2.1, (hS 472 (by decide)).2.2]
    exact q
  · by_cases e : j = i
    · subst e; exact hM hj
    · have q := a8 j hj
      unfold MemW at q ⊢
      rw [(h4 j e hj).1, (h4 j e hj).2]
      exact q
theorem RecE_x {e : om_rc} (hS : SX SMem S S') (h4 : mT S' 474 (tn e.1) = mT S 474 (tn e.1)) (h5 : tn (mT S' 475 (tn e.1)) ≤ tn e.2.1 ∧ tn (mT S 475 (tn e.1)) ≤ tn (mT S' 475 (tn e.1))) (h : RecE S e) : RecE S' e := by
  unfold RecE rw_ at h ⊢
  have eA : nA S' = nA S := by unfold nA; rw [(hS 453 (by decide)).1]
  rw [h4, (hS 448 (by decide)).1, eA, (hS 454 (by decide)).2.1, (hS 455 (by decide)).2.1, (hS 456 (by decide)).2.1, (hS 457 (by decide)).2.1, (hS 465 (by decide)).2.1]
  exact ⟨⟨h.1.1, h.1.2.1, h5.1, by omega⟩, h.2⟩
theorem nI_inj {a b : Nat} (ha : a < 2147483648) (hb : b < 2147483648) (e : nI a = nI b) : a = b := by
  have := congrArg tn e
  rwa [tn_nI ha, tn_nI hb] at this
theorem WF2_life {i : Nat} {lv : Int32} (hW : WF2 g S) (hi : i < 40) (hlv : inN lv (g + 2) = true) (h6 : 6 ≤ i % 10 → tn lv ≤ 1) (hlt : tn (mT S 474 i) < tn lv) : WF2 g (lifeF S i lv) := by
  have h1 := hW.1
  have hr := recW_all.mp hW.2.2.2.2.2.2.2.2.1
  have gone : ∀ e ∈ recs (lifeF S i lv), e ∈ recs S ∧ e.1 ≠ nI i := fun e he => by
    obtain ⟨h1, h2⟩ := mem_forget (WF1_pT (by decide) (WF1_pT (by decide) h1)) he
    rw [rc_pT (by decide), rc_pT (by decide)] at h1
    refine ⟨h1, fun z => ?_⟩
    rcases h2 with q | q
    · exact q z
    · have := inN_tn (hr e h1).1.2.1
      rw [this.1, n_le, nI_int (by omega), show (2147483647 : Int32).toInt = 2147483647 from by decide] at q
      omega
  refine WF2_mem (i := i) hW SX_life (WF1_forget (WF1_pT (by decide) (WF1_pT (by decide) h1)) _ _) (fun j hj _ => ?_) (fun _ => ?_) (fun e he => ?_) (RecU_forget (WF1_pT (by decide) (WF1_pT (by decide) h1)) ?_) (fun k hk => ?_)
  · obtain ⟨t1, t2⟩ := life_T (S := S) (i := i) (lv := lv) j
    rw [t1, t2, if_neg hj, if_neg hj]; exact ⟨rfl, rfl⟩
  · obtain ⟨t1, t2⟩ := life_T (S := S) (i := i) (lv := lv) i
    unfold MemW
    rw [t1, t2, if_pos rfl, if_pos rfl]
    exact ⟨hlv, by decide, by decide, h6⟩
  · obtain ⟨g1, g2⟩ := gone e he
    have q := hr e g1
    have hne : tn e.1 ≠ i := fun z => g2 (by rw [(inN_tn q.1.1).1, z])
    obtain ⟨t1, t2⟩ := life_T (S := S) (i := i) (lv := lv) (tn e.1)
    exact RecE_x SX_life (by rw [t1, if_neg hne]) (by rw [t2, if_neg hne]; exact ⟨q.1.2.2.1, Nat.le_refl _⟩) q
  · exact hW.2.2.2.2.2.2.2.2.2.1
  · have f := FarK_of (hW.2.2.2.1 k hk)
    have hk40 := rw_lt h1 hk
    have hX := SX_life (S := S) (i := i) (lv := lv)
    unfold FarK at f ⊢
    have er : rw_ (lifeF S i lv) k = rw_ S k := by unfold rw_; rw [(hX 457 (by decide)).2.1, (hX 454 (by decide)).2.1]
    obtain ⟨t1, t2⟩ := life_T (S := S) (i := i) (lv := lv) (rw_ S k)
    rw [er, (hX 466 (by decide)).2.1, (hX 455 (by decide)).2.1, (hX 456 (by decide)).2.1, t1, t2]
    intro z
    have f := f z
    by_cases e : rw_ S k = i
    · rw [if_pos e]
      left
      rcases f with q | ⟨q, -⟩
      · rw [e] at q; omega
      · rw [q, e]; exact hlt
    · rw [if_neg e, if_neg e, fR_life h1, if_neg (fun u => e (nI_inj (by omega) (by omega) u.1))]
      exact f
theorem WF2_lower {i l : Nat} (hW : WF2 g S) (hi : i < 40) (hl : l < 400) (hlt : tn (mT S 475 i) < l) : WF2 g (lowerF S i l) := by
  have h1 := hW.1
  have hr := recW_all.mp hW.2.2.2.2.2.2.2.2.1
  have hX := SX_lower (S := S) (i := i) (l := l)
  have gone : ∀ e ∈ recs (lowerF S i l), e ∈ recs S ∧ (tn e.1 = i → l ≤ tn e.2.1) := fun e he => by
    obtain ⟨h1, h2⟩ := mem_forget (WF1_pT (by decide) h1) he
    rw [rc_pT (by decide)] at h1
    refine ⟨h1, fun z => ?_⟩
    rcases h2 with q | q
    · exact absurd (by rw [(inN_tn (hr e h1).1.1).1, z]) q
    · have := inN_tn (hr e h1).1.2.1
      rw [this.1, nI_lei (by omega) (by omega)] at q
      exact q
  refine WF2_mem (i := i) hW hX (WF1_forget (WF1_pT (by decide) h1) _ _) (fun j hj _ => ?_) (fun _ => ?_) (fun e he => ?_) (RecU_forget (WF1_pT (by decide) h1) ?_) (fun k hk => ?_)
  · obtain ⟨t1, t2⟩ := lower_T (S := S) (i := i) (l := l) j
    rw [t1, t2, if_neg hj]; exact ⟨rfl, rfl⟩
  · obtain ⟨t1, t2⟩ := lower_T (S := S) (i := i) (l := l) i
    have q := hW.2.2.2.2.2.2.2.1 i hi
    unfold MemW at q ⊢
    rw [t1, t2, if_pos rfl, tn_nI (by omega)]
    exact ⟨q.1, inN_nIlt hl (by omega), by omega, q.2.2.2⟩
  · obtain ⟨g1, g2⟩ := gone e he
    have q := hr e g1
    obtain ⟨t1, t2⟩ := lower_T (S := S) (i := i) (l := l) (tn e.1)
    refine RecE_x hX t1 ?_ q
    rw [t2]
    by_cases c : tn e.1 = i
    · rw [if_pos c, tn_nI (by omega), c]; exact ⟨g2 c, by omega⟩
    · rw [if_neg c]; exact ⟨q.1.2.2.1, Nat.le_refl _⟩
  · exact hW.2.2.2.2.2.2.2.2.2.1
  · have hak := hW.2.2.2.1 k hk
    have f := FarK_of hak
    have hk40 := rw_lt h1 hk
    unfold FarK at f ⊢
    have er : rw_ (lowerF S i l) k = rw_ S k := by unfold rw_; rw [(hX 457 (by decide)).2.1, (hX 454 (by decide)).2.1]
    obtain ⟨t1, t2⟩ := lower_T (S := S) (i := i) (l := l) (rw_ S k)
    rw [er, (hX 466 (by decide)).2.1, (hX 455 (by decide)).2.1, (hX 456 (by decide)).2.1, t1, t2]
    intro z
    rcases f z with q | ⟨q1, q2⟩
    · exact Or.inl q
    · refine Or.inr ⟨q1, ?_⟩
      by_cases e : rw_ S k = i
      · rw [if_pos e, tn_nI (by omega)]
        by_cases c : tn (mT S 456 k) < l
        · exact Or.inl c
        · right
          rcases q2 with q2 | q2
          · rw [e] at q2; omega
          · have hn := inN_tn hak.1.2.2.1
            rw [fR_lower h1, if_neg (fun u => c (by have := u.2; rw [hn.1, nI_lti (by omega) (by omega)] at this; exact this))]
            exact q2
      · rw [if_neg e, fR_lower h1, if_neg (fun u => e (nI_inj (by omega) (by omega) u.1))]
        exact q2
theorem learnL_F {i : Nat} {k : Int32} (hi : i < 40) : learnL S (nI i) k = if mT S 474 i < mT S 455 (tn k) then lifeF S i (mT S 455 (tn k)) else S := by
  unfold learnL lifeF
  rw [tn_nI (by omega)]
theorem learnW_F {i l : Nat} (hi : i < 40) : learnW S (nI i) (nI l) = if mT S 475 i < nI l then lowerF S i l else S := by
  unfold learnW lowerF
  rw [tn_nI (by omega)]
theorem WF2_learnL {k : Int32} (hW : WF2 g S) (hk : inN k (nA S) = true) : WF2 g (learnL S (nI (rw_ S (tn k))) k) ∧ ¬ mT (learnL S (nI (rw_ S (tn k))) k) 474 (rw_ S (tn k)) < mT S 455 (tn k) := by
  have hkk := (inN_tn hk).2.1
  have hi := rw_lt hW.1 hkk
  have hak := hW.2.2.2.1 _ hkk
  have hm := hW.2.2.2.2.2.2.2.1 _ hi
  rw [learnL_F hi]
  have e1 := inN_tn hm.1
  have e2 := inN_tn hak.1.1
  have hg := hW.2.1.1
  by_cases c : mT S 474 (rw_ S (tn k)) < mT S 455 (tn k)
  · rw [if_pos c]
    refine ⟨WF2_life hW hi hak.1.1 (fun z => ?_) (by rw [e1.1, e2.1, nI_lti (by omega) (by omega)] at c; exact c), ?_⟩
    · rw [rw_mod hW.1 hkk] at z
      have hn := hW.2.2.1 _ (inN_tn (hW.1.ask hk).1).2.1
      have := hak.2.2.2.1.1
      rw [hn.2.2.2.1 z] at this
      exact this
    · rw [(life_T _).1, if_pos rfl]
      intro u; rw [n_lt] at u; omega
  · rw [if_neg c]; exact ⟨hW, c⟩
theorem WF2_learnW {i l : Nat} (hW : WF2 g S) (hi : i < 40) (hl : l < 400) : WF2 g (learnW S (nI i) (nI l)) ∧ l ≤ tn (mT (learnW S (nI i) (nI l)) 475 i) := by
  have hm := hW.2.2.2.2.2.2.2.1 _ hi
  rw [learnW_F hi]
  have e1 := inN_tn hm.2.1
  by_cases c : mT S 475 i < nI l
  · rw [if_pos c]
    refine ⟨WF2_lower hW hi hl (by rw [e1.1, nI_lti (by omega) (by omega)] at c; exact c), ?_⟩
    rw [(lower_T _).2, if_pos rfl, tn_nI (by omega)]
    exact Nat.le_refl _
  · rw [if_neg c]
    rw [e1.1, nI_lti (by omega) (by omega)] at c
    exact ⟨hW, by omega⟩
end WL
