/-! what Rep doesn't read; a FAR and its own ASK are tied -/
section LK
variable {x : om_x} {w : om_w} {h h' : Hp} {as : Nat → Nat} {S S' : Ms} {g : Nat}
theorem Rep_SX {L : List Nat} (hS : SX L S S') (d : dj [448, 449, 450, 451, 452, 453, 454, 455, 456, 457, 458, 459, 460, 461, 462, 463, 464, 465, 466, 467, 468, 469, 470, 471, 472, 473, 474, 475, 476, 477, 478, 479, 480, 482, 483, 484] L) (hr : Rep w as S h) : Rep w as S' h := by
  have hH : HX [] h h := HX.rf
  have dd : ∀ A : List Nat, (∀ f ∈ A, f ∈ [448, 449, 450, 451, 452, 453, 454, 455, 456, 457, 458, 459, 460, 461, 462, 463, 464, 465, 466, 467, 468, 469, 470, 471, 472, 473, 474, 475, 476, 477, 478, 479, 480, 482, 483, 484]) → dj A L := fun A z f hf => d f (z f hf)
  obtain ⟨a1, a2, a3, a4, a5, a6, a7⟩ := hr
  exact ⟨a1, a2.x hS hH (dd _ (by decide)) (by decide) a1, a3.x hS hH (dd _ (by decide)) (by decide) a1, a4.x hS hH (dd _ (by decide)) (by decide) a1, a5.x hS hH (dd _ (by decide)) (by decide) a1, a6.x hS hH (dd _ (by decide)) (by decide) a1, a7.x hS hH (dd _ (by decide)) (by decide) a1⟩
theorem lnk_nI {k : Nat} (hk : k < 2147483648) : lnk as (nI k) = some (as k) := by
  have := lnk_r (as := as) (v := nI k) (n := k + 1) (inN_nIlt (Nat.lt_succ_self _) (by omega))
  rw [tn_nI hk] at this
  exact this
/-- own is the index j, far the index k -/
theorem Rep_link {j k : Nat} (hr : Rep w as S h) (hW : inN (mI S 453) 301 = true) (hj : j < nA S) (hk : k < nA S) (hjk : j ≠ k) : Rep w as (pT (pT S 465 j (nI k)) 466 k (nI j)) (sR (sR h 13 (as j) (some (as k))) 14 (as k) (some (as j))) := by
  have hS : SX [465, 466] S (pT (pT S 465 j (nI k)) 466 k (nI j)) := (SX_pT (by decide)).tr (SX_pT (by decide))
  have hH : HX [13, 14] h (sR (sR h 13 (as j) (some (as k))) 14 (as k) (some (as j))) := (HX_sR (by decide)).tr (HX_sR (by decide))
  have hA := (inN_tn hW).2.1
  have hA2 : nA S < 301 := hA
  have m465 : ∀ i, mT (pT (pT S 465 j (nI k)) 466 k (nI j)) 465 i = if i = j then nI k else mT S 465 i := fun i => by simp [mT_pT]
  have m466 : ∀ i, mT (pT (pT S 465 j (nI k)) 466 k (nI j)) 466 i = if i = k then nI j else mT S 466 i := fun i => by simp [mT_pT]
  have eA : nA (pT (pT S 465 j (nI k)) 466 k (nI j)) = nA S := by rw [nA_pT, nA_pT]
  obtain ⟨a1, a2, a3, a4, a5, a6, a7⟩ := hr
  refine ⟨a1.x hH (by decide), a2.x hS hH (by decide) (by decide) a1, a3.x hS hH (by decide) (by decide) a1, ?_, a5.x hS hH (by decide) (by decide) a1, a6.x hS hH (by decide) (by decide) a1, a7.x hS hH (by decide) (by decide) a1⟩
  obtain ⟨r1, r2, r3, r4⟩ := a4
  refine ⟨fun i hi => by rw [aR_sR, aR_sR]; exact r1 i (eA ▸ hi), fun i hi hi2 => by rw [aR_sR, aR_sR]; exact r2 i (eA ▸ hi) hi2, fun i hi => ?_, fun i l hi hl => r4 i l (eA ▸ hi) (eA ▸ hl)⟩
  have hi' : i < nA S := eA ▸ hi
  have q := r3 i hi'
  unfold AskOK at q ⊢
  rw [hK_sR, hK_sR, hI_sR, hI_sR, hJ_sR, hJ_sR, hR_sR, hR_sR, hR_sR, hR_sR]
  rw [(hS 454 (by decide)).2.1, (hS 455 (by decide)).2.1, (hS 456 (by decide)).2.1, (hS 457 (by decide)).2.1, (hS 458 (by decide)).2.1, (hS 459 (by decide)).2.1, (hS 460 (by decide)).2.1, (hS 461 (by decide)).2.1, (hS 462 (by decide)).2.1, (hS 463 (by decide)).2.1, (hS 464 (by decide)).2.2, (hS 467 (by decide)).2.1, m465, m466]
  obtain ⟨q0, q1, q2, q3, q4, q5, q6, q7, q8, q9, q10, q11, q12, q13, q14⟩ := q
  refine ⟨q0, q1, q2, q3, q4, q5, q6, q7, q8, q9, q10, q11, q12, ?_, ?_⟩
  · rw [if_neg (fun z => absurd z.1 (by decide))]
    by_cases e : i = j
    · rw [if_pos ⟨rfl, by rw [e]⟩, if_pos e, lnk_nI (by omega)]
    · rw [if_neg (fun z => e (r4 i j hi' hj z.2)), if_neg e, q13]
  · by_cases e : i = k
    · rw [if_pos ⟨rfl, by rw [e]⟩, if_pos e, lnk_nI (by omega)]
    · rw [if_neg (fun z => e (r4 i k hi' hk z.2)), if_neg (fun z => absurd z.1 (by decide)), if_neg e, q14]
end LK
