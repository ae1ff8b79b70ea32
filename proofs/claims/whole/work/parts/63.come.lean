/-! come -/
section CO
variable {x : om_x} {w : om_w} {h h' : Hp} {as : Nat → Nat} {S S' : Ms} {g : Nat}
/-- steps outside what WF2 reads -/
theorem WF2_SX {L : List Nat} (hW : WF2 g S) (hS : SX L S S') (d : dj [448, 449, 450, 451, 452, 453, 454, 455, 456, 457, 458, 459, 460, 461, 462, 463, 465, 466, 467, 468, 469, 470, 471, 472, 473, 474, 475, 476, 477, 478, 479, 480, 481] L) : WF2 g S' := by
  have h1 : WF1 S' := WF1_congr (fun f hf => (hS f (d f (by revert f; decide))).1) (fun f hf => (hS f (d f (by revert f; decide))).2.1) hW.1
  obtain ⟨a1, a2, a3, a4, a5, a6, a7, a8, a9, a10, a11⟩ := hW
  have eA : nA S' = nA S := by unfold nA; rw [(hS 453 (d 453 (by decide))).1]
  have eL : nL S' = nL S := by unfold nL; rw [(hS 468 (d 468 (by decide))).1]
  have eR : nR S' = nR S := by unfold nR; rw [(hS 476 (d 476 (by decide))).1]
  refine ⟨h1, by rw [(hS 448 (d 448 (by decide))).1]; exact a2, fun n hn => ?_, fun k hk => ?_, ?_, ?_, fun i hi => ?_, fun j hj => ?_, fun r hr => ?_, ?_, fun a ha => by rw [(hS 452 (d 452 (by decide))).2.2]; exact a11 a ha⟩
  · have q := a3 n hn
    unfold EndW at q ⊢
    rw [eA, (hS 449 (d 449 (by decide))).2.1, (hS 450 (d 450 (by decide))).2.1, (hS 451 (d 451 (by decide))).2.1]
    exact q
  · have q := a4 k (eA ▸ hk)
    unfold AskW opn rw_ fnd nR at q ⊢
    rw [(hS 450 (d 450 (by decide))).2.1, (hS 451 (d 451 (by decide))).2.1, eA, (hS 454 (d 454 (by decide))).2.1, (hS 455 (d 455 (by decide))).2.1, (hS 456 (d 456 (by decide))).2.1, (hS 457 (d 457 (by decide))).2.1, (hS 458 (d 458 (by decide))).2.1, (hS 462 (d 462 (by decide))).2.1, (hS 463 (d 463 (by decide))).2.1, (hS 465 (d 465 (by decide))).2.1, (hS 466 (d 466 (by decide))).2.1, (hS 467 (d 467 (by decide))).2.1, (hS 474 (d 474 (by decide))).2.1, (hS 475 (d 475 (by decide))).2.1, (hS 476 (d 476 (by decide))).1, (hS 477 (d 477 (by decide))).2.1, (hS 478 (d 478 (by decide))).2.1]
    exact q
  · rw [eA, (hS 454 (d 454 (by decide))).2.1, (hS 455 (d 455 (by decide))).2.1, (hS 456 (d 456 (by decide))).2.1]
    exact a5
  · unfold opn
    rw [eA, (hS 454 (d 454 (by decide))).2.1, (hS 456 (d 456 (by decide))).2.1, (hS 463 (d 463 (by decide))).2.1, (hS 448 (d 448 (by decide))).1]
    exact a6
  · have q := a7 i (eL ▸ hi)
    unfold LetW at q ⊢
    rw [(hS 448 (d 448 (by decide))).1, (hS 454 (d 454 (by decide))).2.1, (hS 456 (d 456 (by decide))).2.1, (hS 469 (d 469 (by decide))).2.1, (hS 470 (d 470 (by decide))).2.1, (hS 471 (d 471 (by decide))).2.1, (hS 472 (d 472 (by decide))).2.2]
    exact q
  · have q := a8 j hj
    unfold MemW at q ⊢
    rw [(hS 474 (d 474 (by decide))).2.1, (hS 475 (d 475 (by decide))).2.1]
    exact q
  · have q := a9 r (eR ▸ hr)
    unfold RecW rw_ at q ⊢
    rw [eA, (hS 448 (d 448 (by decide))).1, (hS 454 (d 454 (by decide))).2.1, (hS 455 (d 455 (by decide))).2.1, (hS 456 (d 456 (by decide))).2.1, (hS 457 (d 457 (by decide))).2.1, (hS 465 (d 465 (by decide))).2.1, (hS 474 (d 474 (by decide))).2.1, (hS 475 (d 475 (by decide))).2.1, (hS 477 (d 477 (by decide))).2.1, (hS 478 (d 478 (by decide))).2.1, (hS 479 (d 479 (by decide))).2.1, (hS 480 (d 480 (by decide))).2.2, (hS 481 (d 481 (by decide))).2.1]
    exact q
  · rw [eR, (hS 477 (d 477 (by decide))).2.1, (hS 478 (d 478 (by decide))).2.1]
    exact a10
/-- steps that touch the letters alone -/
theorem WF2_let (hW : WF2 g S) (hS : SX [468, 469, 470, 471, 472, 473, 483, 486] S S') (h1 : WF1 S') (hl : ∀ i, i < nL S' → LetW S' i) : WF2 g S' := by
  obtain ⟨a1, a2, a3, a4, a5, a6, a7, a8, a9, a10, a11⟩ := hW
  have eA : nA S' = nA S := by unfold nA; rw [(hS 453 (by decide)).1]
  have eR : nR S' = nR S := by unfold nR; rw [(hS 476 (by decide)).1]
  refine ⟨h1, by rw [(hS 448 (by decide)).1]; exact a2, fun n hn => ?_, fun k hk => ?_, ?_, ?_, hl, fun j hj => ?_, fun r hr => ?_, ?_, fun a ha => by rw [(hS 452 (by decide)).2.2]; exact a11 a ha⟩
  · have q := a3 n hn
    unfold EndW at q ⊢
    rw [eA, (hS 449 (by decide)).2.1, (hS 450 (by decide)).2.1, (hS 451 (by decide)).2.1]
    exact q
  · have q := a4 k (eA ▸ hk)
    unfold AskW opn rw_ fnd nR at q ⊢
    rw [(hS 450 (by decide)).2.1, (hS 451 (by decide)).2.1, eA, (hS 454 (by decide)).2.1, (hS 455 (by decide)).2.1, (hS 456 (by decide)).2.1, (hS 457 (by decide)).2.1, (hS 458 (by decide)).2.1, (hS 462 (by decide)).2.1, (hS 463 (by decide)).2.1, (hS 465 (by decide)).2.1, (hS 466 (by decide)).2.1, (hS 467 (by decide)).2.1, (hS 474 (by decide)).2.1, (hS 475 (by decide)).2.1, (hS 476 (by decide)).1, (hS 477 (by decide)).2.1, (hS 478 (by decide)).2.1]
    exact q
  · rw [eA, (hS 454 (by decide)).2.1, (hS 455 (by decide)).2.1, (hS 456 (by decide)).2.1]
    exact a5
  · unfold opn
    rw [eA, (hS 454 (by decide)).2.1, (hS 456 (by decide)).2.1, (hS 463 (by decide)).2.1, (hS 448 (by decide)).1]
    exact a6
  · have q := a8 j hj
    unfold MemW at q ⊢
    rw [(hS 474 (by decide)).2.1, (hS 475 (by decide)).2.1]
    exact q
  · have q := a9 r (eR ▸ hr)
    unfold RecW rw_ at q ⊢
    rw [eA, (hS 448 (by decide)).1, (hS 454 (by decide)).2.1, (hS 455 (by decide)).2.1, (hS 456 (by decide)).2.1, (hS 457 (by decide)).2.1, (hS 465 (by decide)).2.1, (hS 474 (by decide)).2.1, (hS 475 (by decide)).2.1, (hS 477 (by decide)).2.1, (hS 478 (by decide)).2.1, (hS 479 (by decide)).2.1, (hS 480 (by decide)).2.2, (hS 481 (by decide)).2.1]
    exact q
  · rw [eR, (hS 477 (by decide)).2.1, (hS 478 (by decide)).2.1]
    exact a10
theorem WF2_remove {i : Nat} (hW : WF2 g S) (hi : i < nL S) : WF2 g (removeF S i) := by
  have hX := SX_remove (S := S) i
  obtain ⟨r1, r2⟩ := rm_n hW.1 hi
  obtain ⟨t1, t2⟩ := remove_at (S := S) hi
  refine WF2_let hW (hX.sub (by decide)) (WF1_remove hW.1 hi) (fun j hj => ?_)
  rw [r2] at hj
  unfold LetW
  rw [t1 470 (by decide), t1 471 (by decide), t1 469 (by decide), t2, (hX 448 (by decide)).1, (hX 454 (by decide)).2.1, (hX 456 (by decide)).2.1]
  by_cases c : i ≤ j ∧ j < nL S - 1
  · rw [if_pos c, if_pos c, if_pos c, if_pos c]
    exact hW.2.2.2.2.2.2.1 (j + 1) (by omega)
  · rw [if_neg c, if_neg c, if_neg c, if_neg c]
    exact hW.2.2.2.2.2.2.1 j (by omega)
def ComeX : List Nat := ActX ++ FinX ++ [65, 390]
/-- the fall behind the deed -/
def fallT (T : Ms) (n : Nat) (m : Int32) : Ms := if m < 3 then pI (pT (pI T 485 0) 449 n 1) 484 (mI (pI T 485 0) 484 + 1) else pI T 485 0
set_option maxRecDepth 100000 in
set_option maxHeartbeats 4000000 in
theorem come_149 {i m z : Int32} {b a n c sl : Nat} {Q : Option Value → Hp → Prop} (hc : c ≤ 1) (hs : sl ≤ 15) (hr : Rep w as S h) (hI1 : Inj w) (hn : n < 10) (hm : ¬ m < 3 ↔ m = 3) (hQ : ∀ h', Rep w as (fallT S n m) h' → HX [65, 390] h h' → Q (some (.int z)) h') : J x (om_m x 6 1 15 Q) kX6_come 149 [(0, .ref (w 0 0)), (1, .int i), (2, .int m), (3, .ref b), (4, .ref a), (5, .ref (w 6 n)), (6, .int z)] [] h c sl := by
  have o1 := hr.1.1.1
  have k6 := (hr.1.2.2.1 _ hn).2.1
  have hr5 : Rep w as (pI S 485 0) h := Rep_pI (Or.inl rfl) hr
  unfold fallT at hQ
  refine J_iload_n dX6_come_149 rfl rfl ?_
  refine J_iconst (v := 3) dX6_come_150 (by decide) ?_
  refine J_icmp_eq (tgt := 160) dX6_come_151 (by decide) (fun c151 => ?_) (fun c151 => ?_)
  · refine J_iload dX6_come_160 rfl ?_
    exact J_ireturn dX6_come_162 rfl (by
     rw [if_neg (hm.mpr c151)] at hQ
     exact hQ _ hr5 HX.rf) hc hs
  · refine J_aload_n dX6_come_154 rfl rfl isR_r ?_
    refine J_aload dX6_come_155 rfl isR_r ?_
    refine J_callV (c_bringDown hI1 hn hr5) dX6_come_157 ml_X6_179 mkX6_bringDown rfl (by first | with_reducible assumption | (simp only [hK_sI, hK_sJ, hK_sR, hK_tI, hK_tJ, hK_tR]; with_reducible assumption)) (by decide) rfl rfl (Nat.le_of_ble_eq_true rfl) ⟨Nat.le_of_ble_eq_true rfl, Nat.le_of_ble_eq_true rfl⟩ ⟨hc, hs⟩ (fun v157 hp157 q157 => ?_)
    obtain ⟨rfl, z1, z2⟩ := q157
    refine J_iload dX6_come_160 rfl ?_
    exact J_ireturn dX6_come_162 rfl (by
     rw [if_pos (Decidable.byContradiction fun u => c151 (hm.mp u))] at hQ
     exact hQ _ z1 z2) hc hs
set_option maxRecDepth 100000 in
set_option maxHeartbeats 4000000 in
theorem come_85 {i m ask low : Int32} {v : Int64} {ans bent : Bool} {b l : Nat} {Q : Option Value → Hp → Prop} (hr : Rep w as S h) (hI1 : Inj w) (hW : WF2 g S) (h467 : ∀ k, nA S ≤ k → mT S 467 k = 0) (h7 : nR S + 1 < 700) (hk : inN ask (nA S) = true) (hm4 : m = 0 ∨ m = 1 ∨ m = 2 ∨ m = 3) (h485 : mI S 485 = bi (decide (m < 3))) (h486 : mI S 486 = 0) (h487 : ans = true → (mI S 487 ≠ 0 ↔ v = -3)) (hb : hK h b = 3)
    (e129 : hI h 129 b = bi ans) (e130 : ans = true → hI h 130 b = if v = -3 then 1 else 0) (e131 : hI h 131 b = bi bent) (e132 : ans = false → hI h 132 b = low) (e133 : ans = true → v ≠ -3 → hJ h 133 b = v) (hlow : ans = false → low = nI l ∧ l < 400 ∧ tn (mT S 456 (tn ask)) < l + tn (mI S 448)) (hv6 : ans = true → v = -3 → tn (mT S 454 (tn ask)) < 6)
    (hQ : ∀ (T : Ms) (as' : Nat → Nat) (h' : Hp), comes1 S ask ans low v bent m = T → (∀ j, j < nA S → as' j = as j) → Rep w as' (fallT T (tn (endOfL S ask ans)) m) h' → HX ComeX h h' → Q (some (.int (mI T 486))) h') : J x (om_m x 6 1 15 Q) kX6_come 85 [(0, .ref (w 0 0)), (1, .int i), (2, .int m), (3, .ref b), (4, .ref (as (tn ask))), (5, .ref (w 6 (tn (endOfL S ask ans))))] [] h 0 0 := by
  have hkk := (inN_tn hk).2.1
  have hen := inN_end hW.1 hk ans
  have hn := (inN_tn hen).2.1
  have hm3 : ¬ m < 3 ↔ m = 3 := by rcases hm4 with z | z | z | z <;> subst z <;> decide
  have hm0 : (0 < m) ↔ ¬ m = 0 := by rcases hm4 with z | z | z | z <;> subst z <;> decide
  have go : ∀ (T : Ms) (as' : Nat → Nat) (h' : Hp) (z : Int32) (c sl : Nat), c ≤ 1 → sl ≤ 15 → comes1 S ask ans low v bent m = T → (∀ j, j < nA S → as' j = as j) → Rep w as' T h' → HX (ActX ++ FinX) h h' → z = mI T 486 → J x (om_m x 6 1 15 Q) kX6_come 149 [(0, .ref (w 0 0)), (1, .int i), (2, .int m), (3, .ref b), (4, .ref (as (tn ask))), (5, .ref (w 6 (tn (endOfL S ask ans)))), (6, .int z)] [] h' c sl := fun T as' h' z c sl hc hs y1 y2 y3 y4 y5 => by
    refine come_149 hc hs y3 hI1 hn hm3 (fun h2 u1 u2 => ?_)
    rw [y5]
    exact hQ T as' h2 y1 y2 u1 ((y4.sub (by decide)).tr (u2.sub (by decide)))
  have o1 := hr.1.1.1
  obtain ⟨-, k6, k64, -⟩ := hr.1.2.2.1 _ hn
  by_cases d0 : m = 0
  · have e : comes1 S ask ans low v bent m = S := by unfold comes1; rw [if_pos (fun z => hm0.mp z.1 d0)]
    refine J_iconst (v := 0) dX6_come_85 (by decide) ?_
    refine J_istore dX6_come_86 (by decide) ?_
    refine J_iload_n dX6_come_88 rfl rfl ?_
    refine J_if_eq (tgt := 149) dX6_come_89 (by decide) (fun c89 => ?_) (fun c89 => (c89 d0).elim)
    exact J_loc _ rfl (go S as h 0 _ _ (by decide) (by decide) e (fun _ _ => rfl) hr HX.rf h486.symm)
  by_cases dB : bent = true
  · have e : comes1 S ask ans low v bent m = S := by unfold comes1; rw [if_pos (fun z => by rw [dB] at z; exact absurd z.2 (by decide))]
    refine J_iconst (v := 0) dX6_come_85 (by decide) ?_
    refine J_istore dX6_come_86 (by decide) ?_
    refine J_iload_n dX6_come_88 rfl rfl ?_
    refine J_if_eq (tgt := 149) dX6_come_89 (by decide) (fun c89 => (d0 c89).elim) (fun c89 => ?_)
    refine J_aload_n dX6_come_92 rfl rfl isR_r ?_
    refine J_getI dX6_come_93 g_X6_164 (by first | with_reducible assumption | (simp only [hK_sI, hK_sJ, hK_sR, hK_tI, hK_tJ, hK_tR]; with_reducible assumption)) ?_
    refine J_if_ne (tgt := 149) dX6_come_96 (by decide) (fun c96 => ?_) (fun c96 => ((show False by rw [e131] at c96; exact bi_1.mpr dB c96)).elim)
    exact J_loc _ rfl (go S as h 0 _ _ (by decide) (by decide) e (fun _ _ => rfl) hr HX.rf h486.symm)
  have dB' : bent = false := by cases bent; rfl; exact absurd rfl dB
  have hpos : 0 < m ∧ bent = false := ⟨hm0.mpr d0, dB'⟩
  have hm' : m = 1 ∨ m = 2 ∨ m = 3 := hm4.resolve_left d0
  by_cases dA : ans = false
  · obtain ⟨l1, l2, l3⟩ := hlow dA
    have e : comes1 S ask ans low v bent m = workF S (mT S 457 (tn ask)) ask (nI l) (decide (m = 1)) := by
      unfold comes1
      rw [if_neg (fun z => z hpos), if_pos dA, l1]
    refine J_iconst (v := 0) dX6_come_85 (by decide) ?_
    refine J_istore dX6_come_86 (by decide) ?_
    refine J_iload_n dX6_come_88 rfl rfl ?_
    refine J_if_eq (tgt := 149) dX6_come_89 (by decide) (fun c89 => (d0 c89).elim) (fun c89 => ?_)
    refine J_aload_n dX6_come_92 rfl rfl isR_r ?_
    refine J_getI dX6_come_93 g_X6_164 (by first | with_reducible assumption | (simp only [hK_sI, hK_sJ, hK_sR, hK_tI, hK_tJ, hK_tR]; with_reducible assumption)) ?_
    refine J_if_ne (tgt := 149) dX6_come_96 (by decide) (fun c96 => (c96 (by rw [e131]; exact bi_0.mpr dB')).elim) (fun c96 => ?_)
    refine J_aload_n dX6_come_99 rfl rfl isR_r ?_
    refine J_getI dX6_come_100 g_X6_170 (by first | with_reducible assumption | (simp only [hK_sI, hK_sJ, hK_sR, hK_tI, hK_tJ, hK_tR]; with_reducible assumption)) ?_
    refine J_if_ne (tgt := 119) dX6_come_103 (by decide) (fun c103 => (c103 (by rw [e129]; exact bi_0.mpr dA)).elim) (fun c103 => ?_)
    refine J_aload_n dX6_come_106 rfl rfl isR_r ?_
    refine J_pc (pc' := 107) rfl ?_
    refine J_aload_n dX6_come_107 rfl rfl isR_r ?_
    refine J_aload dX6_come_108 rfl isR_r ?_
    refine J_iload_n dX6_come_110 rfl rfl ?_
    refine J_callV (c_serve hr hI1 hW h467 h7 hk hb ((e132 dA).trans l1) l2 l3 hm' h485) dX6_come_111 ml_X6_278 mkX6_serve rfl (by first | with_reducible assumption | (simp only [hK_sI, hK_sJ, hK_sR, hK_tI, hK_tJ, hK_tR]; with_reducible assumption)) (by decide) rfl rfl (Nat.le_of_ble_eq_true rfl) ⟨Nat.le_of_ble_eq_true rfl, Nat.le_of_ble_eq_true rfl⟩ ⟨Nat.le_of_ble_eq_true rfl, Nat.le_of_ble_eq_true rfl⟩ (fun v111 hp111 q111 => ?_)
    obtain ⟨rfl, as', z1, z2, z3⟩ := q111
    refine J_istore dX6_come_114 (by decide) ?_
    refine J_goto (tgt := 149) dX6_come_116 (by decide) ?_
    exact J_loc _ rfl (go _ as' _ _ _ _ (by decide) (by decide) e z1 z2 (z3.sub (by decide)) (by rw [h486, Int32.sub_zero]))
  have dA' : ans = true := by cases ans; exact absurd rfl dA; rfl
  have een : endOfL S ask ans = mT S 454 (tn ask) := by unfold endOfL; rw [if_pos dA']
  have n10 := inN_tn (hW.1.ask hk).1
  by_cases d6 : 6 ≤ tn (mT S 454 (tn ask))
  · have h5 : 5 < mT S 454 (tn ask) := by rw [n10.1, show (5 : Int32) = nI 5 from rfl, nI_lti (by decide) (by omega)]; omega
    have e : comes1 S ask ans low v bent m = (if 1 < m then throughF S (mT S 454 (tn ask) - 6) ask v else S) := by
      unfold comes1
      rw [if_neg (fun z => z hpos), if_neg dA, if_pos h5]
    have hv3 : v ≠ -3 := fun z => by have := hv6 dA' z; omega
    refine J_iconst (v := 0) dX6_come_85 (by decide) ?_
    refine J_istore dX6_come_86 (by decide) ?_
    refine J_iload_n dX6_come_88 rfl rfl ?_
    refine J_if_eq (tgt := 149) dX6_come_89 (by decide) (fun c89 => (d0 c89).elim) (fun c89 => ?_)
    refine J_aload_n dX6_come_92 rfl rfl isR_r ?_
    refine J_getI dX6_come_93 g_X6_164 (by first | with_reducible assumption | (simp only [hK_sI, hK_sJ, hK_sR, hK_tI, hK_tJ, hK_tR]; with_reducible assumption)) ?_
    refine J_if_ne (tgt := 149) dX6_come_96 (by decide) (fun c96 => (c96 (by rw [e131]; exact bi_0.mpr dB')).elim) (fun c96 => ?_)
    refine J_aload_n dX6_come_99 rfl rfl isR_r ?_
    refine J_getI dX6_come_100 g_X6_170 (by first | with_reducible assumption | (simp only [hK_sI, hK_sJ, hK_sR, hK_tI, hK_tJ, hK_tR]; with_reducible assumption)) ?_
    refine J_if_ne (tgt := 119) dX6_come_103 (by decide) (fun c103 => ?_) (fun c103 => ((show False by rw [e129] at c103; exact bi_1.mpr dA' c103)).elim)
    refine J_aload dX6_come_119 rfl isR_r ?_
    refine J_pc (pc' := 121) rfl ?_
    refine J_getI dX6_come_121 g_X6_183 (by first | with_reducible assumption | (simp only [hK_sI, hK_sJ, hK_sR, hK_tI, hK_tJ, hK_tR]; with_reducible assumption)) ?_
    refine J_bipush (v := 6) dX6_come_124 (by decide) ?_
    refine J_icmp_ge (tgt := 139) dX6_come_126 (by decide) (fun c126 => ?_) (fun c126 => (c126 (by rw [k64, een]; exact (nI_lei (by decide) (by omega)).mpr d6)).elim)
    refine J_aload_n dX6_come_139 rfl rfl isR_r ?_
    refine J_aload_n dX6_come_140 rfl rfl isR_r ?_
    refine J_aload dX6_come_141 rfl isR_r ?_
    refine J_iload_n dX6_come_143 rfl rfl ?_
    refine J_callV (c_finishFar hr hI1 hW (by omega) hk d6 hb (e133 dA' hv3) hm' h485) dX6_come_144 ml_X6_286 mkX6_finishFar rfl (by first | with_reducible assumption | (simp only [hK_sI, hK_sJ, hK_sR, hK_tI, hK_tJ, hK_tR]; with_reducible assumption)) (by decide) rfl rfl (Nat.le_of_ble_eq_true rfl) ⟨Nat.le_of_ble_eq_true rfl, Nat.le_of_ble_eq_true rfl⟩ ⟨Nat.le_of_ble_eq_true rfl, Nat.le_of_ble_eq_true rfl⟩ (fun v144 hp144 q144 => ?_)
    obtain ⟨rfl, z2, z3⟩ := q144
    refine J_istore dX6_come_147 (by decide) ?_
    exact J_loc _ rfl (go _ as _ _ _ _ (by decide) (by decide) e (fun _ _ => rfl) z2 (z3.sub (by decide)) (by rw [h486, Int32.sub_zero]))
  have h5 : ¬ 5 < mT S 454 (tn ask) := by rw [n10.1, show (5 : Int32) = nI 5 from rfl, nI_lti (by decide) (by omega)]; omega
  have e : comes1 S ask ans low v bent m = hearF S ask v := by
    unfold comes1
    rw [if_neg (fun z => z hpos), if_neg dA, if_neg h5]
  have e0 : mI (hearF S ask v) 486 = 0 := by
    unfold hearF
    split
    · rw [mI_pJ, mI_pT]; exact h486
    · exact h486
  refine J_iconst (v := 0) dX6_come_85 (by decide) ?_
  refine J_istore dX6_come_86 (by decide) ?_
  refine J_iload_n dX6_come_88 rfl rfl ?_
  refine J_if_eq (tgt := 149) dX6_come_89 (by decide) (fun c89 => (d0 c89).elim) (fun c89 => ?_)
  refine J_aload_n dX6_come_92 rfl rfl isR_r ?_
  refine J_getI dX6_come_93 g_X6_164 (by first | with_reducible assumption | (simp only [hK_sI, hK_sJ, hK_sR, hK_tI, hK_tJ, hK_tR]; with_reducible assumption)) ?_
  refine J_if_ne (tgt := 149) dX6_come_96 (by decide) (fun c96 => (c96 (by rw [e131]; exact bi_0.mpr dB')).elim) (fun c96 => ?_)
  refine J_aload_n dX6_come_99 rfl rfl isR_r ?_
  refine J_getI dX6_come_100 g_X6_170 (by first | with_reducible assumption | (simp only [hK_sI, hK_sJ, hK_sR, hK_tI, hK_tJ, hK_tR]; with_reducible assumption)) ?_
  refine J_if_ne (tgt := 119) dX6_come_103 (by decide) (fun c103 => ?_) (fun c103 => ((show False by rw [e129] at c103; exact bi_1.mpr dA' c103)).elim)
  refine J_aload dX6_come_119 rfl isR_r ?_
  refine J_pc (pc' := 121) rfl ?_
  refine J_getI dX6_come_121 g_X6_183 (by first | with_reducible assumption | (simp only [hK_sI, hK_sJ, hK_sR, hK_tI, hK_tJ, hK_tR]; with_reducible assumption)) ?_
  refine J_bipush (v := 6) dX6_come_124 (by decide) ?_
  refine J_icmp_ge (tgt := 139) dX6_come_126 (by decide) (fun c126 => (d6 (by rw [k64, een] at c126; exact (nI_lei (by decide) (by omega)).mp c126)).elim) (fun c126 => ?_)
  refine J_aload_n dX6_come_129 rfl rfl isR_r ?_
  refine J_aload_n dX6_come_130 rfl rfl isR_r ?_
  refine J_aload dX6_come_131 rfl isR_r ?_
  refine J_callV (c_hear hr hb hk (e130 dA') (e133 dA') (h487 dA')) dX6_come_133 ml_X6_282 mkX6_hear rfl (by first | with_reducible assumption | (simp only [hK_sI, hK_sJ, hK_sR, hK_tI, hK_tJ, hK_tR]; with_reducible assumption)) (by decide) rfl rfl (Nat.le_of_ble_eq_true rfl) ⟨Nat.le_of_ble_eq_true rfl, Nat.le_of_ble_eq_true rfl⟩ ⟨Nat.le_of_ble_eq_true rfl, Nat.le_of_ble_eq_true rfl⟩ (fun v133 hp133 q133 => ?_)
  obtain ⟨rfl, z2, z3⟩ := q133
  refine J_goto (tgt := 149) dX6_come_136 (by decide) ?_
  exact J_loc _ rfl (go _ as _ _ _ _ (by decide) (by decide) e (fun _ _ => rfl) z2 (z3.sub (by decide)) e0.symm)
theorem fallT_486 {T : Ms} {n : Nat} {m : Int32} : mI (fallT T n m) 486 = mI T 486 := by
  unfold fallT
  split
  · rw [mI_pI_ne _ _ (by decide), mI_pT, mI_pI_ne _ _ (by decide)]
  · rw [mI_pI_ne _ _ (by decide)]
theorem bi_dec {u : Int32} (z : u = 0 ∨ u = 1) : bi (decide (u ≠ 0)) = u := by
  rcases z with z | z <;> subst z <;> decide
def BrX : List Nat := ComeX ++ [256, 257, 259, 323]
/-- the state of `brings` ahead of `comes` -/
def brS (S : Ms) (i : Nat) : Ms := pI (pI (removeF (pI S 487 (bi (decide (mT S 470 i ≠ 0 ∧ mJ S 472 i = -3)))) i) 482 (mI (removeF (pI S 487 (bi (decide (mT S 470 i ≠ 0 ∧ mJ S 472 i = -3)))) i) 482 + 1)) 486 0
theorem brings_eq (S : Ms) (i : Nat) (m : Int32) : bringsF S i m = comesF (brS S i) (mT S 469 i) (decide (mT S 470 i ≠ 0)) (mT S 471 i) (mJ S 472 i) (decide (mT S 473 i ≠ 0)) m := Eq.trans rfl rfl
theorem SX_br (S : Ms) (i : Nat) : SX [468, 469, 470, 471, 472, 473, 482, 486, 487] S (brS S i) := (SX_pI (by decide)).tr (((SX_remove i).sub (by decide)).tr ((SX_pI (by decide)).tr (SX_pI (by decide))))
theorem WF2_br {i : Nat} (hW : WF2 g S) (hi : i < nL S) : WF2 g (brS S i) := by
  have h1 : WF2 g (pI S 487 (bi (decide (mT S 470 i ≠ 0 ∧ mJ S 472 i = -3)))) := WF2_SX (L := [487]) hW (SX_pI (by decide)) (by decide)
  have h2 := WF2_remove (i := i) h1 (by rw [nL_pI (by decide)]; exact hi)
  exact WF2_SX (L := [482, 486]) h2 ((SX_pI (by decide)).tr (SX_pI (by decide))) (by decide)
set_option maxRecDepth 100000 in
set_option maxHeartbeats 4000000 in
theorem c_come {i m : Int32} (hr : Rep w as S h) (hI1 : Inj w) (hW : WF2 g S) (h467 : ∀ k, nA S ≤ k → mT S 467 k = 0) (h7 : nR S + 1 < 700) (hi : inN i (nL S) = true) (hm : inN m 4 = true) : Mt x 6 kX6_come 1 15 [.ref (w 0 0), .int i, .int m] h (fun z h' => z = some (.int (mI (bringsF S (tn i) m) 486)) ∧ ∃ as' : Nat → Nat, (∀ j, j < nA S → as' j = as j) ∧ Rep w as' (bringsF S (tn i) m) h' ∧ HX BrX h h') := by
  refine Mt.ofJ mkX6_come.1 (Nat.le_of_ble_eq_true rfl) ?_
  have hii := (inN_tn hi).2.1
  have hm4 : m = 0 ∨ m = 1 ∨ m = 2 ∨ m = 3 := by
    obtain ⟨e, e2, -⟩ := inN_tn hm
    have : tn m = 0 ∨ tn m = 1 ∨ tn m = 2 ∨ tn m = 3 := by omega
    rcases this with z | z | z | z <;> rw [e, z] <;> decide
  have hk := hW.1.2.2.1 _ hii
  have hLW := hW.2.2.2.2.2.2.1 _ hii
  have hR := hW.1.2.2.2.1 (tn i)
  have hWb := WF2_br hW hii
  have hXb := SX_br S (tn i)
  have hF := brings_eq S (tn i) m
  have hnA : nA (brS S (tn i)) = nA S := by unfold nA; rw [(hXb 453 (by decide)).1]
  have hnR : nR (brS S (tn i)) = nR S := by unfold nR; rw [(hXb 476 (by decide)).1]
  have hr1 : Rep w as (pI S 487 (bi (decide (mT S 470 (tn i) ≠ 0 ∧ mJ S 472 (tn i) = -3)))) h := Rep_pI (Or.inr (Or.inr rfl)) hr
  have hW1 : WF1 (pI S 487 (bi (decide (mT S 470 (tn i) ≠ 0 ∧ mJ S 472 (tn i) = -3)))) := WF1_pI (by decide) hW.1
  have cT := c_takeR (x := x) (i := i) hr1 hW1
  have hin : inN i (nL (pI S 487 (bi (decide (mT S 470 (tn i) ≠ 0 ∧ mJ S 472 (tn i) = -3))))) = true := by rw [nL_pI (by decide)]; exact hi
  have o1 := hr.1.1.1
  have o4 := hr.1.1.2.2.2.2
  have k4 := hr.1.2.1.2.2.2.1.1
  have h454 : mT (brS S (tn i)) 454 = mT S 454 := (hXb 454 (by decide)).2.1
  have h457 : mT (brS S (tn i)) 457 = mT S 457 := (hXb 457 (by decide)).2.1
  have h487 : mI (brS S (tn i)) 487 = bi (decide (mT S 470 (tn i) ≠ 0 ∧ mJ S 472 (tn i) = -3)) := by
    unfold brS
    rw [mI_pI_ne _ _ (by decide), mI_pI_ne _ _ (by decide), remove_I _ (by decide), mI_pI, if_pos rfl]
  have h486 : mI (brS S (tn i)) 486 = 0 := by unfold brS; rw [mI_pI, if_pos rfl]
  have hbr : ∀ hh : Hp, Rep w as (removeF (pI S 487 (bi (decide (mT S 470 (tn i) ≠ 0 ∧ mJ S 472 (tn i) = -3)))) (tn i)) hh → Rep w as (brS S (tn i)) (sI hh 257 (w 4 0) (hI hh 257 (w 4 0) + Int32.ofInt 1)) := fun hh z => by
    have e : hI hh 257 (w 4 0) = mI (removeF (pI S 487 (bi (decide (mT S 470 (tn i) ≠ 0 ∧ mJ S 472 (tn i) = -3)))) (tn i)) 482 := z.2.1.2.2.2.2.1
    have := Rep_482 (u := mI (removeF (pI S 487 (bi (decide (mT S 470 (tn i) ≠ 0 ∧ mJ S 472 (tn i) = -3)))) (tn i)) 482 + 1) z
    rw [e]
    exact Rep_pI (Or.inr (Or.inl rfl)) this
  have hLS : ∀ (hh : Hp) (b : Nat), LetOK as (pI S 487 (bi (decide (mT S 470 (tn i) ≠ 0 ∧ mJ S 472 (tn i) = -3)))) hh (tn i) b → LetOK as S hh (tn i) b := fun hh b z => z
  generalize pI S 487 (bi (decide (mT S 470 (tn i) ≠ 0 ∧ mJ S 472 (tn i) = -3))) = S1 at *
  generalize hB : brS S (tn i) = B at *
  have hkB : inN (mT S 469 (tn i)) (nA B) = true := by rw [hnA]; exact hk
  have hen := inN_end hWb.1 hkB (decide (mT S 470 (tn i) ≠ 0))
  have hn := (inN_tn hen).2.1
  have hkk := (inN_tn hk).2.1
  have fin : ∀ (T : Ms) (as' : Nat → Nat) (h' : Hp), bringsF S (tn i) m = T → (∀ j, j < nA S → as' j = as j) → Rep w as' T h' → HX BrX h h' → ((fun z h' => z = some (Value.int (mI (bringsF S (tn i) m) 486)) ∧ ∃ as' : Nat → Nat, (∀ j, j < nA S → as' j = as j) ∧ Rep w as' (bringsF S (tn i) m) h' ∧ HX BrX h h') (some (.int (mI T 486))) h') := fun T as' h' y1 y2 y3 y4 => by
    show _ ∧ _
    rw [y1]
    exact ⟨rfl, as', y2, y3, y4⟩
  generalize hQ : (fun z h' => z = some (Value.int (mI (bringsF S (tn i) m) 486)) ∧ ∃ as' : Nat → Nat, (∀ j, j < nA S → as' j = as j) ∧ Rep w as' (bringsF S (tn i) m) h' ∧ HX BrX h h') = Q at *
  have tail : ∀ (hh : Hp) (b : Nat), Rep w as B hh → HX [256, 257, 259, 323] h hh → hK hh b = 3 → LetOK as S hh (tn i) b → J x (om_m x 6 1 15 Q) kX6_come 65 [(0, .ref (w 0 0)), (1, .int i), (2, .int m), (3, .ref b), (4, .ref (as (tn (mT S 469 (tn i)))))] [.int (endOfL B (mT S 469 (tn i)) (decide (mT S 470 (tn i) ≠ 0))), .ref (w 0 0)] hh 0 0 := fun hh b zr zx zb zl => by
    have o1' := zr.1.1.1
    obtain ⟨-, k6, -⟩ := zr.1.2.2.1 _ hn
    have up := up_iff zr.2.2.1 hn
    unfold LetOK at zl
    obtain ⟨u128, u129, u130, u131, u132, u133⟩ := zl
    refine J_callV (c_endOf zr.1) dX6_come_65 ml_X6_64 mkX6_endOf rfl (by first | with_reducible assumption | (simp only [hK_sI, hK_sJ, hK_sR, hK_tI, hK_tJ, hK_tR]; with_reducible assumption)) (by decide) rfl rfl (Nat.le_of_ble_eq_true rfl) ⟨Nat.le_of_ble_eq_true rfl, Nat.le_of_ble_eq_true rfl⟩ ⟨Nat.le_of_ble_eq_true rfl, Nat.le_of_ble_eq_true rfl⟩ (fun v65 hp65 q65 => ?_)
    obtain ⟨rfl, z65⟩ := q65
    rw [z65]
    rw [if_pos hen]
    refine J_astore dX6_come_68 isR_r (by decide) ?_
    refine J_aload dX6_come_70 rfl isR_r ?_
    refine J_ifnull_r dX6_come_72 ?_
    refine J_aload dX6_come_75 rfl isR_r ?_
    refine J_getI dX6_come_77 g_X6_68 (by first | with_reducible assumption | (simp only [hK_sI, hK_sJ, hK_sR, hK_tI, hK_tJ, hK_tR]; with_reducible assumption)) ?_
    refine J_if_ne (tgt := 85) dX6_come_80 (by decide) (fun c80 => ?_) (fun c80 => ?_)
    · have nu : ¬ mT B 449 (tn (endOfL B (mT S 469 (tn i)) (decide (mT S 470 (tn i) ≠ 0)))) ≠ 0 := fun z => c80 (up.mpr z)
      have eF : bringsF S (tn i) m = fallT (comes1 (pI B 485 (bi (decide (m < 3)))) (mT S 469 (tn i)) (decide (mT S 470 (tn i) ≠ 0)) (mT S 471 (tn i)) (mJ S 472 (tn i)) (decide (mT S 473 (tn i) ≠ 0)) m) (tn (endOfL B (mT S 469 (tn i)) (decide (mT S 470 (tn i) ≠ 0)))) m := by
       rw [hF]
       unfold comesF fallT
       rw [if_neg nu]
      refine J_loc _ rfl (come_85 (S := pI B 485 (bi (decide (m < 3)))) (g := g) (ask := mT S 469 (tn i)) (ans := decide (mT S 470 (tn i) ≠ 0)) (low := mT S 471 (tn i)) (v := mJ S 472 (tn i)) (bent := decide (mT S 473 (tn i) ≠ 0)) (l := tn (mT S 471 (tn i))) (Rep_pI (Or.inl rfl) zr) hI1 (WF2_SX (L := [485]) hWb (SX_pI (by decide)) (by decide)) (fun j hj => ?_) ?_ ?_ hm4 ?_ ?_ (fun y => ?_) zb ?_ (fun y => ?_) ?_ (fun y => ?_) (fun y y2 => ?_) (fun y => ?_) (fun y y2 => ?_) (fun T as' h' y1 y2 y3 y4 => ?_))
      · rw [nA_pI (by decide), hnA] at hj
        rw [mT_pI, (hXb 467 (by decide)).2.1]
        exact h467 j hj
      · rw [nR_pI (by decide), hnR]; exact h7
      · rw [nA_pI (by decide)]; exact hkB
      · rw [mI_pI, if_pos rfl]
      · rw [mI_pI_ne _ _ (by decide)]; exact h486
      · rw [mI_pI_ne _ _ (by decide), h487]
        rw [decide_eq_true_iff] at y
        constructor
        · intro z
          have := bi_1.mp z
          rw [decide_eq_true_iff] at this
          exact this.2
        · intro z
          rw [decide_eq_true ⟨y, z⟩]
          decide
      · rw [u129, bi_dec hR.1]
      · rw [decide_eq_true_iff] at y
        rw [u130]
        by_cases z : mJ S 472 (tn i) = -3
        · rw [if_pos ⟨y, z⟩, if_pos z]
        · rw [if_neg (fun q => z q.2), if_neg z]
      · rw [u131, bi_dec hR.2]
      · rw [decide_eq_false_iff_not, Decidable.not_not] at y
        exact u132 y
      · rw [decide_eq_true_iff] at y
        exact u133 y y2
      · rw [decide_eq_false_iff_not, Decidable.not_not] at y
        obtain ⟨l1, l2, l3⟩ := hLW.1 y
        rw [mT_pI, mI_pI_ne _ _ (by decide), (hXb 456 (by decide)).2.1, (hXb 448 (by decide)).1]
        exact ⟨(inN_tn l1).1, (inN_tn l1).2.1, l3⟩
      · rw [decide_eq_true_iff] at y
        rw [mT_pI, h454]
        exact (hLW.2 y).2 y2
      · rw [nA_pI (by decide), hnA] at y2
        have y3' : Rep w as' (bringsF S (tn i) m) h' := by rw [eF, y1]; exact y3
        have := fin _ as' h' rfl y2 y3' ((zx.sub (by decide)).tr (y4.sub (by decide)))
        rw [eF, y1, fallT_486] at this
        exact this
    · refine J_iconst (v := 0) dX6_come_83 (by decide) ?_
      exact J_ireturn dX6_come_84 rfl (by
       have e : bringsF S (tn i) m = B := by
         rw [hF]
         unfold comesF
         rw [if_pos (up.mp c80)]
       have := fin B as _ e (fun _ _ => rfl) zr (zx.sub (by decide))
       rw [h486] at this
       exact this) (Nat.le_of_ble_eq_true rfl) (Nat.le_of_ble_eq_true rfl)
  refine J_aload_n dX6_come_0 rfl rfl isR_r ?_
  refine J_getRr dX6_come_1 g_X6_30 (by first | with_reducible assumption | (simp only [hK_sI, hK_sJ, hK_sR, hK_tI, hK_tJ, hK_tR]; with_reducible assumption)) (by first | with_reducible assumption | (simp only [hR_sI, hR_sJ, hR_tI, hR_tJ, hR_tR]; with_reducible assumption)) ?_
  refine J_iload_n dX6_come_4 rfl rfl ?_
  refine J_callV (cT) dX6_come_5 ml_X6_148 mkX4_take rfl (by first | with_reducible assumption | (simp only [hK_sI, hK_sJ, hK_sR, hK_tI, hK_tJ, hK_tR]; with_reducible assumption)) (by decide) rfl rfl (Nat.le_of_ble_eq_true rfl) ⟨Nat.le_of_ble_eq_true rfl, Nat.le_of_ble_eq_true rfl⟩ ⟨Nat.le_of_ble_eq_true rfl, Nat.le_of_ble_eq_true rfl⟩ (fun v5 hp5 q5 => ?_)
  rw [if_pos hin] at q5
  obtain ⟨b, rfl, zb, zl, zr, zx⟩ := q5
  have zl' := hLS _ _ zl
  have zl'' := zl'
  unfold LetOK at zl''
  obtain ⟨u128, u129, -⟩ := zl''
  have o1' := zr.1.1.1
  have o4' := zr.1.1.2.2.2.2
  have k5 := zr.1.2.1.2.2.2.1.1
  have zB := hbr _ zr
  have ne4 : w 4 0 ≠ b := fun z => by rw [z, zb] at k5; exact absurd k5 (by decide)
  have hLet : ∀ u : Int32, LetOK as S (sI hp5 257 (w 4 0) u) (tn i) b := fun u => LetOK.x (L := []) (M := [257]) SX.rf (HX_sI (by decide)) (by decide) (by decide) zb zl'
  have ak := zB.2.2.2.1.2.2.1 (tn (mT S 469 (tn i))) (by rw [hnA]; exact hkk)
  have kk : hK hp5 (as (tn (mT S 469 (tn i)))) = 1 := by
   have := ak.1
   rw [hK_sI] at this
   exact this
  have e4 := ak.2.2.2.2.2.1
  have e1 := ak.2.2.1
  refine J_astore_n dX6_come_8 rfl isR_r (by decide) ?_
  refine J_aload_n dX6_come_9 rfl rfl isR_r ?_
  refine J_ifnull_r dX6_come_10 ?_
  refine J_aload_n dX6_come_13 rfl rfl isR_r ?_
  refine J_pc (pc' := 14) rfl ?_
  refine J_getRr dX6_come_14 g_X6_167 (by first | with_reducible assumption | (simp only [hK_sI, hK_sJ, hK_sR, hK_tI, hK_tJ, hK_tR]; with_reducible assumption)) u128 ?_
  refine J_ifnonnull_r (tgt := 22) dX6_come_17 (by decide) ?_
  refine J_aload_n dX6_come_22 rfl rfl isR_r ?_
  refine J_getRr dX6_come_23 g_X6_30 (by first | with_reducible assumption | (simp only [hK_sI, hK_sJ, hK_sR, hK_tI, hK_tJ, hK_tR]; with_reducible assumption)) (by first | with_reducible assumption | (simp only [hR_sI, hR_sJ, hR_tI, hR_tJ, hR_tR]; with_reducible assumption)) ?_
  refine J_dup dX6_come_26 rfl ?_
  refine J_getI dX6_come_27 g_X6_235 (by first | with_reducible assumption | (simp only [hK_sI, hK_sJ, hK_sR, hK_tI, hK_tJ, hK_tR]; with_reducible assumption)) ?_
  refine J_iconst (v := 1) dX6_come_30 (by decide) ?_
  refine J_iadd dX6_come_31 ?_
  refine J_putI dX6_come_32 p_X6_235 (by first | with_reducible assumption | (simp only [hK_sI, hK_sJ, hK_sR, hK_tI, hK_tJ, hK_tR]; with_reducible assumption)) ?_
  refine J_pc (pc' := 35) rfl ?_
  refine J_aload_n dX6_come_35 rfl rfl isR_r ?_
  refine J_getRr dX6_come_36 g_X6_167 (by first | with_reducible assumption | (simp only [hK_sI, hK_sJ, hK_sR, hK_tI, hK_tJ, hK_tR]; with_reducible assumption)) (by rw [hR_sI]; exact u128) ?_
  refine J_astore dX6_come_39 isR_r (by decide) ?_
  refine J_aload_n dX6_come_41 rfl rfl isR_r ?_
  refine J_aload_n dX6_come_42 rfl rfl isR_r ?_
  refine J_getI dX6_come_43 g_X6_170 (by first | with_reducible assumption | (simp only [hK_sI, hK_sJ, hK_sR, hK_tI, hK_tJ, hK_tR]; with_reducible assumption)) ?_
  refine J_if_eq (tgt := 57) dX6_come_46 (by decide) (fun c46 => ?_) (fun c46 => ?_)
  · refine J_bipush (v := 6) dX6_come_57 (by decide) ?_
    refine J_aload dX6_come_59 rfl isR_r ?_
    refine J_getI dX6_come_61 g_X6_108 (by first | with_reducible assumption | (simp only [hK_sI, hK_sJ, hK_sR, hK_tI, hK_tJ, hK_tR]; with_reducible assumption)) ?_
    refine J_iadd dX6_come_64 ?_
    have d470 : mT S 470 (tn i) = 0 := (hLet _).2.1.symm.trans c46
    have eE : endOfL B (mT S 469 (tn i)) (decide (mT S 470 (tn i) ≠ 0)) = 6 + mT B 457 (tn (mT S 469 (tn i))) := by
     unfold endOfL
     rw [if_neg (by rw [d470]; decide)]
    refine J_st (st' := [.int (endOfL B (mT S 469 (tn i)) (decide (mT S 470 (tn i) ≠ 0))), .ref (w 0 0)]) (by rw [eE, ← e4] <;> rfl) ?_
    exact J_loc _ rfl (tail _ b zB ((zx.sub (by decide)).tr (HX_sI (by decide))) (by rw [hK_sI]; exact zb) (hLet _))
  · refine J_aload dX6_come_49 rfl isR_r ?_
    refine J_getI dX6_come_51 g_X6_89 (by first | with_reducible assumption | (simp only [hK_sI, hK_sJ, hK_sR, hK_tI, hK_tJ, hK_tR]; with_reducible assumption)) ?_
    refine J_goto (tgt := 65) dX6_come_54 (by decide) ?_
    have d470 : ¬ mT S 470 (tn i) = 0 := fun y => c46 ((hLet _).2.1.trans y)
    have eE : endOfL B (mT S 469 (tn i)) (decide (mT S 470 (tn i) ≠ 0)) = mT B 454 (tn (mT S 469 (tn i))) := by
     unfold endOfL
     rw [if_pos (by rw [decide_eq_true_iff]; exact d470)]
    refine J_st (st' := [.int (endOfL B (mT S 469 (tn i)) (decide (mT S 470 (tn i) ≠ 0))), .ref (w 0 0)]) (by rw [eE, ← e1] <;> rfl) ?_
    exact J_loc _ rfl (tail _ b zB ((zx.sub (by decide)).tr (HX_sI (by decide))) (by rw [hK_sI]; exact zb) (hLet _))
end CO
