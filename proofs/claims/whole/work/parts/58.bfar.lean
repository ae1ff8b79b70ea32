/-! beginFar -/
section BF
variable {x : om_x} {w : om_w} {h h' : Hp} {as : Nat → Nat} {S S' : Ms} {g : Nat}
def FarX : List Nat := [67, 68, 389, 313, 329, 12, 13, 14, 335, 193, 194, 195, 350, 359]
theorem newN {sv t b amt : Int32} {q : Nat} (hs : inN sv 4 = true) (h300 : nA S < 300) (hW : WF1 S) (z : Rep w (asN as S q) (newAskF S (6 + sv) t 1 b b t amt (-1)) h) : Rep w (asN as S q) (newAskF S (6 + sv) t 1 b 0 0 amt (-1)) h := by
  have e6 := (inN_tn (inN_sv hs)).1
  have hsx : SX [460, 461] (newAskF S (6 + sv) t 1 b b t amt (-1)) (newAskF S (6 + sv) t 1 b 0 0 amt (-1)) := fun f hf => by
    simp only [List.mem_cons, List.not_mem_nil, or_false, not_or] at hf
    refine ⟨?_, ?_, ?_⟩
    · unfold newAskF
      simp only [mI_pT]
    · funext i
      unfold newAskF
      simp [mT_pT, hf.1, hf.2]
    · unfold newAskF
      rfl
  refine Rep_460 hsx (fun k hk hn => ?_) z
  rw [(new_n hW h300).2] at hk
  obtain ⟨a1, -, -, -, -, -, -, a8, a9, -⟩ := new_T (S := S) (n := 6 + sv) (sv := t) (kind := 1) (a := b) (b := b) (t := t) (amt := amt) (far := -1) k
  obtain ⟨-, -, -, -, -, -, -, b8, b9, -⟩ := new_T (S := S) (n := 6 + sv) (sv := t) (kind := 1) (a := b) (b := 0) (t := 0) (amt := amt) (far := -1) k
  have ne : k ≠ nA S := fun e => by
    rw [a1, if_pos e] at hn
    have h2 : 6 + sv = nI (6 + tn sv) := by
      conv => lhs; rw [(inN_tn hs).1]
      rw [show (6 : Int32) = nI 6 from rfl, zI_add]
    have h3 := (inN_tn hs).2.1
    rw [h2, show (6 : Int32) = nI 6 from rfl, nI_lti (by omega) (by omega)] at hn
    omega
  rw [a8, a9, b8, b9, if_neg ne, if_neg ne, if_neg ne, if_neg ne]
  exact ⟨rfl, rfl⟩
set_option maxRecDepth 100000 in
set_option maxHeartbeats 4000000 in
theorem c_beginFar {k : Int32} {i num : Nat} (hr : Rep w as S h) (hI1 : Inj w) (hW : WF2 g S) (h467 : ∀ k, nA S ≤ k → mT S 467 k = 0) (h7 : nR S < 700) (hk : inN k (nA S) = true) (hkd : mT S 458 (tn k) = 3) (hnm : mT S 454 (tn k) < 6) (hb1 : -1000000 ≤ (mT S 462 (tn k)).toInt) (hb2 : (mT S 462 (tn k)).toInt ≤ 1000000) (hi : i < 40) (hnum : mT S 456 (tn k) = nI num) (hw1 : tn (mT S 475 i) ≤ num) (hw2 : num < tn (mT S 475 i) + tn (mI S 448)) : Mt x 3 kX6_beginFar 1 15 [.ref (w 0 0), .ref (w 8 (tn (mT S 457 (tn k)))), .ref (w 11 i), .ref (as (tn k))] h (fun z h' => if letF S (mT S 457 (tn k)) k (6 * mT S 457 (tn k) + mT S 459 (tn k)) = false then z = some .null ∧ Rep w as S h' ∧ HX FarX h h' else ∃ q, z = some (.ref q) ∧ Rep w (asN as S q) (farG (movedF S (mT S 457 (tn k)) k (6 * mT S 457 (tn k) + mT S 459 (tn k))) (mT S 457 (tn k)) (nI i) k) h' ∧ HX FarX h h') := by
  refine Mt.ofJ mkX6_beginFar.1 (Nat.le_of_ble_eq_true rfl) ?_
  have hkk := (inN_tn hk).2.1
  have hke := (inN_tn hk).1
  obtain ⟨w1, w2, w3, w4, w5⟩ := hW.1.ask hk
  obtain ⟨q0, q1, q2, q3, q4, q5, q6, q7, q8, q9, q10, -⟩ := hr.2.2.2.1.2.2.1 _ hkk
  obtain ⟨q8a, q8b⟩ := q8 hnm
  have o1 := hr.1.1.1
  have hs4 := (inN_tn w2).2.1
  have ha6 := (inN_tn w3).2.1
  have k8 := (hr.1.2.2.2.1 _ hs4).2.1
  have eA := ac_tn w2 w3
  have eV := hr.2.2.2.2.2.1 _ _ hs4 ha6
  have kM := (Rep.mk hr.1 hi).1
  generalize hs : mT S 457 (tn k) = sv at *
  have h6 := inN_sv w2
  have e6 := (inN_tn h6).1
  have hn6 := (inN_tn h6).2.1
  have k6 := (hr.1.2.2.1 _ hn6).2.1
  have n1 : ¬ mT S 458 (tn k) = 1 := by rw [hkd]; decide
  have n2 : ¬ mT S 458 (tn k) = 2 := by rw [hkd]; decide
  have eN := (inN_tn hW.1.1.1).1
  have eN3 : nA S < 301 := (inN_tn hW.1.1.1).2.1
  have eng : (0 - hI h 9 (as (tn k))).toInt64 = 0 - (mT S 462 (tn k)).toInt64 := by rw [q9]; exact neg64 hb1 hb2
  have eL : letF S sv k (6 * sv + mT S 459 (tn k)) = (okV (aJ h 65 (w 9 (tn sv)) (tn (hI h 6 (as (tn k)))) + (0 - hI h 9 (as (tn k))).toInt64) && (decide (mI S 453 < 300) && !usedUp S (6 + sv))) := by
    unfold letF
    rw [if_neg n1, if_neg n2, eng, q7, eV, ← eA, add_z64]
  have a9 : inN (hI h 6 (as (tn k))) 6 = true := by rw [q7]; exact w3
  by_cases hc : mI S 453 < 300 ∧ usedUp S (nI (tn (6 + sv))) = false
  · have h300 : nA S < 300 := by
      have := hc.1
      rw [eN, show (300 : Int32) = nI 300 from rfl, nI_lti (by unfold nA at eN3; omega) (by decide)] at this
      exact this
    refine J_aload_n dX6_beginFar_0 rfl rfl isR_r ?_
    refine J_bipush (v := 6) dX6_beginFar_1 (by decide) ?_
    refine J_aload_n dX6_beginFar_3 rfl rfl isR_r ?_
    refine J_getI dX6_beginFar_4 g_X6_108 (by first | with_reducible assumption | (simp only [hK_sI, hK_sJ, hK_sR, hK_tI, hK_tJ, hK_tR]; with_reducible assumption)) ?_
    refine J_iadd dX6_beginFar_7 ?_
    rw [q5]
    refine J_callV (c_endOf hr.1) dX6_beginFar_8 ml_X6_64 mkX6_endOf rfl (by first | with_reducible assumption | (simp only [hK_sI, hK_sJ, hK_sR, hK_tI, hK_tJ, hK_tR]; with_reducible assumption)) (by decide) rfl rfl (Nat.le_of_ble_eq_true rfl) ⟨Nat.le_of_ble_eq_true rfl, Nat.le_of_ble_eq_true rfl⟩ ⟨Nat.le_of_ble_eq_true rfl, Nat.le_of_ble_eq_true rfl⟩ (fun v8 hp8 q8 => ?_)
    obtain ⟨rfl, z8⟩ := q8
    rw [z8]
    rw [h6]
    refine J_astore dX6_beginFar_11 isR_r (by decide) ?_
    refine J_aload dX6_beginFar_13 rfl isR_r ?_
    refine J_pc (pc' := 15) rfl ?_
    refine J_ifnull_r dX6_beginFar_15 ?_
    refine J_aload_n dX6_beginFar_18 rfl rfl isR_r ?_
    refine J_aload_n dX6_beginFar_19 rfl rfl isR_r ?_
    refine J_getI dX6_beginFar_20 g_X6_252 (by first | with_reducible assumption | (simp only [hK_sI, hK_sJ, hK_sR, hK_tI, hK_tJ, hK_tR]; with_reducible assumption)) ?_
    refine J_aload_n dX6_beginFar_23 rfl rfl isR_r ?_
    refine J_getI dX6_beginFar_24 g_X6_261 (by first | with_reducible assumption | (simp only [hK_sI, hK_sJ, hK_sR, hK_tI, hK_tJ, hK_tR]; with_reducible assumption)) ?_
    refine J_ineg dX6_beginFar_27 ?_
    refine J_i2l dX6_beginFar_28 ?_
    refine J_pc (pc' := 29) rfl ?_
    refine J_callV (c_lets hr.1 hs4 a9) dX6_beginFar_29 ml_X6_335 mkX5_lets rfl (by first | with_reducible assumption | (simp only [hK_sI, hK_sJ, hK_sR, hK_tI, hK_tJ, hK_tR]; with_reducible assumption)) (by decide) rfl rfl (Nat.le_of_ble_eq_true rfl) ⟨Nat.le_of_ble_eq_true rfl, Nat.le_of_ble_eq_true rfl⟩ ⟨Nat.le_of_ble_eq_true rfl, Nat.le_of_ble_eq_true rfl⟩ (fun v29 hp29 q29 => ?_)
    obtain ⟨rfl, z29⟩ := q29
    rw [z29]
    refine J_if_ne (tgt := 37) dX6_beginFar_32 (by decide) (fun c32 => ?_) (fun c32 => ?_)
    · refine J_aload_n dX6_beginFar_37 rfl rfl isR_r ?_
      refine J_aload dX6_beginFar_38 rfl isR_r ?_
      refine J_aload_n dX6_beginFar_40 rfl rfl isR_r ?_
      refine J_getI dX6_beginFar_41 g_X6_258 (by first | with_reducible assumption | (simp only [hK_sI, hK_sJ, hK_sR, hK_tI, hK_tJ, hK_tR]; with_reducible assumption)) ?_
      refine J_iconst (v := 1) dX6_beginFar_44 (by decide) ?_
      refine J_aload_n dX6_beginFar_45 rfl rfl isR_r ?_
      refine J_getI dX6_beginFar_46 g_X6_255 (by first | with_reducible assumption | (simp only [hK_sI, hK_sJ, hK_sR, hK_tI, hK_tJ, hK_tR]; with_reducible assumption)) ?_
      refine J_aload_n dX6_beginFar_49 rfl rfl isR_r ?_
      refine J_pc (pc' := 50) rfl ?_
      refine J_getI dX6_beginFar_50 g_X6_255 (by first | with_reducible assumption | (simp only [hK_sI, hK_sJ, hK_sR, hK_tI, hK_tJ, hK_tR]; with_reducible assumption)) ?_
      refine J_aload_n dX6_beginFar_53 rfl rfl isR_r ?_
      refine J_getI dX6_beginFar_54 g_X6_258 (by first | with_reducible assumption | (simp only [hK_sI, hK_sJ, hK_sR, hK_tI, hK_tJ, hK_tR]; with_reducible assumption)) ?_
      refine J_aload_n dX6_beginFar_57 rfl rfl isR_r ?_
      refine J_getI dX6_beginFar_58 g_X6_261 (by first | with_reducible assumption | (simp only [hK_sI, hK_sJ, hK_sR, hK_tI, hK_tJ, hK_tR]; with_reducible assumption)) ?_
      refine J_callV (c_newAsk hr hI1 hW hn6 h467) dX6_beginFar_61 ml_X6_73 mkX6_newAsk rfl (by first | with_reducible assumption | (simp only [hK_sI, hK_sJ, hK_sR, hK_tI, hK_tJ, hK_tR]; with_reducible assumption)) (by decide) rfl rfl (Nat.le_of_ble_eq_true rfl) ⟨Nat.le_of_ble_eq_true rfl, Nat.le_of_ble_eq_true rfl⟩ ⟨Nat.le_of_ble_eq_true rfl, Nat.le_of_ble_eq_true rfl⟩ (fun v61 hp61 q61 => ?_)
      rw [if_pos hc] at q61
      obtain ⟨q, rfl, z1, z2⟩ := q61
      rw [← e6, q8a, q8b, q9] at z1
      have ht : letF S sv k (6 * sv + mT S 459 (tn k)) = true := by rw [eL, bi_1.mp c32, decide_eq_true hc.1, e6, hc.2]; rfl
      have hN : Rep w (asN as S q) (newAskF S (6 + sv) (mT S 461 (tn k)) 1 (mT S 460 (tn k)) 0 0 (mT S 462 (tn k)) (-1)) hp61 := newN w2 h300 hW.1 z1
      obtain ⟨nn1, nn2⟩ := new_n (S := S) (n := 6 + sv) (sv := mT S 461 (tn k)) (kind := 1) (a := mT S 460 (tn k)) (b := 0) (t := 0) (amt := mT S 462 (tn k)) (far := -1) hW.1 h300
      have hNT := new_T (S := S) (n := 6 + sv) (sv := mT S 461 (tn k)) (kind := 1) (a := mT S 460 (tn k)) (b := 0) (t := 0) (amt := mT S 462 (tn k)) (far := -1) (tn k)
      have hSX := SX_new (S := S) (n := 6 + sv) (sv := mT S 461 (tn k)) (kind := 1) (a := mT S 460 (tn k)) (b := 0) (t := 0) (amt := mT S 462 (tn k)) (far := -1)
      have hkn : tn k ≠ nA S := by omega
      generalize hNN : newAskF S (6 + sv) (mT S 461 (tn k)) 1 (mT S 460 (tn k)) 0 0 (mT S 462 (tn k)) (-1) = N at *
      have ak := hN.2.2.2.1.2.2.1 (tn k) (by rw [nn2]; omega)
      unfold AskOK at ak
      rw [asN_old hkk, hNT.1, hNT.2.2.1, hNT.2.2.2.2.2.2.1, hNT.2.2.2.2.2.2.2.2.2.1, if_neg hkn, if_neg hkn, if_neg hkn, if_neg hkn] at ak
      obtain ⟨p0, p1, p2, p3, p4, p5, p6, p7, p8, p9, -⟩ := ak
      have k8' := (hN.1.2.2.2.1 _ hs4).2.1
      have kM' := (Rep.mk hN.1 hi).1
      refine J_astore dX6_beginFar_64 isR_r (by decide) ?_
      refine J_aload dX6_beginFar_66 rfl isR_r ?_
      refine J_pc (pc' := 68) rfl ?_
      refine J_ifnonnull_r (tgt := 73) dX6_beginFar_68 (by decide) ?_
      refine J_aload_n dX6_beginFar_73 rfl rfl isR_r ?_
      refine J_aload_n dX6_beginFar_74 rfl rfl isR_r ?_
      refine J_getI dX6_beginFar_75 g_X6_252 (by first | with_reducible assumption | (simp only [hK_sI, hK_sJ, hK_sR, hK_tI, hK_tJ, hK_tR]; with_reducible assumption)) ?_
      refine J_aload_n dX6_beginFar_78 rfl rfl isR_r ?_
      refine J_getI dX6_beginFar_79 g_X6_261 (by first | with_reducible assumption | (simp only [hK_sI, hK_sJ, hK_sR, hK_tI, hK_tJ, hK_tR]; with_reducible assumption)) ?_
      refine J_ineg dX6_beginFar_82 ?_
      refine J_i2l dX6_beginFar_83 ?_
      rw [p7, p9, neg64 hb1 hb2]
      refine J_callV (c_change hN.1 hs4 w3) dX6_beginFar_84 ml_X6_339 mkX5_change rfl (by first | with_reducible assumption | (simp only [hK_sI, hK_sJ, hK_sR, hK_tI, hK_tJ, hK_tR]; with_reducible assumption)) (by decide) rfl rfl (Nat.le_of_ble_eq_true rfl) ⟨Nat.le_of_ble_eq_true rfl, Nat.le_of_ble_eq_true rfl⟩ ⟨Nat.le_of_ble_eq_true rfl, Nat.le_of_ble_eq_true rfl⟩ (fun v84 hp84 q84 => ?_)
      obtain ⟨rfl, z84⟩ := q84
      rw [z84]
      refine J_pc (pc' := 87) rfl ?_
      refine J_aload_n dX6_beginFar_87 rfl rfl isR_r ?_
      refine J_aload_n dX6_beginFar_88 rfl rfl isR_r ?_
      refine J_getI dX6_beginFar_89 g_X6_105 (by first | with_reducible assumption | (simp only [hK_sI, hK_sJ, hK_sR, hK_tI, hK_tJ, hK_tR]; with_reducible assumption)) ?_
      refine J_iconst (v := 2) dX6_beginFar_92 (by decide) ?_
      refine J_lconst (v := 0) dX6_beginFar_93 (by decide) ?_
      rw [hI_tJ, p4, hnum]
      refine J_callV (c_writeR (own := nI (nA S)) (V := 0) (Rep_acc (u := 0 - (mT S 462 (tn k)).toInt64) hI1 hs4 ha6 hN) hI1 (by rw [mI_pJ, (hSX 476 (by decide)).1]; exact hW.1.1.2.2) (by rw [nR_pJ]; unfold nR; rw [(hSX 476 (by decide)).1]; exact h7) hi (by unfold LoOK; rw [mI_pJ, mT_pJ, (hSX 448 (by decide)).1, (hSX 475 (by decide)).2.1]; exact hW.lo hi) (by rw [mT_pJ, (hSX 475 (by decide)).2.1]; exact hw1) (by rw [mI_pJ, mT_pJ, (hSX 448 (by decide)).1, (hSX 475 (by decide)).2.1]; exact hw2) (Or.inr (Or.inl rfl))) dX6_beginFar_94 ml_X6_331 mkX3_write rfl (by first | with_reducible assumption | (simp only [hK_sI, hK_sJ, hK_sR, hK_tI, hK_tJ, hK_tR]; with_reducible assumption)) (by decide) rfl rfl (Nat.le_of_ble_eq_true rfl) ⟨Nat.le_of_ble_eq_true rfl, Nat.le_of_ble_eq_true rfl⟩ ⟨Nat.le_of_ble_eq_true rfl, Nat.le_of_ble_eq_true rfl⟩ (fun v94 hp94 q94 => ?_)
      obtain ⟨rfl, z3, z4⟩ := q94
      have mJN : mJ N 452 = mJ S 452 := (hSX 452 (by decide)).2.2
      generalize hP : putRecF (pJ N 452 (6 * tn sv + tn (mT S 459 (tn k))) (mJ N 452 (6 * tn sv + tn (mT S 459 (tn k))) + (0 - (mT S 462 (tn k)).toInt64))) (nI i) (nI num) 2 0 (nI (nA S)) = P at z3
      have hP453 : mI P 453 = nI (nA S + 1) := by rw [← hP, put_I _ _ _ _ _ (by decide), mI_pJ, nn1]
      have hPA : nA P = nA S + 1 := by unfold nA; rw [hP453, tn_nI (by omega)]; rfl
      have r1 := (z3.2.2.2.1.2.2.1 (nA S) (by omega)).1
      rw [asN_new] at r1
      have r2 := (z3.2.2.2.1.2.2.1 (tn k) (by omega)).1
      rw [asN_old hkk] at r2
      have hL := Rep_link (j := nA S) (k := tn k) z3 (by rw [hP453]; exact inN_nIlt (by omega) (by decide)) (by omega) (by omega) (Ne.symm hkn)
      rw [asN_new, asN_old hkk] at hL
      have hMk := Rep_mark (k := tn k) hL (by rw [nA_pT, nA_pT]; omega)
      rw [asN_old hkk, ← hke] at hMk
      have hHH : Rep w (asN as S q) (farH S sv (nI i) k (6 * sv + mT S 459 (tn k))) (sI (sR (sR hp94 13 q (some (as (tn k)))) 14 (as (tn k)) (some q)) 12 (as (tn k)) 1) := by
       unfold farH
       rw [hNN, eA, hnum, ← mJN, hP]
       exact hMk
      have hFin := Rep_SX (L := []) (SX_far (sv := sv) (o := nI i) (A := 6 * sv + mT S 459 (tn k)) hkk hkd eN) (by decide) hHH
      refine J_aload dX6_beginFar_97 rfl isR_r ?_
      refine J_aload_n dX6_beginFar_99 rfl rfl isR_r ?_
      refine J_pc (pc' := 100) rfl ?_
      refine J_putRr dX6_beginFar_100 p_X6_114 (Or.inl ⟨_, rfl⟩) (by first | with_reducible assumption | (simp only [hK_sI, hK_sJ, hK_sR, hK_tI, hK_tJ, hK_tR]; with_reducible assumption)) ?_
      refine J_aload_n dX6_beginFar_103 rfl rfl isR_r ?_
      refine J_aload dX6_beginFar_104 rfl isR_r ?_
      refine J_putRr dX6_beginFar_106 p_X6_122 (Or.inl ⟨_, rfl⟩) (by first | with_reducible assumption | (simp only [hK_sI, hK_sJ, hK_sR, hK_tI, hK_tJ, hK_tR]; with_reducible assumption)) ?_
      refine J_aload_n dX6_beginFar_109 rfl rfl isR_r ?_
      refine J_iconst (v := 1) dX6_beginFar_110 (by decide) ?_
      refine J_putZ dX6_beginFar_111 p_X6_213 (by first | with_reducible assumption | (simp only [hK_sI, hK_sJ, hK_sR, hK_tI, hK_tJ, hK_tR]; with_reducible assumption)) (by first | exact Or.inl rfl | exact Or.inr rfl) ?_
      refine J_aload dX6_beginFar_114 rfl isR_r ?_
      refine J_pc (pc' := 116) rfl ?_
      exact J_areturn dX6_beginFar_116 rfl (Or.inl ⟨_, rfl⟩) isR_r (by
       rw [if_neg (by rw [ht]; decide)]
       exact ⟨q, rfl, hFin, (z2.sub (by decide)).tr ((HX_tJ (by decide)).tr ((z4.sub (by decide)).tr ((HX_sR (by decide)).tr ((HX_sR (by decide)).tr (HX_sI (by decide))))))⟩) (Nat.le_of_ble_eq_true rfl) (Nat.le_of_ble_eq_true rfl)
    · refine J_null dX6_beginFar_35 ?_
      exact J_areturn dX6_beginFar_36 rfl (Or.inl ⟨_, rfl⟩) isR_n (by
       rw [if_pos (by rw [eL, bi_0.mp c32]; rfl)]
       exact ⟨rfl, hr, HX.rf⟩) (Nat.le_of_ble_eq_true rfl) (Nat.le_of_ble_eq_true rfl)
  · skip
    refine J_aload_n dX6_beginFar_0 rfl rfl isR_r ?_
    refine J_bipush (v := 6) dX6_beginFar_1 (by decide) ?_
    refine J_aload_n dX6_beginFar_3 rfl rfl isR_r ?_
    refine J_getI dX6_beginFar_4 g_X6_108 (by first | with_reducible assumption | (simp only [hK_sI, hK_sJ, hK_sR, hK_tI, hK_tJ, hK_tR]; with_reducible assumption)) ?_
    refine J_iadd dX6_beginFar_7 ?_
    rw [q5]
    refine J_callV (c_endOf hr.1) dX6_beginFar_8 ml_X6_64 mkX6_endOf rfl (by first | with_reducible assumption | (simp only [hK_sI, hK_sJ, hK_sR, hK_tI, hK_tJ, hK_tR]; with_reducible assumption)) (by decide) rfl rfl (Nat.le_of_ble_eq_true rfl) ⟨Nat.le_of_ble_eq_true rfl, Nat.le_of_ble_eq_true rfl⟩ ⟨Nat.le_of_ble_eq_true rfl, Nat.le_of_ble_eq_true rfl⟩ (fun v8 hp8 q8 => ?_)
    obtain ⟨rfl, z8⟩ := q8
    rw [z8]
    rw [h6]
    refine J_astore dX6_beginFar_11 isR_r (by decide) ?_
    refine J_aload dX6_beginFar_13 rfl isR_r ?_
    refine J_pc (pc' := 15) rfl ?_
    refine J_ifnull_r dX6_beginFar_15 ?_
    refine J_aload_n dX6_beginFar_18 rfl rfl isR_r ?_
    refine J_aload_n dX6_beginFar_19 rfl rfl isR_r ?_
    refine J_getI dX6_beginFar_20 g_X6_252 (by first | with_reducible assumption | (simp only [hK_sI, hK_sJ, hK_sR, hK_tI, hK_tJ, hK_tR]; with_reducible assumption)) ?_
    refine J_aload_n dX6_beginFar_23 rfl rfl isR_r ?_
    refine J_getI dX6_beginFar_24 g_X6_261 (by first | with_reducible assumption | (simp only [hK_sI, hK_sJ, hK_sR, hK_tI, hK_tJ, hK_tR]; with_reducible assumption)) ?_
    refine J_ineg dX6_beginFar_27 ?_
    refine J_i2l dX6_beginFar_28 ?_
    refine J_pc (pc' := 29) rfl ?_
    refine J_callV (c_lets hr.1 hs4 a9) dX6_beginFar_29 ml_X6_335 mkX5_lets rfl (by first | with_reducible assumption | (simp only [hK_sI, hK_sJ, hK_sR, hK_tI, hK_tJ, hK_tR]; with_reducible assumption)) (by decide) rfl rfl (Nat.le_of_ble_eq_true rfl) ⟨Nat.le_of_ble_eq_true rfl, Nat.le_of_ble_eq_true rfl⟩ ⟨Nat.le_of_ble_eq_true rfl, Nat.le_of_ble_eq_true rfl⟩ (fun v29 hp29 q29 => ?_)
    obtain ⟨rfl, z29⟩ := q29
    rw [z29]
    refine J_if_ne (tgt := 37) dX6_beginFar_32 (by decide) (fun c32 => ?_) (fun c32 => ?_)
    · refine J_aload_n dX6_beginFar_37 rfl rfl isR_r ?_
      refine J_aload dX6_beginFar_38 rfl isR_r ?_
      refine J_aload_n dX6_beginFar_40 rfl rfl isR_r ?_
      refine J_getI dX6_beginFar_41 g_X6_258 (by first | with_reducible assumption | (simp only [hK_sI, hK_sJ, hK_sR, hK_tI, hK_tJ, hK_tR]; with_reducible assumption)) ?_
      refine J_iconst (v := 1) dX6_beginFar_44 (by decide) ?_
      refine J_aload_n dX6_beginFar_45 rfl rfl isR_r ?_
      refine J_getI dX6_beginFar_46 g_X6_255 (by first | with_reducible assumption | (simp only [hK_sI, hK_sJ, hK_sR, hK_tI, hK_tJ, hK_tR]; with_reducible assumption)) ?_
      refine J_aload_n dX6_beginFar_49 rfl rfl isR_r ?_
      refine J_pc (pc' := 50) rfl ?_
      refine J_getI dX6_beginFar_50 g_X6_255 (by first | with_reducible assumption | (simp only [hK_sI, hK_sJ, hK_sR, hK_tI, hK_tJ, hK_tR]; with_reducible assumption)) ?_
      refine J_aload_n dX6_beginFar_53 rfl rfl isR_r ?_
      refine J_getI dX6_beginFar_54 g_X6_258 (by first | with_reducible assumption | (simp only [hK_sI, hK_sJ, hK_sR, hK_tI, hK_tJ, hK_tR]; with_reducible assumption)) ?_
      refine J_aload_n dX6_beginFar_57 rfl rfl isR_r ?_
      refine J_getI dX6_beginFar_58 g_X6_261 (by first | with_reducible assumption | (simp only [hK_sI, hK_sJ, hK_sR, hK_tI, hK_tJ, hK_tR]; with_reducible assumption)) ?_
      refine J_callV (c_newAsk hr hI1 hW hn6 h467) dX6_beginFar_61 ml_X6_73 mkX6_newAsk rfl (by first | with_reducible assumption | (simp only [hK_sI, hK_sJ, hK_sR, hK_tI, hK_tJ, hK_tR]; with_reducible assumption)) (by decide) rfl rfl (Nat.le_of_ble_eq_true rfl) ⟨Nat.le_of_ble_eq_true rfl, Nat.le_of_ble_eq_true rfl⟩ ⟨Nat.le_of_ble_eq_true rfl, Nat.le_of_ble_eq_true rfl⟩ (fun v61 hp61 q61 => ?_)
      rw [if_neg hc] at q61
      obtain ⟨rfl, z1, z2⟩ := q61
      refine J_astore dX6_beginFar_64 isR_n (by decide) ?_
      refine J_aload dX6_beginFar_66 rfl isR_n ?_
      refine J_pc (pc' := 68) rfl ?_
      refine J_ifnonnull_n dX6_beginFar_68 ?_
      refine J_null dX6_beginFar_71 ?_
      exact J_areturn dX6_beginFar_72 rfl (Or.inl ⟨_, rfl⟩) isR_n (by
       have ef : letF S sv k (6 * sv + mT S 459 (tn k)) = false := by
         rw [eL]
         cases u : usedUp S (6 + sv) with
         | true => rw [Bool.not_true, Bool.and_false, Bool.and_false]
         | false => rw [decide_eq_false (fun z => hc ⟨z, by rw [← e6]; exact u⟩), Bool.false_and, Bool.and_false]
       rw [if_pos ef]
       exact ⟨rfl, z1, z2.sub (by decide)⟩) (Nat.le_of_ble_eq_true rfl) (Nat.le_of_ble_eq_true rfl)
    · refine J_null dX6_beginFar_35 ?_
      exact J_areturn dX6_beginFar_36 rfl (Or.inl ⟨_, rfl⟩) isR_n (by
       rw [if_pos (by rw [eL, bi_0.mp c32]; rfl)]
       exact ⟨rfl, hr, HX.rf⟩) (Nat.le_of_ble_eq_true rfl) (Nat.le_of_ble_eq_true rfl)
end BF
