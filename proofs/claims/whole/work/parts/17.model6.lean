section M6
variable {x : om_x} {y : om_y} {S : Ms}
theorem WF1_st1 (hW : WF1 S) {r : Nat} : WF1 (pT S 479 r 1) := by
  refine ⟨hW.1, hW.2.1, hW.2.2.1, hW.2.2.2.1, ?_, hW.2.2.2.2.2⟩
  intro j hj h4
  rw [mT_pT_ne _ _ _ (by decide)]
  rw [mT_pT] at h4
  split at h4
  · exact absurd h4 (by decide)
  · exact hW.2.2.2.2.1 j hj h4
set_option maxRecDepth 100000 in
set_option maxHeartbeats 4000000 in
theorem mm_thru {h0 : Hp} {Q : Option Value → Ms → Prop} {sv own : Int32} {v : Int64} (hW : WF1 S) (hs : inN sv 4 = true) (ha : inN own (nA S) = true) (hf : inN (mT S 465 (tn own)) (nA S) = true) (hq : Q none (thruF S sv own)) : MJ x y h0 2 Q kX7_through 24 [(0, .ref y.1), (1, .int sv), (2, .int own), (3, .long v)] [] S := by
  have ha3 := hW.le300 ha
  have hf3 := hW.le300 hf
  have hac : inN (6 * sv + mT S 459 (tn (mT S 465 (tn own)))) 24 = true := inN_ac hs (hW.ask hf).2.2.1
  unfold thruF at hq
  cases hfn : fnd S (10 * sv + mT S 454 (tn (mT S 465 (tn own)))) (mT S 456 (tn (mT S 465 (tn own)))) with
  | none =>
    rw [hfn] at hq
    refine MJ_aload_n dX7_through_24 rfl rfl isR_r ?_
    refine MJ_getA dX7_through_25 g_X7_57 (by decide) ?_
    refine MJ_iload_n dX7_through_28 rfl rfl ?_
    refine MJ_iald dX7_through_29 (inx_v ha3) (by decide) ?_
    refine MJ_istore dX7_through_30 (by decide) ?_
    refine MJ_aload_n dX7_through_32 rfl rfl isR_r ?_
    refine MJ_bipush (v := 10) dX7_through_33 (by decide) ?_
    refine MJ_iload_n dX7_through_35 rfl rfl ?_
    refine MJ_pc (pc' := 36) rfl ?_
    refine MJ_imul dX7_through_36 ?_
    refine MJ_aload_n dX7_through_37 rfl rfl isR_r ?_
    refine MJ_getA dX7_through_38 g_X7_24 (by decide) ?_
    refine MJ_iload dX7_through_41 rfl ?_
    refine MJ_iald dX7_through_43 (inx_v hf3) (by decide) ?_
    refine MJ_iadd dX7_through_44 ?_
    refine MJ_aload_n dX7_through_45 rfl rfl isR_r ?_
    refine MJ_getA dX7_through_46 g_X7_30 (by decide) ?_
    refine MJ_pc (pc' := 49) rfl ?_
    refine MJ_iload dX7_through_49 rfl ?_
    refine MJ_iald dX7_through_51 (inx_v hf3) (by decide) ?_
    refine MJ_callV (mm_findRecord hW.1.2.2) dX7_through_52 ml_X7_169 mkX7_findRecord rfl rfl rfl (Nat.le_of_ble_eq_true rfl) ⟨Nat.le_of_ble_eq_true rfl, Nat.le_of_ble_eq_true rfl⟩ (fun v52 hp52 q52 => ?_)
    obtain ⟨rfl, z52⟩ := q52
    rw [z52]
    rw [hfn]
    refine MJ_istore dX7_through_55 (by decide) ?_
    refine MJ_iload dX7_through_57 rfl ?_
    refine MJ_if_lt (tgt := 130) dX7_through_59 (by decide) (fun c59 => ?_) (fun c59 => ((c59 (show oI none < 0 by decide))).elim)
    exact MJ_return dX7_through_130 rfl hq
  | some r =>
    rw [hfn] at hq
    simp only at hq
    have hr7 := fnd_bound hW hfn
    have hidx : inx (nI r) r 700 := inx_n hr7 (by decide)
    refine MJ_aload_n dX7_through_24 rfl rfl isR_r ?_
    refine MJ_getA dX7_through_25 g_X7_57 (by decide) ?_
    refine MJ_iload_n dX7_through_28 rfl rfl ?_
    refine MJ_iald dX7_through_29 (inx_v ha3) (by decide) ?_
    refine MJ_istore dX7_through_30 (by decide) ?_
    refine MJ_aload_n dX7_through_32 rfl rfl isR_r ?_
    refine MJ_bipush (v := 10) dX7_through_33 (by decide) ?_
    refine MJ_iload_n dX7_through_35 rfl rfl ?_
    refine MJ_pc (pc' := 36) rfl ?_
    refine MJ_imul dX7_through_36 ?_
    refine MJ_aload_n dX7_through_37 rfl rfl isR_r ?_
    refine MJ_getA dX7_through_38 g_X7_24 (by decide) ?_
    refine MJ_iload dX7_through_41 rfl ?_
    refine MJ_iald dX7_through_43 (inx_v hf3) (by decide) ?_
    refine MJ_iadd dX7_through_44 ?_
    refine MJ_aload_n dX7_through_45 rfl rfl isR_r ?_
    refine MJ_getA dX7_through_46 g_X7_30 (by decide) ?_
    refine MJ_pc (pc' := 49) rfl ?_
    refine MJ_iload dX7_through_49 rfl ?_
    refine MJ_iald dX7_through_51 (inx_v hf3) (by decide) ?_
    refine MJ_callV (mm_findRecord hW.1.2.2) dX7_through_52 ml_X7_169 mkX7_findRecord rfl rfl rfl (Nat.le_of_ble_eq_true rfl) ⟨Nat.le_of_ble_eq_true rfl, Nat.le_of_ble_eq_true rfl⟩ (fun v52 hp52 q52 => ?_)
    obtain ⟨rfl, z52⟩ := q52
    rw [z52]
    rw [hfn]
    refine MJ_istore dX7_through_55 (by decide) ?_
    refine MJ_iload dX7_through_57 rfl ?_
    refine MJ_if_lt (tgt := 130) dX7_through_59 (by decide) (fun c59 => ((nI_pos (show r < 2 ^ 31 by omega) c59)).elim) (fun c59 => ?_)
    refine MJ_aload_n dX7_through_62 rfl rfl isR_r ?_
    refine MJ_getA dX7_through_63 g_X7_93 (by decide) ?_
    refine MJ_iload dX7_through_66 rfl ?_
    refine MJ_pc (pc' := 68) rfl ?_
    refine MJ_iald dX7_through_68 hidx (by decide) ?_
    refine MJ_iconst (v := 2) dX7_through_69 (by decide) ?_
    refine MJ_icmp_ne (tgt := 130) dX7_through_70 (by decide) (fun c70 => ?_) (fun c70 => ?_)
    · exact MJ_return dX7_through_130 rfl (by rw [if_neg (fun z => c70 z.1)] at hq; exact hq)
    · refine MJ_aload_n dX7_through_73 rfl rfl isR_r ?_
      refine MJ_getA dX7_through_74 g_X7_99 (by decide) ?_
      refine MJ_iload dX7_through_77 rfl ?_
      refine MJ_iald dX7_through_79 hidx (by decide) ?_
      refine MJ_iload_n dX7_through_80 rfl rfl ?_
      refine MJ_icmp_ne (tgt := 130) dX7_through_81 (by decide) (fun c81 => ?_) (fun c81 => ?_)
      · exact MJ_return dX7_through_130 rfl (by rw [if_neg (fun z => c81 z.2)] at hq; exact hq)
      · refine MJ_aload_n dX7_through_84 rfl rfl isR_r ?_
        refine MJ_getA dX7_through_85 g_X7_93 (by decide) ?_
        refine MJ_iload dX7_through_88 rfl ?_
        refine MJ_iconst (v := 1) dX7_through_90 (by decide) ?_
        refine MJ_iast dX7_through_91 hidx (by decide) ?_
        refine MJ_aload_n dX7_through_92 rfl rfl isR_r ?_
        refine MJ_getA dX7_through_93 g_X7_96 (by decide) ?_
        refine MJ_iload dX7_through_96 rfl ?_
        refine MJ_pc (pc' := 98) rfl ?_
        refine MJ_aload_n dX7_through_98 rfl rfl isR_r ?_
        refine MJ_getA dX7_through_99 g_X7_20 (by decide) ?_
        refine MJ_bipush (v := 6) dX7_through_102 (by decide) ?_
        refine MJ_iload_n dX7_through_104 rfl rfl ?_
        refine MJ_imul dX7_through_105 ?_
        refine MJ_aload_n dX7_through_106 rfl rfl isR_r ?_
        refine MJ_getA dX7_through_107 g_X7_39 (by decide) ?_
        refine MJ_iload dX7_through_110 rfl ?_
        refine MJ_pc (pc' := 112) rfl ?_
        refine MJ_iald dX7_through_112 (inx_v hf3) (by decide) ?_
        refine MJ_iadd dX7_through_113 ?_
        rw [mT_pT_ne _ _ _ (show (459 : Nat) ≠ 479 by decide)]
        refine MJ_lald dX7_through_114 (inx_v hac) (by decide) ?_
        rw [mJ_pT]
        refine MJ_last dX7_through_115 hidx (by decide) ?_
        refine MJ_aload_n dX7_through_116 rfl rfl isR_r ?_
        refine MJ_iload dX7_through_117 rfl ?_
        refine MJ_iconst (v := 1) dX7_through_119 (by decide) ?_
        refine MJ_aload_n dX7_through_120 rfl rfl isR_r ?_
        refine MJ_pc (pc' := 121) rfl ?_
        refine MJ_getA dX7_through_121 g_X7_96 (by decide) ?_
        refine MJ_iload dX7_through_124 rfl ?_
        refine MJ_lald dX7_through_126 hidx (by decide) ?_
        rw [mJ_pJ, if_pos ⟨rfl, rfl⟩]
        refine MJ_callV (mm_send (ans := true) (WF1_pJ (WF1_st1 hW)) (by rw [nA_pJ, nA_pT]; exact hf)) dX7_through_127 ml_X7_151 mkX7_send rfl rfl rfl (Nat.le_of_ble_eq_true rfl) ⟨Nat.le_of_ble_eq_true rfl, Nat.le_of_ble_eq_true rfl⟩ (fun v127 hp127 q127 => ?_)
        obtain ⟨rfl, z127⟩ := q127
        rw [z127]
        exact MJ_return dX7_through_130 rfl (by rw [if_pos ⟨c70, c81⟩] at hq; exact hq)
set_option maxRecDepth 100000 in
set_option maxHeartbeats 4000000 in
theorem mm_through {sv own : Int32} {v : Int64} (hW : WF1 S) (hs : inN sv 4 = true) (ha : inN own (nA S) = true) (hf : inN (mT S 465 (tn own)) (nA S) = true) : MM x y 2 kX7_through [.ref y.1, .int sv, .int own, .long v] S (fun z S' => z = none ∧ S' = throughF S sv own v) := by
  refine MM.ofJ mkX7_through.1 (Nat.le_of_ble_eq_true rfl) fun h0 => ?_
  have ha3 := hW.le300 ha
  have hW1 : WF1 (pJ (pT S 463 (tn own) 1) 464 (tn own) v) := WF1_pJ (WF1_pT (by decide) hW)
  have e2 : mT (pJ (pT S 463 (tn own) 1) 464 (tn own) v) 465 (tn own) = mT S 465 (tn own) := by rw [mT_pJ, mT_pT_ne _ _ _ (by decide)]
  have fin : ¬ mT S 463 (tn own) ≠ 0 → MJ x y h0 2 (fun z S' => z = none ∧ S' = throughF S sv own v) kX7_through 24 [(0, .ref y.1), (1, .int sv), (2, .int own), (3, .long v)] [] (pJ (pT S 463 (tn own) 1) 464 (tn own) v) := fun z => mm_thru hW1 hs (by rw [nA_pJ, nA_pT]; exact ha) (by rw [e2, nA_pJ, nA_pT]; exact hf) ⟨rfl, by unfold throughF; rw [if_neg z]⟩
  refine MJ_aload_n dX7_through_0 rfl rfl isR_r ?_
  refine MJ_getA dX7_through_1 g_X7_51 (by decide) ?_
  refine MJ_iload_n dX7_through_4 rfl rfl ?_
  refine MJ_iald dX7_through_5 (inx_v ha3) (by decide) ?_
  refine MJ_if_eq (tgt := 10) dX7_through_6 (by decide) (fun c6 => ?_) (fun c6 => ?_)
  · refine MJ_aload_n dX7_through_10 rfl rfl isR_r ?_
    refine MJ_getA dX7_through_11 g_X7_51 (by decide) ?_
    refine MJ_iload_n dX7_through_14 rfl rfl ?_
    refine MJ_iconst (v := 1) dX7_through_15 (by decide) ?_
    refine MJ_iast dX7_through_16 (inx_v ha3) (by decide) ?_
    refine MJ_aload_n dX7_through_17 rfl rfl isR_r ?_
    refine MJ_getA dX7_through_18 g_X7_54 (by decide) ?_
    refine MJ_iload_n dX7_through_21 rfl rfl ?_
    refine MJ_pc (pc' := 22) rfl ?_
    refine MJ_lload_n dX7_through_22 rfl rfl ?_
    refine MJ_last dX7_through_23 (inx_v ha3) (by decide) ?_
    exact MJ_loc _ rfl (fin (fun z => z c6))
  · exact MJ_return dX7_through_9 rfl ⟨rfl, by unfold throughF; rw [if_pos c6]⟩
def comesT (S : Ms) (e moment : Int32) : Ms := if moment < 3 then pI (pT (pI S 485 0) 449 (tn e) 1) 484 (mI S 484 + 1) else pI S 485 0
set_option maxRecDepth 100000 in
set_option maxHeartbeats 4000000 in
theorem comes_190 {h0 : Hp} {Q : Option Value → Ms → Prop} {e moment : Int32} (he : inN e 10 = true) (hq : Q none (comesT S e moment)) : MJ x y h0 5 Q kX7_comes 190 [(0, .ref y.1), (7, .int moment), (8, .int e)] [] S := by
  unfold comesT at hq
  refine MJ_aload_n dX7_comes_190 rfl rfl isR_r ?_
  refine MJ_iconst (v := 0) dX7_comes_191 (by decide) ?_
  refine MJ_putZ dX7_comes_192 p_X7_117 (by first | exact Or.inl rfl | exact Or.inr rfl) ?_
  refine MJ_iload dX7_comes_195 rfl ?_
  refine MJ_iconst (v := 3) dX7_comes_197 (by decide) ?_
  refine MJ_icmp_ge (tgt := 219) dX7_comes_198 (by decide) (fun c198 => ?_) (fun c198 => ?_)
  · exact MJ_return dX7_comes_219 rfl (by rw [if_neg (fun z => by rw [n_lt] at z; rw [n_le] at c198; omega)] at hq; exact hq)
  · refine MJ_aload_n dX7_comes_201 rfl rfl isR_r ?_
    refine MJ_getA dX7_comes_202 g_X7_7 (by decide) ?_
    refine MJ_iload dX7_comes_205 rfl ?_
    refine MJ_iconst (v := 1) dX7_comes_207 (by decide) ?_
    refine MJ_zast dX7_comes_208 (inx_v he) (by first | exact Or.inl rfl | exact Or.inr rfl) (by decide) ?_
    refine MJ_aload_n dX7_comes_209 rfl rfl isR_r ?_
    refine MJ_dup dX7_comes_210 rfl ?_
    refine MJ_getI dX7_comes_211 g_X7_215 ?_
    refine MJ_pc (pc' := 214) rfl ?_
    refine MJ_iconst (v := 1) dX7_comes_214 (by decide) ?_
    refine MJ_iadd dX7_comes_215 ?_
    refine MJ_putI dX7_comes_216 p_X7_215 ?_
    exact MJ_return dX7_comes_219 rfl (by rw [if_pos (by rw [n_lt]; rw [n_le] at c198; omega)] at hq; exact hq)
set_option maxRecDepth 100000 in
set_option maxHeartbeats 4000000 in
theorem comes_67 {h0 : Hp} {Q : Option Value → Ms → Prop} {ask low e moment : Int32} {v : Int64} {ans bent does : Bool} (hW : WF1 S) (ha : inN ask (nA S) = true) (hr : nR S + 1 < 700) (he2 : endOfL S ask ans = e) (he : inN e 10 = true) (hd : does = decide (0 < moment ∧ bent = false)) (hq : Q none (comesT (comes1 S ask ans low v bent moment) e moment)) : MJ x y h0 5 Q kX7_comes 67 [(0, .ref y.1), (1, .int ask), (2, .int (bi ans)), (3, .int low), (4, .long v), (7, .int moment), (8, .int e), (9, .int (bi does))] [] S := by
  have ha3 := hW.le300 ha
  have hsv := (hW.ask ha).2.1
  unfold comes1 at hq
  have fin : ∀ {S' : Ms}, Q none (comesT S' e moment) → MJ x y h0 5 Q kX7_comes 190 [(0, .ref y.1), (7, .int moment), (8, .int e)] [] S' := fun z => comes_190 he z
  cases does with
  | false =>
    have d0 : ¬ (0 < moment ∧ bent = false) := fun z => by rw [decide_eq_true z] at hd; cases hd
    rw [if_pos d0] at hq
    refine MJ_iload dX7_comes_67 rfl ?_
    refine MJ_if_eq (tgt := 102) dX7_comes_69 (by decide) (fun c69 => ?_) (fun c69 => ((c69 rfl)).elim)
    refine MJ_iload dX7_comes_102 rfl ?_
    refine MJ_if_eq (tgt := 134) dX7_comes_104 (by decide) (fun c104 => ?_) (fun c104 => ((c104 rfl)).elim)
    refine MJ_iload dX7_comes_134 rfl ?_
    refine MJ_if_eq (tgt := 190) dX7_comes_136 (by decide) (fun c136 => ?_) (fun c136 => ((c136 rfl)).elim)
    exact MJ_loc _ rfl (fin hq)
  | true =>
    have d1 : (0 < moment ∧ bent = false) := of_decide_eq_true hd.symm
    rw [if_neg (fun z => z d1)] at hq
    cases ans with
    | false =>
      rw [if_pos rfl] at hq
      cases hup : decide (moment = 1) with
      | false =>
        rw [hup] at hq
        refine MJ_iload dX7_comes_67 rfl ?_
        refine MJ_if_eq (tgt := 102) dX7_comes_69 (by decide) (fun c69 => ((show False from absurd c69 (by decide))).elim) (fun c69 => ?_)
        refine MJ_iload_n dX7_comes_72 rfl rfl ?_
        refine MJ_if_ne (tgt := 102) dX7_comes_73 (by decide) (fun c73 => ((c73 rfl)).elim) (fun c73 => ?_)
        refine MJ_aload_n dX7_comes_76 rfl rfl isR_r ?_
        refine MJ_aload_n dX7_comes_77 rfl rfl isR_r ?_
        refine MJ_getA dX7_comes_78 g_X7_33 (by decide) ?_
        refine MJ_iload_n dX7_comes_81 rfl rfl ?_
        refine MJ_iald dX7_comes_82 (inx_v ha3) (by decide) ?_
        refine MJ_iload_n dX7_comes_83 rfl rfl ?_
        refine MJ_pc (pc' := 84) rfl ?_
        refine MJ_iload_n dX7_comes_84 rfl rfl ?_
        refine MJ_iload dX7_comes_85 rfl ?_
        refine MJ_iconst (v := 1) dX7_comes_87 (by decide) ?_
        refine MJ_icmp_ne (tgt := 95) dX7_comes_88 (by decide) (fun c88 => ?_) (fun c88 => ((of_decide_eq_false hup c88)).elim)
        refine MJ_iconst (v := 0) dX7_comes_95 (by decide) ?_
        refine MJ_callV (mm_work (up := false) hW hsv ha hr) dX7_comes_96 ml_X7_205 mkX7_work rfl rfl rfl (Nat.le_of_ble_eq_true rfl) ⟨Nat.le_of_ble_eq_true rfl, Nat.le_of_ble_eq_true rfl⟩ (fun v96 hp96 q96 => ?_)
        obtain ⟨rfl, z96⟩ := q96
        rw [z96]
        refine MJ_goto (tgt := 190) dX7_comes_99 (by decide) ?_
        exact MJ_loc _ rfl (fin hq)
      | true =>
        rw [hup] at hq
        refine MJ_iload dX7_comes_67 rfl ?_
        refine MJ_if_eq (tgt := 102) dX7_comes_69 (by decide) (fun c69 => ((show False from absurd c69 (by decide))).elim) (fun c69 => ?_)
        refine MJ_iload_n dX7_comes_72 rfl rfl ?_
        refine MJ_if_ne (tgt := 102) dX7_comes_73 (by decide) (fun c73 => ((c73 rfl)).elim) (fun c73 => ?_)
        refine MJ_aload_n dX7_comes_76 rfl rfl isR_r ?_
        refine MJ_aload_n dX7_comes_77 rfl rfl isR_r ?_
        refine MJ_getA dX7_comes_78 g_X7_33 (by decide) ?_
        refine MJ_iload_n dX7_comes_81 rfl rfl ?_
        refine MJ_iald dX7_comes_82 (inx_v ha3) (by decide) ?_
        refine MJ_iload_n dX7_comes_83 rfl rfl ?_
        refine MJ_pc (pc' := 84) rfl ?_
        refine MJ_iload_n dX7_comes_84 rfl rfl ?_
        refine MJ_iload dX7_comes_85 rfl ?_
        refine MJ_iconst (v := 1) dX7_comes_87 (by decide) ?_
        refine MJ_icmp_ne (tgt := 95) dX7_comes_88 (by decide) (fun c88 => ((c88 (of_decide_eq_true hup))).elim) (fun c88 => ?_)
        refine MJ_iconst (v := 1) dX7_comes_91 (by decide) ?_
        refine MJ_goto (tgt := 96) dX7_comes_92 (by decide) ?_
        refine MJ_callV (mm_work (up := true) hW hsv ha hr) dX7_comes_96 ml_X7_205 mkX7_work rfl rfl rfl (Nat.le_of_ble_eq_true rfl) ⟨Nat.le_of_ble_eq_true rfl, Nat.le_of_ble_eq_true rfl⟩ (fun v96 hp96 q96 => ?_)
        obtain ⟨rfl, z96⟩ := q96
        rw [z96]
        refine MJ_goto (tgt := 190) dX7_comes_99 (by decide) ?_
        exact MJ_loc _ rfl (fin hq)
    | true =>
      rw [if_neg (fun z => by cases z)] at hq
      have e1 : mT S 454 (tn ask) = e := he2
      rw [e1] at hq
      by_cases h5 : 5 < e
      · have h465 : inN (mT S 465 (tn ask)) (nA S) = true := hW.2.2.2.2.2 _ (inN_tn ha).2.1 (by rw [e1]; exact h5)
        have he6 : inN (e - 6) 4 = true := by
          obtain ⟨q1, q2, q3⟩ := inN_tn he
          have z := h5
          rw [q1] at z ⊢
          rw [show (5 : Int32) = nI 5 from rfl, nI_lti (by decide) (by omega)] at z
          rw [show (6 : Int32) = nI 6 from rfl, nI_sub (by omega)]
          exact inN_nIlt (by omega) (by decide)
        rw [if_pos h5] at hq
        refine MJ_iload dX7_comes_67 rfl ?_
        refine MJ_if_eq (tgt := 102) dX7_comes_69 (by decide) (fun c69 => ((show False from absurd c69 (by decide))).elim) (fun c69 => ?_)
        refine MJ_iload_n dX7_comes_72 rfl rfl ?_
        refine MJ_if_ne (tgt := 102) dX7_comes_73 (by decide) (fun c73 => ?_) (fun c73 => ((show False from absurd c73 (by decide))).elim)
        refine MJ_iload dX7_comes_102 rfl ?_
        refine MJ_if_eq (tgt := 134) dX7_comes_104 (by decide) (fun c104 => ((show False from absurd c104 (by decide))).elim) (fun c104 => ?_)
        refine MJ_iload dX7_comes_107 rfl ?_
        refine MJ_iconst (v := 5) dX7_comes_109 (by decide) ?_
        refine MJ_icmp_le (tgt := 134) dX7_comes_110 (by decide) (fun c110 => ((show False by rw [n_lt] at h5; rw [n_le] at c110; omega)).elim) (fun c110 => ?_)
        refine MJ_iload dX7_comes_113 rfl ?_
        refine MJ_iconst (v := 1) dX7_comes_115 (by decide) ?_
        refine MJ_icmp_le (tgt := 134) dX7_comes_116 (by decide) (fun c116 => ?_) (fun c116 => ?_)
        · refine MJ_iload dX7_comes_134 rfl ?_
          refine MJ_if_eq (tgt := 190) dX7_comes_136 (by decide) (fun c136 => ((show False from absurd c136 (by decide))).elim) (fun c136 => ?_)
          refine MJ_iload dX7_comes_139 rfl ?_
          refine MJ_bipush (v := 6) dX7_comes_141 (by decide) ?_
          refine MJ_icmp_ge (tgt := 190) dX7_comes_143 (by decide) (fun c143 => ?_) (fun c143 => ((c143 (by rw [n_le]; rw [n_lt] at h5; have h61 : (6 : Int32).toInt = 6 := (by decide); have h51 : (5 : Int32).toInt = 5 := (by decide); omega))).elim)
          rw [if_neg (fun z => by rw [n_lt] at z; rw [n_le] at c116; omega)] at hq
          exact MJ_loc _ rfl (fin hq)
        · refine MJ_aload_n dX7_comes_119 rfl rfl isR_r ?_
          refine MJ_iload dX7_comes_120 rfl ?_
          refine MJ_bipush (v := 6) dX7_comes_122 (by decide) ?_
          refine MJ_isub dX7_comes_124 ?_
          refine MJ_iload_n dX7_comes_125 rfl rfl ?_
          refine MJ_lload dX7_comes_126 rfl ?_
          refine MJ_callV (mm_through hW he6 ha h465) dX7_comes_128 ml_X7_209 mkX7_through rfl rfl rfl (Nat.le_of_ble_eq_true rfl) ⟨Nat.le_of_ble_eq_true rfl, Nat.le_of_ble_eq_true rfl⟩ (fun v128 hp128 q128 => ?_)
          obtain ⟨rfl, z128⟩ := q128
          rw [z128]
          refine MJ_goto (tgt := 190) dX7_comes_131 (by decide) ?_
          rw [if_pos (by rw [n_lt]; rw [n_le] at c116; omega)] at hq
          exact MJ_loc _ rfl (fin hq)
      · rw [if_neg h5] at hq
        unfold hearF at hq
        refine MJ_iload dX7_comes_67 rfl ?_
        refine MJ_if_eq (tgt := 102) dX7_comes_69 (by decide) (fun c69 => ((show False from absurd c69 (by decide))).elim) (fun c69 => ?_)
        refine MJ_iload_n dX7_comes_72 rfl rfl ?_
        refine MJ_if_ne (tgt := 102) dX7_comes_73 (by decide) (fun c73 => ?_) (fun c73 => ((show False from absurd c73 (by decide))).elim)
        refine MJ_iload dX7_comes_102 rfl ?_
        refine MJ_if_eq (tgt := 134) dX7_comes_104 (by decide) (fun c104 => ((show False from absurd c104 (by decide))).elim) (fun c104 => ?_)
        refine MJ_iload dX7_comes_107 rfl ?_
        refine MJ_iconst (v := 5) dX7_comes_109 (by decide) ?_
        refine MJ_icmp_le (tgt := 134) dX7_comes_110 (by decide) (fun c110 => ?_) (fun c110 => ((show False by rw [n_lt] at h5; rw [n_le] at c110; omega)).elim)
        refine MJ_iload dX7_comes_134 rfl ?_
        refine MJ_if_eq (tgt := 190) dX7_comes_136 (by decide) (fun c136 => ((show False from absurd c136 (by decide))).elim) (fun c136 => ?_)
        refine MJ_iload dX7_comes_139 rfl ?_
        refine MJ_bipush (v := 6) dX7_comes_141 (by decide) ?_
        refine MJ_pc (pc' := 143) rfl ?_
        refine MJ_icmp_ge (tgt := 190) dX7_comes_143 (by decide) (fun c143 => ((show False by rw [n_lt] at h5; rw [n_le] at c143; have h61 : (6 : Int32).toInt = 6 := (by decide); have h51 : (5 : Int32).toInt = 5 := (by decide); omega)).elim) (fun c143 => ?_)
        refine MJ_aload_n dX7_comes_146 rfl rfl isR_r ?_
        refine MJ_getA dX7_comes_147 g_X7_51 (by decide) ?_
        refine MJ_iload_n dX7_comes_150 rfl rfl ?_
        refine MJ_iald dX7_comes_151 (inx_v ha3) (by decide) ?_
        refine MJ_if_ne (tgt := 190) dX7_comes_152 (by decide) (fun c152 => ?_) (fun c152 => ?_)
        · rw [if_neg c152] at hq
          exact MJ_loc _ rfl (fin hq)
        · refine MJ_aload_n dX7_comes_155 rfl rfl isR_r ?_
          refine MJ_getA dX7_comes_156 g_X7_51 (by decide) ?_
          refine MJ_iload_n dX7_comes_159 rfl rfl ?_
          refine MJ_lload dX7_comes_160 rfl ?_
          refine MJ_ldc2 dX7_comes_162 ll_X7_179 ?_
          refine MJ_lcmp dX7_comes_165 ?_
          refine MJ_if_ne (tgt := 180) dX7_comes_166 (by decide) (fun c166 => ?_) (fun c166 => ?_)
          · refine MJ_iconst (v := 1) dX7_comes_180 (by decide) ?_
            refine MJ_iast dX7_comes_181 (inx_v ha3) (by decide) ?_
            refine MJ_aload_n dX7_comes_182 rfl rfl isR_r ?_
            refine MJ_getA dX7_comes_183 g_X7_54 (by decide) ?_
            refine MJ_iload_n dX7_comes_186 rfl rfl ?_
            refine MJ_lload dX7_comes_187 rfl ?_
            refine MJ_last dX7_comes_189 (inx_v ha3) (by decide) ?_
            rw [if_pos c152, if_neg (fun z => c166 ((lg_cmp_eq _ _).mpr z.1))] at hq
            exact MJ_loc _ rfl (fin hq)
          · refine MJ_aload_n dX7_comes_169 rfl rfl isR_r ?_
            refine MJ_getI dX7_comes_170 g_X7_212 ?_
            refine MJ_if_eq (tgt := 180) dX7_comes_173 (by decide) (fun c173 => ?_) (fun c173 => ?_)
            · refine MJ_iconst (v := 1) dX7_comes_180 (by decide) ?_
              refine MJ_iast dX7_comes_181 (inx_v ha3) (by decide) ?_
              refine MJ_aload_n dX7_comes_182 rfl rfl isR_r ?_
              refine MJ_getA dX7_comes_183 g_X7_54 (by decide) ?_
              refine MJ_iload_n dX7_comes_186 rfl rfl ?_
              refine MJ_lload dX7_comes_187 rfl ?_
              refine MJ_last dX7_comes_189 (inx_v ha3) (by decide) ?_
              rw [if_pos c152, if_neg (fun z => z.2 c173)] at hq
              exact MJ_loc _ rfl (fin hq)
            · refine MJ_iconst (v := 2) dX7_comes_176 (by decide) ?_
              refine MJ_goto (tgt := 181) dX7_comes_177 (by decide) ?_
              refine MJ_iast dX7_comes_181 (inx_v ha3) (by decide) ?_
              refine MJ_aload_n dX7_comes_182 rfl rfl isR_r ?_
              refine MJ_getA dX7_comes_183 g_X7_54 (by decide) ?_
              refine MJ_iload_n dX7_comes_186 rfl rfl ?_
              refine MJ_lload dX7_comes_187 rfl ?_
              refine MJ_last dX7_comes_189 (inx_v ha3) (by decide) ?_
              rw [if_pos c152, if_pos ⟨(lg_cmp_eq _ _).mp c166, c173⟩] at hq
              exact MJ_loc _ rfl (fin hq)
theorem inN_end (hW : WF1 S) {ask : Int32} (ha : inN ask (nA S) = true) (ans : Bool) : inN (endOfL S ask ans) 10 = true := by
  unfold endOfL
  split
  · exact (hW.ask ha).1
  · exact inN_sv (hW.ask ha).2.1
set_option maxRecDepth 100000 in
set_option maxHeartbeats 4000000 in
theorem mm_comes {ask low moment : Int32} {v : Int64} {ans bent : Bool} (hW : WF1 S) (ha : inN ask (nA S) = true) (hr : nR S + 1 < 700) : MM x y 5 kX7_comes [.ref y.1, .int ask, .int (bi ans), .int low, .long v, .int (bi bent), .int moment] S (fun z S' => z = none ∧ S' = comesF S ask ans low v bent moment) := by
  refine MM.ofJ mkX7_comes.1 (Nat.le_of_ble_eq_true rfl) fun h0 => ?_
  have ha3 := hW.le300 ha
  have he := inN_end hW ha ans
  generalize he2 : endOfL S ask ans = e at he
  have hcf : comesF S ask ans low v bent moment = if mT S 449 (tn e) ≠ 0 then S else comesT (comes1 (pI S 485 (bi (decide (moment < 3)))) ask ans low v bent moment) e moment := by
    unfold comesF comesT
    rw [he2]
    rfl
  have fin : ∀ does, does = decide (0 < moment ∧ bent = false) → mT S 449 (tn e) = 0 → MJ x y h0 5 (fun z S' => z = none ∧ S' = comesF S ask ans low v bent moment) kX7_comes 67 [(0, .ref y.1), (1, .int ask), (2, .int (bi ans)), (3, .int low), (4, .long v), (7, .int moment), (8, .int e), (9, .int (bi does))] [] (pI S 485 (bi (decide (moment < 3)))) := fun does hd z =>
    comes_67 (WF1_pI (by decide) hW) (by rw [nA_pI (by decide)]; exact ha) (by rw [nR_pI (by decide)]; exact hr) (by rw [← he2]; rfl) he hd ⟨rfl, by rw [hcf, if_neg (fun q => q z)]⟩
  have tail22 : MJ x y h0 5 (fun z S' => z = none ∧ S' = comesF S ask ans low v bent moment) kX7_comes 22 [(0, .ref y.1), (1, .int ask), (2, .int (bi ans)), (3, .int low), (4, .long v), (6, .int (bi bent)), (7, .int moment)] [.int e] S := by
    refine MJ_istore dX7_comes_22 (by decide) ?_
    refine MJ_aload_n dX7_comes_24 rfl rfl isR_r ?_
    refine MJ_getA dX7_comes_25 g_X7_7 (by decide) ?_
    refine MJ_iload dX7_comes_28 rfl ?_
    refine MJ_zald dX7_comes_30 (inx_v he) (by decide) ?_
    refine MJ_if_eq (tgt := 35) dX7_comes_31 (by decide) (fun c31 => ?_) (fun c31 => ?_)
    · refine MJ_aload_n dX7_comes_35 rfl rfl isR_r ?_
      refine MJ_iload dX7_comes_36 rfl ?_
      refine MJ_iconst (v := 3) dX7_comes_38 (by decide) ?_
      refine MJ_icmp_ge (tgt := 46) dX7_comes_39 (by decide) (fun c39 => ?_) (fun c39 => ?_)
      · refine MJ_iconst (v := 0) dX7_comes_46 (by decide) ?_
        have e3 : bi (decide (moment < 3)) = 0 := by rw [decide_eq_false (fun z => by rw [n_lt] at z; rw [n_le] at c39; omega)]; rfl
        rw [← e3]
        refine MJ_putZ dX7_comes_47 p_X7_117 bi_01 ?_
        refine MJ_iload dX7_comes_50 rfl ?_
        refine MJ_if_le (tgt := 64) dX7_comes_52 (by decide) (fun c52 => ?_) (fun c52 => ?_)
        · refine MJ_iconst (v := 0) dX7_comes_64 (by decide) ?_
          refine MJ_istore dX7_comes_65 (by decide) ?_
          exact MJ_loc _ rfl (fin false (decide_eq_false (fun z => by have := z.1; rw [n_lt] at this; rw [n_le] at c52; omega)).symm c31)
        · refine MJ_iload dX7_comes_55 rfl ?_
          refine MJ_if_ne (tgt := 64) dX7_comes_57 (by decide) (fun c57 => ?_) (fun c57 => ?_)
          · refine MJ_iconst (v := 0) dX7_comes_64 (by decide) ?_
            refine MJ_istore dX7_comes_65 (by decide) ?_
            exact MJ_loc _ rfl (fin false (decide_eq_false (fun z => c57 (bi_0.mpr z.2))).symm c31)
          · refine MJ_iconst (v := 1) dX7_comes_60 (by decide) ?_
            refine MJ_goto (tgt := 65) dX7_comes_61 (by decide) ?_
            refine MJ_istore dX7_comes_65 (by decide) ?_
            exact MJ_loc _ rfl (fin true (decide_eq_true ⟨by rw [n_lt]; rw [n_le] at c52; omega, bi_0.mp c57⟩).symm c31)
      · refine MJ_iconst (v := 1) dX7_comes_42 (by decide) ?_
        refine MJ_goto (tgt := 47) dX7_comes_43 (by decide) ?_
        have e3 : bi (decide (moment < 3)) = 1 := by rw [decide_eq_true (by rw [n_lt]; rw [n_le] at c39; omega)]; rfl
        rw [← e3]
        refine MJ_putZ dX7_comes_47 p_X7_117 bi_01 ?_
        refine MJ_iload dX7_comes_50 rfl ?_
        refine MJ_if_le (tgt := 64) dX7_comes_52 (by decide) (fun c52 => ?_) (fun c52 => ?_)
        · refine MJ_iconst (v := 0) dX7_comes_64 (by decide) ?_
          refine MJ_istore dX7_comes_65 (by decide) ?_
          exact MJ_loc _ rfl (fin false (decide_eq_false (fun z => by have := z.1; rw [n_lt] at this; rw [n_le] at c52; omega)).symm c31)
        · refine MJ_iload dX7_comes_55 rfl ?_
          refine MJ_if_ne (tgt := 64) dX7_comes_57 (by decide) (fun c57 => ?_) (fun c57 => ?_)
          · refine MJ_iconst (v := 0) dX7_comes_64 (by decide) ?_
            refine MJ_istore dX7_comes_65 (by decide) ?_
            exact MJ_loc _ rfl (fin false (decide_eq_false (fun z => c57 (bi_0.mpr z.2))).symm c31)
          · refine MJ_iconst (v := 1) dX7_comes_60 (by decide) ?_
            refine MJ_goto (tgt := 65) dX7_comes_61 (by decide) ?_
            refine MJ_istore dX7_comes_65 (by decide) ?_
            exact MJ_loc _ rfl (fin true (decide_eq_true ⟨by rw [n_lt]; rw [n_le] at c52; omega, bi_0.mp c57⟩).symm c31)
    · exact MJ_return dX7_comes_34 rfl ⟨rfl, by rw [hcf, if_pos c31]⟩
  refine MJ_iload_n dX7_comes_0 rfl rfl ?_
  refine MJ_if_eq (tgt := 13) dX7_comes_1 (by decide) (fun c1 => ?_) (fun c1 => ?_)
  · refine MJ_bipush (v := 6) dX7_comes_13 (by decide) ?_
    refine MJ_aload_n dX7_comes_15 rfl rfl isR_r ?_
    refine MJ_getA dX7_comes_16 g_X7_33 (by decide) ?_
    refine MJ_iload_n dX7_comes_19 rfl rfl ?_
    refine MJ_iald dX7_comes_20 (inx_v ha3) (by decide) ?_
    refine MJ_iadd dX7_comes_21 ?_
    have he3 : 6 + mT S 457 (tn ask) = e := by rw [← he2, bi_0.mp c1]; rfl
    rw [he3]
    exact MJ_loc _ rfl tail22
  · refine MJ_aload_n dX7_comes_4 rfl rfl isR_r ?_
    refine MJ_getA dX7_comes_5 g_X7_24 (by decide) ?_
    refine MJ_iload_n dX7_comes_8 rfl rfl ?_
    refine MJ_iald dX7_comes_9 (inx_v ha3) (by decide) ?_
    refine MJ_goto (tgt := 22) dX7_comes_10 (by decide) ?_
    have he3 : mT S 454 (tn ask) = e := by rw [← he2, bi_1.mp c1]; rfl
    rw [he3]
    exact MJ_loc _ rfl tail22
set_option maxRecDepth 100000 in
set_option maxHeartbeats 4000000 in
theorem mm_removeLetter {i : Nat} (hW : WF1 S) (hi : i < nL S) : MM x y 0 kX7_removeLetter [.ref y.1, .int (nI i)] S (fun z S' => z = none ∧ S' = removeF S i) := by
  refine MM.ofJ mkX7_removeLetter.1 (Nat.le_of_ble_eq_true rfl) fun h0 => ?_
  obtain ⟨hl1, hl2, hl3⟩ := inN_tn hW.1.2.1
  have hl4 : nL S < 121 := hl2
  have h468 : ∀ m, mI (rmF (pI S 468 (mI S 468 - 1)) i m) 468 = nI (nL S - 1) := fun m => by
    rw [rm_I, mI_pI, if_pos rfl, hl1]
    show nI (nL S) - nI 1 = nI (nL S - 1)
    exact nI_sub (by omega)
  have h01 : ∀ m j, (mT (rmF (pI S 468 (mI S 468 - 1)) i m) 470 j = 0 ∨ mT (rmF (pI S 468 (mI S 468 - 1)) i m) 470 j = 1) ∧ (mT (rmF (pI S 468 (mI S 468 - 1)) i m) 473 j = 0 ∨ mT (rmF (pI S 468 (mI S 468 - 1)) i m) 473 j = 1) := fun m j => by
    have h := (rm_at (S := pI S 468 (mI S 468 - 1)) i m).1
    rw [h 470 (by decide), h 473 (by decide)]
    split
    · exact hW.2.2.2.1 (j + 1)
    · exact hW.2.2.2.1 j
  have lp : ∀ n m, i + m ≤ nL S - 1 → nL S - 1 - (i + m) < n → MJ x y h0 0 (fun z S' => z = none ∧ S' = removeF S i) kX7_removeLetter 12 [(0, .ref y.1), (2, .int (nI (i + m)))] [] (rmF (pI S 468 (mI S 468 - 1)) i m) := by
    intro n
    induction n with
    | zero => intro m _ h; omega
    | succ n ih =>
      intro m hm hn
      have hz := h01 m (i + m + 1)
      have he := h468 m
      have en : rmF (pI S 468 (mI S 468 - 1)) i (m + 1) = letTo (rmF (pI S 468 (mI S 468 - 1)) i m) (i + m) := rfl
      have hrem : ¬ i + m < nL S - 1 → removeF S i = rmF (pI S 468 (mI S 468 - 1)) i m := fun z => by unfold removeF; congr 1; omega
      generalize rmF (pI S 468 (mI S 468 - 1)) i m = S' at *
      refine MJ_iload_n dX7_removeLetter_12 rfl rfl ?_
      refine MJ_aload_n dX7_removeLetter_13 rfl rfl isR_r ?_
      refine MJ_getI dX7_removeLetter_14 g_X7_124 ?_
      rw [he]
      refine MJ_icmp_ge (tgt := 96) dX7_removeLetter_17 (by decide) (fun c17 => ?_) (fun c17 => ?_)
      · rw [nI_lei (by omega) (by omega)] at c17
        exact MJ_return dX7_removeLetter_96 rfl ⟨rfl, (hrem (by omega)).symm⟩
      · rw [nI_lei (by omega) (by omega)] at c17
        refine MJ_aload_n dX7_removeLetter_20 rfl rfl isR_r ?_
        refine MJ_getA dX7_removeLetter_21 g_X7_66 (by decide) ?_
        refine MJ_iload_n dX7_removeLetter_24 rfl rfl ?_
        refine MJ_aload_n dX7_removeLetter_25 rfl rfl isR_r ?_
        refine MJ_getA dX7_removeLetter_26 g_X7_66 (by decide) ?_
        refine MJ_iload_n dX7_removeLetter_29 rfl rfl ?_
        refine MJ_iconst (v := 1) dX7_removeLetter_30 (by decide) ?_
        refine MJ_iadd dX7_removeLetter_31 ?_
        refine MJ_pc (pc' := 32) rfl ?_
        rw [nI_inc1]
        refine MJ_iald dX7_removeLetter_32 (by first | assumption | exact inx_v (by assumption) | exact inx_n (show _ < 121 by omega) (by decide)) (by decide) ?_
        refine MJ_iast dX7_removeLetter_33 (by first | assumption | exact inx_v (by assumption) | exact inx_n (show _ < 121 by omega) (by decide)) (by decide) ?_
        refine MJ_aload_n dX7_removeLetter_34 rfl rfl isR_r ?_
        refine MJ_getA dX7_removeLetter_35 g_X7_69 (by decide) ?_
        refine MJ_iload_n dX7_removeLetter_38 rfl rfl ?_
        refine MJ_aload_n dX7_removeLetter_39 rfl rfl isR_r ?_
        refine MJ_getA dX7_removeLetter_40 g_X7_69 (by decide) ?_
        refine MJ_iload_n dX7_removeLetter_43 rfl rfl ?_
        refine MJ_pc (pc' := 44) rfl ?_
        refine MJ_iconst (v := 1) dX7_removeLetter_44 (by decide) ?_
        refine MJ_iadd dX7_removeLetter_45 ?_
        rw [nI_inc1]
        refine MJ_zald dX7_removeLetter_46 (by first | assumption | exact inx_v (by assumption) | exact inx_n (show _ < 121 by omega) (by decide)) (by decide) ?_
        refine MJ_zast dX7_removeLetter_47 (by first | assumption | exact inx_v (by assumption) | exact inx_n (show _ < 121 by omega) (by decide)) hz.1 (by decide) ?_
        refine MJ_aload_n dX7_removeLetter_48 rfl rfl isR_r ?_
        refine MJ_getA dX7_removeLetter_49 g_X7_72 (by decide) ?_
        refine MJ_iload_n dX7_removeLetter_52 rfl rfl ?_
        refine MJ_aload_n dX7_removeLetter_53 rfl rfl isR_r ?_
        refine MJ_pc (pc' := 54) rfl ?_
        refine MJ_getA dX7_removeLetter_54 g_X7_72 (by decide) ?_
        refine MJ_iload_n dX7_removeLetter_57 rfl rfl ?_
        refine MJ_iconst (v := 1) dX7_removeLetter_58 (by decide) ?_
        refine MJ_iadd dX7_removeLetter_59 ?_
        rw [nI_inc1]
        refine MJ_iald dX7_removeLetter_60 (by first | assumption | exact inx_v (by assumption) | exact inx_n (show _ < 121 by omega) (by decide)) (by decide) ?_
        refine MJ_iast dX7_removeLetter_61 (by first | assumption | exact inx_v (by assumption) | exact inx_n (show _ < 121 by omega) (by decide)) (by decide) ?_
        refine MJ_aload_n dX7_removeLetter_62 rfl rfl isR_r ?_
        refine MJ_getA dX7_removeLetter_63 g_X7_75 (by decide) ?_
        refine MJ_pc (pc' := 66) rfl ?_
        refine MJ_iload_n dX7_removeLetter_66 rfl rfl ?_
        refine MJ_aload_n dX7_removeLetter_67 rfl rfl isR_r ?_
        refine MJ_getA dX7_removeLetter_68 g_X7_75 (by decide) ?_
        refine MJ_iload_n dX7_removeLetter_71 rfl rfl ?_
        refine MJ_iconst (v := 1) dX7_removeLetter_72 (by decide) ?_
        refine MJ_iadd dX7_removeLetter_73 ?_
        rw [nI_inc1]
        refine MJ_lald dX7_removeLetter_74 (by first | assumption | exact inx_v (by assumption) | exact inx_n (show _ < 121 by omega) (by decide)) (by decide) ?_
        refine MJ_last dX7_removeLetter_75 (by first | assumption | exact inx_v (by assumption) | exact inx_n (show _ < 121 by omega) (by decide)) (by decide) ?_
        refine MJ_pc (pc' := 76) rfl ?_
        refine MJ_aload_n dX7_removeLetter_76 rfl rfl isR_r ?_
        refine MJ_getA dX7_removeLetter_77 g_X7_78 (by decide) ?_
        refine MJ_iload_n dX7_removeLetter_80 rfl rfl ?_
        refine MJ_aload_n dX7_removeLetter_81 rfl rfl isR_r ?_
        refine MJ_getA dX7_removeLetter_82 g_X7_78 (by decide) ?_
        refine MJ_iload_n dX7_removeLetter_85 rfl rfl ?_
        refine MJ_iconst (v := 1) dX7_removeLetter_86 (by decide) ?_
        refine MJ_iadd dX7_removeLetter_87 ?_
        refine MJ_pc (pc' := 88) rfl ?_
        rw [nI_inc1]
        refine MJ_zald dX7_removeLetter_88 (by first | assumption | exact inx_v (by assumption) | exact inx_n (show _ < 121 by omega) (by decide)) (by decide) ?_
        refine MJ_zast dX7_removeLetter_89 (by first | assumption | exact inx_v (by assumption) | exact inx_n (show _ < 121 by omega) (by decide)) hz.2 (by decide) ?_
        refine MJ_iinc dX7_removeLetter_90 rfl (nI_inc _) (by decide) ?_
        refine MJ_goto (tgt := 12) dX7_removeLetter_93 (by decide) ?_
        have := ih (m + 1) (by omega) (by omega)
        rw [en] at this
        exact MJ_loc _ rfl this
  refine MJ_aload_n dX7_removeLetter_0 rfl rfl isR_r ?_
  refine MJ_dup dX7_removeLetter_1 rfl ?_
  refine MJ_getI dX7_removeLetter_2 g_X7_124 ?_
  refine MJ_iconst (v := 1) dX7_removeLetter_5 (by decide) ?_
  refine MJ_isub dX7_removeLetter_6 ?_
  refine MJ_putI dX7_removeLetter_7 p_X7_124 ?_
  refine MJ_iload_n dX7_removeLetter_10 rfl rfl ?_
  refine MJ_istore_n dX7_removeLetter_11 rfl (by decide) ?_
  exact MJ_loc _ rfl (lp (nL S) 0 (by omega) (by omega))
set_option maxRecDepth 100000 in
set_option maxHeartbeats 4000000 in
theorem mm_brings {i : Nat} {moment : Int32} (hW : WF1 S) (hi : i < nL S) (hr : nR S + 1 < 700) : MM x y 6 kX7_brings [.ref y.1, .int (nI i), .int moment] S (fun z S' => z = none ∧ S' = bringsF S i moment) := by
  refine MM.ofJ mkX7_brings.1 (Nat.le_of_ble_eq_true rfl) fun h0 => ?_
  obtain ⟨hl1, hl2, hl3⟩ := inN_tn hW.1.2.1
  have hl4 : nL S < 121 := hl2
  have hidx : inx (nI i) i 121 := inx_n (by omega) (by decide)
  have hz := hW.2.2.2.1 i
  have ha := hW.2.2.1 i hi
  have ea : bi (decide (mT S 470 i ≠ 0)) = mT S 470 i := by rcases hz.1 with e | e <;> rw [e] <;> rfl
  have eb : bi (decide (mT S 473 i ≠ 0)) = mT S 473 i := by rcases hz.2 with e | e <;> rw [e] <;> rfl
  have tail : ∀ b, b = decide (mT S 470 i ≠ 0 ∧ mJ S 472 i = -3) → MJ x y h0 6 (fun z S' => z = none ∧ S' = bringsF S i moment) kX7_brings 59 [(0, .ref y.1), (1, .int (nI i)), (2, .int moment), (3, .int (mT S 469 i)), (4, .int (mT S 470 i)), (5, .int (mT S 471 i)), (6, .long (mJ S 472 i)), (8, .int (mT S 473 i))] [.int (bi b), .ref y.1] S := by
    intro b hb
    have hW1 : WF1 (pI S 487 (bi b)) := WF1_pI (by decide) hW
    have hi1 : i < nL (pI S 487 (bi b)) := by rw [nL_pI (by decide)]; exact hi
    have hW2 := WF1_remove hW1 hi1
    have n2 : nA (removeF (pI S 487 (bi b)) i) = nA S := congrArg tn ((remove_I i (by decide)).trans (mI_pI_ne _ _ (by decide)))
    have r2 : nR (removeF (pI S 487 (bi b)) i) = nR S := congrArg tn ((remove_I i (by decide)).trans (mI_pI_ne _ _ (by decide)))
    have hbr : bringsF S i moment = comesF (pI (pI (removeF (pI S 487 (bi b)) i) 482 (mI (removeF (pI S 487 (bi b)) i) 482 + 1)) 486 0) (mT S 469 i) (decide (mT S 470 i ≠ 0)) (mT S 471 i) (mJ S 472 i) (decide (mT S 473 i ≠ 0)) moment := by unfold bringsF; rw [hb]
    rw [hbr, ← ea, ← eb]
    refine MJ_putZ dX7_brings_59 p_X7_212 bi_01 ?_
    refine MJ_aload_n dX7_brings_62 rfl rfl isR_r ?_
    refine MJ_iload_n dX7_brings_63 rfl rfl ?_
    refine MJ_callV (mm_removeLetter hW1 hi1) dX7_brings_64 ml_X7_218 mkX7_removeLetter rfl rfl rfl (Nat.le_of_ble_eq_true rfl) ⟨Nat.le_of_ble_eq_true rfl, Nat.le_of_ble_eq_true rfl⟩ (fun v64 hp64 q64 => ?_)
    obtain ⟨rfl, z64⟩ := q64
    rw [z64]
    refine MJ_aload_n dX7_brings_67 rfl rfl isR_r ?_
    refine MJ_dup dX7_brings_68 rfl ?_
    refine MJ_getI dX7_brings_69 g_X7_222 ?_
    refine MJ_iconst (v := 1) dX7_brings_72 (by decide) ?_
    refine MJ_pc (pc' := 73) rfl ?_
    refine MJ_iadd dX7_brings_73 ?_
    refine MJ_putI dX7_brings_74 p_X7_222 ?_
    refine MJ_aload_n dX7_brings_77 rfl rfl isR_r ?_
    refine MJ_iconst (v := 0) dX7_brings_78 (by decide) ?_
    refine MJ_putI dX7_brings_79 p_X7_121 ?_
    refine MJ_aload_n dX7_brings_82 rfl rfl isR_r ?_
    refine MJ_iload_n dX7_brings_83 rfl rfl ?_
    refine MJ_iload dX7_brings_84 rfl ?_
    refine MJ_pc (pc' := 86) rfl ?_
    refine MJ_iload dX7_brings_86 rfl ?_
    refine MJ_lload dX7_brings_88 rfl ?_
    refine MJ_iload dX7_brings_90 rfl ?_
    refine MJ_iload_n dX7_brings_92 rfl rfl ?_
    refine MJ_callV (mm_comes (WF1_pI (by decide) (WF1_pI (by decide) hW2)) (by rw [nA_pI (by decide), nA_pI (by decide), n2]; exact ha) (by rw [nR_pI (by decide), nR_pI (by decide), r2]; exact hr)) dX7_brings_93 ml_X7_225 mkX7_comes rfl rfl rfl (Nat.le_of_ble_eq_true rfl) ⟨Nat.le_of_ble_eq_true rfl, Nat.le_of_ble_eq_true rfl⟩ (fun v93 hp93 q93 => ?_)
    obtain ⟨rfl, z93⟩ := q93
    rw [z93]
    exact MJ_return dX7_brings_96 rfl ⟨rfl, by rw [ea, eb]⟩
  refine MJ_aload_n dX7_brings_0 rfl rfl isR_r ?_
  refine MJ_getA dX7_brings_1 g_X7_66 (by decide) ?_
  refine MJ_iload_n dX7_brings_4 rfl rfl ?_
  refine MJ_iald dX7_brings_5 hidx (by decide) ?_
  refine MJ_istore_n dX7_brings_6 rfl (by decide) ?_
  refine MJ_aload_n dX7_brings_7 rfl rfl isR_r ?_
  refine MJ_getA dX7_brings_8 g_X7_69 (by decide) ?_
  refine MJ_iload_n dX7_brings_11 rfl rfl ?_
  refine MJ_pc (pc' := 12) rfl ?_
  refine MJ_zald dX7_brings_12 hidx (by decide) ?_
  refine MJ_istore dX7_brings_13 (by decide) ?_
  refine MJ_aload_n dX7_brings_15 rfl rfl isR_r ?_
  refine MJ_getA dX7_brings_16 g_X7_72 (by decide) ?_
  refine MJ_iload_n dX7_brings_19 rfl rfl ?_
  refine MJ_iald dX7_brings_20 hidx (by decide) ?_
  refine MJ_istore dX7_brings_21 (by decide) ?_
  refine MJ_aload_n dX7_brings_23 rfl rfl isR_r ?_
  refine MJ_pc (pc' := 24) rfl ?_
  refine MJ_getA dX7_brings_24 g_X7_75 (by decide) ?_
  refine MJ_iload_n dX7_brings_27 rfl rfl ?_
  refine MJ_lald dX7_brings_28 hidx (by decide) ?_
  refine MJ_lstore dX7_brings_29 (by decide) ?_
  refine MJ_aload_n dX7_brings_31 rfl rfl isR_r ?_
  refine MJ_getA dX7_brings_32 g_X7_78 (by decide) ?_
  refine MJ_iload_n dX7_brings_35 rfl rfl ?_
  refine MJ_zald dX7_brings_36 hidx (by decide) ?_
  refine MJ_pc (pc' := 37) rfl ?_
  refine MJ_istore dX7_brings_37 (by decide) ?_
  refine MJ_aload_n dX7_brings_39 rfl rfl isR_r ?_
  refine MJ_iload dX7_brings_40 rfl ?_
  refine MJ_if_eq (tgt := 58) dX7_brings_42 (by decide) (fun c42 => ?_) (fun c42 => ?_)
  · refine MJ_iconst (v := 0) dX7_brings_58 (by decide) ?_
    exact MJ_loc _ rfl (tail false (decide_eq_false (fun z => z.1 c42)).symm)
  · refine MJ_lload dX7_brings_45 rfl ?_
    refine MJ_ldc2 dX7_brings_47 ll_X7_179 ?_
    refine MJ_lcmp dX7_brings_50 ?_
    refine MJ_if_ne (tgt := 58) dX7_brings_51 (by decide) (fun c51 => ?_) (fun c51 => ?_)
    · refine MJ_iconst (v := 0) dX7_brings_58 (by decide) ?_
      exact MJ_loc _ rfl (tail false (decide_eq_false (fun z => c51 ((lg_cmp_eq _ _).mpr z.2))).symm)
    · refine MJ_iconst (v := 1) dX7_brings_54 (by decide) ?_
      refine MJ_goto (tgt := 59) dX7_brings_55 (by decide) ?_
      exact MJ_loc _ rfl (tail true (decide_eq_true ⟨c42, (lg_cmp_eq _ _).mp c51⟩).symm)
end M6
