/-! ask -/
section AS
variable {x : om_x} {w : om_w} {h h' : Hp} {as : Nat → Nat} {S S' : Ms} {g : Nat}
def amF (k m : Int32) : Bool := decide (m ≤ 1000000 ∧ (((k = 0 ∨ k = 1) ∧ -1000000 ≤ m) ∨ ((k = 2 ∨ k = 3) ∧ 0 ≤ m) ∨ (k = 4 ∧ 1 ≤ m)))
theorem i32_nlt {a b : Int32} : ¬ a < b ↔ b ≤ a := by rw [n_lt, n_le]; omega
set_option maxRecDepth 100000 in
set_option maxHeartbeats 4000000 in
theorem c_isAmount {k m : Int32} : Mt x 0 kX6_isAmount 0 0 [.int k, .int m] h (fun z h' => z = some (.int (bi (amF k m))) ∧ h' = h) := by
  refine Mt.ofJ mkX6_isAmount.1 (Nat.le_of_ble_eq_true rfl) ?_
  have no : ¬ m ≤ 1000000 → amF k m = false := fun z => by unfold amF; rw [decide_eq_false_iff_not]; exact fun q => z q.1
  have e0 : k = 0 → m ≤ 1000000 → amF k m = decide (-1000000 ≤ m) := fun z q => by unfold amF; subst z; exact decide_eq_decide.mpr ⟨fun u => by rcases u.2 with v | v | v <;> first | exact v.2 | exact absurd v.1 (by decide), fun u => ⟨q, Or.inl ⟨Or.inl rfl, u⟩⟩⟩
  have e1 : k = 1 → m ≤ 1000000 → amF k m = decide (-1000000 ≤ m) := fun z q => by unfold amF; subst z; exact decide_eq_decide.mpr ⟨fun u => by rcases u.2 with v | v | v <;> first | exact v.2 | exact absurd v.1 (by decide), fun u => ⟨q, Or.inl ⟨Or.inr rfl, u⟩⟩⟩
  have e2 : k = 2 → m ≤ 1000000 → amF k m = decide (0 ≤ m) := fun z q => by unfold amF; subst z; exact decide_eq_decide.mpr ⟨fun u => by rcases u.2 with v | v | v <;> first | exact v.2 | exact absurd v.1 (by decide), fun u => ⟨q, Or.inr (Or.inl ⟨Or.inl rfl, u⟩)⟩⟩
  have e3 : k = 3 → m ≤ 1000000 → amF k m = decide (0 ≤ m) := fun z q => by unfold amF; subst z; exact decide_eq_decide.mpr ⟨fun u => by rcases u.2 with v | v | v <;> first | exact v.2 | exact absurd v.1 (by decide), fun u => ⟨q, Or.inr (Or.inl ⟨Or.inr rfl, u⟩)⟩⟩
  have e4 : k = 4 → m ≤ 1000000 → amF k m = decide (1 ≤ m) := fun z q => by unfold amF; subst z; exact decide_eq_decide.mpr ⟨fun u => by rcases u.2 with v | v | v <;> first | exact v.2 | exact absurd v.1 (by decide), fun u => ⟨q, Or.inr (Or.inr ⟨rfl, u⟩)⟩⟩
  refine J_iload_n dX6_isAmount_0 rfl rfl ?_
  refine J_ldc dX6_isAmount_1 lc_X6_247 ?_
  refine J_icmp_le (tgt := 8) dX6_isAmount_3 (by decide) (fun c3 => ?_) (fun c3 => ?_)
  · refine J_iload_n dX6_isAmount_8 rfl rfl ?_
    by_cases s9_0 : k = 0
    · refine J_st (st' := [.int 0]) (by rw [s9_0] <;> rfl) ?_
      refine J_tswIn (off := 35) (tgt := 44) dX6_isAmount_9 (by decide) (by decide) (by decide) (by decide) ?_
      refine J_iload_n dX6_isAmount_44 rfl rfl ?_
      refine J_ldc dX6_isAmount_45 lc_X6_248 ?_
      refine J_icmp_lt (tgt := 54) dX6_isAmount_47 (by decide) (fun c47 => ?_) (fun c47 => ?_)
      · refine J_iconst (v := 0) dX6_isAmount_54 (by decide) ?_
        exact J_zreturn dX6_isAmount_55 rfl (by first | exact Or.inl rfl | exact Or.inr rfl | exact bi_01) ⟨by rw [e0 s9_0 c3, decide_eq_false (fun z => (i32_nlt.mpr z) c47)]; rfl, rfl⟩ (Nat.le_of_ble_eq_true rfl) (Nat.le_of_ble_eq_true rfl)
      · refine J_iconst (v := 1) dX6_isAmount_50 (by decide) ?_
        refine J_goto (tgt := 55) dX6_isAmount_51 (by decide) ?_
        exact J_zreturn dX6_isAmount_55 rfl (by first | exact Or.inl rfl | exact Or.inr rfl | exact bi_01) ⟨by rw [e0 s9_0 c3, decide_eq_true (i32_nlt.mp c47)]; rfl, rfl⟩ (Nat.le_of_ble_eq_true rfl) (Nat.le_of_ble_eq_true rfl)
    -- else
    by_cases s9_1 : k = 1
    · refine J_st (st' := [.int 1]) (by rw [s9_1] <;> rfl) ?_
      refine J_tswIn (off := 35) (tgt := 44) dX6_isAmount_9 (by decide) (by decide) (by decide) (by decide) ?_
      refine J_iload_n dX6_isAmount_44 rfl rfl ?_
      refine J_ldc dX6_isAmount_45 lc_X6_248 ?_
      refine J_icmp_lt (tgt := 54) dX6_isAmount_47 (by decide) (fun c47 => ?_) (fun c47 => ?_)
      · refine J_iconst (v := 0) dX6_isAmount_54 (by decide) ?_
        exact J_zreturn dX6_isAmount_55 rfl (by first | exact Or.inl rfl | exact Or.inr rfl | exact bi_01) ⟨by rw [e1 s9_1 c3, decide_eq_false (fun z => (i32_nlt.mpr z) c47)]; rfl, rfl⟩ (Nat.le_of_ble_eq_true rfl) (Nat.le_of_ble_eq_true rfl)
      · refine J_iconst (v := 1) dX6_isAmount_50 (by decide) ?_
        refine J_goto (tgt := 55) dX6_isAmount_51 (by decide) ?_
        exact J_zreturn dX6_isAmount_55 rfl (by first | exact Or.inl rfl | exact Or.inr rfl | exact bi_01) ⟨by rw [e1 s9_1 c3, decide_eq_true (i32_nlt.mp c47)]; rfl, rfl⟩ (Nat.le_of_ble_eq_true rfl) (Nat.le_of_ble_eq_true rfl)
    -- else
    by_cases s9_2 : k = 2
    · refine J_st (st' := [.int 2]) (by rw [s9_2] <;> rfl) ?_
      refine J_tswIn (off := 47) (tgt := 56) dX6_isAmount_9 (by decide) (by decide) (by decide) (by decide) ?_
      refine J_iload_n dX6_isAmount_56 rfl rfl ?_
      refine J_if_lt (tgt := 64) dX6_isAmount_57 (by decide) (fun c57 => ?_) (fun c57 => ?_)
      · refine J_iconst (v := 0) dX6_isAmount_64 (by decide) ?_
        exact J_zreturn dX6_isAmount_65 rfl (by first | exact Or.inl rfl | exact Or.inr rfl | exact bi_01) ⟨by rw [e2 s9_2 c3, decide_eq_false (fun z => (i32_nlt.mpr z) c57)]; rfl, rfl⟩ (Nat.le_of_ble_eq_true rfl) (Nat.le_of_ble_eq_true rfl)
      · refine J_iconst (v := 1) dX6_isAmount_60 (by decide) ?_
        refine J_goto (tgt := 65) dX6_isAmount_61 (by decide) ?_
        exact J_zreturn dX6_isAmount_65 rfl (by first | exact Or.inl rfl | exact Or.inr rfl | exact bi_01) ⟨by rw [e2 s9_2 c3, decide_eq_true (i32_nlt.mp c57)]; rfl, rfl⟩ (Nat.le_of_ble_eq_true rfl) (Nat.le_of_ble_eq_true rfl)
    -- else
    by_cases s9_3 : k = 3
    · refine J_st (st' := [.int 3]) (by rw [s9_3] <;> rfl) ?_
      refine J_tswIn (off := 47) (tgt := 56) dX6_isAmount_9 (by decide) (by decide) (by decide) (by decide) ?_
      refine J_iload_n dX6_isAmount_56 rfl rfl ?_
      refine J_if_lt (tgt := 64) dX6_isAmount_57 (by decide) (fun c57 => ?_) (fun c57 => ?_)
      · refine J_iconst (v := 0) dX6_isAmount_64 (by decide) ?_
        exact J_zreturn dX6_isAmount_65 rfl (by first | exact Or.inl rfl | exact Or.inr rfl | exact bi_01) ⟨by rw [e3 s9_3 c3, decide_eq_false (fun z => (i32_nlt.mpr z) c57)]; rfl, rfl⟩ (Nat.le_of_ble_eq_true rfl) (Nat.le_of_ble_eq_true rfl)
      · refine J_iconst (v := 1) dX6_isAmount_60 (by decide) ?_
        refine J_goto (tgt := 65) dX6_isAmount_61 (by decide) ?_
        exact J_zreturn dX6_isAmount_65 rfl (by first | exact Or.inl rfl | exact Or.inr rfl | exact bi_01) ⟨by rw [e3 s9_3 c3, decide_eq_true (i32_nlt.mp c57)]; rfl, rfl⟩ (Nat.le_of_ble_eq_true rfl) (Nat.le_of_ble_eq_true rfl)
    -- else
    by_cases s9_4 : k = 4
    · refine J_st (st' := [.int 4]) (by rw [s9_4] <;> rfl) ?_
      refine J_tswIn (off := 57) (tgt := 66) dX6_isAmount_9 (by decide) (by decide) (by decide) (by decide) ?_
      refine J_iload_n dX6_isAmount_66 rfl rfl ?_
      refine J_iconst (v := 1) dX6_isAmount_67 (by decide) ?_
      refine J_icmp_lt (tgt := 75) dX6_isAmount_68 (by decide) (fun c68 => ?_) (fun c68 => ?_)
      · refine J_iconst (v := 0) dX6_isAmount_75 (by decide) ?_
        exact J_zreturn dX6_isAmount_76 rfl (by first | exact Or.inl rfl | exact Or.inr rfl | exact bi_01) ⟨by rw [e4 s9_4 c3, decide_eq_false (fun z => (i32_nlt.mpr z) c68)]; rfl, rfl⟩ (Nat.le_of_ble_eq_true rfl) (Nat.le_of_ble_eq_true rfl)
      · refine J_iconst (v := 1) dX6_isAmount_71 (by decide) ?_
        refine J_goto (tgt := 76) dX6_isAmount_72 (by decide) ?_
        exact J_zreturn dX6_isAmount_76 rfl (by first | exact Or.inl rfl | exact Or.inr rfl | exact bi_01) ⟨by rw [e4 s9_4 c3, decide_eq_true (i32_nlt.mp c68)]; rfl, rfl⟩ (Nat.le_of_ble_eq_true rfl) (Nat.le_of_ble_eq_true rfl)
    -- else
    have tt : (k).toInt ≠ 0 ∧ (k).toInt ≠ 1 ∧ (k).toInt ≠ 2 ∧ (k).toInt ≠ 3 ∧ (k).toInt ≠ 4 := ⟨fun z => s9_0 (Int32.toInt_inj.mp (z.trans (by decide))), fun z => s9_1 (Int32.toInt_inj.mp (z.trans (by decide))), fun z => s9_2 (Int32.toInt_inj.mp (z.trans (by decide))), fun z => s9_3 (Int32.toInt_inj.mp (z.trans (by decide))), fun z => s9_4 (Int32.toInt_inj.mp (z.trans (by decide)))⟩
    refine J_tswOut (tgt := 77) dX6_isAmount_9 (by omega) (by decide) ?_
    refine J_iconst (v := 0) dX6_isAmount_77 (by decide) ?_
    exact J_zreturn dX6_isAmount_78 rfl (by first | exact Or.inl rfl | exact Or.inr rfl | exact bi_01) ⟨by rw [show amF k m = false by unfold amF; rw [decide_eq_false_iff_not]; intro u; rcases u.2 with ⟨v | v, -⟩ | ⟨v | v, -⟩ | ⟨v, -⟩ <;> contradiction]; rfl, rfl⟩ (Nat.le_of_ble_eq_true rfl) (Nat.le_of_ble_eq_true rfl)
  · refine J_iconst (v := 0) dX6_isAmount_6 (by decide) ?_
    exact J_zreturn dX6_isAmount_7 rfl (by first | exact Or.inl rfl | exact Or.inr rfl | exact bi_01) ⟨by rw [no c3]; rfl, rfl⟩ (Nat.le_of_ble_eq_true rfl) (Nat.le_of_ble_eq_true rfl)
theorem itY {b : Bool} {u : Nat} {v : Nat} (e : (if b = true then some u else none) = some v) : b = true := by
  cases b with
  | true => rfl
  | false => cases e
theorem am_iff (k m : Int32) : amF k m = true ↔ (inL k.toInt64 0 4 = true ∧ inL m.toInt64 (-1000000) 1000000 = true ∧ ¬ (((k = 2 ∨ k = 3) ∧ m < 0) ∨ (k = 4 ∧ m < 1))) := by
  unfold amF inL
  simp only [decide_eq_true_iff, n_le, n_lt, n_eq, n_le64, Int32.toInt_toInt64]
  have i0 : (0 : Int32).toInt = 0 := by decide
  have i1 : (1 : Int32).toInt = 1 := by decide
  have i2 : (2 : Int32).toInt = 2 := by decide
  have i3 : (3 : Int32).toInt = 3 := by decide
  have i4 : (4 : Int32).toInt = 4 := by decide
  have i5 : (1000000 : Int32).toInt = 1000000 := by decide
  have i6 : (-1000000 : Int32).toInt = -1000000 := by decide
  have j0 : (0 : Int64).toInt = 0 := by decide
  have j4 : (4 : Int64).toInt = 4 := by decide
  have j5 : (1000000 : Int64).toInt = 1000000 := by decide
  have j6 : (-1000000 : Int64).toInt = -1000000 := by decide
  rw [i0, i1, i2, i3, i4, i5, i6, j0, j4, j5, j6]
  omega
theorem ask_ok (a s k p q t m : Int32) : ¬ (askOK a s k p q t m = false ∨ (((k = 2 ∨ k = 3) ∧ m < 0) ∨ (k = 4 ∧ m < 1))) ↔ (inN a 6 = true ∧ inN s 4 = true ∧ inN t 4 = true ∧ inN p 6 = true ∧ inN q 6 = true ∧ amF k m = true) := by
  rw [am_iff, not_or, Bool.not_eq_false]
  unfold askOK
  simp only [Bool.and_eq_true]
  rw [inL_inN (v := a) (m := 5) 6 (by decide), inL_inN (v := s) (m := 3) 4 (by decide), inL_inN (v := p) (m := 5) 6 (by decide), inL_inN (v := q) (m := 5) 6 (by decide), inL_inN (v := t) (m := 3) 4 (by decide)]
  constructor
  · rintro ⟨⟨q1, q2, q3, q4, q5, q6, q7⟩, q8⟩
    exact ⟨q1, q2, q6, q4, q5, q3, q7, q8⟩
  · rintro ⟨q1, q2, q6, q4, q5, q3, q7, q8⟩
    exact ⟨⟨q1, q2, q3, q4, q5, q6, q7⟩, q8⟩
theorem LifeOK_new {n sv kind a b t amt far : Int32} (hW : WF1 S) (h3 : nA S < 300) (hL : LifeOK S) : LifeOK (newAskF S n sv kind a b t amt far) := by
  intro k hk o
  rw [(new_n hW h3).2] at hk
  obtain ⟨m1, m2, m3, m4, m5, m6, m7, m8, m9, m10, m11, -⟩ := new_T (S := S) (n := n) (sv := sv) (kind := kind) (a := a) (b := b) (t := t) (amt := amt) (far := far) k
  rw [m11] at o
  rw [m1, m2, (SX_new 450 (by decide)).2.1]
  by_cases e : k = nA S
  · rw [if_pos e, if_pos e]
  · rw [if_neg e] at o ⊢
    rw [if_neg e]
    exact hL k (by omega) o
def AskX : List Nat := [67, 68, 389, 313, 329, 128, 129, 130, 131, 132, 133, 256, 258]
set_option maxRecDepth 100000 in
set_option maxHeartbeats 4000000 in
theorem c_ask {a s k p q t m : Int32} (hr : Rep w as S h) (hI1 : Inj w) (hW : WF2 g S) (h0 : mI S 485 = 0) (h467 : ∀ k, nA S ≤ k → mT S 467 k = 0) : Mt x 3 kX6_ask 1 15 [.ref (w 0 0), .int a, .int s, .int k, .int p, .int q, .int t, .int m] h (fun z h' => z = some (.int (askP S a s k p q t m).1) ∧ ∃ as' : Nat → Nat, (∀ k, k < nA S → as' k = as k) ∧ Rep w as' (askP S a s k p q t m).2 h' ∧ HX AskX h h') := by
  refine Mt.ofJ mkX6_ask.1 (Nat.le_of_ble_eq_true rfl) ?_
  have o1 := hr.1.1.1
  have bad : ¬ (inN a 6 = true ∧ inN s 4 = true ∧ inN t 4 = true ∧ inN p 6 = true ∧ inN q 6 = true ∧ amF k m = true) → askP S a s k p q t m = (-2000001, S) := fun z => by
    unfold askP
    rw [if_pos (Decidable.byContradiction fun u => z ((ask_ok a s k p q t m).mp u))]
  have good : (inN a 6 = true ∧ inN s 4 = true ∧ inN t 4 = true ∧ inN p 6 = true ∧ inN q 6 = true ∧ amF k m = true) → askP S a s k p q t m = if mT S 449 (tn a) ≠ 0 then (-2000002, S) else if mI S 453 = 300 ∨ usedUp S a = true then (-2000003, S) else (mI S 453, sendF (newAskF S a s k p q t m (-1)) (mI S 453) false 0) := fun z => by
    unfold askP
    rw [if_neg ((ask_ok a s k p q t m).mpr z)]
  have six : ¬ (6 : Int32) ≤ a → ∀ {b}, inN a 10 = b → inN a 6 = b := fun z b e => by
    cases b with
    | true =>
      have := inN_tn e
      rw [this.1, show (6 : Int32) = nI 6 from rfl, nI_lei (by decide) (by omega)] at z
      rw [this.1]
      exact inN_nIlt (by omega) (by decide)
    | false =>
      cases h9 : inN a 6 with
      | false => rfl
      | true => rw [inN_le h9 (by decide)] at e; cases e
  have eN := inN_tn hW.1.1.1
  have eN2 : nA S < 301 := eN.2.1
  have hc3 : mI S 453 = 300 ↔ nA S = 300 := by rw [eN.1, show (300 : Int32) = nI 300 from rfl, nI_eqi (by omega) (by decide)]; rfl
  have hc : mI S 453 < 300 ↔ nA S < 300 := by rw [eN.1, show (300 : Int32) = nI 300 from rfl, nI_lti (by omega) (by decide)]; rfl
  generalize hQ : (fun z h' => z = some (Value.int (askP S a s k p q t m).1) ∧ ∃ as' : Nat → Nat, (∀ k, k < nA S → as' k = as k) ∧ Rep w as' (askP S a s k p q t m).2 h' ∧ HX AskX h h') = Q
  have qbad : ¬ (inN a 6 = true ∧ inN s 4 = true ∧ inN t 4 = true ∧ inN p 6 = true ∧ inN q 6 = true ∧ amF k m = true) → Q (some (.int (-2000001))) h := fun z => by
    rw [← hQ]
    show _ ∧ _
    rw [bad z]
    exact ⟨rfl, as, fun _ _ => rfl, hr, HX.rf⟩
  have tail : inN a 10 = true → (inN a 6 = true ∧ inN s 4 = true ∧ inN t 4 = true ∧ inN p 6 = true ∧ inN q 6 = true ∧ amF k m = true) → J x (om_m x 3 1 15 Q) kX6_ask 69 [(0, .ref (w 0 0)), (1, .int a), (2, .int s), (3, .int k), (4, .int p), (5, .int q), (6, .int t), (7, .int m), (8, .ref (w 6 (tn a)))] [] h 0 0 := by
    intro ha10 hg
    have e := good hg
    obtain ⟨g1, g2, g3, g4, g5, g6⟩ := hg
    have ht := inN_tn ha10
    have k6 := (hr.1.2.2.1 _ ht.2.1).2.1
    by_cases hcc : mI S 453 < 300 ∧ usedUp S (nI (tn a)) = false
    · obtain ⟨c1, c2⟩ := hcc
      have h300 := hc.mp c1
      have h5 : 5 < a → inN (-1) (nA S) = true := fun z => by
        have := (inN_tn g1)
        rw [this.1, show (5 : Int32) = nI 5 from rfl, nI_lti (by decide) (by omega)] at z
        omega
      obtain ⟨w4, n4⟩ := WF1_newAsk hW.1 h300 ha10 g2 g4 g5 g3 (kind := k) (amt := m) (far := -1) h5
      have hk5 : inN (mI S 453) (nA (newAskF S a s k p q t m (-1))) = true := by
        rw [n4, eN.1]; exact inN_nIlt (Nat.lt_succ_self _) (by unfold nA; omega)
      refine J_aload dX6_ask_69 rfl isR_r ?_
      refine J_getI dX6_ask_71 g_X6_68 (by first | with_reducible assumption | (simp only [hK_sI, hK_sJ, hK_sR, hK_tI, hK_tJ, hK_tR]; with_reducible assumption)) ?_
      refine J_if_ne (tgt := 80) dX6_ask_74 (by decide) (fun c74 => ?_) (fun c74 => ?_)
      · refine J_aload_n dX6_ask_80 rfl rfl isR_r ?_
        refine J_aload dX6_ask_81 rfl isR_r ?_
        refine J_iload_n dX6_ask_83 rfl rfl ?_
        refine J_iload_n dX6_ask_84 rfl rfl ?_
        refine J_iload dX6_ask_85 rfl ?_
        refine J_iload dX6_ask_87 rfl ?_
        refine J_iload dX6_ask_89 rfl ?_
        refine J_iload dX6_ask_91 rfl ?_
        refine J_pc (pc' := 93) rfl ?_
        refine J_callV (c_newAsk hr hI1 hW ht.2.1 h467) dX6_ask_93 ml_X6_73 mkX6_newAsk rfl (by first | with_reducible assumption | (simp only [hK_sI, hK_sJ, hK_sR, hK_tI, hK_tJ, hK_tR]; with_reducible assumption)) (by decide) rfl rfl (Nat.le_of_ble_eq_true rfl) ⟨Nat.le_of_ble_eq_true rfl, Nat.le_of_ble_eq_true rfl⟩ ⟨Nat.le_of_ble_eq_true rfl, Nat.le_of_ble_eq_true rfl⟩ (fun v93 hp93 q93 => ?_)
        rw [if_pos ⟨c1, c2⟩] at q93
        obtain ⟨q9, rfl, z1, z2⟩ := q93
        rw [← ht.1] at z1
        have o1' := z1.1.1.1
        refine J_astore dX6_ask_96 isR_r (by decide) ?_
        refine J_aload dX6_ask_98 rfl isR_r ?_
        refine J_ifnonnull_r (tgt := 106) dX6_ask_100 (by decide) ?_
        refine J_aload_n dX6_ask_106 rfl rfl isR_r ?_
        refine J_aload dX6_ask_107 rfl isR_r ?_
        refine J_iconst (v := 1) dX6_ask_109 (by decide) ?_
        refine J_st (st' := [.int 1, .ref (asN as S q9 (tn (mI S 453))), .ref (w 0 0)]) (by rw [show asN as S q9 (tn (mI S 453)) = q9 from asN_new] <;> rfl) ?_
        refine J_callV (c_sendAsk z1 hI1 w4 (LifeOK_new hW.1 h300 hW.life) hk5 (Or.inr ⟨rfl, by rw [(SX_new 485 (by decide)).1]; exact h0⟩)) dX6_ask_110 ml_X6_78 mkX6_sendAsk rfl (by first | with_reducible assumption | (simp only [hK_sI, hK_sJ, hK_sR, hK_tI, hK_tJ, hK_tR]; with_reducible assumption)) (by decide) rfl rfl (Nat.le_of_ble_eq_true rfl) ⟨Nat.le_of_ble_eq_true rfl, Nat.le_of_ble_eq_true rfl⟩ ⟨Nat.le_of_ble_eq_true rfl, Nat.le_of_ble_eq_true rfl⟩ (fun v110 hp110 q110 => ?_)
        obtain ⟨rfl, z3, z4⟩ := q110
        have zz := z3.2.2.2.1.2.2.1 (nA S) (by unfold nA; rw [(SX_send _ _ _ 453 (by decide)).1]; show nA S < nA (newAskF S a s k p q t m (-1)); rw [n4]; omega)
        unfold AskOK at zz
        rw [asN_new] at zz
        have hk9 := zz.1
        refine J_pop dX6_ask_113 rfl ?_
        refine J_pc (pc' := 114) rfl ?_
        refine J_aload dX6_ask_114 rfl isR_r ?_
        refine J_getI dX6_ask_116 g_X6_82 (by first | with_reducible assumption | (simp only [hK_sI, hK_sJ, hK_sR, hK_tI, hK_tJ, hK_tR]; with_reducible assumption)) ?_
        exact J_ireturn dX6_ask_119 rfl (by
         rw [← hQ]
         show _ ∧ _
         rw [e, if_neg (fun z => c74 ((up_iff hr.2.2.1 ht.2.1).mpr z)), if_neg (fun z => by
           rcases z with z | z
           · have := hc3.mp z; omega
           · rw [ht.1, c2] at z; cases z), zz.2.1]
         exact ⟨by rw [eN.1]; rfl, asN as S q9, fun k hk => asN_old hk, z3, (z2.sub (by decide)).tr (z4.sub (by decide))⟩) (Nat.le_of_ble_eq_true rfl) (Nat.le_of_ble_eq_true rfl)
      · refine J_ldc dX6_ask_77 lc_X6_72 ?_
        exact J_ireturn dX6_ask_79 rfl (by
         rw [← hQ]
         show _ ∧ _
         rw [e, if_pos ((up_iff hr.2.2.1 ht.2.1).mp c74)]
         exact ⟨rfl, as, fun _ _ => rfl, hr, HX.rf⟩) (Nat.le_of_ble_eq_true rfl) (Nat.le_of_ble_eq_true rfl)
    · skip
      refine J_aload dX6_ask_69 rfl isR_r ?_
      refine J_getI dX6_ask_71 g_X6_68 (by first | with_reducible assumption | (simp only [hK_sI, hK_sJ, hK_sR, hK_tI, hK_tJ, hK_tR]; with_reducible assumption)) ?_
      refine J_if_ne (tgt := 80) dX6_ask_74 (by decide) (fun c74 => ?_) (fun c74 => ?_)
      · refine J_aload_n dX6_ask_80 rfl rfl isR_r ?_
        refine J_aload dX6_ask_81 rfl isR_r ?_
        refine J_iload_n dX6_ask_83 rfl rfl ?_
        refine J_iload_n dX6_ask_84 rfl rfl ?_
        refine J_iload dX6_ask_85 rfl ?_
        refine J_iload dX6_ask_87 rfl ?_
        refine J_iload dX6_ask_89 rfl ?_
        refine J_iload dX6_ask_91 rfl ?_
        refine J_pc (pc' := 93) rfl ?_
        refine J_callV (c_newAsk hr hI1 hW ht.2.1 h467) dX6_ask_93 ml_X6_73 mkX6_newAsk rfl (by first | with_reducible assumption | (simp only [hK_sI, hK_sJ, hK_sR, hK_tI, hK_tJ, hK_tR]; with_reducible assumption)) (by decide) rfl rfl (Nat.le_of_ble_eq_true rfl) ⟨Nat.le_of_ble_eq_true rfl, Nat.le_of_ble_eq_true rfl⟩ ⟨Nat.le_of_ble_eq_true rfl, Nat.le_of_ble_eq_true rfl⟩ (fun v93 hp93 q93 => ?_)
        rw [if_neg hcc] at q93
        obtain ⟨rfl, z1, z2⟩ := q93
        refine J_astore dX6_ask_96 isR_n (by decide) ?_
        refine J_aload dX6_ask_98 rfl isR_n ?_
        refine J_ifnonnull_n dX6_ask_100 ?_
        refine J_ldc dX6_ask_103 lc_X6_77 ?_
        exact J_ireturn dX6_ask_105 rfl (by
         rw [← hQ]
         show _ ∧ _
         rw [e, if_neg (fun z => c74 ((up_iff hr.2.2.1 ht.2.1).mpr z)), if_pos (by
           by_cases z : mI S 453 = 300
           · exact Or.inl z
           · right
             rw [ht.1]
             cases u : usedUp S (nI (tn a)) with
             | true => rfl
             | false => exact absurd ⟨hc.mpr (Nat.lt_of_le_of_ne (by omega) (fun y => z (hc3.mpr y))), u⟩ hcc)]
         exact ⟨rfl, as, fun _ _ => rfl, z1, z2.sub (by decide)⟩) (Nat.le_of_ble_eq_true rfl) (Nat.le_of_ble_eq_true rfl)
      · refine J_ldc dX6_ask_77 lc_X6_72 ?_
        exact J_ireturn dX6_ask_79 rfl (by
         rw [← hQ]
         show _ ∧ _
         rw [e, if_pos ((up_iff hr.2.2.1 ht.2.1).mp c74)]
         exact ⟨rfl, as, fun _ _ => rfl, hr, HX.rf⟩) (Nat.le_of_ble_eq_true rfl) (Nat.le_of_ble_eq_true rfl)
  refine J_iload_n dX6_ask_0 rfl rfl ?_
  refine J_bipush (v := 6) dX6_ask_1 (by decide) ?_
  refine J_icmp_ge (tgt := 23) dX6_ask_3 (by decide) (fun c3 => ?_) (fun c3 => ?_)
  · refine J_ldc dX6_ask_23 lc_X6_55 ?_
    exact J_ireturn dX6_ask_25 rfl (qbad (fun z => by rw [inN_big (n := 6) (by decide) c3] at z; cases z.1)) (Nat.le_of_ble_eq_true rfl) (Nat.le_of_ble_eq_true rfl)
  · refine J_aload_n dX6_ask_6 rfl rfl isR_r ?_
    refine J_iload_n dX6_ask_7 rfl rfl ?_
    refine J_callV (c_serverOf hr.1) dX6_ask_8 ml_X6_51 mkX6_serverOf rfl (by first | with_reducible assumption | (simp only [hK_sI, hK_sJ, hK_sR, hK_tI, hK_tJ, hK_tR]; with_reducible assumption)) (by decide) rfl rfl (Nat.le_of_ble_eq_true rfl) ⟨Nat.le_of_ble_eq_true rfl, Nat.le_of_ble_eq_true rfl⟩ ⟨Nat.le_of_ble_eq_true rfl, Nat.le_of_ble_eq_true rfl⟩ (fun v8 hp8 q8 => ?_)
    obtain ⟨rfl, z8⟩ := q8
    rw [z8]
    refine J_ifnull_w (tgt := 23) dX6_ask_11 (by decide) (fun e11 => ?_) (fun a11 e11 => ?_)
    · refine J_ldc dX6_ask_23 lc_X6_55 ?_
      exact J_ireturn dX6_ask_25 rfl (qbad (fun z => by rw [if_pos z.2.1] at e11; cases e11)) (Nat.le_of_ble_eq_true rfl) (Nat.le_of_ble_eq_true rfl)
    · refine J_aload_n dX6_ask_14 rfl rfl isR_r ?_
      refine J_iload dX6_ask_15 rfl ?_
      refine J_callV (c_serverOf hr.1) dX6_ask_17 ml_X6_51 mkX6_serverOf rfl (by first | with_reducible assumption | (simp only [hK_sI, hK_sJ, hK_sR, hK_tI, hK_tJ, hK_tR]; with_reducible assumption)) (by decide) rfl rfl (Nat.le_of_ble_eq_true rfl) ⟨Nat.le_of_ble_eq_true rfl, Nat.le_of_ble_eq_true rfl⟩ ⟨Nat.le_of_ble_eq_true rfl, Nat.le_of_ble_eq_true rfl⟩ (fun v17 hp17 q17 => ?_)
      obtain ⟨rfl, z17⟩ := q17
      rw [z17]
      refine J_ifnonnull_w (tgt := 26) dX6_ask_20 (by decide) (fun a20 e20 => ?_) (fun e20 => ?_)
      · refine J_iload dX6_ask_26 rfl ?_
        refine J_callS (c_isAccount) dX6_ask_28 ml_X6_56 mkX6_isAccount rfl rfl (Nat.le_of_ble_eq_true rfl) ⟨Nat.le_of_ble_eq_true rfl, Nat.le_of_ble_eq_true rfl⟩ ⟨Nat.le_of_ble_eq_true rfl, Nat.le_of_ble_eq_true rfl⟩ (fun v28 hp28 q28 => ?_)
        obtain ⟨rfl, z28⟩ := q28
        rw [z28]
        refine J_if_eq (tgt := 51) dX6_ask_31 (by decide) (fun c31 => ?_) (fun c31 => ?_)
        · refine J_ldc dX6_ask_51 lc_X6_55 ?_
          exact J_ireturn dX6_ask_53 rfl (qbad (fun z => by rw [bi_0.mp c31] at z; cases z.2.2.2.1)) (Nat.le_of_ble_eq_true rfl) (Nat.le_of_ble_eq_true rfl)
        · refine J_iload dX6_ask_34 rfl ?_
          refine J_callS (c_isAccount) dX6_ask_36 ml_X6_56 mkX6_isAccount rfl rfl (Nat.le_of_ble_eq_true rfl) ⟨Nat.le_of_ble_eq_true rfl, Nat.le_of_ble_eq_true rfl⟩ ⟨Nat.le_of_ble_eq_true rfl, Nat.le_of_ble_eq_true rfl⟩ (fun v36 hp36 q36 => ?_)
          obtain ⟨rfl, z36⟩ := q36
          rw [z36]
          refine J_if_eq (tgt := 51) dX6_ask_39 (by decide) (fun c39 => ?_) (fun c39 => ?_)
          · refine J_ldc dX6_ask_51 lc_X6_55 ?_
            exact J_ireturn dX6_ask_53 rfl (qbad (fun z => by rw [bi_0.mp c39] at z; cases z.2.2.2.2.1)) (Nat.le_of_ble_eq_true rfl) (Nat.le_of_ble_eq_true rfl)
          · refine J_iload_n dX6_ask_42 rfl rfl ?_
            refine J_iload dX6_ask_43 rfl ?_
            refine J_callS (c_isAmount) dX6_ask_45 ml_X6_60 mkX6_isAmount rfl rfl (Nat.le_of_ble_eq_true rfl) ⟨Nat.le_of_ble_eq_true rfl, Nat.le_of_ble_eq_true rfl⟩ ⟨Nat.le_of_ble_eq_true rfl, Nat.le_of_ble_eq_true rfl⟩ (fun v45 hp45 q45 => ?_)
            obtain ⟨rfl, z45⟩ := q45
            rw [z45]
            refine J_if_ne (tgt := 54) dX6_ask_48 (by decide) (fun c48 => ?_) (fun c48 => ?_)
            · refine J_aload_n dX6_ask_54 rfl rfl isR_r ?_
              refine J_iload_n dX6_ask_55 rfl rfl ?_
              refine J_callV (c_endOf hr.1) dX6_ask_56 ml_X6_64 mkX6_endOf rfl (by first | with_reducible assumption | (simp only [hK_sI, hK_sJ, hK_sR, hK_tI, hK_tJ, hK_tR]; with_reducible assumption)) (by decide) rfl rfl (Nat.le_of_ble_eq_true rfl) ⟨Nat.le_of_ble_eq_true rfl, Nat.le_of_ble_eq_true rfl⟩ ⟨Nat.le_of_ble_eq_true rfl, Nat.le_of_ble_eq_true rfl⟩ (fun v56 hp56 q56 => ?_)
              obtain ⟨rfl, z56⟩ := q56
              rw [z56]
              refine J_astore dX6_ask_59 isR_w (by decide) ?_
              refine J_aload dX6_ask_61 rfl isR_w ?_
              refine J_ifnonnull_w (tgt := 69) dX6_ask_63 (by decide) (fun a63 e63 => ?_) (fun e63 => ?_)
              · have ha10 : inN a 10 = true := itY e63
                rw [ha10]
                exact J_loc _ rfl (tail ha10 ⟨six c3 ha10, itY e11, itY e20, bi_1.mp c31, bi_1.mp c39, bi_1.mp c48⟩)
              · refine J_ldc dX6_ask_66 lc_X6_55 ?_
                exact J_ireturn dX6_ask_68 rfl (qbad (fun z => by rw [if_pos (inN_le z.1 (by decide))] at e63; cases e63)) (Nat.le_of_ble_eq_true rfl) (Nat.le_of_ble_eq_true rfl)
            · refine J_ldc dX6_ask_51 lc_X6_55 ?_
              exact J_ireturn dX6_ask_53 rfl (qbad (fun z => by rw [bi_0.mp c48] at z; cases z.2.2.2.2.2)) (Nat.le_of_ble_eq_true rfl) (Nat.le_of_ble_eq_true rfl)
      · refine J_ldc dX6_ask_23 lc_X6_55 ?_
        exact J_ireturn dX6_ask_25 rfl (qbad (fun z => by rw [if_pos z.2.2.1] at e20; cases e20)) (Nat.le_of_ble_eq_true rfl) (Nat.le_of_ble_eq_true rfl)
end AS
