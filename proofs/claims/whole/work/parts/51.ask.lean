/-! ask -/
section AS
variable {x : om_x} {w : om_w} {h h' : Hp} {as : Nat → Nat} {S S' : Ms} {g : Nat}
def amF (k m : Int32) : Bool := decide (m ≤ 1000000 ∧ (((k = 0 ∨ k = 1) ∧ -1000000 ≤ m) ∨ ((k = 2 ∨ k = 3) ∧ 0 ≤ m) ∨ (k = 4 ∧ 1 ≤ m)))
theorem i32_nlt {a b : Int32} : ¬ a < b ↔ b ≤ a := by rw [n_lt, n_le]; omega
set_option maxRecDepth 100000 in
set_option maxHeartbeats 4000000 in
theorem c_isAmount {k m : Int32} : Mt x 0 kX6_isAmount 0 0 [.int k, .int m] h (fun z h' => z = some (.int (bi (amF k m))) ∧ h' = h) := by
  refine Mt.ofJ mkX6_isAmount.1 (Nat.le_of_ble_eq_true rfl) ?_
  have no : ¬ m ≤ 1000000 → amF k m = false := fun z => by unfold amF; rw [decide_eq_false_iff_not]; exact fun q => z q.1
  have e0 : k = 0 → m ≤ 1000000 → amF k m = decide (-1000000 ≤ m) := fun z q => by unfold amF; subst z; exact decide_eq_decide.mpr ⟨fun u => by rcases u.2 with v | v | v <;> first | exact v.2 | exact absurd v.1 (by decide), fun u => ⟨q, Or.inl ⟨Or.inl rfl, u⟩⟩⟩
  have e1 : k = 1 → m ≤ 1000000 → amF k m = decide (-1000000 ≤ m) := fun z q => by unfold amF; subst z; exact decide_eq_decide.mpr ⟨fun u => by rcases u.2 with v | v | v <;> first | exact v.2 | exact absurd v.1 (by decide), fun u => ⟨q, Or.inl ⟨Or.inr rfl, u⟩⟩⟩
  have e2 : k = 2 → m ≤ 1000000 → amF k m = decide (0 ≤ m) := fun z q => by unfold amF; subst z; exact decide_eq_decide.mpr ⟨fun u => by rcases u.2 with v | v | v <;> first | exact v.2 | exact absurd v.1 (by decide), fun u => ⟨q, Or.inr (Or.inl ⟨Or.inl rfl, u⟩)⟩⟩
  have e3 : k = 3 → m ≤ 1000000 → amF k m = decide (0 ≤ m) := fun z q => by unfold amF; subst z; exact decide_eq_decide.mpr ⟨fun u => by rcases u.2 with v | v | v <;> first | exact v.2 | exact absurd v.1 (by decide), fun u => ⟨q, Or.inr (Or.inl ⟨Or.inr rfl, u⟩)⟩⟩
  have e4 : k = 4 → m ≤ 1000000 → amF k m = decide (1 ≤ m) := fun z q => by unfold amF; subst z; exact decide_eq_decide.mpr ⟨fun u => by rcases u.2 with v | v | v <;> first | exact v.2 | exact absurd v.1 (by decide), fun u => ⟨q, Or.inr (Or.inr ⟨rfl, u⟩)⟩⟩
  refine J_iload_n dX6_isAmount_0 rfl rfl ?_
  refine J_ldc dX6_isAmount_1 lc_X6_247 ?_
  refine J_icmp_le (tgt := 8) dX6_isAmount_3 (by decide) (fun c3 => ?_) (fun c3 => ?_)
  · refine J_iload_n dX6_isAmount_8 rfl rfl ?_
    by_cases s9_0 : k = 0
    · refine J_st (st' := [.int 0]) (by rw [s9_0] <;> rfl) ?_
      refine J_tswIn (off := 35) (tgt := 44) dX6_isAmount_9 (by decide) (by decide) (by decide) (by decide) ?_
      refine J_iload_n dX6_isAmount_44 rfl rfl ?_
      refine J_ldc dX6_isAmount_45 lc_X6_248 ?_
      refine J_icmp_lt (tgt := 54) dX6_isAmount_47 (by decide) (fun c47 => ?_) (fun c47 => ?_)
      · refine J_iconst (v := 0) dX6_isAmount_54 (by decide) ?_
        exact J_zreturn dX6_isAmount_55 rfl (by first | exact Or.inl rfl | exact Or.inr rfl | exact bi_01) ⟨by rw [e0 s9_0 c3, decide_eq_false (fun z => (i32_nlt.mpr z) c47)]; rfl, rfl⟩ (Nat.le_of_ble_eq_true rfl) (Nat.le_of_ble_eq_true rfl)
      · refine J_iconst (v := 1) dX6_isAmount_50 (by decide) ?_
        refine J_goto (tgt := 55) dX6_isAmount_51 (by decide) ?_
        exact J_zreturn dX6_isAmount_55 rfl (by first | exact Or.inl rfl | exact Or.inr rfl | exact bi_01) ⟨by rw [e0 s9_0 c3, decide_eq_true (i32_nlt.mp c47)]; rfl, rfl⟩ (Nat.le_of_ble_eq_true rfl) (Nat.le_of_ble_eq_true rfl)
    -- else
    by_cases s9_1 : k = 1
    · refine J_st (st' := [.int 1]) (by rw [s9_1] <;> rfl) ?_
      refine J_tswIn (off := 35) (tgt := 44) dX6_isAmount_9 (by decide) (by decide) (by decide) (by decide) ?_
      refine J_iload_n dX6_isAmount_44 rfl rfl ?_
      refine J_ldc dX6_isAmount_45 lc_X6_248 ?_
      refine J_icmp_lt (tgt := 54) dX6_isAmount_47 (by decide) (fun c47 => ?_) (fun c47 => ?_)
      · refine J_iconst (v := 0) dX6_isAmount_54 (by decide) ?_
        exact J_zreturn dX6_isAmount_55 rfl (by first | exact Or.inl rfl | exact Or.inr rfl | exact bi_01) ⟨by rw [e1 s9_1 c3, decide_eq_false (fun z => (i32_nlt.mpr z) c47)]; rfl, rfl⟩ (Nat.le_of_ble_eq_true rfl) (Nat.le_of_ble_eq_true rfl)
      · refine J_iconst (v := 1) dX6_isAmount_50 (by decide) ?_
        refine J_goto (tgt := 55) dX6_isAmount_51 (by decide) ?_
        exact J_zreturn dX6_isAmount_55 rfl (by first | exact Or.inl rfl | exact Or.inr rfl | exact bi_01) ⟨by rw [e1 s9_1 c3, decide_eq_true (i32_nlt.mp c47)]; rfl, rfl⟩ (Nat.le_of_ble_eq_true rfl) (Nat.le_of_ble_eq_true rfl)
    -- else
    by_cases s9_2 : k = 2
    · refine J_st (st' := [.int 2]) (by rw [s9_2] <;> rfl) ?_
      refine J_tswIn (off := 47) (tgt := 56) dX6_isAmount_9 (by decide) (by decide) (by decide) (by decide) ?_
      refine J_iload_n dX6_isAmount_56 rfl rfl ?_
      refine J_if_lt (tgt := 64) dX6_isAmount_57 (by decide) (fun c57 => ?_) (fun c57 => ?_)
      · refine J_iconst (v := 0) dX6_isAmount_64 (by decide) ?_
        exact J_zreturn dX6_isAmount_65 rfl (by first | exact Or.inl rfl | exact Or.inr rfl | exact bi_01) ⟨by rw [e2 s9_2 c3, decide_eq_false (fun z => (i32_nlt.mpr z) c57)]; rfl, rfl⟩ (Nat.le_of_ble_eq_true rfl) (Nat.le_of_ble_eq_true rfl)
      · refine J_iconst (v := 1) dX6_isAmount_60 (by decide) ?_
        refine J_goto (tgt := 65) dX6_isAmount_61 (by decide) ?_
        exact J_zreturn dX6_isAmount_65 rfl (by first | exact Or.inl rfl | exact Or.inr rfl | exact bi_01) ⟨by rw [e2 s9_2 c3, decide_eq_true (i32_nlt.mp c57)]; rfl, rfl⟩ (Nat.le_of_ble_eq_true rfl) (Nat.le_of_ble_eq_true rfl)
    -- else
    by_cases s9_3 : k = 3
    · refine J_st (st' := [.int 3]) (by rw [s9_3] <;> rfl) ?_
      refine J_tswIn (off := 47) (tgt := 56) dX6_isAmount_9 (by decide) (by decide) (by decide) (by decide) ?_
      refine J_iload_n dX6_isAmount_56 rfl rfl ?_
      refine J_if_lt (tgt := 64) dX6_isAmount_57 (by decide) (fun c57 => ?_) (fun c57 => ?_)
      · refine J_iconst (v := 0) dX6_isAmount_64 (by decide) ?_
        exact J_zreturn dX6_isAmount_65 rfl (by first | exact Or.inl rfl | exact Or.inr rfl | exact bi_01) ⟨by rw [e3 s9_3 c3, decide_eq_false (fun z => (i32_nlt.mpr z) c57)]; rfl, rfl⟩ (Nat.le_of_ble_eq_true rfl) (Nat.le_of_ble_eq_true rfl)
      · refine J_iconst (v := 1) dX6_isAmount_60 (by decide) ?_
        refine J_goto (tgt := 65) dX6_isAmount_61 (by decide) ?_
        exact J_zreturn dX6_isAmount_65 rfl (by first | exact Or.inl rfl | exact Or.inr rfl | exact bi_01) ⟨by rw [e3 s9_3 c3, decide_eq_true (i32_nlt.mp c57)]; rfl, rfl⟩ (Nat.le_of_ble_eq_true rfl) (Nat.le_of_ble_eq_true rfl)
    -- else
    by_cases s9_4 : k = 4
    · refine J_st (st' := [.int 4]) (by rw [s9_4] <;> rfl) ?_
      refine J_tswIn (off := 57) (tgt := 66) dX6_isAmount_9 (by decide) (by decide) (by decide) (by decide) ?_
      refine J_iload_n dX6_isAmount_66 rfl rfl ?_
      refine J_iconst (v := 1) dX6_isAmount_67 (by decide) ?_
      refine J_icmp_lt (tgt := 75) dX6_isAmount_68 (by decide) (fun c68 => ?_) (fun c68 => ?_)
      · refine J_iconst (v := 0) dX6_isAmount_75 (by decide) ?_
        exact J_zreturn dX6_isAmount_76 rfl (by first | exact Or.inl rfl | exact Or.inr rfl | exact bi_01) ⟨by rw [e4 s9_4 c3, decide_eq_false (fun z => (i32_nlt.mpr z) c68)]; rfl, rfl⟩ (Nat.le_of_ble_eq_true rfl) (Nat.le_of_ble_eq_true rfl)
      · refine J_iconst (v := 1) dX6_isAmount_71 (by decide) ?_
        refine J_goto (tgt := 76) dX6_isAmount_72 (by decide) ?_
        exact J_zreturn dX6_isAmount_76 rfl (by first | exact Or.inl rfl | exact Or.inr rfl | exact bi_01) ⟨by rw [e4 s9_4 c3, decide_eq_true (i32_nlt.mp c68)]; rfl, rfl⟩ (Nat.le_of_ble_eq_true rfl) (Nat.le_of_ble_eq_true rfl)
    -- else
    have tt : (k).toInt ≠ 0 ∧ (k).toInt ≠ 1 ∧ (k).toInt ≠ 2 ∧ (k).toInt ≠ 3 ∧ (k).toInt ≠ 4 := ⟨fun z => s9_0 (Int32.toInt_inj.mp (z.trans (by decide))), fun z => s9_1 (Int32.toInt_inj.mp (z.trans (by decide))), fun z => s9_2 (Int32.toInt_inj.mp (z.trans (by decide))), fun z => s9_3 (Int32.toInt_inj.mp (z.trans (by decide))), fun z => s9_4 (Int32.toInt_inj.mp (z.trans (by decide)))⟩
    refine J_tswOut (tgt := 77) dX6_isAmount_9 (by omega) (by decide) ?_
    refine J_iconst (v := 0) dX6_isAmount_77 (by decide) ?_
    exact J_zreturn dX6_isAmount_78 rfl (by first | exact Or.inl rfl | exact Or.inr rfl | exact bi_01) ⟨by rw [show amF k m = false by unfold amF; rw [decide_eq_false_iff_not]; intro u; rcases u.2 with ⟨v | v, -⟩ | ⟨v | v, -⟩ | ⟨v, -⟩ <;> contradiction]; rfl, rfl⟩ (Nat.le_of_ble_eq_true rfl) (Nat.le_of_ble_eq_true rfl)
  · refine J_iconst (v := 0) dX6_isAmount_6 (by decide) ?_
    exact J_zreturn dX6_isAmount_7 rfl (by first | exact Or.inl rfl | exact Or.inr rfl | exact bi_01) ⟨by rw [no c3]; rfl, rfl⟩ (Nat.le_of_ble_eq_true rfl) (Nat.le_of_ble_eq_true rfl)
end AS
