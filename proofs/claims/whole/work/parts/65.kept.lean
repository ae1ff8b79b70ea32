/-! kept, leave: the records counted -/
section KP
variable {x : om_x} {w : om_w} {h h' : Hp} {as : Nat → Nat} {S S' : Ms} {g : Nat}
/-- of the first k records, those of row i -/
def rcN (S : Ms) (i : Nat) : Nat → Nat
  | 0 => 0
  | k + 1 => rcN S i k + (if mT S 477 k = nI i then 1 else 0)
theorem rcN_le (i : Nat) : ∀ k, rcN S i k ≤ k
  | 0 => Nat.le_refl _
  | k + 1 => by
    have := rcN_le i k
    simp only [rcN]
    split <;> omega
theorem rcF_N (i : Nat) : ∀ k, rcF S (nI i) k = nI (rcN S i k)
  | 0 => rfl
  | k + 1 => by
    simp only [rcF, rcN]
    rw [rcF_N i k]
    split
    · rw [nI_inc1]
    · rw [Int32.add_zero, Nat.add_zero]
def hasF (S : Ms) (i : Nat) : Nat → Nat → Int32
  | 0 => fun _ => 0
  | k + 1 => if mT S 477 k = nI i then up1 (hasF S i k) (tn (mT S 478 k)) 1 else hasF S i k
theorem hasF_at (i n : Nat) : ∀ k, hasF S i k n ≠ 0 ↔ ∃ r, r < k ∧ mT S 477 r = nI i ∧ tn (mT S 478 r) = n
  | 0 => ⟨fun z => absurd rfl z, fun ⟨r, h1, _⟩ => absurd h1 (Nat.not_lt_zero _)⟩
  | k + 1 => by
    simp only [hasF]
    by_cases c : mT S 477 k = nI i
    · rw [if_pos c]
      by_cases e : tn (mT S 478 k) = n
      · rw [← e, up1_self]
        exact ⟨fun _ => ⟨k, Nat.lt_succ_self _, c, rfl⟩, fun _ => by decide⟩
      · rw [up1_ne _ _ (fun z => e z.symm), hasF_at i n k]
        constructor
        · rintro ⟨r, h1, h2, h3⟩
          exact ⟨r, by omega, h2, h3⟩
        · rintro ⟨r, h1, h2, h3⟩
          exact ⟨r, Nat.lt_of_le_of_ne (by omega) (fun z => e (by rw [← z]; exact h3)), h2, h3⟩
    · rw [if_neg c, hasF_at i n k]
      constructor
      · rintro ⟨r, h1, h2, h3⟩
        exact ⟨r, by omega, h2, h3⟩
      · rintro ⟨r, h1, h2, h3⟩
        exact ⟨r, Nat.lt_of_le_of_ne (by omega) (fun z => c (by rw [← z]; exact h2)), h2, h3⟩
theorem cntF_hz {f f2 : Nat → Int32} {lo : Nat} : ∀ k, (∀ n, lo ≤ n → n < lo + k → (f n = 0 ↔ f2 n = 0)) → cntF f lo k = cntF f2 lo k
  | 0, _ => rfl
  | k + 1, z => by
    simp only [cntF]
    rw [cntF_hz k (fun n h1 h2 => z n h1 (by omega))]
    have := z (lo + k) (by omega) (by omega)
    by_cases c : f (lo + k) = 0
    · rw [if_pos c, if_pos (this.mp c)]
    · rw [if_neg c, if_neg (fun y => c (this.mpr y))]
theorem cnt_has {i : Nat} (hW : WF2 g S) (hi : i < 40) : ∀ k, k ≤ nR S → cntF (hasF S i k) (tn (mT S 475 i)) (tn (mI S 448)) = rcN S i k
  | 0, _ => cntF_zero _ (fun _ _ _ => rfl)
  | k + 1, hk => by
    have ih := cnt_has (i := i) hW hi k (by omega)
    simp only [hasF, rcN]
    by_cases c : mT S 477 k = nI i
    · rw [if_pos c, if_pos c]
      obtain ⟨r1, r2, r3, r4⟩ := (hW.2.2.2.2.2.2.2.2.1 k (by omega)).1
      have hi40 : tn (mT S 477 k) = i := by rw [c, tn_nI (by omega)]
      rw [hi40] at r3 r4
      have hz : hasF S i k (tn (mT S 478 k)) = 0 := Decidable.byContradiction fun z => by
        obtain ⟨r, h1, h2, h3⟩ := (hasF_at i _ k).mp z
        have u := (hW.2.2.2.2.2.2.2.2.1 r (by omega)).1.2.1
        have := hW.2.2.2.2.2.2.2.2.2.1 r k (by omega) (by omega) (h2.trans c.symm) (by rw [(inN_tn u).1, (inN_tn r2).1, h3])
        omega
      have := cntF_up (f := hasF S i k) (s := 1) (tn (mI S 448)) r3 r4
      rw [hz, if_pos rfl, if_neg (by decide)] at this
      omega
    · rw [if_neg c, if_neg c, ih, Nat.add_zero]
theorem stF_z {i n : Nat} (hW : WF2 g S) (hi : i < 40) (hn : n < 2147483648) : stF S i n = 0 ↔ hasF S i (nR S) n = 0 := by
  have hE := hW.2.2.2.2.2.2.2.2.1
  constructor
  · intro z
    refine Decidable.byContradiction fun y => ?_
    obtain ⟨r, h1, h2, h3⟩ := (hasF_at i n (nR S)).mp y
    unfold stF at z
    cases e : fnd S (nI i) (nI n) with
    | none =>
      refine fnd_no e r h1 ⟨h2, ?_⟩
      rw [(inN_tn (hE r h1).1.2.1).1, h3]
    | some s =>
      rw [e] at z
      have z2 : mT S 479 s = 0 := z
      rcases (hE s (fnd_at e).1).2.1 with u | u | u <;> rw [u] at z2 <;> exact absurd z2 (by decide)
  · intro z
    unfold stF
    cases e : fnd S (nI i) (nI n) with
    | none => rfl
    | some s =>
      obtain ⟨s1, s2, s3⟩ := fnd_at e
      exact absurd z ((hasF_at i n (nR S)).mpr ⟨s, s1, s2, by rw [s3, tn_nI hn]⟩)
theorem cnt_st {i : Nat} (hW : WF2 g S) (hi : i < 40) : cntF (stF S i) (tn (mT S 475 i)) (tn (mI S 448)) = rcN S i (nR S) := by
  rw [← cnt_has hW hi _ (Nat.le_refl _)]
  have h1 := (inN_tn (hW.2.2.2.2.2.2.2.1 i hi).2.1).2.1
  have h2 := (inN_tn hW.2.1.2.1).2.1
  exact cntF_hz _ (fun n n1 n2 => stF_z hW hi (by omega))
set_option maxRecDepth 100000 in
set_option maxHeartbeats 4000000 in
theorem c_kept {s n v : Int32} (hr : Rep w as S h) (hW : WF2 g S) : Mt x 2 kX6_kept 0 0 [.ref (w 0 0), .int s, .int n, .int v] h (fun z h' => z = some (.int (keptP S s n v)) ∧ h' = h) := by
  refine Mt.ofJ mkX6_kept.1 (Nat.le_of_ble_eq_true rfl) ?_
  have o1 := hr.1.1.1
  by_cases c : inN s 4 = true ∧ inN n 10 = true
  · have hs := (inN_tn c.1).2.1
    have hn := (inN_tn c.2).2.1
    obtain ⟨t1, t2⟩ := of_tn c.1 c.2
    have e : keptP S s n v = if inN v 3 = false then -2000001 else if v = 0 then mT S 474 (10 * tn s + tn n) else if v = 1 then mT S 475 (10 * tn s + tn n) else nI (rcN S (10 * tn s + tn n) (nR S)) := by
      unfold keptP
      rw [c.1, c.2, t1, t2, rcF_N]
      by_cases y : inN v 3 = false
      · rw [if_pos y, if_pos (Or.inr (Or.inr y))]
      · rw [if_neg y, if_neg (fun z => by rcases z with z | z | z; cases z; cases z; exact y z)]
    rw [e]
    generalize hgi : 10 * tn s + tn n = i at *
    have hi : i < 40 := by omega
    have kM := (Rep.mk hr.1 hi).1
    obtain ⟨m1, m2, m3, m4, m5, m6⟩ := hr.2.2.2.2.2.2 i hi
    rw [cnt_st hW hi] at m4
    rw [← (inN_tn (hW.2.2.2.2.2.2.2.1 i hi).2.1).1] at m3
    refine J_aload_n dX6_kept_0 rfl rfl isR_r ?_
    refine J_iload_n dX6_kept_1 rfl rfl ?_
    refine J_iload_n dX6_kept_2 rfl rfl ?_
    refine J_callV (c_memoryOf hr.1) dX6_kept_3 ml_X6_191 mkX6_memoryOf rfl (by first | with_reducible assumption | (simp only [hK_sI, hK_sJ, hK_sR, hK_tI, hK_tJ, hK_tR]; with_reducible assumption)) (by decide) rfl rfl (Nat.le_of_ble_eq_true rfl) ⟨Nat.le_of_ble_eq_true rfl, Nat.le_of_ble_eq_true rfl⟩ ⟨Nat.le_of_ble_eq_true rfl, Nat.le_of_ble_eq_true rfl⟩ (fun v3 hp3 q3 => ?_)
    obtain ⟨rfl, z3⟩ := q3
    rw [z3]
    rw [if_pos c, hgi]
    refine J_astore dX6_kept_6 isR_r (by decide) ?_
    refine J_aload dX6_kept_8 rfl isR_r ?_
    refine J_ifnonnull_r (tgt := 16) dX6_kept_10 (by decide) ?_
    refine J_iload_n dX6_kept_16 rfl rfl ?_
    by_cases s17_0 : v = 0
    · refine J_st (st' := [.int 0]) (by rw [s17_0] <;> rfl) ?_
      refine J_tswIn (off := 27) (tgt := 44) dX6_kept_17 (by decide) (by decide) (by decide) (by decide) ?_
      refine J_aload dX6_kept_44 rfl isR_r ?_
      refine J_getI dX6_kept_46 g_X6_195 (by first | with_reducible assumption | (simp only [hK_sI, hK_sJ, hK_sR, hK_tI, hK_tJ, hK_tR]; with_reducible assumption)) ?_
      exact J_ireturn dX6_kept_49 rfl ⟨by rw [s17_0, if_neg (by decide), if_pos rfl, m2], rfl⟩ (Nat.le_of_ble_eq_true rfl) (Nat.le_of_ble_eq_true rfl)
    -- else
    by_cases s17_1 : v = 1
    · refine J_st (st' := [.int 1]) (by rw [s17_1] <;> rfl) ?_
      refine J_tswIn (off := 33) (tgt := 50) dX6_kept_17 (by decide) (by decide) (by decide) (by decide) ?_
      refine J_aload dX6_kept_50 rfl isR_r ?_
      refine J_getI dX6_kept_52 g_X6_198 (by first | with_reducible assumption | (simp only [hK_sI, hK_sJ, hK_sR, hK_tI, hK_tJ, hK_tR]; with_reducible assumption)) ?_
      exact J_ireturn dX6_kept_55 rfl ⟨by rw [s17_1, if_neg (by decide), if_neg (by decide), if_pos rfl, m3], rfl⟩ (Nat.le_of_ble_eq_true rfl) (Nat.le_of_ble_eq_true rfl)
    -- else
    by_cases s17_2 : v = 2
    · refine J_st (st' := [.int 2]) (by rw [s17_2] <;> rfl) ?_
      refine J_tswIn (off := 39) (tgt := 56) dX6_kept_17 (by decide) (by decide) (by decide) (by decide) ?_
      refine J_aload dX6_kept_56 rfl isR_r ?_
      refine J_getI dX6_kept_58 g_X6_201 (by first | with_reducible assumption | (simp only [hK_sI, hK_sJ, hK_sR, hK_tI, hK_tJ, hK_tR]; with_reducible assumption)) ?_
      exact J_ireturn dX6_kept_61 rfl ⟨by rw [s17_2, if_neg (by decide), if_neg (by decide), if_neg (by decide), m4], rfl⟩ (Nat.le_of_ble_eq_true rfl) (Nat.le_of_ble_eq_true rfl)
    -- else
    have tt : (v).toInt ≠ 0 ∧ (v).toInt ≠ 1 ∧ (v).toInt ≠ 2 := ⟨fun z => s17_0 (Int32.toInt_inj.mp (z.trans (by decide))), fun z => s17_1 (Int32.toInt_inj.mp (z.trans (by decide))), fun z => s17_2 (Int32.toInt_inj.mp (z.trans (by decide)))⟩
    refine J_tswOut (tgt := 62) dX6_kept_17 (by omega) (by decide) ?_
    refine J_ldc dX6_kept_62 lc_X6_55 ?_
    refine J_pc (pc' := 64) rfl ?_
    exact J_ireturn dX6_kept_64 rfl ⟨by rw [if_pos (inN3 s17_0 s17_1 s17_2)], rfl⟩ (Nat.le_of_ble_eq_true rfl) (Nat.le_of_ble_eq_true rfl)
  · have bad : inN s 4 = false ∨ inN n 10 = false ∨ inN v 3 = false := by
      cases hs : inN s 4 with
      | false => exact Or.inl rfl
      | true => cases hn : inN n 10 with
        | false => exact Or.inr (Or.inl rfl)
        | true => exact absurd ⟨hs, hn⟩ c
    have e : keptP S s n v = -2000001 := by unfold keptP; rw [if_pos bad]
    rw [e]
    refine J_aload_n dX6_kept_0 rfl rfl isR_r ?_
    refine J_iload_n dX6_kept_1 rfl rfl ?_
    refine J_iload_n dX6_kept_2 rfl rfl ?_
    refine J_callV (c_memoryOf hr.1) dX6_kept_3 ml_X6_191 mkX6_memoryOf rfl (by first | with_reducible assumption | (simp only [hK_sI, hK_sJ, hK_sR, hK_tI, hK_tJ, hK_tR]; with_reducible assumption)) (by decide) rfl rfl (Nat.le_of_ble_eq_true rfl) ⟨Nat.le_of_ble_eq_true rfl, Nat.le_of_ble_eq_true rfl⟩ ⟨Nat.le_of_ble_eq_true rfl, Nat.le_of_ble_eq_true rfl⟩ (fun v3 hp3 q3 => ?_)
    obtain ⟨rfl, z3⟩ := q3
    rw [z3]
    rw [if_neg c]
    refine J_astore dX6_kept_6 isR_n (by decide) ?_
    refine J_aload dX6_kept_8 rfl isR_n ?_
    refine J_ifnonnull_n dX6_kept_10 ?_
    refine J_ldc dX6_kept_13 lc_X6_55 ?_
    refine J_pc (pc' := 15) rfl ?_
    exact J_ireturn dX6_kept_15 rfl ⟨rfl, rfl⟩ (Nat.le_of_ble_eq_true rfl) (Nat.le_of_ble_eq_true rfl)
theorem midF_at {f : Nat → Int32} {lo : Nat} : ∀ k, midF f lo k = true ↔ ∃ n, lo ≤ n ∧ n < lo + k ∧ f n = 2
  | 0 => ⟨fun z => (by cases z), fun ⟨n, h1, h2, _⟩ => by omega⟩
  | k + 1 => by
    simp only [midF]
    rw [Bool.or_eq_true, decide_eq_true_iff, midF_at k]
    constructor
    · rintro (⟨n, h1, h2, h3⟩ | z)
      · exact ⟨n, h1, by omega, h3⟩
      · exact ⟨lo + k, by omega, by omega, z⟩
    · rintro ⟨n, h1, h2, h3⟩
      by_cases c : n = lo + k
      · exact Or.inr (by rw [← c]; exact h3)
      · exact Or.inl ⟨n, h1, by omega, h3⟩
theorem midS_at {o : Int32} : ∀ k, midS S o k = true ↔ ∃ r, r < k ∧ mT S 477 r = o ∧ mT S 479 r = 2
  | 0 => ⟨fun z => (by cases z), fun ⟨n, h1, _⟩ => by omega⟩
  | k + 1 => by
    simp only [midS]
    rw [Bool.or_eq_true, decide_eq_true_iff, midS_at k]
    constructor
    · rintro (⟨n, h1, h2⟩ | z)
      · exact ⟨n, by omega, h2⟩
      · exact ⟨k, by omega, z⟩
    · rintro ⟨n, h1, h2⟩
      by_cases c : n = k
      · exact Or.inr (by rw [← c]; exact h2)
      · exact Or.inl ⟨n, by omega, h2⟩
theorem mid_eq {i : Nat} (hW : WF2 g S) (hi : i < 40) : midF (stF S i) (tn (mT S 475 i)) (tn (mI S 448)) = midS S (nI i) (nR S) := by
  have hE := hW.2.2.2.2.2.2.2.2.1
  have h1 := (inN_tn (hW.2.2.2.2.2.2.2.1 i hi).2.1).2.1
  have h2 := (inN_tn hW.2.1.2.1).2.1
  rw [Bool.eq_iff_iff, midF_at, midS_at]
  constructor
  · rintro ⟨n, n1, n2, n3⟩
    unfold stF at n3
    cases e : fnd S (nI i) (nI n) with
    | none => rw [e] at n3; exact absurd (show (0 : Int32) = 2 from n3) (by decide)
    | some r =>
      rw [e] at n3
      obtain ⟨r1, r2, r3⟩ := fnd_at e
      exact ⟨r, r1, r2, n3⟩
  · rintro ⟨r, r1, r2, r3⟩
    obtain ⟨q1, q2, q3, q4⟩ := (hE r r1).1
    have ei : tn (mT S 477 r) = i := by rw [r2, tn_nI (by omega)]
    rw [ei] at q3 q4
    refine ⟨tn (mT S 478 r), q3, q4, ?_⟩
    unfold stF
    have en : nI (tn (mT S 478 r)) = mT S 478 r := (inN_tn q2).1.symm
    rw [en]
    cases e : fnd S (nI i) (mT S 478 r) with
    | none => exact absurd ⟨r2, rfl⟩ (fnd_no e r r1)
    | some s =>
      obtain ⟨s1, s2, s3⟩ := fnd_at e
      have := hW.2.2.2.2.2.2.2.2.2.1 s r s1 r1 (s2.trans r2.symm) s3
      rw [this]
      exact r3
theorem fg_rcN {i : Nat} (b : Int32) (hb : ∀ r, r < nR S → ¬ b ≤ mT S 478 r) : ∀ k, k ≤ nR S → (fgF S (nI i) b k).2 + rcN S i k = k
  | 0, _ => rfl
  | k + 1, hk => by
    have ih := fg_rcN (i := i) b hb k (by omega)
    have e := (fg_recs (S := S) (nI i) b k).2.1 k (Nat.le_refl _)
    have e7 : mT (fgF S (nI i) b k).1 477 k = mT S 477 k := congrArg (fun e : om_rc => e.1) e
    have e8 : mT (fgF S (nI i) b k).1 478 k = mT S 478 k := congrArg (fun e : om_rc => e.2.1) e
    have hbk := hb k (by omega)
    simp only [fgF, rcN]
    rw [e7, e8]
    by_cases c : mT S 477 k = nI i
    · rw [if_neg (fun z => z.elim (fun y => y c) hbk), if_pos c]
      omega
    · rw [if_pos (Or.inl c), if_neg c]
      simp only
      omega
set_option maxRecDepth 100000 in
set_option maxHeartbeats 4000000 in
theorem c_leave {s a : Int32} (hr : Rep w as S h) (hI1 : Inj w) (hW : WF2 g S) : Mt x 3 kX6_leave 0 0 [.ref (w 0 0), .int s, .int a] h (fun z h' => z = some (.int (leaveP S s a).1) ∧ Rep w as (leaveP S s a).2 h' ∧ HX MemX h h') := by
  refine Mt.ofJ mkX6_leave.1 (Nat.le_of_ble_eq_true rfl) ?_
  have o1 := hr.1.1.1
  by_cases c : inN s 4 = true ∧ inN a 6 = true
  · have ca := inN_le c.2 (show 6 ≤ 10 by decide)
    have hs := (inN_tn c.1).2.1
    have hn := (inN_tn ca).2.1
    obtain ⟨t1, t2⟩ := of_tn c.1 ca
    have h10 := inN_sv c.1
    have n10 := (inN_tn h10).2.1
    obtain ⟨-, k6, -⟩ := hr.1.2.2.1 _ n10
    have up := up_iff hr.2.2.1 n10
    have h6a : a < 6 := by
      have := inN_tn c.2
      rw [this.1, show (6 : Int32) = nI 6 from rfl, nI_lti (by omega) (by decide)]
      omega
    have cmem : inN s 4 = true ∧ inN a 10 = true := ⟨c.1, ca⟩
    generalize hgi : 10 * tn s + tn a = i at *
    have hi : i < 40 := by omega
    have kM := (Rep.mk hr.1 hi).1
    obtain ⟨m1, m2, m3, m4, m5, m6⟩ := hr.2.2.2.2.2.2 i hi
    rw [cnt_st hW hi] at m4
    have hlo := hW.lo hi
    have cM := c_hasMidst (x := x) (Rep.mk hr.1 hi) (hr.2.2.2.2.2.2 i hi) (by have := hlo.2; omega) hlo.1
    rw [mid_eq hW hi] at cM
    have gone : goneF (leaveF S (nI i)) (nI i) 2147483647 = rcN S i (nR S) := by
      have hb : ∀ r, r < nR S → ¬ (2147483647 : Int32) ≤ mT S 478 r := fun r h1 z => by
        have u := inN_tn (hW.2.2.2.2.2.2.2.2.1 r h1).1.2.1
        rw [u.1, n_le, nI_int (by omega), show (2147483647 : Int32).toInt = 2147483647 from by decide] at z
        omega
      have hRl : nR (leaveF S (nI i)) = nR S := by unfold leaveF; rw [nR_pT, nR_pT]
      have e1 := fg_rcN (S := leaveF S (nI i)) (i := i) 2147483647 (fun r h1 => by
        unfold leaveF
        rw [mT_pT_ne _ _ _ (by decide), mT_pT_ne _ _ _ (by decide)]
        exact hb r (hRl ▸ h1)) (nR (leaveF S (nI i))) (Nat.le_refl _)
      have e2 : ∀ k, rcN (leaveF S (nI i)) i k = rcN S i k := fun k => by
        induction k with
        | zero => rfl
        | succ k ih =>
          simp only [rcN]
          rw [ih]
          unfold leaveF
          rw [mT_pT_ne _ _ _ (by decide), mT_pT_ne _ _ _ (by decide)]
      unfold goneF
      rw [e2, hRl] at e1
      rw [hRl]
      omega
    have lf : leaveF S (nI i) = pT (pT S 474 i (mT S 474 i + 1)) 475 i 1 := by
      unfold leaveF
      rw [tn_nI (by omega)]
    have e : leaveP S s a = if mT S 449 (tn (6 + s)) ≠ 0 ∨ midS S (nI i) (nR S) = true then (-2000002, S) else (nI (rcN S i (nR S)), lifeF S i (mT S 474 i + 1)) := by
      unfold leaveP
      rw [if_neg (fun z => z.elim (fun y => by rw [c.1] at y; cases y) (fun y => by rw [c.2] at y; cases y)), t2, gone, lf]
      rfl
    rw [e]
    refine J_aload_n dX6_leave_0 rfl rfl isR_r ?_
    refine J_iload_n dX6_leave_1 rfl rfl ?_
    refine J_iload_n dX6_leave_2 rfl rfl ?_
    refine J_callV (c_memoryOf hr.1) dX6_leave_3 ml_X6_191 mkX6_memoryOf rfl (by first | with_reducible assumption | (simp only [hK_sI, hK_sJ, hK_sR, hK_tI, hK_tJ, hK_tR]; with_reducible assumption)) (by decide) rfl rfl (Nat.le_of_ble_eq_true rfl) ⟨Nat.le_of_ble_eq_true rfl, Nat.le_of_ble_eq_true rfl⟩ ⟨Nat.le_of_ble_eq_true rfl, Nat.le_of_ble_eq_true rfl⟩ (fun v3 hp3 q3 => ?_)
    obtain ⟨rfl, z3⟩ := q3
    rw [z3]
    rw [if_pos cmem, hgi]
    refine J_astore_n dX6_leave_6 rfl isR_r (by decide) ?_
    refine J_aload_n dX6_leave_7 rfl rfl isR_r ?_
    refine J_bipush (v := 6) dX6_leave_8 (by decide) ?_
    refine J_iload_n dX6_leave_10 rfl rfl ?_
    refine J_pc (pc' := 11) rfl ?_
    refine J_iadd dX6_leave_11 ?_
    refine J_callV (c_endOf hr.1) dX6_leave_12 ml_X6_64 mkX6_endOf rfl (by first | with_reducible assumption | (simp only [hK_sI, hK_sJ, hK_sR, hK_tI, hK_tJ, hK_tR]; with_reducible assumption)) (by decide) rfl rfl (Nat.le_of_ble_eq_true rfl) ⟨Nat.le_of_ble_eq_true rfl, Nat.le_of_ble_eq_true rfl⟩ ⟨Nat.le_of_ble_eq_true rfl, Nat.le_of_ble_eq_true rfl⟩ (fun v12 hp12 q12 => ?_)
    obtain ⟨rfl, z12⟩ := q12
    rw [z12]
    rw [if_pos h10]
    refine J_astore dX6_leave_15 isR_r (by decide) ?_
    refine J_aload_n dX6_leave_17 rfl rfl isR_r ?_
    refine J_ifnull_r dX6_leave_18 ?_
    refine J_aload dX6_leave_21 rfl isR_r ?_
    refine J_ifnull_r dX6_leave_23 ?_
    refine J_iload_n dX6_leave_26 rfl rfl ?_
    refine J_pc (pc' := 27) rfl ?_
    refine J_bipush (v := 6) dX6_leave_27 (by decide) ?_
    refine J_icmp_lt (tgt := 35) dX6_leave_29 (by decide) (fun c29 => ?_) (fun c29 => (c29 h6a).elim)
    refine J_aload dX6_leave_35 rfl isR_r ?_
    refine J_getI dX6_leave_37 g_X6_68 (by first | with_reducible assumption | (simp only [hK_sI, hK_sJ, hK_sR, hK_tI, hK_tJ, hK_tR]; with_reducible assumption)) ?_
    refine J_if_eq (tgt := 50) dX6_leave_40 (by decide) (fun c40 => ?_) (fun c40 => ?_)
    · refine J_ldc dX6_leave_50 lc_X6_72 ?_
      exact J_ireturn dX6_leave_52 rfl ⟨by rw [if_pos (Or.inl (up.mp c40))], by rw [if_pos (Or.inl (up.mp c40))]; exact hr, HX.rf⟩ (Nat.le_of_ble_eq_true rfl) (Nat.le_of_ble_eq_true rfl)
    · refine J_aload_n dX6_leave_43 rfl rfl isR_r ?_
      refine J_callV (cM) dX6_leave_44 ml_X6_208 mkX3_hasMidst rfl (by first | with_reducible assumption | (simp only [hK_sI, hK_sJ, hK_sR, hK_tI, hK_tJ, hK_tR]; with_reducible assumption)) (by decide) rfl rfl (Nat.le_of_ble_eq_true rfl) ⟨Nat.le_of_ble_eq_true rfl, Nat.le_of_ble_eq_true rfl⟩ ⟨Nat.le_of_ble_eq_true rfl, Nat.le_of_ble_eq_true rfl⟩ (fun v44 hp44 q44 => ?_)
      obtain ⟨rfl, z44⟩ := q44
      rw [z44]
      refine J_if_eq (tgt := 53) dX6_leave_47 (by decide) (fun c47 => ?_) (fun c47 => ?_)
      · refine J_aload_n dX6_leave_53 rfl rfl isR_r ?_
        refine J_getI dX6_leave_54 g_X6_201 (by first | with_reducible assumption | (simp only [hK_sI, hK_sJ, hK_sR, hK_tI, hK_tJ, hK_tR]; with_reducible assumption)) ?_
        refine J_istore dX6_leave_57 (by decide) ?_
        refine J_aload_n dX6_leave_59 rfl rfl isR_r ?_
        refine J_aload_n dX6_leave_60 rfl rfl isR_r ?_
        refine J_getI dX6_leave_61 g_X6_195 (by first | with_reducible assumption | (simp only [hK_sI, hK_sJ, hK_sR, hK_tI, hK_tJ, hK_tR]; with_reducible assumption)) ?_
        refine J_iconst (v := 1) dX6_leave_64 (by decide) ?_
        refine J_iadd dX6_leave_65 ?_
        refine J_pc (pc' := 66) rfl ?_
        have ng : ¬ (mT S 449 (tn (6 + s)) ≠ 0 ∨ midS S (nI i) (nR S) = true) := fun z => z.elim (fun y => c40 (up.mpr y)) (fun y => by rw [bi_0.mp c47] at y; cases y)
        rw [m2]
        refine J_callV (c_lifeR hr hI1 hW.1 hi hlo) dX6_leave_66 ml_X6_211 mkX3_beginLife rfl (by first | with_reducible assumption | (simp only [hK_sI, hK_sJ, hK_sR, hK_tI, hK_tJ, hK_tR]; with_reducible assumption)) (by decide) rfl rfl (Nat.le_of_ble_eq_true rfl) ⟨Nat.le_of_ble_eq_true rfl, Nat.le_of_ble_eq_true rfl⟩ ⟨Nat.le_of_ble_eq_true rfl, Nat.le_of_ble_eq_true rfl⟩ (fun v66 hp66 q66 => ?_)
        obtain ⟨rfl, z1, z2⟩ := q66
        refine J_iload dX6_leave_69 rfl ?_
        exact J_ireturn dX6_leave_71 rfl ⟨by rw [if_neg ng, m4], by rw [if_neg ng]; exact z1, z2⟩ (Nat.le_of_ble_eq_true rfl) (Nat.le_of_ble_eq_true rfl)
      · refine J_ldc dX6_leave_50 lc_X6_72 ?_
        exact J_ireturn dX6_leave_52 rfl ⟨by rw [if_pos (Or.inr (bi_1.mp c47))], by rw [if_pos (Or.inr (bi_1.mp c47))]; exact hr, HX.rf⟩ (Nat.le_of_ble_eq_true rfl) (Nat.le_of_ble_eq_true rfl)
  · have bad : inN s 4 = false ∨ inN a 6 = false := by
      cases hs : inN s 4 with
      | false => exact Or.inl rfl
      | true => cases hn : inN a 6 with
        | false => exact Or.inr rfl
        | true => exact absurd ⟨hs, hn⟩ c
    have e : leaveP S s a = (-2000001, S) := by unfold leaveP; rw [if_pos bad]
    rw [e]
    by_cases y : inN s 4 = true ∧ inN a 10 = true
    · have h10 := inN_sv y.1
      have ya := inN_tn y.2
      refine J_aload_n dX6_leave_0 rfl rfl isR_r ?_
      refine J_iload_n dX6_leave_1 rfl rfl ?_
      refine J_iload_n dX6_leave_2 rfl rfl ?_
      refine J_callV (c_memoryOf hr.1) dX6_leave_3 ml_X6_191 mkX6_memoryOf rfl (by first | with_reducible assumption | (simp only [hK_sI, hK_sJ, hK_sR, hK_tI, hK_tJ, hK_tR]; with_reducible assumption)) (by decide) rfl rfl (Nat.le_of_ble_eq_true rfl) ⟨Nat.le_of_ble_eq_true rfl, Nat.le_of_ble_eq_true rfl⟩ ⟨Nat.le_of_ble_eq_true rfl, Nat.le_of_ble_eq_true rfl⟩ (fun v3 hp3 q3 => ?_)
      obtain ⟨rfl, z3⟩ := q3
      rw [z3]
      rw [if_pos y]
      refine J_astore_n dX6_leave_6 rfl isR_r (by decide) ?_
      refine J_aload_n dX6_leave_7 rfl rfl isR_r ?_
      refine J_bipush (v := 6) dX6_leave_8 (by decide) ?_
      refine J_iload_n dX6_leave_10 rfl rfl ?_
      refine J_pc (pc' := 11) rfl ?_
      refine J_iadd dX6_leave_11 ?_
      refine J_callV (c_endOf hr.1) dX6_leave_12 ml_X6_64 mkX6_endOf rfl (by first | with_reducible assumption | (simp only [hK_sI, hK_sJ, hK_sR, hK_tI, hK_tJ, hK_tR]; with_reducible assumption)) (by decide) rfl rfl (Nat.le_of_ble_eq_true rfl) ⟨Nat.le_of_ble_eq_true rfl, Nat.le_of_ble_eq_true rfl⟩ ⟨Nat.le_of_ble_eq_true rfl, Nat.le_of_ble_eq_true rfl⟩ (fun v12 hp12 q12 => ?_)
      obtain ⟨rfl, z12⟩ := q12
      rw [z12]
      rw [if_pos h10]
      refine J_astore dX6_leave_15 isR_r (by decide) ?_
      refine J_aload_n dX6_leave_17 rfl rfl isR_r ?_
      refine J_ifnull_r dX6_leave_18 ?_
      refine J_aload dX6_leave_21 rfl isR_r ?_
      refine J_ifnull_r dX6_leave_23 ?_
      refine J_iload_n dX6_leave_26 rfl rfl ?_
      refine J_pc (pc' := 27) rfl ?_
      refine J_bipush (v := 6) dX6_leave_27 (by decide) ?_
      refine J_icmp_lt (tgt := 35) dX6_leave_29 (by decide) (fun c29 => (c ⟨y.1, by
       have c29 : a < 6 := c29
       rw [ya.1, show (6 : Int32) = nI 6 from rfl, nI_lti (by omega) (by decide)] at c29
       rw [ya.1]
       exact inN_nIlt c29 (by decide)⟩).elim) (fun c29 => ?_)
      refine J_ldc dX6_leave_32 lc_X6_55 ?_
      exact J_ireturn dX6_leave_34 rfl ⟨rfl, hr, HX.rf⟩ (Nat.le_of_ble_eq_true rfl) (Nat.le_of_ble_eq_true rfl)
    · skip
      refine J_aload_n dX6_leave_0 rfl rfl isR_r ?_
      refine J_iload_n dX6_leave_1 rfl rfl ?_
      refine J_iload_n dX6_leave_2 rfl rfl ?_
      refine J_callV (c_memoryOf hr.1) dX6_leave_3 ml_X6_191 mkX6_memoryOf rfl (by first | with_reducible assumption | (simp only [hK_sI, hK_sJ, hK_sR, hK_tI, hK_tJ, hK_tR]; with_reducible assumption)) (by decide) rfl rfl (Nat.le_of_ble_eq_true rfl) ⟨Nat.le_of_ble_eq_true rfl, Nat.le_of_ble_eq_true rfl⟩ ⟨Nat.le_of_ble_eq_true rfl, Nat.le_of_ble_eq_true rfl⟩ (fun v3 hp3 q3 => ?_)
      obtain ⟨rfl, z3⟩ := q3
      rw [z3]
      rw [if_neg y]
      refine J_astore_n dX6_leave_6 rfl isR_n (by decide) ?_
      refine J_aload_n dX6_leave_7 rfl rfl isR_r ?_
      refine J_bipush (v := 6) dX6_leave_8 (by decide) ?_
      refine J_iload_n dX6_leave_10 rfl rfl ?_
      refine J_pc (pc' := 11) rfl ?_
      refine J_iadd dX6_leave_11 ?_
      refine J_callV (c_endOf hr.1) dX6_leave_12 ml_X6_64 mkX6_endOf rfl (by first | with_reducible assumption | (simp only [hK_sI, hK_sJ, hK_sR, hK_tI, hK_tJ, hK_tR]; with_reducible assumption)) (by decide) rfl rfl (Nat.le_of_ble_eq_true rfl) ⟨Nat.le_of_ble_eq_true rfl, Nat.le_of_ble_eq_true rfl⟩ ⟨Nat.le_of_ble_eq_true rfl, Nat.le_of_ble_eq_true rfl⟩ (fun v12 hp12 q12 => ?_)
      obtain ⟨rfl, z12⟩ := q12
      rw [z12]
      refine J_astore dX6_leave_15 isR_w (by decide) ?_
      refine J_aload_n dX6_leave_17 rfl rfl isR_n ?_
      refine J_ifnull_n (tgt := 32) dX6_leave_18 (by decide) ?_
      refine J_ldc dX6_leave_32 lc_X6_55 ?_
      exact J_ireturn dX6_leave_34 rfl ⟨rfl, hr, HX.rf⟩ (Nat.le_of_ble_eq_true rfl) (Nat.le_of_ble_eq_true rfl)
end KP
