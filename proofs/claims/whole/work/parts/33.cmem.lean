/-! a server's memory of a name -/
def MK (h : Hp) (a st an : Nat) : Prop := hK h a = 4 ∧ hR h 196 a = some st ∧ hK h st = 80 ∧ hN h st = 16 ∧ hR h 197 a = some an ∧ hK h an = 89 ∧ hN h an = 16
def FrM (h h' : Hp) (a st an : Nat) : Prop := hK h' = hK h ∧ hN h' = hN h ∧ hJ h' = hJ h ∧ hR h' = hR h ∧ aR h' = aR h ∧ (∀ g b, ¬ (b = a ∧ (g = 193 ∨ g = 194 ∨ g = 195)) → hI h' g b = hI h g b) ∧ (∀ t b, ¬ (t = 80 ∧ b = st) → aI h' t b = aI h t b) ∧ (∀ t b, ¬ (t = 89 ∧ b = an) → aJ h' t b = aJ h t b)
def inW (lo wn : Nat) (v : Int32) : Bool := decide (nI lo ≤ v ∧ v - nI lo < nI wn)
theorem inW_n {lo wn n : Nat} (hlo : lo < 1000000) (hw : wn ≤ 16) (hn : n < 2147483648) : inW lo wn (nI n) = decide (lo ≤ n ∧ n < lo + wn) := by
  unfold inW
  congr 1
  apply propext
  rw [nI_lei (by omega) hn]
  constructor
  · intro ⟨h1, h2⟩
    rw [nI_sub h1, nI_lti (by omega) (by omega)] at h2
    omega
  · intro ⟨h1, h2⟩
    refine ⟨h1, ?_⟩
    rw [nI_sub h1, nI_lti (by omega) (by omega)]
    omega
theorem inW_t {lo wn : Nat} {v : Int32} (hlo : lo < 1000000) (hw : wn ≤ 16) (h : inW lo wn v = true) : v = nI (tn v) ∧ lo ≤ tn v ∧ tn v < lo + wn := by
  have h0 := h
  unfold inW at h
  rw [decide_eq_true_iff, n_le, nI_int (by omega)] at h
  obtain ⟨j, e, h3, h4⟩ := zI_ex (v := v) (n := 2147483648) (by omega) (by have := Int32.toInt_lt v; omega)
  subst e
  rw [tn_nI h4]
  rw [inW_n hlo hw h4, decide_eq_true_iff] at h0
  exact ⟨rfl, h0⟩
theorem up1_self {α : Type} (F : Nat → α) (a : Nat) (v : α) : up1 F a v a = v := by simp [up1]
theorem up1_ne {α : Type} (F : Nat → α) {a b : Nat} (v : α) (h : b ≠ a) : up1 F a v b = F b := by simp [up1, h]
theorem cntF_congr {f g : Nat → Int32} {lo : Nat} : ∀ k, (∀ n, lo ≤ n → n < lo + k → f n = g n) → cntF f lo k = cntF g lo k
  | 0, _ => rfl
  | k + 1, h => by
    simp only [cntF]
    rw [cntF_congr k (fun n h1 h2 => h n h1 (by omega)), h (lo + k) (by omega) (by omega)]
theorem cntF_zero {f : Nat → Int32} {lo : Nat} : ∀ k, (∀ n, lo ≤ n → n < lo + k → f n = 0) → cntF f lo k = 0
  | 0, _ => rfl
  | k + 1, h => by
    simp only [cntF]
    rw [cntF_zero k (fun n h1 h2 => h n h1 (by omega)), h (lo + k) (by omega) (by omega), if_pos rfl]
theorem cntF_split (f : Nat → Int32) (lo a : Nat) : ∀ b, cntF f lo (a + b) = cntF f lo a + cntF f (lo + a) b
  | 0 => rfl
  | b + 1 => by
    rw [← Nat.add_assoc]
    simp only [cntF]
    rw [cntF_split f lo a b, Nat.add_assoc, Nat.add_assoc lo a b]
theorem cntF_le (f : Nat → Int32) (lo : Nat) : ∀ k, cntF f lo k ≤ k
  | 0 => Nat.le_refl _
  | k + 1 => by
    have := cntF_le f lo k
    simp only [cntF]
    split <;> omega
theorem cntF_up {f : Nat → Int32} {lo n : Nat} {s : Int32} : ∀ k, lo ≤ n → n < lo + k → cntF (up1 f n s) lo k + (if f n = 0 then 0 else 1) = cntF f lo k + (if s = 0 then 0 else 1)
  | 0, _, h => by omega
  | k + 1, h1, h2 => by
    simp only [cntF]
    by_cases e : n = lo + k
    · subst e
      rw [up1_self, cntF_congr (g := f) k (fun m h3 h4 => up1_ne _ _ (by omega))]
      omega
    · have ih := cntF_up (f := f) (s := s) k h1 (by omega)
      rw [up1_ne _ _ (fun z => e z.symm)]
      omega
theorem cntF_pos {f : Nat → Int32} {lo n : Nat} : ∀ k, lo ≤ n → n < lo + k → f n ≠ 0 → 1 ≤ cntF f lo k
  | 0, _, h, _ => by omega
  | k + 1, h1, h2, h3 => by
    simp only [cntF]
    by_cases e : n = lo + k
    · subst e
      rw [if_neg h3]
      omega
    · have ih := cntF_pos k h1 (by omega) h3
      omega
theorem MR_congr {h : Hp} {a st an wn lo : Nat} {life : Int32} {f f' : Nat → Int32} {g g' : Nat → Int64} (hf : ∀ n, lo ≤ n → n < lo + wn → f' n = f n ∧ (f n = 1 ∨ f n = 3 → g' n = g n)) (hM : MR h a st an wn lo life f g) : MR h a st an wn lo life f' g' := by
  obtain ⟨m1, m2, m3, m4, m5, m6⟩ := hM
  refine ⟨m1, m2, m3, ?_, fun n h1 h2 => ?_, m6⟩
  · rw [m4, cntF_congr wn (fun n h1 h2 => (hf n h1 h2).1)]
  · obtain ⟨e1, e2⟩ := hf n h1 h2
    obtain ⟨q1, q2⟩ := m5 n h1 h2
    rw [e1]
    exact ⟨q1, fun z => (q2 z).trans (e2 z).symm⟩
def midF (f : Nat → Int32) (lo : Nat) : Nat → Bool
  | 0 => false
  | k + 1 => midF f lo k || decide (f (lo + k) = 2)
section CM
variable {x : om_x} {h : Hp} {a st an wn lo : Nat} {life : Int32} {f : Nat → Int32} {g : Nat → Int64}
theorem FrM.rf : FrM h h a st an := ⟨rfl, rfl, rfl, rfl, rfl, fun _ _ _ => rfl, fun _ _ _ => rfl, fun _ _ _ => rfl⟩
theorem FrM.tr {h1 h2 : Hp} (a1 : FrM h h1 a st an) (a2 : FrM h1 h2 a st an) : FrM h h2 a st an := by
  obtain ⟨p1, p2, p3, p4, p5, p6, p7, p8⟩ := a1
  obtain ⟨q1, q2, q3, q4, q5, q6, q7, q8⟩ := a2
  exact ⟨q1.trans p1, q2.trans p2, q3.trans p3, q4.trans p4, q5.trans p5, fun g b z => (q6 g b z).trans (p6 g b z), fun t b z => (q7 t b z).trans (p7 t b z), fun t b z => (q8 t b z).trans (p8 t b z)⟩
theorem FrM_sI {h' : Hp} {q : Nat} {v : Int32} (hg : q = 193 ∨ q = 194 ∨ q = 195) (hF : FrM h h' a st an) : FrM h (sI h' q a v) a st an := by
  obtain ⟨p1, p2, p3, p4, p5, p6, p7, p8⟩ := hF
  refine ⟨by rw [hK_sI]; exact p1, by rw [hN_sI]; exact p2, by rw [hJ_sI]; exact p3, by rw [hR_sI]; exact p4, by rw [aR_sI]; exact p5, fun u b z => ?_, by rw [aI_sI]; exact p7, by rw [aJ_sI]; exact p8⟩
  rw [hI_sI, if_neg (fun q2 => z ⟨q2.2, by rw [q2.1]; exact hg⟩)]
  exact p6 u b z
theorem FrM_tI {h' : Hp} {j : Nat} {v : Int32} (hF : FrM h h' a st an) : FrM h (tI h' 80 st j v) a st an := by
  obtain ⟨p1, p2, p3, p4, p5, p6, p7, p8⟩ := hF
  refine ⟨by rw [hK_tI]; exact p1, by rw [hN_tI]; exact p2, by rw [hJ_tI]; exact p3, by rw [hR_tI]; exact p4, by rw [aR_tI]; exact p5, by rw [hI_tI]; exact p6, fun t b z => ?_, by rw [aJ_tI]; exact p8⟩
  funext i
  rw [aI_tI, if_neg (fun q => z ⟨q.1, q.2.1⟩), p7 t b z]
theorem FrM_tJ {h' : Hp} {j : Nat} {v : Int64} (hF : FrM h h' a st an) : FrM h (tJ h' 89 an j v) a st an := by
  obtain ⟨p1, p2, p3, p4, p5, p6, p7, p8⟩ := hF
  refine ⟨by rw [hK_tJ]; exact p1, by rw [hN_tJ]; exact p2, by rw [hJ_tJ]; exact p3, by rw [hR_tJ]; exact p4, by rw [aR_tJ]; exact p5, by rw [hI_tJ]; exact p6, by rw [aI_tJ]; exact p7, fun t b z => ?_⟩
  funext i
  rw [aJ_tJ, if_neg (fun q => z ⟨q.1, q.2.1⟩), p8 t b z]
theorem MK.fr {h' : Hp} (hk : MK h a st an) (hF : FrM h h' a st an) : MK h' a st an := by
  obtain ⟨p1, p2, p3, p4, p5, p6, p7, p8⟩ := hF
  unfold MK
  rw [p1, p2, p4]
  exact hk
set_option maxRecDepth 100000 in
set_option maxHeartbeats 4000000 in
theorem c_isWithin {v : Int32} (hk : MK h a st an) (hM : MR h a st an wn lo life f g) : Mt x 0 kX3_isWithin 0 0 [.ref a, .int v] h (fun z h' => z = some (.int (bi (inW lo wn v))) ∧ h' = h) := by
  refine Mt.ofJ mkX3_isWithin.1 (Nat.le_of_ble_eq_true rfl) ?_
  obtain ⟨k1, k2, k3, k4, k5, k6, k7⟩ := hk
  obtain ⟨m1, m2, m3, m4, m5, m6⟩ := hM
  unfold inW
  rw [← m3, ← m1]
  refine J_iload_n dX3_isWithin_0 rfl rfl ?_
  refine J_aload_n dX3_isWithin_1 rfl rfl isR_r ?_
  refine J_getI dX3_isWithin_2 g_X3_9 (by first | with_reducible assumption | (simp only [hK_sI, hK_sJ, hK_sR, hK_tI, hK_tJ, hK_tR]; with_reducible assumption)) ?_
  refine J_icmp_lt (tgt := 25) dX3_isWithin_5 (by decide) (fun c5 => ?_) (fun c5 => ?_)
  · refine J_iconst (v := 0) dX3_isWithin_25 (by decide) ?_
    exact J_zreturn dX3_isWithin_26 rfl (by first | exact Or.inl rfl | exact Or.inr rfl | exact bi_01) ⟨by rw [decide_eq_false (fun z => by have := z.1; rw [n_le] at this; rw [n_lt] at c5; omega)]; rfl, rfl⟩ (Nat.le_of_ble_eq_true rfl) (Nat.le_of_ble_eq_true rfl)
  · refine J_iload_n dX3_isWithin_8 rfl rfl ?_
    refine J_aload_n dX3_isWithin_9 rfl rfl isR_r ?_
    refine J_getI dX3_isWithin_10 g_X3_9 (by first | with_reducible assumption | (simp only [hK_sI, hK_sJ, hK_sR, hK_tI, hK_tJ, hK_tR]; with_reducible assumption)) ?_
    refine J_isub dX3_isWithin_13 ?_
    refine J_aload_n dX3_isWithin_14 rfl rfl isR_r ?_
    refine J_getI dX3_isWithin_15 g_X3_23 (by first | with_reducible assumption | (simp only [hK_sI, hK_sJ, hK_sR, hK_tI, hK_tJ, hK_tR]; with_reducible assumption)) ?_
    refine J_icmp_ge (tgt := 25) dX3_isWithin_18 (by decide) (fun c18 => ?_) (fun c18 => ?_)
    · refine J_iconst (v := 0) dX3_isWithin_25 (by decide) ?_
      exact J_zreturn dX3_isWithin_26 rfl (by first | exact Or.inl rfl | exact Or.inr rfl | exact bi_01) ⟨by rw [decide_eq_false (fun z => by have := z.2; rw [n_lt] at this; rw [n_le] at c18; omega)]; rfl, rfl⟩ (Nat.le_of_ble_eq_true rfl) (Nat.le_of_ble_eq_true rfl)
    · refine J_iconst (v := 1) dX3_isWithin_21 (by decide) ?_
      refine J_goto (tgt := 26) dX3_isWithin_22 (by decide) ?_
      exact J_zreturn dX3_isWithin_26 rfl (by first | exact Or.inl rfl | exact Or.inr rfl | exact bi_01) ⟨by rw [decide_eq_true ⟨by rw [n_le]; rw [n_lt] at c5; omega, by rw [n_lt]; rw [n_le] at c18; omega⟩]; rfl, rfl⟩ (Nat.le_of_ble_eq_true rfl) (Nat.le_of_ble_eq_true rfl)
/-- a NUMBER's place among the 16 -/
theorem ix16 (n : Nat) : inx (nI n &&& 15) (n % 16) 16 := by
  rw [nI_m15]
  exact inx_n (Nat.mod_lt _ (by decide)) (by decide)
def stV (f : Nat → Int32) (lo wn : Nat) (v : Int32) : Int32 := if inW lo wn v then f (tn v) else 0
set_option maxRecDepth 100000 in
set_option maxHeartbeats 4000000 in
theorem c_stateOf {v : Int32} (hk : MK h a st an) (hM : MR h a st an wn lo life f g) (hlo : lo < 1000000) (hw : wn ≤ 16) : Mt x 1 kX3_stateOf 0 0 [.ref a, .int v] h (fun z h' => z = some (.int (stV f lo wn v)) ∧ h' = h) := by
  refine Mt.ofJ mkX3_stateOf.1 (Nat.le_of_ble_eq_true rfl) ?_
  have hk0 := hk
  have hM0 := hM
  obtain ⟨k1, k2, k3, k4, k5, k6, k7⟩ := hk
  obtain ⟨m1, m2, m3, m4, m5, m6⟩ := hM
  unfold stV
  refine J_aload_n dX3_stateOf_0 rfl rfl isR_r ?_
  refine J_iload_n dX3_stateOf_1 rfl rfl ?_
  refine J_callV (c_isWithin hk0 hM0) dX3_stateOf_2 ml_X3_26 mkX3_isWithin rfl (by first | with_reducible assumption | (simp only [hK_sI, hK_sJ, hK_sR, hK_tI, hK_tJ, hK_tR]; with_reducible assumption)) (by decide) rfl rfl (Nat.le_of_ble_eq_true rfl) ⟨Nat.le_of_ble_eq_true rfl, Nat.le_of_ble_eq_true rfl⟩ ⟨Nat.le_of_ble_eq_true rfl, Nat.le_of_ble_eq_true rfl⟩ (fun v2 hp2 q2 => ?_)
  obtain ⟨rfl, z2⟩ := q2
  rw [z2]
  refine J_if_eq (tgt := 20) dX3_stateOf_5 (by decide) (fun c5 => ?_) (fun c5 => ?_)
  · refine J_iconst (v := 0) dX3_stateOf_20 (by decide) ?_
    exact J_ireturn dX3_stateOf_21 rfl ⟨by rw [bi_0.mp c5]; rfl, rfl⟩ (Nat.le_of_ble_eq_true rfl) (Nat.le_of_ble_eq_true rfl)
  · have hi := bi_1.mp c5
    obtain ⟨t1, t2, t3⟩ := inW_t hlo hw hi
    refine J_aload_n dX3_stateOf_8 rfl rfl isR_r ?_
    refine J_getRr dX3_stateOf_9 g_X3_15 (by first | with_reducible assumption | (simp only [hK_sI, hK_sJ, hK_sR, hK_tI, hK_tJ, hK_tR]; with_reducible assumption)) (by first | with_reducible assumption | (simp only [hR_sI, hR_sJ, hR_tI, hR_tJ, hR_tR]; with_reducible assumption)) ?_
    refine J_iload_n dX3_stateOf_12 rfl rfl ?_
    refine J_bipush (v := 15) dX3_stateOf_13 (by decide) ?_
    refine J_iand dX3_stateOf_15 ?_
    refine J_iald dX3_stateOf_16 (by first | with_reducible assumption | (simp only [hK_sI, hK_sJ, hK_sR, hK_tI, hK_tJ, hK_tR]; with_reducible assumption)) ⟨by decide, by decide⟩ (show inx _ (tn v % 16) (hN h st) by rw [k4]; exact (by rw [t1, tn_nI (by omega)]; exact ix16 (tn v))) ?_
    refine J_goto (tgt := 21) dX3_stateOf_17 (by decide) ?_
    exact J_ireturn dX3_stateOf_21 rfl ⟨by rw [hi, (m5 _ t2 t3).1]; rfl, rfl⟩ (Nat.le_of_ble_eq_true rfl) (Nat.le_of_ble_eq_true rfl)
set_option maxRecDepth 100000 in
set_option maxHeartbeats 4000000 in
theorem c_answerOf {n : Nat} (hk : MK h a st an) (hM : MR h a st an wn lo life f g) (hlo : lo < 1000000) (hw : wn ≤ 16) (h1 : lo ≤ n) (h2 : n < lo + wn) (h3 : f n = 1 ∨ f n = 3) : Mt x 1 kX3_answerOf 0 0 [.ref a, .int (nI n)] h (fun z h' => z = some (.long (g n)) ∧ h' = h) := by
  refine Mt.ofJ mkX3_answerOf.1 (Nat.le_of_ble_eq_true rfl) ?_
  have hk0 := hk
  have hM0 := hM
  obtain ⟨k1, k2, k3, k4, k5, k6, k7⟩ := hk
  obtain ⟨m1, m2, m3, m4, m5, m6⟩ := hM
  have hi : inW lo wn (nI n) = true := by rw [inW_n hlo hw (by omega), decide_eq_true_iff]; exact ⟨h1, h2⟩
  refine J_aload_n dX3_answerOf_0 rfl rfl isR_r ?_
  refine J_iload_n dX3_answerOf_1 rfl rfl ?_
  refine J_callV (c_isWithin hk0 hM0) dX3_answerOf_2 ml_X3_26 mkX3_isWithin rfl (by first | with_reducible assumption | (simp only [hK_sI, hK_sJ, hK_sR, hK_tI, hK_tJ, hK_tR]; with_reducible assumption)) (by decide) rfl rfl (Nat.le_of_ble_eq_true rfl) ⟨Nat.le_of_ble_eq_true rfl, Nat.le_of_ble_eq_true rfl⟩ ⟨Nat.le_of_ble_eq_true rfl, Nat.le_of_ble_eq_true rfl⟩ (fun v2 hp2 q2 => ?_)
  obtain ⟨rfl, z2⟩ := q2
  rw [z2]
  refine J_if_eq (tgt := 20) dX3_answerOf_5 (by decide) (fun c5 => ((show False by rw [hi] at c5; exact absurd c5 (by decide))).elim) (fun c5 => ?_)
  refine J_aload_n dX3_answerOf_8 rfl rfl isR_r ?_
  refine J_getRr dX3_answerOf_9 g_X3_19 (by first | with_reducible assumption | (simp only [hK_sI, hK_sJ, hK_sR, hK_tI, hK_tJ, hK_tR]; with_reducible assumption)) (by first | with_reducible assumption | (simp only [hR_sI, hR_sJ, hR_tI, hR_tJ, hR_tR]; with_reducible assumption)) ?_
  refine J_iload_n dX3_answerOf_12 rfl rfl ?_
  refine J_bipush (v := 15) dX3_answerOf_13 (by decide) ?_
  refine J_iand dX3_answerOf_15 ?_
  refine J_pc (pc' := 16) rfl ?_
  refine J_lald dX3_answerOf_16 (by first | with_reducible assumption | (simp only [hK_sI, hK_sJ, hK_sR, hK_tI, hK_tJ, hK_tR]; with_reducible assumption)) ⟨by decide, by decide⟩ (show inx _ (n % 16) (hN h an) by rw [k7]; exact ix16 n) ?_
  refine J_goto (tgt := 21) dX3_answerOf_17 (by decide) ?_
  exact J_lreturn dX3_answerOf_21 rfl ⟨by rw [(m5 _ h1 h2).2 h3], rfl⟩ (Nat.le_of_ble_eq_true rfl) (Nat.le_of_ble_eq_true rfl)
theorem MR_write {n : Nat} {s : Int32} {v : Int64} {h' : Hp} (hw : wn ≤ 16) (h1 : lo ≤ n) (h2 : n < lo + wn) (hM : MR h a st an wn lo life f g) (hF : FrM h h' a st an) (q3 : hI h' 193 a = hI h 193 a) (q4 : hI h' 194 a = hI h 194 a) (q5 : hI h' 195 a = nI (cntF (up1 f n s) lo wn)) (qa : ∀ j, aI h' 80 st j = if j = n % 16 then s else aI h 80 st j) (qb : ∀ j, aJ h' 89 an j = (if j = n % 16 then v else aJ h 89 an j) ∨ (j = n % 16 ∧ s ≠ 1 ∧ s ≠ 3)) : MR h' a st an wn lo life (up1 f n s) (up1 g n v) := by
  obtain ⟨m1, m2, m3, m4, m5, m6⟩ := hM
  refine ⟨by rw [hF.2.2.2.2.2.1 192 a (by omega)]; exact m1, by rw [q3]; exact m2, by rw [q4]; exact m3, q5, fun k e1 e2 => ?_, fun j hj hz => ?_⟩
  · rw [qa]
    by_cases e : k = n
    · subst e
      rw [up1_self, up1_self, if_pos rfl]
      refine ⟨rfl, fun z => ?_⟩
      rcases qb (k % 16) with q | q
      · rw [q, if_pos rfl]
      · exact absurd z (fun z => z.elim q.2.1 q.2.2)
    · have e3 : ¬ k % 16 = n % 16 := by omega
      rw [up1_ne _ _ e, up1_ne _ _ e, if_neg e3]
      refine ⟨(m5 k e1 e2).1, fun z => ?_⟩
      rcases qb (k % 16) with q | q
      · rw [q, if_neg e3]; exact (m5 k e1 e2).2 z
      · exact absurd q.1 e3
  · rw [qa, if_neg (fun z => hz n h1 h2 z.symm)]
    exact m6 j hj hz
set_option maxRecDepth 100000 in
set_option maxHeartbeats 4000000 in
theorem c_write {n : Nat} {s : Int32} {v : Int64} (hk : MK h a st an) (hM : MR h a st an wn lo life f g) (hlo : lo < 1000000) (hw : wn ≤ 16) (h1 : lo ≤ n) (h2 : n < lo + wn) (hs : s ≠ 0) : Mt x 1 kX3_write 0 0 [.ref a, .int (nI n), .int s, .long v] h (fun z h' => z = none ∧ FrM h h' a st an ∧ MR h' a st an wn lo life (up1 f n s) (up1 g n v)) := by
  refine Mt.ofJ mkX3_write.1 (Nat.le_of_ble_eq_true rfl) ?_
  have hk0 := hk
  have hM0 := hM
  obtain ⟨k1, k2, k3, k4, k5, k6, k7⟩ := hk
  obtain ⟨m1, m2, m3, m4, m5, m6⟩ := hM
  have hi : inW lo wn (nI n) = true := by rw [inW_n hlo hw (by omega), decide_eq_true_iff]; exact ⟨h1, h2⟩
  have hc := cntF_up (f := f) (s := s) wn h1 h2
  rw [if_neg hs] at hc
  have m5n := (m5 n h1 h2).1
  refine J_aload_n dX3_write_0 rfl rfl isR_r ?_
  refine J_iload_n dX3_write_1 rfl rfl ?_
  refine J_callV (c_isWithin hk0 hM0) dX3_write_2 ml_X3_26 mkX3_isWithin rfl (by first | with_reducible assumption | (simp only [hK_sI, hK_sJ, hK_sR, hK_tI, hK_tJ, hK_tR]; with_reducible assumption)) (by decide) rfl rfl (Nat.le_of_ble_eq_true rfl) ⟨Nat.le_of_ble_eq_true rfl, Nat.le_of_ble_eq_true rfl⟩ ⟨Nat.le_of_ble_eq_true rfl, Nat.le_of_ble_eq_true rfl⟩ (fun v2 hp2 q2 => ?_)
  obtain ⟨rfl, z2⟩ := q2
  rw [z2]
  refine J_if_ne (tgt := 9) dX3_write_5 (by decide) (fun c5 => ?_) (fun c5 => ((show False by rw [hi] at c5; exact absurd c5 (by decide))).elim)
  refine J_aload_n dX3_write_9 rfl rfl isR_r ?_
  refine J_getRr dX3_write_10 g_X3_15 (by first | with_reducible assumption | (simp only [hK_sI, hK_sJ, hK_sR, hK_tI, hK_tJ, hK_tR]; with_reducible assumption)) (by first | with_reducible assumption | (simp only [hR_sI, hR_sJ, hR_tI, hR_tJ, hR_tR]; with_reducible assumption)) ?_
  refine J_iload_n dX3_write_13 rfl rfl ?_
  refine J_bipush (v := 15) dX3_write_14 (by decide) ?_
  refine J_iand dX3_write_16 ?_
  refine J_pc (pc' := 17) rfl ?_
  refine J_iald dX3_write_17 (by first | with_reducible assumption | (simp only [hK_sI, hK_sJ, hK_sR, hK_tI, hK_tJ, hK_tR]; with_reducible assumption)) ⟨by decide, by decide⟩ (show inx _ (n % 16) (hN h st) by rw [k4]; exact ix16 n) ?_
  refine J_if_ne (tgt := 31) dX3_write_18 (by decide) (fun c18 => ?_) (fun c18 => ?_)
  · refine J_aload_n dX3_write_31 rfl rfl isR_r ?_
    refine J_getRr dX3_write_32 g_X3_15 (by first | with_reducible assumption | (simp only [hK_sI, hK_sJ, hK_sR, hK_tI, hK_tJ, hK_tR]; with_reducible assumption)) (by first | with_reducible assumption | (simp only [hR_sI, hR_sJ, hR_tI, hR_tJ, hR_tR]; with_reducible assumption)) ?_
    refine J_iload_n dX3_write_35 rfl rfl ?_
    refine J_bipush (v := 15) dX3_write_36 (by decide) ?_
    refine J_iand dX3_write_38 ?_
    refine J_iload_n dX3_write_39 rfl rfl ?_
    refine J_iast dX3_write_40 (by first | with_reducible assumption | (simp only [hK_sI, hK_sJ, hK_sR, hK_tI, hK_tJ, hK_tR]; with_reducible assumption)) ⟨by decide, by decide⟩ (show inx _ (n % 16) (hN h st) by rw [k4]; exact ix16 n) ?_
    refine J_aload_n dX3_write_41 rfl rfl isR_r ?_
    refine J_pc (pc' := 42) rfl ?_
    refine J_getRr dX3_write_42 g_X3_19 (by first | with_reducible assumption | (simp only [hK_sI, hK_sJ, hK_sR, hK_tI, hK_tJ, hK_tR]; with_reducible assumption)) (by first | with_reducible assumption | (simp only [hR_sI, hR_sJ, hR_tI, hR_tJ, hR_tR]; with_reducible assumption)) ?_
    refine J_iload_n dX3_write_45 rfl rfl ?_
    refine J_bipush (v := 15) dX3_write_46 (by decide) ?_
    refine J_iand dX3_write_48 ?_
    refine J_lload_n dX3_write_49 rfl rfl ?_
    refine J_last dX3_write_50 (by first | with_reducible assumption | (simp only [hK_sI, hK_sJ, hK_sR, hK_tI, hK_tJ, hK_tR]; with_reducible assumption)) ⟨by decide, by decide⟩ (show inx _ (n % 16) (hN (tI h 80 st (n % 16) s) an) by rw [hN_tI, k7]; exact ix16 n) ?_
    exact J_return dX3_write_51 rfl ⟨rfl, FrM_tJ (FrM_tI FrM.rf), MR_write hw h1 h2 hM0 (FrM_tJ (FrM_tI FrM.rf)) (by rw [hI_tJ, hI_tI]) (by rw [hI_tJ, hI_tI]) (by
     rw [m5n] at c18
     rw [if_neg c18] at hc
     rw [hI_tJ, hI_tI, m4]
     congr 1
     omega) (fun j => by rw [aI_tJ, aI_tI]; simp only [true_and]) (fun j => Or.inl (by rw [aJ_tJ, aJ_tI]; simp only [true_and]))⟩ (Nat.le_of_ble_eq_true rfl) (Nat.le_of_ble_eq_true rfl)
  · refine J_aload_n dX3_write_21 rfl rfl isR_r ?_
    refine J_dup dX3_write_22 rfl ?_
    refine J_getI dX3_write_23 g_X3_30 (by first | with_reducible assumption | (simp only [hK_sI, hK_sJ, hK_sR, hK_tI, hK_tJ, hK_tR]; with_reducible assumption)) ?_
    refine J_iconst (v := 1) dX3_write_26 (by decide) ?_
    refine J_iadd dX3_write_27 ?_
    refine J_putI dX3_write_28 p_X3_30 (by first | with_reducible assumption | (simp only [hK_sI, hK_sJ, hK_sR, hK_tI, hK_tJ, hK_tR]; with_reducible assumption)) ?_
    refine J_aload_n dX3_write_31 rfl rfl isR_r ?_
    refine J_getRr dX3_write_32 g_X3_15 (by first | with_reducible assumption | (simp only [hK_sI, hK_sJ, hK_sR, hK_tI, hK_tJ, hK_tR]; with_reducible assumption)) (by first | with_reducible assumption | (simp only [hR_sI, hR_sJ, hR_tI, hR_tJ, hR_tR]; with_reducible assumption)) ?_
    refine J_pc (pc' := 35) rfl ?_
    refine J_iload_n dX3_write_35 rfl rfl ?_
    refine J_bipush (v := 15) dX3_write_36 (by decide) ?_
    refine J_iand dX3_write_38 ?_
    refine J_iload_n dX3_write_39 rfl rfl ?_
    refine J_iast dX3_write_40 (by first | with_reducible assumption | (simp only [hK_sI, hK_sJ, hK_sR, hK_tI, hK_tJ, hK_tR]; with_reducible assumption)) ⟨by decide, by decide⟩ (show inx _ (n % 16) (hN (sI h 195 a (hI h 195 a + 1)) st) by rw [hN_sI, k4]; exact ix16 n) ?_
    refine J_aload_n dX3_write_41 rfl rfl isR_r ?_
    refine J_getRr dX3_write_42 g_X3_19 (by first | with_reducible assumption | (simp only [hK_sI, hK_sJ, hK_sR, hK_tI, hK_tJ, hK_tR]; with_reducible assumption)) (by first | with_reducible assumption | (simp only [hR_sI, hR_sJ, hR_tI, hR_tJ, hR_tR]; with_reducible assumption)) ?_
    refine J_iload_n dX3_write_45 rfl rfl ?_
    refine J_pc (pc' := 46) rfl ?_
    refine J_bipush (v := 15) dX3_write_46 (by decide) ?_
    refine J_iand dX3_write_48 ?_
    refine J_lload_n dX3_write_49 rfl rfl ?_
    refine J_last dX3_write_50 (by first | with_reducible assumption | (simp only [hK_sI, hK_sJ, hK_sR, hK_tI, hK_tJ, hK_tR]; with_reducible assumption)) ⟨by decide, by decide⟩ (show inx _ (n % 16) (hN (tI (sI h 195 a (hI h 195 a + 1)) 80 st (n % 16) s) an) by rw [hN_tI, hN_sI, k7]; exact ix16 n) ?_
    exact J_return dX3_write_51 rfl ⟨rfl, FrM_tJ (FrM_tI (FrM_sI (by decide) FrM.rf)), MR_write hw h1 h2 hM0 (FrM_tJ (FrM_tI (FrM_sI (by decide) FrM.rf))) (by rw [hI_tJ, hI_tI, hI_sI, if_neg (fun z => absurd z.1 (by decide))]) (by rw [hI_tJ, hI_tI, hI_sI, if_neg (fun z => absurd z.1 (by decide))]) (by
     rw [m5n] at c18
     rw [if_pos c18] at hc
     rw [hI_tJ, hI_tI, hI_sI, if_pos ⟨rfl, rfl⟩, m4, nI_inc1]
     congr 1
     omega) (fun j => by rw [aI_tJ, aI_tI, aI_sI]; simp only [true_and]) (fun j => Or.inl (by rw [aJ_tJ, aJ_tI, aJ_sI]; simp only [true_and]))⟩ (Nat.le_of_ble_eq_true rfl) (Nat.le_of_ble_eq_true rfl)
set_option maxRecDepth 100000 in
set_option maxHeartbeats 4000000 in
theorem c_forget {n : Nat} (hk : MK h a st an) (hM : MR h a st an wn lo life f g) (hw : wn ≤ 16) (h1 : lo ≤ n) (h2 : n < lo + wn) : Mt x 0 kX3_forget 0 0 [.ref a, .int (nI n)] h (fun z h' => z = none ∧ FrM h h' a st an ∧ MR h' a st an wn lo life (up1 f n 0) g) := by
  refine Mt.ofJ mkX3_forget.1 (Nat.le_of_ble_eq_true rfl) ?_
  have hk0 := hk
  have hM0 := hM
  obtain ⟨k1, k2, k3, k4, k5, k6, k7⟩ := hk
  obtain ⟨m1, m2, m3, m4, m5, m6⟩ := hM
  have hc := cntF_up (f := f) (s := 0) wn h1 h2
  rw [if_pos rfl] at hc
  have m5n := (m5 n h1 h2).1
  have cg : ∀ {h' : Hp}, MR h' a st an wn lo life (up1 f n 0) (up1 g n 0) → MR h' a st an wn lo life (up1 f n 0) g := fun z => MR_congr (fun k e1 e2 => ⟨rfl, fun q => by
    by_cases e : k = n
    · rw [e, up1_self] at q
      exact absurd q (by decide)
    · rw [up1_ne _ _ e]⟩) z
  refine J_aload_n dX3_forget_0 rfl rfl isR_r ?_
  refine J_getRr dX3_forget_1 g_X3_15 (by first | with_reducible assumption | (simp only [hK_sI, hK_sJ, hK_sR, hK_tI, hK_tJ, hK_tR]; with_reducible assumption)) (by first | with_reducible assumption | (simp only [hR_sI, hR_sJ, hR_tI, hR_tJ, hR_tR]; with_reducible assumption)) ?_
  refine J_iload_n dX3_forget_4 rfl rfl ?_
  refine J_bipush (v := 15) dX3_forget_5 (by decide) ?_
  refine J_iand dX3_forget_7 ?_
  refine J_iald dX3_forget_8 (by first | with_reducible assumption | (simp only [hK_sI, hK_sJ, hK_sR, hK_tI, hK_tJ, hK_tR]; with_reducible assumption)) ⟨by decide, by decide⟩ (show inx _ (n % 16) (hN h st) by rw [k4]; exact ix16 n) ?_
  refine J_if_eq (tgt := 22) dX3_forget_9 (by decide) (fun c9 => ?_) (fun c9 => ?_)
  · refine J_aload_n dX3_forget_22 rfl rfl isR_r ?_
    refine J_getRr dX3_forget_23 g_X3_15 (by first | with_reducible assumption | (simp only [hK_sI, hK_sJ, hK_sR, hK_tI, hK_tJ, hK_tR]; with_reducible assumption)) (by first | with_reducible assumption | (simp only [hR_sI, hR_sJ, hR_tI, hR_tJ, hR_tR]; with_reducible assumption)) ?_
    refine J_iload_n dX3_forget_26 rfl rfl ?_
    refine J_bipush (v := 15) dX3_forget_27 (by decide) ?_
    refine J_iand dX3_forget_29 ?_
    refine J_iconst (v := 0) dX3_forget_30 (by decide) ?_
    refine J_iast dX3_forget_31 (by first | with_reducible assumption | (simp only [hK_sI, hK_sJ, hK_sR, hK_tI, hK_tJ, hK_tR]; with_reducible assumption)) ⟨by decide, by decide⟩ (show inx _ (n % 16) (hN h st) by rw [k4]; exact ix16 n) ?_
    exact J_return dX3_forget_32 rfl ⟨rfl, FrM_tI FrM.rf, cg (MR_write hw h1 h2 hM0 (FrM_tI FrM.rf) (by rw [hI_tI]) (by rw [hI_tI]) (by
     rw [m5n] at c9
     rw [if_pos c9] at hc
     rw [hI_tI, m4]
     congr 1
     omega) (fun j => by rw [aI_tI]; simp only [true_and]) (fun j => by
     by_cases e : j = n % 16
     · exact Or.inr ⟨e, by decide, by decide⟩
     · exact Or.inl (by rw [aJ_tI, if_neg e])))⟩ (Nat.le_of_ble_eq_true rfl) (Nat.le_of_ble_eq_true rfl)
  · refine J_aload_n dX3_forget_12 rfl rfl isR_r ?_
    refine J_dup dX3_forget_13 rfl ?_
    refine J_getI dX3_forget_14 g_X3_30 (by first | with_reducible assumption | (simp only [hK_sI, hK_sJ, hK_sR, hK_tI, hK_tJ, hK_tR]; with_reducible assumption)) ?_
    refine J_iconst (v := 1) dX3_forget_17 (by decide) ?_
    refine J_isub dX3_forget_18 ?_
    refine J_putI dX3_forget_19 p_X3_30 (by first | with_reducible assumption | (simp only [hK_sI, hK_sJ, hK_sR, hK_tI, hK_tJ, hK_tR]; with_reducible assumption)) ?_
    refine J_aload_n dX3_forget_22 rfl rfl isR_r ?_
    refine J_getRr dX3_forget_23 g_X3_15 (by first | with_reducible assumption | (simp only [hK_sI, hK_sJ, hK_sR, hK_tI, hK_tJ, hK_tR]; with_reducible assumption)) (by first | with_reducible assumption | (simp only [hR_sI, hR_sJ, hR_tI, hR_tJ, hR_tR]; with_reducible assumption)) ?_
    refine J_pc (pc' := 26) rfl ?_
    refine J_iload_n dX3_forget_26 rfl rfl ?_
    refine J_bipush (v := 15) dX3_forget_27 (by decide) ?_
    refine J_iand dX3_forget_29 ?_
    refine J_iconst (v := 0) dX3_forget_30 (by decide) ?_
    refine J_iast dX3_forget_31 (by first | with_reducible assumption | (simp only [hK_sI, hK_sJ, hK_sR, hK_tI, hK_tJ, hK_tR]; with_reducible assumption)) ⟨by decide, by decide⟩ (show inx _ (n % 16) (hN (sI h 195 a (hI h 195 a - 1)) st) by rw [hN_sI, k4]; exact ix16 n) ?_
    exact J_return dX3_forget_32 rfl ⟨rfl, FrM_tI (FrM_sI (by decide) FrM.rf), cg (MR_write hw h1 h2 hM0 (FrM_tI (FrM_sI (by decide) FrM.rf)) (by rw [hI_tI, hI_sI, if_neg (fun z => absurd z.1 (by decide))]) (by rw [hI_tI, hI_sI, if_neg (fun z => absurd z.1 (by decide))]) (by
     rw [m5n] at c9
     rw [if_neg c9] at hc
     have hp := cntF_pos wn h1 h2 c9
     rw [hI_tI, hI_sI, if_pos ⟨rfl, rfl⟩, m4, show nI (cntF f lo wn) - 1 = nI (cntF f lo wn - 1) from nI_sub (b := 1) hp]
     congr 1
     omega) (fun j => by rw [aI_tI, aI_sI]; simp only [true_and]) (fun j => by
     by_cases e : j = n % 16
     · exact Or.inr ⟨e, by decide, by decide⟩
     · exact Or.inl (by rw [aJ_tI, aJ_sI, if_neg e])))⟩ (Nat.le_of_ble_eq_true rfl) (Nat.le_of_ble_eq_true rfl)
/-- what is left of f from the NUMBER e on -/
def frm (f : Nat → Int32) (e : Nat) : Nat → Int32 := fun n => if n < e then 0 else f n
theorem frm_step {e : Nat} {n : Nat} : up1 (frm f e) e 0 n = frm f (e + 1) n := by
  unfold frm up1
  by_cases h1 : n = e
  · rw [if_pos h1, if_pos (by omega)]
  · rw [if_neg h1]
    show (if n < e then 0 else f n) = _
    by_cases h2 : n < e
    · rw [if_pos h2, if_pos (by omega)]
    · rw [if_neg h2, if_neg (by omega)]
theorem frm_low {n : Nat} (h : lo ≤ n) : frm f lo n = f n := by
  unfold frm
  rw [if_neg (by omega)]
/-- the window goes on to l -/
theorem MR_slide {l : Nat} {life' : Int32} {h' : Hp} {f' : Nat → Int32} (hw : wn ≤ 16) (hM : MR h a st an wn lo life (frm f (min l (lo + wn))) g) (hl : lo ≤ l) (hf' : ∀ n, l ≤ n → n < l + wn → f' n = if n < lo + wn then f n else 0) (q2 : hI h' 192 a = hI h 192 a) (q3 : hI h' 193 a = life') (q4 : hI h' 194 a = nI l) (q5 : hI h' 195 a = hI h 195 a) (qa : aI h' 80 st = aI h 80 st) (qb : aJ h' 89 an = aJ h 89 an) : MR h' a st an wn l life' f' g := by
  obtain ⟨m1, m2, m3, m4, m5, m6⟩ := hM
  have key : ∀ j, j < 16 → (∀ m, lo ≤ m → m < lo + wn → m % 16 = j → m < l) → aI h 80 st j = 0 := by
    intro j hj hz
    by_cases e : ∃ m, lo ≤ m ∧ m < lo + wn ∧ m % 16 = j
    · obtain ⟨m, e1, e2, e3⟩ := e
      have := hz m e1 e2 e3
      rw [← e3, (m5 m e1 e2).1]
      unfold frm
      rw [if_pos (by omega)]
    · exact m6 j hj (fun m e1 e2 e3 => e ⟨m, e1, e2, e3⟩)
  refine ⟨by rw [q2]; exact m1, q3, q4, ?_, fun n e1 e2 => ?_, fun j hj hz => ?_⟩
  · rw [q5, m4]
    congr 1
    by_cases hb : l < lo + wn
    · have d : wn = (l - lo) + (wn - (l - lo)) := by omega
      have d2 : wn = (wn - (l - lo)) + (l - lo) := by omega
      conv => lhs; rw [d]
      conv => rhs; rw [d2]
      rw [cntF_split, cntF_split]
      rw [cntF_zero (l - lo) (fun n e1 e2 => by unfold frm; rw [if_pos (by omega)])]
      rw [cntF_zero (f := f') (l - lo) (fun n e1 e2 => by rw [hf' n (by omega) (by omega), if_neg (by omega)])]
      rw [Nat.zero_add, Nat.add_zero, show lo + (l - lo) = l by omega]
      exact cntF_congr _ (fun n e1 e2 => by rw [hf' n e1 (by omega), if_pos (by omega)]; unfold frm; rw [if_neg (by omega)])
    · rw [cntF_zero wn (fun n e1 e2 => by unfold frm; rw [if_pos (by omega)]), cntF_zero wn (fun n e1 e2 => by rw [hf' n e1 e2, if_neg (by omega)])]
  · rw [qa, qb, hf' n e1 e2]
    by_cases hb : n < lo + wn
    · rw [if_pos hb]
      have q := m5 n (by omega) hb
      have e3 : frm f (min l (lo + wn)) n = f n := by unfold frm; rw [if_neg (by omega)]
      rw [e3] at q
      exact q
    · rw [if_neg hb]
      refine ⟨key _ (Nat.mod_lt _ (by decide)) (fun m e3 e4 e5 => by omega), fun z => absurd z (by decide)⟩
  · rw [qa]
    refine key j hj (fun m e3 e4 e5 => ?_)
    by_cases hb : m < l
    · exact hb
    · exact absurd e5 (hz m (by omega) (by omega))
set_option maxRecDepth 100000 in
set_option maxHeartbeats 4000000 in
theorem c_beginLife3 {lv : Int32} (hk : MK h a st an) (hM : MR h a st an wn lo life f g) (hlo : lo < 1000000) (hw : wn ≤ 16) : Mt x 1 kX3_beginLife 0 0 [.ref a, .int lv] h (fun z h' => z = none ∧ FrM h h' a st an ∧ MR h' a st an wn 1 lv (fun _ => 0) g) := by
  refine Mt.ofJ mkX3_beginLife.1 (Nat.le_of_ble_eq_true rfl) ?_
  have lp : ∀ m e h1, lo ≤ e → e ≤ lo + wn → lo + wn - e < m → FrM h h1 a st an → MR h1 a st an wn lo life (frm f e) g → J x (om_m x 1 0 0 (fun z h' => z = none ∧ FrM h h' a st an ∧ MR h' a st an wn 1 lv (fun _ => 0) g)) kX3_beginLife 5 [(0, .ref a), (1, .int lv), (2, .int (nI e))] [] h1 0 0 := by
    intro m
    induction m with
    | zero => intro e h1 _ _ h9; omega
    | succ m ih =>
      intro e h1 he1 he2 hm hF hM1
      have hk1 := hk.fr hF
      have hk2 := hk1
      have hM2 := hM1
      obtain ⟨k1, k2, k3, k4, k5, k6, k7⟩ := hk1
      obtain ⟨m1, m2, m3, m4, m5, m6⟩ := hM1
      refine J_iload_n dX3_beginLife_5 rfl rfl ?_
      refine J_aload_n dX3_beginLife_6 rfl rfl isR_r ?_
      refine J_getI dX3_beginLife_7 g_X3_9 (by first | with_reducible assumption | (simp only [hK_sI, hK_sJ, hK_sR, hK_tI, hK_tJ, hK_tR]; with_reducible assumption)) ?_
      refine J_aload_n dX3_beginLife_10 rfl rfl isR_r ?_
      refine J_getI dX3_beginLife_11 g_X3_23 (by first | with_reducible assumption | (simp only [hK_sI, hK_sJ, hK_sR, hK_tI, hK_tJ, hK_tR]; with_reducible assumption)) ?_
      refine J_iadd dX3_beginLife_14 ?_
      rw [m3, m1, zI_add]
      refine J_icmp_ge (tgt := 29) dX3_beginLife_15 (by decide) (fun c15 => ?_) (fun c15 => ?_)
      · rw [nI_lei (by omega) (by omega)] at c15
        have e9 : e = lo + wn := by omega
        subst e9
        refine J_aload_n dX3_beginLife_29 rfl rfl isR_r ?_
        refine J_iload_n dX3_beginLife_30 rfl rfl ?_
        refine J_putI dX3_beginLife_31 p_X3_43 (by first | with_reducible assumption | (simp only [hK_sI, hK_sJ, hK_sR, hK_tI, hK_tJ, hK_tR]; with_reducible assumption)) ?_
        refine J_aload_n dX3_beginLife_34 rfl rfl isR_r ?_
        refine J_iconst (v := 1) dX3_beginLife_35 (by decide) ?_
        refine J_putI dX3_beginLife_36 p_X3_9 (by first | with_reducible assumption | (simp only [hK_sI, hK_sJ, hK_sR, hK_tI, hK_tJ, hK_tR]; with_reducible assumption)) ?_
        exact J_return dX3_beginLife_39 rfl ⟨rfl, FrM_sI (by decide) (FrM_sI (by decide) hF), by
         have z0 : ∀ j, j < 16 → aI h1 80 st j = 0 := fun j hj => by
           by_cases e : ∃ n, lo ≤ n ∧ n < lo + wn ∧ n % 16 = j
           · obtain ⟨n, e1, e2, e3⟩ := e
             rw [← e3, (m5 n e1 e2).1]
             unfold frm
             rw [if_pos e2]
           · exact m6 j hj (fun n e1 e2 e3 => e ⟨n, e1, e2, e3⟩)
         refine ⟨?_, ?_, ?_, ?_, fun n _ _ => ⟨?_, fun z => absurd (show (0 : Int32) = 1 ∨ (0 : Int32) = 3 from z) (by decide)⟩, fun j hj _ => ?_⟩
         · rw [hI_sI, if_neg (fun z => absurd z.1 (by decide)), hI_sI, if_neg (fun z => absurd z.1 (by decide))]; exact m1
         · rw [hI_sI, if_neg (fun z => absurd z.1 (by decide)), hI_sI, if_pos ⟨rfl, rfl⟩]
         · rw [hI_sI, if_pos ⟨rfl, rfl⟩]; rfl
         · rw [hI_sI, if_neg (fun z => absurd z.1 (by decide)), hI_sI, if_neg (fun z => absurd z.1 (by decide)), m4, cntF_zero wn (fun n e1 e2 => by unfold frm; rw [if_pos e2]), cntF_zero wn (fun n e1 e2 => rfl)]
         · rw [aI_sI, aI_sI]; exact z0 _ (Nat.mod_lt _ (by decide))
         · rw [aI_sI, aI_sI]; exact z0 j hj⟩ (Nat.le_of_ble_eq_true rfl) (Nat.le_of_ble_eq_true rfl)
      · rw [nI_lei (by omega) (by omega)] at c15
        refine J_aload_n dX3_beginLife_18 rfl rfl isR_r ?_
        refine J_iload_n dX3_beginLife_19 rfl rfl ?_
        refine J_callV (c_forget hk2 hM2 hw he1 (by omega)) dX3_beginLife_20 ml_X3_39 mkX3_forget rfl (by first | with_reducible assumption | (simp only [hK_sI, hK_sJ, hK_sR, hK_tI, hK_tJ, hK_tR]; with_reducible assumption)) (by decide) rfl rfl (Nat.le_of_ble_eq_true rfl) ⟨Nat.le_of_ble_eq_true rfl, Nat.le_of_ble_eq_true rfl⟩ ⟨Nat.le_of_ble_eq_true rfl, Nat.le_of_ble_eq_true rfl⟩ (fun v20 hp20 q20 => ?_)
        obtain ⟨rfl, f20, r20⟩ := q20
        refine J_iinc dX3_beginLife_23 rfl (nI_inc _) (by decide) ?_
        refine J_goto (tgt := 5) dX3_beginLife_26 (by decide) ?_
        exact J_loc _ rfl (ih (e + 1) _ (by omega) (by omega) (by omega) (hF.tr f20) (MR_congr (fun n _ _ => ⟨frm_step.symm, fun _ => rfl⟩) r20))
  have hk1 := hk
  obtain ⟨k1, k2, k3, k4, k5, k6, k7⟩ := hk1
  have hM1 := hM
  obtain ⟨m1, m2, m3, m4, m5, m6⟩ := hM1
  refine J_aload_n dX3_beginLife_0 rfl rfl isR_r ?_
  refine J_getI dX3_beginLife_1 g_X3_9 (by first | with_reducible assumption | (simp only [hK_sI, hK_sJ, hK_sR, hK_tI, hK_tJ, hK_tR]; with_reducible assumption)) ?_
  rw [m3]
  refine J_istore_n dX3_beginLife_4 rfl (by decide) ?_
  exact J_loc _ rfl (lp (wn + 1) lo h (by omega) (by omega) (by omega) FrM.rf (MR_congr (fun n e1 _ => ⟨frm_low e1, fun _ => rfl⟩) hM))
set_option maxRecDepth 100000 in
set_option maxHeartbeats 4000000 in
theorem c_raiseLow {l : Nat} (hk : MK h a st an) (hM : MR h a st an wn lo life f g) (hlo : lo < 1000000) (hl : l < 1000000) (hw : wn ≤ 16) : Mt x 1 kX3_raiseLow 0 0 [.ref a, .int (nI l)] h (fun z h' => z = none ∧ FrM h h' a st an ∧ if lo < l then MR h' a st an wn l life (fun n => if n < lo + wn then f n else 0) g else MR h' a st an wn lo life f g) := by
  refine Mt.ofJ mkX3_raiseLow.1 (Nat.le_of_ble_eq_true rfl) ?_
  have hk1 := hk
  obtain ⟨k1, k2, k3, k4, k5, k6, k7⟩ := hk1
  have hM1 := hM
  obtain ⟨m1, m2, m3, m4, m5, m6⟩ := hM1
  have lp : lo < l → ∀ m e h1, lo ≤ e → e ≤ min l (lo + wn) → min l (lo + wn) - e < m → FrM h h1 a st an → MR h1 a st an wn lo life (frm f e) g → J x (om_m x 1 0 0 (fun z h' => z = none ∧ FrM h h' a st an ∧ if lo < l then MR h' a st an wn l life (fun n => if n < lo + wn then f n else 0) g else MR h' a st an wn lo life f g)) kX3_raiseLow 28 [(0, .ref a), (1, .int (nI l)), (2, .int (nI (min l (lo + wn)))), (3, .int (nI e))] [] h1 0 0 := by
    intro hll m
    induction m with
    | zero => intro e h1 _ _ h9; omega
    | succ m ih =>
      intro e h1 he1 he2 hm hF hM1
      have hk1 := hk.fr hF
      have hk2 := hk1
      obtain ⟨k1, k2, k3, k4, k5, k6, k7⟩ := hk1
      refine J_iload_n dX3_raiseLow_28 rfl rfl ?_
      refine J_iload_n dX3_raiseLow_29 rfl rfl ?_
      refine J_icmp_ge (tgt := 44) dX3_raiseLow_30 (by decide) (fun c30 => ?_) (fun c30 => ?_)
      · rw [nI_lei (by omega) (by omega)] at c30
        have e9 : e = min l (lo + wn) := by omega
        subst e9
        refine J_aload_n dX3_raiseLow_44 rfl rfl isR_r ?_
        refine J_iload_n dX3_raiseLow_45 rfl rfl ?_
        refine J_putI dX3_raiseLow_46 p_X3_9 (by first | with_reducible assumption | (simp only [hK_sI, hK_sJ, hK_sR, hK_tI, hK_tJ, hK_tR]; with_reducible assumption)) ?_
        exact J_return dX3_raiseLow_49 rfl ⟨rfl, FrM_sI (by decide) hF, by
         rw [if_pos hll]
         refine MR_slide hw hM1 (by omega) (fun n _ _ => rfl) ?_ ?_ ?_ ?_ ?_ ?_
         · rw [hI_sI, if_neg (fun z => absurd z.1 (by decide))]
         · rw [hI_sI, if_neg (fun z => absurd z.1 (by decide))]; exact hM1.2.1
         · rw [hI_sI, if_pos ⟨rfl, rfl⟩]
         · rw [hI_sI, if_neg (fun z => absurd z.1 (by decide))]
         · rw [aI_sI]
         · rw [aJ_sI]⟩ (Nat.le_of_ble_eq_true rfl) (Nat.le_of_ble_eq_true rfl)
      · rw [nI_lei (by omega) (by omega)] at c30
        refine J_aload_n dX3_raiseLow_33 rfl rfl isR_r ?_
        refine J_iload_n dX3_raiseLow_34 rfl rfl ?_
        refine J_callV (c_forget hk2 hM1 hw he1 (by omega)) dX3_raiseLow_35 ml_X3_39 mkX3_forget rfl (by first | with_reducible assumption | (simp only [hK_sI, hK_sJ, hK_sR, hK_tI, hK_tJ, hK_tR]; with_reducible assumption)) (by decide) rfl rfl (Nat.le_of_ble_eq_true rfl) ⟨Nat.le_of_ble_eq_true rfl, Nat.le_of_ble_eq_true rfl⟩ ⟨Nat.le_of_ble_eq_true rfl, Nat.le_of_ble_eq_true rfl⟩ (fun v35 hp35 q35 => ?_)
        obtain ⟨rfl, f35, r35⟩ := q35
        refine J_iinc dX3_raiseLow_38 rfl (nI_inc _) (by decide) ?_
        refine J_goto (tgt := 28) dX3_raiseLow_41 (by decide) ?_
        exact J_loc _ rfl (ih (e + 1) _ (by omega) (by omega) (by omega) (hF.tr f35) (MR_congr (fun n _ _ => ⟨frm_step.symm, fun _ => rfl⟩) r35))
  refine J_iload_n dX3_raiseLow_0 rfl rfl ?_
  refine J_aload_n dX3_raiseLow_1 rfl rfl isR_r ?_
  refine J_getI dX3_raiseLow_2 g_X3_9 (by first | with_reducible assumption | (simp only [hK_sI, hK_sJ, hK_sR, hK_tI, hK_tJ, hK_tR]; with_reducible assumption)) ?_
  rw [m3]
  refine J_icmp_gt (tgt := 9) dX3_raiseLow_5 (by decide) (fun c5 => ?_) (fun c5 => ?_)
  · rw [nI_lti (by omega) (by omega)] at c5
    refine J_iload_n dX3_raiseLow_9 rfl rfl ?_
    refine J_aload_n dX3_raiseLow_10 rfl rfl isR_r ?_
    refine J_getI dX3_raiseLow_11 g_X3_9 (by first | with_reducible assumption | (simp only [hK_sI, hK_sJ, hK_sR, hK_tI, hK_tJ, hK_tR]; with_reducible assumption)) ?_
    refine J_aload_n dX3_raiseLow_14 rfl rfl isR_r ?_
    refine J_getI dX3_raiseLow_15 g_X3_23 (by first | with_reducible assumption | (simp only [hK_sI, hK_sJ, hK_sR, hK_tI, hK_tJ, hK_tR]; with_reducible assumption)) ?_
    refine J_iadd dX3_raiseLow_18 ?_
    rw [m3, m1, zI_add]
    refine J_mmin dX3_raiseLow_19 ml_X3_33 (Nat.le_of_ble_eq_true rfl) (Nat.le_of_ble_eq_true rfl) (Nat.le_of_ble_eq_true rfl) (Nat.le_of_ble_eq_true rfl) ?_
    have e9 : (if nI (lo + wn) < nI l then nI (lo + wn) else nI l) = nI (min l (lo + wn)) := by
     by_cases e : lo + wn < l
     · rw [if_pos ((nI_lti (by omega) (by omega)).mpr e), Nat.min_eq_right (by omega)]
     · rw [if_neg (fun z => e ((nI_lti (by omega) (by omega)).mp z)), Nat.min_eq_left (by omega)]
    rw [e9]
    refine J_istore_n dX3_raiseLow_22 rfl (by decide) ?_
    refine J_pc (pc' := 23) rfl ?_
    refine J_aload_n dX3_raiseLow_23 rfl rfl isR_r ?_
    refine J_getI dX3_raiseLow_24 g_X3_9 (by first | with_reducible assumption | (simp only [hK_sI, hK_sJ, hK_sR, hK_tI, hK_tJ, hK_tR]; with_reducible assumption)) ?_
    refine J_istore_n dX3_raiseLow_27 rfl (by decide) ?_
    rw [m3]
    exact J_loc _ rfl (lp c5 (min l (lo + wn) - lo + 1) lo h (by omega) (by omega) (by omega) FrM.rf (MR_congr (fun n e1 _ => ⟨frm_low e1, fun _ => rfl⟩) hM))
  · rw [nI_lti (by omega) (by omega)] at c5
    exact J_return dX3_raiseLow_8 rfl ⟨rfl, FrM.rf, by rw [if_neg c5]; exact hM⟩ (Nat.le_of_ble_eq_true rfl) (Nat.le_of_ble_eq_true rfl)
set_option maxRecDepth 100000 in
set_option maxHeartbeats 4000000 in
theorem c_hasMidst (hk : MK h a st an) (hM : MR h a st an wn lo life f g) (hlo : lo < 1000000) (hw : wn ≤ 16) : Mt x 2 kX3_hasMidst 0 0 [.ref a] h (fun z h' => z = some (.int (bi (midF f lo wn))) ∧ h' = h) := by
  refine Mt.ofJ mkX3_hasMidst.1 (Nat.le_of_ble_eq_true rfl) ?_
  have hk1 := hk
  obtain ⟨k1, k2, k3, k4, k5, k6, k7⟩ := hk1
  have hM1 := hM
  obtain ⟨m1, m2, m3, m4, m5, m6⟩ := hM1
  have mono : ∀ j k, midF f lo k = true → midF f lo (k + j) = true := by
    intro j
    induction j with
    | zero => intro k hh; exact hh
    | succ j ih => intro k hh; rw [← Nat.add_assoc]; simp only [midF]; rw [ih k hh, Bool.true_or]
  have lp : ∀ m e, e ≤ wn → wn - e < m → midF f lo e = false → J x (om_m x 2 0 0 (fun z h' => z = some (.int (bi (midF f lo wn))) ∧ h' = h)) kX3_hasMidst 5 [(0, .ref a), (1, .int (nI (lo + e)))] [] h 0 0 := by
    intro m
    induction m with
    | zero => intro e _ h9; omega
    | succ m ih =>
      intro e he hm hz
      have h8 := ih (e + 1)
      simp only [midF, hz, Bool.false_or] at h8
      refine J_iload_n dX3_hasMidst_5 rfl rfl ?_
      refine J_aload_n dX3_hasMidst_6 rfl rfl isR_r ?_
      refine J_getI dX3_hasMidst_7 g_X3_9 (by first | with_reducible assumption | (simp only [hK_sI, hK_sJ, hK_sR, hK_tI, hK_tJ, hK_tR]; with_reducible assumption)) ?_
      refine J_aload_n dX3_hasMidst_10 rfl rfl isR_r ?_
      refine J_getI dX3_hasMidst_11 g_X3_23 (by first | with_reducible assumption | (simp only [hK_sI, hK_sJ, hK_sR, hK_tI, hK_tJ, hK_tR]; with_reducible assumption)) ?_
      refine J_iadd dX3_hasMidst_14 ?_
      rw [m3, m1, zI_add]
      refine J_icmp_ge (tgt := 35) dX3_hasMidst_15 (by decide) (fun c15 => ?_) (fun c15 => ?_)
      · refine J_iconst (v := 0) dX3_hasMidst_35 (by decide) ?_
        rw [nI_lei (by omega) (by omega)] at c15
        have e9 : e = wn := by omega
        subst e9
        exact J_zreturn dX3_hasMidst_36 rfl (by first | exact Or.inl rfl | exact Or.inr rfl | exact bi_01) ⟨by rw [hz]; rfl, rfl⟩ (Nat.le_of_ble_eq_true rfl) (Nat.le_of_ble_eq_true rfl)
      · rw [nI_lei (by omega) (by omega)] at c15
        have hs : stV f lo wn (nI (lo + e)) = f (lo + e) := by unfold stV; rw [inW_n hlo hw (by omega), decide_eq_true ⟨by omega, by omega⟩, if_pos rfl, tn_nI (by omega)]
        refine J_aload_n dX3_hasMidst_18 rfl rfl isR_r ?_
        refine J_iload_n dX3_hasMidst_19 rfl rfl ?_
        refine J_callV (c_stateOf hk hM hlo hw) dX3_hasMidst_20 ml_X3_46 mkX3_stateOf rfl (by first | with_reducible assumption | (simp only [hK_sI, hK_sJ, hK_sR, hK_tI, hK_tJ, hK_tR]; with_reducible assumption)) (by decide) rfl rfl (Nat.le_of_ble_eq_true rfl) ⟨Nat.le_of_ble_eq_true rfl, Nat.le_of_ble_eq_true rfl⟩ ⟨Nat.le_of_ble_eq_true rfl, Nat.le_of_ble_eq_true rfl⟩ (fun v20 hp20 q20 => ?_)
        obtain ⟨rfl, z20⟩ := q20
        rw [z20]
        rw [hs]
        refine J_iconst (v := 2) dX3_hasMidst_23 (by decide) ?_
        refine J_icmp_ne (tgt := 29) dX3_hasMidst_24 (by decide) (fun c24 => ?_) (fun c24 => ?_)
        · refine J_iinc dX3_hasMidst_29 rfl (nI_inc _) (by decide) ?_
          refine J_goto (tgt := 5) dX3_hasMidst_32 (by decide) ?_
          exact J_loc _ rfl (h8 (by omega) (by omega) (decide_eq_false c24))
        · refine J_iconst (v := 1) dX3_hasMidst_27 (by decide) ?_
          exact J_zreturn dX3_hasMidst_28 rfl (by first | exact Or.inl rfl | exact Or.inr rfl | exact bi_01) ⟨by
           have e9 : midF f lo (e + 1) = true := by simp only [midF]; rw [decide_eq_true c24, Bool.or_true]
           rw [show wn = e + 1 + (wn - (e + 1)) by omega, mono _ _ e9]; rfl, rfl⟩ (Nat.le_of_ble_eq_true rfl) (Nat.le_of_ble_eq_true rfl)
  refine J_aload_n dX3_hasMidst_0 rfl rfl isR_r ?_
  refine J_getI dX3_hasMidst_1 g_X3_9 (by first | with_reducible assumption | (simp only [hK_sI, hK_sJ, hK_sR, hK_tI, hK_tJ, hK_tR]; with_reducible assumption)) ?_
  rw [m3]
  refine J_istore_n dX3_hasMidst_4 rfl (by decide) ?_
  exact J_loc _ rfl (lp (wn + 1) 0 (by omega) (by omega) rfl)
end CM
