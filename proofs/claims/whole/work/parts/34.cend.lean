/-! an end -/
theorem sI_self {h : Hp} {f a : Nat} {v : Int32} (e : hI h f a = v) : sI h f a v = h := by
  have : up2 (hI h) f a v = hI h := by
    funext g b
    unfold up2
    by_cases q : g = f ∧ b = a
    · rw [if_pos q, q.1, q.2, e]
    · rw [if_neg q]
  unfold sI
  rw [this]
  rfl
theorem sI_sI (h : Hp) (f a : Nat) (u v : Int32) : sI (sI h f a u) f a v = sI h f a v := by
  have : up2 (hI (sI h f a u)) f a v = up2 (hI h) f a v := by
    funext g b
    unfold up2
    by_cases q : g = f ∧ b = a
    · rw [if_pos q, if_pos q]
    · rw [if_neg q, if_neg q, hI_sI, if_neg q]
  show (_, _, up2 (hI (sI h f a u)) f a v, _) = _
  rw [this]
  rfl
def EK (h : Hp) (e ek : Nat) : Prop := hK h e = 2 ∧ hR h 69 e = some ek ∧ hK h ek = 59 ∧ hN h ek = 16 ∧ ∀ j, j < 16 → ∀ a, aR h 59 ek j = some a → hK h a = 1
def opU (h : Hp) (u : Option Nat) : Bool := match u with
  | none => false
  | some a => decide (hI h 10 a = 0)
section CE
variable {x : om_x} {h : Hp} {e ek : Nat}
theorem c_isOpen {u : Option Nat} (hk : ∀ a, u = some a → hK h a = 1) : Mt x 0 kX1_isOpen 0 0 [va_rf u] h (fun z h' => z = some (.int (bi (opU h u))) ∧ h' = h) := by
  cases u with
  | none => exact c_isOpen_n
  | some a => exact c_isOpen_r (hk a rfl)
theorem EK.low {m : Int32} (hE : EK h e ek) : EK (sI h 68 e m) e ek := by
  unfold EK
  rw [hK_sI, hN_sI, hR_sI, aR_sI]
  exact hE
theorem opU_low {m : Int32} {u : Option Nat} {f : Nat} (hf : f ≠ 10) : opU (sI h f e m) u = opU h u := by
  unfold opU
  split
  · rfl
  · rw [hI_sI, if_neg (fun z => hf z.1.symm)]
set_option maxRecDepth 100000 in
set_option maxHeartbeats 4000000 in
theorem c_lowestOpen {lw nx : Nat} (hE : EK h e ek) (h1 : hI h 68 e = nI lw) (h2 : hI h 67 e = nI nx) (h3 : lw ≤ nx) (h4 : nx < 1000000) : Mt x 1 kX1_lowestOpen 0 0 [.ref e] h (fun z h' => ∃ m, lw ≤ m ∧ m ≤ nx ∧ (∀ j, lw ≤ j → j < m → opU h (aR h 59 ek (j % 16)) = false) ∧ (m < nx → opU h (aR h 59 ek (m % 16)) = true) ∧ z = some (.int (nI m)) ∧ h' = sI h 68 e (nI m)) := by
  refine Mt.ofJ mkX1_lowestOpen.1 (Nat.le_of_ble_eq_true rfl) ?_
  have lp : ∀ k l, lw ≤ l → l ≤ nx → nx - l < k → (∀ j, lw ≤ j → j < l → opU h (aR h 59 ek (j % 16)) = false) → J x (om_m x 1 0 0 (fun z h' => ∃ m, lw ≤ m ∧ m ≤ nx ∧ (∀ j, lw ≤ j → j < m → opU h (aR h 59 ek (j % 16)) = false) ∧ (m < nx → opU h (aR h 59 ek (m % 16)) = true) ∧ z = some (.int (nI m)) ∧ h' = sI h 68 e (nI m))) kX1_lowestOpen 0 [(0, .ref e)] [] (sI h 68 e (nI l)) 0 0 := by
    intro k
    induction k with
    | zero => intro l _ _ h9; omega
    | succ k ih =>
      intro l l1 l2 hm hz
      have e1 : hI (sI h 68 e (nI l)) 68 e = nI l := by rw [hI_sI, if_pos ⟨rfl, rfl⟩]
      have e2 : hI (sI h 68 e (nI l)) 67 e = nI nx := by rw [hI_sI, if_neg (fun z => absurd z.1 (by decide))]; exact h2
      have hE2 : EK (sI h 68 e (nI l)) e ek := hE.low
      have hop : opU (sI h 68 e (nI l)) (aR (sI h 68 e (nI l)) 59 ek (l % 16)) = opU h (aR h 59 ek (l % 16)) := by rw [opU_low (by decide), aR_sI]
      have h8 := ih (l + 1) (by omega)
      have es : sI h 68 e (nI (l + 1)) = sI (sI h 68 e (nI l)) 68 e (nI (l + 1)) := (sI_sI _ _ _ _ _).symm
      rw [es] at h8
      generalize hg : sI h 68 e (nI l) = h1' at *
      obtain ⟨k1, k2, k3, k4, k5⟩ := hE2
      refine J_aload_n dX1_lowestOpen_0 rfl rfl isR_r ?_
      refine J_getI dX1_lowestOpen_1 g_X1_22 (by first | with_reducible assumption | (simp only [hK_sI, hK_sJ, hK_sR, hK_tI, hK_tJ, hK_tR]; with_reducible assumption)) ?_
      refine J_aload_n dX1_lowestOpen_4 rfl rfl isR_r ?_
      refine J_getI dX1_lowestOpen_5 g_X1_19 (by first | with_reducible assumption | (simp only [hK_sI, hK_sJ, hK_sR, hK_tI, hK_tJ, hK_tR]; with_reducible assumption)) ?_
      rw [e1, e2]
      refine J_icmp_ge (tgt := 42) dX1_lowestOpen_8 (by decide) (fun c8 => ?_) (fun c8 => ?_)
      · rw [nI_lei (by omega) (by omega)] at c8
        have e9 : l = nx := by omega
        refine J_aload_n dX1_lowestOpen_42 rfl rfl isR_r ?_
        refine J_getI dX1_lowestOpen_43 g_X1_22 (by first | with_reducible assumption | (simp only [hK_sI, hK_sJ, hK_sR, hK_tI, hK_tJ, hK_tR]; with_reducible assumption)) ?_
        exact J_ireturn dX1_lowestOpen_46 rfl ⟨l, l1, l2, hz, fun q => absurd q (by omega), by rw [e1], hg.symm⟩ (Nat.le_of_ble_eq_true rfl) (Nat.le_of_ble_eq_true rfl)
      · rw [nI_lei (by omega) (by omega)] at c8
        refine J_aload_n dX1_lowestOpen_11 rfl rfl isR_r ?_
        refine J_getRr dX1_lowestOpen_12 g_X1_27 (by first | with_reducible assumption | (simp only [hK_sI, hK_sJ, hK_sR, hK_tI, hK_tJ, hK_tR]; with_reducible assumption)) (by first | with_reducible assumption | (simp only [hR_sI, hR_sJ, hR_tI, hR_tJ, hR_tR]; with_reducible assumption)) ?_
        refine J_aload_n dX1_lowestOpen_15 rfl rfl isR_r ?_
        refine J_getI dX1_lowestOpen_16 g_X1_22 (by first | with_reducible assumption | (simp only [hK_sI, hK_sJ, hK_sR, hK_tI, hK_tJ, hK_tR]; with_reducible assumption)) ?_
        rw [e1]
        refine J_bipush (v := 15) dX1_lowestOpen_19 (by decide) ?_
        refine J_iand dX1_lowestOpen_21 ?_
        refine J_aald dX1_lowestOpen_22 (by first | with_reducible assumption | (simp only [hK_sI, hK_sJ, hK_sR, hK_tI, hK_tJ, hK_tR]; with_reducible assumption)) ⟨by decide, by decide⟩ (show inx _ (l % 16) (hN h1' ek) by rw [k4]; exact ix16 l) rfl ?_
        refine J_callS (c_isOpen (k5 _ (Nat.mod_lt _ (by decide)))) dX1_lowestOpen_23 ml_X1_34 mkX1_isOpen rfl rfl (Nat.le_of_ble_eq_true rfl) ⟨Nat.le_of_ble_eq_true rfl, Nat.le_of_ble_eq_true rfl⟩ ⟨Nat.le_of_ble_eq_true rfl, Nat.le_of_ble_eq_true rfl⟩ (fun v23 hp23 q23 => ?_)
        obtain ⟨rfl, z23⟩ := q23
        rw [z23]
        refine J_pc (pc' := 26) rfl ?_
        refine J_if_ne (tgt := 42) dX1_lowestOpen_26 (by decide) (fun c26 => ?_) (fun c26 => ?_)
        · refine J_aload_n dX1_lowestOpen_42 rfl rfl isR_r ?_
          refine J_getI dX1_lowestOpen_43 g_X1_22 (by first | with_reducible assumption | (simp only [hK_sI, hK_sJ, hK_sR, hK_tI, hK_tJ, hK_tR]; with_reducible assumption)) ?_
          exact J_ireturn dX1_lowestOpen_46 rfl ⟨l, l1, l2, hz, fun _ => by rw [← hop]; exact bi_1.mp c26, by rw [e1], hg.symm⟩ (Nat.le_of_ble_eq_true rfl) (Nat.le_of_ble_eq_true rfl)
        · refine J_aload_n dX1_lowestOpen_29 rfl rfl isR_r ?_
          refine J_dup dX1_lowestOpen_30 rfl ?_
          refine J_getI dX1_lowestOpen_31 g_X1_22 (by first | with_reducible assumption | (simp only [hK_sI, hK_sJ, hK_sR, hK_tI, hK_tJ, hK_tR]; with_reducible assumption)) ?_
          rw [e1]
          refine J_iconst (v := 1) dX1_lowestOpen_34 (by decide) ?_
          refine J_iadd dX1_lowestOpen_35 ?_
          rw [nI_inc1]
          refine J_putI dX1_lowestOpen_36 p_X1_22 (by first | with_reducible assumption | (simp only [hK_sI, hK_sJ, hK_sR, hK_tI, hK_tJ, hK_tR]; with_reducible assumption)) ?_
          refine J_goto (tgt := 0) dX1_lowestOpen_39 (by decide) ?_
          exact J_loc _ rfl (h8 (by omega) (by omega) (fun j j1 j2 => by
           by_cases q : j = l
           · rw [q, ← hop]; exact bi_0.mp c26
           · exact hz j j1 (by omega)))
  have h8 := lp (nx - lw + 1) lw (Nat.le_refl _) h3 (by omega) (fun j j1 j2 => by omega)
  rw [sI_self h1] at h8
  exact J_loc _ rfl h8
set_option maxRecDepth 100000 in
set_option maxHeartbeats 4000000 in
theorem c_keep {nx k : Nat} (hE : EK h e ek) (h2 : hI h 67 e = nI nx) (hk : hK h k = 1) : Mt x 0 kX1_keep 0 0 [.ref e, .ref k] h (fun z h' => z = none ∧ h' = sI (tR h 59 ek (nx % 16) (some k)) 67 e (nI (nx + 1))) := by
  refine Mt.ofJ mkX1_keep.1 (Nat.le_of_ble_eq_true rfl) ?_
  obtain ⟨k1, k2, k3, k4, k5⟩ := hE
  refine J_aload_n dX1_keep_0 rfl rfl isR_r ?_
  refine J_getRr dX1_keep_1 g_X1_27 (by first | with_reducible assumption | (simp only [hK_sI, hK_sJ, hK_sR, hK_tI, hK_tJ, hK_tR]; with_reducible assumption)) (by first | with_reducible assumption | (simp only [hR_sI, hR_sJ, hR_tI, hR_tJ, hR_tR]; with_reducible assumption)) ?_
  refine J_aload_n dX1_keep_4 rfl rfl isR_r ?_
  refine J_getI dX1_keep_5 g_X1_19 (by first | with_reducible assumption | (simp only [hK_sI, hK_sJ, hK_sR, hK_tI, hK_tJ, hK_tR]; with_reducible assumption)) ?_
  rw [h2]
  refine J_bipush (v := 15) dX1_keep_8 (by decide) ?_
  refine J_iand dX1_keep_10 ?_
  refine J_aload_n dX1_keep_11 rfl rfl isR_r ?_
  refine J_aast dX1_keep_12 (by first | with_reducible assumption | (simp only [hK_sI, hK_sJ, hK_sR, hK_tI, hK_tJ, hK_tR]; with_reducible assumption)) ⟨by decide, by decide⟩ (show inx _ (nx % 16) (hN h ek) by rw [k4]; exact ix16 nx) (by assumption) ?_
  refine J_pc (pc' := 13) rfl ?_
  refine J_aload_n dX1_keep_13 rfl rfl isR_r ?_
  refine J_dup dX1_keep_14 rfl ?_
  refine J_getI dX1_keep_15 g_X1_19 (by first | with_reducible assumption | (simp only [hK_sI, hK_sJ, hK_sR, hK_tI, hK_tJ, hK_tR]; with_reducible assumption)) ?_
  rw [show hI (tR h 59 ek (nx % 16) (some k)) 67 e = nI nx by rw [hI_tR]; exact h2]
  refine J_iconst (v := 1) dX1_keep_18 (by decide) ?_
  refine J_iadd dX1_keep_19 ?_
  rw [nI_inc1]
  refine J_putI dX1_keep_20 p_X1_19 (by first | with_reducible assumption | (simp only [hK_sI, hK_sJ, hK_sR, hK_tI, hK_tJ, hK_tR]; with_reducible assumption)) ?_
  exact J_return dX1_keep_23 rfl ⟨rfl, rfl⟩ (Nat.le_of_ble_eq_true rfl) (Nat.le_of_ble_eq_true rfl)
/-- what a new life of an end changes -/
def FrE (h h' : Hp) (e : Nat) : Prop := hK h' = hK h ∧ hN h' = hN h ∧ hJ h' = hJ h ∧ hR h' = hR h ∧ aI h' = aI h ∧ aJ h' = aJ h ∧ aR h' = aR h ∧ ∀ g b, g ≠ 10 → ¬ (b = e ∧ (g = 66 ∨ g = 67 ∨ g = 68)) → hI h' g b = hI h g b
def inSl (h : Hp) (ek n b : Nat) : Prop := ∃ j, j < n ∧ aR h 59 ek j = some b
set_option maxRecDepth 100000 in
set_option maxHeartbeats 4000000 in
theorem c_beginLife1 (hE : EK h e ek) : Mt x 1 kX1_beginLife 0 0 [.ref e] h (fun z h' => z = none ∧ FrE h h' e ∧ hI h' 66 e = hI h 66 e + 1 ∧ hI h' 67 e = 1 ∧ hI h' 68 e = 1 ∧ (∀ b, inSl h ek 16 b → hI h 10 b = 0 → hI h' 10 b = 2) ∧ ∀ b, ¬ (inSl h ek 16 b ∧ hI h 10 b = 0) → hI h' 10 b = hI h 10 b) := by
  refine Mt.ofJ mkX1_beginLife.1 (Nat.le_of_ble_eq_true rfl) ?_
  have lp : ∀ m i h1, i ≤ 16 → 16 - i < m → hK h1 = hK h → hN h1 = hN h → hJ h1 = hJ h → hR h1 = hR h → aI h1 = aI h → aJ h1 = aJ h → aR h1 = aR h → (∀ g b, g ≠ 10 → hI h1 g b = hI h g b) → (∀ b, inSl h ek i b → hI h 10 b = 0 → hI h1 10 b = 2) → (∀ b, ¬ (inSl h ek i b ∧ hI h 10 b = 0) → hI h1 10 b = hI h 10 b) → J x (om_m x 1 0 0 (fun z h' => z = none ∧ FrE h h' e ∧ hI h' 66 e = hI h 66 e + 1 ∧ hI h' 67 e = 1 ∧ hI h' 68 e = 1 ∧ (∀ b, inSl h ek 16 b → hI h 10 b = 0 → hI h' 10 b = 2) ∧ ∀ b, ¬ (inSl h ek 16 b ∧ hI h 10 b = 0) → hI h' 10 b = hI h 10 b)) kX1_beginLife 2 [(0, .ref e), (1, .int (nI i))] [] h1 0 0 := by
    intro m
    induction m with
    | zero => intro i h1 _ h9; omega
    | succ m ih =>
      intro i h1 hi hm f1 f2 f3 f4 f5 f6 f7 f8 f9 f10
      obtain ⟨k1, k2, k3, k4, k5⟩ := hE
      rw [← f1] at k1 k3
      rw [← f4] at k2
      rw [← f2] at k4
      by_cases h16 : i = 16
      · subst h16
        refine J_iload_n dX1_beginLife_2 rfl rfl ?_
        refine J_bipush (v := 16) dX1_beginLife_3 (by decide) ?_
        refine J_st (st' := [.int (nI 16), .int (nI 16)]) rfl ?_
        refine J_icmp_ge (tgt := 37) dX1_beginLife_5 (by decide) (fun c5 => ?_) (fun c5 => ((show False from c5 (by decide))).elim)
        refine J_aload_n dX1_beginLife_37 rfl rfl isR_r ?_
        refine J_dup dX1_beginLife_38 rfl ?_
        refine J_getI dX1_beginLife_39 g_X1_15 (by first | with_reducible assumption | (simp only [hK_sI, hK_sJ, hK_sR, hK_tI, hK_tJ, hK_tR]; with_reducible assumption)) ?_
        refine J_iconst (v := 1) dX1_beginLife_42 (by decide) ?_
        refine J_iadd dX1_beginLife_43 ?_
        refine J_putI dX1_beginLife_44 p_X1_15 (by first | with_reducible assumption | (simp only [hK_sI, hK_sJ, hK_sR, hK_tI, hK_tJ, hK_tR]; with_reducible assumption)) ?_
        refine J_pc (pc' := 47) rfl ?_
        refine J_aload_n dX1_beginLife_47 rfl rfl isR_r ?_
        refine J_iconst (v := 1) dX1_beginLife_48 (by decide) ?_
        refine J_putI dX1_beginLife_49 p_X1_19 (by first | with_reducible assumption | (simp only [hK_sI, hK_sJ, hK_sR, hK_tI, hK_tJ, hK_tR]; with_reducible assumption)) ?_
        refine J_aload_n dX1_beginLife_52 rfl rfl isR_r ?_
        refine J_iconst (v := 1) dX1_beginLife_53 (by decide) ?_
        refine J_putI dX1_beginLife_54 p_X1_22 (by first | with_reducible assumption | (simp only [hK_sI, hK_sJ, hK_sR, hK_tI, hK_tJ, hK_tR]; with_reducible assumption)) ?_
        exact J_return dX1_beginLife_57 rfl (by
         refine ⟨rfl, ⟨?_, ?_, ?_, ?_, ?_, ?_, ?_, fun g b g1 g2 => ?_⟩, ?_, ?_, ?_, fun b b1 b2 => ?_, fun b b1 => ?_⟩
         · rw [hK_sI, hK_sI, hK_sI]; exact f1
         · rw [hN_sI, hN_sI, hN_sI]; exact f2
         · rw [hJ_sI, hJ_sI, hJ_sI]; exact f3
         · rw [hR_sI, hR_sI, hR_sI]; exact f4
         · rw [aI_sI, aI_sI, aI_sI]; exact f5
         · rw [aJ_sI, aJ_sI, aJ_sI]; exact f6
         · rw [aR_sI, aR_sI, aR_sI]; exact f7
         · rw [hI_sI, if_neg (fun z => g2 ⟨z.2, Or.inr (Or.inr z.1)⟩), hI_sI, if_neg (fun z => g2 ⟨z.2, Or.inr (Or.inl z.1)⟩), hI_sI, if_neg (fun z => g2 ⟨z.2, Or.inl z.1⟩)]
           exact f8 g b g1
         · rw [hI_sI, if_neg (fun z => absurd z.1 (by decide)), hI_sI, if_neg (fun z => absurd z.1 (by decide)), hI_sI, if_pos ⟨rfl, rfl⟩, f8 66 e (by decide)]
         · rw [hI_sI, if_neg (fun z => absurd z.1 (by decide)), hI_sI, if_pos ⟨rfl, rfl⟩]
         · rw [hI_sI, if_pos ⟨rfl, rfl⟩]
         · rw [hI_sI, if_neg (fun z => absurd z.1 (by decide)), hI_sI, if_neg (fun z => absurd z.1 (by decide)), hI_sI, if_neg (fun z => absurd z.1 (by decide))]
           exact f9 b b1 b2
         · rw [hI_sI, if_neg (fun z => absurd z.1 (by decide)), hI_sI, if_neg (fun z => absurd z.1 (by decide)), hI_sI, if_neg (fun z => absurd z.1 (by decide))]
           exact f10 b b1) (Nat.le_of_ble_eq_true rfl) (Nat.le_of_ble_eq_true rfl)
      · have hlt : i < 16 := by omega
        have nle : ¬ nI 16 ≤ nI i := fun z => by rw [nI_lei (by omega) (by omega)] at z; omega
        cases hs : aR h 59 ek i with
        | none =>
          have hs1 : aR h1 59 ek i = none := by rw [f7]; exact hs
          have up : ∀ b, inSl h ek (i + 1) b → inSl h ek i b := fun b ⟨j, j1, j2⟩ => ⟨j, by
            have : j ≠ i := fun z => by rw [z, hs] at j2; cases j2
            omega, j2⟩
          have dn : ∀ b, inSl h ek i b → inSl h ek (i + 1) b := fun b ⟨j, j1, j2⟩ => ⟨j, by omega, j2⟩
          refine J_iload_n dX1_beginLife_2 rfl rfl ?_
          refine J_bipush (v := 16) dX1_beginLife_3 (by decide) ?_
          refine J_st (st' := [.int (nI 16), .int (nI i)]) rfl ?_
          refine J_icmp_ge (tgt := 37) dX1_beginLife_5 (by decide) (fun c5 => ((nle c5)).elim) (fun c5 => ?_)
          refine J_aload_n dX1_beginLife_8 rfl rfl isR_r ?_
          refine J_getRr dX1_beginLife_9 g_X1_27 (by first | with_reducible assumption | (simp only [hK_sI, hK_sJ, hK_sR, hK_tI, hK_tJ, hK_tR]; with_reducible assumption)) (by first | with_reducible assumption | (simp only [hR_sI, hR_sJ, hR_tI, hR_tJ, hR_tR]; with_reducible assumption)) ?_
          refine J_iload_n dX1_beginLife_12 rfl rfl ?_
          refine J_aald dX1_beginLife_13 (by first | with_reducible assumption | (simp only [hK_sI, hK_sJ, hK_sR, hK_tI, hK_tJ, hK_tR]; with_reducible assumption)) ⟨by decide, by decide⟩ (show inx _ i (hN h1 ek) by rw [k4]; exact inx_n (by omega) (by decide)) hs1 ?_
          refine J_st (st' := [.null]) rfl ?_
          refine J_astore_n dX1_beginLife_14 rfl isR_n (by decide) ?_
          refine J_aload_n dX1_beginLife_15 rfl rfl isR_n ?_
          refine J_pc (pc' := 16) rfl ?_
          refine J_ifnull_n (tgt := 31) dX1_beginLife_16 (by decide) ?_
          refine J_iinc dX1_beginLife_31 rfl (nI_inc _) (by decide) ?_
          refine J_goto (tgt := 2) dX1_beginLife_34 (by decide) ?_
          exact J_loc _ rfl (ih (i + 1) h1 (by omega) (by omega) f1 f2 f3 f4 f5 f6 f7 f8 (fun b q => f9 b (up b q)) (fun b q => f10 b (fun z => q ⟨dn b z.1, z.2⟩)))
        | some a =>
          have hs1 : aR h1 59 ek i = some a := by rw [f7]; exact hs
          have ka : hK h1 a = 1 := by rw [f1]; exact k5 i hlt a hs
          have dn : ∀ b, inSl h ek i b → inSl h ek (i + 1) b := fun b ⟨j, j1, j2⟩ => ⟨j, by omega, j2⟩
          have self : inSl h ek (i + 1) a := ⟨i, by omega, hs⟩
          have up : ∀ b, b ≠ a → inSl h ek (i + 1) b → inSl h ek i b := fun b hb ⟨j, j1, j2⟩ => ⟨j, by
            have : j ≠ i := fun z => by rw [z, hs] at j2; exact hb (Option.some.inj j2).symm
            omega, j2⟩
          refine J_iload_n dX1_beginLife_2 rfl rfl ?_
          refine J_bipush (v := 16) dX1_beginLife_3 (by decide) ?_
          refine J_st (st' := [.int (nI 16), .int (nI i)]) rfl ?_
          refine J_icmp_ge (tgt := 37) dX1_beginLife_5 (by decide) (fun c5 => ((nle c5)).elim) (fun c5 => ?_)
          refine J_aload_n dX1_beginLife_8 rfl rfl isR_r ?_
          refine J_getRr dX1_beginLife_9 g_X1_27 (by first | with_reducible assumption | (simp only [hK_sI, hK_sJ, hK_sR, hK_tI, hK_tJ, hK_tR]; with_reducible assumption)) (by first | with_reducible assumption | (simp only [hR_sI, hR_sJ, hR_tI, hR_tJ, hR_tR]; with_reducible assumption)) ?_
          refine J_iload_n dX1_beginLife_12 rfl rfl ?_
          refine J_aaldr dX1_beginLife_13 (by first | with_reducible assumption | (simp only [hK_sI, hK_sJ, hK_sR, hK_tI, hK_tJ, hK_tR]; with_reducible assumption)) ⟨by decide, by decide⟩ (show inx _ i (hN h1 ek) by rw [k4]; exact inx_n (by omega) (by decide)) (by first | with_reducible assumption | (simp only [aR_sI, aR_sJ, aR_sR, aR_tI, aR_tJ]; with_reducible assumption)) ?_
          refine J_astore_n dX1_beginLife_14 rfl isR_r (by decide) ?_
          refine J_aload_n dX1_beginLife_15 rfl rfl isR_r ?_
          refine J_pc (pc' := 16) rfl ?_
          refine J_ifnull_r dX1_beginLife_16 ?_
          refine J_aload_n dX1_beginLife_19 rfl rfl isR_r ?_
          refine J_callS (c_isOpen_r ka) dX1_beginLife_20 ml_X1_34 mkX1_isOpen rfl rfl (Nat.le_of_ble_eq_true rfl) ⟨Nat.le_of_ble_eq_true rfl, Nat.le_of_ble_eq_true rfl⟩ ⟨Nat.le_of_ble_eq_true rfl, Nat.le_of_ble_eq_true rfl⟩ (fun v20 hp20 q20 => ?_)
          obtain ⟨rfl, z20⟩ := q20
          rw [z20]
          refine J_if_eq (tgt := 31) dX1_beginLife_23 (by decide) (fun c23 => ?_) (fun c23 => ?_)
          · refine J_iinc dX1_beginLife_31 rfl (nI_inc _) (by decide) ?_
            refine J_goto (tgt := 2) dX1_beginLife_34 (by decide) ?_
            exact J_loc _ rfl (ih (i + 1) h1 (by omega) (by omega) f1 f2 f3 f4 f5 f6 f7 f8 (fun b q q0 => by
             have c := of_decide_eq_false (bi_0.mp c23)
             by_cases e2 : b = a
             · by_cases e3 : inSl h ek i b
               · exact f9 b e3 q0
               · rw [e2] at q0 e3
                 exact absurd ((f10 a (fun z => e3 z.1)).trans q0) c
             · exact f9 b (up b e2 q) q0) (fun b q => f10 b (fun z => q ⟨dn b z.1, z.2⟩)))
          · refine J_aload_n dX1_beginLife_26 rfl rfl isR_r ?_
            refine J_iconst (v := 2) dX1_beginLife_27 (by decide) ?_
            refine J_putI dX1_beginLife_28 p_X1_38 (by first | with_reducible assumption | (simp only [hK_sI, hK_sJ, hK_sR, hK_tI, hK_tJ, hK_tR]; with_reducible assumption)) ?_
            refine J_iinc dX1_beginLife_31 rfl (nI_inc _) (by decide) ?_
            refine J_goto (tgt := 2) dX1_beginLife_34 (by decide) ?_
            exact J_loc _ rfl (ih (i + 1) (sI h1 10 a 2) (by omega) (by omega) (by rw [hK_sI]; exact f1) (by rw [hN_sI]; exact f2) (by rw [hJ_sI]; exact f3) (by rw [hR_sI]; exact f4) (by rw [aI_sI]; exact f5) (by rw [aJ_sI]; exact f6) (by rw [aR_sI]; exact f7) (fun g b g1 => by rw [hI_sI, if_neg (fun z => g1 z.1)]; exact f8 g b g1) (fun b q q0 => by
             rw [hI_sI]
             by_cases e2 : b = a
             · rw [if_pos ⟨rfl, e2⟩]
             · rw [if_neg (fun z => e2 z.2)]; exact f9 b (up b e2 q) q0) (fun b q => by
             have c := of_decide_eq_true (bi_1.mp c23)
             rw [hI_sI]
             by_cases e2 : b = a
             · rw [e2] at q
               refine absurd ⟨self, ?_⟩ q
               by_cases e3 : inSl h ek i a ∧ hI h 10 a = 0
               · exact e3.2
               · rw [← f10 a e3]; exact c
             · rw [if_neg (fun z => e2 z.2)]; exact f10 b (fun z => q ⟨dn b z.1, z.2⟩)))
  refine J_iconst (v := 0) dX1_beginLife_0 (by decide) ?_
  refine J_istore_n dX1_beginLife_1 rfl (by decide) ?_
  exact J_loc _ rfl (lp 17 0 h (by omega) (by omega) rfl rfl rfl rfl rfl rfl rfl (fun _ _ _ => rfl) (fun b ⟨j, j1, _⟩ => by omega) (fun b _ => rfl))
end CE
