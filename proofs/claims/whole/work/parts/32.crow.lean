/-! the row of letters -/
def RW (w : om_w) (h : Hp) (f : Nat) (lt : Nat → Nat) (L : Nat) : Prop := hK h (w 4 0) = 5 ∧ hR h 260 (w 4 0) = some (w 5 0) ∧ hK h (w 5 0) = 53 ∧ hN h (w 5 0) = 128 ∧ hI h 259 (w 4 0) = nI f ∧ f < 128 ∧ hI h 256 (w 4 0) = nI L ∧ L ≤ 120 ∧ ∀ s, s < 128 → aR h 53 (w 5 0) s = some (lt s)
section CR
variable {x : om_x} {w : om_w} {h : Hp} {f L : Nat} {lt : Nat → Nat}
set_option maxRecDepth 100000 in
set_option maxHeartbeats 4000000 in
theorem c_slot {j : Nat} (hk : hK h (w 4 0) = 5) (hf : hI h 259 (w 4 0) = nI f) : Mt x 0 kX4_slot 0 0 [.ref (w 4 0), .int (nI j)] h (fun z h' => z = some (.int (nI ((f + j) % 128))) ∧ h' = h) := by
  refine Mt.ofJ mkX4_slot.1 (Nat.le_of_ble_eq_true rfl) ?_
  refine J_aload_n dX4_slot_0 rfl rfl isR_r ?_
  refine J_getI dX4_slot_1 g_X4_37 (by first | with_reducible assumption | (simp only [hK_sI, hK_sJ, hK_sR, hK_tI, hK_tJ, hK_tR]; with_reducible assumption)) ?_
  refine J_iload_n dX4_slot_4 rfl rfl ?_
  refine J_iadd dX4_slot_5 ?_
  refine J_bipush (v := 127) dX4_slot_6 (by decide) ?_
  refine J_iand dX4_slot_8 ?_
  exact J_ireturn dX4_slot_9 rfl ⟨by rw [hf, zI_add]; exact congrArg (fun v => some (Value.int v)) (nI_m127 _), rfl⟩ (Nat.le_of_ble_eq_true rfl) (Nat.le_of_ble_eq_true rfl)
set_option maxRecDepth 100000 in
set_option maxHeartbeats 4000000 in
theorem c_isFull (hk : hK h (w 4 0) = 5) : Mt x 0 kX4_isFull 0 0 [.ref (w 4 0)] h (fun z h' => z = some (.int (bi (decide (120 ≤ hI h 256 (w 4 0))))) ∧ h' = h) := by
  refine Mt.ofJ mkX4_isFull.1 (Nat.le_of_ble_eq_true rfl) ?_
  refine J_aload_n dX4_isFull_0 rfl rfl isR_r ?_
  refine J_getI dX4_isFull_1 g_X4_18 (by first | with_reducible assumption | (simp only [hK_sI, hK_sJ, hK_sR, hK_tI, hK_tJ, hK_tR]; with_reducible assumption)) ?_
  refine J_bipush (v := 120) dX4_isFull_4 (by decide) ?_
  refine J_icmp_lt (tgt := 13) dX4_isFull_6 (by decide) (fun c6 => ?_) (fun c6 => ?_)
  · refine J_iconst (v := 0) dX4_isFull_13 (by decide) ?_
    exact J_zreturn dX4_isFull_14 rfl (by first | exact Or.inl rfl | exact Or.inr rfl | exact bi_01) ⟨by rw [decide_eq_false (fun z => by rw [n_lt] at c6; rw [n_le] at z; omega)]; rfl, rfl⟩ (Nat.le_of_ble_eq_true rfl) (Nat.le_of_ble_eq_true rfl)
  · refine J_iconst (v := 1) dX4_isFull_9 (by decide) ?_
    refine J_goto (tgt := 14) dX4_isFull_10 (by decide) ?_
    exact J_zreturn dX4_isFull_14 rfl (by first | exact Or.inl rfl | exact Or.inr rfl | exact bi_01) ⟨by rw [decide_eq_true (by rw [n_lt] at c6; rw [n_le]; omega)]; rfl, rfl⟩ (Nat.le_of_ble_eq_true rfl) (Nat.le_of_ble_eq_true rfl)
set_option maxRecDepth 100000 in
set_option maxHeartbeats 4000000 in
theorem c_at {v : Int32} (hW : RW w h f lt L) : Mt x 1 kX4_at 0 0 [.ref (w 4 0), .int v] h (fun z h' => z = some (va_rf (if inN v L then some (lt ((f + tn v) % 128)) else none)) ∧ h' = h) := by
  refine Mt.ofJ mkX4_at.1 (Nat.le_of_ble_eq_true rfl) ?_
  obtain ⟨r1, r2, r3, r4, r5, r6, r7, r8, r9⟩ := hW
  refine J_iload_n dX4_at_0 rfl rfl ?_
  refine J_if_lt (tgt := 25) dX4_at_1 (by decide) (fun c1 => ?_) (fun c1 => ?_)
  · refine J_null dX4_at_25 ?_
    exact J_areturn dX4_at_26 rfl (Or.inl ⟨_, rfl⟩) isR_n ⟨by rw [inN_neg c1]; rfl, rfl⟩ (Nat.le_of_ble_eq_true rfl) (Nat.le_of_ble_eq_true rfl)
  · refine J_iload_n dX4_at_4 rfl rfl ?_
    refine J_aload_n dX4_at_5 rfl rfl isR_r ?_
    refine J_getI dX4_at_6 g_X4_18 (by first | with_reducible assumption | (simp only [hK_sI, hK_sJ, hK_sR, hK_tI, hK_tJ, hK_tR]; with_reducible assumption)) ?_
    rw [r7]
    refine J_icmp_ge (tgt := 25) dX4_at_9 (by decide) (fun c9 => ?_) (fun c9 => ?_)
    · refine J_null dX4_at_25 ?_
      exact J_areturn dX4_at_26 rfl (Or.inl ⟨_, rfl⟩) isR_n ⟨by rw [inN_big (by omega) c9]; rfl, rfl⟩ (Nat.le_of_ble_eq_true rfl) (Nat.le_of_ble_eq_true rfl)
    · have hi := inN_mid (by omega) c1 c9
      have ht := inN_tn hi
      have hs : (f + tn v) % 128 < 128 := Nat.mod_lt _ (by decide)
      have r10 := r9 _ hs
      refine J_aload_n dX4_at_12 rfl rfl isR_r ?_
      refine J_getRr dX4_at_13 g_X4_11 (by first | with_reducible assumption | (simp only [hK_sI, hK_sJ, hK_sR, hK_tI, hK_tJ, hK_tR]; with_reducible assumption)) (by first | with_reducible assumption | (simp only [hR_sI, hR_sJ, hR_tI, hR_tJ, hR_tR]; with_reducible assumption)) ?_
      refine J_aload_n dX4_at_16 rfl rfl isR_r ?_
      refine J_iload_n dX4_at_17 rfl rfl ?_
      refine J_st (st' := [.int (nI (tn v)), .ref (w 4 0), .ref (w 5 0)]) (by rw [← ht.1] <;> rfl) ?_
      refine J_callV (c_slot r1 r5) dX4_at_18 ml_X4_22 mkX4_slot rfl (by first | with_reducible assumption | (simp only [hK_sI, hK_sJ, hK_sR, hK_tI, hK_tJ, hK_tR]; with_reducible assumption)) (by decide) rfl rfl (Nat.le_of_ble_eq_true rfl) ⟨Nat.le_of_ble_eq_true rfl, Nat.le_of_ble_eq_true rfl⟩ ⟨Nat.le_of_ble_eq_true rfl, Nat.le_of_ble_eq_true rfl⟩ (fun v18 hp18 q18 => ?_)
      obtain ⟨rfl, z18⟩ := q18
      rw [z18]
      refine J_aaldr dX4_at_21 (by first | with_reducible assumption | (simp only [hK_sI, hK_sJ, hK_sR, hK_tI, hK_tJ, hK_tR]; with_reducible assumption)) ⟨by decide, by decide⟩ (show inx _ ((f + tn v) % 128) (hN h (w 5 0)) by rw [r4]; exact inx_n hs (by decide)) (by first | with_reducible assumption | (simp only [aR_sI, aR_sJ, aR_sR, aR_tI, aR_tJ]; with_reducible assumption)) ?_
      refine J_goto (tgt := 26) dX4_at_22 (by decide) ?_
      exact J_areturn dX4_at_26 rfl (Or.inl ⟨_, rfl⟩) isR_r ⟨by rw [hi]; rfl, rfl⟩ (Nat.le_of_ble_eq_true rfl) (Nat.le_of_ble_eq_true rfl)
set_option maxRecDepth 100000 in
set_option maxHeartbeats 4000000 in
theorem c_fresh (hW : RW w h f lt L) : Mt x 1 kX4_fresh 0 0 [.ref (w 4 0)] h (fun z h' => if L = 120 then z = some .null ∧ h' = sI h 258 (w 4 0) (hI h 258 (w 4 0) + 1) else z = some (.ref (lt ((f + L) % 128))) ∧ h' = sI h 256 (w 4 0) (nI (L + 1))) := by
  refine Mt.ofJ mkX4_fresh.1 (Nat.le_of_ble_eq_true rfl) ?_
  obtain ⟨r1, r2, r3, r4, r5, r6, r7, r8, r9⟩ := hW
  have hs : (f + L) % 128 < 128 := Nat.mod_lt _ (by decide)
  have r10 := r9 _ hs
  have hd : (120 : Int32) ≤ hI h 256 (w 4 0) ↔ L = 120 := by
    rw [r7, show (120 : Int32) = nI 120 from rfl, nI_lei (by decide) (by omega)]
    omega
  by_cases hL : L = 120
  · simp only [if_pos hL]
    refine J_aload_n dX4_fresh_0 rfl rfl isR_r ?_
    refine J_callV (c_isFull r1) dX4_fresh_1 ml_X4_26 mkX4_isFull rfl (by first | with_reducible assumption | (simp only [hK_sI, hK_sJ, hK_sR, hK_tI, hK_tJ, hK_tR]; with_reducible assumption)) (by decide) rfl rfl (Nat.le_of_ble_eq_true rfl) ⟨Nat.le_of_ble_eq_true rfl, Nat.le_of_ble_eq_true rfl⟩ ⟨Nat.le_of_ble_eq_true rfl, Nat.le_of_ble_eq_true rfl⟩ (fun v1 hp1 q1 => ?_)
    obtain ⟨rfl, z1⟩ := q1
    rw [z1]
    refine J_if_eq (tgt := 19) dX4_fresh_4 (by decide) (fun c4 => ((show False by rw [decide_eq_true (hd.mpr hL)] at c4; exact absurd c4 (by decide))).elim) (fun c4 => ?_)
    refine J_aload_n dX4_fresh_7 rfl rfl isR_r ?_
    refine J_dup dX4_fresh_8 rfl ?_
    refine J_getI dX4_fresh_9 g_X4_30 (by first | with_reducible assumption | (simp only [hK_sI, hK_sJ, hK_sR, hK_tI, hK_tJ, hK_tR]; with_reducible assumption)) ?_
    refine J_iconst (v := 1) dX4_fresh_12 (by decide) ?_
    refine J_iadd dX4_fresh_13 ?_
    refine J_putI dX4_fresh_14 p_X4_30 (by first | with_reducible assumption | (simp only [hK_sI, hK_sJ, hK_sR, hK_tI, hK_tJ, hK_tR]; with_reducible assumption)) ?_
    refine J_pc (pc' := 17) rfl ?_
    refine J_null dX4_fresh_17 ?_
    exact J_areturn dX4_fresh_18 rfl (Or.inl ⟨_, rfl⟩) isR_n ⟨rfl, rfl⟩ (Nat.le_of_ble_eq_true rfl) (Nat.le_of_ble_eq_true rfl)
  · simp only [if_neg hL]
    refine J_aload_n dX4_fresh_0 rfl rfl isR_r ?_
    refine J_callV (c_isFull r1) dX4_fresh_1 ml_X4_26 mkX4_isFull rfl (by first | with_reducible assumption | (simp only [hK_sI, hK_sJ, hK_sR, hK_tI, hK_tJ, hK_tR]; with_reducible assumption)) (by decide) rfl rfl (Nat.le_of_ble_eq_true rfl) ⟨Nat.le_of_ble_eq_true rfl, Nat.le_of_ble_eq_true rfl⟩ ⟨Nat.le_of_ble_eq_true rfl, Nat.le_of_ble_eq_true rfl⟩ (fun v1 hp1 q1 => ?_)
    obtain ⟨rfl, z1⟩ := q1
    rw [z1]
    refine J_if_eq (tgt := 19) dX4_fresh_4 (by decide) (fun c4 => ?_) (fun c4 => ((show False by rw [decide_eq_false (fun z => hL (hd.mp z))] at c4; exact absurd c4 (by decide))).elim)
    refine J_aload_n dX4_fresh_19 rfl rfl isR_r ?_
    refine J_dup dX4_fresh_20 rfl ?_
    refine J_getI dX4_fresh_21 g_X4_18 (by first | with_reducible assumption | (simp only [hK_sI, hK_sJ, hK_sR, hK_tI, hK_tJ, hK_tR]; with_reducible assumption)) ?_
    refine J_iconst (v := 1) dX4_fresh_24 (by decide) ?_
    refine J_iadd dX4_fresh_25 ?_
    rw [r7, nI_inc1]
    refine J_putI dX4_fresh_26 p_X4_18 (by first | with_reducible assumption | (simp only [hK_sI, hK_sJ, hK_sR, hK_tI, hK_tJ, hK_tR]; with_reducible assumption)) ?_
    refine J_pc (pc' := 29) rfl ?_
    refine J_aload_n dX4_fresh_29 rfl rfl isR_r ?_
    refine J_getRr dX4_fresh_30 g_X4_11 (by first | with_reducible assumption | (simp only [hK_sI, hK_sJ, hK_sR, hK_tI, hK_tJ, hK_tR]; with_reducible assumption)) (by first | with_reducible assumption | (simp only [hR_sI, hR_sJ, hR_tI, hR_tJ, hR_tR]; with_reducible assumption)) ?_
    refine J_aload_n dX4_fresh_33 rfl rfl isR_r ?_
    have q5 : hI (sI h 256 (w 4 0) (nI (L + 1))) 259 (w 4 0) = nI f := by rw [hI_sI, if_neg (fun z => absurd z.1 (by decide))]; exact r5
    refine J_aload_n dX4_fresh_34 rfl rfl isR_r ?_
    refine J_getI dX4_fresh_35 g_X4_18 (by first | with_reducible assumption | (simp only [hK_sI, hK_sJ, hK_sR, hK_tI, hK_tJ, hK_tR]; with_reducible assumption)) ?_
    refine J_iconst (v := 1) dX4_fresh_38 (by decide) ?_
    refine J_isub dX4_fresh_39 ?_
    refine J_st (st' := [.int (nI L), .ref (w 4 0), .ref (w 5 0)]) (by rw [hI_sI, if_pos ⟨rfl, rfl⟩, nI_pred] <;> rfl) ?_
    refine J_callV (c_slot (f := f) (j := L) (by rw [hK_sI]; exact r1) q5) dX4_fresh_40 ml_X4_22 mkX4_slot rfl (by first | with_reducible assumption | (simp only [hK_sI, hK_sJ, hK_sR, hK_tI, hK_tJ, hK_tR]; with_reducible assumption)) (by decide) rfl rfl (Nat.le_of_ble_eq_true rfl) ⟨Nat.le_of_ble_eq_true rfl, Nat.le_of_ble_eq_true rfl⟩ ⟨Nat.le_of_ble_eq_true rfl, Nat.le_of_ble_eq_true rfl⟩ (fun v40 hp40 q40 => ?_)
    obtain ⟨rfl, z40⟩ := q40
    rw [z40]
    refine J_pc (pc' := 43) rfl ?_
    refine J_aaldr dX4_fresh_43 (by first | with_reducible assumption | (simp only [hK_sI, hK_sJ, hK_sR, hK_tI, hK_tJ, hK_tR]; with_reducible assumption)) ⟨by decide, by decide⟩ (show inx _ ((f + L) % 128) (hN (sI h 256 (w 4 0) (nI (L + 1))) (w 5 0)) by rw [hN_sI, r4]; exact inx_n hs (by decide)) (by first | with_reducible assumption | (simp only [aR_sI, aR_sJ, aR_sR, aR_tI, aR_tJ]; with_reducible assumption)) ?_
    exact J_areturn dX4_fresh_44 rfl (Or.inl ⟨_, rfl⟩) isR_r ⟨rfl, rfl⟩ (Nat.le_of_ble_eq_true rfl) (Nat.le_of_ble_eq_true rfl)
/-- the ring, as letter i is taken out of it: the places j + 1 .. i hold what stood one before -/
def shP (lt : Nat → Nat) (f j i s : Nat) : Nat := if j < (s + 128 - f) % 128 ∧ (s + 128 - f) % 128 ≤ i then lt ((s + 127) % 128) else lt s
def shL (lt : Nat → Nat) (f i s : Nat) : Nat := if s = f then lt ((f + i) % 128) else shP lt f 0 i s
theorem rd_slot {f j : Nat} (hf : f < 128) (hj : j < 128) : ((f + j) % 128 + 128 - f) % 128 = j := by omega
theorem rd_eq {f j s : Nat} (hf : f < 128) (hj : j < 128) (hs : s < 128) : s = (f + j) % 128 ↔ (s + 128 - f) % 128 = j := by omega
/-- what take changes: the ring, the first place, how many -/
def FrT (w : om_w) (h h' : Hp) : Prop := hK h' = hK h ∧ hN h' = hN h ∧ hJ h' = hJ h ∧ hR h' = hR h ∧ aI h' = aI h ∧ aJ h' = aJ h ∧ (∀ t b, ¬ (t = 53 ∧ b = w 5 0) → aR h' t b = aR h t b) ∧ ∀ g b, ¬ (b = w 4 0 ∧ (g = 256 ∨ g = 259)) → hI h' g b = hI h g b
theorem FrT.rf : FrT w h h := ⟨rfl, rfl, rfl, rfl, rfl, rfl, fun _ _ _ => rfl, fun _ _ _ => rfl⟩
end CR
section CR2
variable {x : om_x} {w : om_w} {h : Hp} {f L : Nat} {lt : Nat → Nat}
theorem FrT_tR {h' : Hp} {s : Nat} {v : Option Nat} (hF : FrT w h h') : FrT w h (tR h' 53 (w 5 0) s v) := by
  refine ⟨by rw [hK_tR]; exact hF.1, by rw [hN_tR]; exact hF.2.1, by rw [hJ_tR]; exact hF.2.2.1, by rw [hR_tR]; exact hF.2.2.2.1, by rw [aI_tR]; exact hF.2.2.2.2.1, by rw [aJ_tR]; exact hF.2.2.2.2.2.1, fun t b hb => ?_, by rw [hI_tR]; exact hF.2.2.2.2.2.2.2⟩
  funext j
  rw [aR_tR, if_neg (fun z => hb ⟨z.1, z.2.1⟩), hF.2.2.2.2.2.2.1 t b hb]
theorem FrT_sI {h' : Hp} {g : Nat} {v : Int32} (hg : g = 256 ∨ g = 259) (hF : FrT w h h') : FrT w h (sI h' g (w 4 0) v) := by
  refine ⟨by rw [hK_sI]; exact hF.1, by rw [hN_sI]; exact hF.2.1, by rw [hJ_sI]; exact hF.2.2.1, by rw [hR_sI]; exact hF.2.2.2.1, by rw [aI_sI]; exact hF.2.2.2.2.1, by rw [aJ_sI]; exact hF.2.2.2.2.2.1, by rw [aR_sI]; exact hF.2.2.2.2.2.2.1, fun q b hb => ?_⟩
  rw [hI_sI, if_neg (fun z => hb ⟨z.2, by rw [z.1]; exact hg⟩)]
  exact hF.2.2.2.2.2.2.2 q b hb
theorem nI_dec (k : Nat) : nI (k + 1) + Int32.ofInt (-1) = nI k := by
  have h1 : nI (k + 1) + Int32.ofInt (-1) = nI (k + 1) - 1 := by rw [Int32.sub_eq_add_neg]; rfl
  rw [h1, nI_pred]
set_option maxRecDepth 100000 in
set_option maxHeartbeats 4000000 in
theorem c_take {v : Int32} (hW : RW w h f lt L) (hLt : ∀ s, s < 128 → hK h (lt s) = 3) : Mt x 2 kX4_take 0 0 [.ref (w 4 0), .int v] h (fun z h' => if inN v L then z = some (.ref (lt ((f + tn v) % 128))) ∧ FrT w h h' ∧ hI h' 259 (w 4 0) = nI ((f + 1) % 128) ∧ hI h' 256 (w 4 0) = nI (L - 1) ∧ ∀ s, s < 128 → aR h' 53 (w 5 0) s = some (shL lt f (tn v) s) else z = some .null ∧ h' = h) := by
  refine Mt.ofJ mkX4_take.1 (Nat.le_of_ble_eq_true rfl) ?_
  have hW0 := hW
  obtain ⟨r1, r2, r3, r4, r5, r6, r7, r8, r9⟩ := hW
  cases hi : inN v L with
  | false =>
    simp only [Bool.false_eq_true, if_false]
    refine J_aload_n dX4_take_0 rfl rfl isR_r ?_
    refine J_iload_n dX4_take_1 rfl rfl ?_
    refine J_callV (c_at hW0) dX4_take_2 ml_X4_33 mkX4_at rfl (by first | with_reducible assumption | (simp only [hK_sI, hK_sJ, hK_sR, hK_tI, hK_tJ, hK_tR]; with_reducible assumption)) (by decide) rfl rfl (Nat.le_of_ble_eq_true rfl) ⟨Nat.le_of_ble_eq_true rfl, Nat.le_of_ble_eq_true rfl⟩ ⟨Nat.le_of_ble_eq_true rfl, Nat.le_of_ble_eq_true rfl⟩ (fun v2 hp2 q2 => ?_)
    obtain ⟨rfl, z2⟩ := q2
    rw [z2]
    rw [hi]
    refine J_astore_n dX4_take_5 rfl isR_n (by decide) ?_
    refine J_aload_n dX4_take_6 rfl rfl isR_n ?_
    refine J_ifnonnull_n dX4_take_7 ?_
    refine J_null dX4_take_10 ?_
    exact J_areturn dX4_take_11 rfl (Or.inl ⟨_, rfl⟩) isR_n ⟨rfl, rfl⟩ (Nat.le_of_ble_eq_true rfl) (Nat.le_of_ble_eq_true rfl)
  | true =>
    simp only [if_true]
    have ht := inN_tn hi
    have hts : (f + tn v) % 128 < 128 := Nat.mod_lt _ (by decide)
    generalize hQ : (fun z h' => z = some (Value.ref (lt ((f + tn v) % 128))) ∧ FrT w h h' ∧ hI h' 259 (w 4 0) = nI ((f + 1) % 128) ∧ hI h' 256 (w 4 0) = nI (L - 1) ∧ ∀ s, s < 128 → aR h' 53 (w 5 0) s = some (shL lt f (tn v) s)) = Q
    have tail : ∀ h1, FrT w h h1 → (∀ s, s < 128 → aR h1 53 (w 5 0) s = some (shP lt f 0 (tn v) s)) → hI h1 259 (w 4 0) = nI f → hI h1 256 (w 4 0) = nI L → J x (om_m x 2 0 0 Q) kX4_take 46 [(0, .ref (w 4 0)), (2, .ref (lt ((f + tn v) % 128)))] [] h1 0 0 := by
      intro h1 hF hr g1 g2
      have q1 : hK h1 (w 4 0) = 5 := by rw [hF.1]; exact r1
      have q2 : hR h1 260 (w 4 0) = some (w 5 0) := by rw [hF.2.2.2.1]; exact r2
      have q3 : hK h1 (w 5 0) = 53 := by rw [hF.1]; exact r3
      have q4 : hN h1 (w 5 0) = 128 := by rw [hF.2.1]; exact r4
      have q5 : hK h1 (lt ((f + tn v) % 128)) = 3 := by rw [hF.1]; exact hLt _ hts
      have q6 : (f + 0) % 128 = f := by omega
      refine J_aload_n dX4_take_46 rfl rfl isR_r ?_
      refine J_getRr dX4_take_47 g_X4_11 (by first | with_reducible assumption | (simp only [hK_sI, hK_sJ, hK_sR, hK_tI, hK_tJ, hK_tR]; with_reducible assumption)) (by first | with_reducible assumption | (simp only [hR_sI, hR_sJ, hR_tI, hR_tJ, hR_tR]; with_reducible assumption)) ?_
      refine J_aload_n dX4_take_50 rfl rfl isR_r ?_
      refine J_iconst (v := 0) dX4_take_51 (by decide) ?_
      refine J_st (st' := [.int (nI 0), .ref (w 4 0), .ref (w 5 0)]) rfl ?_
      refine J_callV (c_slot q1 g1) dX4_take_52 ml_X4_22 mkX4_slot rfl (by first | with_reducible assumption | (simp only [hK_sI, hK_sJ, hK_sR, hK_tI, hK_tJ, hK_tR]; with_reducible assumption)) (by decide) rfl rfl (Nat.le_of_ble_eq_true rfl) ⟨Nat.le_of_ble_eq_true rfl, Nat.le_of_ble_eq_true rfl⟩ ⟨Nat.le_of_ble_eq_true rfl, Nat.le_of_ble_eq_true rfl⟩ (fun v52 hp52 q52 => ?_)
      obtain ⟨rfl, z52⟩ := q52
      rw [z52]
      refine J_aload_n dX4_take_55 rfl rfl isR_r ?_
      refine J_aast dX4_take_56 (by first | with_reducible assumption | (simp only [hK_sI, hK_sJ, hK_sR, hK_tI, hK_tJ, hK_tR]; with_reducible assumption)) ⟨by decide, by decide⟩ (show inx _ ((f + 0) % 128) (hN h1 (w 5 0)) by rw [q4]; exact inx_n (Nat.mod_lt _ (by decide)) (by decide)) (by assumption) ?_
      refine J_aload_n dX4_take_57 rfl rfl isR_r ?_
      refine J_pc (pc' := 58) rfl ?_
      refine J_aload_n dX4_take_58 rfl rfl isR_r ?_
      refine J_iconst (v := 1) dX4_take_59 (by decide) ?_
      refine J_st (st' := [.int (nI 1), .ref (w 4 0), .ref (w 4 0)]) rfl ?_
      refine J_callV (c_slot (f := f) (j := 1) (by rw [hK_tR]; exact q1) (by rw [hI_tR]; exact g1)) dX4_take_60 ml_X4_22 mkX4_slot rfl (by first | with_reducible assumption | (simp only [hK_sI, hK_sJ, hK_sR, hK_tI, hK_tJ, hK_tR]; with_reducible assumption)) (by decide) rfl rfl (Nat.le_of_ble_eq_true rfl) ⟨Nat.le_of_ble_eq_true rfl, Nat.le_of_ble_eq_true rfl⟩ ⟨Nat.le_of_ble_eq_true rfl, Nat.le_of_ble_eq_true rfl⟩ (fun v60 hp60 q60 => ?_)
      obtain ⟨rfl, z60⟩ := q60
      rw [z60]
      refine J_putI dX4_take_63 p_X4_37 (by first | with_reducible assumption | (simp only [hK_sI, hK_sJ, hK_sR, hK_tI, hK_tJ, hK_tR]; with_reducible assumption)) ?_
      refine J_aload_n dX4_take_66 rfl rfl isR_r ?_
      refine J_dup dX4_take_67 rfl ?_
      refine J_getI dX4_take_68 g_X4_18 (by first | with_reducible assumption | (simp only [hK_sI, hK_sJ, hK_sR, hK_tI, hK_tJ, hK_tR]; with_reducible assumption)) ?_
      rw [show ∀ u, hI (sI (tR h1 53 (w 5 0) ((f + 0) % 128) (some (lt ((f + tn v) % 128)))) 259 (w 4 0) u) 256 (w 4 0) = nI L from fun u => by rw [hI_sI, if_neg (fun z => absurd z.1 (by decide)), hI_tR]; exact g2]
      refine J_iconst (v := 1) dX4_take_71 (by decide) ?_
      refine J_pc (pc' := 72) rfl ?_
      refine J_isub dX4_take_72 ?_
      rw [show nI L - 1 = nI (L - 1) from nI_sub (a := L) (b := 1) (by omega)]
      refine J_putI dX4_take_73 p_X4_18 (by first | with_reducible assumption | (simp only [hK_sI, hK_sJ, hK_sR, hK_tI, hK_tJ, hK_tR]; with_reducible assumption)) ?_
      refine J_aload_n dX4_take_76 rfl rfl isR_r ?_
      exact J_areturn dX4_take_77 rfl (Or.inl ⟨_, rfl⟩) isR_r (by
       rw [← hQ]
       refine ⟨rfl, FrT_sI (Or.inl rfl) (FrT_sI (Or.inr rfl) (FrT_tR hF)), ?_, ?_, fun s hs => ?_⟩
       · rw [hI_sI, if_neg (fun z => absurd z.1 (by decide)), hI_sI, if_pos ⟨rfl, rfl⟩]
       · rw [hI_sI, if_pos ⟨rfl, rfl⟩]
       · rw [aR_sI, aR_sI, aR_tR]
         by_cases e : s = f
         · rw [if_pos ⟨rfl, rfl, by rw [q6]; exact e⟩]
           unfold shL
           rw [if_pos e]
         · rw [if_neg (fun z => e (by rw [← q6]; exact z.2.2)), hr s hs]
           unfold shL
           rw [if_neg e]) (Nat.le_of_ble_eq_true rfl) (Nat.le_of_ble_eq_true rfl)
    have lp : ∀ j, j ≤ tn v → ∀ h1, FrT w h h1 → (∀ s, s < 128 → aR h1 53 (w 5 0) s = some (shP lt f j (tn v) s)) → hI h1 259 (w 4 0) = nI f → hI h1 256 (w 4 0) = nI L → J x (om_m x 2 0 0 Q) kX4_take 14 [(0, .ref (w 4 0)), (2, .ref (lt ((f + tn v) % 128))), (3, .int (nI j))] [] h1 0 0 := by
      intro j
      induction j with
      | zero =>
        intro hj h1 hF hr g1 g2
        have h9 := tail h1 hF hr g1 g2
        refine J_iload_n dX4_take_14 rfl rfl ?_
        refine J_if_le (tgt := 46) dX4_take_15 (by decide) (fun c15 => ?_) (fun c15 => ((show False from c15 (by decide))).elim)
        exact J_loc _ rfl h9
      | succ j ih =>
        intro hj h1 hF hr g1 g2
        have q1 : hK h1 (w 4 0) = 5 := by rw [hF.1]; exact r1
        have q2 : hR h1 260 (w 4 0) = some (w 5 0) := by rw [hF.2.2.2.1]; exact r2
        have q3 : hK h1 (w 5 0) = 53 := by rw [hF.1]; exact r3
        have q4 : hN h1 (w 5 0) = 128 := by rw [hF.2.1]; exact r4
        have hs1 : (f + j) % 128 < 128 := Nat.mod_lt _ (by decide)
        have hs2 : (f + (j + 1)) % 128 < 128 := Nat.mod_lt _ (by decide)
        have q5 : hK h1 (lt ((f + j) % 128)) = 3 := by rw [hF.1]; exact hLt _ hs1
        have q7 : aR h1 53 (w 5 0) ((f + j) % 128) = some (lt ((f + j) % 128)) := by
          rw [hr _ hs1]
          unfold shP
          rw [rd_slot r6 (by omega), if_neg (by omega)]
        have h9 := ih (by omega) (tR h1 53 (w 5 0) ((f + (j + 1)) % 128) (some (lt ((f + j) % 128)))) (FrT_tR hF) (fun s hs => by
          rw [aR_tR]
          by_cases e : s = (f + (j + 1)) % 128
          · rw [if_pos ⟨rfl, rfl, e⟩]
            have e2 := (rd_eq r6 (show j + 1 < 128 by omega) hs).mp e
            unfold shP
            rw [e2, if_pos (by omega)]
            congr 2
            omega
          · rw [if_neg (fun z => e z.2.2), hr s hs]
            have e2 : (s + 128 - f) % 128 ≠ j + 1 := fun z => e ((rd_eq r6 (by omega) hs).mpr z)
            unfold shP
            congr 1
            by_cases e3 : j < (s + 128 - f) % 128 ∧ (s + 128 - f) % 128 ≤ tn v
            · rw [if_pos e3, if_pos (by omega)]
            · rw [if_neg e3, if_neg (by omega)]) (by rw [hI_tR]; exact g1) (by rw [hI_tR]; exact g2)
        refine J_iload_n dX4_take_14 rfl rfl ?_
        refine J_if_le (tgt := 46) dX4_take_15 (by decide) (fun c15 => ((show False by rw [n_le, nI_int (by omega)] at c15; have : (0 : Int32).toInt = 0 := (by decide); omega)).elim) (fun c15 => ?_)
        refine J_aload_n dX4_take_18 rfl rfl isR_r ?_
        refine J_getRr dX4_take_19 g_X4_11 (by first | with_reducible assumption | (simp only [hK_sI, hK_sJ, hK_sR, hK_tI, hK_tJ, hK_tR]; with_reducible assumption)) (by first | with_reducible assumption | (simp only [hR_sI, hR_sJ, hR_tI, hR_tJ, hR_tR]; with_reducible assumption)) ?_
        refine J_aload_n dX4_take_22 rfl rfl isR_r ?_
        refine J_iload_n dX4_take_23 rfl rfl ?_
        refine J_callV (c_slot q1 g1) dX4_take_24 ml_X4_22 mkX4_slot rfl (by first | with_reducible assumption | (simp only [hK_sI, hK_sJ, hK_sR, hK_tI, hK_tJ, hK_tR]; with_reducible assumption)) (by decide) rfl rfl (Nat.le_of_ble_eq_true rfl) ⟨Nat.le_of_ble_eq_true rfl, Nat.le_of_ble_eq_true rfl⟩ ⟨Nat.le_of_ble_eq_true rfl, Nat.le_of_ble_eq_true rfl⟩ (fun v24 hp24 q24 => ?_)
        obtain ⟨rfl, z24⟩ := q24
        rw [z24]
        refine J_aload_n dX4_take_27 rfl rfl isR_r ?_
        refine J_getRr dX4_take_28 g_X4_11 (by first | with_reducible assumption | (simp only [hK_sI, hK_sJ, hK_sR, hK_tI, hK_tJ, hK_tR]; with_reducible assumption)) (by first | with_reducible assumption | (simp only [hR_sI, hR_sJ, hR_tI, hR_tJ, hR_tR]; with_reducible assumption)) ?_
        refine J_pc (pc' := 31) rfl ?_
        refine J_aload_n dX4_take_31 rfl rfl isR_r ?_
        refine J_iload_n dX4_take_32 rfl rfl ?_
        refine J_iconst (v := 1) dX4_take_33 (by decide) ?_
        refine J_isub dX4_take_34 ?_
        refine J_st (st' := [.int (nI j), .ref (w 4 0), .ref (w 5 0), .int (nI ((f + (j + 1)) % 128)), .ref (w 5 0)]) (by rw [nI_pred] <;> rfl) ?_
        refine J_callV (c_slot q1 g1) dX4_take_35 ml_X4_22 mkX4_slot rfl (by first | with_reducible assumption | (simp only [hK_sI, hK_sJ, hK_sR, hK_tI, hK_tJ, hK_tR]; with_reducible assumption)) (by decide) rfl rfl (Nat.le_of_ble_eq_true rfl) ⟨Nat.le_of_ble_eq_true rfl, Nat.le_of_ble_eq_true rfl⟩ ⟨Nat.le_of_ble_eq_true rfl, Nat.le_of_ble_eq_true rfl⟩ (fun v35 hp35 q35 => ?_)
        obtain ⟨rfl, z35⟩ := q35
        rw [z35]
        refine J_aaldr dX4_take_38 (by first | with_reducible assumption | (simp only [hK_sI, hK_sJ, hK_sR, hK_tI, hK_tJ, hK_tR]; with_reducible assumption)) ⟨by decide, by decide⟩ (show inx _ ((f + j) % 128) (hN h1 (w 5 0)) by rw [q4]; exact inx_n hs1 (by decide)) (by first | with_reducible assumption | (simp only [aR_sI, aR_sJ, aR_sR, aR_tI, aR_tJ]; with_reducible assumption)) ?_
        refine J_aast dX4_take_39 (by first | with_reducible assumption | (simp only [hK_sI, hK_sJ, hK_sR, hK_tI, hK_tJ, hK_tR]; with_reducible assumption)) ⟨by decide, by decide⟩ (show inx _ ((f + (j + 1)) % 128) (hN h1 (w 5 0)) by rw [q4]; exact inx_n hs2 (by decide)) (by assumption) ?_
        refine J_iinc dX4_take_40 rfl (nI_dec j) (by decide) ?_
        refine J_pc (pc' := 43) rfl ?_
        refine J_goto (tgt := 14) dX4_take_43 (by decide) ?_
        exact J_loc _ rfl h9
    have h9 := lp (tn v) (Nat.le_refl _) h FrT.rf (fun s hs => by
      rw [r9 s hs]
      unfold shP
      rw [if_neg (by omega)]) r5 r7
    refine J_aload_n dX4_take_0 rfl rfl isR_r ?_
    refine J_iload_n dX4_take_1 rfl rfl ?_
    refine J_callV (c_at hW0) dX4_take_2 ml_X4_33 mkX4_at rfl (by first | with_reducible assumption | (simp only [hK_sI, hK_sJ, hK_sR, hK_tI, hK_tJ, hK_tR]; with_reducible assumption)) (by decide) rfl rfl (Nat.le_of_ble_eq_true rfl) ⟨Nat.le_of_ble_eq_true rfl, Nat.le_of_ble_eq_true rfl⟩ ⟨Nat.le_of_ble_eq_true rfl, Nat.le_of_ble_eq_true rfl⟩ (fun v2 hp2 q2 => ?_)
    obtain ⟨rfl, z2⟩ := q2
    rw [z2]
    rw [hi]
    refine J_astore_n dX4_take_5 rfl isR_r (by decide) ?_
    refine J_aload_n dX4_take_6 rfl rfl isR_r ?_
    refine J_ifnonnull_r (tgt := 12) dX4_take_7 (by decide) ?_
    refine J_iload_n dX4_take_12 rfl rfl ?_
    refine J_istore_n dX4_take_13 rfl (by decide) ?_
    rw [← ht.1] at h9
    exact J_loc _ rfl h9
end CR2
