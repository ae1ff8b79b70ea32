/-! what is made anew; the small constructors -/
section FR
variable {x : om_x} {h h' h1 h2 : Hp} {b : Nat}
def CE (h h' : Hp) (b : Nat) : Prop := hK h' b = hK h b ∧ hN h' b = hN h b ∧ (∀ f, hI h' f b = hI h f b ∧ hJ h' f b = hJ h f b ∧ hR h' f b = hR h f b) ∧ ∀ t j, aI h' t b j = aI h t b j ∧ aJ h' t b j = aJ h t b j ∧ aR h' t b j = aR h t b j
theorem CE_rf : CE h h b := ⟨rfl, rfl, fun _ => ⟨rfl, rfl, rfl⟩, fun _ _ => ⟨rfl, rfl, rfl⟩⟩
theorem CE_tr (a1 : CE h h1 b) (a2 : CE h1 h2 b) : CE h h2 b := ⟨a2.1.trans a1.1, a2.2.1.trans a1.2.1, fun f => ⟨(a2.2.2.1 f).1.trans (a1.2.2.1 f).1, (a2.2.2.1 f).2.1.trans (a1.2.2.1 f).2.1, (a2.2.2.1 f).2.2.trans (a1.2.2.1 f).2.2⟩, fun t j => ⟨(a2.2.2.2 t j).1.trans (a1.2.2.2 t j).1, (a2.2.2.2 t j).2.1.trans (a1.2.2.2 t j).2.1, (a2.2.2.2 t j).2.2.trans (a1.2.2.2 t j).2.2⟩⟩
theorem CE_sI {f a : Nat} {v : Int32} (hb : b ≠ a) : CE h (sI h f a v) b := ⟨by rw [hK_sI], by rw [hN_sI], fun g => ⟨by rw [hI_sI, if_neg (fun z => hb z.2)], by rw [hJ_sI], by rw [hR_sI]⟩, fun t j => ⟨by rw [aI_sI], by rw [aJ_sI], by rw [aR_sI]⟩⟩
theorem CE_sR {f a : Nat} {v : Option Nat} (hb : b ≠ a) : CE h (sR h f a v) b := ⟨by rw [hK_sR], by rw [hN_sR], fun g => ⟨by rw [hI_sR], by rw [hJ_sR], by rw [hR_sR, if_neg (fun z => hb z.2)]⟩, fun t j => ⟨by rw [aI_sR], by rw [aJ_sR], by rw [aR_sR]⟩⟩
theorem CE_tR {t a i : Nat} {v : Option Nat} (hb : b ≠ a) : CE h (tR h t a i v) b := ⟨by rw [hK_tR], by rw [hN_tR], fun g => ⟨by rw [hI_tR], by rw [hJ_tR], by rw [hR_tR]⟩, fun u j => ⟨by rw [aI_tR], by rw [aJ_tR], by rw [aR_tR, if_neg (fun z => hb z.2.1)]⟩⟩
theorem CE_nwO {a ci : Nat} (hb : b ≠ a) : CE h (nwO h a ci) b := by
  refine ⟨?_, rfl, fun g => ⟨?_, ?_, ?_⟩, fun _ _ => ⟨rfl, rfl, rfl⟩⟩
  · show up1 (hK h) a (ci + 1) b = _
    exact up1_ne _ _ hb
  · rw [hI_nwO, if_neg hb]
  · rw [hJ_nwO, if_neg hb]
  · rw [hR_nwO, if_neg hb]
theorem CE_nwA {a t n : Nat} (hb : b ≠ a) : CE h (nwA h a t n) b := by
  refine ⟨?_, ?_, fun g => ⟨rfl, rfl, rfl⟩, fun u j => ⟨?_, ?_, ?_⟩⟩
  · show up1 (hK h) a t b = _
    exact up1_ne _ _ hb
  · show up1 (hN h) a n b = _
    exact up1_ne _ _ hb
  · show (if b = a then 0 else aI h u b j) = _
    rw [if_neg hb]
  · show (if b = a then 0 else aJ h u b j) = _
    rw [if_neg hb]
  · show (if b = a then none else aR h u b j) = _
    rw [if_neg hb]
/-- all that was there stays; all but a -/
def New (h h' : Hp) : Prop := ∀ b, hK h b ≠ 0 → CE h h' b
def Old (h h' : Hp) (a : Nat) : Prop := ∀ b, hK h b ≠ 0 → b ≠ a → CE h h' b
theorem New_rf : New h h := fun _ _ => CE_rf
theorem New_k (a1 : New h h1) {b : Nat} (z : hK h b ≠ 0) : hK h1 b ≠ 0 := by rw [(a1 b z).1]; exact z
theorem New_tr (a1 : New h h1) (a2 : New h1 h2) : New h h2 := fun b z => CE_tr (a1 b z) (a2 b (New_k a1 z))
theorem Old_rf {a : Nat} : Old h h a := fun _ _ _ => CE_rf
theorem Old_tr {a : Nat} (a1 : Old h h1 a) (a2 : Old h1 h2 a) : Old h h2 a := fun b z y => CE_tr (a1 b z y) (a2 b (by rw [(a1 b z y).1]; exact z) y)
theorem Old_New {a : Nat} (a1 : New h h1) : Old h h1 a := fun b z _ => a1 b z
theorem New_Old {a : Nat} (e : hK h a = 0) (a1 : New h h1) (a2 : Old h1 h2 a) : New h h2 := fun b z => CE_tr (a1 b z) (a2 b (New_k a1 z) (fun y => by rw [y] at z; exact z e))
theorem Old_sI {a f : Nat} {v : Int32} : Old h (sI h f a v) a := fun _ _ y => CE_sI y
theorem Old_sR {a f : Nat} {v : Option Nat} : Old h (sR h f a v) a := fun _ _ y => CE_sR y
/-- a store into an array made since -/
theorem Old_tR {a q t i : Nat} {v : Option Nat} (e : hK h q = 0) (a1 : Old h h1 a) : Old h (tR h1 t q i v) a := fun b z y => CE_tr (a1 b z y) (CE_tR (fun u => by rw [u] at z; exact z e))
section RO
variable {r : om_r} {k : om_k} {pc : Nat} {L : List (Nat × Value)} {st : List Value} {c sl : Nat}
theorem J_new2 {idx ci N : Nat} {C : String} {T : u_T} {ty : Nat → FieldType} (hd : decode k.2.1 pc = .ok (.new idx, 3)) (hcl : Cond.classLink k.1.cls idx C ∈ om_tb) (hins : Cond.instantiable C N ∈ om_tb) (hini : Cond.initialized C ∈ om_tb) (hc : vwCl[ci]? = some (C, T, N)) (hci : ci < 15) (hin : ∀ w ∈ u_ws C T N, w ∈ om_tb) (hty : ∀ k, k < N → parseFieldDescriptor (T k).2.2.1 = some (ty k)) (hz : ∀ f, f < N → defaultValue (ty f) = if fT ci f = 1 then .long 0 else if fT ci f = 2 then .null else .int 0) (h1 : c + 1 ≤ r.1.cells) (h2 : sl + N ≤ r.1.slots)
    (kk : ∀ a hh, hK h a = 0 → New h hh → hK hh a = ci + 1 → (∀ f, hI hh f a = 0 ∧ hJ hh f a = 0 ∧ hR hh f a = none) → J x r k (pc + 3) L (.ref a :: st) hh (c + 1) (sl + N)) : J x r k pc L st h c sl := by
  refine J_new hd hcl hins hini hc hci hin hty hz h1 h2 (fun a e => kk a _ e (fun b z => CE_nwO (fun y => by rw [y] at z; exact z e)) ?_ (fun f => ?_))
  · show up1 (hK h) a (ci + 1) a = _
    exact up1_self _ _ _
  · rw [hI_nwO, hJ_nwO, hR_nwO, if_pos rfl, if_pos rfl, if_pos rfl]
    exact ⟨rfl, rfl, rfl⟩
theorem nwA_at {a t n : Nat} : hK (nwA h a t n) a = t ∧ hN (nwA h a t n) a = n ∧ ∀ u j, aI (nwA h a t n) u a j = 0 ∧ aJ (nwA h a t n) u a j = 0 ∧ aR (nwA h a t n) u a j = none := by
  refine ⟨?_, ?_, fun u j => ⟨?_, ?_, ?_⟩⟩
  · show up1 (hK h) a t a = _
    exact up1_self _ _ _
  · show up1 (hN h) a n a = _
    exact up1_self _ _ _
  · show (if a = a then 0 else aI h u a j) = _
    rw [if_pos rfl]
  · show (if a = a then 0 else aJ h u a j) = _
    rw [if_pos rfl]
  · show (if a = a then none else aR h u a j) = _
    rw [if_pos rfl]
theorem J_newa2 (t : Nat) {n : Int32} {N : Nat} {atype : ArrayType} (hd : decode k.2.1 pc = .ok (.newarray atype, 2)) (hw : Cond.arrayClass (newarray.typeOf atype) ∈ om_tb) (ht : 16 ≤ t ∧ newarray.typeOf atype = aT (kOf t) ∧ kOf t < 3) (hn : n.toNatClampNeg = N ∧ ¬ n < 0) (hb : N ≤ 1000) (h1 : c + 1 ≤ r.1.cells) (h2 : sl + N ≤ r.1.slots)
    (kk : ∀ a hh, hK h a = 0 → New h hh → hK hh a = t → hN hh a = N → (∀ u j, aI hh u a j = 0 ∧ aJ hh u a j = 0 ∧ aR hh u a j = none) → J x r k (pc + 2) L (.ref a :: st) hh (c + 1) (sl + N)) : J x r k pc L (.int n :: st) h c sl :=
  J_newa t hd hw ht hn hb h1 h2 (fun a e => kk a _ e (fun b z => CE_nwA (fun y => by rw [y] at z; exact z e)) nwA_at.1 nwA_at.2.1 nwA_at.2.2)
theorem J_anew2 (t : Nat) {n : Int32} {N idx : Nat} {C : String} (hd : decode k.2.1 pc = .ok (.anewarray idx, 3)) (hcl : Cond.classLink k.1.cls idx C ∈ om_tb) (ht : 16 ≤ t ∧ aT (kOf t) = .object C ∧ 3 ≤ kOf t) (hn : n.toNatClampNeg = N ∧ ¬ n < 0) (hb : N ≤ 1000) (h1 : c + 1 ≤ r.1.cells) (h2 : sl + N ≤ r.1.slots)
    (kk : ∀ a hh, hK h a = 0 → New h hh → hK hh a = t → hN hh a = N → (∀ u j, aI hh u a j = 0 ∧ aJ hh u a j = 0 ∧ aR hh u a j = none) → J x r k (pc + 3) L (.ref a :: st) hh (c + 1) (sl + N)) : J x r k pc L (.int n :: st) h c sl :=
  J_anew t hd hcl ht hn hb h1 h2 (fun a e => kk a _ e (fun b z => CE_nwA (fun y => by rw [y] at z; exact z e)) nwA_at.1 nwA_at.2.1 nwA_at.2.2)
end RO
def EndG (h : Hp) (e q n : Nat) : Prop := (hK h e = 2 ∧ hI h 64 e = nI n ∧ hI h 65 e = 1 ∧ hI h 66 e = 1 ∧ hI h 67 e = 1 ∧ hI h 68 e = 1 ∧ hR h 69 e = some q) ∧ hK h q = 59 ∧ hN h q = 16 ∧ ∀ j, aR h 59 q j = none
theorem EndG_ce {e q n : Nat} (h1 : CE h h' e) (h2 : CE h h' q) (g : EndG h e q n) : EndG h' e q n := by
  unfold EndG at g ⊢
  rw [h1.1, (h1.2.2.1 64).1, (h1.2.2.1 65).1, (h1.2.2.1 66).1, (h1.2.2.1 67).1, (h1.2.2.1 68).1, (h1.2.2.1 69).2.2, h2.1, h2.2.1]
  exact ⟨g.1, g.2.1, g.2.2.1, fun j => by rw [(h2.2.2.2 59 j).2.2]; exact g.2.2.2 j⟩
def MemG (h : Hp) (m st an : Nat) (wn : Int32) : Prop := (hK h m = 4 ∧ hI h 192 m = wn ∧ hI h 193 m = 0 ∧ hI h 194 m = 1 ∧ hI h 195 m = 0 ∧ hR h 196 m = some st ∧ hR h 197 m = some an) ∧ (hK h st = 80 ∧ hN h st = 16 ∧ ∀ j, aI h 80 st j = 0) ∧ hK h an = 89 ∧ hN h an = 16
theorem MemG_ce {m st an : Nat} {wn : Int32} (h1 : CE h h' m) (h2 : CE h h' st) (h3 : CE h h' an) (g : MemG h m st an wn) : MemG h' m st an wn := by
  unfold MemG at g ⊢
  rw [h1.1, (h1.2.2.1 192).1, (h1.2.2.1 193).1, (h1.2.2.1 194).1, (h1.2.2.1 195).1, (h1.2.2.1 196).2.2, (h1.2.2.1 197).2.2, h2.1, h2.2.1, h3.1, h3.2.1]
  exact ⟨g.1, ⟨g.2.1.1, g.2.1.2.1, fun j => by rw [(h2.2.2.2 80 j).1]; exact g.2.1.2.2 j⟩, g.2.2⟩
set_option maxRecDepth 100000 in
set_option maxHeartbeats 4000000 in
theorem c_init1 {a n : Nat} (hk : hK h a = 2) : Mt x 1 kX1_init 1 16 [.ref a, .int (nI n)] h (fun z h' => z = none ∧ Old h h' a ∧ ∃ q, hK h q = 0 ∧ EndG h' a q n) := by
  refine Mt.ofJ mkX1_init.1 (Nat.le_of_ble_eq_true rfl) ?_
  refine J_aload_n dX1_init_0 rfl rfl isR_r ?_
  refine J_obj dX1_init_1 ml_X1_3 (Nat.le_of_ble_eq_true rfl) (Nat.le_of_ble_eq_true rfl) ?_
  refine J_aload_n dX1_init_4 rfl rfl isR_r ?_
  refine J_iconst (v := 1) dX1_init_5 (by decide) ?_
  refine J_putZ (hin := fun _ => rfl) dX1_init_6 p_X1_9 (by first | with_reducible assumption | (simp only [hK_sI, hK_sJ, hK_sR, hK_tI, hK_tJ, hK_tR]; with_reducible assumption)) (by first | exact Or.inl rfl | exact Or.inr rfl) ?_
  refine J_aload_n dX1_init_9 rfl rfl isR_r ?_
  refine J_iconst (v := 1) dX1_init_10 (by decide) ?_
  refine J_putI (hin := fun _ => rfl) dX1_init_11 p_X1_15 (by first | with_reducible assumption | (simp only [hK_sI, hK_sJ, hK_sR, hK_tI, hK_tJ, hK_tR]; with_reducible assumption)) ?_
  refine J_pc (pc' := 14) rfl ?_
  refine J_aload_n dX1_init_14 rfl rfl isR_r ?_
  refine J_iconst (v := 1) dX1_init_15 (by decide) ?_
  refine J_putI (hin := fun _ => rfl) dX1_init_16 p_X1_19 (by first | with_reducible assumption | (simp only [hK_sI, hK_sJ, hK_sR, hK_tI, hK_tJ, hK_tR]; with_reducible assumption)) ?_
  refine J_aload_n dX1_init_19 rfl rfl isR_r ?_
  refine J_iconst (v := 1) dX1_init_20 (by decide) ?_
  refine J_putI (hin := fun _ => rfl) dX1_init_21 p_X1_22 (by first | with_reducible assumption | (simp only [hK_sI, hK_sJ, hK_sR, hK_tI, hK_tJ, hK_tR]; with_reducible assumption)) ?_
  refine J_aload_n dX1_init_24 rfl rfl isR_r ?_
  refine J_bipush (v := 16) dX1_init_25 (by decide) ?_
  refine J_pc (pc' := 27) rfl ?_
  refine J_anew2 59 dX1_init_27 cl_X1_25 ⟨by decide, rfl, by decide⟩ ⟨rfl, by decide⟩ (by decide) (Nat.le_of_ble_eq_true rfl) (Nat.le_of_ble_eq_true rfl) (fun a27 g27 e27 n27 k27 l27 z27 => ?_)
  have k30 : hK g27 a = 2 := by rw [(n27 a (by rw [hK_sI, hK_sI, hK_sI, hK_sI, hk]; decide)).1, hK_sI, hK_sI, hK_sI, hK_sI]; exact hk
  refine J_putRr (hin := fun _ => rfl) dX1_init_30 p_X1_27 (Or.inr ⟨_, rfl⟩) (by first | with_reducible assumption | (simp only [hK_sI, hK_sJ, hK_sR, hK_tI, hK_tJ, hK_tR]; with_reducible assumption)) ?_
  refine J_aload_n dX1_init_33 rfl rfl isR_r ?_
  refine J_iload_n dX1_init_34 rfl rfl ?_
  refine J_putI (hin := fun _ => rfl) dX1_init_35 p_X1_31 (by first | with_reducible assumption | (simp only [hK_sI, hK_sJ, hK_sR, hK_tI, hK_tJ, hK_tR]; with_reducible assumption)) ?_
  refine J_return dX1_init_38 rfl ⟨rfl, ?_, a27, ?_, ?_⟩ (Nat.le_of_ble_eq_true rfl) (Nat.le_of_ble_eq_true rfl)
  · exact Old_tr (Old_tr (Old_sI (v := 1)) (Old_tr (Old_sI (v := 1)) (Old_tr (Old_sI (v := 1)) (Old_sI (v := 1))))) (Old_tr (Old_New n27) (Old_tr Old_sR Old_sI))
  · rw [hK_sI, hK_sI, hK_sI, hK_sI] at e27
    exact e27
  · have hne : a27 ≠ a := fun z => by rw [z, hK_sI, hK_sI, hK_sI, hK_sI, hk] at e27; exact absurd e27 (by decide)
    have c := n27 a (by rw [hK_sI, hK_sI, hK_sI, hK_sI, hk]; decide)
    unfold EndG
    simp only [hK_sI, hK_sR, hN_sI, hN_sR, hI_sI, hI_sR, hR_sI, hR_sR, aR_sI, aR_sR]
    refine ⟨⟨k30, by simp, ?_, ?_, ?_, ?_, by simp⟩, k27, l27, fun j => (z27 59 j).2.2⟩
    · rw [if_neg (by decide), (c.2.2.1 65).1]
      simp [hI_sI]
    · rw [if_neg (by decide), (c.2.2.1 66).1]
      simp [hI_sI]
    · rw [if_neg (by decide), (c.2.2.1 67).1]
      simp [hI_sI]
    · rw [if_neg (by decide), (c.2.2.1 68).1]
      simp [hI_sI]
set_option maxRecDepth 100000 in
set_option maxHeartbeats 4000000 in
theorem c_init2 {a : Nat} : Mt x 1 kX2_init 0 0 [.ref a] h (fun z h' => z = none ∧ h' = h) := by
  refine Mt.ofJ mkX2_init.1 (Nat.le_of_ble_eq_true rfl) ?_
  refine J_aload_n dX2_init_0 rfl rfl isR_r ?_
  refine J_obj dX2_init_1 ml_X2_1 (Nat.le_of_ble_eq_true rfl) (Nat.le_of_ble_eq_true rfl) ?_
  exact J_return dX2_init_4 rfl ⟨rfl, rfl⟩ (Nat.le_of_ble_eq_true rfl) (Nat.le_of_ble_eq_true rfl)
set_option maxRecDepth 100000 in
set_option maxHeartbeats 4000000 in
theorem c_init3 {a : Nat} {v : Int32} (hk : hK h a = 4) (hz : ∀ f, hI h f a = 0 ∧ hJ h f a = 0 ∧ hR h f a = none) : Mt x 1 kX3_init 2 32 [.ref a, .int v] h (fun z h' => z = none ∧ Old h h' a ∧ ∃ st an, hK h st = 0 ∧ hK h an = 0 ∧ MemG h' a st an v) := by
  refine Mt.ofJ mkX3_init.1 (Nat.le_of_ble_eq_true rfl) ?_
  refine J_aload_n dX3_init_0 rfl rfl isR_r ?_
  refine J_obj dX3_init_1 ml_X3_3 (Nat.le_of_ble_eq_true rfl) (Nat.le_of_ble_eq_true rfl) ?_
  refine J_aload_n dX3_init_4 rfl rfl isR_r ?_
  refine J_iconst (v := 1) dX3_init_5 (by decide) ?_
  refine J_putI (hin := fun _ => rfl) dX3_init_6 p_X3_9 (by first | with_reducible assumption | (simp only [hK_sI, hK_sJ, hK_sR, hK_tI, hK_tJ, hK_tR]; with_reducible assumption)) ?_
  refine J_aload_n dX3_init_9 rfl rfl isR_r ?_
  refine J_bipush (v := 16) dX3_init_10 (by decide) ?_
  refine J_newa2 80 dX3_init_12 arc_int ⟨by decide, rfl, by decide⟩ ⟨rfl, by decide⟩ (by decide) (Nat.le_of_ble_eq_true rfl) (Nat.le_of_ble_eq_true rfl) (fun a12 g12 e12 n12 k12 l12 z12 => ?_)
  refine J_pc (pc' := 14) rfl ?_
  have c14 := n12 a (by rw [hK_sI, hk]; decide)
  have k14 : hK g12 a = 4 := by rw [c14.1, hK_sI]; exact hk
  refine J_putRr (hin := fun _ => rfl) dX3_init_14 p_X3_15 (Or.inr ⟨_, rfl⟩) (by first | with_reducible assumption | (simp only [hK_sI, hK_sJ, hK_sR, hK_tI, hK_tJ, hK_tR]; with_reducible assumption)) ?_
  refine J_aload_n dX3_init_17 rfl rfl isR_r ?_
  refine J_bipush (v := 16) dX3_init_18 (by decide) ?_
  refine J_newa2 89 dX3_init_20 arc_long ⟨by decide, rfl, by decide⟩ ⟨rfl, by decide⟩ (by decide) (Nat.le_of_ble_eq_true rfl) (Nat.le_of_ble_eq_true rfl) (fun a20 g20 e20 n20 k20 l20 z20 => ?_)
  have c22 := n20 a (by rw [hK_sR, k14]; decide)
  have k22 : hK g20 a = 4 := by rw [c22.1, hK_sR]; exact k14
  have d22 := n20 a12 (by rw [hK_sR, k12]; decide)
  refine J_putRr (hin := fun _ => rfl) dX3_init_22 p_X3_19 (Or.inr ⟨_, rfl⟩) (by first | with_reducible assumption | (simp only [hK_sI, hK_sJ, hK_sR, hK_tI, hK_tJ, hK_tR]; with_reducible assumption)) ?_
  refine J_aload_n dX3_init_25 rfl rfl isR_r ?_
  refine J_iload_n dX3_init_26 rfl rfl ?_
  refine J_putI (hin := fun _ => rfl) dX3_init_27 p_X3_23 (by first | with_reducible assumption | (simp only [hK_sI, hK_sJ, hK_sR, hK_tI, hK_tJ, hK_tR]; with_reducible assumption)) ?_
  refine J_return dX3_init_30 rfl ⟨rfl, ?_, a12, a20, ?_, ?_, ?_⟩ (Nat.le_of_ble_eq_true rfl) (Nat.le_of_ble_eq_true rfl)
  · exact Old_tr (Old_tr Old_sI (Old_tr (Old_New n12) Old_sR)) (Old_tr (Old_New n20) (Old_tr Old_sR Old_sI))
  · rw [hK_sI] at e12; exact e12
  · rw [hK_sR] at e20
    refine Decidable.byContradiction fun z => ?_
    exact New_k n12 (by rw [hK_sI]; exact z) e20
  · unfold MemG
    simp only [hK_sI, hK_sR, hN_sI, hN_sR, hI_sI, hI_sR, hR_sI, hR_sR, aI_sI, aI_sR]
    refine ⟨⟨k22, by simp, ?_, ?_, ?_, ?_, by simp⟩, ⟨?_, ?_, fun j => ?_⟩, k20, l20⟩
    · rw [if_neg (by decide), (c22.2.2.1 193).1, hI_sR, (c14.2.2.1 193).1, hI_sI, if_neg (fun z => absurd z.1 (by decide))]
      exact (hz 193).1
    · rw [if_neg (by decide), (c22.2.2.1 194).1, hI_sR, (c14.2.2.1 194).1, hI_sI, if_pos ⟨rfl, rfl⟩]
    · rw [if_neg (by decide), (c22.2.2.1 195).1, hI_sR, (c14.2.2.1 195).1, hI_sI, if_neg (fun z => absurd z.1 (by decide))]
      exact (hz 195).1
    · rw [if_neg (by decide), (c22.2.2.1 196).2.2, hR_sR, if_pos ⟨rfl, rfl⟩]
    · rw [d22.1, hK_sR]; exact k12
    · rw [d22.2.1, hN_sR]; exact l12
    · rw [(d22.2.2.2 80 j).1, aI_sR]; exact (z12 80 j).1
end FR
