/-! The heap as typed maps: K the kind of a cell (0 none; 1 .. 8 an object of vwCl's row K - 1; 16 + 8 j + q an array of kind q, j any number: its part), N lengths, I J R fields (64 * row + place), then arrays' contents by their kind, address, index. -/
abbrev Hp : Type := (Nat → Nat) × (Nat → Nat) × (Nat → Nat → Int32) × (Nat → Nat → Int64) × (Nat → Nat → Option Nat) × (Nat → Nat → Nat → Int32) × (Nat → Nat → Nat → Int64) × (Nat → Nat → Nat → Option Nat)
def hK (h : Hp) : Nat → Nat := h.1
def hN (h : Hp) : Nat → Nat := h.2.1
def hI (h : Hp) : Nat → Nat → Int32 := h.2.2.1
def hJ (h : Hp) : Nat → Nat → Int64 := h.2.2.2.1
def hR (h : Hp) : Nat → Nat → Option Nat := h.2.2.2.2.1
def aI (h : Hp) : Nat → Nat → Nat → Int32 := h.2.2.2.2.2.1
def aJ (h : Hp) : Nat → Nat → Nat → Int64 := h.2.2.2.2.2.2.1
def aR (h : Hp) : Nat → Nat → Nat → Option Nat := h.2.2.2.2.2.2.2
def up1 {α : Type} (F : Nat → α) (a : Nat) (v : α) : Nat → α := fun b => if b = a then v else F b
def up2 {α : Type} (F : Nat → Nat → α) (f a : Nat) (v : α) : Nat → Nat → α := fun g b => if g = f ∧ b = a then v else F g b
def up3 {α : Type} (F : Nat → Nat → Nat → α) (t a i : Nat) (v : α) : Nat → Nat → Nat → α := fun u b j => if u = t ∧ b = a ∧ j = i then v else F u b j
def sI (h : Hp) (f a : Nat) (v : Int32) : Hp := (h.1, h.2.1, up2 (hI h) f a v, h.2.2.2)
def sJ (h : Hp) (f a : Nat) (v : Int64) : Hp := (h.1, h.2.1, h.2.2.1, up2 (hJ h) f a v, h.2.2.2.2)
def sR (h : Hp) (f a : Nat) (v : Option Nat) : Hp := (h.1, h.2.1, h.2.2.1, h.2.2.2.1, up2 (hR h) f a v, h.2.2.2.2.2)
def tI (h : Hp) (t a i : Nat) (v : Int32) : Hp := (h.1, h.2.1, h.2.2.1, h.2.2.2.1, h.2.2.2.2.1, up3 (aI h) t a i v, h.2.2.2.2.2.2)
def tJ (h : Hp) (t a i : Nat) (v : Int64) : Hp := (h.1, h.2.1, h.2.2.1, h.2.2.2.1, h.2.2.2.2.1, h.2.2.2.2.2.1, up3 (aJ h) t a i v, h.2.2.2.2.2.2.2)
def tR (h : Hp) (t a i : Nat) (v : Option Nat) : Hp := (h.1, h.2.1, h.2.2.1, h.2.2.2.1, h.2.2.2.2.1, h.2.2.2.2.2.1, h.2.2.2.2.2.2.1, up3 (aR h) t a i v)
/-- a new object at a, of the row ci: all its fields are 0 -/
def nwO (h : Hp) (a ci : Nat) : Hp := (up1 (hK h) a (ci + 1), h.2.1, (fun g b => if b = a then 0 else hI h g b), (fun g b => if b = a then 0 else hJ h g b), (fun g b => if b = a then none else hR h g b), h.2.2.2.2.2)
/-- a new array at a, of the kind t, n long -/
def nwA (h : Hp) (a t n : Nat) : Hp := (up1 (hK h) a t, up1 (hN h) a n, h.2.2.1, h.2.2.2.1, h.2.2.2.2.1, (fun u b j => if b = a then 0 else aI h u b j), (fun u b j => if b = a then 0 else aJ h u b j), (fun u b j => if b = a then none else aR h u b j))
def fTl : List (List Nat) := [[0, 0, 0, 0, 0, 0, 0, 0, 0, 0, 0, 1, 3, 2, 2], [0, 3, 0, 0, 0, 2], [2, 3, 3, 3, 0, 1], [0, 0, 0, 0, 2, 2], [0, 0, 0, 0, 2], [2, 2], [0, 2, 2, 2, 2, 0, 0], [0, 2, 2, 2, 2, 0, 2, 2, 2, 2, 2, 2, 2, 2, 2, 2, 2, 2, 2, 2, 0, 2, 2, 2, 2, 2, 2, 2, 0, 2, 2, 2, 2, 2, 0, 0, 0, 3, 0, 3]]
def fT (ci f : Nat) : Nat := (fTl.getD ci []).getD f 0
def fV (ci : Nat) (h : Hp) (a : Nat) : Nat → Value := fun f => if fT ci f = 1 then .long (hJ h (64 * ci + f) a) else if fT ci f = 2 then va_rf (hR h (64 * ci + f) a) else .int (hI h (64 * ci + f) a)
def kOf (t : Nat) : Nat := t % 8
def aT (q : Nat) : FieldType := if q = 0 then .int else if q = 1 then .long else if q = 2 then .boolean else if q = 3 then .object RX0 else if q = 4 then .object RX1 else if q = 5 then .object RX2 else if q = 6 then .object RX3 else .object RX5
def cont (h : Hp) (t a : Nat) : (Nat → Int32) ⊕ (Nat → Int64) ⊕ (Nat → UInt32) ⊕ (Nat → UInt64) ⊕ (Nat → Option Nat) := if kOf t = 1 then .inr (.inl (aJ h t a)) else if 3 ≤ kOf t then .inr (.inr (.inr (.inr (aR h t a)))) else .inl (aI h t a)
/-- what is the same for a whole run: the launch, the tables' numbers, the array classes, the least address of ours -/
abbrev om_x : Type := Launch × va_G × (Nat → ClassId) × Nat
def om_at (x : om_x) (h : Hp) (a : Nat) (H : Heap) : Prop := if hK h a < 16 then ∃ r, vwCl[hK h a - 1]? = some r ∧ t_OB a (x.2.1.1 (hK h a - 1)) r.2.2 (x.2.1.2 (hK h a - 1)) H (fV (hK h a - 1) h a) else H[a]? = some (vp_cell (x.2.2.1 (kOf (hK h a))) (hN h a, cont h (hK h a) a))
def om_H (x : om_x) (h : Hp) (H : Heap) : Prop := ∀ a, hK h a ≠ 0 → x.2.2.2 ≤ a ∧ om_at x h a H
def om_tys (x : om_x) : List (ClassId × FieldType) := (List.range 8).map (fun q => (x.2.2.1 q, aT q))
theorem om_tys_at (x : om_x) {q : Nat} (hq : q < 8) : (om_tys x)[q]? = some (x.2.2.1 q, aT q) := by
  simp [om_tys, hq]
theorem om_at.kept {x : om_x} {h : Hp} {a : Nat} {H H1 : Heap} (hh : om_at x h a H) (hq : H1[a]? = H[a]?) : om_at x h a H1 := by
  unfold om_at at hh ⊢
  split at hh
  · rename_i hc
    rw [if_pos hc]
    obtain ⟨r, h1, h2⟩ := hh
    exact ⟨r, h1, h2.kept hq⟩
  · rename_i hc
    rw [if_neg hc]
    exact hq.trans hh
theorem om_at.lt {x : om_x} {h : Hp} {a : Nat} {H : Heap} (hh : om_at x h a H) : a < H.size := by
  unfold om_at at hh
  split at hh
  · obtain ⟨r, h1, cell, h2, -⟩ := hh
    exact (Array.getElem?_eq_some_iff.mp h2).1
  · exact (Array.getElem?_eq_some_iff.mp hh).1
/-- one cell is written: the others stay -/
theorem om_H.put {x : om_x} {h h' : Hp} {a : Nat} {H H1 : Heap} (hh : om_H x h H) (hk : hK h' = hK h) (ho : ∀ b, b ≠ a → hK h b ≠ 0 → om_at x h b H1 → om_at x h' b H1) (ha : om_at x h' a H1) (oq : ∀ q : Nat, q ≠ a → H1[q]? = H[q]?) : om_H x h' H1 := by
  intro b hb
  rw [hk] at hb
  refine ⟨(hh b hb).1, ?_⟩
  by_cases e : b = a
  · rw [e]; exact ha
  · exact ho b e hb ((hh b hb).2.kept (oq b e))
theorem om_H.obj {x : om_x} {h : Hp} {a ci : Nat} {H : Heap} (hh : om_H x h H) (hk : hK h a = ci + 1) (hc : ci < 15) : ∃ r, vwCl[ci]? = some r ∧ t_OB a (x.2.1.1 ci) r.2.2 (x.2.1.2 ci) H (fV ci h a) := by
  have h1 := (hh a (by omega)).2
  unfold om_at at h1
  rw [if_pos (by omega), hk] at h1
  exact h1
theorem om_H.arr {x : om_x} {h : Hp} {a t : Nat} {H : Heap} (hh : om_H x h H) (hk : hK h a = t) (hc : 16 ≤ t) : H[a]? = some (vp_cell (x.2.2.1 (kOf t)) (hN h a, cont h t a)) := by
  have h1 := (hh a (by omega)).2
  unfold om_at at h1
  rw [if_neg (by omega), hk] at h1
  exact h1
theorem om_H.null {x : om_x} {h : Hp} {H : Heap} (hh : om_H x h H) {a : Nat} (ha : H.size ≤ a) : hK h a = 0 := by
  rcases Nat.eq_zero_or_pos (hK h a) with e | e
  · exact e
  · have := (hh a (by omega)).2.lt
    omega
theorem om_at_of {x : om_x} {h h' : Hp} {b : Nat} {H : Heap} (hk : hK h' b = hK h b) (hn : hN h' b = hN h b) (hv : ∀ f, fV (hK h b - 1) h' b f = fV (hK h b - 1) h b f) (hc : cont h' (hK h b) b = cont h (hK h b) b) (hh : om_at x h b H) : om_at x h' b H := by
  unfold om_at at hh ⊢
  rw [hk, hn, hc]
  have e : fV (hK h b - 1) h' b = fV (hK h b - 1) h b := funext hv
  rw [e]
  exact hh
theorem up2_self {α : Type} (F : Nat → Nat → α) (f a : Nat) (v : α) : up2 F f a v f a = v := by simp [up2]
theorem up2_ne {α : Type} (F : Nat → Nat → α) {f a g b : Nat} (v : α) (h : ¬ (g = f ∧ b = a)) : up2 F f a v g b = F g b := by simp [up2, h]
theorem up3_ne {α : Type} (F : Nat → Nat → Nat → α) {t a i u b : Nat} (v : α) (h : ¬ (u = t ∧ b = a)) : up3 F t a i v u b = F u b := by
  funext j
  simp only [up3]
  rw [if_neg (fun z => h ⟨z.1, z.2.1⟩)]
theorem om_sI {x : om_x} {h : Hp} {a ci f : Nat} {v : Int32} {H H1 : Heap} (hh : om_H x h H) (hk : hK h a = ci + 1) (hc : ci < 15) (hf : fT ci f ≠ 1 ∧ fT ci f ≠ 2) (hlt : f < 64) {r : vw_C} (hr : vwCl[ci]? = some r) (hl : r.2.2 ≤ 64)
    (hn : t_OB a (x.2.1.1 ci) r.2.2 (x.2.1.2 ci) H1 (updV (fV ci h a) f (.int v))) (oq : ∀ q : Nat, q ≠ a → H1[q]? = H[q]?) : om_H x (sI h (64 * ci + f) a v) H1 := by
  refine hh.put rfl (fun b hb hb0 hbb => om_at_of (h := h) (h' := sI h (64 * ci + f) a v) rfl rfl (fun g => ?_) rfl hbb) ?_ oq
  · simp only [fV, hI, hJ, hR, sI]
    rw [up2_ne _ _ (fun z => hb z.2)]
  · have hk3 : hK (sI h (64 * ci + f) a v) a = ci + 1 := hk
    unfold om_at
    rw [hk3, if_pos (by omega), Nat.add_sub_cancel]
    refine ⟨r, hr, hn.to fun k hk2 => ?_⟩
    by_cases e : k = f
    · subst e
      simp [updV, fV, hf.1, hf.2, hI, sI, up2]
    · have e2 : ¬ (64 * ci + k = 64 * ci + f ∧ a = a) := fun z => e (by omega)
      simp only [updV, if_neg e, fV, hI, hJ, hR, sI]
      rw [up2_ne _ _ e2]
theorem om_sJ {x : om_x} {h : Hp} {a ci f : Nat} {v : Int64} {H H1 : Heap} (hh : om_H x h H) (hk : hK h a = ci + 1) (hc : ci < 15) (hf : fT ci f = 1) (hlt : f < 64) {r : vw_C} (hr : vwCl[ci]? = some r) (hl : r.2.2 ≤ 64)
    (hn : t_OB a (x.2.1.1 ci) r.2.2 (x.2.1.2 ci) H1 (updV (fV ci h a) f (.long v))) (oq : ∀ q : Nat, q ≠ a → H1[q]? = H[q]?) : om_H x (sJ h (64 * ci + f) a v) H1 := by
  refine hh.put rfl (fun b hb hb0 hbb => om_at_of (h := h) (h' := sJ h (64 * ci + f) a v) rfl rfl (fun g => ?_) rfl hbb) ?_ oq
  · simp only [fV, hI, hJ, hR, sJ]
    rw [up2_ne _ _ (fun z => hb z.2)]
  · have hk3 : hK (sJ h (64 * ci + f) a v) a = ci + 1 := hk
    unfold om_at
    rw [hk3, if_pos (by omega), Nat.add_sub_cancel]
    refine ⟨r, hr, hn.to fun k hk2 => ?_⟩
    by_cases e : k = f
    · subst e
      simp [updV, fV, hf, hJ, sJ, up2]
    · have e2 : ¬ (64 * ci + k = 64 * ci + f ∧ a = a) := fun z => e (by omega)
      simp only [updV, if_neg e, fV, hI, hJ, hR, sJ]
      rw [up2_ne _ _ e2]
theorem om_sR {x : om_x} {h : Hp} {a ci f : Nat} {v : Option Nat} {H H1 : Heap} (hh : om_H x h H) (hk : hK h a = ci + 1) (hc : ci < 15) (hf : fT ci f = 2) (hlt : f < 64) {r : vw_C} (hr : vwCl[ci]? = some r) (hl : r.2.2 ≤ 64)
    (hn : t_OB a (x.2.1.1 ci) r.2.2 (x.2.1.2 ci) H1 (updV (fV ci h a) f (va_rf v))) (oq : ∀ q : Nat, q ≠ a → H1[q]? = H[q]?) : om_H x (sR h (64 * ci + f) a v) H1 := by
  refine hh.put rfl (fun b hb hb0 hbb => om_at_of (h := h) (h' := sR h (64 * ci + f) a v) rfl rfl (fun g => ?_) rfl hbb) ?_ oq
  · simp only [fV, hI, hJ, hR, sR]
    rw [up2_ne _ _ (fun z => hb z.2)]
  · have hk3 : hK (sR h (64 * ci + f) a v) a = ci + 1 := hk
    unfold om_at
    rw [hk3, if_pos (by omega), Nat.add_sub_cancel]
    refine ⟨r, hr, hn.to fun k hk2 => ?_⟩
    by_cases e : k = f
    · subst e
      simp [updV, fV, hf, hR, sR, up2]
    · have e2 : ¬ (64 * ci + k = 64 * ci + f ∧ a = a) := fun z => e (by omega)
      simp only [updV, if_neg e, fV, hI, hJ, hR, sR]
      rw [up2_ne _ _ e2]
theorem om_tI {x : om_x} {h : Hp} {a t i : Nat} {v : Int32} {H H1 : Heap} (hh : om_H x h H) (hk : hK h a = t) (hc : 16 ≤ t) (hf : kOf t = 0 ∨ kOf t = 2)
    (hn : H1[a]? = some (arrV (x.2.2.1 (kOf t)) (hN h a) (updV (fun j => .int (aI h t a j)) i (.int v)))) (oq : ∀ q : Nat, q ≠ a → H1[q]? = H[q]?) : om_H x (tI h t a i v) H1 := by
  refine hh.put rfl (fun b hb hb0 hbb => om_at_of (h := h) (h' := tI h t a i v) rfl rfl (fun g => rfl) ?_ hbb) ?_ oq
  · simp only [cont, aI, aJ, aR, tI]
    rw [up3_ne _ _ (fun z => hb z.2)]
  · have hk3 : hK (tI h t a i v) a = t := hk
    have hn3 : hN (tI h t a i v) a = hN h a := rfl
    unfold om_at
    rw [hk3, hn3, if_neg (by omega)]
    rw [hn]
    have e : cont (tI h t a i v) t a = .inl (aI (tI h t a i v) t a) := by
      unfold cont
      rw [if_neg (by omega), if_neg (by omega)]
    rw [e, vp_cell_i]
    congr 2
    funext q
    by_cases hq : q = i
    · subst hq
      simp [updV, aI, tI, up3]
    · simp [updV, aI, tI, up3, hq]
theorem om_tJ {x : om_x} {h : Hp} {a t i : Nat} {v : Int64} {H H1 : Heap} (hh : om_H x h H) (hk : hK h a = t) (hc : 16 ≤ t) (hf : kOf t = 1)
    (hn : H1[a]? = some (arrV (x.2.2.1 (kOf t)) (hN h a) (updV (fun j => .long (aJ h t a j)) i (.long v)))) (oq : ∀ q : Nat, q ≠ a → H1[q]? = H[q]?) : om_H x (tJ h t a i v) H1 := by
  refine hh.put rfl (fun b hb hb0 hbb => om_at_of (h := h) (h' := tJ h t a i v) rfl rfl (fun g => rfl) ?_ hbb) ?_ oq
  · simp only [cont, aI, aJ, aR, tJ]
    rw [up3_ne _ _ (fun z => hb z.2)]
  · have hk3 : hK (tJ h t a i v) a = t := hk
    have hn3 : hN (tJ h t a i v) a = hN h a := rfl
    unfold om_at
    rw [hk3, hn3, if_neg (by omega)]
    rw [hn]
    have e : cont (tJ h t a i v) t a = .inr (.inl (aJ (tJ h t a i v) t a)) := by
      unfold cont
      rw [if_pos (by omega)]
    rw [e, vp_cell_l]
    congr 2
    funext q
    by_cases hq : q = i
    · subst hq
      simp [updV, aJ, tJ, up3]
    · simp [updV, aJ, tJ, up3, hq]
theorem om_tR {x : om_x} {h : Hp} {a t i : Nat} {v : Option Nat} {H H1 : Heap} (hh : om_H x h H) (hk : hK h a = t) (hc : 16 ≤ t) (hf : 3 ≤ kOf t)
    (hn : H1[a]? = some (arrV (x.2.2.1 (kOf t)) (hN h a) (updV (fun j => va_rf (aR h t a j)) i (va_rf v)))) (oq : ∀ q : Nat, q ≠ a → H1[q]? = H[q]?) : om_H x (tR h t a i v) H1 := by
  refine hh.put rfl (fun b hb hb0 hbb => om_at_of (h := h) (h' := tR h t a i v) rfl rfl (fun g => rfl) ?_ hbb) ?_ oq
  · simp only [cont, aI, aJ, aR, tR]
    rw [up3_ne _ _ (fun z => hb z.2)]
  · have hk3 : hK (tR h t a i v) a = t := hk
    have hn3 : hN (tR h t a i v) a = hN h a := rfl
    unfold om_at
    rw [hk3, hn3, if_neg (by omega)]
    rw [hn]
    have e : cont (tR h t a i v) t a = .inr (.inr (.inr (.inr (aR (tR h t a i v) t a)))) := by
      unfold cont
      rw [if_neg (by omega), if_pos hf]
    rw [e, vp_cell_q]
    congr 2
    funext q
    by_cases hq : q = i
    · subst hq
      simp [updV, aR, tR, up3]
    · simp [updV, aR, tR, up3, hq]
/-- a cell is new: the others stay -/
theorem om_H.new {x : om_x} {h h' : Hp} {a : Nat} {H H1 : Heap} (hh : om_H x h H) (ha0 : hK h a = 0) (hk : ∀ b, b ≠ a → hK h' b = hK h b) (ho : ∀ b, b ≠ a → hK h b ≠ 0 → om_at x h b H1 → om_at x h' b H1) (hba : x.2.2.2 ≤ a) (ha : om_at x h' a H1) (oq : ∀ q : Nat, q ≠ a → q < H.size → H1[q]? = H[q]?) : om_H x h' H1 := by
  intro b hb
  by_cases e : b = a
  · subst e; exact ⟨hba, ha⟩
  · rw [hk b e] at hb
    exact ⟨(hh b hb).1, ho b e hb ((hh b hb).2.kept (oq b e (hh b hb).2.lt))⟩
theorem om_nwO {x : om_x} {h : Hp} {a ci : Nat} {H H1 : Heap} (hh : om_H x h H) (ha0 : hK h a = 0) (hc : ci < 15) {r : vw_C} (hr : vwCl[ci]? = some r) (hba : x.2.2.2 ≤ a)
    (hn : t_OB a (x.2.1.1 ci) r.2.2 (x.2.1.2 ci) H1 (fun f => if fT ci f = 1 then .long 0 else if fT ci f = 2 then .null else .int 0)) (oq : ∀ q : Nat, q ≠ a → q < H.size → H1[q]? = H[q]?) : om_H x (nwO h a ci) H1 := by
  refine hh.new ha0 (fun b hb => by simp [hK, nwO, up1, hb]) (fun b hb hb0 hbb => om_at_of (h := h) (h' := nwO h a ci) (by simp [hK, nwO, up1, hb]) rfl (fun g => ?_) rfl hbb) hba ?_ oq
  · simp [fV, hI, hJ, hR, nwO, hb]
  · unfold om_at
    have hk : hK (nwO h a ci) a = ci + 1 := by simp [hK, nwO, up1]
    rw [hk, if_pos (by omega), Nat.add_sub_cancel]
    refine ⟨r, hr, hn.to fun k hk2 => ?_⟩
    simp [fV, hI, hJ, hR, nwO, va_rf]
theorem om_nwA {x : om_x} {h : Hp} {a t n : Nat} {H H1 : Heap} (hh : om_H x h H) (ha0 : hK h a = 0) (hc : 16 ≤ t) (hba : x.2.2.2 ≤ a)
    (hn : H1[a]? = some (arrV (x.2.2.1 (kOf t)) n (fun _ => if kOf t = 1 then .long 0 else if 3 ≤ kOf t then .null else .int 0))) (oq : ∀ q : Nat, q ≠ a → q < H.size → H1[q]? = H[q]?) : om_H x (nwA h a t n) H1 := by
  refine hh.new ha0 (fun b hb => by simp [hK, nwA, up1, hb]) (fun b hb hb0 hbb => om_at_of (h := h) (h' := nwA h a t n) (by simp [hK, nwA, up1, hb]) (by simp [hN, nwA, up1, hb]) (fun g => rfl) ?_ hbb) hba ?_ oq
  · simp [cont, aI, aJ, aR, nwA, hb]
  · unfold om_at
    have hk : hK (nwA h a t n) a = t := by simp [hK, nwA, up1]
    have hl : hN (nwA h a t n) a = n := by simp [hN, nwA, up1]
    rw [hk, hl, if_neg (by omega), hn]
    unfold cont
    by_cases e1 : kOf t = 1
    · simp only [if_pos e1]
      rw [vp_cell_l]
      simp [aJ, nwA]
    · by_cases e3 : 3 ≤ kOf t
      · simp only [if_neg e1, if_pos e3]
        rw [vp_cell_q]
        simp [aR, nwA, va_rf]
      · simp only [if_neg e1, if_neg e3]
        rw [vp_cell_i]
        simp [aI, nwA]
