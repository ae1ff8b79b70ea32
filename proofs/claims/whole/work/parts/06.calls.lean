section JA
variable {x : om_x} {r : om_r} {k : om_k} {pc : Nat} {L : List (Nat × Value)} {st : List Value} {h : Hp} {c sl : Nat}
theorem om_X.arr {p : Program} {s : State} {mi : MethodId} {args : Array Value} {meth : Method} {cd : Code} (X : om_X x k p s mi args meth cd) {q : Nat} (hq : q < 8) : ArrOfT s (x.2.2.1 q) (aT q) ∧ va_RA s (x.2.2.1 q) (aT q) := X.2.2.2.2.2.1.1.2 q _ (om_tys_at x hq)
theorem kOf_lt (t : Nat) : kOf t < 8 := Nat.mod_lt _ (by decide)
theorem J_iald {a t j : Nat} {i : Int32} (hd : decode k.2.1 pc = .ok (.iaload, 1)) (hk : hK h a = t) (ht : 16 ≤ t ∧ kOf t = 0) (hi : inx i j (hN h a)) (kk : J x r k (pc + 1) L (.int (aI h t a j) :: st) h c sl) : J x r k pc L (.int i :: .ref a :: st) h c sl := by
  intro p e s mi args below meth cd H locs ls X hH hS hL
  have h1 := hH.arr hk ht.1
  have e1 : cont h t a = .inl (aI h t a) := by unfold cont; rw [if_neg (by omega), if_neg (by omega)]
  rw [e1] at h1
  have hA := (X.arr (kOf_lt t)).1
  rw [ht.2] at hA h1
  refine W.iald (v := .int (aI h t a j)) X.1 X.2.1 h1 (hA (hN h a) (fun j => .int (aI h t a j))) (fun q => by cases q) (by show ¬ (i < 0 ∨ (arrV _ _ _).slots.size ≤ _); rw [arrV_size]; exact hi.vp) (by rw [hi.1]; show (arrV _ _ _).slots[_]? = _; rw [arrV_read _ _ hi.2.2]) rfl rfl hd ?_
  exact kk p e s mi args below meth cd H locs ls X hH hS hL
theorem J_zald {a t j : Nat} {i : Int32} (hd : decode k.2.1 pc = .ok (.baload, 1)) (hk : hK h a = t) (ht : 16 ≤ t ∧ kOf t = 2) (hi : inx i j (hN h a)) (kk : J x r k (pc + 1) L (.int (aI h t a j) :: st) h c sl) : J x r k pc L (.int i :: .ref a :: st) h c sl := by
  intro p e s mi args below meth cd H locs ls X hH hS hL
  have h1 := hH.arr hk ht.1
  have e1 : cont h t a = .inl (aI h t a) := by unfold cont; rw [if_neg (by omega), if_neg (by omega)]
  rw [e1] at h1
  have hA := (X.arr (kOf_lt t)).1
  rw [ht.2] at hA h1
  refine W.zald (v := .int (aI h t a j)) X.1 X.2.1 h1 (hA (hN h a) (fun j => .int (aI h t a j))) (fun q => by cases q) (by show ¬ (i < 0 ∨ (arrV _ _ _).slots.size ≤ _); rw [arrV_size]; exact hi.vp) (by rw [hi.1]; show (arrV _ _ _).slots[_]? = _; rw [arrV_read _ _ hi.2.2]) rfl rfl hd ?_
  exact kk p e s mi args below meth cd H locs ls X hH hS hL
theorem J_lald {a t j : Nat} {i : Int32} (hd : decode k.2.1 pc = .ok (.laload, 1)) (hk : hK h a = t) (ht : 16 ≤ t ∧ kOf t = 1) (hi : inx i j (hN h a)) (kk : J x r k (pc + 1) L (.long (aJ h t a j) :: st) h c sl) : J x r k pc L (.int i :: .ref a :: st) h c sl := by
  intro p e s mi args below meth cd H locs ls X hH hS hL
  have h1 := hH.arr hk ht.1
  have e1 : cont h t a = .inr (.inl (aJ h t a)) := by unfold cont; rw [if_pos ht.2]
  rw [e1] at h1
  have hA := (X.arr (kOf_lt t)).1
  rw [ht.2] at hA h1
  refine W.lald (v := .long (aJ h t a j)) X.1 X.2.1 h1 (hA (hN h a) (fun j => .long (aJ h t a j))) (fun q => by cases q) (by show ¬ (i < 0 ∨ (arrV _ _ _).slots.size ≤ _); rw [arrV_size]; exact hi.vp) (by rw [hi.1]; show (arrV _ _ _).slots[_]? = _; rw [arrV_read _ _ hi.2.2]) rfl rfl hd ?_
  exact kk p e s mi args below meth cd H locs ls X hH hS hL
theorem aT_ref {q : Nat} (h1 : 3 ≤ q) : ∃ C, aT q = .object C := by
  unfold aT
  rw [if_neg (by omega), if_neg (by omega), if_neg (by omega)]
  (repeat' split) <;> exact ⟨_, rfl⟩
theorem J_aald {a t j : Nat} {i : Int32} {u : Option Nat} (hd : decode k.2.1 pc = .ok (.aaload, 1)) (hk : hK h a = t) (ht : 16 ≤ t ∧ 3 ≤ kOf t) (hi : inx i j (hN h a)) (hu : aR h t a j = u) (kk : J x r k (pc + 1) L (va_rf u :: st) h c sl) : J x r k pc L (.int i :: .ref a :: st) h c sl := by
  intro p e s mi args below meth cd H locs ls X hH hS hL
  subst hu
  have h1 := hH.arr hk ht.1
  have e1 : cont h t a = .inr (.inr (.inr (.inr (aR h t a)))) := by unfold cont; rw [if_neg (by omega), if_pos ht.2]
  rw [e1] at h1
  have hA := (X.arr (kOf_lt t)).1
  obtain ⟨C, hC⟩ := aT_ref ht.2
  rw [hC] at hA
  refine W.aald (v := va_rf (aR h t a j)) (ty := .object C) X.1 X.2.1 h1 (hA (hN h a) (fun j => va_rf (aR h t a j))) rfl (fun q => by cases q) (by show ¬ (i < 0 ∨ (arrV _ _ _).slots.size ≤ _); rw [arrV_size]; exact hi.vp) (by rw [hi.1]; show (arrV _ _ _).slots[_]? = _; rw [arrV_read _ _ hi.2.2]) rfl rfl hd ?_
  exact kk p e s mi args below meth cd H locs ls X hH hS hL
theorem J_aaldr {a t j b : Nat} {i : Int32} (hd : decode k.2.1 pc = .ok (.aaload, 1)) (hk : hK h a = t) (ht : 16 ≤ t ∧ 3 ≤ kOf t) (hi : inx i j (hN h a)) (hu : aR h t a j = some b) (kk : J x r k (pc + 1) L (.ref b :: st) h c sl) : J x r k pc L (.int i :: .ref a :: st) h c sl := J_aald hd hk ht hi hu kk
theorem J_iast {a t j : Nat} {i v : Int32} (hd : decode k.2.1 pc = .ok (.iastore, 1)) (hk : hK h a = t) (ht : 16 ≤ t ∧ kOf t = 0) (hi : inx i j (hN h a)) (kk : J x r k (pc + 1) L st (tI h t a j v) c sl) : J x r k pc L (.int v :: .int i :: .ref a :: st) h c sl := by
  intro p e s mi args below meth cd H locs ls X hH hS hL
  have h1 := hH.arr hk ht.1
  have e1 : cont h t a = .inl (aI h t a) := by unfold cont; rw [if_neg (by omega), if_neg (by omega)]
  rw [e1] at h1
  have hA := (X.arr (kOf_lt t)).1
  rw [ht.2] at hA
  have hA2 := hA (hN h a) (fun j => .int (aI h t a j))
  refine W.iast X.1 X.2.1 h1 (by rw [ht.2]; exact hA2) (fun q => by cases q) (by show ¬ (i < 0 ∨ (arrV _ _ _).slots.size ≤ _); rw [arrV_size]; exact hi.vp) rfl rfl hd fun H1 e z oq => ?_
  rw [hi.1, vp_cell_i, arrV_store] at e
  exact kk p _ s mi args below meth cd H1 _ ls X (om_tI hH hk ht.1 (Or.inl ht.2) e oq) (hS.put z oq (hH a (by omega)).1) hL
theorem J_zast {a t j : Nat} {i v : Int32} (hd : decode k.2.1 pc = .ok (.bastore, 1)) (hk : hK h a = t) (ht : 16 ≤ t ∧ kOf t = 2) (hi : inx i j (hN h a)) (hv : v = 0 ∨ v = 1) (kk : J x r k (pc + 1) L st (tI h t a j v) c sl) : J x r k pc L (.int v :: .int i :: .ref a :: st) h c sl := by
  intro p e s mi args below meth cd H locs ls X hH hS hL
  have h1 := hH.arr hk ht.1
  have e1 : cont h t a = .inl (aI h t a) := by unfold cont; rw [if_neg (by omega), if_neg (by omega)]
  rw [e1] at h1
  have hA := (X.arr (kOf_lt t)).1
  rw [ht.2] at hA
  have hA2 := hA (hN h a) (fun j => .int (aI h t a j))
  refine W.zast X.1 X.2.1 h1 (by rw [ht.2]; exact hA2) (fun q => by cases q) (by show ¬ (i < 0 ∨ (arrV _ _ _).slots.size ≤ _); rw [arrV_size]; exact hi.vp) rfl rfl hd fun H1 e z oq => ?_
  have en : narrow .boolean (.int v) = .int v := by rcases hv with rfl | rfl <;> rfl
  rw [hi.1, en, vp_cell_i, arrV_store] at e
  exact kk p _ s mi args below meth cd H1 _ ls X (om_tI hH hk ht.1 (Or.inr ht.2) e oq) (hS.put z oq (hH a (by omega)).1) hL
theorem J_last {a t j : Nat} {i : Int32} {v : Int64} (hd : decode k.2.1 pc = .ok (.lastore, 1)) (hk : hK h a = t) (ht : 16 ≤ t ∧ kOf t = 1) (hi : inx i j (hN h a)) (kk : J x r k (pc + 1) L st (tJ h t a j v) c sl) : J x r k pc L (.long v :: .int i :: .ref a :: st) h c sl := by
  intro p e s mi args below meth cd H locs ls X hH hS hL
  have h1 := hH.arr hk ht.1
  have e1 : cont h t a = .inr (.inl (aJ h t a)) := by unfold cont; rw [if_pos ht.2]
  rw [e1] at h1
  have hA := (X.arr (kOf_lt t)).1
  rw [ht.2] at hA
  have hA2 := hA (hN h a) (fun j => .long (aJ h t a j))
  refine W.last X.1 X.2.1 h1 (by rw [ht.2]; exact hA2) (fun q => by cases q) (by show ¬ (i < 0 ∨ (arrV _ _ _).slots.size ≤ _); rw [arrV_size]; exact hi.vp) rfl rfl hd fun H1 e z oq => ?_
  rw [hi.1, vp_cell_l, arrV_store] at e
  exact kk p _ s mi args below meth cd H1 _ ls X (om_tJ hH hk ht.1 ht.2 e oq) (hS.put z oq (hH a (by omega)).1) hL
/-- the row of the class whose objects an array of kind q holds -/
def eC (q : Nat) : Nat := if q = 3 then 0 else if q = 4 then 1 else if q = 5 then 2 else if q = 6 then 3 else 5
theorem eC_ok {q : Nat} (h1 : 3 ≤ q) (h2 : q < 8) : ∃ (r : vw_C), vwCl[eC q]? = some r ∧ aT q = .object r.1 ∧ eC q < 15 := by
  rcases (by omega : q = 3 ∨ q = 4 ∨ q = 5 ∨ q = 6 ∨ q = 7) with rfl | rfl | rfl | rfl | rfl <;> exact ⟨_, rfl, rfl, by decide⟩
theorem J_aast {a t j b : Nat} {i : Int32} (hd : decode k.2.1 pc = .ok (.aastore, 1)) (hk : hK h a = t) (ht : 16 ≤ t ∧ 3 ≤ kOf t) (hi : inx i j (hN h a)) (hb : hK h b = eC (kOf t) + 1) (kk : J x r k (pc + 1) L st (tR h t a j (some b)) c sl) : J x r k pc L (.ref b :: .int i :: .ref a :: st) h c sl := by
  intro p e s mi args below meth cd H locs ls X hH hS hL
  have h1 := hH.arr hk ht.1
  have e1 : cont h t a = .inr (.inr (.inr (.inr (aR h t a)))) := by unfold cont; rw [if_neg (by omega), if_pos ht.2]
  rw [e1] at h1
  obtain ⟨rr, hr1, hr2, hr3⟩ := eC_ok ht.2 (kOf_lt t)
  obtain ⟨r', hr', cellV, g1, g2, g3, -⟩ := hH.obj hb hr3
  have hcls := (X.2.2.2.2.2.1.1.1 _ rr hr1).2
  have hA := X.arr (kOf_lt t)
  rw [hr2] at hA
  obtain ⟨kA, comp, k1, k2, k3, -⟩ := hA.2
  have hcomp : comp = x.2.1.1 (eC (kOf t)) := Option.some.inj (k3.symm.trans hcls.1)
  subst hcomp
  obtain ⟨kC, hkC, -⟩ := hcls.2
  refine W.aast X.1 X.2.1 h1 (fun q h => by cases h) (fun h => by cases h) k1 k2 rfl hkC ⟨hi.2.1, by show _ < (arrV _ _ _).slots.size; rw [arrV_size, hi.1]; exact hi.2.2⟩ g1 (fun q h => by rw [g3] at h; cases h) (by rw [g2]; exact hkC) (by rw [g2]; exact va_assign hcls) rfl rfl hd fun H1 e z oq => ?_
  rw [hi.1, vp_cell_q, arrV_store] at e
  exact kk p _ s mi args below meth cd H1 _ ls X (om_tR hH hk ht.1 ht.2 e oq) (hS.put z oq (hH a (by omega)).1) hL
theorem J_alen {a t : Nat} {v : Int32} (hd : decode k.2.1 pc = .ok (.arraylength, 1)) (hk : hK h a = t) (ht : 16 ≤ t) (hv : nI (hN h a) = v) (kk : J x r k (pc + 1) L (.int v :: st) h c sl) : J x r k pc L (.ref a :: st) h c sl := by
  intro p e s mi args below meth cd H locs ls X hH hS hL
  subst hv
  have h1 := hH.arr hk ht
  have hA := (X.arr (kOf_lt t)).1
  have kk := kk p e s mi args below meth cd H locs ls X hH hS hL
  unfold cont at h1
  split at h1
  · exact W.alen (n := Int32.ofNat (hN h a)) X.1 X.2.1 h1 (hA (hN h a) (fun j => .long (aJ h t a j))) (by rw [vp_cell_l, arrV_size] <;> rfl) rfl rfl hd kk
  · split at h1
    · exact W.alen (n := Int32.ofNat (hN h a)) X.1 X.2.1 h1 (hA (hN h a) (fun j => va_rf (aR h t a j))) (by rw [vp_cell_q, arrV_size] <;> rfl) rfl rfl hd kk
    · exact W.alen (n := Int32.ofNat (hN h a)) X.1 X.2.1 h1 (hA (hN h a) (fun j => .int (aI h t a j))) (by rw [vp_cell_i, arrV_size] <;> rfl) rfl rfl hd kk
theorem J_new {idx ci N : Nat} {C : String} {T : u_T} {ty : Nat → FieldType} (hd : decode k.2.1 pc = .ok (.new idx, 3)) (hcl : Cond.classLink k.1.cls idx C ∈ om_tb) (hins : Cond.instantiable C N ∈ om_tb) (hini : Cond.initialized C ∈ om_tb) (hc : vwCl[ci]? = some (C, T, N)) (hci : ci < 15) (hin : ∀ w ∈ u_ws C T N, w ∈ om_tb) (hty : ∀ k, k < N → parseFieldDescriptor (T k).2.2.1 = some (ty k)) (hz : ∀ f, f < N → defaultValue (ty f) = if fT ci f = 1 then .long 0 else if fT ci f = 2 then .null else .int 0) (h1 : c + 1 ≤ r.1.cells) (h2 : sl + N ≤ r.1.slots)
    (kk : ∀ a, hK h a = 0 → J x r k (pc + 3) L (.ref a :: st) (nwO h a ci) (c + 1) (sl + N)) : J x r k pc L st h c sl := by
  intro p e s mi args below meth cd H locs ls X hH hS hL
  have hKn := X.2.2.2.2.2.1.1.1 ci _ hc
  have hts := X.2.2.2.2.1
  refine W.newcK X.1 X.2.1 X.2.2.2.1 (hts _ hcl) (hts _ hins) (hts _ hini) rfl hd h1 h2 hKn.2.1 rfl fun H1 kC hkC e1 z1 o1 => ?_
  have h0 := hH.null (Nat.le_refl H.size)
  refine kk H.size h0 p e s mi args below meth cd H1 locs ls X (om_nwO hH h0 hci hc (Nat.le_trans X.2.2.2.2.2.2.2.2.2 hS.1) ((u_born ty hts hin hKn hkC e1 hty).to hz) (fun q _ h => o1 q h)) ⟨Nat.le_trans hS.1 (by omega), fun q h1 h2 => (o1 q (Nat.lt_of_lt_of_le h1 hS.1)).trans (hS.2.1 q h1 h2), hS.2.2⟩ hL
theorem J_newa (t : Nat) {n : Int32} {N : Nat} {atype : ArrayType} (hd : decode k.2.1 pc = .ok (.newarray atype, 2)) (hw : Cond.arrayClass (newarray.typeOf atype) ∈ om_tb) (ht : 16 ≤ t ∧ newarray.typeOf atype = aT (kOf t) ∧ kOf t < 3) (hn : n.toNatClampNeg = N ∧ ¬ n < 0) (hb : N ≤ 1000) (h1 : c + 1 ≤ r.1.cells) (h2 : sl + N ≤ r.1.slots)
    (kk : ∀ a, hK h a = 0 → J x r k (pc + 2) L (.ref a :: st) (nwA h a t N) (c + 1) (sl + N)) : J x r k pc L (.int n :: st) h c sl := by
  intro p e s mi args below meth cd H locs ls X hH hS hL
  refine va_newaK X.1 X.2.1 (X.2.2.2.2.1 _ hw) rfl hd rfl hn.2 hn.1 (by rw [ht.2.1]; have : componentBytes (aT (kOf t)) ≤ 8 := (by unfold aT; rcases (by omega : kOf t = 0 ∨ kOf t = 1 ∨ kOf t = 2) with e | e | e <;> rw [e] <;> decide); exact Nat.le_trans (Nat.mul_le_mul hb this) (by decide)) h1 h2 rfl fun H1 cA e1 z1 o1 hAr hNm => ?_
  have h0 := hH.null (Nat.le_refl H.size)
  have hA := (X.arr (kOf_lt t)).2
  rw [ht.2.1] at e1 hNm
  have hcA : cA = x.2.2.1 (kOf t) := by
    have h3 : s.vm.findClass ("[" ++ (aT (kOf t)).toString) = some (x.2.2.1 (kOf t)) := by
      rcases (by omega : kOf t = 0 ∨ kOf t = 1 ∨ kOf t = 2) with e | e | e <;> rw [e] at hA ⊢ <;> exact hA
    exact Option.some.inj (hNm.symm.trans h3)
  subst hcA
  refine kk H.size h0 p e s mi args below meth cd H1 locs ls X (om_nwA hH h0 ht.1 (Nat.le_trans X.2.2.2.2.2.2.2.2.2 hS.1) ?_ (fun q _ h => o1 q h)) ⟨Nat.le_trans hS.1 (by omega), fun q h1 h2 => (o1 q (Nat.lt_of_lt_of_le h1 hS.1)).trans (hS.2.1 q h1 h2), hS.2.2⟩ hL
  rw [e1]
  rcases (by omega : kOf t = 0 ∨ kOf t = 1 ∨ kOf t = 2) with e | e | e <;> rw [e] <;> rfl
theorem om_ext.ao {U : State} (he : om_ext U) {q : Nat} (h1 : 3 ≤ q) (h2 : q < 8) {C : String} (hC : aT q = .object C) : va_AO C U := by
  rcases (by omega : q = 3 ∨ q = 4 ∨ q = 5 ∨ q = 6 ∨ q = 7) with rfl | rfl | rfl | rfl | rfl <;> cases hC
  · exact he.1.1
  · exact he.1.2.1
  · exact he.1.2.2.1
  · exact he.1.2.2.2.1
  · exact he.1.2.2.2.2
theorem J_anew (t : Nat) {n : Int32} {N idx : Nat} {C : String} (hd : decode k.2.1 pc = .ok (.anewarray idx, 3)) (hcl : Cond.classLink k.1.cls idx C ∈ om_tb) (ht : 16 ≤ t ∧ aT (kOf t) = .object C ∧ 3 ≤ kOf t) (hn : n.toNatClampNeg = N ∧ ¬ n < 0) (hb : N ≤ 1000) (h1 : c + 1 ≤ r.1.cells) (h2 : sl + N ≤ r.1.slots)
    (kk : ∀ a, hK h a = 0 → J x r k (pc + 3) L (.ref a :: st) (nwA h a t N) (c + 1) (sl + N)) : J x r k pc L (.int n :: st) h c sl := by
  intro p e s mi args below meth cd H locs ls X hH hS hL
  obtain ⟨hnN, hn0⟩ := hn
  subst hnN
  refine W.anew X.1 X.2.1 X.2.2.2.1 (X.2.2.2.2.1 _ hcl) (va_AO.use (X.2.2.2.2.2.1.2.ao ht.2.2 (kOf_lt t) ht.2.1)) rfl hd rfl hn0 (by omega) h1 h2 fun cA kA comp f1 f2 f3 f4 => ?_
  generalize hH1 : H.push ({ cls := cA, slots := Array.replicate n.toNatClampNeg .null, vm := .none } : Cell) = H1
  have z1 : H1.size = H.size + 1 := by rw [← hH1, Array.size_push]
  have e1 : H1[H.size]? = some (arrV cA n.toNatClampNeg (fun _ => .null)) := by rw [← hH1, Array.getElem?_push_size, ← arrV_new]
  have o1 : ∀ q : Nat, q < H.size → H1[q]? = H[q]? := fun q hq => by rw [← hH1, Array.getElem?_push, if_neg (Nat.ne_of_lt hq)]
  have h0 := hH.null (Nat.le_refl H.size)
  have hA := (X.arr (kOf_lt t)).2
  rw [ht.2.1] at hA
  obtain ⟨kA2, comp2, k1, k2, k3, k4⟩ := hA
  have hcA : cA = x.2.2.1 (kOf t) := Option.some.inj (f1.symm.trans k4)
  subst hcA
  refine kk H.size h0 p e s mi args below meth cd H1 locs ls X (om_nwA hH h0 ht.1 (Nat.le_trans X.2.2.2.2.2.2.2.2.2 hS.1) ?_ (fun q _ h => o1 q h)) ⟨Nat.le_trans hS.1 (by omega), fun q h1 h2 => (o1 q (Nat.lt_of_lt_of_le h1 hS.1)).trans (hS.2.1 q h1 h2), hS.2.2⟩ hL
  rw [e1, if_neg (by omega), if_pos ht.2.2]
theorem J_mmin {idx : Nat} {a b : Int32} (hd : decode k.2.1 pc = .ok (.invokestatic idx, 3)) (hl : Cond.methodLink k.1.cls idx Lib.Math.min.name ∈ om_tb) (h1 : 1 ≤ r.1.frames) (h2 : (st.map fun v => v.category).sum + 13 ≤ r.1.locals) (hc : c ≤ r.1.cells) (hs : sl ≤ r.1.slots) (kk : J x r k (pc + 3) L (.int (if b < a then b else a) :: st) h c sl) : J x r k pc L (.int b :: .int a :: st) h c sl := by
  intro p e s mi args below meth cd H locs ls X hH hS hL
  have hts := X.2.2.2.2.1
  exact va_mmin X.1 X.2.1 (by rw [X.2.2.1, hL.1]) X.2.2.2.1 (hts _ hl) (hts _ mt_min_s) (hts _ mt_min_i) (hts _ mt_min_c) h1 h2 hc hs hd (kk p e s mi args below meth cd H locs ls X hH hS hL)
theorem J_mmax {idx : Nat} {a b : Int32} (hd : decode k.2.1 pc = .ok (.invokestatic idx, 3)) (hl : Cond.methodLink k.1.cls idx Lib.Math.max.name ∈ om_tb) (h1 : 1 ≤ r.1.frames) (h2 : (st.map fun v => v.category).sum + 13 ≤ r.1.locals) (hc : c ≤ r.1.cells) (hs : sl ≤ r.1.slots) (kk : J x r k (pc + 3) L (.int (if a < b then b else a) :: st) h c sl) : J x r k pc L (.int b :: .int a :: st) h c sl := by
  intro p e s mi args below meth cd H locs ls X hH hS hL
  have hts := X.2.2.2.2.1
  exact va_mmax X.1 X.2.1 (by rw [X.2.2.1, hL.1]) X.2.2.2.1 (hts _ hl) (hts _ mt_max_s) (hts _ mt_max_i) (hts _ mt_max_c) h1 h2 hc hs hd (kk p e s mi args below meth cd H locs ls X hH hS hL)
theorem J_obj {idx a : Nat} (hd : decode k.2.1 pc = .ok (.invokespecial idx, 3)) (hl : Cond.methodLink k.1.cls idx Lib.objectInit ∈ om_tb) (h1 : 1 ≤ r.1.frames) (h2 : (st.map fun v => v.category).sum + 12 ≤ r.1.locals) (kk : J x r k (pc + 3) L st h c sl) : J x r k pc L (.ref a :: st) h c sl := by
  intro p e s mi args below meth cd H locs ls X hH hS hL
  have hts := X.2.2.2.2.1
  exact W.objInit X.1 X.2.1 X.2.2.2.1 (hts _ hl) (hts _ obj_i) (hts _ obj_c) rfl (by rw [X.2.2.1]; exact hL.1) rfl hd h1 (by show 2 * 0 + _ + 12 ≤ _; omega) (kk p e s mi args below meth cd H locs ls X hH hS hL)
end JA
/-! contracts -/
def om_ws (k : om_k) : List Cond := .code k.1 k.2.1 k.2.2.1 k.2.2.2 :: om_tb
def om_rm (d mc ms : Nat) : Room := { frames := d, cells := mc, slots := ms, locals := 40 * d }
def om_Pc (x : om_x) (as : List Value) (h : Hp) : Array Value → State → Prop := fun v U => v = as.toArray ∧ om_H x h U.heap ∧ om_W x U ∧ x.2.2.2 ≤ U.heap.size
def om_Qc (x : om_x) (Q : Option Value → Hp → Prop) : Array Value → State → Outcome → State → Prop := fun _ st o t => (∃ v h', o = .returned v ∧ Q v h' ∧ om_H x h' t.heap) ∧ va_F (om_A x) st t
/-- method k, at the depth d at most, makes mc cells of ms slots at most: from the heap h, with the arguments as, it returns, and Q holds of what it answers and the heap then -/
def Mt (x : om_x) (d : Nat) (k : om_k) (mc ms : Nat) (as : List Value) (h : Hp) (Q : Option Value → Hp → Prop) : Prop := Met x.1 k.1 (om_ws k) (om_rm d mc ms) (om_Pc x as h) (om_Qc x Q) mc ms (om_A x)
def om_Z (x : om_x) (Q : Option Value → Hp → Prop) (mc ms : Nat) : Array Value → State → List Frame → State → Prop := fun args s below => MQ below (om_Qc x Q) args s mc ms (om_A x)
abbrev om_m (x : om_x) (d mc ms : Nat) (Q : Option Value → Hp → Prop) : om_r := (om_rm d mc ms, om_Z x Q mc ms)
section JC
variable {x : om_x} {r : om_r} {k : om_k} {pc : Nat} {L : List (Nat × Value)} {st : List Value} {h : Hp} {c sl : Nat}
theorem om_Pc.blind {as : List Value} : FrameBlind (om_Pc x as h) := fun a U g mk q => ⟨q.1, q.2.1, om_W.same rfl q.2.2.1, q.2.2.2⟩
theorem om_good (k : om_k) (hk : Cond.code k.1 k.2.1 k.2.2.1 k.2.2.2 ∈ om_tb) : GoodIn om_tb (om_ws k) := by
  intro w hw
  have hm : w ∈ om_tb := by
    rcases List.mem_cons.mp hw with e | e
    · rw [e]; exact hk
    · exact e
  exact ⟨hm, good_of_word (om_tb_good w hm)⟩
theorem Mt.ofJ {d mc ms n : Nat} {as : List Value} {Q : Option Value → Hp → Prop} (hB : om_B k n) (hl : (lg_sl as).length ≤ k.2.2.1) (kk : J x (om_m x d mc ms Q) k 0 (lv_args 0 as) [] h 0 0) : Mt x d k mc ms as h Q := by
  refine Met.ofW (cc := k.2.1) (maxL := k.2.2.1) (ret := k.2.2.2) hB.2.2.2.2.2 rfl ?_
  intro p e s m args below meth cd s₁ B hml hv
  obtain ⟨rfl, hH, hW, hbase⟩ := hv
  have hts0 := atoms_spec (ws := om_ws k) B.pre
  have hts : ∀ w ∈ om_tb, w.before as.toArray s = true := fun w hw => hts0 w (List.mem_cons_of_mem _ hw)
  have X : om_X x k p s m as.toArray meth cd := ⟨B.exec, B.bytes, hml, findClass_of_methodNamed B.named, hts, hW, B.returns, B.notSynchronized, (name_of_methodNamed B.named B.method).1, hbase⟩
  have hl2 := lv_entry as hl
  rw [lg_entry_eq]
  exact kk p e s m as.toArray below meth cd s.heap [] _ X hH va_S.rf hl2
theorem Mt.weak {d mc ms : Nat} {as : List Value} {Q Q' : Option Value → Hp → Prop} (hQ : ∀ v h', Q v h' → Q' v h') (hm : Mt x d k mc ms as h Q) : Mt x d k mc ms as h Q' := by
  intro p e ha hc hk s m args below hf happ hP hT
  obtain ⟨n, o, h1, h2, h3, h4, h5⟩ := hm p e ha hc hk s m args below hf happ hP hT
  refine ⟨n, o, h1, h2, h3, ?_, h5⟩
  obtain ⟨⟨v, h', q1, q2, q3⟩, q4⟩ := h4
  exact ⟨⟨v, h', q1, hQ v h' q2, q3⟩, q4⟩
theorem om_join {R : Room} {Z : State → Prop} {p : Program} {e : Env} {s : State} {mi : MethodId} {args a : Array Value} {below : List Frame} {meth : Method} {cd : Code} {H : Heap} {locs : List Loc} {mc ms : Nat} {ls : Array Slot} {rest st0 : List Value} {Q : Option Value → Hp → Prop}
    (hr : va_Run p x.1 e R s mi args below meth cd H locs c sl mc ms (F0 mi pc ls st0) rest (om_Qc x Q a) (om_A x)) (hS : va_S (om_A x) s.heap H locs)
    (kk : ∀ v h' H1 locs1, Q v h' → om_H x h' H1 → va_S (om_A x) s.heap H1 locs1 → W p x.1 e R s mi args below meth cd H1 locs1 (c + mc) (sl + ms) Z (F0 mi (pc + 3) ls (v.toList ++ rest))) : W p x.1 e R s mi args below meth cd H locs c sl Z (F0 mi pc ls st0) := by
  intro T hT X
  obtain ⟨v, st₀, t, T', L, h0, X', hL, e1, e2, ⟨⟨v', h', hv, hq, hH1⟩, hz, hkk⟩, st⟩ := hr T hT X
  cases hv
  rw [h0] at hz hkk
  obtain ⟨t2, a1, b1⟩ := kk v h' T'.heap (locs ++ L) hq (by rw [e1]; exact hH1)
    ⟨Nat.le_trans hS.1 (by rw [e1]; exact hz), fun q h1 h2 => by rw [e1, hkk q (Nat.lt_of_lt_of_le h1 hS.1) h2]; exact hS.2.1 q h1 h2, fun q hq => by
      rcases List.mem_append.mp hq with h | h
      · exact hS.2.2 q h
      · exact hL q h⟩ T' rfl X'
  exact ⟨t2, st t2 a1, b1⟩
theorem J_callV {k' : om_k} {idx n d mc ms b ci : Nat} {As rest : List Value} {Q : Option Value → Hp → Prop} (hm : Mt x d k' mc ms (.ref b :: As) h Q) (hd : decode k.2.1 pc = .ok (.invokevirtual idx, 3)) (hl : Cond.methodLink k.1.cls idx k'.1 ∈ om_tb) (hv : om_V k' n) (hn : As.length = n) (hk : hK h b = ci + 1) (hci : ci < 15) (hcl : (vwCl[ci]?).map (fun q => q.1) = some k'.1.cls) (hst : st = As.reverse ++ .ref b :: rest) (hw : (rest.map fun v => v.category).sum ≤ 8)
    (hR : d + 1 ≤ r.1.frames ∧ 8 + (k'.2.2.1 + 11) + 40 * d ≤ r.1.locals) (hf : c + mc ≤ r.1.cells ∧ sl + ms ≤ r.1.slots) (kk : ∀ v h', Q v h' → J x r k (pc + 3) L (v.toList ++ rest) h' (c + mc) (sl + ms)) : J x r k pc L st h c sl := by
  intro p e s mi args below meth cd H locs ls X hH hS hL
  subst hst
  have hts := X.2.2.2.2.1
  obtain ⟨hB, hi, hs⟩ := hv
  have hG := om_good k' hB.1
  obtain ⟨rr, hr1, cell, g1, g2, g3, -⟩ := hH.obj hk hci
  rw [hr1] at hcl
  refine om_join (va_runV (As := As) (rest := rest) (g := F0 mi pc ls (As.reverse ++ .ref b :: rest)) ⟨X.1, X.2.1, X.2.2.1, X.2.2.2.1, hts⟩ hm ⟨callB_of n hts hG rfl rfl rfl (hts _ hB.2.1) (hts _ hl) ⟨hB.2.2.1, hB.2.2.2.1, hB.2.2.2.2.1⟩ hR, hts _ hi, hts _ hs⟩ ⟨om_Pc.blind, ⟨cell, g1, by rw [g3]; rfl, by rw [g2, ← Option.some.inj hcl]; exact (X.2.2.2.2.2.1.1.1 ci rr hr1).2.1⟩, fun U hU hW => ⟨rfl, by rw [hU]; exact hH, om_W.moved hW X.2.2.2.2.2.1, by rw [hU]; exact Nat.le_trans X.2.2.2.2.2.2.2.2.2 hS.1⟩⟩ rfl hn hL.1 rfl (lv_room hw) hd hf) hS fun v h' H1 locs1 hq hH1 hS1 => ?_
  exact kk v h' hq p e s mi args below meth cd H1 locs1 ls X hH1 hS1 hL
theorem J_callS {k' : om_k} {idx n d mc ms : Nat} {As rest : List Value} {Q : Option Value → Hp → Prop} (hm : Mt x d k' mc ms As h Q) (hd : decode k.2.1 pc = .ok (.invokestatic idx, 3)) (hl : Cond.methodLink k.1.cls idx k'.1 ∈ om_tb) (hv : om_Sx k' n) (hn : As.length = n) (hst : st = As.reverse ++ rest) (hw : (rest.map fun v => v.category).sum ≤ 8)
    (hR : d + 1 ≤ r.1.frames ∧ 8 + (k'.2.2.1 + 11) + 40 * d ≤ r.1.locals) (hf : c + mc ≤ r.1.cells ∧ sl + ms ≤ r.1.slots) (kk : ∀ v h', Q v h' → J x r k (pc + 3) L (v.toList ++ rest) h' (c + mc) (sl + ms)) : J x r k pc L st h c sl := by
  intro p e s mi args below meth cd H locs ls X hH hS hL
  subst hst
  have hts := X.2.2.2.2.1
  obtain ⟨hB, hs⟩ := hv
  have hG := om_good k' hB.1
  refine om_join (va_runS (As := As) (rest := rest) (g := F0 mi pc ls (As.reverse ++ rest)) ⟨X.1, X.2.1, X.2.2.1, X.2.2.2.1, hts⟩ hm ⟨callB_of n hts hG rfl rfl rfl (hts _ hB.2.1) (hts _ hl) ⟨hB.2.2.1, hB.2.2.2.1, hB.2.2.2.2.1⟩ hR, hts _ hs⟩ ⟨om_Pc.blind, fun U hU hW => ⟨rfl, by rw [hU]; exact hH, om_W.moved hW X.2.2.2.2.2.1, by rw [hU]; exact Nat.le_trans X.2.2.2.2.2.2.2.2.2 hS.1⟩⟩ rfl hn hL.1 rfl (lv_room hw) hd hf) hS fun v h' H1 locs1 hq hH1 hS1 => ?_
  exact kk v h' hq p e s mi args below meth cd H1 locs1 ls X hH1 hS1 hL
theorem J_callI {k' : om_k} {idx n d mc ms b : Nat} {As rest : List Value} {Q : Option Value → Hp → Prop} (hm : Mt x d k' mc ms (.ref b :: As) h Q) (hd : decode k.2.1 pc = .ok (.invokespecial idx, 3)) (hl : Cond.methodLink k.1.cls idx k'.1 ∈ om_tb) (hv : om_Ix k' n) (hn : As.length = n) (hst : st = As.reverse ++ .ref b :: rest) (hw : (rest.map fun v => v.category).sum ≤ 8)
    (hR : d + 1 ≤ r.1.frames ∧ 8 + (k'.2.2.1 + 11) + 40 * d ≤ r.1.locals) (hf : c + mc ≤ r.1.cells ∧ sl + ms ≤ r.1.slots) (kk : ∀ v h', Q v h' → J x r k (pc + 3) L (v.toList ++ rest) h' (c + mc) (sl + ms)) : J x r k pc L st h c sl := by
  intro p e s mi args below meth cd H locs ls X hH hS hL
  subst hst
  have hts := X.2.2.2.2.1
  obtain ⟨hB, hi, hy, hret⟩ := hv
  have hG := om_good k' hB.1
  refine om_join (va_runI (As := As) (rest := rest) (g := F0 mi pc ls (As.reverse ++ .ref b :: rest)) ⟨X.1, X.2.1, X.2.2.1, X.2.2.2.1, hts⟩ hm ⟨callB_of n hts hG (ws' := om_tb) (by rw [← hret]; rfl) rfl rfl (hts _ hB.2.1) (hts _ hl) ⟨hB.2.2.1, hB.2.2.2.1, hB.2.2.2.2.1⟩ hR, hy, hts _ hi⟩ ⟨om_Pc.blind, fun U hU hW => ⟨rfl, by rw [hU]; exact hH, om_W.moved hW X.2.2.2.2.2.1, by rw [hU]; exact Nat.le_trans X.2.2.2.2.2.2.2.2.2 hS.1⟩⟩ rfl hn hL.1 rfl (lv_room hw) hd hf) hS fun v h' H1 locs1 hq hH1 hS1 => ?_
  exact kk v h' hq p e s mi args below meth cd H1 locs1 ls X hH1 hS1 hL
theorem J_callIN {d mc ms b : Nat} {rest : List Value} {Q : Option Value → Hp → Prop} (hm : Mt x d kX2_init mc ms [.ref b] h Q) (hd : decode k.2.1 pc = .ok (.invokespecial 17, 3)) (hk : k.1.cls = RX4) (hst : st = .ref b :: rest) (hw : (rest.map fun v => v.category).sum ≤ 8)
    (hR : d + 1 ≤ r.1.frames ∧ 8 + (kX2_init.2.2.1 + 11) + 40 * d ≤ r.1.locals) (hf : c + mc ≤ r.1.cells ∧ sl + ms ≤ r.1.slots) (kk : ∀ v h', Q v h' → J x r k (pc + 3) L (v.toList ++ rest) h' (c + mc) (sl + ms)) : J x r k pc L st h c sl := by
  intro p e s mi args below meth cd H locs ls X hH hS hL
  subst hst
  have hts := X.2.2.2.2.1
  obtain ⟨hB, hi, hy, hret⟩ := mkX2_init
  have hG := om_good kX2_init hB.1
  refine om_join (va_runIN (As := []) (rest := rest) (g := F0 mi pc ls (.ref b :: rest)) (own := RX4) ⟨X.1, X.2.1, X.2.2.1, hk ▸ X.2.2.2.1, hts⟩ hm ⟨va_cnB 0 hts hG rfl rfl rfl X.2.2.2.2.2.1.2.2 (hts _ hB.2.1) ⟨hB.2.2.1, hB.2.2.2.1, hB.2.2.2.2.1⟩ hR, hy, hts _ hi⟩ ⟨om_Pc.blind, fun U hU hW => ⟨rfl, by rw [hU]; exact hH, om_W.moved hW X.2.2.2.2.2.1, by rw [hU]; exact Nat.le_trans X.2.2.2.2.2.2.2.2.2 hS.1⟩⟩ rfl rfl hL.1 rfl (lv_room hw) hd hf) hS fun v h' H1 locs1 hq hH1 hS1 => ?_
  exact kk v h' hq p e s mi args below meth cd H1 locs1 ls X hH1 hS1 hL
variable {d mc ms : Nat} {Q : Option Value → Hp → Prop}
theorem om_ret {s t : State} {H : Heap} {locs : List Loc} {v : Option Value} {args : Array Value} (hH : om_H x h H) (hS : va_S (om_A x) s.heap H locs) (hq : Q v h) (ht : t.heap = H) : om_Qc x Q args s (.returned v) t := ⟨⟨v, h, rfl, hq, by rw [ht]; exact hH⟩, hS.F ht⟩
theorem J_ireturn {v : Int32} (hd : decode k.2.1 pc = .ok (.ireturn, 1)) (hr : k.2.2.2 = some .int) (hq : Q (some (.int v)) h) (hc : c ≤ mc) (hs : sl ≤ ms) : J x (om_m x d mc ms Q) k pc L [.int v] h c sl := by
  intro p e s mi args below meth cd H locs ls X hH hS hL
  have hlocks := X.2.2.2.2.2.2.2.1
  exact W.widen hc hs (W.iret X.1 X.2.1 (X.2.2.2.2.2.2.1.trans hr) (fun t ht _ => om_ret hH hS hq ht) hS.2.2 hd hlocks)
theorem J_zreturn {v : Int32} (hd : decode k.2.1 pc = .ok (.ireturn, 1)) (hr : k.2.2.2 = some .boolean) (hv : v = 0 ∨ v = 1) (hq : Q (some (.int v)) h) (hc : c ≤ mc) (hs : sl ≤ ms) : J x (om_m x d mc ms Q) k pc L [.int v] h c sl := by
  intro p e s mi args below meth cd H locs ls X hH hS hL
  have hlocks := X.2.2.2.2.2.2.2.1
  exact W.widen hc hs (W.zret X.1 X.2.1 (X.2.2.2.2.2.2.1.trans hr) (by rcases hv with rfl | rfl <;> rfl) (fun t ht _ => om_ret hH hS hq ht) hS.2.2 hd hlocks)
theorem J_lreturn {v : Int64} (hd : decode k.2.1 pc = .ok (.lreturn, 1)) (hr : k.2.2.2 = some .long) (hq : Q (some (.long v)) h) (hc : c ≤ mc) (hs : sl ≤ ms) : J x (om_m x d mc ms Q) k pc L [.long v] h c sl := by
  intro p e s mi args below meth cd H locs ls X hH hS hL
  have hlocks := X.2.2.2.2.2.2.2.1
  exact W.widen hc hs (W.lret X.1 X.2.1 (X.2.2.2.2.2.2.1.trans hr) (fun t ht _ => om_ret hH hS hq ht) hS.2.2 hd hlocks)
theorem J_areturn {v : Value} {rt : FieldType} (hd : decode k.2.1 pc = .ok (.areturn, 1)) (hr : k.2.2.2 = some rt) (hrt : (∃ n, rt = .object n) ∨ ∃ t, rt = .array t) (hv : isR v) (hq : Q (some v) h) (hc : c ≤ mc) (hs : sl ≤ ms) : J x (om_m x d mc ms Q) k pc L [v] h c sl := by
  intro p e s mi args below meth cd H locs ls X hH hS hL
  have hlocks := X.2.2.2.2.2.2.2.1
  exact W.widen hc hs (W.aret X.1 X.2.1 (X.2.2.2.2.2.2.1.trans hr) hrt hv (fun t ht _ => om_ret hH hS hq ht) hS.2.2 hd hlocks)
theorem J_return (hd : decode k.2.1 pc = .ok (.return_, 1)) (hr : k.2.2.2 = none) (hq : Q none h) (hc : c ≤ mc) (hs : sl ≤ ms) : J x (om_m x d mc ms Q) k pc L [] h c sl := by
  intro p e s mi args below meth cd H locs ls X hH hS hL
  have hlocks := X.2.2.2.2.2.2.2.1
  exact W.widen hc hs (W.vret X.1 X.2.1 (X.2.2.2.2.2.2.1.trans hr) (fun t ht _ => om_ret hH hS hq ht) hS.2.2 hd hlocks)
end JC
