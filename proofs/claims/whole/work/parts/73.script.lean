/-! the script, which lies outside the typed heap; cell -/
section SC
variable {x : om_x} {r : om_r} {k : om_k} {pc : Nat} {Lc : List (Nat × Value)} {st : List Value} {h : Hp} {c sl b L : Nat} {xs : Nat → Int32}
def hyS (x : om_x) (b L : Nat) (xs : Nat → Int32) (s : State) : Prop := va_X b L xs s s.heap ∧ b < x.2.2.2
/-- a goal that may use that the script lies at b -/
def rH (x : om_x) (b L : Nat) (xs : Nat → Int32) (r : om_r) : om_r := (r.1, fun args s below t => hyS x b L xs s → r.2 args s below t)
theorem J_drop (kk : J x r k pc Lc st h c sl) : J x (rH x b L xs r) k pc Lc st h c sl := by
  intro p e s mi args below meth cd H locs ls X hH hS hL T hT X'
  obtain ⟨t, a1, a2⟩ := kk p e s mi args below meth cd H locs ls X hH hS hL T hT X'
  exact ⟨t, a1, fun _ => a2⟩
theorem J_sld {i : Int32} {j : Nat} (hd : decode k.2.1 pc = .ok (.iaload, 1)) (hi : inx i j L) (kk : J x (rH x b L xs r) k (pc + 1) Lc (.int (xs j) :: st) h c sl) : J x (rH x b L xs r) k pc Lc (.int i :: .ref b :: st) h c sl := by
  intro p e s mi args below meth cd H locs ls X hH hS hL
  by_cases hy : hyS x b L xs s
  · have hbl : b < s.heap.size := Nat.lt_of_lt_of_le hy.2 X.2.2.2.2.2.2.2.2.2
    have hbA : ¬ om_A x b := Nat.not_le.mpr hy.2
    have e1 := hi.1
    subst e1
    exact va_sld X.1 X.2.1 hy.1 hbl hbA hS hi.vp hd (kk p e s mi args below meth cd H locs ls X hH hS hL)
  · exact fun T hT X' => ⟨_, Steps.refl _, fun z => absurd z hy⟩
theorem J_slen (hd : decode k.2.1 pc = .ok (.arraylength, 1)) (kk : J x (rH x b L xs r) k (pc + 1) Lc (.int (nI L) :: st) h c sl) : J x (rH x b L xs r) k pc Lc (.ref b :: st) h c sl := by
  intro p e s mi args below meth cd H locs ls X hH hS hL
  by_cases hy : hyS x b L xs s
  · have hbl : b < s.heap.size := Nat.lt_of_lt_of_le hy.2 X.2.2.2.2.2.2.2.2.2
    have hbA : ¬ om_A x b := Nat.not_le.mpr hy.2
    exact va_slen X.1 X.2.1 hy.1 hbl hbA hS hd (kk p e s mi args below meth cd H locs ls X hH hS hL)
  · exact fun T hT X' => ⟨_, Steps.refl _, fun z => absurd z hy⟩
def om_PS (x : om_x) (b L : Nat) (xs : Nat → Int32) (as : List Value) (h : Hp) : Array Value → State → Prop := fun v U => om_Pc x as h v U ∧ hyS x b L xs U
theorem om_PS_blind {as : List Value} : FrameBlind (om_PS x b L xs as h) := fun a U g mk q => ⟨⟨q.1.1, q.1.2.1, om_W.same rfl q.1.2.2.1, q.1.2.2.2⟩, ⟨q.2.1, q.2.2⟩⟩
theorem MtS_ofJ {d mc ms n : Nat} {as : List Value} {Q : Option Value → Hp → Prop} (hB : om_B k n) (hl : (lg_sl as).length ≤ k.2.2.1) (kk : J x (rH x b L xs (om_m x d mc ms Q)) k 0 (lv_args 0 as) [] h 0 0) : Met x.1 k.1 (om_ws k) (om_rm d mc ms) (om_PS x b L xs as h) (om_Qc x Q) mc ms (om_A x) := by
  refine Met.ofW (cc := k.2.1) (maxL := k.2.2.1) (ret := k.2.2.2) hB.2.2.2.2.2 rfl ?_
  intro p e s m args below meth cd s₁ B hml hv
  obtain ⟨⟨rfl, hH, hW, hbase⟩, hy⟩ := hv
  have hts0 := atoms_spec (ws := om_ws k) B.pre
  have hts : ∀ w ∈ om_tb, w.before as.toArray s = true := fun w hw => hts0 w (List.mem_cons_of_mem _ hw)
  have X : om_X x k p s m as.toArray meth cd := ⟨B.exec, B.bytes, hml, findClass_of_methodNamed B.named, hts, hW, B.returns, B.notSynchronized, (name_of_methodNamed B.named B.method).1, hbase⟩
  have hl2 := lv_entry as hl
  rw [lg_entry_eq]
  intro T hT X'
  obtain ⟨t, a1, a2⟩ := kk p e s m as.toArray below meth cd s.heap [] _ X hH va_S.rf hl2 T hT X'
  exact ⟨t, a1, a2 hy⟩
theorem c_cell (hL : L ≤ 4097) : Met x.1 kL_cell.1 (om_ws kL_cell) (om_rm 0 0 0) (om_PS x b L xs [.ref b, .int 0] h) (om_Qc x (fun z h' => z = some (.int (if 0 < L then xs 0 else 0)) ∧ h' = h)) 0 0 (om_A x) := by
  refine MtS_ofJ mkL_cell.1 (Nat.le_of_ble_eq_true rfl) ?_
  refine J_iload_n dL_cell_0 rfl rfl ?_
  refine J_aload_n dL_cell_1 rfl rfl isR_r ?_
  refine J_slen dL_cell_2 ?_
  refine J_icmp_ge (tgt := 12) dL_cell_3 (by decide) (fun c3 => ?_) (fun c3 => ?_)
  · rw [show (0 : Int32) = nI 0 from rfl, nI_lei (by omega) (by decide)] at c3
    refine J_iconst (v := 0) dL_cell_12 (by decide) ?_
    exact J_drop (J_ireturn dL_cell_13 rfl ⟨by rw [if_neg (by omega)], rfl⟩ (Nat.le_refl _) (Nat.le_refl _))
  · rw [show (0 : Int32) = nI 0 from rfl, nI_lei (by omega) (by decide)] at c3
    refine J_aload_n dL_cell_6 rfl rfl isR_r ?_
    refine J_iload_n dL_cell_7 rfl rfl ?_
    refine J_sld (j := 0) dL_cell_8 (inx_n (show 0 < L by omega) (by omega)) ?_
    refine J_goto (tgt := 13) dL_cell_9 (by decide) ?_
    exact J_drop (J_ireturn dL_cell_13 rfl ⟨by rw [if_pos (show 0 < L by omega)], rfl⟩ (Nat.le_refl _) (Nat.le_refl _))
theorem J_cell {rest : List Value} {idx : Nat} (hL : L ≤ 4097) (hd : decode k.2.1 pc = .ok (.invokestatic idx, 3)) (hl : Cond.methodLink k.1.cls idx kL_cell.1 ∈ om_tb) (hst : st = .int 0 :: .ref b :: rest) (hw : (rest.map fun v => v.category).sum ≤ 8) (hR : 0 + 1 ≤ r.1.frames ∧ 8 + (kL_cell.2.2.1 + 11) + 40 * 0 ≤ r.1.locals) (hf : c + 0 ≤ r.1.cells ∧ sl + 0 ≤ r.1.slots)
    (kk : J x (rH x b L xs r) k (pc + 3) Lc (.int (if 0 < L then xs 0 else 0) :: rest) h c sl) : J x (rH x b L xs r) k pc Lc st h c sl := by
  intro p e s mi args below meth cd H locs ls X hH hS hL2
  subst hst
  by_cases hy : hyS x b L xs s
  · have hbl : b < s.heap.size := Nat.lt_of_lt_of_le hy.2 X.2.2.2.2.2.2.2.2.2
    have hbA : ¬ om_A x b := Nat.not_le.mpr hy.2
    have hts := X.2.2.2.2.1
    obtain ⟨hB, hs⟩ := mkL_cell
    have hG := om_good kL_cell hB.1
    refine om_join (va_runS (As := [.ref b, .int 0]) (rest := rest) (g := F0 mi pc ls (([.ref b, .int 0] : List Value).reverse ++ rest)) ⟨X.1, X.2.1, X.2.2.1, X.2.2.2.1, hts⟩ (c_cell (h := h) (xs := xs) hL) ⟨callB_of 2 hts hG rfl rfl rfl (hts _ hB.2.1) (hts _ hl) ⟨hB.2.2.1, hB.2.2.2.1, hB.2.2.2.2.1⟩ hR, hts _ hs⟩ ⟨om_PS_blind, fun U hU hW => ⟨⟨rfl, by rw [hU]; exact hH, om_W.moved hW X.2.2.2.2.2.1, by rw [hU]; exact Nat.le_trans X.2.2.2.2.2.2.2.2.2 hS.1⟩, ?_, hy.2⟩⟩ rfl rfl hL2.1 rfl (lv_room hw) hd hf) hS fun v h' H1 locs1 hq hH1 hS1 => ?_
    · obtain ⟨scr, h1, h2, h3, h4, h5⟩ := hy.1
      exact ⟨scr, by rw [hU, hS.2.1 b hbl hbA]; exact h1, State.isArrayOf_alike hW.alike h2, h3, h4, h5⟩
    · obtain ⟨rfl, rfl⟩ := hq
      exact kk p e s mi args below meth cd H1 locs1 ls X hH1 hS1 hL2
  · exact fun T hT X' => ⟨_, Steps.refl _, fun z => absurd z hy⟩
end SC
