/-! J: the machine stands at pc of method k, with L among its locals, st on its stack, the typed heap h, c cells and sl slots made so far; it comes to the end that r tells. -/
def om_ext (U : State) : Prop := (va_AO RX0 U ∧ va_AO RX1 U ∧ va_AO RX2 U ∧ va_AO RX3 U ∧ va_AO RX5 U) ∧ va_Nw (.methodLinkNest RX4 17 yX2_init RX6) U
def om_W (x : om_x) (U : State) : Prop := va_K x.2.1 vwCl (om_tys x) U ∧ om_ext U
theorem om_W.moved {x : om_x} {s U : State} (hW : s.WarmedH U.vm) (hh : om_W x s) : om_W x U :=
  ⟨va_K.moved hW.alike hh.1, ⟨hh.2.1.1.moved hW.alike, hh.2.1.2.1.moved hW.alike, hh.2.1.2.2.1.moved hW.alike, hh.2.1.2.2.2.1.moved hW.alike, hh.2.1.2.2.2.2.moved hW.alike⟩, va_Nw.warmM hW hh.2.2⟩
theorem om_W.same {x : om_x} {u U : State} (e : u.vm = U.vm) (hh : om_W x u) : om_W x U :=
  have a : u.vm.Alike U.vm := by rw [e]; exact Vm.Alike.refl U.vm
  ⟨va_K.moved a hh.1, ⟨hh.2.1.1.moved a, hh.2.1.2.1.moved a, hh.2.1.2.2.1.moved a, hh.2.1.2.2.2.1.moved a, hh.2.1.2.2.2.2.moved a⟩, va_Nw.same rfl e hh.2.2⟩
def om_X (x : om_x) (k : om_k) (p : Program) (s : State) (mi : MethodId) (args : Array Value) (meth : Method) (cd : Code) : Prop :=
  p.tables.exec = Jvm.exec ∧ cd.code = k.2.1 ∧ cd.maxLocals = k.2.2.1 ∧ s.vm.findClass k.1.cls = some mi.cls ∧ (∀ w ∈ om_tb, w.before args s = true) ∧ om_W x s ∧ meth.sig.returnType = k.2.2.2 ∧ meth.locks = false ∧ meth.name = k.1.name ∧ x.2.2.2 ≤ s.heap.size
def om_A (x : om_x) : Nat → Prop := fun q => x.2.2.2 ≤ q
abbrev om_r : Type := Room × (Array Value → State → List Frame → State → Prop)
def J (x : om_x) (r : om_r) (k : om_k) (pc : Nat) (L : List (Nat × Value)) (st : List Value) (h : Hp) (c sl : Nat) : Prop :=
  ∀ (p : Program) (e : Env) (s : State) (mi : MethodId) (args : Array Value) (below : List Frame) (meth : Method) (cd : Code) (H : Heap) (locs : List Loc) (ls : Array Slot),
    om_X x k p s mi args meth cd → om_H x h H → va_S (om_A x) s.heap H locs → lv_has ls k.2.2.1 L → W p x.1 e r.1 s mi args below meth cd H locs c sl (r.2 args s below) (F0 mi pc ls st)
def lk : List (Nat × Value) → Nat → Option Value
  | [], _ => none
  | q :: L, i => if q.1 = i then some q.2 else lk L i
theorem lk_mem : ∀ {L : List (Nat × Value)} {i : Nat} {v : Value}, lk L i = some v → (i, v) ∈ L
  | [], _, _, h => by cases h
  | q :: L, i, v, h => by
    simp only [lk] at h
    split at h
    · rename_i e
      cases h
      subst e
      exact List.mem_cons_self
    · exact List.mem_cons_of_mem _ (lk_mem h)
theorem lk_at {ls : Array Slot} {nL : Nat} {L : List (Nat × Value)} (hL : lv_has ls nL L) {i : Nat} {v : Value} (h : lk L i = some v) : ls[i]? = some (.val v) := hL.2.2 (i, v) (lk_mem h)
def st1 (i : Nat) (v : Value) (L : List (Nat × Value)) : List (Nat × Value) := (i, v) :: L.filter (fun q => !(q.1 == i) && !(q.1 + 1 == i && q.2.category == 2))
def st2 (i : Nat) (v : Value) (L : List (Nat × Value)) : List (Nat × Value) := (i, v) :: L.filter (fun q => !(q.1 == i) && (!(q.1 == i + 1) && !(q.1 + 1 == i && q.2.category == 2)))
def isR (v : Value) : Prop := v = .null ∨ ∃ a, v = .ref a
theorem isR_r {a : Nat} : isR (.ref a) := Or.inr ⟨a, rfl⟩
theorem isR_n : isR .null := Or.inl rfl
theorem isR_w {w : Option Nat} : isR (va_rf w) := by cases w; exact isR_n; exact isR_r
def inx (i : Int32) (j n : Nat) : Prop := i.toNatClampNeg = j ∧ ¬ i < 0 ∧ j < n
theorem inx.vp {i : Int32} {j n : Nat} (h : inx i j n) : vp_in i n := by
  obtain ⟨rfl, h1, h2⟩ := h
  exact fun z => z.elim h1 (fun z => by omega)
theorem inx_n {j n : Nat} (h : j < n) (hn : n ≤ 2147483648) : inx (nI j) j n := ⟨nI_clamp (by omega), nI_pos (by omega), h⟩
section JR
variable {x : om_x} {r : om_r} {k : om_k} {pc : Nat} {L : List (Nat × Value)} {st : List Value} {h : Hp} {c sl : Nat}
theorem J_loc (L' : List (Nat × Value)) (hl : L'.map (fun q => lk L q.1) = L'.map (fun q => some q.2)) (kk : J x r k pc L' st h c sl) : J x r k pc L st h c sl := by
  intro p e s mi args below meth cd H locs ls X hH hS hL
  refine kk p e s mi args below meth cd H locs ls X hH hS ⟨hL.1, hL.2.1, fun q hq => ?_⟩
  obtain ⟨n, hn⟩ := List.getElem?_of_mem hq
  have h1 : (L'.map (fun q => lk L q.1))[n]? = (L'.map (fun q => some q.2))[n]? := by rw [hl]
  rw [List.getElem?_map, List.getElem?_map, hn] at h1
  exact lk_at hL (Option.some.inj h1)
theorem J_hp {h' : Hp} (e : h = h') (kk : J x r k pc L st h' c sl) : J x r k pc L st h c sl := by rw [e]; exact kk
theorem J_pc {pc' : Nat} (e : pc = pc') (kk : J x r k pc' L st h c sl) : J x r k pc L st h c sl := by rw [e]; exact kk
theorem J_st {st' : List Value} (e : st = st') (kk : J x r k pc L st' h c sl) : J x r k pc L st h c sl := by rw [e]; exact kk
theorem J_cs {c' sl' : Nat} (h1 : c ≤ c') (h2 : sl ≤ sl') (kk : J x r k pc L st h c' sl') : J x r k pc L st h c sl :=
  fun p e s mi args below meth cd H locs ls X hH hS hL => W.widen h1 h2 (kk p e s mi args below meth cd H locs ls X hH hS hL)
theorem J_iconst {n : Int} {v : Int32} (hd : decode k.2.1 pc = .ok (.iconst n, 1)) (hv : Int32.ofInt n = v) (kk : J x r k (pc + 1) L (.int v :: st) h c sl) : J x r k pc L (st) h c sl :=
  fun p e s mi args below meth cd H locs ls X hH hS hL => lv_iconst X.1 X.2.1 hd hv (kk p e s mi args below meth cd H locs ls X hH hS hL)
theorem J_bipush {n : Int} {v : Int32} (hd : decode k.2.1 pc = .ok (.bipush n, 2)) (hv : (Int8.ofInt n).toInt32 = v) (kk : J x r k (pc + 2) L (.int v :: st) h c sl) : J x r k pc L (st) h c sl :=
  fun p e s mi args below meth cd H locs ls X hH hS hL => lv_bipush X.1 X.2.1 hd hv (kk p e s mi args below meth cd H locs ls X hH hS hL)
theorem J_sipush {n : Int} {v : Int32} (hd : decode k.2.1 pc = .ok (.sipush n, 3)) (hv : (Int16.ofInt n).toInt32 = v) (kk : J x r k (pc + 3) L (.int v :: st) h c sl) : J x r k pc L (st) h c sl :=
  fun p e s mi args below meth cd H locs ls X hH hS hL => lv_sipush X.1 X.2.1 hd hv (kk p e s mi args below meth cd H locs ls X hH hS hL)
theorem J_lconst {n : Fin 2} {v : Int64} (hd : decode k.2.1 pc = .ok (.lconst n, 1)) (hv : Int64.ofNat (n : Nat) = v) (kk : J x r k (pc + 1) L (.long v :: st) h c sl) : J x r k pc L (st) h c sl :=
  fun p e s mi args below meth cd H locs ls X hH hS hL => lv_lconst X.1 X.2.1 hd hv (kk p e s mi args below meth cd H locs ls X hH hS hL)
theorem J_ldc {i : Nat} {v : Int32} (hd : decode k.2.1 pc = .ok (.ldc i, 2)) (hc : Cond.constant k.1.cls i v ∈ om_tb) (kk : J x r k (pc + 2) L (.int v :: st) h c sl) : J x r k pc L st h c sl :=
  fun p e s mi args below meth cd H locs ls X hH hS hL => lv_ldc X.1 X.2.1 X.2.2.2.1 (X.2.2.2.2.1 _ hc) hd (kk p e s mi args below meth cd H locs ls X hH hS hL)
theorem J_ldc2 {i : Nat} {v : Int64} (hd : decode k.2.1 pc = .ok (.ldc2_w i, 3)) (hc : Cond.constantLong k.1.cls i v ∈ om_tb) (kk : J x r k (pc + 3) L (.long v :: st) h c sl) : J x r k pc L st h c sl :=
  fun p e s mi args below meth cd H locs ls X hH hS hL => lv_ldc2 X.1 X.2.1 X.2.2.2.1 (X.2.2.2.2.1 _ hc) hd (kk p e s mi args below meth cd H locs ls X hH hS hL)
theorem J_iload_n {n : Fin 4} {i : Nat} {v : Int32} (hd : decode k.2.1 pc = .ok (.iload_n n, 1)) (hi : (n : Nat) = i) (hl : lk L i = some (.int v)) (kk : J x r k (pc + 1) L (.int v :: st) h c sl) : J x r k pc L (st) h c sl :=
  fun p e s mi args below meth cd H locs ls X hH hS hL => lv_iload_n X.1 X.2.1 hd hi (lk_at hL hl) (kk p e s mi args below meth cd H locs ls X hH hS hL)
theorem J_iload {i : Nat} {v : Int32} (hd : decode k.2.1 pc = .ok (.iload i, 2)) (hl : lk L i = some (.int v)) (kk : J x r k (pc + 2) L (.int v :: st) h c sl) : J x r k pc L (st) h c sl :=
  fun p e s mi args below meth cd H locs ls X hH hS hL => lv_iload X.1 X.2.1 hd (lk_at hL hl) (kk p e s mi args below meth cd H locs ls X hH hS hL)
theorem J_lload_n {n : Fin 4} {i : Nat} {v : Int64} (hd : decode k.2.1 pc = .ok (.lload_n n, 1)) (hi : (n : Nat) = i) (hl : lk L i = some (.long v)) (kk : J x r k (pc + 1) L (.long v :: st) h c sl) : J x r k pc L (st) h c sl :=
  fun p e s mi args below meth cd H locs ls X hH hS hL => lv_lload_n X.1 X.2.1 hd hi (lk_at hL hl) (kk p e s mi args below meth cd H locs ls X hH hS hL)
theorem J_lload {i : Nat} {v : Int64} (hd : decode k.2.1 pc = .ok (.lload i, 2)) (hl : lk L i = some (.long v)) (kk : J x r k (pc + 2) L (.long v :: st) h c sl) : J x r k pc L (st) h c sl :=
  fun p e s mi args below meth cd H locs ls X hH hS hL => lv_lload X.1 X.2.1 hd (lk_at hL hl) (kk p e s mi args below meth cd H locs ls X hH hS hL)
theorem J_aload_n {n : Fin 4} {i : Nat} {v : Value} (hd : decode k.2.1 pc = .ok (.aload_n n, 1)) (hi : (n : Nat) = i) (hl : lk L i = some v) (hv : isR v) (kk : J x r k (pc + 1) L (v :: st) h c sl) : J x r k pc L st h c sl := by
  intro p e s mi args below meth cd H locs ls X hH hS hL
  rcases hv with rfl | ⟨a, rfl⟩
  · exact lv_aload_nN X.1 X.2.1 hd hi (lk_at hL hl) (kk p e s mi args below meth cd H locs ls X hH hS hL)
  · exact lv_aload_n X.1 X.2.1 hd hi (lk_at hL hl) (kk p e s mi args below meth cd H locs ls X hH hS hL)
theorem J_aload {i : Nat} {v : Value} (hd : decode k.2.1 pc = .ok (.aload i, 2)) (hl : lk L i = some v) (hv : isR v) (kk : J x r k (pc + 2) L (v :: st) h c sl) : J x r k pc L st h c sl := by
  intro p e s mi args below meth cd H locs ls X hH hS hL
  rcases hv with rfl | ⟨a, rfl⟩
  · exact lv_aloadN X.1 X.2.1 hd (lk_at hL hl) (kk p e s mi args below meth cd H locs ls X hH hS hL)
  · exact lv_aload X.1 X.2.1 hd (lk_at hL hl) (kk p e s mi args below meth cd H locs ls X hH hS hL)
theorem J_istore_n {n : Fin 4} {i : Nat} {v : Int32} (hd : decode k.2.1 pc = .ok (.istore_n n, 1)) (hi : (n : Nat) = i) (hn : i < k.2.2.1) (kk : J x r k (pc + 1) (st1 i (.int v) L) st h c sl) : J x r k pc L (.int v :: st) h c sl :=
  fun p e s mi args below meth cd H locs ls X hH hS hL => lv_istore_n X.1 X.2.1 hd hi hL hn rfl (fun ls hL => (kk p e s mi args below meth cd H locs ls X hH hS hL))
theorem J_istore {i : Nat} {v : Int32} (hd : decode k.2.1 pc = .ok (.istore i, 2)) (hn : i < k.2.2.1) (kk : J x r k (pc + 2) (st1 i (.int v) L) st h c sl) : J x r k pc L (.int v :: st) h c sl :=
  fun p e s mi args below meth cd H locs ls X hH hS hL => lv_istore X.1 X.2.1 hd hL hn rfl (fun ls hL => (kk p e s mi args below meth cd H locs ls X hH hS hL))
theorem J_lstore_n {n : Fin 4} {i : Nat} {v : Int64} (hd : decode k.2.1 pc = .ok (.lstore_n n, 1)) (hi : (n : Nat) = i) (hn : i + 1 < k.2.2.1) (kk : J x r k (pc + 1) (st2 i (.long v) L) st h c sl) : J x r k pc L (.long v :: st) h c sl :=
  fun p e s mi args below meth cd H locs ls X hH hS hL => lv_lstore_n X.1 X.2.1 hd hi hL hn rfl (fun ls hL => (kk p e s mi args below meth cd H locs ls X hH hS hL))
theorem J_lstore {i : Nat} {v : Int64} (hd : decode k.2.1 pc = .ok (.lstore i, 2)) (hn : i + 1 < k.2.2.1) (kk : J x r k (pc + 2) (st2 i (.long v) L) st h c sl) : J x r k pc L (.long v :: st) h c sl :=
  fun p e s mi args below meth cd H locs ls X hH hS hL => lv_lstore X.1 X.2.1 hd hL hn rfl (fun ls hL => (kk p e s mi args below meth cd H locs ls X hH hS hL))
theorem J_astore_n {n : Fin 4} {i : Nat} {v : Value} (hd : decode k.2.1 pc = .ok (.astore_n n, 1)) (hi : (n : Nat) = i) (hv : isR v) (hn : i < k.2.2.1) (kk : J x r k (pc + 1) (st1 i v L) st h c sl) : J x r k pc L (v :: st) h c sl := by
  intro p e s mi args below meth cd H locs ls X hH hS hL
  rcases hv with rfl | ⟨a, rfl⟩
  · exact lv_astore_nN X.1 X.2.1 hd hi hL hn rfl (fun ls hL => (kk p e s mi args below meth cd H locs ls X hH hS hL))
  · exact lv_astore_n X.1 X.2.1 hd hi hL hn rfl (fun ls hL => (kk p e s mi args below meth cd H locs ls X hH hS hL))
theorem J_astore {i : Nat} {v : Value} (hd : decode k.2.1 pc = .ok (.astore i, 2)) (hv : isR v) (hn : i < k.2.2.1) (kk : J x r k (pc + 2) (st1 i v L) st h c sl) : J x r k pc L (v :: st) h c sl := by
  intro p e s mi args below meth cd H locs ls X hH hS hL
  rcases hv with rfl | ⟨a, rfl⟩
  · exact lv_astoreN X.1 X.2.1 hd hL hn rfl (fun ls hL => (kk p e s mi args below meth cd H locs ls X hH hS hL))
  · exact lv_astore X.1 X.2.1 hd hL hn rfl (fun ls hL => (kk p e s mi args below meth cd H locs ls X hH hS hL))
theorem J_iinc {i : Nat} {n : Int} {a v : Int32} (hd : decode k.2.1 pc = .ok (.iinc i n, 3)) (hl : lk L i = some (.int a)) (hv : a + Int32.ofInt n = v) (hn : i < k.2.2.1) (kk : J x r k (pc + 3) (st1 i (.int v) L) st h c sl) : J x r k pc L st h c sl := by
  intro p e s mi args below meth cd H locs ls X hH hS hL
  obtain ⟨j, hj⟩ := List.getElem?_of_mem (lk_mem hl)
  exact lv_iinc X.1 X.2.1 hd hL hj hv hn rfl (fun ls hL => (kk p e s mi args below meth cd H locs ls X hH hS hL))
theorem J_iadd {a b : Int32} (hd : decode k.2.1 pc = .ok (.iadd, 1))  (kk : J x r k (pc + 1) L (.int (a + b) :: st) h c sl) : J x r k pc L (.int b :: .int a :: st) h c sl :=
  fun p e s mi args below meth cd H locs ls X hH hS hL => lv_iadd X.1 X.2.1 hd  (kk p e s mi args below meth cd H locs ls X hH hS hL)
theorem J_isub {a b : Int32} (hd : decode k.2.1 pc = .ok (.isub, 1))  (kk : J x r k (pc + 1) L (.int (a - b) :: st) h c sl) : J x r k pc L (.int b :: .int a :: st) h c sl :=
  fun p e s mi args below meth cd H locs ls X hH hS hL => lv_isub X.1 X.2.1 hd  (kk p e s mi args below meth cd H locs ls X hH hS hL)
theorem J_imul {a b : Int32} (hd : decode k.2.1 pc = .ok (.imul, 1))  (kk : J x r k (pc + 1) L (.int (a * b) :: st) h c sl) : J x r k pc L (.int b :: .int a :: st) h c sl :=
  fun p e s mi args below meth cd H locs ls X hH hS hL => lv_imul X.1 X.2.1 hd  (kk p e s mi args below meth cd H locs ls X hH hS hL)
theorem J_iand {a b : Int32} (hd : decode k.2.1 pc = .ok (.iand, 1))  (kk : J x r k (pc + 1) L (.int (a &&& b) :: st) h c sl) : J x r k pc L (.int b :: .int a :: st) h c sl :=
  fun p e s mi args below meth cd H locs ls X hH hS hL => lv_iand X.1 X.2.1 hd  (kk p e s mi args below meth cd H locs ls X hH hS hL)
theorem J_ladd {a b : Int64} (hd : decode k.2.1 pc = .ok (.ladd, 1))  (kk : J x r k (pc + 1) L (.long (a + b) :: st) h c sl) : J x r k pc L (.long b :: .long a :: st) h c sl :=
  fun p e s mi args below meth cd H locs ls X hH hS hL => lv_ladd X.1 X.2.1 hd  (kk p e s mi args below meth cd H locs ls X hH hS hL)
theorem J_lsub {a b : Int64} (hd : decode k.2.1 pc = .ok (.lsub, 1))  (kk : J x r k (pc + 1) L (.long (a - b) :: st) h c sl) : J x r k pc L (.long b :: .long a :: st) h c sl :=
  fun p e s mi args below meth cd H locs ls X hH hS hL => lv_lsub X.1 X.2.1 hd  (kk p e s mi args below meth cd H locs ls X hH hS hL)
theorem J_lmul {a b : Int64} (hd : decode k.2.1 pc = .ok (.lmul, 1))  (kk : J x r k (pc + 1) L (.long (a * b) :: st) h c sl) : J x r k pc L (.long b :: .long a :: st) h c sl :=
  fun p e s mi args below meth cd H locs ls X hH hS hL => lv_lmul X.1 X.2.1 hd  (kk p e s mi args below meth cd H locs ls X hH hS hL)
theorem J_land {a b : Int64} (hd : decode k.2.1 pc = .ok (.land, 1))  (kk : J x r k (pc + 1) L (.long (a &&& b) :: st) h c sl) : J x r k pc L (.long b :: .long a :: st) h c sl :=
  fun p e s mi args below meth cd H locs ls X hH hS hL => lv_land X.1 X.2.1 hd  (kk p e s mi args below meth cd H locs ls X hH hS hL)
theorem J_lor {a b : Int64} (hd : decode k.2.1 pc = .ok (.lor, 1))  (kk : J x r k (pc + 1) L (.long (a ||| b) :: st) h c sl) : J x r k pc L (.long b :: .long a :: st) h c sl :=
  fun p e s mi args below meth cd H locs ls X hH hS hL => lv_lor X.1 X.2.1 hd  (kk p e s mi args below meth cd H locs ls X hH hS hL)
theorem J_ineg {a : Int32} (hd : decode k.2.1 pc = .ok (.ineg, 1))  (kk : J x r k (pc + 1) L (.int (0 - a) :: st) h c sl) : J x r k pc L (.int a :: st) h c sl :=
  fun p e s mi args below meth cd H locs ls X hH hS hL => lv_ineg X.1 X.2.1 hd  (kk p e s mi args below meth cd H locs ls X hH hS hL)
theorem J_lneg {a : Int64} (hd : decode k.2.1 pc = .ok (.lneg, 1))  (kk : J x r k (pc + 1) L (.long (0 - a) :: st) h c sl) : J x r k pc L (.long a :: st) h c sl :=
  fun p e s mi args below meth cd H locs ls X hH hS hL => lv_lneg X.1 X.2.1 hd  (kk p e s mi args below meth cd H locs ls X hH hS hL)
theorem J_i2l {a : Int32} (hd : decode k.2.1 pc = .ok (.i2l, 1))  (kk : J x r k (pc + 1) L (.long a.toInt64 :: st) h c sl) : J x r k pc L (.int a :: st) h c sl :=
  fun p e s mi args below meth cd H locs ls X hH hS hL => lv_i2l X.1 X.2.1 hd rfl (kk p e s mi args below meth cd H locs ls X hH hS hL)
theorem J_lshl {a : Int64} {b : Int32} (hd : decode k.2.1 pc = .ok (.lshl, 1)) (kk : J x r k (pc + 1) L (.long (a <<< (b.toInt64 &&& 63)) :: st) h c sl) : J x r k pc L (.int b :: .long a :: st) h c sl :=
  fun p e s mi args below meth cd H locs ls X hH hS hL => lv_lshl X.1 X.2.1 hd rfl (kk p e s mi args below meth cd H locs ls X hH hS hL)
theorem J_lcmp {a b : Int64} (hd : decode k.2.1 pc = .ok (.lcmp, 1))  (kk : J x r k (pc + 1) L (.int (lg_cmp a b) :: st) h c sl) : J x r k pc L (.long b :: .long a :: st) h c sl :=
  fun p e s mi args below meth cd H locs ls X hH hS hL => W.lcmp X.1 X.2.1 hd  (kk p e s mi args below meth cd H locs ls X hH hS hL)
theorem J_dup {v : Value} (hd : decode k.2.1 pc = .ok (.dup, 1)) (hv : v.category = 1) (kk : J x r k (pc + 1) L (v :: v :: st) h c sl) : J x r k pc L (v :: st) h c sl :=
  fun p e s mi args below meth cd H locs ls X hH hS hL => lv_dup X.1 X.2.1 hd hv (kk p e s mi args below meth cd H locs ls X hH hS hL)
theorem J_pop {v : Value} (hd : decode k.2.1 pc = .ok (.pop, 1)) (hv : v.category = 1) (kk : J x r k (pc + 1) L (st) h c sl) : J x r k pc L (v :: st) h c sl :=
  fun p e s mi args below meth cd H locs ls X hH hS hL => lv_pop X.1 X.2.1 hd hv (kk p e s mi args below meth cd H locs ls X hH hS hL)
theorem J_dup2 {v u : Value} (hd : decode k.2.1 pc = .ok (.dup2, 1)) (hv : v.category = 1) (hu : u.category = 1) (kk : J x r k (pc + 1) L (v :: u :: v :: u :: st) h c sl) : J x r k pc L (v :: u :: st) h c sl :=
  fun p e s mi args below meth cd H locs ls X hH hS hL => lv_dup2_11 X.1 X.2.1 hd hv hu (kk p e s mi args below meth cd H locs ls X hH hS hL)
theorem J_null  (hd : decode k.2.1 pc = .ok (.aconst_null, 1))  (kk : J x r k (pc + 1) L (.null :: st) h c sl) : J x r k pc L (st) h c sl :=
  fun p e s mi args below meth cd H locs ls X hH hS hL => lv_null X.1 X.2.1 hd  (kk p e s mi args below meth cd H locs ls X hH hS hL)
theorem J_if_eq {a : Int32} {off : Int} {tgt : Nat} (hd : decode k.2.1 pc = .ok (.ifCond .eq off, 3)) (ht : (pc : Int) + off = (tgt : Int)) (kt : a = 0 → J x r k tgt L st h c sl) (kf : ¬ (a = 0) → J x r k (pc + 3) L st h c sl) : J x r k pc L (.int a :: st) h c sl :=
  fun p e s mi args below meth cd H locs ls X hH hS hL => lv_if_eq X.1 X.2.1 hd ht (fun z => kt z p e s mi args below meth cd H locs ls X hH hS hL) (fun z => kf z p e s mi args below meth cd H locs ls X hH hS hL)
theorem J_icmp_eq {a b : Int32} {off : Int} {tgt : Nat} (hd : decode k.2.1 pc = .ok (.if_icmp .eq off, 3)) (ht : (pc : Int) + off = (tgt : Int)) (kt : a = b → J x r k tgt L st h c sl) (kf : ¬ (a = b) → J x r k (pc + 3) L st h c sl) : J x r k pc L (.int b :: .int a :: st) h c sl :=
  fun p e s mi args below meth cd H locs ls X hH hS hL => lv_icmp_eq X.1 X.2.1 hd ht (fun z => kt z p e s mi args below meth cd H locs ls X hH hS hL) (fun z => kf z p e s mi args below meth cd H locs ls X hH hS hL)
theorem J_if_ne {a : Int32} {off : Int} {tgt : Nat} (hd : decode k.2.1 pc = .ok (.ifCond .ne off, 3)) (ht : (pc : Int) + off = (tgt : Int)) (kt : ¬ a = 0 → J x r k tgt L st h c sl) (kf : a = 0 → J x r k (pc + 3) L st h c sl) : J x r k pc L (.int a :: st) h c sl :=
  fun p e s mi args below meth cd H locs ls X hH hS hL => lv_if_ne X.1 X.2.1 hd ht (fun z => kt z p e s mi args below meth cd H locs ls X hH hS hL) (fun z => kf z p e s mi args below meth cd H locs ls X hH hS hL)
theorem J_icmp_ne {a b : Int32} {off : Int} {tgt : Nat} (hd : decode k.2.1 pc = .ok (.if_icmp .ne off, 3)) (ht : (pc : Int) + off = (tgt : Int)) (kt : ¬ a = b → J x r k tgt L st h c sl) (kf : a = b → J x r k (pc + 3) L st h c sl) : J x r k pc L (.int b :: .int a :: st) h c sl :=
  fun p e s mi args below meth cd H locs ls X hH hS hL => lv_icmp_ne X.1 X.2.1 hd ht (fun z => kt z p e s mi args below meth cd H locs ls X hH hS hL) (fun z => kf z p e s mi args below meth cd H locs ls X hH hS hL)
theorem J_if_lt {a : Int32} {off : Int} {tgt : Nat} (hd : decode k.2.1 pc = .ok (.ifCond .lt off, 3)) (ht : (pc : Int) + off = (tgt : Int)) (kt : a < 0 → J x r k tgt L st h c sl) (kf : ¬ (a < 0) → J x r k (pc + 3) L st h c sl) : J x r k pc L (.int a :: st) h c sl :=
  fun p e s mi args below meth cd H locs ls X hH hS hL => lv_if_lt X.1 X.2.1 hd ht (fun z => kt z p e s mi args below meth cd H locs ls X hH hS hL) (fun z => kf z p e s mi args below meth cd H locs ls X hH hS hL)
theorem J_icmp_lt {a b : Int32} {off : Int} {tgt : Nat} (hd : decode k.2.1 pc = .ok (.if_icmp .lt off, 3)) (ht : (pc : Int) + off = (tgt : Int)) (kt : a < b → J x r k tgt L st h c sl) (kf : ¬ (a < b) → J x r k (pc + 3) L st h c sl) : J x r k pc L (.int b :: .int a :: st) h c sl :=
  fun p e s mi args below meth cd H locs ls X hH hS hL => lv_icmp_lt X.1 X.2.1 hd ht (fun z => kt z p e s mi args below meth cd H locs ls X hH hS hL) (fun z => kf z p e s mi args below meth cd H locs ls X hH hS hL)
theorem J_if_ge {a : Int32} {off : Int} {tgt : Nat} (hd : decode k.2.1 pc = .ok (.ifCond .ge off, 3)) (ht : (pc : Int) + off = (tgt : Int)) (kt : 0 ≤ a → J x r k tgt L st h c sl) (kf : ¬ (0 ≤ a) → J x r k (pc + 3) L st h c sl) : J x r k pc L (.int a :: st) h c sl :=
  fun p e s mi args below meth cd H locs ls X hH hS hL => lv_if_ge X.1 X.2.1 hd ht (fun z => kt z p e s mi args below meth cd H locs ls X hH hS hL) (fun z => kf z p e s mi args below meth cd H locs ls X hH hS hL)
theorem J_icmp_ge {a b : Int32} {off : Int} {tgt : Nat} (hd : decode k.2.1 pc = .ok (.if_icmp .ge off, 3)) (ht : (pc : Int) + off = (tgt : Int)) (kt : b ≤ a → J x r k tgt L st h c sl) (kf : ¬ (b ≤ a) → J x r k (pc + 3) L st h c sl) : J x r k pc L (.int b :: .int a :: st) h c sl :=
  fun p e s mi args below meth cd H locs ls X hH hS hL => lv_icmp_ge X.1 X.2.1 hd ht (fun z => kt z p e s mi args below meth cd H locs ls X hH hS hL) (fun z => kf z p e s mi args below meth cd H locs ls X hH hS hL)
theorem J_if_gt {a : Int32} {off : Int} {tgt : Nat} (hd : decode k.2.1 pc = .ok (.ifCond .gt off, 3)) (ht : (pc : Int) + off = (tgt : Int)) (kt : 0 < a → J x r k tgt L st h c sl) (kf : ¬ (0 < a) → J x r k (pc + 3) L st h c sl) : J x r k pc L (.int a :: st) h c sl :=
  fun p e s mi args below meth cd H locs ls X hH hS hL => lv_if_gt X.1 X.2.1 hd ht (fun z => kt z p e s mi args below meth cd H locs ls X hH hS hL) (fun z => kf z p e s mi args below meth cd H locs ls X hH hS hL)
theorem J_icmp_gt {a b : Int32} {off : Int} {tgt : Nat} (hd : decode k.2.1 pc = .ok (.if_icmp .gt off, 3)) (ht : (pc : Int) + off = (tgt : Int)) (kt : b < a → J x r k tgt L st h c sl) (kf : ¬ (b < a) → J x r k (pc + 3) L st h c sl) : J x r k pc L (.int b :: .int a :: st) h c sl :=
  fun p e s mi args below meth cd H locs ls X hH hS hL => lv_icmp_gt X.1 X.2.1 hd ht (fun z => kt z p e s mi args below meth cd H locs ls X hH hS hL) (fun z => kf z p e s mi args below meth cd H locs ls X hH hS hL)
theorem J_if_le {a : Int32} {off : Int} {tgt : Nat} (hd : decode k.2.1 pc = .ok (.ifCond .le off, 3)) (ht : (pc : Int) + off = (tgt : Int)) (kt : a ≤ 0 → J x r k tgt L st h c sl) (kf : ¬ (a ≤ 0) → J x r k (pc + 3) L st h c sl) : J x r k pc L (.int a :: st) h c sl :=
  fun p e s mi args below meth cd H locs ls X hH hS hL => lv_if_le X.1 X.2.1 hd ht (fun z => kt z p e s mi args below meth cd H locs ls X hH hS hL) (fun z => kf z p e s mi args below meth cd H locs ls X hH hS hL)
theorem J_icmp_le {a b : Int32} {off : Int} {tgt : Nat} (hd : decode k.2.1 pc = .ok (.if_icmp .le off, 3)) (ht : (pc : Int) + off = (tgt : Int)) (kt : a ≤ b → J x r k tgt L st h c sl) (kf : ¬ (a ≤ b) → J x r k (pc + 3) L st h c sl) : J x r k pc L (.int b :: .int a :: st) h c sl :=
  fun p e s mi args below meth cd H locs ls X hH hS hL => lv_icmp_le X.1 X.2.1 hd ht (fun z => kt z p e s mi args below meth cd H locs ls X hH hS hL) (fun z => kf z p e s mi args below meth cd H locs ls X hH hS hL)
theorem J_goto {off : Int} {tgt : Nat} (hd : decode k.2.1 pc = .ok (.goto off, 3)) (ht : (pc : Int) + off = (tgt : Int)) (kk : J x r k tgt L st h c sl) : J x r k pc L st h c sl :=
  fun p e s mi args below meth cd H locs ls X hH hS hL => lv_goto X.1 X.2.1 hd ht (kk p e s mi args below meth cd H locs ls X hH hS hL)
theorem J_ifnull_r {a : Nat} {off : Int} (hd : decode k.2.1 pc = .ok (.ifnull off, 3)) (kk : J x r k (pc + 3) L st h c sl) : J x r k pc L (.ref a :: st) h c sl :=
  fun p e s mi args below meth cd H locs ls X hH hS hL => lv_ifnull X.1 X.2.1 hd (kk p e s mi args below meth cd H locs ls X hH hS hL)
theorem J_ifnull_n {off : Int} {tgt : Nat} (hd : decode k.2.1 pc = .ok (.ifnull off, 3)) (ht : (pc : Int) + off = (tgt : Int)) (kk : J x r k tgt L st h c sl) : J x r k pc L (.null :: st) h c sl :=
  fun p e s mi args below meth cd H locs ls X hH hS hL => lv_ifnullN X.1 X.2.1 hd ht (kk p e s mi args below meth cd H locs ls X hH hS hL)
theorem J_ifnonnull_r {a : Nat} {off : Int} {tgt : Nat} (hd : decode k.2.1 pc = .ok (.ifnonnull off, 3)) (ht : (pc : Int) + off = (tgt : Int)) (kk : J x r k tgt L st h c sl) : J x r k pc L (.ref a :: st) h c sl :=
  fun p e s mi args below meth cd H locs ls X hH hS hL => lv_ifnonnull X.1 X.2.1 hd ht (kk p e s mi args below meth cd H locs ls X hH hS hL)
theorem J_ifnonnull_n {off : Int} (hd : decode k.2.1 pc = .ok (.ifnonnull off, 3)) (kk : J x r k (pc + 3) L st h c sl) : J x r k pc L (.null :: st) h c sl :=
  fun p e s mi args below meth cd H locs ls X hH hS hL => lv_ifnonnullN X.1 X.2.1 hd (kk p e s mi args below meth cd H locs ls X hH hS hL)
theorem J_ifnull_w {w : Option Nat} {off : Int} {tgt : Nat} (hd : decode k.2.1 pc = .ok (.ifnull off, 3)) (ht : (pc : Int) + off = (tgt : Int)) (kt : w = none → J x r k tgt L st h c sl) (kf : ∀ a, w = some a → J x r k (pc + 3) L st h c sl) : J x r k pc L (va_rf w :: st) h c sl := by
  cases w with
  | none => exact J_ifnull_n hd ht (kt rfl)
  | some a => exact J_ifnull_r hd (kf a rfl)
theorem J_ifnonnull_w {w : Option Nat} {off : Int} {tgt : Nat} (hd : decode k.2.1 pc = .ok (.ifnonnull off, 3)) (ht : (pc : Int) + off = (tgt : Int)) (kt : ∀ a, w = some a → J x r k tgt L st h c sl) (kf : w = none → J x r k (pc + 3) L st h c sl) : J x r k pc L (va_rf w :: st) h c sl := by
  cases w with
  | none => exact J_ifnonnull_n hd (kf rfl)
  | some a => exact J_ifnonnull_r hd ht (kt a rfl)
theorem J_tswIn {dflt lo hi : Int} {offs : Array Int} {len : Nat} {a : Int32} {off : Int} {tgt : Nat} (hd : decode k.2.1 pc = .ok (.tableswitch dflt lo hi offs, len)) (h1 : ¬ a.toInt < lo) (h2 : ¬ hi < a.toInt) (ho : offs[(a.toInt - lo).toNat]? = some off) (ht : (pc : Int) + off = (tgt : Int)) (kk : J x r k tgt L st h c sl) : J x r k pc L (.int a :: st) h c sl :=
  fun p e s mi args below meth cd H locs ls X hH hS hL => lv_tableIn X.1 X.2.1 hd h1 h2 ho ht (kk p e s mi args below meth cd H locs ls X hH hS hL)
theorem J_tswOut {dflt lo hi : Int} {offs : Array Int} {len : Nat} {a : Int32} {tgt : Nat} (hd : decode k.2.1 pc = .ok (.tableswitch dflt lo hi offs, len)) (h1 : a.toInt < lo ∨ hi < a.toInt) (ht : (pc : Int) + dflt = (tgt : Int)) (kk : J x r k tgt L st h c sl) : J x r k pc L (.int a :: st) h c sl :=
  fun p e s mi args below meth cd H locs ls X hH hS hL => lv_tableOut X.1 X.2.1 hd h1 ht (kk p e s mi args below meth cd H locs ls X hH hS hL)
theorem J_lsw {dflt : Int} {ps : Array (Int × Int)} {len : Nat} {a : Int32} {off : Int} {tgt : Nat} (hd : decode k.2.1 pc = .ok (.lookupswitch dflt ps, len)) (hp : (ps.toList.zip (ps.toList.drop 1)).all (fun (a, next) => a.1 < next.1) = true) (ho : Op.lookupswitch.offset ps.toList dflt a.toInt = off) (ht : (pc : Int) + off = (tgt : Int)) (kk : J x r k tgt L st h c sl) : J x r k pc L (.int a :: st) h c sl :=
  fun p e s mi args below meth cd H locs ls X hH hS hL => lv_lookup X.1 X.2.1 hd hp ho ht (kk p e s mi args below meth cd H locs ls X hH hS hL)
def om_G (own : String) (idx ci fid ty : Nat) : Prop := ∃ f, om_FL own idx ci f ∧ fT ci f = ty ∧ fid = 64 * ci + f ∧ f < 64 ∧ ci < 15
theorem om_FL.get {own : String} {idx ci f : Nat} (hf : om_FL own idx ci f) {p : Program} {e : Env} {R : Room} {s : State} {mi : MethodId} {args : Array Value} {below : List Frame} {meth : Method} {cd : Code} {H : Heap} {locs : List Loc} {Z : State → Prop} {ls : Array Slot} {a : Nat}
    (X : om_X x k p s mi args meth cd) (ho : k.1.cls = own) (hH : om_H x h H) (hk : hK h a = ci + 1) (hc : ci < 15) (hd : decode k.2.1 pc = .ok (.getfield idx, 3)) (kk : W p x.1 e R s mi args below meth cd H locs c sl Z (F0 mi (pc + 3) ls (fV ci h a f :: st))) : W p x.1 e R s mi args below meth cd H locs c sl Z (F0 mi pc ls (.ref a :: st)) := by
  obtain ⟨C, T, N, h1, h2, h3, h4⟩ := hf
  obtain ⟨rr, g1, cell, q1, q2, q3, q4⟩ := hH.obj hk hc
  have hr : rr = (C, T, N) := Option.some.inj (g1.symm.trans h1)
  subst hr
  obtain ⟨hS, hfc, kC, hkC, hkind⟩ := X.2.2.2.2.2.1.1.1 ci _ h1
  obtain ⟨cf, kf, fi, fd, hi, hsl⟩ := hS f h3
  refine W.getf X.1 X.2.1 (ho ▸ X.2.2.2.1) (X.2.2.2.2.1 _ h4) hi (u_facts hfc hkC (u_lays X.2.2.2.2.1 h2 h3) hi).1 q1 (by rw [q3]; exact fun z => by cases z) (v := fV ci h a f) ?_ rfl rfl hd kk
  rw [hsl]
  exact q4 f h3
theorem J_getI {idx ci fid ty a : Nat} (hd : decode k.2.1 pc = .ok (.getfield idx, 3)) (hf : om_G k.1.cls idx ci fid ty) (hk : hK h a = ci + 1) (kk : J x r k (pc + 3) L (.int (hI h fid a) :: st) h c sl) (hty : ty ≠ 1 ∧ ty ≠ 2 := by decide) : J x r k pc L (.ref a :: st) h c sl := by
  intro p e s mi args below meth cd H locs ls X hH hS hL
  obtain ⟨f, hf, h1, rfl, -, hc⟩ := hf
  refine hf.get X rfl hH hk hc hd ?_
  have e1 : fV ci h a f = .int (hI h (64 * ci + f) a) := by unfold fV; rw [h1, if_neg hty.1, if_neg hty.2]
  rw [e1]
  exact kk p e s mi args below meth cd H locs ls X hH hS hL
theorem J_getJ {idx ci fid a : Nat} (hd : decode k.2.1 pc = .ok (.getfield idx, 3)) (hf : om_G k.1.cls idx ci fid 1) (hk : hK h a = ci + 1) (kk : J x r k (pc + 3) L (.long (hJ h fid a) :: st) h c sl) : J x r k pc L (.ref a :: st) h c sl := by
  intro p e s mi args below meth cd H locs ls X hH hS hL
  obtain ⟨f, hf, h1, rfl, -, hc⟩ := hf
  refine hf.get X rfl hH hk hc hd ?_
  have e1 : fV ci h a f = .long (hJ h (64 * ci + f) a) := by unfold fV; rw [h1, if_pos rfl]
  rw [e1]
  exact kk p e s mi args below meth cd H locs ls X hH hS hL
theorem J_getR {idx ci fid a : Nat} {w : Option Nat} (hd : decode k.2.1 pc = .ok (.getfield idx, 3)) (hf : om_G k.1.cls idx ci fid 2) (hk : hK h a = ci + 1) (hw : hR h fid a = w) (kk : J x r k (pc + 3) L (va_rf w :: st) h c sl) : J x r k pc L (.ref a :: st) h c sl := by
  intro p e s mi args below meth cd H locs ls X hH hS hL
  obtain ⟨f, hf, h1, rfl, -, hc⟩ := hf
  refine hf.get X rfl hH hk hc hd ?_
  have e1 : fV ci h a f = va_rf w := by unfold fV; rw [h1, if_neg (by decide), if_pos rfl, hw]
  rw [e1]
  exact kk p e s mi args below meth cd H locs ls X hH hS hL
theorem J_getRr {idx ci fid a b : Nat} (hd : decode k.2.1 pc = .ok (.getfield idx, 3)) (hf : om_G k.1.cls idx ci fid 2) (hk : hK h a = ci + 1) (hw : hR h fid a = some b) (kk : J x r k (pc + 3) L (.ref b :: st) h c sl) : J x r k pc L (.ref a :: st) h c sl := J_getR hd hf hk hw kk
def om_PF (own : String) (idx ci fid ty : Nat) (fty : FieldType) (fin : Bool) : Prop := ∃ f C T N, om_FL own idx ci f ∧ fT ci f = ty ∧ fid = 64 * ci + f ∧ f < 64 ∧ ci < 15 ∧ vwCl[ci]? = some (C, T, N) ∧ N ≤ 64 ∧ f < N ∧ (T f).2.2.2 = fin ∧ parseFieldDescriptor (T f).2.2.1 = some fty ∧ (∃ tys : Nat → FieldType, ∀ j, j < N → parseFieldDescriptor (T j).2.2.1 = some (tys j)) ∧ (∀ a, a < N → ∀ b, b < N → a ≠ b → (T a).2.1 ≠ (T b).2.1) ∧ (fin = true → (T f).1 = own)
theorem om_PF.put {own : String} {idx ci fid ty : Nat} {fty : FieldType} {fin : Bool} (hf : om_PF own idx ci fid ty fty fin) {p : Program} {e : Env} {R : Room} {s : State} {mi : MethodId} {args : Array Value} {below : List Frame} {meth : Method} {cd : Code} {H : Heap} {locs : List Loc} {Z : State → Prop} {ls : Array Slot} {a : Nat} {v : Value}
    (X : om_X x k p s mi args meth cd) (ho : k.1.cls = own) (hH : om_H x h H) (hS : va_S (om_A x) s.heap H locs) (hk : hK h a = ci + 1) (hn : narrow fty v = v) (hfit : fits fty v = true) (hin : fin = true → k.1.name = "<init>") (hd : decode k.2.1 pc = .ok (.putfield idx, 3))
    (kk : ∀ (f : Nat) (rr : vw_C) (H1 : Heap) (locs1 : List Loc), fid = 64 * ci + f → f < 64 → fT ci f = ty → vwCl[ci]? = some rr → rr.2.2 ≤ 64 → t_OB a (x.2.1.1 ci) rr.2.2 (x.2.1.2 ci) H1 (updV (fV ci h a) f v) → (∀ q : Nat, q ≠ a → H1[q]? = H[q]?) → va_S (om_A x) s.heap H1 locs1 → W p x.1 e R s mi args below meth cd H1 locs1 c sl Z (F0 mi (pc + 3) ls st)) : W p x.1 e R s mi args below meth cd H locs c sl Z (F0 mi pc ls (v :: .ref a :: st)) := by
  obtain ⟨f, C, T, N, hf, h1, h2, hlt, hc, hcl, hN64, hfN, hfin, hdesc, ⟨tys, hty⟩, hnm, hdecl⟩ := hf
  obtain ⟨C', T', N', h1', h2', h3', h4'⟩ := hf
  have hcc : (C', T', N') = (C, T, N) := Option.some.inj (h1'.symm.trans hcl)
  cases hcc
  have hts := X.2.2.2.2.1
  have hown : s.vm.findClass own = some mi.cls := ho ▸ X.2.2.2.1
  have hK := X.2.2.2.2.2.1.1
  have hap := va_apart (own := own) hts h2' tys hty hnm hK hcl
  obtain ⟨rr, g1, cell, q1, q2, q3, q4⟩ := hH.obj hk hc
  have hr : rr = (C, T, N) := Option.some.inj (g1.symm.trans hcl)
  subst hr
  obtain ⟨hSl, hfc, kC, hkC, hkind⟩ := hK.1 ci _ hcl
  obtain ⟨cf, kf, fi, fd, hi, hsl⟩ := hSl f hfN
  have hlay := hts _ (h2' _ (u_in_lay hfN))
  have hst := (u_facts hfc hkC (u_lays hts h2' hfN) hi).1
  have hba := (hH a (by omega)).1
  cases fin with
  | false =>
    unfold u_lay at hlay
    rw [if_neg (by rw [hfin]; decide)] at hlay
    have h6 := u_store hfc hkC hkind hlay hi hdesc hn hfit
    refine W.putK X.1 X.2.1 (f := fd) ⟨hown, hts _ h4', ⟨_, _, _, hi⟩, hst⟩ (by rw [q2]; exact h6) q1 q3 (by rw [hsl]; exact k2_hasslot (q4 f hfN)) rfl rfl hd fun H' e1 e2 e3 => ?_
    rw [hsl] at e1 ⊢
    exact kk f _ H' _ h2 hlt h1 hcl hN64 ⟨_, e1, q2, q3, t_set q4 hap hfN v⟩ e3 (hS.put e2 e3 hba)
  | true =>
    unfold u_lay at hlay
    rw [if_pos hfin] at hlay
    have hcf : mi.cls = cf := by
      obtain ⟨_, _, c', _, _, _, -, -, hf', -, -, -, hown2, -⟩ := Cond.laysFinal_spec hlay
      have e1 : c' = cf := by have := hi.symm.trans hf'; simp at this; exact this.1.symm
      rw [hdecl rfl] at hown2
      rw [← e1]; exact Option.some.inj (hown.symm.trans hown2)
    have h6 := u_fits hfc hkC hkind (Or.inr hlay) hi hdesc hn hfit
    refine W.putFinK X.1 X.2.1 hown (hts _ h4') hi hst hcf (X.2.2.2.2.2.2.2.2.1.trans (hin rfl)) (by rw [q2]; exact h6) q1 q3 (by rw [hsl]; exact k2_hasslot (q4 f hfN)) rfl rfl hd fun H' e1 e2 e3 => ?_
    rw [hsl] at e1 ⊢
    exact kk f _ H' _ h2 hlt h1 hcl hN64 ⟨_, e1, q2, q3, t_set q4 hap hfN v⟩ e3 (hS.put e2 e3 hba)
theorem J_putI {idx ci fid ty a : Nat} {v : Int32} {fin : Bool} (hd : decode k.2.1 pc = .ok (.putfield idx, 3)) (hf : om_PF k.1.cls idx ci fid ty .int fin) (hk : hK h a = ci + 1) (kk : J x r k (pc + 3) L st (sI h fid a v) c sl) (hty : ty ≠ 1 ∧ ty ≠ 2 := by decide) (hin : fin = true → k.1.name = "<init>" := by first | exact (fun z => by cases z) | exact (fun _ => rfl)) : J x r k pc L (.int v :: .ref a :: st) h c sl := by
  intro p e s mi args below meth cd H locs ls X hH hS hL
  refine hf.put X rfl hH hS hk rfl rfl hin hd fun f rr H1 locs1 e1 hlt h1 hr hN hob oq hS1 => ?_
  subst e1
  obtain ⟨-, -, -, -, -, -, -, -, hc, -⟩ := hf
  exact kk p e s mi args below meth cd H1 locs1 ls X (om_sI hH hk hc (by rw [h1]; exact hty) hlt hr hN hob oq) hS1 hL
theorem J_putZ {idx ci fid ty a : Nat} {v : Int32} {fin : Bool} (hd : decode k.2.1 pc = .ok (.putfield idx, 3)) (hf : om_PF k.1.cls idx ci fid ty .boolean fin) (hk : hK h a = ci + 1) (hv : v = 0 ∨ v = 1) (kk : J x r k (pc + 3) L st (sI h fid a v) c sl) (hty : ty ≠ 1 ∧ ty ≠ 2 := by decide) (hin : fin = true → k.1.name = "<init>" := by first | exact (fun z => by cases z) | exact (fun _ => rfl)) : J x r k pc L (.int v :: .ref a :: st) h c sl := by
  intro p e s mi args below meth cd H locs ls X hH hS hL
  refine hf.put X rfl hH hS hk (by rcases hv with rfl | rfl <;> rfl) (by rcases hv with rfl | rfl <;> rfl) hin hd fun f rr H1 locs1 e1 hlt h1 hr hN hob oq hS1 => ?_
  subst e1
  obtain ⟨-, -, -, -, -, -, -, -, hc, -⟩ := hf
  exact kk p e s mi args below meth cd H1 locs1 ls X (om_sI hH hk hc (by rw [h1]; exact hty) hlt hr hN hob oq) hS1 hL
theorem J_putJ {idx ci fid a : Nat} {v : Int64} {fin : Bool} (hd : decode k.2.1 pc = .ok (.putfield idx, 3)) (hf : om_PF k.1.cls idx ci fid 1 .long fin) (hk : hK h a = ci + 1) (kk : J x r k (pc + 3) L st (sJ h fid a v) c sl) (hin : fin = true → k.1.name = "<init>" := by first | exact (fun z => by cases z) | exact (fun _ => rfl)) : J x r k pc L (.long v :: .ref a :: st) h c sl := by
  intro p e s mi args below meth cd H locs ls X hH hS hL
  refine hf.put X rfl hH hS hk rfl rfl hin hd fun f rr H1 locs1 e1 hlt h1 hr hN hob oq hS1 => ?_
  subst e1
  obtain ⟨-, -, -, -, -, -, -, -, hc, -⟩ := hf
  exact kk p e s mi args below meth cd H1 locs1 ls X (om_sJ hH hk hc h1 hlt hr hN hob oq) hS1 hL
theorem J_putR {idx ci fid a : Nat} {w : Option Nat} {fty : FieldType} {fin : Bool} (hd : decode k.2.1 pc = .ok (.putfield idx, 3)) (hf : om_PF k.1.cls idx ci fid 2 fty fin) (hr : (∃ n, fty = .object n) ∨ ∃ t, fty = .array t) (hk : hK h a = ci + 1) (kk : J x r k (pc + 3) L st (sR h fid a w) c sl) (hin : fin = true → k.1.name = "<init>" := by first | exact (fun z => by cases z) | exact (fun _ => rfl)) : J x r k pc L (va_rf w :: .ref a :: st) h c sl := by
  intro p e s mi args below meth cd H locs ls X hH hS hL
  refine hf.put X rfl hH hS hk (by rcases hr with ⟨n, rfl⟩ | ⟨t, rfl⟩ <;> cases w <;> rfl) (by rcases hr with ⟨n, rfl⟩ | ⟨t, rfl⟩ <;> cases w <;> rfl) hin hd fun f rr H1 locs1 e1 hlt h1 hr hN hob oq hS1 => ?_
  subst e1
  obtain ⟨-, -, -, -, -, -, -, -, hc, -⟩ := hf
  exact kk p e s mi args below meth cd H1 locs1 ls X (om_sR hH hk hc h1 hlt hr hN hob oq) hS1 hL
theorem J_putRr {idx ci fid a b : Nat} {fty : FieldType} {fin : Bool} (hd : decode k.2.1 pc = .ok (.putfield idx, 3)) (hf : om_PF k.1.cls idx ci fid 2 fty fin) (hr : (∃ n, fty = .object n) ∨ ∃ t, fty = .array t) (hk : hK h a = ci + 1) (kk : J x r k (pc + 3) L st (sR h fid a (some b)) c sl) (hin : fin = true → k.1.name = "<init>" := by first | exact (fun z => by cases z) | exact (fun _ => rfl)) : J x r k pc L (.ref b :: .ref a :: st) h c sl := J_putR (w := some b) hd hf hr hk kk hin
end JR
theorem g_X0_9 : om_G RX0 9 0 10 0 := ⟨10, fl_X0_9, rfl, rfl, by decide, by decide⟩
theorem p_X0_9 : om_PF RX0 9 0 10 0 .int false := ⟨10, _, _, _, fl_X0_9, rfl, rfl, by decide, by decide, rfl, by decide, by decide, rfl, by decide +kernel, ⟨tyX0, tyX0_ok⟩, nmX0, fun _ => rfl⟩
theorem g_X0_15 : om_G RX0 15 0 0 0 := ⟨0, fl_X0_15, rfl, rfl, by decide, by decide⟩
theorem p_X0_15 : om_PF RX0 15 0 0 0 .int true := ⟨0, _, _, _, fl_X0_15, rfl, rfl, by decide, by decide, rfl, by decide, by decide, rfl, by decide +kernel, ⟨tyX0, tyX0_ok⟩, nmX0, fun _ => rfl⟩
theorem g_X0_18 : om_G RX0 18 0 1 0 := ⟨1, fl_X0_18, rfl, rfl, by decide, by decide⟩
theorem p_X0_18 : om_PF RX0 18 0 1 0 .int true := ⟨1, _, _, _, fl_X0_18, rfl, rfl, by decide, by decide, rfl, by decide, by decide, rfl, by decide +kernel, ⟨tyX0, tyX0_ok⟩, nmX0, fun _ => rfl⟩
theorem g_X0_21 : om_G RX0 21 0 2 0 := ⟨2, fl_X0_21, rfl, rfl, by decide, by decide⟩
theorem p_X0_21 : om_PF RX0 21 0 2 0 .int true := ⟨2, _, _, _, fl_X0_21, rfl, rfl, by decide, by decide, rfl, by decide, by decide, rfl, by decide +kernel, ⟨tyX0, tyX0_ok⟩, nmX0, fun _ => rfl⟩
theorem g_X0_24 : om_G RX0 24 0 3 0 := ⟨3, fl_X0_24, rfl, rfl, by decide, by decide⟩
theorem p_X0_24 : om_PF RX0 24 0 3 0 .int true := ⟨3, _, _, _, fl_X0_24, rfl, rfl, by decide, by decide, rfl, by decide, by decide, rfl, by decide +kernel, ⟨tyX0, tyX0_ok⟩, nmX0, fun _ => rfl⟩
theorem g_X0_27 : om_G RX0 27 0 11 1 := ⟨11, fl_X0_27, rfl, rfl, by decide, by decide⟩
theorem p_X0_27 : om_PF RX0 27 0 11 1 .long false := ⟨11, _, _, _, fl_X0_27, rfl, rfl, by decide, by decide, rfl, by decide, by decide, rfl, by decide +kernel, ⟨tyX0, tyX0_ok⟩, nmX0, fun _ => rfl⟩
theorem g_X0_35 : om_G RX0 35 0 4 0 := ⟨4, fl_X0_35, rfl, rfl, by decide, by decide⟩
theorem p_X0_35 : om_PF RX0 35 0 4 0 .int false := ⟨4, _, _, _, fl_X0_35, rfl, rfl, by decide, by decide, rfl, by decide, by decide, rfl, by decide +kernel, ⟨tyX0, tyX0_ok⟩, nmX0, fun _ => rfl⟩
theorem g_X0_38 : om_G RX0 38 0 5 0 := ⟨5, fl_X0_38, rfl, rfl, by decide, by decide⟩
theorem p_X0_38 : om_PF RX0 38 0 5 0 .int false := ⟨5, _, _, _, fl_X0_38, rfl, rfl, by decide, by decide, rfl, by decide, by decide, rfl, by decide +kernel, ⟨tyX0, tyX0_ok⟩, nmX0, fun _ => rfl⟩
theorem g_X1_9 : om_G RX1 9 1 65 3 := ⟨1, fl_X1_9, rfl, rfl, by decide, by decide⟩
theorem p_X1_9 : om_PF RX1 9 1 65 3 .boolean false := ⟨1, _, _, _, fl_X1_9, rfl, rfl, by decide, by decide, rfl, by decide, by decide, rfl, by decide +kernel, ⟨tyX1, tyX1_ok⟩, nmX1, fun _ => rfl⟩
theorem g_X1_15 : om_G RX1 15 1 66 0 := ⟨2, fl_X1_15, rfl, rfl, by decide, by decide⟩
theorem p_X1_15 : om_PF RX1 15 1 66 0 .int false := ⟨2, _, _, _, fl_X1_15, rfl, rfl, by decide, by decide, rfl, by decide, by decide, rfl, by decide +kernel, ⟨tyX1, tyX1_ok⟩, nmX1, fun _ => rfl⟩
theorem g_X1_19 : om_G RX1 19 1 67 0 := ⟨3, fl_X1_19, rfl, rfl, by decide, by decide⟩
theorem p_X1_19 : om_PF RX1 19 1 67 0 .int false := ⟨3, _, _, _, fl_X1_19, rfl, rfl, by decide, by decide, rfl, by decide, by decide, rfl, by decide +kernel, ⟨tyX1, tyX1_ok⟩, nmX1, fun _ => rfl⟩
theorem g_X1_22 : om_G RX1 22 1 68 0 := ⟨4, fl_X1_22, rfl, rfl, by decide, by decide⟩
theorem p_X1_22 : om_PF RX1 22 1 68 0 .int false := ⟨4, _, _, _, fl_X1_22, rfl, rfl, by decide, by decide, rfl, by decide, by decide, rfl, by decide +kernel, ⟨tyX1, tyX1_ok⟩, nmX1, fun _ => rfl⟩
theorem g_X1_27 : om_G RX1 27 1 69 2 := ⟨5, fl_X1_27, rfl, rfl, by decide, by decide⟩
theorem p_X1_27 : om_PF RX1 27 1 69 2 (.array (.object "OnceOnly$Ask")) true := ⟨5, _, _, _, fl_X1_27, rfl, rfl, by decide, by decide, rfl, by decide, by decide, rfl, by decide +kernel, ⟨tyX1, tyX1_ok⟩, nmX1, fun _ => rfl⟩
theorem g_X1_31 : om_G RX1 31 1 64 0 := ⟨0, fl_X1_31, rfl, rfl, by decide, by decide⟩
theorem p_X1_31 : om_PF RX1 31 1 64 0 .int true := ⟨0, _, _, _, fl_X1_31, rfl, rfl, by decide, by decide, rfl, by decide, by decide, rfl, by decide +kernel, ⟨tyX1, tyX1_ok⟩, nmX1, fun _ => rfl⟩
theorem g_X1_38 : om_G RX1 38 0 10 0 := ⟨10, fl_X1_38, rfl, rfl, by decide, by decide⟩
theorem p_X1_38 : om_PF RX1 38 0 10 0 .int false := ⟨10, _, _, _, fl_X1_38, rfl, rfl, by decide, by decide, rfl, by decide, by decide, rfl, by decide +kernel, ⟨tyX0, tyX0_ok⟩, nmX0, fun z => by cases z⟩
theorem g_X2_7 : om_G RX2 7 2 128 2 := ⟨0, fl_X2_7, rfl, rfl, by decide, by decide⟩
theorem p_X2_7 : om_PF RX2 7 2 128 2 (.object "OnceOnly$Ask") false := ⟨0, _, _, _, fl_X2_7, rfl, rfl, by decide, by decide, rfl, by decide, by decide, rfl, by decide +kernel, ⟨tyX2, tyX2_ok⟩, nmX2, fun _ => rfl⟩
theorem g_X2_13 : om_G RX2 13 2 129 3 := ⟨1, fl_X2_13, rfl, rfl, by decide, by decide⟩
theorem p_X2_13 : om_PF RX2 13 2 129 3 .boolean false := ⟨1, _, _, _, fl_X2_13, rfl, rfl, by decide, by decide, rfl, by decide, by decide, rfl, by decide +kernel, ⟨tyX2, tyX2_ok⟩, nmX2, fun _ => rfl⟩
theorem g_X2_17 : om_G RX2 17 2 130 3 := ⟨2, fl_X2_17, rfl, rfl, by decide, by decide⟩
theorem p_X2_17 : om_PF RX2 17 2 130 3 .boolean false := ⟨2, _, _, _, fl_X2_17, rfl, rfl, by decide, by decide, rfl, by decide, by decide, rfl, by decide +kernel, ⟨tyX2, tyX2_ok⟩, nmX2, fun _ => rfl⟩
theorem g_X2_20 : om_G RX2 20 2 131 3 := ⟨3, fl_X2_20, rfl, rfl, by decide, by decide⟩
theorem p_X2_20 : om_PF RX2 20 2 131 3 .boolean false := ⟨3, _, _, _, fl_X2_20, rfl, rfl, by decide, by decide, rfl, by decide, by decide, rfl, by decide +kernel, ⟨tyX2, tyX2_ok⟩, nmX2, fun _ => rfl⟩
theorem g_X2_23 : om_G RX2 23 2 132 0 := ⟨4, fl_X2_23, rfl, rfl, by decide, by decide⟩
theorem p_X2_23 : om_PF RX2 23 2 132 0 .int false := ⟨4, _, _, _, fl_X2_23, rfl, rfl, by decide, by decide, rfl, by decide, by decide, rfl, by decide +kernel, ⟨tyX2, tyX2_ok⟩, nmX2, fun _ => rfl⟩
theorem g_X2_27 : om_G RX2 27 2 133 1 := ⟨5, fl_X2_27, rfl, rfl, by decide, by decide⟩
theorem p_X2_27 : om_PF RX2 27 2 133 1 .long false := ⟨5, _, _, _, fl_X2_27, rfl, rfl, by decide, by decide, rfl, by decide, by decide, rfl, by decide +kernel, ⟨tyX2, tyX2_ok⟩, nmX2, fun _ => rfl⟩
theorem g_X3_9 : om_G RX3 9 3 194 0 := ⟨2, fl_X3_9, rfl, rfl, by decide, by decide⟩
theorem p_X3_9 : om_PF RX3 9 3 194 0 .int false := ⟨2, _, _, _, fl_X3_9, rfl, rfl, by decide, by decide, rfl, by decide, by decide, rfl, by decide +kernel, ⟨tyX3, tyX3_ok⟩, nmX3, fun _ => rfl⟩
theorem g_X3_15 : om_G RX3 15 3 196 2 := ⟨4, fl_X3_15, rfl, rfl, by decide, by decide⟩
theorem p_X3_15 : om_PF RX3 15 3 196 2 (.array .int) true := ⟨4, _, _, _, fl_X3_15, rfl, rfl, by decide, by decide, rfl, by decide, by decide, rfl, by decide +kernel, ⟨tyX3, tyX3_ok⟩, nmX3, fun _ => rfl⟩
theorem g_X3_19 : om_G RX3 19 3 197 2 := ⟨5, fl_X3_19, rfl, rfl, by decide, by decide⟩
theorem p_X3_19 : om_PF RX3 19 3 197 2 (.array .long) true := ⟨5, _, _, _, fl_X3_19, rfl, rfl, by decide, by decide, rfl, by decide, by decide, rfl, by decide +kernel, ⟨tyX3, tyX3_ok⟩, nmX3, fun _ => rfl⟩
theorem g_X3_23 : om_G RX3 23 3 192 0 := ⟨0, fl_X3_23, rfl, rfl, by decide, by decide⟩
theorem p_X3_23 : om_PF RX3 23 3 192 0 .int true := ⟨0, _, _, _, fl_X3_23, rfl, rfl, by decide, by decide, rfl, by decide, by decide, rfl, by decide +kernel, ⟨tyX3, tyX3_ok⟩, nmX3, fun _ => rfl⟩
theorem g_X3_30 : om_G RX3 30 3 195 0 := ⟨3, fl_X3_30, rfl, rfl, by decide, by decide⟩
theorem p_X3_30 : om_PF RX3 30 3 195 0 .int false := ⟨3, _, _, _, fl_X3_30, rfl, rfl, by decide, by decide, rfl, by decide, by decide, rfl, by decide +kernel, ⟨tyX3, tyX3_ok⟩, nmX3, fun _ => rfl⟩
theorem g_X3_43 : om_G RX3 43 3 193 0 := ⟨1, fl_X3_43, rfl, rfl, by decide, by decide⟩
theorem p_X3_43 : om_PF RX3 43 3 193 0 .int false := ⟨1, _, _, _, fl_X3_43, rfl, rfl, by decide, by decide, rfl, by decide, by decide, rfl, by decide +kernel, ⟨tyX3, tyX3_ok⟩, nmX3, fun _ => rfl⟩
theorem g_X4_11 : om_G RX4 11 4 260 2 := ⟨4, fl_X4_11, rfl, rfl, by decide, by decide⟩
theorem p_X4_11 : om_PF RX4 11 4 260 2 (.array (.object "OnceOnly$Letter")) true := ⟨4, _, _, _, fl_X4_11, rfl, rfl, by decide, by decide, rfl, by decide, by decide, rfl, by decide +kernel, ⟨tyX4, tyX4_ok⟩, nmX4, fun _ => rfl⟩
theorem g_X4_18 : om_G RX4 18 4 256 0 := ⟨0, fl_X4_18, rfl, rfl, by decide, by decide⟩
theorem p_X4_18 : om_PF RX4 18 4 256 0 .int false := ⟨0, _, _, _, fl_X4_18, rfl, rfl, by decide, by decide, rfl, by decide, by decide, rfl, by decide +kernel, ⟨tyX4, tyX4_ok⟩, nmX4, fun _ => rfl⟩
theorem g_X4_30 : om_G RX4 30 4 258 0 := ⟨2, fl_X4_30, rfl, rfl, by decide, by decide⟩
theorem p_X4_30 : om_PF RX4 30 4 258 0 .int false := ⟨2, _, _, _, fl_X4_30, rfl, rfl, by decide, by decide, rfl, by decide, by decide, rfl, by decide +kernel, ⟨tyX4, tyX4_ok⟩, nmX4, fun _ => rfl⟩
theorem g_X4_37 : om_G RX4 37 4 259 0 := ⟨3, fl_X4_37, rfl, rfl, by decide, by decide⟩
theorem p_X4_37 : om_PF RX4 37 4 259 0 .int false := ⟨3, _, _, _, fl_X4_37, rfl, rfl, by decide, by decide, rfl, by decide, by decide, rfl, by decide +kernel, ⟨tyX4, tyX4_ok⟩, nmX4, fun _ => rfl⟩
theorem g_X5_9 : om_G RX5 9 5 320 2 := ⟨0, fl_X5_9, rfl, rfl, by decide, by decide⟩
theorem p_X5_9 : om_PF RX5 9 5 320 2 (.array .long) true := ⟨0, _, _, _, fl_X5_9, rfl, rfl, by decide, by decide, rfl, by decide, by decide, rfl, by decide +kernel, ⟨tyX5, tyX5_ok⟩, nmX5, fun _ => rfl⟩
theorem g_X5_17 : om_G RX5 17 5 321 2 := ⟨1, fl_X5_17, rfl, rfl, by decide, by decide⟩
theorem p_X5_17 : om_PF RX5 17 5 321 2 (.array (.object "OnceOnly$Memory")) true := ⟨1, _, _, _, fl_X5_17, rfl, rfl, by decide, by decide, rfl, by decide, by decide, rfl, by decide +kernel, ⟨tyX5, tyX5_ok⟩, nmX5, fun _ => rfl⟩
theorem g_X6_11 : om_G RX6 11 6 385 2 := ⟨1, fl_X6_11, rfl, rfl, by decide, by decide⟩
theorem p_X6_11 : om_PF RX6 11 6 385 2 (.array (.object "OnceOnly$End")) true := ⟨1, _, _, _, fl_X6_11, rfl, rfl, by decide, by decide, rfl, by decide, by decide, rfl, by decide +kernel, ⟨tyX6, tyX6_ok⟩, nmX6, fun _ => rfl⟩
theorem g_X6_17 : om_G RX6 17 6 386 2 := ⟨2, fl_X6_17, rfl, rfl, by decide, by decide⟩
theorem p_X6_17 : om_PF RX6 17 6 386 2 (.array (.object "OnceOnly$Server")) true := ⟨2, _, _, _, fl_X6_17, rfl, rfl, by decide, by decide, rfl, by decide, by decide, rfl, by decide +kernel, ⟨tyX6, tyX6_ok⟩, nmX6, fun _ => rfl⟩
theorem g_X6_23 : om_G RX6 23 6 387 2 := ⟨3, fl_X6_23, rfl, rfl, by decide, by decide⟩
theorem p_X6_23 : om_PF RX6 23 6 387 2 (.array (.object "OnceOnly$Ask")) true := ⟨3, _, _, _, fl_X6_23, rfl, rfl, by decide, by decide, rfl, by decide, by decide, rfl, by decide +kernel, ⟨tyX6, tyX6_ok⟩, nmX6, fun _ => rfl⟩
theorem g_X6_30 : om_G RX6 30 6 388 2 := ⟨4, fl_X6_30, rfl, rfl, by decide, by decide⟩
theorem p_X6_30 : om_PF RX6 30 6 388 2 (.object "OnceOnly$Row") true := ⟨4, _, _, _, fl_X6_30, rfl, rfl, by decide, by decide, rfl, by decide, by decide, rfl, by decide +kernel, ⟨tyX6, tyX6_ok⟩, nmX6, fun _ => rfl⟩
theorem g_X6_43 : om_G RX6 43 6 384 0 := ⟨0, fl_X6_43, rfl, rfl, by decide, by decide⟩
theorem p_X6_43 : om_PF RX6 43 6 384 0 .int true := ⟨0, _, _, _, fl_X6_43, rfl, rfl, by decide, by decide, rfl, by decide, by decide, rfl, by decide +kernel, ⟨tyX6, tyX6_ok⟩, nmX6, fun _ => rfl⟩
theorem g_X6_68 : om_G RX6 68 1 65 3 := ⟨1, fl_X6_68, rfl, rfl, by decide, by decide⟩
theorem p_X6_68 : om_PF RX6 68 1 65 3 .boolean false := ⟨1, _, _, _, fl_X6_68, rfl, rfl, by decide, by decide, rfl, by decide, by decide, rfl, by decide +kernel, ⟨tyX1, tyX1_ok⟩, nmX1, fun z => by cases z⟩
theorem g_X6_82 : om_G RX6 82 0 0 0 := ⟨0, fl_X6_82, rfl, rfl, by decide, by decide⟩
theorem g_X6_89 : om_G RX6 89 0 1 0 := ⟨1, fl_X6_89, rfl, rfl, by decide, by decide⟩
theorem g_X6_92 : om_G RX6 92 0 10 0 := ⟨10, fl_X6_92, rfl, rfl, by decide, by decide⟩
theorem p_X6_92 : om_PF RX6 92 0 10 0 .int false := ⟨10, _, _, _, fl_X6_92, rfl, rfl, by decide, by decide, rfl, by decide, by decide, rfl, by decide +kernel, ⟨tyX0, tyX0_ok⟩, nmX0, fun z => by cases z⟩
theorem g_X6_99 : om_G RX6 99 4 256 0 := ⟨0, fl_X6_99, rfl, rfl, by decide, by decide⟩
theorem p_X6_99 : om_PF RX6 99 4 256 0 .int false := ⟨0, _, _, _, fl_X6_99, rfl, rfl, by decide, by decide, rfl, by decide, by decide, rfl, by decide +kernel, ⟨tyX4, tyX4_ok⟩, nmX4, fun z => by cases z⟩
theorem g_X6_102 : om_G RX6 102 0 2 0 := ⟨2, fl_X6_102, rfl, rfl, by decide, by decide⟩
theorem g_X6_105 : om_G RX6 105 0 3 0 := ⟨3, fl_X6_105, rfl, rfl, by decide, by decide⟩
theorem g_X6_108 : om_G RX6 108 0 4 0 := ⟨4, fl_X6_108, rfl, rfl, by decide, by decide⟩
theorem p_X6_108 : om_PF RX6 108 0 4 0 .int false := ⟨4, _, _, _, fl_X6_108, rfl, rfl, by decide, by decide, rfl, by decide, by decide, rfl, by decide +kernel, ⟨tyX0, tyX0_ok⟩, nmX0, fun z => by cases z⟩
theorem g_X6_111 : om_G RX6 111 0 5 0 := ⟨5, fl_X6_111, rfl, rfl, by decide, by decide⟩
theorem p_X6_111 : om_PF RX6 111 0 5 0 .int false := ⟨5, _, _, _, fl_X6_111, rfl, rfl, by decide, by decide, rfl, by decide, by decide, rfl, by decide +kernel, ⟨tyX0, tyX0_ok⟩, nmX0, fun z => by cases z⟩
theorem g_X6_114 : om_G RX6 114 0 13 2 := ⟨13, fl_X6_114, rfl, rfl, by decide, by decide⟩
theorem p_X6_114 : om_PF RX6 114 0 13 2 (.object "OnceOnly$Ask") false := ⟨13, _, _, _, fl_X6_114, rfl, rfl, by decide, by decide, rfl, by decide, by decide, rfl, by decide +kernel, ⟨tyX0, tyX0_ok⟩, nmX0, fun z => by cases z⟩
theorem g_X6_122 : om_G RX6 122 0 14 2 := ⟨14, fl_X6_122, rfl, rfl, by decide, by decide⟩
theorem p_X6_122 : om_PF RX6 122 0 14 2 (.object "OnceOnly$Ask") false := ⟨14, _, _, _, fl_X6_122, rfl, rfl, by decide, by decide, rfl, by decide, by decide, rfl, by decide +kernel, ⟨tyX0, tyX0_ok⟩, nmX0, fun z => by cases z⟩
theorem g_X6_127 : om_G RX6 127 0 11 1 := ⟨11, fl_X6_127, rfl, rfl, by decide, by decide⟩
theorem p_X6_127 : om_PF RX6 127 0 11 1 .long false := ⟨11, _, _, _, fl_X6_127, rfl, rfl, by decide, by decide, rfl, by decide, by decide, rfl, by decide +kernel, ⟨tyX0, tyX0_ok⟩, nmX0, fun z => by cases z⟩
theorem g_X6_137 : om_G RX6 137 1 66 0 := ⟨2, fl_X6_137, rfl, rfl, by decide, by decide⟩
theorem p_X6_137 : om_PF RX6 137 1 66 0 .int false := ⟨2, _, _, _, fl_X6_137, rfl, rfl, by decide, by decide, rfl, by decide, by decide, rfl, by decide +kernel, ⟨tyX1, tyX1_ok⟩, nmX1, fun z => by cases z⟩
theorem g_X6_138 : om_G RX6 138 1 67 0 := ⟨3, fl_X6_138, rfl, rfl, by decide, by decide⟩
theorem p_X6_138 : om_PF RX6 138 1 67 0 .int false := ⟨3, _, _, _, fl_X6_138, rfl, rfl, by decide, by decide, rfl, by decide, by decide, rfl, by decide +kernel, ⟨tyX1, tyX1_ok⟩, nmX1, fun z => by cases z⟩
theorem g_X6_151 : om_G RX6 151 4 258 0 := ⟨2, fl_X6_151, rfl, rfl, by decide, by decide⟩
theorem p_X6_151 : om_PF RX6 151 4 258 0 .int false := ⟨2, _, _, _, fl_X6_151, rfl, rfl, by decide, by decide, rfl, by decide, by decide, rfl, by decide +kernel, ⟨tyX4, tyX4_ok⟩, nmX4, fun z => by cases z⟩
theorem g_X6_164 : om_G RX6 164 2 131 3 := ⟨3, fl_X6_164, rfl, rfl, by decide, by decide⟩
theorem p_X6_164 : om_PF RX6 164 2 131 3 .boolean false := ⟨3, _, _, _, fl_X6_164, rfl, rfl, by decide, by decide, rfl, by decide, by decide, rfl, by decide +kernel, ⟨tyX2, tyX2_ok⟩, nmX2, fun z => by cases z⟩
theorem g_X6_167 : om_G RX6 167 2 128 2 := ⟨0, fl_X6_167, rfl, rfl, by decide, by decide⟩
theorem p_X6_167 : om_PF RX6 167 2 128 2 (.object "OnceOnly$Ask") false := ⟨0, _, _, _, fl_X6_167, rfl, rfl, by decide, by decide, rfl, by decide, by decide, rfl, by decide +kernel, ⟨tyX2, tyX2_ok⟩, nmX2, fun z => by cases z⟩
theorem g_X6_170 : om_G RX6 170 2 129 3 := ⟨1, fl_X6_170, rfl, rfl, by decide, by decide⟩
theorem p_X6_170 : om_PF RX6 170 2 129 3 .boolean false := ⟨1, _, _, _, fl_X6_170, rfl, rfl, by decide, by decide, rfl, by decide, by decide, rfl, by decide +kernel, ⟨tyX2, tyX2_ok⟩, nmX2, fun z => by cases z⟩
theorem g_X6_173 : om_G RX6 173 2 132 0 := ⟨4, fl_X6_173, rfl, rfl, by decide, by decide⟩
theorem p_X6_173 : om_PF RX6 173 2 132 0 .int false := ⟨4, _, _, _, fl_X6_173, rfl, rfl, by decide, by decide, rfl, by decide, by decide, rfl, by decide +kernel, ⟨tyX2, tyX2_ok⟩, nmX2, fun z => by cases z⟩
theorem g_X6_176 : om_G RX6 176 2 130 3 := ⟨2, fl_X6_176, rfl, rfl, by decide, by decide⟩
theorem p_X6_176 : om_PF RX6 176 2 130 3 .boolean false := ⟨2, _, _, _, fl_X6_176, rfl, rfl, by decide, by decide, rfl, by decide, by decide, rfl, by decide +kernel, ⟨tyX2, tyX2_ok⟩, nmX2, fun z => by cases z⟩
theorem g_X6_183 : om_G RX6 183 1 64 0 := ⟨0, fl_X6_183, rfl, rfl, by decide, by decide⟩
theorem g_X6_195 : om_G RX6 195 3 193 0 := ⟨1, fl_X6_195, rfl, rfl, by decide, by decide⟩
theorem p_X6_195 : om_PF RX6 195 3 193 0 .int false := ⟨1, _, _, _, fl_X6_195, rfl, rfl, by decide, by decide, rfl, by decide, by decide, rfl, by decide +kernel, ⟨tyX3, tyX3_ok⟩, nmX3, fun z => by cases z⟩
theorem g_X6_198 : om_G RX6 198 3 194 0 := ⟨2, fl_X6_198, rfl, rfl, by decide, by decide⟩
theorem p_X6_198 : om_PF RX6 198 3 194 0 .int false := ⟨2, _, _, _, fl_X6_198, rfl, rfl, by decide, by decide, rfl, by decide, by decide, rfl, by decide +kernel, ⟨tyX3, tyX3_ok⟩, nmX3, fun z => by cases z⟩
theorem g_X6_201 : om_G RX6 201 3 195 0 := ⟨3, fl_X6_201, rfl, rfl, by decide, by decide⟩
theorem p_X6_201 : om_PF RX6 201 3 195 0 .int false := ⟨3, _, _, _, fl_X6_201, rfl, rfl, by decide, by decide, rfl, by decide, by decide, rfl, by decide +kernel, ⟨tyX3, tyX3_ok⟩, nmX3, fun z => by cases z⟩
theorem g_X6_213 : om_G RX6 213 0 12 3 := ⟨12, fl_X6_213, rfl, rfl, by decide, by decide⟩
theorem p_X6_213 : om_PF RX6 213 0 12 3 .boolean false := ⟨12, _, _, _, fl_X6_213, rfl, rfl, by decide, by decide, rfl, by decide, by decide, rfl, by decide +kernel, ⟨tyX0, tyX0_ok⟩, nmX0, fun z => by cases z⟩
theorem g_X6_229 : om_G RX6 229 6 389 0 := ⟨5, fl_X6_229, rfl, rfl, by decide, by decide⟩
theorem p_X6_229 : om_PF RX6 229 6 389 0 .int false := ⟨5, _, _, _, fl_X6_229, rfl, rfl, by decide, by decide, rfl, by decide, by decide, rfl, by decide +kernel, ⟨tyX6, tyX6_ok⟩, nmX6, fun _ => rfl⟩
theorem g_X6_235 : om_G RX6 235 4 257 0 := ⟨1, fl_X6_235, rfl, rfl, by decide, by decide⟩
theorem p_X6_235 : om_PF RX6 235 4 257 0 .int false := ⟨1, _, _, _, fl_X6_235, rfl, rfl, by decide, by decide, rfl, by decide, by decide, rfl, by decide +kernel, ⟨tyX4, tyX4_ok⟩, nmX4, fun z => by cases z⟩
theorem g_X6_238 : om_G RX6 238 6 390 0 := ⟨6, fl_X6_238, rfl, rfl, by decide, by decide⟩
theorem p_X6_238 : om_PF RX6 238 6 390 0 .int false := ⟨6, _, _, _, fl_X6_238, rfl, rfl, by decide, by decide, rfl, by decide, by decide, rfl, by decide +kernel, ⟨tyX6, tyX6_ok⟩, nmX6, fun _ => rfl⟩
theorem g_X6_252 : om_G RX6 252 0 6 0 := ⟨6, fl_X6_252, rfl, rfl, by decide, by decide⟩
theorem p_X6_252 : om_PF RX6 252 0 6 0 .int false := ⟨6, _, _, _, fl_X6_252, rfl, rfl, by decide, by decide, rfl, by decide, by decide, rfl, by decide +kernel, ⟨tyX0, tyX0_ok⟩, nmX0, fun z => by cases z⟩
theorem g_X6_255 : om_G RX6 255 0 7 0 := ⟨7, fl_X6_255, rfl, rfl, by decide, by decide⟩
theorem p_X6_255 : om_PF RX6 255 0 7 0 .int false := ⟨7, _, _, _, fl_X6_255, rfl, rfl, by decide, by decide, rfl, by decide, by decide, rfl, by decide +kernel, ⟨tyX0, tyX0_ok⟩, nmX0, fun z => by cases z⟩
theorem g_X6_258 : om_G RX6 258 0 8 0 := ⟨8, fl_X6_258, rfl, rfl, by decide, by decide⟩
theorem p_X6_258 : om_PF RX6 258 0 8 0 .int false := ⟨8, _, _, _, fl_X6_258, rfl, rfl, by decide, by decide, rfl, by decide, by decide, rfl, by decide +kernel, ⟨tyX0, tyX0_ok⟩, nmX0, fun z => by cases z⟩
theorem g_X6_261 : om_G RX6 261 0 9 0 := ⟨9, fl_X6_261, rfl, rfl, by decide, by decide⟩
theorem p_X6_261 : om_PF RX6 261 0 9 0 .int false := ⟨9, _, _, _, fl_X6_261, rfl, rfl, by decide, by decide, rfl, by decide, by decide, rfl, by decide +kernel, ⟨tyX0, tyX0_ok⟩, nmX0, fun z => by cases z⟩
theorem g_X6_289 : om_G RX6 289 2 133 1 := ⟨5, fl_X6_289, rfl, rfl, by decide, by decide⟩
theorem p_X6_289 : om_PF RX6 289 2 133 1 .long false := ⟨5, _, _, _, fl_X6_289, rfl, rfl, by decide, by decide, rfl, by decide, by decide, rfl, by decide +kernel, ⟨tyX2, tyX2_ok⟩, nmX2, fun z => by cases z⟩
theorem g_X7_7 : om_G RX7 7 7 449 2 := ⟨1, fl_X7_7, rfl, rfl, by decide, by decide⟩
theorem p_X7_7 : om_PF RX7 7 7 449 2 (.array .boolean) true := ⟨1, _, _, _, fl_X7_7, rfl, rfl, by decide, by decide, rfl, by decide, by decide, rfl, by decide +kernel, ⟨tyX7, tyX7_ok⟩, nmX7, fun _ => rfl⟩
theorem g_X7_13 : om_G RX7 13 7 450 2 := ⟨2, fl_X7_13, rfl, rfl, by decide, by decide⟩
theorem p_X7_13 : om_PF RX7 13 7 450 2 (.array .int) true := ⟨2, _, _, _, fl_X7_13, rfl, rfl, by decide, by decide, rfl, by decide, by decide, rfl, by decide +kernel, ⟨tyX7, tyX7_ok⟩, nmX7, fun _ => rfl⟩
theorem g_X7_17 : om_G RX7 17 7 451 2 := ⟨3, fl_X7_17, rfl, rfl, by decide, by decide⟩
theorem p_X7_17 : om_PF RX7 17 7 451 2 (.array .int) true := ⟨3, _, _, _, fl_X7_17, rfl, rfl, by decide, by decide, rfl, by decide, by decide, rfl, by decide +kernel, ⟨tyX7, tyX7_ok⟩, nmX7, fun _ => rfl⟩
theorem g_X7_20 : om_G RX7 20 7 452 2 := ⟨4, fl_X7_20, rfl, rfl, by decide, by decide⟩
theorem p_X7_20 : om_PF RX7 20 7 452 2 (.array .long) true := ⟨4, _, _, _, fl_X7_20, rfl, rfl, by decide, by decide, rfl, by decide, by decide, rfl, by decide +kernel, ⟨tyX7, tyX7_ok⟩, nmX7, fun _ => rfl⟩
theorem g_X7_24 : om_G RX7 24 7 454 2 := ⟨6, fl_X7_24, rfl, rfl, by decide, by decide⟩
theorem p_X7_24 : om_PF RX7 24 7 454 2 (.array .int) true := ⟨6, _, _, _, fl_X7_24, rfl, rfl, by decide, by decide, rfl, by decide, by decide, rfl, by decide +kernel, ⟨tyX7, tyX7_ok⟩, nmX7, fun _ => rfl⟩
theorem g_X7_27 : om_G RX7 27 7 455 2 := ⟨7, fl_X7_27, rfl, rfl, by decide, by decide⟩
theorem p_X7_27 : om_PF RX7 27 7 455 2 (.array .int) true := ⟨7, _, _, _, fl_X7_27, rfl, rfl, by decide, by decide, rfl, by decide, by decide, rfl, by decide +kernel, ⟨tyX7, tyX7_ok⟩, nmX7, fun _ => rfl⟩
theorem g_X7_30 : om_G RX7 30 7 456 2 := ⟨8, fl_X7_30, rfl, rfl, by decide, by decide⟩
theorem p_X7_30 : om_PF RX7 30 7 456 2 (.array .int) true := ⟨8, _, _, _, fl_X7_30, rfl, rfl, by decide, by decide, rfl, by decide, by decide, rfl, by decide +kernel, ⟨tyX7, tyX7_ok⟩, nmX7, fun _ => rfl⟩
theorem g_X7_33 : om_G RX7 33 7 457 2 := ⟨9, fl_X7_33, rfl, rfl, by decide, by decide⟩
theorem p_X7_33 : om_PF RX7 33 7 457 2 (.array .int) true := ⟨9, _, _, _, fl_X7_33, rfl, rfl, by decide, by decide, rfl, by decide, by decide, rfl, by decide +kernel, ⟨tyX7, tyX7_ok⟩, nmX7, fun _ => rfl⟩
theorem g_X7_36 : om_G RX7 36 7 458 2 := ⟨10, fl_X7_36, rfl, rfl, by decide, by decide⟩
theorem p_X7_36 : om_PF RX7 36 7 458 2 (.array .int) true := ⟨10, _, _, _, fl_X7_36, rfl, rfl, by decide, by decide, rfl, by decide, by decide, rfl, by decide +kernel, ⟨tyX7, tyX7_ok⟩, nmX7, fun _ => rfl⟩
theorem g_X7_39 : om_G RX7 39 7 459 2 := ⟨11, fl_X7_39, rfl, rfl, by decide, by decide⟩
theorem p_X7_39 : om_PF RX7 39 7 459 2 (.array .int) true := ⟨11, _, _, _, fl_X7_39, rfl, rfl, by decide, by decide, rfl, by decide, by decide, rfl, by decide +kernel, ⟨tyX7, tyX7_ok⟩, nmX7, fun _ => rfl⟩
theorem g_X7_42 : om_G RX7 42 7 460 2 := ⟨12, fl_X7_42, rfl, rfl, by decide, by decide⟩
theorem p_X7_42 : om_PF RX7 42 7 460 2 (.array .int) true := ⟨12, _, _, _, fl_X7_42, rfl, rfl, by decide, by decide, rfl, by decide, by decide, rfl, by decide +kernel, ⟨tyX7, tyX7_ok⟩, nmX7, fun _ => rfl⟩
theorem g_X7_45 : om_G RX7 45 7 461 2 := ⟨13, fl_X7_45, rfl, rfl, by decide, by decide⟩
theorem p_X7_45 : om_PF RX7 45 7 461 2 (.array .int) true := ⟨13, _, _, _, fl_X7_45, rfl, rfl, by decide, by decide, rfl, by decide, by decide, rfl, by decide +kernel, ⟨tyX7, tyX7_ok⟩, nmX7, fun _ => rfl⟩
theorem g_X7_48 : om_G RX7 48 7 462 2 := ⟨14, fl_X7_48, rfl, rfl, by decide, by decide⟩
theorem p_X7_48 : om_PF RX7 48 7 462 2 (.array .int) true := ⟨14, _, _, _, fl_X7_48, rfl, rfl, by decide, by decide, rfl, by decide, by decide, rfl, by decide +kernel, ⟨tyX7, tyX7_ok⟩, nmX7, fun _ => rfl⟩
theorem g_X7_51 : om_G RX7 51 7 463 2 := ⟨15, fl_X7_51, rfl, rfl, by decide, by decide⟩
theorem p_X7_51 : om_PF RX7 51 7 463 2 (.array .int) true := ⟨15, _, _, _, fl_X7_51, rfl, rfl, by decide, by decide, rfl, by decide, by decide, rfl, by decide +kernel, ⟨tyX7, tyX7_ok⟩, nmX7, fun _ => rfl⟩
theorem g_X7_54 : om_G RX7 54 7 464 2 := ⟨16, fl_X7_54, rfl, rfl, by decide, by decide⟩
theorem p_X7_54 : om_PF RX7 54 7 464 2 (.array .long) true := ⟨16, _, _, _, fl_X7_54, rfl, rfl, by decide, by decide, rfl, by decide, by decide, rfl, by decide +kernel, ⟨tyX7, tyX7_ok⟩, nmX7, fun _ => rfl⟩
theorem g_X7_57 : om_G RX7 57 7 465 2 := ⟨17, fl_X7_57, rfl, rfl, by decide, by decide⟩
theorem p_X7_57 : om_PF RX7 57 7 465 2 (.array .int) true := ⟨17, _, _, _, fl_X7_57, rfl, rfl, by decide, by decide, rfl, by decide, by decide, rfl, by decide +kernel, ⟨tyX7, tyX7_ok⟩, nmX7, fun _ => rfl⟩
theorem g_X7_60 : om_G RX7 60 7 466 2 := ⟨18, fl_X7_60, rfl, rfl, by decide, by decide⟩
theorem p_X7_60 : om_PF RX7 60 7 466 2 (.array .int) true := ⟨18, _, _, _, fl_X7_60, rfl, rfl, by decide, by decide, rfl, by decide, by decide, rfl, by decide +kernel, ⟨tyX7, tyX7_ok⟩, nmX7, fun _ => rfl⟩
theorem g_X7_63 : om_G RX7 63 7 467 2 := ⟨19, fl_X7_63, rfl, rfl, by decide, by decide⟩
theorem p_X7_63 : om_PF RX7 63 7 467 2 (.array .boolean) true := ⟨19, _, _, _, fl_X7_63, rfl, rfl, by decide, by decide, rfl, by decide, by decide, rfl, by decide +kernel, ⟨tyX7, tyX7_ok⟩, nmX7, fun _ => rfl⟩
theorem g_X7_66 : om_G RX7 66 7 469 2 := ⟨21, fl_X7_66, rfl, rfl, by decide, by decide⟩
theorem p_X7_66 : om_PF RX7 66 7 469 2 (.array .int) true := ⟨21, _, _, _, fl_X7_66, rfl, rfl, by decide, by decide, rfl, by decide, by decide, rfl, by decide +kernel, ⟨tyX7, tyX7_ok⟩, nmX7, fun _ => rfl⟩
theorem g_X7_69 : om_G RX7 69 7 470 2 := ⟨22, fl_X7_69, rfl, rfl, by decide, by decide⟩
theorem p_X7_69 : om_PF RX7 69 7 470 2 (.array .boolean) true := ⟨22, _, _, _, fl_X7_69, rfl, rfl, by decide, by decide, rfl, by decide, by decide, rfl, by decide +kernel, ⟨tyX7, tyX7_ok⟩, nmX7, fun _ => rfl⟩
theorem g_X7_72 : om_G RX7 72 7 471 2 := ⟨23, fl_X7_72, rfl, rfl, by decide, by decide⟩
theorem p_X7_72 : om_PF RX7 72 7 471 2 (.array .int) true := ⟨23, _, _, _, fl_X7_72, rfl, rfl, by decide, by decide, rfl, by decide, by decide, rfl, by decide +kernel, ⟨tyX7, tyX7_ok⟩, nmX7, fun _ => rfl⟩
theorem g_X7_75 : om_G RX7 75 7 472 2 := ⟨24, fl_X7_75, rfl, rfl, by decide, by decide⟩
theorem p_X7_75 : om_PF RX7 75 7 472 2 (.array .long) true := ⟨24, _, _, _, fl_X7_75, rfl, rfl, by decide, by decide, rfl, by decide, by decide, rfl, by decide +kernel, ⟨tyX7, tyX7_ok⟩, nmX7, fun _ => rfl⟩
theorem g_X7_78 : om_G RX7 78 7 473 2 := ⟨25, fl_X7_78, rfl, rfl, by decide, by decide⟩
theorem p_X7_78 : om_PF RX7 78 7 473 2 (.array .boolean) true := ⟨25, _, _, _, fl_X7_78, rfl, rfl, by decide, by decide, rfl, by decide, by decide, rfl, by decide +kernel, ⟨tyX7, tyX7_ok⟩, nmX7, fun _ => rfl⟩
theorem g_X7_81 : om_G RX7 81 7 474 2 := ⟨26, fl_X7_81, rfl, rfl, by decide, by decide⟩
theorem p_X7_81 : om_PF RX7 81 7 474 2 (.array .int) true := ⟨26, _, _, _, fl_X7_81, rfl, rfl, by decide, by decide, rfl, by decide, by decide, rfl, by decide +kernel, ⟨tyX7, tyX7_ok⟩, nmX7, fun _ => rfl⟩
theorem g_X7_84 : om_G RX7 84 7 475 2 := ⟨27, fl_X7_84, rfl, rfl, by decide, by decide⟩
theorem p_X7_84 : om_PF RX7 84 7 475 2 (.array .int) true := ⟨27, _, _, _, fl_X7_84, rfl, rfl, by decide, by decide, rfl, by decide, by decide, rfl, by decide +kernel, ⟨tyX7, tyX7_ok⟩, nmX7, fun _ => rfl⟩
theorem g_X7_87 : om_G RX7 87 7 477 2 := ⟨29, fl_X7_87, rfl, rfl, by decide, by decide⟩
theorem p_X7_87 : om_PF RX7 87 7 477 2 (.array .int) true := ⟨29, _, _, _, fl_X7_87, rfl, rfl, by decide, by decide, rfl, by decide, by decide, rfl, by decide +kernel, ⟨tyX7, tyX7_ok⟩, nmX7, fun _ => rfl⟩
theorem g_X7_90 : om_G RX7 90 7 478 2 := ⟨30, fl_X7_90, rfl, rfl, by decide, by decide⟩
theorem p_X7_90 : om_PF RX7 90 7 478 2 (.array .int) true := ⟨30, _, _, _, fl_X7_90, rfl, rfl, by decide, by decide, rfl, by decide, by decide, rfl, by decide +kernel, ⟨tyX7, tyX7_ok⟩, nmX7, fun _ => rfl⟩
theorem g_X7_93 : om_G RX7 93 7 479 2 := ⟨31, fl_X7_93, rfl, rfl, by decide, by decide⟩
theorem p_X7_93 : om_PF RX7 93 7 479 2 (.array .int) true := ⟨31, _, _, _, fl_X7_93, rfl, rfl, by decide, by decide, rfl, by decide, by decide, rfl, by decide +kernel, ⟨tyX7, tyX7_ok⟩, nmX7, fun _ => rfl⟩
theorem g_X7_96 : om_G RX7 96 7 480 2 := ⟨32, fl_X7_96, rfl, rfl, by decide, by decide⟩
theorem p_X7_96 : om_PF RX7 96 7 480 2 (.array .long) true := ⟨32, _, _, _, fl_X7_96, rfl, rfl, by decide, by decide, rfl, by decide, by decide, rfl, by decide +kernel, ⟨tyX7, tyX7_ok⟩, nmX7, fun _ => rfl⟩
theorem g_X7_99 : om_G RX7 99 7 481 2 := ⟨33, fl_X7_99, rfl, rfl, by decide, by decide⟩
theorem p_X7_99 : om_PF RX7 99 7 481 2 (.array .int) true := ⟨33, _, _, _, fl_X7_99, rfl, rfl, by decide, by decide, rfl, by decide, by decide, rfl, by decide +kernel, ⟨tyX7, tyX7_ok⟩, nmX7, fun _ => rfl⟩
theorem g_X7_102 : om_G RX7 102 7 448 0 := ⟨0, fl_X7_102, rfl, rfl, by decide, by decide⟩
theorem p_X7_102 : om_PF RX7 102 7 448 0 .int true := ⟨0, _, _, _, fl_X7_102, rfl, rfl, by decide, by decide, rfl, by decide, by decide, rfl, by decide +kernel, ⟨tyX7, tyX7_ok⟩, nmX7, fun _ => rfl⟩
theorem g_X7_106 : om_G RX7 106 7 453 0 := ⟨5, fl_X7_106, rfl, rfl, by decide, by decide⟩
theorem p_X7_106 : om_PF RX7 106 7 453 0 .int false := ⟨5, _, _, _, fl_X7_106, rfl, rfl, by decide, by decide, rfl, by decide, by decide, rfl, by decide +kernel, ⟨tyX7, tyX7_ok⟩, nmX7, fun _ => rfl⟩
theorem g_X7_117 : om_G RX7 117 7 485 3 := ⟨37, fl_X7_117, rfl, rfl, by decide, by decide⟩
theorem p_X7_117 : om_PF RX7 117 7 485 3 .boolean false := ⟨37, _, _, _, fl_X7_117, rfl, rfl, by decide, by decide, rfl, by decide, by decide, rfl, by decide +kernel, ⟨tyX7, tyX7_ok⟩, nmX7, fun _ => rfl⟩
theorem g_X7_121 : om_G RX7 121 7 486 0 := ⟨38, fl_X7_121, rfl, rfl, by decide, by decide⟩
theorem p_X7_121 : om_PF RX7 121 7 486 0 .int false := ⟨38, _, _, _, fl_X7_121, rfl, rfl, by decide, by decide, rfl, by decide, by decide, rfl, by decide +kernel, ⟨tyX7, tyX7_ok⟩, nmX7, fun _ => rfl⟩
theorem g_X7_124 : om_G RX7 124 7 468 0 := ⟨20, fl_X7_124, rfl, rfl, by decide, by decide⟩
theorem p_X7_124 : om_PF RX7 124 7 468 0 .int false := ⟨20, _, _, _, fl_X7_124, rfl, rfl, by decide, by decide, rfl, by decide, by decide, rfl, by decide +kernel, ⟨tyX7, tyX7_ok⟩, nmX7, fun _ => rfl⟩
theorem g_X7_127 : om_G RX7 127 7 483 0 := ⟨35, fl_X7_127, rfl, rfl, by decide, by decide⟩
theorem p_X7_127 : om_PF RX7 127 7 483 0 .int false := ⟨35, _, _, _, fl_X7_127, rfl, rfl, by decide, by decide, rfl, by decide, by decide, rfl, by decide +kernel, ⟨tyX7, tyX7_ok⟩, nmX7, fun _ => rfl⟩
theorem g_X7_166 : om_G RX7 166 7 476 0 := ⟨28, fl_X7_166, rfl, rfl, by decide, by decide⟩
theorem p_X7_166 : om_PF RX7 166 7 476 0 .int false := ⟨28, _, _, _, fl_X7_166, rfl, rfl, by decide, by decide, rfl, by decide, by decide, rfl, by decide +kernel, ⟨tyX7, tyX7_ok⟩, nmX7, fun _ => rfl⟩
theorem g_X7_212 : om_G RX7 212 7 487 3 := ⟨39, fl_X7_212, rfl, rfl, by decide, by decide⟩
theorem p_X7_212 : om_PF RX7 212 7 487 3 .boolean false := ⟨39, _, _, _, fl_X7_212, rfl, rfl, by decide, by decide, rfl, by decide, by decide, rfl, by decide +kernel, ⟨tyX7, tyX7_ok⟩, nmX7, fun _ => rfl⟩
theorem g_X7_215 : om_G RX7 215 7 484 0 := ⟨36, fl_X7_215, rfl, rfl, by decide, by decide⟩
theorem p_X7_215 : om_PF RX7 215 7 484 0 .int false := ⟨36, _, _, _, fl_X7_215, rfl, rfl, by decide, by decide, rfl, by decide, by decide, rfl, by decide +kernel, ⟨tyX7, tyX7_ok⟩, nmX7, fun _ => rfl⟩
theorem g_X7_222 : om_G RX7 222 7 482 0 := ⟨34, fl_X7_222, rfl, rfl, by decide, by decide⟩
theorem p_X7_222 : om_PF RX7 222 7 482 0 .int false := ⟨34, _, _, _, fl_X7_222, rfl, rfl, by decide, by decide, rfl, by decide, by decide, rfl, by decide +kernel, ⟨tyX7, tyX7_ok⟩, nmX7, fun _ => rfl⟩
