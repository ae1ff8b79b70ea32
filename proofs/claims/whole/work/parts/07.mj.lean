/-! the reference's state: its numbers by field, its arrays by field and index -/
abbrev Ms : Type := (Nat → Int32) × (Nat → Nat → Int32) × (Nat → Nat → Int64)
def mI (S : Ms) : Nat → Int32 := S.1
def mT (S : Ms) : Nat → Nat → Int32 := S.2.1
def mJ (S : Ms) : Nat → Nat → Int64 := S.2.2
def pI (S : Ms) (f : Nat) (v : Int32) : Ms := (up1 S.1 f v, S.2.1, S.2.2)
def pT (S : Ms) (f j : Nat) (v : Int32) : Ms := (S.1, up2 S.2.1 f j v, S.2.2)
def pJ (S : Ms) (f j : Nat) (v : Int64) : Ms := (S.1, S.2.1, up2 S.2.2 f j v)
def mAs : List Nat := [449, 450, 451, 452, 454, 455, 456, 457, 458, 459, 460, 461, 462, 463, 464, 465, 466, 467, 469, 470, 471, 472, 473, 474, 475, 477, 478, 479, 480, 481]
def mq (f : Nat) : Nat := if f ∈ ([449, 467, 470, 473] : List Nat) then 2 else if f ∈ ([452, 464, 472, 480] : List Nat) then 1 else 0
def mr (f : Nat) : Nat := 16 + 8 * f + mq f
def ml (f : Nat) : Nat := if f < 452 then 10 else if f = 452 then 24 else if f < 468 then 300 else if f < 474 then 121 else if f < 476 then 40 else 700
theorem mq_lt (f : Nat) : mq f < 8 := by unfold mq; split; decide; split <;> decide
theorem mr_inj {f g : Nat} (h : mr f = mr g) : f = g := by
  have h1 := mq_lt f
  have h2 := mq_lt g
  unfold mr at h
  omega
theorem mr_ge {f : Nat} (h : 400 ≤ f) : 3000 ≤ mr f := by unfold mr; omega
/-- y: the object's address, its arrays' addresses by field -/
abbrev om_y : Type := Nat × (Nat → Nat)
def MI (y : om_y) (h : Hp) : Prop := hK h y.1 = 8 ∧ ∀ f ∈ mAs, hR h f y.1 = some (y.2 f) ∧ hK h (y.2 f) = mr f ∧ hN h (y.2 f) = ml f
def RepM (y : om_y) (S : Ms) (h : Hp) : Prop := MI y h ∧ (∀ f, 448 ≤ f → hI h f y.1 = mI S f) ∧ (∀ f j, f ∈ mAs → aI h (mr f) (y.2 f) j = mT S f j) ∧ (∀ f j, f ∈ mAs → aJ h (mr f) (y.2 f) j = mJ S f j)
/-- what the reference leaves as it is -/
def FM (y : om_y) (h0 h : Hp) : Prop := hK h = hK h0 ∧ hN h = hN h0 ∧ hJ h = hJ h0 ∧ hR h = hR h0 ∧ aR h = aR h0 ∧ (∀ g b, b ≠ y.1 → hI h g b = hI h0 g b) ∧ (∀ t a, t < 3000 → aI h t a = aI h0 t a) ∧ (∀ t a, t < 3000 → aJ h t a = aJ h0 t a)
theorem FM.rf {y : om_y} {h : Hp} : FM y h h := ⟨rfl, rfl, rfl, rfl, rfl, fun _ _ _ => rfl, fun _ _ _ => rfl, fun _ _ _ => rfl⟩
def Mq (y : om_y) (h0 : Hp) (Q : Option Value → Ms → Prop) : Option Value → Hp → Prop := fun v h' => ∃ S', RepM y S' h' ∧ FM y h0 h' ∧ Q v S'
def MJ (x : om_x) (y : om_y) (h0 : Hp) (d : Nat) (Q : Option Value → Ms → Prop) (k : om_k) (pc : Nat) (L : List (Nat × Value)) (st : List Value) (S : Ms) : Prop :=
  ∀ h, RepM y S h → FM y h0 h → J x (om_m x d 0 0 (Mq y h0 Q)) k pc L st h 0 0
def MM (x : om_x) (y : om_y) (d : Nat) (k : om_k) (as : List Value) (S : Ms) (Q : Option Value → Ms → Prop) : Prop := ∀ h0 h, RepM y S h → FM y h0 h → Mt x d k 0 0 as h (Mq y h0 Q)
theorem RepM_sI {y : om_y} {S : Ms} {h : Hp} {f : Nat} {v : Int32} (hr : RepM y S h) : RepM y (pI S f v) (sI h f y.1 v) := by
  refine ⟨hr.1, fun g hg => ?_, hr.2.2.1, hr.2.2.2⟩
  have := hr.2.1 g hg
  simp only [hI, mI, pI, sI, up2, up1] at this ⊢
  by_cases e : g = f <;> simp [e, this]
theorem RepM_tI {y : om_y} {S : Ms} {h : Hp} {f j : Nat} {v : Int32} (hf : 400 ≤ f) (hr : RepM y S h) : RepM y (pT S f j v) (tI h (mr f) (y.2 f) j v) := by
  refine ⟨hr.1, hr.2.1, fun g i hg => ?_, hr.2.2.2⟩
  have := hr.2.2.1 g i hg
  simp only [aI, mT, pT, tI, up2, up3] at this ⊢
  by_cases e : g = f
  · subst e; simp [this]
  · have e2 : ¬ mr g = mr f := fun z => e (mr_inj z)
    simp [e, e2, this]
theorem RepM_tJ {y : om_y} {S : Ms} {h : Hp} {f j : Nat} {v : Int64} (hf : 400 ≤ f) (hr : RepM y S h) : RepM y (pJ S f j v) (tJ h (mr f) (y.2 f) j v) := by
  refine ⟨hr.1, hr.2.1, hr.2.2.1, fun g i hg => ?_⟩
  have := hr.2.2.2 g i hg
  simp only [aJ, mJ, pJ, tJ, up2, up3] at this ⊢
  by_cases e : g = f
  · subst e; simp [this]
  · have e2 : ¬ mr g = mr f := fun z => e (mr_inj z)
    simp [e, e2, this]
theorem FM_sI {y : om_y} {h0 h : Hp} {f : Nat} {v : Int32} (hr : FM y h0 h) : FM y h0 (sI h f y.1 v) := by
  refine ⟨hr.1, hr.2.1, hr.2.2.1, hr.2.2.2.1, hr.2.2.2.2.1, fun g b hb => ?_, hr.2.2.2.2.2.2⟩
  have := hr.2.2.2.2.2.1 g b hb
  rw [← this]
  simp [hI, sI, up2, hb]
theorem FM_tI {y : om_y} {h0 h : Hp} {f a j : Nat} {v : Int32} (hf : 400 ≤ f) (hr : FM y h0 h) : FM y h0 (tI h (mr f) a j v) := by
  refine ⟨hr.1, hr.2.1, hr.2.2.1, hr.2.2.2.1, hr.2.2.2.2.1, hr.2.2.2.2.2.1, fun t b ht => ?_, hr.2.2.2.2.2.2.2⟩
  have := hr.2.2.2.2.2.2.1 t b ht
  rw [← this]
  have e : ¬ t = mr f := by have := mr_ge hf; omega
  funext i
  simp [aI, tI, up3, e]
theorem FM_tJ {y : om_y} {h0 h : Hp} {f a j : Nat} {v : Int64} (hf : 400 ≤ f) (hr : FM y h0 h) : FM y h0 (tJ h (mr f) a j v) := by
  refine ⟨hr.1, hr.2.1, hr.2.2.1, hr.2.2.2.1, hr.2.2.2.2.1, hr.2.2.2.2.2.1, hr.2.2.2.2.2.2.1, fun t b ht => ?_⟩
  have := hr.2.2.2.2.2.2.2 t b ht
  rw [← this]
  have e : ¬ t = mr f := by have := mr_ge hf; omega
  funext i
  simp [aJ, tJ, up3, e]
section MJR
variable {x : om_x} {y : om_y} {h0 : Hp} {d : Nat} {Q : Option Value → Ms → Prop} {k : om_k} {pc : Nat} {L : List (Nat × Value)} {st : List Value} {S : Ms}
theorem MJ_loc (L' : List (Nat × Value)) (hl : L'.map (fun q => lk L q.1) = L'.map (fun q => some q.2)) (kk : MJ x y h0 d Q k pc L' st S) : MJ x y h0 d Q k pc L st S := fun h hr hF => J_loc L' hl (kk h hr hF)
theorem MJ_S {S' : Ms} (e : S = S') (kk : MJ x y h0 d Q k pc L st S') : MJ x y h0 d Q k pc L st S := by rw [e]; exact kk
theorem MJ_pc {pc' : Nat} (e : pc = pc') (kk : MJ x y h0 d Q k pc' L st S) : MJ x y h0 d Q k pc L st S := by rw [e]; exact kk
theorem MJ_st {st' : List Value} (e : st = st') (kk : MJ x y h0 d Q k pc L st' S) : MJ x y h0 d Q k pc L st S := by rw [e]; exact kk
theorem MJ_iconst {n : Int} {v : Int32} (hd : decode k.2.1 pc = .ok (.iconst n, 1)) (hv : Int32.ofInt n = v) (kk : MJ x y h0 d Q k (pc + 1) L (.int v :: st) S) : MJ x y h0 d Q k pc L (st) S := fun h hr hF => J_iconst hd hv (kk h hr hF)
theorem MJ_bipush {n : Int} {v : Int32} (hd : decode k.2.1 pc = .ok (.bipush n, 2)) (hv : (Int8.ofInt n).toInt32 = v) (kk : MJ x y h0 d Q k (pc + 2) L (.int v :: st) S) : MJ x y h0 d Q k pc L (st) S := fun h hr hF => J_bipush hd hv (kk h hr hF)
theorem MJ_sipush {n : Int} {v : Int32} (hd : decode k.2.1 pc = .ok (.sipush n, 3)) (hv : (Int16.ofInt n).toInt32 = v) (kk : MJ x y h0 d Q k (pc + 3) L (.int v :: st) S) : MJ x y h0 d Q k pc L (st) S := fun h hr hF => J_sipush hd hv (kk h hr hF)
theorem MJ_lconst {n : Fin 2} {v : Int64} (hd : decode k.2.1 pc = .ok (.lconst n, 1)) (hv : Int64.ofNat (n : Nat) = v) (kk : MJ x y h0 d Q k (pc + 1) L (.long v :: st) S) : MJ x y h0 d Q k pc L (st) S := fun h hr hF => J_lconst hd hv (kk h hr hF)
theorem MJ_ldc {i : Nat} {v : Int32} (hd : decode k.2.1 pc = .ok (.ldc i, 2)) (hc : Cond.constant k.1.cls i v ∈ om_tb) (kk : MJ x y h0 d Q k (pc + 2) L (.int v :: st) S) : MJ x y h0 d Q k pc L st S := fun h hr hF => J_ldc hd hc (kk h hr hF)
theorem MJ_ldc2 {i : Nat} {v : Int64} (hd : decode k.2.1 pc = .ok (.ldc2_w i, 3)) (hc : Cond.constantLong k.1.cls i v ∈ om_tb) (kk : MJ x y h0 d Q k (pc + 3) L (.long v :: st) S) : MJ x y h0 d Q k pc L st S := fun h hr hF => J_ldc2 hd hc (kk h hr hF)
theorem MJ_iload_n {n : Fin 4} {i : Nat} {v : Int32} (hd : decode k.2.1 pc = .ok (.iload_n n, 1)) (hi : (n : Nat) = i) (hl : lk L i = some (.int v)) (kk : MJ x y h0 d Q k (pc + 1) L (.int v :: st) S) : MJ x y h0 d Q k pc L (st) S := fun h hr hF => J_iload_n hd hi hl (kk h hr hF)
theorem MJ_iload {i : Nat} {v : Int32} (hd : decode k.2.1 pc = .ok (.iload i, 2)) (hl : lk L i = some (.int v)) (kk : MJ x y h0 d Q k (pc + 2) L (.int v :: st) S) : MJ x y h0 d Q k pc L (st) S := fun h hr hF => J_iload hd hl (kk h hr hF)
theorem MJ_lload_n {n : Fin 4} {i : Nat} {v : Int64} (hd : decode k.2.1 pc = .ok (.lload_n n, 1)) (hi : (n : Nat) = i) (hl : lk L i = some (.long v)) (kk : MJ x y h0 d Q k (pc + 1) L (.long v :: st) S) : MJ x y h0 d Q k pc L (st) S := fun h hr hF => J_lload_n hd hi hl (kk h hr hF)
theorem MJ_lload {i : Nat} {v : Int64} (hd : decode k.2.1 pc = .ok (.lload i, 2)) (hl : lk L i = some (.long v)) (kk : MJ x y h0 d Q k (pc + 2) L (.long v :: st) S) : MJ x y h0 d Q k pc L (st) S := fun h hr hF => J_lload hd hl (kk h hr hF)
theorem MJ_aload_n {n : Fin 4} {i : Nat} {v : Value} (hd : decode k.2.1 pc = .ok (.aload_n n, 1)) (hi : (n : Nat) = i) (hl : lk L i = some v) (hv : isR v) (kk : MJ x y h0 d Q k (pc + 1) L (v :: st) S) : MJ x y h0 d Q k pc L st S := fun h hr hF => J_aload_n hd hi hl hv (kk h hr hF)
theorem MJ_aload {i : Nat} {v : Value} (hd : decode k.2.1 pc = .ok (.aload i, 2)) (hl : lk L i = some v) (hv : isR v) (kk : MJ x y h0 d Q k (pc + 2) L (v :: st) S) : MJ x y h0 d Q k pc L st S := fun h hr hF => J_aload hd hl hv (kk h hr hF)
theorem MJ_istore_n {n : Fin 4} {i : Nat} {v : Int32} (hd : decode k.2.1 pc = .ok (.istore_n n, 1)) (hi : (n : Nat) = i) (hn : i < k.2.2.1) (kk : MJ x y h0 d Q k (pc + 1) (st1 i (.int v) L) st S) : MJ x y h0 d Q k pc L (.int v :: st) S := fun h hr hF => J_istore_n hd hi hn (kk h hr hF)
theorem MJ_istore {i : Nat} {v : Int32} (hd : decode k.2.1 pc = .ok (.istore i, 2)) (hn : i < k.2.2.1) (kk : MJ x y h0 d Q k (pc + 2) (st1 i (.int v) L) st S) : MJ x y h0 d Q k pc L (.int v :: st) S := fun h hr hF => J_istore hd hn (kk h hr hF)
theorem MJ_lstore_n {n : Fin 4} {i : Nat} {v : Int64} (hd : decode k.2.1 pc = .ok (.lstore_n n, 1)) (hi : (n : Nat) = i) (hn : i + 1 < k.2.2.1) (kk : MJ x y h0 d Q k (pc + 1) (st2 i (.long v) L) st S) : MJ x y h0 d Q k pc L (.long v :: st) S := fun h hr hF => J_lstore_n hd hi hn (kk h hr hF)
theorem MJ_lstore {i : Nat} {v : Int64} (hd : decode k.2.1 pc = .ok (.lstore i, 2)) (hn : i + 1 < k.2.2.1) (kk : MJ x y h0 d Q k (pc + 2) (st2 i (.long v) L) st S) : MJ x y h0 d Q k pc L (.long v :: st) S := fun h hr hF => J_lstore hd hn (kk h hr hF)
theorem MJ_astore_n {n : Fin 4} {i : Nat} {v : Value} (hd : decode k.2.1 pc = .ok (.astore_n n, 1)) (hi : (n : Nat) = i) (hv : isR v) (hn : i < k.2.2.1) (kk : MJ x y h0 d Q k (pc + 1) (st1 i v L) st S) : MJ x y h0 d Q k pc L (v :: st) S := fun h hr hF => J_astore_n hd hi hv hn (kk h hr hF)
theorem MJ_astore {i : Nat} {v : Value} (hd : decode k.2.1 pc = .ok (.astore i, 2)) (hv : isR v) (hn : i < k.2.2.1) (kk : MJ x y h0 d Q k (pc + 2) (st1 i v L) st S) : MJ x y h0 d Q k pc L (v :: st) S := fun h hr hF => J_astore hd hv hn (kk h hr hF)
theorem MJ_iinc {i : Nat} {n : Int} {a v : Int32} (hd : decode k.2.1 pc = .ok (.iinc i n, 3)) (hl : lk L i = some (.int a)) (hv : a + Int32.ofInt n = v) (hn : i < k.2.2.1) (kk : MJ x y h0 d Q k (pc + 3) (st1 i (.int v) L) st S) : MJ x y h0 d Q k pc L st S := fun h hr hF => J_iinc hd hl hv hn (kk h hr hF)
theorem MJ_iadd {a b : Int32} (hd : decode k.2.1 pc = .ok (.iadd, 1)) (kk : MJ x y h0 d Q k (pc + 1) L (.int (a + b) :: st) S) : MJ x y h0 d Q k pc L (.int b :: .int a :: st) S := fun h hr hF => J_iadd hd (kk h hr hF)
theorem MJ_isub {a b : Int32} (hd : decode k.2.1 pc = .ok (.isub, 1)) (kk : MJ x y h0 d Q k (pc + 1) L (.int (a - b) :: st) S) : MJ x y h0 d Q k pc L (.int b :: .int a :: st) S := fun h hr hF => J_isub hd (kk h hr hF)
theorem MJ_imul {a b : Int32} (hd : decode k.2.1 pc = .ok (.imul, 1)) (kk : MJ x y h0 d Q k (pc + 1) L (.int (a * b) :: st) S) : MJ x y h0 d Q k pc L (.int b :: .int a :: st) S := fun h hr hF => J_imul hd (kk h hr hF)
theorem MJ_iand {a b : Int32} (hd : decode k.2.1 pc = .ok (.iand, 1)) (kk : MJ x y h0 d Q k (pc + 1) L (.int (a &&& b) :: st) S) : MJ x y h0 d Q k pc L (.int b :: .int a :: st) S := fun h hr hF => J_iand hd (kk h hr hF)
theorem MJ_ladd {a b : Int64} (hd : decode k.2.1 pc = .ok (.ladd, 1)) (kk : MJ x y h0 d Q k (pc + 1) L (.long (a + b) :: st) S) : MJ x y h0 d Q k pc L (.long b :: .long a :: st) S := fun h hr hF => J_ladd hd (kk h hr hF)
theorem MJ_lsub {a b : Int64} (hd : decode k.2.1 pc = .ok (.lsub, 1)) (kk : MJ x y h0 d Q k (pc + 1) L (.long (a - b) :: st) S) : MJ x y h0 d Q k pc L (.long b :: .long a :: st) S := fun h hr hF => J_lsub hd (kk h hr hF)
theorem MJ_lmul {a b : Int64} (hd : decode k.2.1 pc = .ok (.lmul, 1)) (kk : MJ x y h0 d Q k (pc + 1) L (.long (a * b) :: st) S) : MJ x y h0 d Q k pc L (.long b :: .long a :: st) S := fun h hr hF => J_lmul hd (kk h hr hF)
theorem MJ_land {a b : Int64} (hd : decode k.2.1 pc = .ok (.land, 1)) (kk : MJ x y h0 d Q k (pc + 1) L (.long (a &&& b) :: st) S) : MJ x y h0 d Q k pc L (.long b :: .long a :: st) S := fun h hr hF => J_land hd (kk h hr hF)
theorem MJ_lor {a b : Int64} (hd : decode k.2.1 pc = .ok (.lor, 1)) (kk : MJ x y h0 d Q k (pc + 1) L (.long (a ||| b) :: st) S) : MJ x y h0 d Q k pc L (.long b :: .long a :: st) S := fun h hr hF => J_lor hd (kk h hr hF)
theorem MJ_ineg {a : Int32} (hd : decode k.2.1 pc = .ok (.ineg, 1)) (kk : MJ x y h0 d Q k (pc + 1) L (.int (0 - a) :: st) S) : MJ x y h0 d Q k pc L (.int a :: st) S := fun h hr hF => J_ineg hd (kk h hr hF)
theorem MJ_lneg {a : Int64} (hd : decode k.2.1 pc = .ok (.lneg, 1)) (kk : MJ x y h0 d Q k (pc + 1) L (.long (0 - a) :: st) S) : MJ x y h0 d Q k pc L (.long a :: st) S := fun h hr hF => J_lneg hd (kk h hr hF)
theorem MJ_i2l {a : Int32} (hd : decode k.2.1 pc = .ok (.i2l, 1)) (kk : MJ x y h0 d Q k (pc + 1) L (.long a.toInt64 :: st) S) : MJ x y h0 d Q k pc L (.int a :: st) S := fun h hr hF => J_i2l hd (kk h hr hF)
theorem MJ_lshl {a : Int64} {b : Int32} (hd : decode k.2.1 pc = .ok (.lshl, 1)) (kk : MJ x y h0 d Q k (pc + 1) L (.long (a <<< (b.toInt64 &&& 63)) :: st) S) : MJ x y h0 d Q k pc L (.int b :: .long a :: st) S := fun h hr hF => J_lshl hd (kk h hr hF)
theorem MJ_lcmp {a b : Int64} (hd : decode k.2.1 pc = .ok (.lcmp, 1)) (kk : MJ x y h0 d Q k (pc + 1) L (.int (lg_cmp a b) :: st) S) : MJ x y h0 d Q k pc L (.long b :: .long a :: st) S := fun h hr hF => J_lcmp hd (kk h hr hF)
theorem MJ_dup {v : Value} (hd : decode k.2.1 pc = .ok (.dup, 1)) (hv : v.category = 1) (kk : MJ x y h0 d Q k (pc + 1) L (v :: v :: st) S) : MJ x y h0 d Q k pc L (v :: st) S := fun h hr hF => J_dup hd hv (kk h hr hF)
theorem MJ_pop {v : Value} (hd : decode k.2.1 pc = .ok (.pop, 1)) (hv : v.category = 1) (kk : MJ x y h0 d Q k (pc + 1) L (st) S) : MJ x y h0 d Q k pc L (v :: st) S := fun h hr hF => J_pop hd hv (kk h hr hF)
theorem MJ_dup2 {v u : Value} (hd : decode k.2.1 pc = .ok (.dup2, 1)) (hv : v.category = 1) (hu : u.category = 1) (kk : MJ x y h0 d Q k (pc + 1) L (v :: u :: v :: u :: st) S) : MJ x y h0 d Q k pc L (v :: u :: st) S := fun h hr hF => J_dup2 hd hv hu (kk h hr hF)
theorem MJ_null (hd : decode k.2.1 pc = .ok (.aconst_null, 1)) (kk : MJ x y h0 d Q k (pc + 1) L (.null :: st) S) : MJ x y h0 d Q k pc L (st) S := fun h hr hF => J_null hd (kk h hr hF)
theorem MJ_if_eq {a : Int32} {off : Int} {tgt : Nat} (hd : decode k.2.1 pc = .ok (.ifCond .eq off, 3)) (ht : (pc : Int) + off = (tgt : Int)) (kt : a = 0 → MJ x y h0 d Q k tgt L st S) (kf : ¬ (a = 0) → MJ x y h0 d Q k (pc + 3) L st S) : MJ x y h0 d Q k pc L (.int a :: st) S := fun h hr hF => J_if_eq hd ht (fun z => kt z h hr hF) (fun z => kf z h hr hF)
theorem MJ_icmp_eq {a b : Int32} {off : Int} {tgt : Nat} (hd : decode k.2.1 pc = .ok (.if_icmp .eq off, 3)) (ht : (pc : Int) + off = (tgt : Int)) (kt : a = b → MJ x y h0 d Q k tgt L st S) (kf : ¬ (a = b) → MJ x y h0 d Q k (pc + 3) L st S) : MJ x y h0 d Q k pc L (.int b :: .int a :: st) S := fun h hr hF => J_icmp_eq hd ht (fun z => kt z h hr hF) (fun z => kf z h hr hF)
theorem MJ_if_ne {a : Int32} {off : Int} {tgt : Nat} (hd : decode k.2.1 pc = .ok (.ifCond .ne off, 3)) (ht : (pc : Int) + off = (tgt : Int)) (kt : ¬ a = 0 → MJ x y h0 d Q k tgt L st S) (kf : a = 0 → MJ x y h0 d Q k (pc + 3) L st S) : MJ x y h0 d Q k pc L (.int a :: st) S := fun h hr hF => J_if_ne hd ht (fun z => kt z h hr hF) (fun z => kf z h hr hF)
theorem MJ_icmp_ne {a b : Int32} {off : Int} {tgt : Nat} (hd : decode k.2.1 pc = .ok (.if_icmp .ne off, 3)) (ht : (pc : Int) + off = (tgt : Int)) (kt : ¬ a = b → MJ x y h0 d Q k tgt L st S) (kf : a = b → MJ x y h0 d Q k (pc + 3) L st S) : MJ x y h0 d Q k pc L (.int b :: .int a :: st) S := fun h hr hF => J_icmp_ne hd ht (fun z => kt z h hr hF) (fun z => kf z h hr hF)
theorem MJ_if_lt {a : Int32} {off : Int} {tgt : Nat} (hd : decode k.2.1 pc = .ok (.ifCond .lt off, 3)) (ht : (pc : Int) + off = (tgt : Int)) (kt : a < 0 → MJ x y h0 d Q k tgt L st S) (kf : ¬ (a < 0) → MJ x y h0 d Q k (pc + 3) L st S) : MJ x y h0 d Q k pc L (.int a :: st) S := fun h hr hF => J_if_lt hd ht (fun z => kt z h hr hF) (fun z => kf z h hr hF)
theorem MJ_icmp_lt {a b : Int32} {off : Int} {tgt : Nat} (hd : decode k.2.1 pc = .ok (.if_icmp .lt off, 3)) (ht : (pc : Int) + off = (tgt : Int)) (kt : a < b → MJ x y h0 d Q k tgt L st S) (kf : ¬ (a < b) → MJ x y h0 d Q k (pc + 3) L st S) : MJ x y h0 d Q k pc L (.int b :: .int a :: st) S := fun h hr hF => J_icmp_lt hd ht (fun z => kt z h hr hF) (fun z => kf z h hr hF)
theorem MJ_if_ge {a : Int32} {off : Int} {tgt : Nat} (hd : decode k.2.1 pc = .ok (.ifCond .ge off, 3)) (ht : (pc : Int) + off = (tgt : Int)) (kt : 0 ≤ a → MJ x y h0 d Q k tgt L st S) (kf : ¬ (0 ≤ a) → MJ x y h0 d Q k (pc + 3) L st S) : MJ x y h0 d Q k pc L (.int a :: st) S := fun h hr hF => J_if_ge hd ht (fun z => kt z h hr hF) (fun z => kf z h hr hF)
theorem MJ_icmp_ge {a b : Int32} {off : Int} {tgt : Nat} (hd : decode k.2.1 pc = .ok (.if_icmp .ge off, 3)) (ht : (pc : Int) + off = (tgt : Int)) (kt : b ≤ a → MJ x y h0 d Q k tgt L st S) (kf : ¬ (b ≤ a) → MJ x y h0 d Q k (pc + 3) L st S) : MJ x y h0 d Q k pc L (.int b :: .int a :: st) S := fun h hr hF => J_icmp_ge hd ht (fun z => kt z h hr hF) (fun z => kf z h hr hF)
theorem MJ_if_gt {a : Int32} {off : Int} {tgt : Nat} (hd : decode k.2.1 pc = .ok (.ifCond .gt off, 3)) (ht : (pc : Int) + off = (tgt : Int)) (kt : 0 < a → MJ x y h0 d Q k tgt L st S) (kf : ¬ (0 < a) → MJ x y h0 d Q k (pc + 3) L st S) : MJ x y h0 d Q k pc L (.int a :: st) S := fun h hr hF => J_if_gt hd ht (fun z => kt z h hr hF) (fun z => kf z h hr hF)
theorem MJ_icmp_gt {a b : Int32} {off : Int} {tgt : Nat} (hd : decode k.2.1 pc = .ok (.if_icmp .gt off, 3)) (ht : (pc : Int) + off = (tgt : Int)) (kt : b < a → MJ x y h0 d Q k tgt L st S) (kf : ¬ (b < a) → MJ x y h0 d Q k (pc + 3) L st S) : MJ x y h0 d Q k pc L (.int b :: .int a :: st) S := fun h hr hF => J_icmp_gt hd ht (fun z => kt z h hr hF) (fun z => kf z h hr hF)
theorem MJ_if_le {a : Int32} {off : Int} {tgt : Nat} (hd : decode k.2.1 pc = .ok (.ifCond .le off, 3)) (ht : (pc : Int) + off = (tgt : Int)) (kt : a ≤ 0 → MJ x y h0 d Q k tgt L st S) (kf : ¬ (a ≤ 0) → MJ x y h0 d Q k (pc + 3) L st S) : MJ x y h0 d Q k pc L (.int a :: st) S := fun h hr hF => J_if_le hd ht (fun z => kt z h hr hF) (fun z => kf z h hr hF)
theorem MJ_icmp_le {a b : Int32} {off : Int} {tgt : Nat} (hd : decode k.2.1 pc = .ok (.if_icmp .le off, 3)) (ht : (pc : Int) + off = (tgt : Int)) (kt : a ≤ b → MJ x y h0 d Q k tgt L st S) (kf : ¬ (a ≤ b) → MJ x y h0 d Q k (pc + 3) L st S) : MJ x y h0 d Q k pc L (.int b :: .int a :: st) S := fun h hr hF => J_icmp_le hd ht (fun z => kt z h hr hF) (fun z => kf z h hr hF)
theorem MJ_goto {off : Int} {tgt : Nat} (hd : decode k.2.1 pc = .ok (.goto off, 3)) (ht : (pc : Int) + off = (tgt : Int)) (kk : MJ x y h0 d Q k tgt L st S) : MJ x y h0 d Q k pc L st S := fun h hr hF => J_goto hd ht (kk h hr hF)
theorem MJ_ifnull_r {a : Nat} {off : Int} (hd : decode k.2.1 pc = .ok (.ifnull off, 3)) (kk : MJ x y h0 d Q k (pc + 3) L st S) : MJ x y h0 d Q k pc L (.ref a :: st) S := fun h hr hF => J_ifnull_r hd (kk h hr hF)
theorem MJ_ifnull_n {off : Int} {tgt : Nat} (hd : decode k.2.1 pc = .ok (.ifnull off, 3)) (ht : (pc : Int) + off = (tgt : Int)) (kk : MJ x y h0 d Q k tgt L st S) : MJ x y h0 d Q k pc L (.null :: st) S := fun h hr hF => J_ifnull_n hd ht (kk h hr hF)
theorem MJ_ifnonnull_r {a : Nat} {off : Int} {tgt : Nat} (hd : decode k.2.1 pc = .ok (.ifnonnull off, 3)) (ht : (pc : Int) + off = (tgt : Int)) (kk : MJ x y h0 d Q k tgt L st S) : MJ x y h0 d Q k pc L (.ref a :: st) S := fun h hr hF => J_ifnonnull_r hd ht (kk h hr hF)
theorem MJ_ifnonnull_n {off : Int} (hd : decode k.2.1 pc = .ok (.ifnonnull off, 3)) (kk : MJ x y h0 d Q k (pc + 3) L st S) : MJ x y h0 d Q k pc L (.null :: st) S := fun h hr hF => J_ifnonnull_n hd (kk h hr hF)
theorem MJ_ifnull_w {w : Option Nat} {off : Int} {tgt : Nat} (hd : decode k.2.1 pc = .ok (.ifnull off, 3)) (ht : (pc : Int) + off = (tgt : Int)) (kt : w = none → MJ x y h0 d Q k tgt L st S) (kf : ∀ a, w = some a → MJ x y h0 d Q k (pc + 3) L st S) : MJ x y h0 d Q k pc L (va_rf w :: st) S := fun h hr hF => J_ifnull_w hd ht (fun z => kt z h hr hF) (fun a z => kf a z h hr hF)
theorem MJ_ifnonnull_w {w : Option Nat} {off : Int} {tgt : Nat} (hd : decode k.2.1 pc = .ok (.ifnonnull off, 3)) (ht : (pc : Int) + off = (tgt : Int)) (kt : ∀ a, w = some a → MJ x y h0 d Q k tgt L st S) (kf : w = none → MJ x y h0 d Q k (pc + 3) L st S) : MJ x y h0 d Q k pc L (va_rf w :: st) S := fun h hr hF => J_ifnonnull_w hd ht (fun a z => kt a z h hr hF) (fun z => kf z h hr hF)
theorem MJ_tswIn {dflt lo hi : Int} {offs : Array Int} {len : Nat} {a : Int32} {off : Int} {tgt : Nat} (hd : decode k.2.1 pc = .ok (.tableswitch dflt lo hi offs, len)) (h1 : ¬ a.toInt < lo) (h2 : ¬ hi < a.toInt) (ho : offs[(a.toInt - lo).toNat]? = some off) (ht : (pc : Int) + off = (tgt : Int)) (kk : MJ x y h0 d Q k tgt L st S) : MJ x y h0 d Q k pc L (.int a :: st) S := fun h hr hF => J_tswIn hd h1 h2 ho ht (kk h hr hF)
theorem MJ_tswOut {dflt lo hi : Int} {offs : Array Int} {len : Nat} {a : Int32} {tgt : Nat} (hd : decode k.2.1 pc = .ok (.tableswitch dflt lo hi offs, len)) (h1 : a.toInt < lo ∨ hi < a.toInt) (ht : (pc : Int) + dflt = (tgt : Int)) (kk : MJ x y h0 d Q k tgt L st S) : MJ x y h0 d Q k pc L (.int a :: st) S := fun h hr hF => J_tswOut hd h1 ht (kk h hr hF)
theorem MJ_lsw {dflt : Int} {ps : Array (Int × Int)} {len : Nat} {a : Int32} {off : Int} {tgt : Nat} (hd : decode k.2.1 pc = .ok (.lookupswitch dflt ps, len)) (hp : (ps.toList.zip (ps.toList.drop 1)).all (fun (a, next) => a.1 < next.1) = true) (ho : Op.lookupswitch.offset ps.toList dflt a.toInt = off) (ht : (pc : Int) + off = (tgt : Int)) (kk : MJ x y h0 d Q k tgt L st S) : MJ x y h0 d Q k pc L (.int a :: st) S := fun h hr hF => J_lsw hd hp ho ht (kk h hr hF)
theorem MJ_getI {idx fid ty : Nat} (hd : decode k.2.1 pc = .ok (.getfield idx, 3)) (hf : om_G k.1.cls idx 7 fid ty) (kk : MJ x y h0 d Q k (pc + 3) L (.int (mI S fid) :: st) S) (hty : ty ≠ 1 ∧ ty ≠ 2 := by decide) : MJ x y h0 d Q k pc L (.ref y.1 :: st) S := fun h hr hF => by
  refine J_getI hd hf hr.1.1 ?_ hty
  obtain ⟨f, -, -, e, -⟩ := hf
  rw [hr.2.1 fid (by omega)]
  exact kk h hr hF
theorem MJ_getA {idx fid : Nat} (hd : decode k.2.1 pc = .ok (.getfield idx, 3)) (hf : om_G k.1.cls idx 7 fid 2) (hm : fid ∈ mAs := by decide) (kk : MJ x y h0 d Q k (pc + 3) L (.ref (y.2 fid) :: st) S) : MJ x y h0 d Q k pc L (.ref y.1 :: st) S := fun h hr hF => J_getRr hd hf hr.1.1 (hr.1.2 _ hm).1 (kk h hr hF)
theorem MJ_putI {idx fid ty : Nat} {v : Int32} {fin : Bool} (hd : decode k.2.1 pc = .ok (.putfield idx, 3)) (hf : om_PF k.1.cls idx 7 fid ty .int fin) (kk : MJ x y h0 d Q k (pc + 3) L st (pI S fid v)) (hty : ty ≠ 1 ∧ ty ≠ 2 := by decide) (hin : fin = true → k.1.name = "<init>" := by first | exact (fun z => by cases z) | exact (fun _ => rfl)) : MJ x y h0 d Q k pc L (.int v :: .ref y.1 :: st) S := fun h hr hF => J_putI hd hf hr.1.1 (kk _ (RepM_sI hr) (FM_sI hF)) hty hin
theorem MJ_putZ {idx fid ty : Nat} {v : Int32} {fin : Bool} (hd : decode k.2.1 pc = .ok (.putfield idx, 3)) (hf : om_PF k.1.cls idx 7 fid ty .boolean fin) (hv : v = 0 ∨ v = 1) (kk : MJ x y h0 d Q k (pc + 3) L st (pI S fid v)) (hty : ty ≠ 1 ∧ ty ≠ 2 := by decide) (hin : fin = true → k.1.name = "<init>" := by first | exact (fun z => by cases z) | exact (fun _ => rfl)) : MJ x y h0 d Q k pc L (.int v :: .ref y.1 :: st) S := fun h hr hF => J_putZ hd hf hr.1.1 hv (kk _ (RepM_sI hr) (FM_sI hF)) hty hin
theorem MJ_iald {f j : Nat} {i : Int32} (hd : decode k.2.1 pc = .ok (.iaload, 1)) (hi : inx i j (ml f)) (hm : f ∈ mAs ∧ mq f = 0 ∧ 400 ≤ f := by decide) (kk : MJ x y h0 d Q k (pc + 1) L (.int (mT S f j) :: st) S) : MJ x y h0 d Q k pc L (.int i :: .ref (y.2 f) :: st) S := fun h hr hF => by
  have h1 := hr.1.2 f hm.1
  refine J_iald hd h1.2.1 ⟨by have := mr_ge hm.2.2; omega, by unfold kOf mr; have := hm.2.1; omega⟩ (by rw [h1.2.2]; exact hi) ?_
  rw [hr.2.2.1 f j hm.1]
  exact kk h hr hF
theorem MJ_zald {f j : Nat} {i : Int32} (hd : decode k.2.1 pc = .ok (.baload, 1)) (hi : inx i j (ml f)) (hm : f ∈ mAs ∧ mq f = 2 ∧ 400 ≤ f := by decide) (kk : MJ x y h0 d Q k (pc + 1) L (.int (mT S f j) :: st) S) : MJ x y h0 d Q k pc L (.int i :: .ref (y.2 f) :: st) S := fun h hr hF => by
  have h1 := hr.1.2 f hm.1
  refine J_zald hd h1.2.1 ⟨by have := mr_ge hm.2.2; omega, by unfold kOf mr; have := hm.2.1; omega⟩ (by rw [h1.2.2]; exact hi) ?_
  rw [hr.2.2.1 f j hm.1]
  exact kk h hr hF
theorem MJ_lald {f j : Nat} {i : Int32} (hd : decode k.2.1 pc = .ok (.laload, 1)) (hi : inx i j (ml f)) (hm : f ∈ mAs ∧ mq f = 1 ∧ 400 ≤ f := by decide) (kk : MJ x y h0 d Q k (pc + 1) L (.long (mJ S f j) :: st) S) : MJ x y h0 d Q k pc L (.int i :: .ref (y.2 f) :: st) S := fun h hr hF => by
  have h1 := hr.1.2 f hm.1
  refine J_lald hd h1.2.1 ⟨by have := mr_ge hm.2.2; omega, by unfold kOf mr; have := hm.2.1; omega⟩ (by rw [h1.2.2]; exact hi) ?_
  rw [hr.2.2.2 f j hm.1]
  exact kk h hr hF
theorem MJ_iast {f j : Nat} {i v : Int32} (hd : decode k.2.1 pc = .ok (.iastore, 1)) (hi : inx i j (ml f)) (hm : f ∈ mAs ∧ mq f = 0 ∧ 400 ≤ f := by decide) (kk : MJ x y h0 d Q k (pc + 1) L st (pT S f j v)) : MJ x y h0 d Q k pc L (.int v :: .int i :: .ref (y.2 f) :: st) S := fun h hr hF => by
  have h1 := hr.1.2 f hm.1
  refine J_iast hd h1.2.1 ⟨by have := mr_ge hm.2.2; omega, by unfold kOf mr; have := hm.2.1; omega⟩ (by rw [h1.2.2]; exact hi) ?_
  exact kk _ (RepM_tI hm.2.2 hr) (FM_tI hm.2.2 hF)
theorem MJ_zast {f j : Nat} {i v : Int32} (hd : decode k.2.1 pc = .ok (.bastore, 1)) (hi : inx i j (ml f)) (hv : v = 0 ∨ v = 1) (hm : f ∈ mAs ∧ mq f = 2 ∧ 400 ≤ f := by decide) (kk : MJ x y h0 d Q k (pc + 1) L st (pT S f j v)) : MJ x y h0 d Q k pc L (.int v :: .int i :: .ref (y.2 f) :: st) S := fun h hr hF => by
  have h1 := hr.1.2 f hm.1
  refine J_zast hd h1.2.1 ⟨by have := mr_ge hm.2.2; omega, by unfold kOf mr; have := hm.2.1; omega⟩ (by rw [h1.2.2]; exact hi) hv ?_
  exact kk _ (RepM_tI hm.2.2 hr) (FM_tI hm.2.2 hF)
theorem MJ_last {f j : Nat} {i : Int32} {v : Int64} (hd : decode k.2.1 pc = .ok (.lastore, 1)) (hi : inx i j (ml f)) (hm : f ∈ mAs ∧ mq f = 1 ∧ 400 ≤ f := by decide) (kk : MJ x y h0 d Q k (pc + 1) L st (pJ S f j v)) : MJ x y h0 d Q k pc L (.long v :: .int i :: .ref (y.2 f) :: st) S := fun h hr hF => by
  have h1 := hr.1.2 f hm.1
  refine J_last hd h1.2.1 ⟨by have := mr_ge hm.2.2; omega, by unfold kOf mr; have := hm.2.1; omega⟩ (by rw [h1.2.2]; exact hi) ?_
  exact kk _ (RepM_tJ hm.2.2 hr) (FM_tJ hm.2.2 hF)
theorem MM.ofJ {n : Nat} {as : List Value} (hB : om_B k n) (hl : (lg_sl as).length ≤ k.2.2.1) (kk : ∀ h0, MJ x y h0 d Q k 0 (lv_args 0 as) [] S) : MM x y d k as S Q := fun h0 h hr hF => Mt.ofJ hB hl (kk h0 h hr hF)
/-- a contract that holds of every heap and changes nothing -/
theorem MM.pure {as : List Value} {P : Option Value → Prop} (hm : ∀ h, Mt x d k 0 0 as h (fun v h' => P v ∧ h' = h)) : MM x y d k as S (fun v S' => P v ∧ S' = S) := fun h0 h hr hF => (hm h).weak (fun v h' z => by
  obtain ⟨z1, rfl⟩ := z
  exact ⟨S, hr, hF, z1, rfl⟩)
variable {Q' : Option Value → Ms → Prop}
theorem MJ_callV {k' : om_k} {idx n d' : Nat} {As rest : List Value} (hm : MM x y d' k' (.ref y.1 :: As) S Q') (hd : decode k.2.1 pc = .ok (.invokevirtual idx, 3)) (hl : Cond.methodLink k.1.cls idx k'.1 ∈ om_tb) (hv : om_V k' n) (hn : As.length = n) (hcl : k'.1.cls = RX7) (hst : st = As.reverse ++ .ref y.1 :: rest) (hw : (rest.map fun v => v.category).sum ≤ 8)
    (hR : d' + 1 ≤ d ∧ 8 + (k'.2.2.1 + 11) + 40 * d' ≤ 40 * d) (kk : ∀ v S', Q' v S' → MJ x y h0 d Q k (pc + 3) L (v.toList ++ rest) S') : MJ x y h0 d Q k pc L st S := fun h hr hF => J_callV (ci := 7) (hm h0 h hr hF) hd hl hv hn hr.1.1 (by decide) (by rw [hcl]; rfl) hst hw hR ⟨Nat.le_refl _, Nat.le_refl _⟩ (fun v h' ⟨S', r1, r2, r3⟩ => kk v S' r3 h' r1 r2)
theorem MJ_callS {k' : om_k} {idx n d' : Nat} {As rest : List Value} (hm : MM x y d' k' As S Q') (hd : decode k.2.1 pc = .ok (.invokestatic idx, 3)) (hl : Cond.methodLink k.1.cls idx k'.1 ∈ om_tb) (hv : om_Sx k' n) (hn : As.length = n) (hst : st = As.reverse ++ rest) (hw : (rest.map fun v => v.category).sum ≤ 8)
    (hR : d' + 1 ≤ d ∧ 8 + (k'.2.2.1 + 11) + 40 * d' ≤ 40 * d) (kk : ∀ v S', Q' v S' → MJ x y h0 d Q k (pc + 3) L (v.toList ++ rest) S') : MJ x y h0 d Q k pc L st S := fun h hr hF => J_callS (hm h0 h hr hF) hd hl hv hn hst hw hR ⟨Nat.le_refl _, Nat.le_refl _⟩ (fun v h' ⟨S', r1, r2, r3⟩ => kk v S' r3 h' r1 r2)
theorem MJ_ireturn {v : Int32} (hd : decode k.2.1 pc = .ok (.ireturn, 1)) (hr : k.2.2.2 = some .int) (hq : Q (some (.int v)) S) : MJ x y h0 d Q k pc L [.int v] S := fun h hr2 hF => J_ireturn hd hr ⟨S, hr2, hF, hq⟩ (Nat.le_refl _) (Nat.le_refl _)
theorem MJ_zreturn {v : Int32} (hd : decode k.2.1 pc = .ok (.ireturn, 1)) (hr : k.2.2.2 = some .boolean) (hv : v = 0 ∨ v = 1) (hq : Q (some (.int v)) S) : MJ x y h0 d Q k pc L [.int v] S := fun h hr2 hF => J_zreturn hd hr hv ⟨S, hr2, hF, hq⟩ (Nat.le_refl _) (Nat.le_refl _)
theorem MJ_lreturn {v : Int64} (hd : decode k.2.1 pc = .ok (.lreturn, 1)) (hr : k.2.2.2 = some .long) (hq : Q (some (.long v)) S) : MJ x y h0 d Q k pc L [.long v] S := fun h hr2 hF => J_lreturn hd hr ⟨S, hr2, hF, hq⟩ (Nat.le_refl _) (Nat.le_refl _)
theorem MJ_return (hd : decode k.2.1 pc = .ok (.return_, 1)) (hr : k.2.2.2 = none) (hq : Q none S) : MJ x y h0 d Q k pc L [] S := fun h hr2 hF => J_return hd hr ⟨S, hr2, hF, hq⟩ (Nat.le_refl _) (Nat.le_refl _)
end MJR
