/-! whole_start, and the claim -/
theorem om_prim {s : State} {ty : FieldType} (h : ∃ c k comp, s.vm.findClass ("[" ++ ty.toString) = some c ∧ s.vm.classes[c]? = some k ∧ k.kind = .array comp ty) (hty : ∀ C, ty ≠ .object C) : ∃ cA, ArrOfT s cA ty ∧ va_RA s cA ty := by
  obtain ⟨c, k, comp, h1, h2, h3⟩ := h
  refine ⟨c, fun n z => ⟨fun k h => (by cases h), k, h2, comp, h3⟩, ?_⟩
  cases ty with
  | object C => exact absurd rfl (hty C)
  | _ => exact h1
theorem om_objA {s : State} {C : String} {A : Array Value} (h : (Cond.arrayOver (.object C)).before A s = true) : ∃ cA, ArrOfT s cA (.object C) ∧ va_RA s cA (.object C) := by
  obtain ⟨comp, c, k, h1, h2, h3, h4, h5⟩ := Cond.arrayOver_spec h
  exact ⟨c, fun n z => ⟨fun k h => (by cases h), k, h3, comp, h4⟩, k, comp, h3, h4, h1, h5⟩
/-- what the tables tell of the classes and of the arrays' classes -/
theorem om_known {s : State} {b : Nat} (hts : ∀ w ∈ lw_tbl, w.before #[Value.ref b] s = true) : ∃ (dC : Nat → ClassId) (dI : Nat → Nat → Nat) (cA : Nat → ClassId), (∀ (c : Nat) (q : vw_C), vwCl[c]? = some q → u_Kn s q.1 q.2.1 q.2.2 (dC c) (dI c)) ∧ ∀ q, q < 8 → ArrOfT s (cA q) (aT q) ∧ va_RA s (cA q) (aT q) := by
  have ht : ∀ w ∈ om_tb, w.before #[Value.ref b] s = true := fun w hw => hts w (List.mem_filter.mp hw).1
  have k1 : ∀ c : Nat, ∃ d : ClassId × (Nat → Nat), ∀ q : vw_C, vwCl[c]? = some q → u_Kn s q.1 q.2.1 q.2.2 d.1 d.2 := by
    intro c
    match c with
    | 0 => obtain ⟨c0, i0, hk⟩ := u_known ht inX0 (ht _ ins_RX0); exact ⟨(c0, i0), fun q hq => by cases hq; exact hk⟩
    | 1 => obtain ⟨c0, i0, hk⟩ := u_known ht inX1 (ht _ ins_RX1); exact ⟨(c0, i0), fun q hq => by cases hq; exact hk⟩
    | 2 => obtain ⟨c0, i0, hk⟩ := u_known ht inX2 (ht _ ins_RX2); exact ⟨(c0, i0), fun q hq => by cases hq; exact hk⟩
    | 3 => obtain ⟨c0, i0, hk⟩ := u_known ht inX3 (ht _ ins_RX3); exact ⟨(c0, i0), fun q hq => by cases hq; exact hk⟩
    | 4 => obtain ⟨c0, i0, hk⟩ := u_known ht inX4 (ht _ ins_RX4); exact ⟨(c0, i0), fun q hq => by cases hq; exact hk⟩
    | 5 => obtain ⟨c0, i0, hk⟩ := u_known ht inX5 (ht _ ins_RX5); exact ⟨(c0, i0), fun q hq => by cases hq; exact hk⟩
    | 6 => obtain ⟨c0, i0, hk⟩ := u_known ht inX6 (ht _ ins_RX6); exact ⟨(c0, i0), fun q hq => by cases hq; exact hk⟩
    | 7 => obtain ⟨c0, i0, hk⟩ := u_known ht inX7 (ht _ ins_RX7); exact ⟨(c0, i0), fun q hq => by cases hq; exact hk⟩
    | c + 8 => exact ⟨(0, fun _ => 0), fun q hq => by simp [vwCl] at hq⟩
  have k2 : ∀ q : Nat, ∃ cA : ClassId, q < 8 → ArrOfT s cA (aT q) ∧ va_RA s cA (aT q) := by
    intro q
    by_cases h : q < 8
    · rcases (by omega : q = 0 ∨ q = 1 ∨ q = 2 ∨ q = 3 ∨ q = 4 ∨ q = 5 ∨ q = 6 ∨ q = 7) with rfl | rfl | rfl | rfl | rfl | rfl | rfl | rfl
      · obtain ⟨cA, h1⟩ := om_prim (Cond.arrayClass_spec (ht _ arc_int)) (fun C z => by cases z); exact ⟨cA, fun _ => h1⟩
      · obtain ⟨cA, h1⟩ := om_prim (Cond.arrayClass_spec (ht _ arc_long)) (fun C z => by cases z); exact ⟨cA, fun _ => h1⟩
      · obtain ⟨cA, h1⟩ := om_prim (Cond.arrayClass_spec (ht _ arc_boolean)) (fun C z => by cases z); exact ⟨cA, fun _ => h1⟩
      · obtain ⟨cA, h1⟩ := om_objA (hts _ aro_RX0); exact ⟨cA, fun _ => h1⟩
      · obtain ⟨cA, h1⟩ := om_objA (hts _ aro_RX1); exact ⟨cA, fun _ => h1⟩
      · obtain ⟨cA, h1⟩ := om_objA (hts _ aro_RX2); exact ⟨cA, fun _ => h1⟩
      · obtain ⟨cA, h1⟩ := om_objA (hts _ aro_RX3); exact ⟨cA, fun _ => h1⟩
      · obtain ⟨cA, h1⟩ := om_objA (hts _ aro_RX5); exact ⟨cA, fun _ => h1⟩
    · exact ⟨0, fun z => absurd z h⟩
  obtain ⟨f, hf⟩ := Classical.axiomOfChoice k1
  obtain ⟨cA, hc⟩ := Classical.axiomOfChoice k2
  exact ⟨fun c => (f c).1, fun c => (f c).2, cA, hf, hc⟩
def hp0 : Hp := (fun _ => 0, fun _ => 0, fun _ _ => 0, fun _ _ => 0, fun _ _ => none, fun _ _ _ => 0, fun _ _ _ => 0, fun _ _ _ => none)
/-- THE LAW, from its entry -/
theorem whole_start {p : Program} {e : Env} {s : State} {m : MethodId} {below : List Frame} {meth : Method} {c : Code} (l : Launch) (hflags : l.flags = flags0) {b L : Nat} {xs : Nat → Int32} (hL : L ≤ 4097) (C0 : lw_At p s m meth c b L xs) : W p l e room_1 s m #[Value.ref b] below meth c s.heap [] 0 0 (lw_Z below #[Value.ref b] s) (entryFrame m ([Value.ref b] : List Value).toArray 4) := by
  obtain ⟨hx, hb, hr, hml, hown, hts, hX, hbl, hlocks, hgv⟩ := C0
  obtain ⟨dC, dI, cA, k1, k2⟩ := om_known hts
  have ht : ∀ w ∈ om_tb, w.before #[Value.ref b] s = true := fun w hw => hts w (List.mem_filter.mp hw).1
  have hK : va_K (dC, dI) vwCl (om_tys (l, (dC, dI), cA, s.heap.size)) s := by
    refine ⟨k1, fun k q hk => ?_⟩
    unfold om_tys at hk
    rw [List.getElem?_map] at hk
    by_cases h8 : k < 8
    · rw [List.getElem?_range h8] at hk
      cases hk
      exact k2 k h8
    · rw [List.getElem?_eq_none (by simp; omega)] at hk
      cases hk
  have hW : om_W (l, (dC, dI), cA, s.heap.size) s := ⟨hK, ⟨va_AO.of (hts _ aro_RX0), va_AO.of (hts _ aro_RX1), va_AO.of (hts _ aro_RX2), va_AO.of (hts _ aro_RX3), va_AO.of (hts _ aro_RX5)⟩, va_Nw.of rfl (hts _ om_nest)⟩
  have X : om_X (l, (dC, dI), cA, s.heap.size) (kL_law meth.name) p s m #[Value.ref b] meth c := ⟨hx, hb, hml, hown, ht, hW, hr, hlocks, rfl, Nat.le_refl _⟩
  have hH : om_H (l, (dC, dI), cA, s.heap.size) hp0 s.heap := fun a ha => absurd rfl ha
  have hl := lv_entry ([.ref b]) (n := 4) (Nat.le_of_ble_eq_true rfl)
  rw [lg_entry_eq]
  generalize (lg_sl ([.ref b]) ++ List.replicate (4 - (lg_sl ([.ref b])).length) Slot.unset).toArray = ls at hl ⊢
  have hl : lv_has ls 4 [(0, .ref b)] := hl
  intro T hT X'
  obtain ⟨t, a1, a2⟩ := law_J (x := (l, (dC, dI), cA, s.heap.size)) (b := b) (L := L) (xs := xs) (nm := meth.name) hL (h := hp0) (fun _ => rfl) p e s m #[Value.ref b] below meth c s.heap [] ls X hH va_S.rf hl T hT X'
  exact ⟨t, a1, a2 ⟨hX, hbl⟩ ⟨⟨b, rfl⟩, Nat.le_refl _⟩⟩
set_option maxHeartbeats 4000000 in
theorem lw_walk (l : Launch) (hflags : l.flags = flags0) (b : Addr) (xs : List Int32) : MetFree l x (headSpec (Jvm.Cond.code x code maxLocals ret :: tables_1) room_1) (lw_P b xs) (fun _ _ _ _ _ => True) lw_Q := by
  refine MetFree.of_bodyS (code := code) (maxLocals := maxLocals) (ret := ret) (by decide) ?_ ?_
  · intro args s m h hn
    obtain ⟨meth, c, h1, h2, h3, h4, h5, h6, -, -⟩ := Cond.code_spec hn (atoms_spec (ws := Jvm.Cond.code x code maxLocals ret :: tables_1) h _ List.mem_cons_self)
    exact ⟨meth, c, h1, h2, h3, h4, h5, h6⟩
  · intro p e s m args below meth c s₁ B hml0 hP _
    obtain ⟨rfl, hx, hbd, hgv⟩ := hP
    obtain ⟨scr, harrAt, hlist, hof, hsmall⟩ := hx
    obtain ⟨hcb, hkn, -, -⟩ := State.arrayAt?_spec harrAt
    have hown : s.vm.findClass R_law = some m.cls := findClass_of_methodNamed B.named
    have hts0 : ∀ c ∈ (Jvm.Cond.code x code maxLocals ret :: tables_1), c.before #[Value.ref b] s = true := atoms_spec (ws := Jvm.Cond.code x code maxLocals ret :: tables_1) B.pre
    have hts : ∀ w ∈ lw_tbl, w.before #[Value.ref b] s = true := k2_hts_sels lw_privs (fun w hw => hts0 w (List.mem_cons_of_mem _ hw)) lw_privs_ok
    have hml : c.maxLocals = 4 := B.maxLocals_eq (hts0 _ List.mem_cons_self)
    have X₀ : Stand p l e room_1 s m #[Value.ref b] below meth c s₁ [] 0 0 := Stand.of_body B
    have hh0 : s₁.heap = s.heap := by rw [B.state]; rfl
    have hsz : scr.slots.size = xs.length := by rw [← Array.length_toList, hlist, List.length_map]
    have hval : ∀ j : Nat, j < xs.length → scr.slots[j]? = some (.int (xs.getD j 0)) := fun j hj => by
      rw [← Array.getElem?_toList, hlist]
      simp [hj]
    have hbl : b < s.heap.size := (Array.getElem?_eq_some_iff.mp hcb).1
    have hX : va_X b xs.length (fun j => xs.getD j 0) s s.heap := ⟨scr, hcb, hof, hkn, hsz, hval⟩
    have K : W p l e room_1 s m #[Value.ref b] below meth c s₁.heap [] 0 0 (lw_Z below #[Value.ref b] s) (entryFrame m ([Value.ref b] : List Value).toArray 4) := by
      rw [hh0]
      exact whole_start l hflags hbd ⟨B.exec, B.bytes, B.returns, hml, hown, hts, hX, hbl, B.notSynchronized, hgv⟩
    obtain ⟨t, a1, o, b1, b2, b3⟩ := K s₁ rfl X₀
    exact ⟨t, o, a1, b1, b2, b3⟩
theorem lw_pre_spec {args : Array Value} {s : State} (h : (Jvm.Cond.and given_1 narrow_1).before args s = true) (hr : rest_1_c.before args s = true) : ∃ (b : Addr) (xs : List Int32), lw_P b xs args s := by
  have hs := flat_of_before _ h
  have hq := flat_of_before _ hr
  have hc : (Cond.count 1).before args s = true := hs _ (by decide +kernel)
  have harr : (Cond.arrayOf (.arg 0) .int).before args s = true := hs _ (by decide +kernel)
  have hle : (Cond.le (.length (.arg 0)) (.int 4097)).before args s = true := hs _ (by decide +kernel)
  have hlen : (Cond.isInt (.length (.arg 0))).before args s = true := hq _ (by decide +kernel)
  have hall : (Cond.all (.arg 0) (.isInt (.elem (.arg 0) (.index 0)))).before args s = true := hq _ (by decide +kernel)
  obtain ⟨b, xs, hb, hx⟩ := State.ints_of_pre rfl harr hlen hall
  have hsm : xs.length < 2 ^ 31 := hx.choose_spec.2.2.2
  have hev : (Term.length (.arg 0)).eval args s none [] s = some (.int xs.length.toInt32) := hx.length_eval hb
  have hv := Cond.le_ints hev (show (Term.int 4097).eval args s none [] s = some (.int 4097) from rfl)
  have hd : xs.length.toInt32 ≤ 4097 := by
    simpa [Cond.before, Cond.holds, hv] using hle
  have hN : xs.length ≤ 4097 := (Int32.ofNat_le_ofNat hsm (by decide)).mp (show Int32.ofNat xs.length ≤ Int32.ofNat 4097 from hd)
  exact ⟨b, xs, Cond.one_arg hc (show args[0]? = some (.ref b) from hb), hx, hN, h⟩
theorem lw_comes (l : Launch) (hflags : l.flags = flags0) : Comes l x (Jvm.Cond.code x code maxLocals ret :: tables_1) room_1 (fun tb e args s => Calls_1 tb e args s ∧ rest_1 tb e args s ∧ Pre_1 tb e args s)
    (fun _ _ args s o t => lw_Q args s o t) := by
  intro p e ha hc hk s m args below hf hfit hheap happ hpre
  obtain ⟨b, xs, hP⟩ := lw_pre_spec hpre.2.2 hpre.2.1
  obtain ⟨k, o, h1, h2, h3, hQ⟩ := lw_walk l hflags b xs p e ha hc hk s m args below hf ((Spec.applies_iff_loose hf).mp happ).1 hP trivial
  exact ⟨k, o, h1, h2, h3, hQ⟩
theorem lw_frame {s t : State} {o : Outcome} {args : Array Value} (h : Framed s o t [] 600000 7302250) :
    Framed s o t (fieldLocs frame_1_writes args s ++ arrayLocs frame_1_arrays args s ++ staticLocs frame_1_statics s) 600000 7302250 := h
theorem lw_limb (L : Cond) (hL : ∀ (args : Array Value) (s t : State), L.after args s (.returned (some (.int 1))) t = true) :
    ArmFor flags0 classFile x code maxLocals ret World_1 tables_1 room_1 Calls_1 rest_1 Pre_1
      (fun tb e a s o t => postC L tb e a s o t ∧ Framed s o t (fieldLocs frame_1_writes a s ++ arrayLocs frame_1_arrays a s ++ staticLocs frame_1_statics s) 600000 7302250) := by
  intro l hflags _ _ p e ha hc hk s m args below hf hfit hheap happ hpre
  obtain ⟨k, o, h1, h2, h3, rfl, hF⟩ := lw_comes l hflags p e ha hc hk s m args below hf hfit hheap happ hpre
  exact ⟨k, _, h1, h2, h3, hL args s _, lw_frame hF⟩
theorem i_vc : Claimed_1_1 ∧ Claimed_1_2 := ⟨lw_limb limb_1_1 (fun args s t => by simp [limb_1_1, Cond.after, Cond.holds, Cond.value]), lw_limb limb_1_2 (fun args s t => Cond.after_iff.mpr (by
  first | (rw [show limb_1_2 = Cond.eq .result (.int 1) from rfl, Cond.eq_ints (x := 1) (y := 1) rfl rfl]; simp; done) | (simp [limb_1_2, Cond.value, Term.eval]; done)))⟩
