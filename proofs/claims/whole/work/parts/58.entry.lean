/-! the first stores are alike -/
theorem S0_c (i f : Nat) (h0 : i ≠ 0) (h1 : i ≠ 1) (h2 : i ≠ 114) : S0 i f = nI 0 := S0_z h0 h1 h2 f
theorem RR_0 : RR S0 S0 := by
  refine ⟨96, 101, 0, 0, 0, 0, 0, 0, 0, 0, 0, ⟨rfl, rfl, Or.inl ⟨rfl, rfl⟩⟩, ?_, ?_, ⟨fun k _ => rfl, fun k _ => rfl⟩, ⟨0, by decide, rfl, rfl⟩, ⟨rfl, rfl, by decide, rfl, by decide, fun k hk => absurd hk (Nat.not_lt_zero k)⟩, ?_, ⟨rfl, rfl, by decide, fun k hk => absurd hk (Nat.not_lt_zero k)⟩, ⟨rfl, rfl, by decide, rfl, rfl, fun k hk => absurd hk (Nat.not_lt_zero k)⟩⟩
  · exact ⟨⟨rfl, rfl, rfl, rfl, rfl, rfl, (show nI 0 = allF (nI 0) (nI 0) from by decide +kernel)⟩, ⟨rfl, rfl, rfl, rfl, rfl⟩, Or.inl ⟨rfl, rfl, rfl, rfl, rfl⟩, ⟨by decide, by decide, by decide, by decide, by decide⟩, fun k hk => absurd hk (Nat.not_lt_zero k), fun k hk => absurd hk (Nat.not_lt_zero k)⟩
  · exact ⟨fun k hk => absurd hk (by omega), fun k _ _ => rfl, fun k hk => absurd hk (Nat.not_lt_zero k), ⟨rfl, rfl, rfl, rfl, rfl⟩⟩
  · intro i hi
    rcases (show i = 0 ∨ i = 1 by omega) with rfl | rfl
    · exact ⟨rfl, fun q => absurd rfl q⟩
    · exact ⟨rfl, fun q => absurd rfl q⟩
/-! what the tables say of the classes, at the law's entry -/
theorem jT_inst {ci : Nat} (h : ci < 11) : Cond.instantiable (jT ci).1 (jT ci).2.2 ∈ WT := by
  rcases (show ci = 0 ∨ ci = 1 ∨ ci = 2 ∨ ci = 3 ∨ ci = 4 ∨ ci = 5 ∨ ci = 6 ∨ ci = 7 ∨ ci = 8 ∨ ci = 9 ∨ ci = 10 by omega) with rfl | rfl | rfl | rfl | rfl | rfl | rfl | rfl | rfl | rfl | rfl
  · exact nX10_44.2.2.1
  · exact nX10_16.2.2.1
  · exact nX10_51.2.2.1
  · exact nX10_23.2.2.1
  · exact nX10_58.2.2.1
  · exact nX10_37.2.2.1
  · exact nX10_64.2.2.1
  · exact nX10_7.2.2.1
  · exact nX10_30.2.2.1
  · exact nL_7.2.2.1
  · exact nL_10.2.2.1
theorem nw_0 : Cond.methodLinkNest "DampLikeness" 9 ⟨"DampLikeness$Reader", "<init>", "()V"⟩ "DampLikeness" ∈ lw_tbl := List.mem_of_getElem? (i := 84) (by decide +kernel)
theorem nw_1 : Cond.methodLinkNest "DampLikeness" 18 ⟨"DampLikeness$Damp", "<init>", "()V"⟩ "DampLikeness" ∈ lw_tbl := List.mem_of_getElem? (i := 116) (by decide +kernel)
theorem nw_2 : Cond.methodLinkNest "DampLikeness" 25 ⟨"DampLikeness$Flow", "<init>", "()V"⟩ "DampLikeness" ∈ lw_tbl := List.mem_of_getElem? (i := 157) (by decide +kernel)
theorem nw_3 : Cond.methodLinkNest "DampLikeness$Trial" 11 ⟨"DampLikeness$Flow", "<init>", "()V"⟩ "DampLikeness" ∈ lw_tbl := List.mem_of_getElem? (i := 175) (by decide +kernel)
theorem nw_4 : Cond.methodLinkNest "DampLikeness$Trial" 20 ⟨"DampLikeness$Damp", "<init>", "()V"⟩ "DampLikeness" ∈ lw_tbl := List.mem_of_getElem? (i := 177) (by decide +kernel)
theorem nw_5 : Cond.methodLinkNest "DampLikeness$Past" 17 ⟨"DampLikeness$Damp", "<init>", "()V"⟩ "DampLikeness" ∈ lw_tbl := List.mem_of_getElem? (i := 213) (by decide +kernel)
theorem nw_6 : Cond.methodLinkNest "DampLikeness" 46 ⟨"DampLikeness$Book", "<init>", "()V"⟩ "DampLikeness" ∈ lw_tbl := List.mem_of_getElem? (i := 227) (by decide +kernel)
theorem nw_7 : Cond.methodLinkNest "DampLikeness" 53 ⟨"DampLikeness$Draws", "<init>", "()V"⟩ "DampLikeness" ∈ lw_tbl := List.mem_of_getElem? (i := 244) (by decide +kernel)
theorem nw_8 : Cond.methodLinkNest "DampLikeness" 66 ⟨"DampLikeness$Plan", "<init>", "()V"⟩ "DampLikeness" ∈ lw_tbl := List.mem_of_getElem? (i := 257) (by decide +kernel)
theorem nw_9 : Cond.methodLinkNest "DampLikeness" 74 ⟨"DampLikeness$Image", "<init>", "()V"⟩ "DampLikeness" ∈ lw_tbl := List.mem_of_getElem? (i := 326) (by decide +kernel)
theorem nw_10 : Cond.methodLinkNest "DampLikeness$Image" 9 ⟨"DampLikeness$Damp", "<init>", "()V"⟩ "DampLikeness" ∈ lw_tbl := List.mem_of_getElem? (i := 331) (by decide +kernel)
theorem nw_11 : Cond.methodLinkNest "DampLikeness$Reader" 23 ⟨"DampLikeness", "put", "([III)V"⟩ "DampLikeness" ∈ lw_tbl := List.mem_of_getElem? (i := 387) (by decide +kernel)
theorem nw_12 : Cond.methodLinkNest "DampLikeness$Reader" 125 ⟨"DampLikeness", "pick", "([II)I"⟩ "DampLikeness" ∈ lw_tbl := List.mem_of_getElem? (i := 410) (by decide +kernel)
theorem nw_13 : Cond.methodLinkNest "DampLikeness$Reader" 132 ⟨"DampLikeness", "outside", "(III)Z"⟩ "DampLikeness" ∈ lw_tbl := List.mem_of_getElem? (i := 436) (by decide +kernel)
theorem nw_14 : Cond.methodLinkNest "DampLikeness$Plan" 57 ⟨"DampLikeness", "put", "([III)V"⟩ "DampLikeness" ∈ lw_tbl := List.mem_of_getElem? (i := 454) (by decide +kernel)
theorem nw_15 : Cond.methodLinkNest "DampLikeness$Damp" 21 ⟨"DampLikeness", "pick", "([II)I"⟩ "DampLikeness" ∈ lw_tbl := List.mem_of_getElem? (i := 497) (by decide +kernel)
theorem nw_16 : Cond.methodLinkNest "DampLikeness$Marks" 50 ⟨"DampLikeness", "pick", "([II)I"⟩ "DampLikeness" ∈ lw_tbl := List.mem_of_getElem? (i := 526) (by decide +kernel)
theorem nw_17 : Cond.methodLinkNest "DampLikeness$Flow" 33 ⟨"DampLikeness", "pick", "([II)I"⟩ "DampLikeness" ∈ lw_tbl := List.mem_of_getElem? (i := 629) (by decide +kernel)
theorem nw_18 : Cond.methodLinkNest "DampLikeness$Flow" 46 ⟨"DampLikeness", "put", "([III)V"⟩ "DampLikeness" ∈ lw_tbl := List.mem_of_getElem? (i := 631) (by decide +kernel)
theorem nw_19 : Cond.methodLinkNest "DampLikeness$Trial" 67 ⟨"DampLikeness", "put", "([III)V"⟩ "DampLikeness" ∈ lw_tbl := List.mem_of_getElem? (i := 747) (by decide +kernel)
theorem nw_20 : Cond.methodLinkNest "DampLikeness$Book" 23 ⟨"DampLikeness", "put", "([III)V"⟩ "DampLikeness" ∈ lw_tbl := List.mem_of_getElem? (i := 812) (by decide +kernel)
theorem nw_21 : Cond.methodLinkNest "DampLikeness$Book" 32 ⟨"DampLikeness", "pick", "([II)I"⟩ "DampLikeness" ∈ lw_tbl := List.mem_of_getElem? (i := 825) (by decide +kernel)
theorem nw_all : ∀ q ∈ nestL, Cond.methodLinkNest q.1 q.2.1 q.2.2.1 q.2.2.2 ∈ lw_tbl := List.forall_mem_cons.mpr ⟨nw_0, List.forall_mem_cons.mpr ⟨nw_1, List.forall_mem_cons.mpr ⟨nw_2, List.forall_mem_cons.mpr ⟨nw_3, List.forall_mem_cons.mpr ⟨nw_4, List.forall_mem_cons.mpr ⟨nw_5, List.forall_mem_cons.mpr ⟨nw_6, List.forall_mem_cons.mpr ⟨nw_7, List.forall_mem_cons.mpr ⟨nw_8, List.forall_mem_cons.mpr ⟨nw_9, List.forall_mem_cons.mpr ⟨nw_10, List.forall_mem_cons.mpr ⟨nw_11, List.forall_mem_cons.mpr ⟨nw_12, List.forall_mem_cons.mpr ⟨nw_13, List.forall_mem_cons.mpr ⟨nw_14, List.forall_mem_cons.mpr ⟨nw_15, List.forall_mem_cons.mpr ⟨nw_16, List.forall_mem_cons.mpr ⟨nw_17, List.forall_mem_cons.mpr ⟨nw_18, List.forall_mem_cons.mpr ⟨nw_19, List.forall_mem_cons.mpr ⟨nw_20, List.forall_mem_cons.mpr ⟨nw_21, fun _ h => absurd h List.not_mem_nil⟩⟩⟩⟩⟩⟩⟩⟩⟩⟩⟩⟩⟩⟩⟩⟩⟩⟩⟩⟩⟩⟩
theorem ao_1 : Cond.arrayOver (.object RX1) ∈ lw_tbl := List.mem_of_getElem? (i := 178) (by decide +kernel)
theorem ao_4 : Cond.arrayOver (.object RX4) ∈ lw_tbl := List.mem_of_getElem? (i := 254) (by decide +kernel)
theorem arr_prim {s : State} {args : Array Value} {ty : FieldType} (ht : ty = .int ∨ ty = .boolean) (h : (Cond.arrayClass ty).before args s = true) : ∃ cA : ClassId, ArrOfT s cA ty ∧ va_RA s cA ty := by
  obtain ⟨cA, kA, comp, h1, h2, h3⟩ := Cond.arrayClass_spec h
  refine ⟨cA, fun n z => ⟨fun k h => (by cases h), kA, h2, comp, h3⟩, ?_⟩
  rcases ht with rfl | rfl <;> exact h1
theorem arr_obj {s : State} {args : Array Value} {nm : String} (h : (Cond.arrayOver (.object nm)).before args s = true) : ∃ cA : ClassId, ArrOfT s cA (.object nm) ∧ va_RA s cA (.object nm) := by
  obtain ⟨comp, cA, kA, h1, -, h2, h3, h4⟩ := Cond.arrayOver_spec h
  exact ⟨cA, fun n z => ⟨fun k h => (by cases h), kA, h2, comp, h3⟩, kA, comp, h2, h3, h1, h4⟩
theorem entry_C {s : State} {args : Array Value} (hts : ∀ w ∈ lw_tbl, w.before args s = true) : ∃ C : JC, C.2.1 0 = s.heap.size ∧ CAd C ∧ va_K C.1 jcls (jty C) s ∧ JN s ∧ JAO s := by
  have hw : ∀ w ∈ WT, w.before args s = true := fun w h => hts w (List.mem_filter.mp h).1
  obtain ⟨cI, i1, i2⟩ := arr_prim (Or.inl rfl) (hw _ wInt)
  obtain ⟨cB, b1, b2⟩ := arr_prim (Or.inr rfl) (hw _ wBool)
  obtain ⟨cD, d1, d2⟩ := arr_obj (hts _ ao_1)
  obtain ⟨cM, m1, m2⟩ := arr_obj (hts _ ao_4)
  have hk : ∀ ci : Nat, ∃ x : ClassId × (Nat → Nat), ci < 11 → u_Kn s (jT ci).1 (jT ci).2.1 (jT ci).2.2 x.1 x.2 := fun ci => by
    by_cases h : ci < 11
    · obtain ⟨cC, iS, q⟩ := u_known hw (jT_in h) (hw _ (jT_inst h))
      exact ⟨(cC, iS), fun _ => q⟩
    · exact ⟨(cI, fun n => n), fun q => absurd q h⟩
  obtain ⟨f, hf⟩ := Classical.axiomOfChoice hk
  refine ⟨((fun c => (f c).1, fun c => (f c).2), fun i => s.heap.size + i, cI, cB, cD, cM), rfl, fun i => rfl, ⟨fun c q hq => ?_, fun k q hq => ?_⟩, fun q hq => va_Nw.of rfl (hts _ (nw_all q hq)), va_AO.of (hts _ ao_1), va_AO.of (hts _ ao_4)⟩
  · have hc : c < 11 := (List.getElem?_eq_some_iff.mp hq).1
    have e := (jT_lt hc).symm.trans hq
    have e' : jT c = q := Option.some.inj e
    rw [← e']
    exact hf c hc
  · have hk4 : k < 4 := (List.getElem?_eq_some_iff.mp hq).1
    rcases (show k = 0 ∨ k = 1 ∨ k = 2 ∨ k = 3 by omega) with rfl | rfl | rfl | rfl
    · cases hq; exact ⟨i1, i2⟩
    · cases hq; exact ⟨b1, b2⟩
    · cases hq; exact ⟨d1, d2⟩
    · cases hq; exact ⟨m1, m2⟩
theorem gw_jw (C : JC) : gw C (jcell C S0) 0 134 = jw C S0 := by
  unfold gw jw
  apply List.map_congr_left
  intro j _
  rw [Nat.zero_add]
/-! THE CLAIM OUT OF ONE WALK OF THE LAW'S BODY. Your part is whole_start (and what it stands on); all else here is the same for every law, but numbers. -/
def R_law : String := "DampLikenessLaw"
def lw_P (b : Addr) (xs : List Int32) (args : Array Value) (s : State) : Prop := args = #[.ref b] ∧ s.IntsAt b xs ∧ xs.length ≤ 384 ∧ (Jvm.Cond.and given_1 narrow_1).before args s = true
def lw_Q (_ : Array Value) (s : State) (o : Outcome) (t : State) : Prop := o = .returned (some (.int 1)) ∧ Framed s o t [] 600000 7302250
def lw_Z (below : List Frame) (a : Array Value) (s : State) : State → Prop := fun t => ∃ o, t.status = .running ∧ Ended t below o ∧ lw_Q a s o t
/-- the law's own end, with 1 on the stack, nothing written that was there before, its room as the claim has it -/
theorem lw_ret {p : Program} {l : Launch} {e : Env} {s : State} {m : MethodId} {below : List Frame} {meth : Method} {c : Code} {b : Nat} (hx : p.tables.exec = Jvm.exec) (hb : c.code = code) (hr : meth.sig.returnType = ret) (hlocks : meth.locks = false) {pc : Nat} {H : Heap} {ls : Array Slot} (hdg : decode code pc = .ok (.ireturn, 1)) : W p l e room_1 s m #[Value.ref b] below meth c H [] 600000 7302250 (lw_Z below #[Value.ref b] s) (F0 m pc ls [.int 1]) := by
  intro T hT X
  obtain ⟨fs, hret, hrun, hended, hW, hframe⟩ := X.leave (v := some (.int 1)) (hlocks := hlocks) (fun h => by rw [hr] at h; cases h)
  have hmeth' : T.vm.method? m = some meth := X.method'
  refine ⟨T.setFrames fs, ?_, .returned (some (.int 1)), hrun, hended, rfl, ⟨_, rfl⟩, hW, hframe⟩
  jvm_step X.here [X.here.top, hx, hb, hdg, hmeth', hr, ret, narrow_b1]
  (try refine ⟨rfl, ?_⟩); (try refine ⟨rfl, ?_⟩)
  first | (intro acts; rw [hret _ acts rfl rfl rfl]) | rw [hret _ _ rfl rfl rfl]
  exact Steps.refl _
/-- what holds at the law's entry: the machine, the code, the tables' words (any of lw_tbl by 'hts w (by decide +kernel)'), the script of L ints xs at the cell b, what the Statement gives of the start (any of its parts by flat_of_before) -/
def lw_At (p : Program) (s : State) (m : MethodId) (meth : Method) (c : Code) (b L : Nat) (xs : Nat → Int32) : Prop :=
  p.tables.exec = Jvm.exec ∧ c.code = code ∧ meth.sig.returnType = ret ∧ c.maxLocals = 4 ∧ s.vm.findClass R_law = some m.cls ∧ (∀ w ∈ lw_tbl, w.before #[Value.ref b] s = true) ∧ va_X b L xs s s.heap ∧ b < s.heap.size ∧ meth.locks = false ∧ (Jvm.Cond.and given_1 narrow_1).before #[Value.ref b] s = true
