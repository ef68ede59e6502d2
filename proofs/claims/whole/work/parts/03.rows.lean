/-! the judgement J: from here, with the store S, the machine comes to its end; and what holds all the way -/
abbrev JE : Type := Program × Launch × Env × Room × State × MethodId × Array Value × List Frame × Method × Code × (Nat → Prop) × Nat × Nat × Nat × (State → Prop)
def lvH (ls : Array Slot) (nL : Nat) (lv : List (Option Value)) : Prop := ls.size = nL ∧ lv_wf ls ∧ lv.length ≤ nL ∧ ∀ (k : Nat) (v : Value), lv[k]? = some (some v) → ls[k]? = some (.val v)
def J (C : JC) (E : JE) (S : Sto) (pc : Nat) (lv : List (Option Value)) (st : List Value) : Prop := match E with
  | (p, l, e, R, s, m, args, below, meth, c, A, cells, slots, nL, Q) => ∀ (H : Heap) (locs : List Loc) (ls : Array Slot), va_P C.1 jcls (jw C S) H → va_S A s.heap H locs → lvH ls nL lv → W p l e R s m args below meth c H locs cells slots Q (F0 m pc ls st)
def Jok (l0 : Launch) (C : JC) (E : JE) (own : String) (cc : ByteArray) (d : Nat) : Prop := match E with
  | (p, l, e, R, s, m, args, below, meth, c, A, cells, slots, nL, Q) => l = l0 ∧ p.tables.exec = Jvm.exec ∧ c.code = cc ∧ c.maxLocals = nL ∧ s.vm.findClass own = some m.cls ∧ (∀ w ∈ WT, w.before args s = true) ∧ va_K C.1 jcls (jty C) s ∧ JN s ∧ JInj C ∧ (∀ i, i < NN → A (C.2.1 i)) ∧ d ≤ R.frames ∧ 128 * d ≤ R.locals ∧ cells ≤ R.cells ∧ slots ≤ R.slots
def Jret (C : JC) (E : JE) (cc : ByteArray) (ret : Option FieldType) (v : Option Value) (S' : Sto) : Prop := match E with
  | (p, l, e, R, s, m, args, below, meth, c, A, cells, slots, nL, Q) => (∀ (r : Int32) (ty : FieldType) (H : Heap) (locs : List Loc) (ls : Array Slot) (pc : Nat), ret = some ty → v = some (.int r) → narrow ty (.int r) = .int r → va_P C.1 jcls (jw C S') H → va_S A s.heap H locs → decode cc pc = .ok (.ireturn, 1) → W p l e R s m args below meth c H locs cells slots Q (F0 m pc ls [.int r])) ∧
    (∀ (H : Heap) (locs : List Loc) (ls : Array Slot) (pc : Nat), ret = none → v = none → va_P C.1 jcls (jw C S') H → va_S A s.heap H locs → decode cc pc = .ok (.return_, 1) → W p l e R s m args below meth c H locs cells slots Q (F0 m pc ls []))
def JP (C : JC) (S : Sto) (U : State) : Prop := va_P C.1 jcls (jw C S) U.heap ∧ va_K C.1 jcls (jty C) U ∧ JN U
def JQ (C : JC) (v : Option Value) (S' : Sto) : Array Value → State → Outcome → State → Prop := fun _ st oc t => (oc = .returned v ∧ va_P C.1 jcls (jw C S') t.heap) ∧ va_F (JA C) st t
/-- a method's contract: with these arguments and this store it returns v, and the store is S' -/
def Con (l : Launch) (C : JC) (y : MethodName) (cc : ByteArray) (nL : Nat) (ret : Option FieldType) (d : Nat) (av : List Value) (S : Sto) (v : Option Value) (S' : Sto) : Prop :=
  Met l y (.code y cc nL ret :: WT) ({ frames := d, cells := 0, slots := 0, locals := 128 * d }) (va_Pc av (JP C S)) (JQ C v S') 0 0 (JA C)
def lvOf : List Value → List (Option Value)
  | [] => []
  | v :: vs => if v.category = 2 then some v :: none :: lvOf vs else some v :: lvOf vs
theorem lvOf_args : ∀ (vs : List Value) (i k : Nat) (v : Value), (lvOf vs)[k]? = some (some v) → (i + k, v) ∈ lv_args i vs
  | [], i, k, v, h => by simp [lvOf] at h
  | w :: vs, i, k, v, h => by
    unfold lvOf at h
    unfold lv_args
    by_cases hw : w.category = 2
    · rw [if_pos hw] at h
      match k, h with
      | 0, h =>
        simp at h
        subst h
        simp
      | 1, h => simp at h
      | k + 2, h =>
        simp only [List.getElem?_cons_succ] at h
        have := lvOf_args vs (i + 2) k v h
        rw [if_pos hw]
        rw [show i + (k + 2) = i + 2 + k by omega]
        exact List.mem_cons_of_mem _ this
    · rw [if_neg hw] at h
      have hw1 : w.category = 1 := (lv_cat w).resolve_right hw
      match k, h with
      | 0, h =>
        simp at h
        subst h
        simp
      | k + 1, h =>
        simp only [List.getElem?_cons_succ] at h
        have := lvOf_args vs (i + 1) k v h
        rw [if_neg hw]
        rw [show i + (k + 1) = i + 1 + k by omega]
        exact List.mem_cons_of_mem _ this
theorem rep_none {n k : Nat} {v : Value} (h : (List.replicate n (none : Option Value))[k]? = some (some v)) : False := by
  rw [List.getElem?_replicate] at h
  split at h <;> cases h
theorem con_of {l : Launch} {C : JC} {y : MethodName} {cc : ByteArray} {nL : Nat} {ret : Option FieldType} {d : Nat} {av : List Value} {S : Sto} {v : Option Value} {S' : Sto} (own : String) (k : Nat) (lv0 : List (Option Value)) (hy : plainName y.cls = true) (ho : y.cls = own) (hC : JInj C)
    (hlen : (lg_sl av).length ≤ nL) (hlv : lvOf av ++ List.replicate k none = lv0) (hln : lv0.length ≤ nL) (body : ∀ E, Jok l C E own cc d → Jret C E cc ret v S' → J C E S 0 lv0 []) : Con l C y cc nL ret d av S v S' := by
  refine Met.ofW (cc := cc) (maxL := nL) (ret := ret) hy rfl ?_
  intro p e s m args below meth c s₁ B hml hv
  obtain ⟨rfl, hP, hK, hN⟩ := hv
  have hts := atoms_spec (ws := .code y cc nL ret :: WT) B.pre
  have hown : s.vm.findClass own = some m.cls := by rw [← ho]; exact findClass_of_methodNamed B.named
  have hl := lv_entry av (n := nL) hlen
  rw [lg_entry_eq]
  generalize (lg_sl av ++ List.replicate (nL - (lg_sl av).length) Slot.unset).toArray = ls at hl ⊢
  have hok : Jok l C (p, l, e, (headSpec (.code y cc nL ret :: WT) ({ frames := d, cells := 0, slots := 0, locals := 128 * d })).room, s, m, av.toArray, below, meth, c, JA C, 0, 0, nL, MQ below (JQ C v S') av.toArray s 0 0 (JA C)) own cc d :=
    ⟨rfl, B.exec, B.bytes, hml, hown, fun w hw => hts w (List.mem_cons_of_mem _ hw), hK, hN, hC, fun i hi => ⟨i, hi, rfl⟩, Nat.le_refl _, Nat.le_refl _, Nat.le_refl _, Nat.le_refl _⟩
  have hret : Jret C (p, l, e, (headSpec (.code y cc nL ret :: WT) ({ frames := d, cells := 0, slots := 0, locals := 128 * d })).room, s, m, av.toArray, below, meth, c, JA C, 0, 0, nL, MQ below (JQ C v S') av.toArray s 0 0 (JA C)) cc ret v S' := by
    refine ⟨fun r ty H locs ls pc hr hv hn hP hS hd => ?_, fun H locs ls pc hr hv hP hS hd => ?_⟩
    · subst hv
      exact W.zret (ty := ty) B.exec B.bytes (by rw [B.returns, hr]) hn (fun t ht hW => ⟨⟨rfl, by rw [ht]; exact hP⟩, hS.F ht⟩) hS.2.2 hd B.notSynchronized
    · subst hv
      exact W.vret B.exec B.bytes (by rw [B.returns, hr]) (fun t ht hW => ⟨⟨rfl, by rw [ht]; exact hP⟩, hS.F ht⟩) hS.2.2 hd B.notSynchronized
  refine body _ hok hret s.heap [] ls hP va_S.rf ⟨hl.1, hl.2.1, hln, fun q w hq => ?_⟩
  have hm : (q, w) ∈ lv_args 0 av := by
    rw [← hlv] at hq
    rcases Nat.lt_or_ge q (lvOf av).length with h | h
    · rw [List.getElem?_append_left h] at hq
      have := lvOf_args av 0 q w hq
      rwa [Nat.zero_add] at this
    · rw [List.getElem?_append_right h] at hq
      exact (rep_none hq).elim
  exact hl.2.2 (q, w) hm
section Rows
variable {l : Launch} {C : JC} {E : JE} {own : String} {cc : ByteArray} {d : Nat} {S : Sto} {pc : Nat} {lv : List (Option Value)} {st : List Value}
theorem j_iconst (hE : Jok l C E own cc d) {n : Int} (v : Int32) (hd : decode cc pc = .ok (.iconst n, 1)) (hv : Int32.ofInt n = v) (k : J C E S (pc + 1) lv (.int v :: st)) : J C E S pc lv (st) := by
  obtain ⟨p, l0, e, R, s, m, args, below, meth, c, A, cells, slots, nL, Q⟩ := E
  obtain ⟨rfl, hx, hb, hml, hown, hts, hK, hN, hC, hA, hfr, hlo, hce, hsl⟩ := hE
  intro H locs ls hP hS hv
  exact lv_iconst hx hb hd ‹_› (k H locs ls hP hS hv)
theorem j_bipush (hE : Jok l C E own cc d) {n : Int} (v : Int32) (hd : decode cc pc = .ok (.bipush n, 2)) (hv : (Int8.ofInt n).toInt32 = v) (k : J C E S (pc + 2) lv (.int v :: st)) : J C E S pc lv (st) := by
  obtain ⟨p, l0, e, R, s, m, args, below, meth, c, A, cells, slots, nL, Q⟩ := E
  obtain ⟨rfl, hx, hb, hml, hown, hts, hK, hN, hC, hA, hfr, hlo, hce, hsl⟩ := hE
  intro H locs ls hP hS hv
  exact lv_bipush hx hb hd ‹_› (k H locs ls hP hS hv)
theorem j_sipush (hE : Jok l C E own cc d) {n : Int} (v : Int32) (hd : decode cc pc = .ok (.sipush n, 3)) (hv : (Int16.ofInt n).toInt32 = v) (k : J C E S (pc + 3) lv (.int v :: st)) : J C E S pc lv (st) := by
  obtain ⟨p, l0, e, R, s, m, args, below, meth, c, A, cells, slots, nL, Q⟩ := E
  obtain ⟨rfl, hx, hb, hml, hown, hts, hK, hN, hC, hA, hfr, hlo, hce, hsl⟩ := hE
  intro H locs ls hP hS hv
  exact lv_sipush hx hb hd ‹_› (k H locs ls hP hS hv)
theorem j_lconst (hE : Jok l C E own cc d) {n : Fin 2} (v : Int64) (hd : decode cc pc = .ok (.lconst n, 1)) (hv : Int64.ofNat (n : Nat) = v) (k : J C E S (pc + 1) lv (.long v :: st)) : J C E S pc lv (st) := by
  obtain ⟨p, l0, e, R, s, m, args, below, meth, c, A, cells, slots, nL, Q⟩ := E
  obtain ⟨rfl, hx, hb, hml, hown, hts, hK, hN, hC, hA, hfr, hlo, hce, hsl⟩ := hE
  intro H locs ls hP hS hv
  exact lv_lconst hx hb hd ‹_› (k H locs ls hP hS hv)
theorem j_ldc (hE : Jok l C E own cc d) {i : Nat} {v : Int32} (hd : decode cc pc = .ok (.ldc i, 2)) (hw : Cond.constant own i v ∈ WT) (k : J C E S (pc + 2) lv (.int v :: st)) : J C E S pc lv (st) := by
  obtain ⟨p, l0, e, R, s, m, args, below, meth, c, A, cells, slots, nL, Q⟩ := E
  obtain ⟨rfl, hx, hb, hml, hown, hts, hK, hN, hC, hA, hfr, hlo, hce, hsl⟩ := hE
  intro H locs ls hP hS hv
  exact lv_ldc hx hb hown (hts _ hw) hd (k H locs ls hP hS hv)
theorem j_ldcw (hE : Jok l C E own cc d) {i : Nat} {v : Int32} (hd : decode cc pc = .ok (.ldc_w i, 3)) (hw : Cond.constant own i v ∈ WT) (k : J C E S (pc + 3) lv (.int v :: st)) : J C E S pc lv (st) := by
  obtain ⟨p, l0, e, R, s, m, args, below, meth, c, A, cells, slots, nL, Q⟩ := E
  obtain ⟨rfl, hx, hb, hml, hown, hts, hK, hN, hC, hA, hfr, hlo, hce, hsl⟩ := hE
  intro H locs ls hP hS hv
  exact lv_ldcw hx hb hown (hts _ hw) hd (k H locs ls hP hS hv)
theorem j_ldc2 (hE : Jok l C E own cc d) {i : Nat} {v : Int64} (hd : decode cc pc = .ok (.ldc2_w i, 3)) (hw : Cond.constantLong own i v ∈ WT) (k : J C E S (pc + 3) lv (.long v :: st)) : J C E S pc lv (st) := by
  obtain ⟨p, l0, e, R, s, m, args, below, meth, c, A, cells, slots, nL, Q⟩ := E
  obtain ⟨rfl, hx, hb, hml, hown, hts, hK, hN, hC, hA, hfr, hlo, hce, hsl⟩ := hE
  intro H locs ls hP hS hv
  exact lv_ldc2 hx hb hown (hts _ hw) hd (k H locs ls hP hS hv)
theorem j_iadd (hE : Jok l C E own cc d) {x y : Int32} (hd : decode cc pc = .ok (.iadd, 1)) (k : J C E S (pc + 1) lv (.int (x + y) :: st)) : J C E S pc lv (.int y :: .int x :: st) := by
  obtain ⟨p, l0, e, R, s, m, args, below, meth, c, A, cells, slots, nL, Q⟩ := E
  obtain ⟨rfl, hx, hb, hml, hown, hts, hK, hN, hC, hA, hfr, hlo, hce, hsl⟩ := hE
  intro H locs ls hP hS hv
  exact lv_iadd hx hb hd (k H locs ls hP hS hv)
theorem j_isub (hE : Jok l C E own cc d) {x y : Int32} (hd : decode cc pc = .ok (.isub, 1)) (k : J C E S (pc + 1) lv (.int (x - y) :: st)) : J C E S pc lv (.int y :: .int x :: st) := by
  obtain ⟨p, l0, e, R, s, m, args, below, meth, c, A, cells, slots, nL, Q⟩ := E
  obtain ⟨rfl, hx, hb, hml, hown, hts, hK, hN, hC, hA, hfr, hlo, hce, hsl⟩ := hE
  intro H locs ls hP hS hv
  exact lv_isub hx hb hd (k H locs ls hP hS hv)
theorem j_imul (hE : Jok l C E own cc d) {x y : Int32} (hd : decode cc pc = .ok (.imul, 1)) (k : J C E S (pc + 1) lv (.int (x * y) :: st)) : J C E S pc lv (.int y :: .int x :: st) := by
  obtain ⟨p, l0, e, R, s, m, args, below, meth, c, A, cells, slots, nL, Q⟩ := E
  obtain ⟨rfl, hx, hb, hml, hown, hts, hK, hN, hC, hA, hfr, hlo, hce, hsl⟩ := hE
  intro H locs ls hP hS hv
  exact lv_imul hx hb hd (k H locs ls hP hS hv)
theorem j_iand (hE : Jok l C E own cc d) {x y : Int32} (hd : decode cc pc = .ok (.iand, 1)) (k : J C E S (pc + 1) lv (.int (x &&& y) :: st)) : J C E S pc lv (.int y :: .int x :: st) := by
  obtain ⟨p, l0, e, R, s, m, args, below, meth, c, A, cells, slots, nL, Q⟩ := E
  obtain ⟨rfl, hx, hb, hml, hown, hts, hK, hN, hC, hA, hfr, hlo, hce, hsl⟩ := hE
  intro H locs ls hP hS hv
  exact lv_iand hx hb hd (k H locs ls hP hS hv)
theorem j_ior (hE : Jok l C E own cc d) {x y : Int32} (hd : decode cc pc = .ok (.ior, 1)) (k : J C E S (pc + 1) lv (.int (x ||| y) :: st)) : J C E S pc lv (.int y :: .int x :: st) := by
  obtain ⟨p, l0, e, R, s, m, args, below, meth, c, A, cells, slots, nL, Q⟩ := E
  obtain ⟨rfl, hx, hb, hml, hown, hts, hK, hN, hC, hA, hfr, hlo, hce, hsl⟩ := hE
  intro H locs ls hP hS hv
  exact lv_ior hx hb hd (k H locs ls hP hS hv)
theorem j_ixor (hE : Jok l C E own cc d) {x y : Int32} (hd : decode cc pc = .ok (.ixor, 1)) (k : J C E S (pc + 1) lv (.int (x ^^^ y) :: st)) : J C E S pc lv (.int y :: .int x :: st) := by
  obtain ⟨p, l0, e, R, s, m, args, below, meth, c, A, cells, slots, nL, Q⟩ := E
  obtain ⟨rfl, hx, hb, hml, hown, hts, hK, hN, hC, hA, hfr, hlo, hce, hsl⟩ := hE
  intro H locs ls hP hS hv
  exact lv_ixor hx hb hd (k H locs ls hP hS hv)
theorem j_ishl (hE : Jok l C E own cc d) {x y : Int32} (hd : decode cc pc = .ok (.ishl, 1)) (k : J C E S (pc + 1) lv (.int (x <<< (y &&& 31)) :: st)) : J C E S pc lv (.int y :: .int x :: st) := by
  obtain ⟨p, l0, e, R, s, m, args, below, meth, c, A, cells, slots, nL, Q⟩ := E
  obtain ⟨rfl, hx, hb, hml, hown, hts, hK, hN, hC, hA, hfr, hlo, hce, hsl⟩ := hE
  intro H locs ls hP hS hv
  exact lv_ishl hx hb hd (k H locs ls hP hS hv)
theorem j_ishr (hE : Jok l C E own cc d) {x y : Int32} (hd : decode cc pc = .ok (.ishr, 1)) (k : J C E S (pc + 1) lv (.int (x >>> (y &&& 31)) :: st)) : J C E S pc lv (.int y :: .int x :: st) := by
  obtain ⟨p, l0, e, R, s, m, args, below, meth, c, A, cells, slots, nL, Q⟩ := E
  obtain ⟨rfl, hx, hb, hml, hown, hts, hK, hN, hC, hA, hfr, hlo, hce, hsl⟩ := hE
  intro H locs ls hP hS hv
  exact lv_ishr hx hb hd (k H locs ls hP hS hv)
theorem j_iushr (hE : Jok l C E own cc d) {x y : Int32} (hd : decode cc pc = .ok (.iushr, 1)) (k : J C E S (pc + 1) lv (.int (x.toUInt32 >>> (y.toUInt32 &&& Int32.toUInt32 31)).toInt32 :: st)) : J C E S pc lv (.int y :: .int x :: st) := by
  obtain ⟨p, l0, e, R, s, m, args, below, meth, c, A, cells, slots, nL, Q⟩ := E
  obtain ⟨rfl, hx, hb, hml, hown, hts, hK, hN, hC, hA, hfr, hlo, hce, hsl⟩ := hE
  intro H locs ls hP hS hv
  exact lv_iushr hx hb hd rfl (k H locs ls hP hS hv)
theorem j_idiv (hE : Jok l C E own cc d) {x y : Int32} (hd : decode cc pc = .ok (.idiv, 1)) (hne : ¬ y = 0) (k : J C E S (pc + 1) lv (.int (x / y) :: st)) : J C E S pc lv (.int y :: .int x :: st) := by
  obtain ⟨p, l0, e, R, s, m, args, below, meth, c, A, cells, slots, nL, Q⟩ := E
  obtain ⟨rfl, hx, hb, hml, hown, hts, hK, hN, hC, hA, hfr, hlo, hce, hsl⟩ := hE
  intro H locs ls hP hS hv
  exact lv_idiv hx hb hd hne (k H locs ls hP hS hv)
theorem j_irem (hE : Jok l C E own cc d) {x y : Int32} (hd : decode cc pc = .ok (.irem, 1)) (hne : ¬ y = 0) (k : J C E S (pc + 1) lv (.int (x - x / y * y) :: st)) : J C E S pc lv (.int y :: .int x :: st) := by
  obtain ⟨p, l0, e, R, s, m, args, below, meth, c, A, cells, slots, nL, Q⟩ := E
  obtain ⟨rfl, hx, hb, hml, hown, hts, hK, hN, hC, hA, hfr, hlo, hce, hsl⟩ := hE
  intro H locs ls hP hS hv
  exact lv_irem hx hb hd hne (k H locs ls hP hS hv)
theorem j_ladd (hE : Jok l C E own cc d) {x y : Int64} (hd : decode cc pc = .ok (.ladd, 1)) (k : J C E S (pc + 1) lv (.long (x + y) :: st)) : J C E S pc lv (.long y :: .long x :: st) := by
  obtain ⟨p, l0, e, R, s, m, args, below, meth, c, A, cells, slots, nL, Q⟩ := E
  obtain ⟨rfl, hx, hb, hml, hown, hts, hK, hN, hC, hA, hfr, hlo, hce, hsl⟩ := hE
  intro H locs ls hP hS hv
  exact lv_ladd hx hb hd (k H locs ls hP hS hv)
theorem j_lsub (hE : Jok l C E own cc d) {x y : Int64} (hd : decode cc pc = .ok (.lsub, 1)) (k : J C E S (pc + 1) lv (.long (x - y) :: st)) : J C E S pc lv (.long y :: .long x :: st) := by
  obtain ⟨p, l0, e, R, s, m, args, below, meth, c, A, cells, slots, nL, Q⟩ := E
  obtain ⟨rfl, hx, hb, hml, hown, hts, hK, hN, hC, hA, hfr, hlo, hce, hsl⟩ := hE
  intro H locs ls hP hS hv
  exact lv_lsub hx hb hd (k H locs ls hP hS hv)
theorem j_lmul (hE : Jok l C E own cc d) {x y : Int64} (hd : decode cc pc = .ok (.lmul, 1)) (k : J C E S (pc + 1) lv (.long (x * y) :: st)) : J C E S pc lv (.long y :: .long x :: st) := by
  obtain ⟨p, l0, e, R, s, m, args, below, meth, c, A, cells, slots, nL, Q⟩ := E
  obtain ⟨rfl, hx, hb, hml, hown, hts, hK, hN, hC, hA, hfr, hlo, hce, hsl⟩ := hE
  intro H locs ls hP hS hv
  exact lv_lmul hx hb hd (k H locs ls hP hS hv)
theorem j_ldiv (hE : Jok l C E own cc d) {x y : Int64} (hd : decode cc pc = .ok (.ldiv, 1)) (hne : ¬ y = 0) (k : J C E S (pc + 1) lv (.long (x / y) :: st)) : J C E S pc lv (.long y :: .long x :: st) := by
  obtain ⟨p, l0, e, R, s, m, args, below, meth, c, A, cells, slots, nL, Q⟩ := E
  obtain ⟨rfl, hx, hb, hml, hown, hts, hK, hN, hC, hA, hfr, hlo, hce, hsl⟩ := hE
  intro H locs ls hP hS hv
  exact lv_ldiv hx hb hd hne (k H locs ls hP hS hv)
theorem j_lrem (hE : Jok l C E own cc d) {x y : Int64} (hd : decode cc pc = .ok (.lrem, 1)) (hne : ¬ y = 0) (k : J C E S (pc + 1) lv (.long (x - x / y * y) :: st)) : J C E S pc lv (.long y :: .long x :: st) := by
  obtain ⟨p, l0, e, R, s, m, args, below, meth, c, A, cells, slots, nL, Q⟩ := E
  obtain ⟨rfl, hx, hb, hml, hown, hts, hK, hN, hC, hA, hfr, hlo, hce, hsl⟩ := hE
  intro H locs ls hP hS hv
  exact lv_lrem hx hb hd hne (k H locs ls hP hS hv)
theorem j_lshl (hE : Jok l C E own cc d) {x : Int64} {y : Int32} (hd : decode cc pc = .ok (.lshl, 1)) (k : J C E S (pc + 1) lv (.long (x <<< (y.toInt64 &&& 63)) :: st)) : J C E S pc lv (.int y :: .long x :: st) := by
  obtain ⟨p, l0, e, R, s, m, args, below, meth, c, A, cells, slots, nL, Q⟩ := E
  obtain ⟨rfl, hx, hb, hml, hown, hts, hK, hN, hC, hA, hfr, hlo, hce, hsl⟩ := hE
  intro H locs ls hP hS hv
  exact lv_lshl hx hb hd rfl (k H locs ls hP hS hv)
theorem j_i2l (hE : Jok l C E own cc d) {x : Int32} (hd : decode cc pc = .ok (.i2l, 1)) (k : J C E S (pc + 1) lv (.long x.toInt64 :: st)) : J C E S pc lv (.int x :: st) := by
  obtain ⟨p, l0, e, R, s, m, args, below, meth, c, A, cells, slots, nL, Q⟩ := E
  obtain ⟨rfl, hx, hb, hml, hown, hts, hK, hN, hC, hA, hfr, hlo, hce, hsl⟩ := hE
  intro H locs ls hP hS hv
  exact lv_i2l hx hb hd rfl (k H locs ls hP hS hv)
theorem j_l2i (hE : Jok l C E own cc d) {x : Int64} (hd : decode cc pc = .ok (.l2i, 1)) (k : J C E S (pc + 1) lv (.int x.toInt32 :: st)) : J C E S pc lv (.long x :: st) := by
  obtain ⟨p, l0, e, R, s, m, args, below, meth, c, A, cells, slots, nL, Q⟩ := E
  obtain ⟨rfl, hx, hb, hml, hown, hts, hK, hN, hC, hA, hfr, hlo, hce, hsl⟩ := hE
  intro H locs ls hP hS hv
  exact lv_l2i hx hb hd rfl (k H locs ls hP hS hv)
theorem j_lcmp (hE : Jok l C E own cc d) {x y : Int64} (hd : decode cc pc = .ok (.lcmp, 1)) (k : J C E S (pc + 1) lv (.int (lg_cmp x y) :: st)) : J C E S pc lv (.long y :: .long x :: st) := by
  obtain ⟨p, l0, e, R, s, m, args, below, meth, c, A, cells, slots, nL, Q⟩ := E
  obtain ⟨rfl, hx, hb, hml, hown, hts, hK, hN, hC, hA, hfr, hlo, hce, hsl⟩ := hE
  intro H locs ls hP hS hv
  exact W.lcmp hx hb hd (k H locs ls hP hS hv)
theorem j_dup (hE : Jok l C E own cc d) {a : Value} (hd : decode cc pc = .ok (.dup, 1)) (ha : a.category = 1) (k : J C E S (pc + 1) lv (a :: a :: st)) : J C E S pc lv (a :: st) := by
  obtain ⟨p, l0, e, R, s, m, args, below, meth, c, A, cells, slots, nL, Q⟩ := E
  obtain ⟨rfl, hx, hb, hml, hown, hts, hK, hN, hC, hA, hfr, hlo, hce, hsl⟩ := hE
  intro H locs ls hP hS hv
  exact lv_dup hx hb hd ha (k H locs ls hP hS hv)
theorem j_pop (hE : Jok l C E own cc d) {a : Value} (hd : decode cc pc = .ok (.pop, 1)) (ha : a.category = 1) (k : J C E S (pc + 1) lv (st)) : J C E S pc lv (a :: st) := by
  obtain ⟨p, l0, e, R, s, m, args, below, meth, c, A, cells, slots, nL, Q⟩ := E
  obtain ⟨rfl, hx, hb, hml, hown, hts, hK, hN, hC, hA, hfr, hlo, hce, hsl⟩ := hE
  intro H locs ls hP hS hv
  exact lv_pop hx hb hd ha (k H locs ls hP hS hv)
theorem j_dup_x1 (hE : Jok l C E own cc d) {a b : Value} (hd : decode cc pc = .ok (.dup_x1, 1)) (ha : a.category = 1) (h2 : b.category = 1) (k : J C E S (pc + 1) lv (a :: b :: a :: st)) : J C E S pc lv (a :: b :: st) := by
  obtain ⟨p, l0, e, R, s, m, args, below, meth, c, A, cells, slots, nL, Q⟩ := E
  obtain ⟨rfl, hx, hb, hml, hown, hts, hK, hN, hC, hA, hfr, hlo, hce, hsl⟩ := hE
  intro H locs ls hP hS hv
  exact lv_dup_x1 hx hb hd ha h2 (k H locs ls hP hS hv)
theorem j_dup_x2 (hE : Jok l C E own cc d) {a b c0 : Value} (hd : decode cc pc = .ok (.dup_x2, 1)) (ha : a.category = 1) (h2 : b.category = 1) (h3 : c0.category = 1) (k : J C E S (pc + 1) lv (a :: b :: c0 :: a :: st)) : J C E S pc lv (a :: b :: c0 :: st) := by
  obtain ⟨p, l0, e, R, s, m, args, below, meth, c, A, cells, slots, nL, Q⟩ := E
  obtain ⟨rfl, hx, hb, hml, hown, hts, hK, hN, hC, hA, hfr, hlo, hce, hsl⟩ := hE
  intro H locs ls hP hS hv
  exact lv_dup_x2 hx hb hd ha h2 h3 (k H locs ls hP hS hv)
theorem j_dup2 (hE : Jok l C E own cc d) {a b : Value} (hd : decode cc pc = .ok (.dup2, 1)) (ha : a.category = 1) (h2 : b.category = 1) (k : J C E S (pc + 1) lv (a :: b :: a :: b :: st)) : J C E S pc lv (a :: b :: st) := by
  obtain ⟨p, l0, e, R, s, m, args, below, meth, c, A, cells, slots, nL, Q⟩ := E
  obtain ⟨rfl, hx, hb, hml, hown, hts, hK, hN, hC, hA, hfr, hlo, hce, hsl⟩ := hE
  intro H locs ls hP hS hv
  exact lv_dup2_11 hx hb hd ha h2 (k H locs ls hP hS hv)
theorem j_goto (hE : Jok l C E own cc d) {off : Int} (tgt : Nat) (hd : decode cc pc = .ok (.goto off, 3)) (ht : (pc : Int) + off = (tgt : Int)) (k : J C E S tgt lv st) : J C E S pc lv st := by
  obtain ⟨p, l0, e, R, s, m, args, below, meth, c, A, cells, slots, nL, Q⟩ := E
  obtain ⟨rfl, hx, hb, hml, hown, hts, hK, hN, hC, hA, hfr, hlo, hce, hsl⟩ := hE
  intro H locs ls hP hS hv
  exact lv_goto hx hb hd ht (k H locs ls hP hS hv)
theorem j_ifeq (hE : Jok l C E own cc d) {x : Int32} {off : Int} (tgt : Nat) (hd : decode cc pc = .ok (.ifCond .eq off, 3)) (ht : (pc : Int) + off = (tgt : Int)) (kt : x = 0 → J C E S tgt lv st) (kf : ¬ x = 0 → J C E S (pc + 3) lv st) : J C E S pc lv (.int x :: st) := by
  obtain ⟨p, l0, e, R, s, m, args, below, meth, c, A, cells, slots, nL, Q⟩ := E
  obtain ⟨rfl, hx, hb, hml, hown, hts, hK, hN, hC, hA, hfr, hlo, hce, hsl⟩ := hE
  intro H locs ls hP hS hv
  exact lv_if_eq hx hb hd ht (fun q => kt q H locs ls hP hS hv) (fun q => kf q H locs ls hP hS hv)
theorem j_ifne (hE : Jok l C E own cc d) {x : Int32} {off : Int} (tgt : Nat) (hd : decode cc pc = .ok (.ifCond .ne off, 3)) (ht : (pc : Int) + off = (tgt : Int)) (kt : ¬ x = 0 → J C E S tgt lv st) (kf : x = 0 → J C E S (pc + 3) lv st) : J C E S pc lv (.int x :: st) := by
  obtain ⟨p, l0, e, R, s, m, args, below, meth, c, A, cells, slots, nL, Q⟩ := E
  obtain ⟨rfl, hx, hb, hml, hown, hts, hK, hN, hC, hA, hfr, hlo, hce, hsl⟩ := hE
  intro H locs ls hP hS hv
  exact lv_if_ne hx hb hd ht (fun q => kt q H locs ls hP hS hv) (fun q => kf q H locs ls hP hS hv)
theorem j_iflt (hE : Jok l C E own cc d) {x : Int32} {off : Int} (tgt : Nat) (hd : decode cc pc = .ok (.ifCond .lt off, 3)) (ht : (pc : Int) + off = (tgt : Int)) (kt : x < 0 → J C E S tgt lv st) (kf : ¬ x < 0 → J C E S (pc + 3) lv st) : J C E S pc lv (.int x :: st) := by
  obtain ⟨p, l0, e, R, s, m, args, below, meth, c, A, cells, slots, nL, Q⟩ := E
  obtain ⟨rfl, hx, hb, hml, hown, hts, hK, hN, hC, hA, hfr, hlo, hce, hsl⟩ := hE
  intro H locs ls hP hS hv
  exact lv_if_lt hx hb hd ht (fun q => kt q H locs ls hP hS hv) (fun q => kf q H locs ls hP hS hv)
theorem j_ifge (hE : Jok l C E own cc d) {x : Int32} {off : Int} (tgt : Nat) (hd : decode cc pc = .ok (.ifCond .ge off, 3)) (ht : (pc : Int) + off = (tgt : Int)) (kt : 0 ≤ x → J C E S tgt lv st) (kf : ¬ 0 ≤ x → J C E S (pc + 3) lv st) : J C E S pc lv (.int x :: st) := by
  obtain ⟨p, l0, e, R, s, m, args, below, meth, c, A, cells, slots, nL, Q⟩ := E
  obtain ⟨rfl, hx, hb, hml, hown, hts, hK, hN, hC, hA, hfr, hlo, hce, hsl⟩ := hE
  intro H locs ls hP hS hv
  exact lv_if_ge hx hb hd ht (fun q => kt q H locs ls hP hS hv) (fun q => kf q H locs ls hP hS hv)
theorem j_ifgt (hE : Jok l C E own cc d) {x : Int32} {off : Int} (tgt : Nat) (hd : decode cc pc = .ok (.ifCond .gt off, 3)) (ht : (pc : Int) + off = (tgt : Int)) (kt : 0 < x → J C E S tgt lv st) (kf : ¬ 0 < x → J C E S (pc + 3) lv st) : J C E S pc lv (.int x :: st) := by
  obtain ⟨p, l0, e, R, s, m, args, below, meth, c, A, cells, slots, nL, Q⟩ := E
  obtain ⟨rfl, hx, hb, hml, hown, hts, hK, hN, hC, hA, hfr, hlo, hce, hsl⟩ := hE
  intro H locs ls hP hS hv
  exact lv_if_gt hx hb hd ht (fun q => kt q H locs ls hP hS hv) (fun q => kf q H locs ls hP hS hv)
theorem j_ifle (hE : Jok l C E own cc d) {x : Int32} {off : Int} (tgt : Nat) (hd : decode cc pc = .ok (.ifCond .le off, 3)) (ht : (pc : Int) + off = (tgt : Int)) (kt : x ≤ 0 → J C E S tgt lv st) (kf : ¬ x ≤ 0 → J C E S (pc + 3) lv st) : J C E S pc lv (.int x :: st) := by
  obtain ⟨p, l0, e, R, s, m, args, below, meth, c, A, cells, slots, nL, Q⟩ := E
  obtain ⟨rfl, hx, hb, hml, hown, hts, hK, hN, hC, hA, hfr, hlo, hce, hsl⟩ := hE
  intro H locs ls hP hS hv
  exact lv_if_le hx hb hd ht (fun q => kt q H locs ls hP hS hv) (fun q => kf q H locs ls hP hS hv)
theorem j_icmpeq (hE : Jok l C E own cc d) {x y : Int32} {off : Int} (tgt : Nat) (hd : decode cc pc = .ok (.if_icmp .eq off, 3)) (ht : (pc : Int) + off = (tgt : Int)) (kt : x = y → J C E S tgt lv st) (kf : ¬ x = y → J C E S (pc + 3) lv st) : J C E S pc lv (.int y :: .int x :: st) := by
  obtain ⟨p, l0, e, R, s, m, args, below, meth, c, A, cells, slots, nL, Q⟩ := E
  obtain ⟨rfl, hx, hb, hml, hown, hts, hK, hN, hC, hA, hfr, hlo, hce, hsl⟩ := hE
  intro H locs ls hP hS hv
  exact lv_icmp_eq hx hb hd ht (fun q => kt q H locs ls hP hS hv) (fun q => kf q H locs ls hP hS hv)
theorem j_icmpne (hE : Jok l C E own cc d) {x y : Int32} {off : Int} (tgt : Nat) (hd : decode cc pc = .ok (.if_icmp .ne off, 3)) (ht : (pc : Int) + off = (tgt : Int)) (kt : ¬ x = y → J C E S tgt lv st) (kf : x = y → J C E S (pc + 3) lv st) : J C E S pc lv (.int y :: .int x :: st) := by
  obtain ⟨p, l0, e, R, s, m, args, below, meth, c, A, cells, slots, nL, Q⟩ := E
  obtain ⟨rfl, hx, hb, hml, hown, hts, hK, hN, hC, hA, hfr, hlo, hce, hsl⟩ := hE
  intro H locs ls hP hS hv
  exact lv_icmp_ne hx hb hd ht (fun q => kt q H locs ls hP hS hv) (fun q => kf q H locs ls hP hS hv)
theorem j_icmplt (hE : Jok l C E own cc d) {x y : Int32} {off : Int} (tgt : Nat) (hd : decode cc pc = .ok (.if_icmp .lt off, 3)) (ht : (pc : Int) + off = (tgt : Int)) (kt : x < y → J C E S tgt lv st) (kf : ¬ x < y → J C E S (pc + 3) lv st) : J C E S pc lv (.int y :: .int x :: st) := by
  obtain ⟨p, l0, e, R, s, m, args, below, meth, c, A, cells, slots, nL, Q⟩ := E
  obtain ⟨rfl, hx, hb, hml, hown, hts, hK, hN, hC, hA, hfr, hlo, hce, hsl⟩ := hE
  intro H locs ls hP hS hv
  exact lv_icmp_lt hx hb hd ht (fun q => kt q H locs ls hP hS hv) (fun q => kf q H locs ls hP hS hv)
theorem j_icmpge (hE : Jok l C E own cc d) {x y : Int32} {off : Int} (tgt : Nat) (hd : decode cc pc = .ok (.if_icmp .ge off, 3)) (ht : (pc : Int) + off = (tgt : Int)) (kt : y ≤ x → J C E S tgt lv st) (kf : ¬ y ≤ x → J C E S (pc + 3) lv st) : J C E S pc lv (.int y :: .int x :: st) := by
  obtain ⟨p, l0, e, R, s, m, args, below, meth, c, A, cells, slots, nL, Q⟩ := E
  obtain ⟨rfl, hx, hb, hml, hown, hts, hK, hN, hC, hA, hfr, hlo, hce, hsl⟩ := hE
  intro H locs ls hP hS hv
  exact lv_icmp_ge hx hb hd ht (fun q => kt q H locs ls hP hS hv) (fun q => kf q H locs ls hP hS hv)
theorem j_icmpgt (hE : Jok l C E own cc d) {x y : Int32} {off : Int} (tgt : Nat) (hd : decode cc pc = .ok (.if_icmp .gt off, 3)) (ht : (pc : Int) + off = (tgt : Int)) (kt : y < x → J C E S tgt lv st) (kf : ¬ y < x → J C E S (pc + 3) lv st) : J C E S pc lv (.int y :: .int x :: st) := by
  obtain ⟨p, l0, e, R, s, m, args, below, meth, c, A, cells, slots, nL, Q⟩ := E
  obtain ⟨rfl, hx, hb, hml, hown, hts, hK, hN, hC, hA, hfr, hlo, hce, hsl⟩ := hE
  intro H locs ls hP hS hv
  exact lv_icmp_gt hx hb hd ht (fun q => kt q H locs ls hP hS hv) (fun q => kf q H locs ls hP hS hv)
theorem j_icmple (hE : Jok l C E own cc d) {x y : Int32} {off : Int} (tgt : Nat) (hd : decode cc pc = .ok (.if_icmp .le off, 3)) (ht : (pc : Int) + off = (tgt : Int)) (kt : x ≤ y → J C E S tgt lv st) (kf : ¬ x ≤ y → J C E S (pc + 3) lv st) : J C E S pc lv (.int y :: .int x :: st) := by
  obtain ⟨p, l0, e, R, s, m, args, below, meth, c, A, cells, slots, nL, Q⟩ := E
  obtain ⟨rfl, hx, hb, hml, hown, hts, hK, hN, hC, hA, hfr, hlo, hce, hsl⟩ := hE
  intro H locs ls hP hS hv
  exact lv_icmp_le hx hb hd ht (fun q => kt q H locs ls hP hS hv) (fun q => kf q H locs ls hP hS hv)
theorem j_tabIn (hE : Jok l C E own cc d) {dflt lo hi : Int} {offs : Array Int} {len : Nat} {x : Int32} {off : Int} (tgt : Nat) (hd : decode cc pc = .ok (.tableswitch dflt lo hi offs, len)) (h1 : ¬ x.toInt < lo) (h2 : ¬ hi < x.toInt) (ho : offs[(x.toInt - lo).toNat]? = some off) (ht : (pc : Int) + off = (tgt : Int)) (k : J C E S tgt lv st) : J C E S pc lv (.int x :: st) := by
  obtain ⟨p, l0, e, R, s, m, args, below, meth, c, A, cells, slots, nL, Q⟩ := E
  obtain ⟨rfl, hx, hb, hml, hown, hts, hK, hN, hC, hA, hfr, hlo, hce, hsl⟩ := hE
  intro H locs ls hP hS hv
  exact lv_tableIn hx hb hd h1 h2 ho ht (k H locs ls hP hS hv)
theorem j_tabOut (hE : Jok l C E own cc d) {dflt lo hi : Int} {offs : Array Int} {len : Nat} {x : Int32} (tgt : Nat) (hd : decode cc pc = .ok (.tableswitch dflt lo hi offs, len)) (h : x.toInt < lo ∨ hi < x.toInt) (ht : (pc : Int) + dflt = (tgt : Int)) (k : J C E S tgt lv st) : J C E S pc lv (.int x :: st) := by
  obtain ⟨p, l0, e, R, s, m, args, below, meth, c, A, cells, slots, nL, Q⟩ := E
  obtain ⟨rfl, hx, hb, hml, hown, hts, hK, hN, hC, hA, hfr, hlo, hce, hsl⟩ := hE
  intro H locs ls hP hS hv
  exact lv_tableOut hx hb hd h ht (k H locs ls hP hS hv)
theorem j_look (hE : Jok l C E own cc d) {dflt : Int} {ps : Array (Int × Int)} {len : Nat} {x : Int32} {off : Int} (tgt : Nat) (hd : decode cc pc = .ok (.lookupswitch dflt ps, len)) (hp : (ps.toList.zip (ps.toList.drop 1)).all (fun (a, next) => a.1 < next.1) = true) (ho : Op.lookupswitch.offset ps.toList dflt x.toInt = off) (ht : (pc : Int) + off = (tgt : Int)) (k : J C E S tgt lv st) : J C E S pc lv (.int x :: st) := by
  obtain ⟨p, l0, e, R, s, m, args, below, meth, c, A, cells, slots, nL, Q⟩ := E
  obtain ⟨rfl, hx, hb, hml, hown, hts, hK, hN, hC, hA, hfr, hlo, hce, hsl⟩ := hE
  intro H locs ls hP hS hv
  exact lv_lookup hx hb hd hp ho ht (k H locs ls hP hS hv)
theorem j_iload_g (hE : Jok l C E own cc d) {i : Nat} {x : Int32} (hd : decode cc pc = .ok (.iload i, 2)) (hi : lv[i]? = some (some (.int x))) (k : J C E S (pc + 2) lv (.int x :: st)) : J C E S pc lv (st) := by
  obtain ⟨p, l0, e, R, s, m, args, below, meth, c, A, cells, slots, nL, Q⟩ := E
  obtain ⟨rfl, hx, hb, hml, hown, hts, hK, hN, hC, hA, hfr, hlo, hce, hsl⟩ := hE
  intro H locs ls hP hS hv
  exact lv_iload hx hb hd (hv.2.2.2 _ _ hi) (k H locs ls hP hS hv)
theorem j_iload_n (hE : Jok l C E own cc d) {i : Fin 4} {x : Int32} (hd : decode cc pc = .ok (.iload_n i, 1)) (hi : lv[(i : Nat)]? = some (some (.int x))) (k : J C E S (pc + 1) lv (.int x :: st)) : J C E S pc lv (st) := by
  obtain ⟨p, l0, e, R, s, m, args, below, meth, c, A, cells, slots, nL, Q⟩ := E
  obtain ⟨rfl, hx, hb, hml, hown, hts, hK, hN, hC, hA, hfr, hlo, hce, hsl⟩ := hE
  intro H locs ls hP hS hv
  exact lv_iload_n hx hb hd rfl (hv.2.2.2 _ _ hi) (k H locs ls hP hS hv)
theorem j_aload_g (hE : Jok l C E own cc d) {i : Nat} {x : Nat} (hd : decode cc pc = .ok (.aload i, 2)) (hi : lv[i]? = some (some (.ref x))) (k : J C E S (pc + 2) lv (.ref x :: st)) : J C E S pc lv (st) := by
  obtain ⟨p, l0, e, R, s, m, args, below, meth, c, A, cells, slots, nL, Q⟩ := E
  obtain ⟨rfl, hx, hb, hml, hown, hts, hK, hN, hC, hA, hfr, hlo, hce, hsl⟩ := hE
  intro H locs ls hP hS hv
  exact lv_aload hx hb hd (hv.2.2.2 _ _ hi) (k H locs ls hP hS hv)
theorem j_aload_n (hE : Jok l C E own cc d) {i : Fin 4} {x : Nat} (hd : decode cc pc = .ok (.aload_n i, 1)) (hi : lv[(i : Nat)]? = some (some (.ref x))) (k : J C E S (pc + 1) lv (.ref x :: st)) : J C E S pc lv (st) := by
  obtain ⟨p, l0, e, R, s, m, args, below, meth, c, A, cells, slots, nL, Q⟩ := E
  obtain ⟨rfl, hx, hb, hml, hown, hts, hK, hN, hC, hA, hfr, hlo, hce, hsl⟩ := hE
  intro H locs ls hP hS hv
  exact lv_aload_n hx hb hd rfl (hv.2.2.2 _ _ hi) (k H locs ls hP hS hv)
theorem j_lload_g (hE : Jok l C E own cc d) {i : Nat} {x : Int64} (hd : decode cc pc = .ok (.lload i, 2)) (hi : lv[i]? = some (some (.long x))) (k : J C E S (pc + 2) lv (.long x :: st)) : J C E S pc lv (st) := by
  obtain ⟨p, l0, e, R, s, m, args, below, meth, c, A, cells, slots, nL, Q⟩ := E
  obtain ⟨rfl, hx, hb, hml, hown, hts, hK, hN, hC, hA, hfr, hlo, hce, hsl⟩ := hE
  intro H locs ls hP hS hv
  exact lv_lload hx hb hd (hv.2.2.2 _ _ hi) (k H locs ls hP hS hv)
theorem j_lload_n (hE : Jok l C E own cc d) {i : Fin 4} {x : Int64} (hd : decode cc pc = .ok (.lload_n i, 1)) (hi : lv[(i : Nat)]? = some (some (.long x))) (k : J C E S (pc + 1) lv (.long x :: st)) : J C E S pc lv (st) := by
  obtain ⟨p, l0, e, R, s, m, args, below, meth, c, A, cells, slots, nL, Q⟩ := E
  obtain ⟨rfl, hx, hb, hml, hown, hts, hK, hN, hC, hA, hfr, hlo, hce, hsl⟩ := hE
  intro H locs ls hP hS hv
  exact lv_lload_n hx hb hd rfl (hv.2.2.2 _ _ hi) (k H locs ls hP hS hv)
theorem lvH_has {ls : Array Slot} {nL : Nat} {lv : List (Option Value)} (h : lvH ls nL lv) : lv_has ls nL ((List.range lv.length).filterMap (fun k => (lv[k]?.join).map (fun v => (k, v)))) := by
  refine ⟨h.1, h.2.1, fun q hq => ?_⟩
  obtain ⟨k, -, hk⟩ := List.mem_filterMap.mp hq
  cases hj : lv[k]?.join with
  | none => rw [hj] at hk; cases hk
  | some v =>
    rw [hj] at hk
    cases hk
    exact h.2.2.2 k v (by
      cases hz : lv[k]? with
      | none => rw [hz] at hj; cases hj
      | some z => rw [hz] at hj; rw [show z = some v from hj])
theorem lvH_in {lv : List (Option Value)} {k : Nat} {v : Value} (h : lv[k]? = some (some v)) : (k, v) ∈ (List.range lv.length).filterMap (fun k => (lv[k]?.join).map (fun v => (k, v))) := by
  refine List.mem_filterMap.mpr ⟨k, List.mem_range.mpr (List.getElem?_eq_some_iff.mp h).1, ?_⟩
  rw [h]
  rfl
/-- no long stands just before place i -/
def ok1 (lv : List (Option Value)) : Nat → Bool
  | 0 => true
  | j + 1 => match lv[j]? with
    | some (some v) => v.category == 1
    | _ => true
theorem lvH_set {ls ls' : Array Slot} {nL i : Nat} {lv : List (Option Value)} {v : Value} (h : lvH ls nL lv) (hi : i < lv.length) (ho : ok1 lv i = true) (h' : lv_has ls' nL ((i, v) :: ((List.range lv.length).filterMap (fun k => (lv[k]?.join).map (fun v => (k, v)))).filter (fun q => !(q.1 == i) && !(q.1 + 1 == i && q.2.category == 2)))) : lvH ls' nL (lv.set i (some v)) := by
  refine ⟨h'.1, h'.2.1, by rw [List.length_set]; exact h.2.2.1, fun k w hk => ?_⟩
  by_cases hki : k = i
  · subst hki
    rw [List.getElem?_set_self hi] at hk
    cases hk
    exact h'.2.2 (k, v) List.mem_cons_self
  · rw [List.getElem?_set_ne (fun q => hki q.symm)] at hk
    refine h'.2.2 (k, w) (List.mem_cons_of_mem _ (List.mem_filter.mpr ⟨lvH_in hk, ?_⟩))
    simp only [Bool.and_eq_true, Bool.not_eq_true', beq_eq_false_iff_ne, ne_eq, Bool.and_eq_false_iff]
    refine ⟨hki, ?_⟩
    by_cases h1 : k + 1 = i
    · subst h1
      right
      have : w.category = 1 := by simpa [ok1, hk] using ho
      omega
    · exact Or.inl h1
theorem lvH_set2 {ls ls' : Array Slot} {nL i : Nat} {lv : List (Option Value)} {v : Value} (h : lvH ls nL lv) (hi : i + 1 < lv.length) (ho : ok1 lv i = true) (h' : lv_has ls' nL ((i, v) :: ((List.range lv.length).filterMap (fun k => (lv[k]?.join).map (fun v => (k, v)))).filter (fun q => !(q.1 == i) && (!(q.1 == i + 1) && !(q.1 + 1 == i && q.2.category == 2))))) : lvH ls' nL ((lv.set i (some v)).set (i + 1) none) := by
  refine ⟨h'.1, h'.2.1, by rw [List.length_set, List.length_set]; exact h.2.2.1, fun k w hk => ?_⟩
  by_cases hk1 : k = i + 1
  · subst hk1
    rw [List.getElem?_set_self (by rw [List.length_set]; exact hi)] at hk
    cases hk
  rw [List.getElem?_set_ne (fun q => hk1 q.symm)] at hk
  by_cases hki : k = i
  · subst hki
    rw [List.getElem?_set_self (by omega)] at hk
    cases hk
    exact h'.2.2 (k, v) List.mem_cons_self
  · rw [List.getElem?_set_ne (fun q => hki q.symm)] at hk
    refine h'.2.2 (k, w) (List.mem_cons_of_mem _ (List.mem_filter.mpr ⟨lvH_in hk, ?_⟩))
    simp only [Bool.and_eq_true, Bool.not_eq_true', beq_eq_false_iff_ne, ne_eq, Bool.and_eq_false_iff]
    refine ⟨hki, hk1, ?_⟩
    by_cases h1 : k + 1 = i
    · subst h1
      right
      have : w.category = 1 := by simpa [ok1, hk] using ho
      omega
    · exact Or.inl h1
theorem j_istore_g (hE : Jok l C E own cc d) {i : Nat} {x : Int32} (hd : decode cc pc = .ok (.istore i, 2)) (hi : i < lv.length) (ho : ok1 lv i = true) (k : J C E S (pc + 2) (lv.set i (some (.int x))) st) : J C E S pc lv (.int x :: st) := by
  obtain ⟨p, l0, e, R, s, m, args, below, meth, c, A, cells, slots, nL, Q⟩ := E
  obtain ⟨rfl, hx, hb, hml, hown, hts, hK, hN, hC, hA, hfr, hlo, hce, hsl⟩ := hE
  intro H locs ls hP hS hv
  exact lv_istore hx hb hd (lvH_has hv) (Nat.lt_of_lt_of_le hi hv.2.2.1) rfl (fun ls' hl => k H locs ls' hP hS (lvH_set hv hi ho hl))
theorem j_istore_n (hE : Jok l C E own cc d) {i : Fin 4} {x : Int32} (hd : decode cc pc = .ok (.istore_n i, 1)) (hi : (i : Nat) < lv.length) (ho : ok1 lv (i : Nat) = true) (k : J C E S (pc + 1) (lv.set (i : Nat) (some (.int x))) st) : J C E S pc lv (.int x :: st) := by
  obtain ⟨p, l0, e, R, s, m, args, below, meth, c, A, cells, slots, nL, Q⟩ := E
  obtain ⟨rfl, hx, hb, hml, hown, hts, hK, hN, hC, hA, hfr, hlo, hce, hsl⟩ := hE
  intro H locs ls hP hS hv
  exact lv_istore_n hx hb hd rfl (lvH_has hv) (Nat.lt_of_lt_of_le hi hv.2.2.1) rfl (fun ls' hl => k H locs ls' hP hS (lvH_set hv hi ho hl))
theorem j_astore_g (hE : Jok l C E own cc d) {i : Nat} {x : Nat} (hd : decode cc pc = .ok (.astore i, 2)) (hi : i < lv.length) (ho : ok1 lv i = true) (k : J C E S (pc + 2) (lv.set i (some (.ref x))) st) : J C E S pc lv (.ref x :: st) := by
  obtain ⟨p, l0, e, R, s, m, args, below, meth, c, A, cells, slots, nL, Q⟩ := E
  obtain ⟨rfl, hx, hb, hml, hown, hts, hK, hN, hC, hA, hfr, hlo, hce, hsl⟩ := hE
  intro H locs ls hP hS hv
  exact lv_astore hx hb hd (lvH_has hv) (Nat.lt_of_lt_of_le hi hv.2.2.1) rfl (fun ls' hl => k H locs ls' hP hS (lvH_set hv hi ho hl))
theorem j_astore_n (hE : Jok l C E own cc d) {i : Fin 4} {x : Nat} (hd : decode cc pc = .ok (.astore_n i, 1)) (hi : (i : Nat) < lv.length) (ho : ok1 lv (i : Nat) = true) (k : J C E S (pc + 1) (lv.set (i : Nat) (some (.ref x))) st) : J C E S pc lv (.ref x :: st) := by
  obtain ⟨p, l0, e, R, s, m, args, below, meth, c, A, cells, slots, nL, Q⟩ := E
  obtain ⟨rfl, hx, hb, hml, hown, hts, hK, hN, hC, hA, hfr, hlo, hce, hsl⟩ := hE
  intro H locs ls hP hS hv
  exact lv_astore_n hx hb hd rfl (lvH_has hv) (Nat.lt_of_lt_of_le hi hv.2.2.1) rfl (fun ls' hl => k H locs ls' hP hS (lvH_set hv hi ho hl))
theorem j_lstore_g (hE : Jok l C E own cc d) {i : Nat} {x : Int64} (hd : decode cc pc = .ok (.lstore i, 2)) (hi : i + 1 < lv.length) (ho : ok1 lv i = true) (k : J C E S (pc + 2) ((lv.set i (some (.long x))).set (i + 1) none) st) : J C E S pc lv (.long x :: st) := by
  obtain ⟨p, l0, e, R, s, m, args, below, meth, c, A, cells, slots, nL, Q⟩ := E
  obtain ⟨rfl, hx, hb, hml, hown, hts, hK, hN, hC, hA, hfr, hlo, hce, hsl⟩ := hE
  intro H locs ls hP hS hv
  exact lv_lstore hx hb hd (lvH_has hv) (Nat.lt_of_lt_of_le hi hv.2.2.1) rfl (fun ls' hl => k H locs ls' hP hS (lvH_set2 hv hi ho hl))
theorem j_lstore_n (hE : Jok l C E own cc d) {i : Fin 4} {x : Int64} (hd : decode cc pc = .ok (.lstore_n i, 1)) (hi : (i : Nat) + 1 < lv.length) (ho : ok1 lv (i : Nat) = true) (k : J C E S (pc + 1) ((lv.set (i : Nat) (some (.long x))).set ((i : Nat) + 1) none) st) : J C E S pc lv (.long x :: st) := by
  obtain ⟨p, l0, e, R, s, m, args, below, meth, c, A, cells, slots, nL, Q⟩ := E
  obtain ⟨rfl, hx, hb, hml, hown, hts, hK, hN, hC, hA, hfr, hlo, hce, hsl⟩ := hE
  intro H locs ls hP hS hv
  exact lv_lstore_n hx hb hd rfl (lvH_has hv) (Nat.lt_of_lt_of_le hi hv.2.2.1) rfl (fun ls' hl => k H locs ls' hP hS (lvH_set2 hv hi ho hl))
theorem j_iinc_g (hE : Jok l C E own cc d) {i : Nat} {n : Int} {x : Int32} (v : Int32) (hd : decode cc pc = .ok (.iinc i n, 3)) (hl : lv[i]? = some (some (.int x))) (hv : x + Int32.ofInt n = v) (ho : ok1 lv i = true) (k : J C E S (pc + 3) (lv.set i (some (.int v))) st) : J C E S pc lv st := by
  obtain ⟨p, l0, e, R, s, m, args, below, meth, c, A, cells, slots, nL, Q⟩ := E
  obtain ⟨rfl, hx, hb, hml, hown, hts, hK, hN, hC, hA, hfr, hlo, hce, hsl⟩ := hE
  intro H locs ls hP hS hvv
  obtain ⟨q, hq⟩ := List.getElem?_of_mem (lvH_in hl)
  have hi : i < lv.length := (List.getElem?_eq_some_iff.mp hl).1
  exact lv_iinc hx hb hd (lvH_has hvv) hq hv (Nat.lt_of_lt_of_le hi hvv.2.2.1) rfl (fun ls' hl' => k H locs ls' hP hS (lvH_set hvv hi ho hl'))
theorem j_iload0 (hE : Jok l C E own cc d) {r : List (Option Value)} {x : Int32} (hd : decode cc pc = .ok (.iload_n 0, 1)) (k : J C E S (pc + 1) (some (.int x) :: r) (.int x :: st)) : J C E S pc (some (.int x) :: r) st := j_iload_n hE hd rfl k
theorem j_aload0 (hE : Jok l C E own cc d) {r : List (Option Value)} {x : Nat} (hd : decode cc pc = .ok (.aload_n 0, 1)) (k : J C E S (pc + 1) (some (.ref x) :: r) (.ref x :: st)) : J C E S pc (some (.ref x) :: r) st := j_aload_n hE hd rfl k
theorem j_lload0 (hE : Jok l C E own cc d) {r : List (Option Value)} {x : Int64} (hd : decode cc pc = .ok (.lload_n 0, 1)) (k : J C E S (pc + 1) (some (.long x) :: r) (.long x :: st)) : J C E S pc (some (.long x) :: r) st := j_lload_n hE hd rfl k
theorem j_istore0 (hE : Jok l C E own cc d) {b : Option Value} {r : List (Option Value)} {x : Int32} (hd : decode cc pc = .ok (.istore_n 0, 1)) (k : J C E S (pc + 1) (some (.int x) :: r) st) : J C E S pc (b :: r) (.int x :: st) := j_istore_n hE hd (by show 0 < _; simp only [List.length_cons]; omega) rfl k
theorem j_astore0 (hE : Jok l C E own cc d) {b : Option Value} {r : List (Option Value)} {x : Nat} (hd : decode cc pc = .ok (.astore_n 0, 1)) (k : J C E S (pc + 1) (some (.ref x) :: r) st) : J C E S pc (b :: r) (.ref x :: st) := j_astore_n hE hd (by show 0 < _; simp only [List.length_cons]; omega) rfl k
theorem j_iinc0 (hE : Jok l C E own cc d) {r : List (Option Value)} {n : Int} {x : Int32} (v : Int32) (hd : decode cc pc = .ok (.iinc 0 n, 3)) (hv : x + Int32.ofInt n = v) (k : J C E S (pc + 3) (some (.int v) :: r) st) : J C E S pc (some (.int x) :: r) st := j_iinc_g hE v hd rfl hv rfl k
theorem j_iload1 (hE : Jok l C E own cc d) {a0 : Option Value} {r : List (Option Value)} {x : Int32} (hd : decode cc pc = .ok (.iload_n 1, 1)) (k : J C E S (pc + 1) (a0 :: some (.int x) :: r) (.int x :: st)) : J C E S pc (a0 :: some (.int x) :: r) st := j_iload_n hE hd rfl k
theorem j_aload1 (hE : Jok l C E own cc d) {a0 : Option Value} {r : List (Option Value)} {x : Nat} (hd : decode cc pc = .ok (.aload_n 1, 1)) (k : J C E S (pc + 1) (a0 :: some (.ref x) :: r) (.ref x :: st)) : J C E S pc (a0 :: some (.ref x) :: r) st := j_aload_n hE hd rfl k
theorem j_lload1 (hE : Jok l C E own cc d) {a0 : Option Value} {r : List (Option Value)} {x : Int64} (hd : decode cc pc = .ok (.lload_n 1, 1)) (k : J C E S (pc + 1) (a0 :: some (.long x) :: r) (.long x :: st)) : J C E S pc (a0 :: some (.long x) :: r) st := j_lload_n hE hd rfl k
theorem j_istore1 (hE : Jok l C E own cc d) {a0 : Option Value} {b : Option Value} {r : List (Option Value)} {x : Int32} (hd : decode cc pc = .ok (.istore_n 1, 1)) (ho : ok1 (a0 :: b :: r) 1 = true) (k : J C E S (pc + 1) (a0 :: some (.int x) :: r) st) : J C E S pc (a0 :: b :: r) (.int x :: st) := j_istore_n hE hd (by show 1 < _; simp only [List.length_cons]; omega) ho k
theorem j_astore1 (hE : Jok l C E own cc d) {a0 : Option Value} {b : Option Value} {r : List (Option Value)} {x : Nat} (hd : decode cc pc = .ok (.astore_n 1, 1)) (ho : ok1 (a0 :: b :: r) 1 = true) (k : J C E S (pc + 1) (a0 :: some (.ref x) :: r) st) : J C E S pc (a0 :: b :: r) (.ref x :: st) := j_astore_n hE hd (by show 1 < _; simp only [List.length_cons]; omega) ho k
theorem j_iinc1 (hE : Jok l C E own cc d) {a0 : Option Value} {r : List (Option Value)} {n : Int} {x : Int32} (v : Int32) (hd : decode cc pc = .ok (.iinc 1 n, 3)) (hv : x + Int32.ofInt n = v) (ho : ok1 (a0 :: some (.int x) :: r) 1 = true) (k : J C E S (pc + 3) (a0 :: some (.int v) :: r) st) : J C E S pc (a0 :: some (.int x) :: r) st := j_iinc_g hE v hd rfl hv ho k
theorem j_iload2 (hE : Jok l C E own cc d) {a0 a1 : Option Value} {r : List (Option Value)} {x : Int32} (hd : decode cc pc = .ok (.iload_n 2, 1)) (k : J C E S (pc + 1) (a0 :: a1 :: some (.int x) :: r) (.int x :: st)) : J C E S pc (a0 :: a1 :: some (.int x) :: r) st := j_iload_n hE hd rfl k
theorem j_aload2 (hE : Jok l C E own cc d) {a0 a1 : Option Value} {r : List (Option Value)} {x : Nat} (hd : decode cc pc = .ok (.aload_n 2, 1)) (k : J C E S (pc + 1) (a0 :: a1 :: some (.ref x) :: r) (.ref x :: st)) : J C E S pc (a0 :: a1 :: some (.ref x) :: r) st := j_aload_n hE hd rfl k
theorem j_lload2 (hE : Jok l C E own cc d) {a0 a1 : Option Value} {r : List (Option Value)} {x : Int64} (hd : decode cc pc = .ok (.lload_n 2, 1)) (k : J C E S (pc + 1) (a0 :: a1 :: some (.long x) :: r) (.long x :: st)) : J C E S pc (a0 :: a1 :: some (.long x) :: r) st := j_lload_n hE hd rfl k
theorem j_istore2 (hE : Jok l C E own cc d) {a0 a1 : Option Value} {b : Option Value} {r : List (Option Value)} {x : Int32} (hd : decode cc pc = .ok (.istore_n 2, 1)) (ho : ok1 (a0 :: a1 :: b :: r) 2 = true) (k : J C E S (pc + 1) (a0 :: a1 :: some (.int x) :: r) st) : J C E S pc (a0 :: a1 :: b :: r) (.int x :: st) := j_istore_n hE hd (by show 2 < _; simp only [List.length_cons]; omega) ho k
theorem j_astore2 (hE : Jok l C E own cc d) {a0 a1 : Option Value} {b : Option Value} {r : List (Option Value)} {x : Nat} (hd : decode cc pc = .ok (.astore_n 2, 1)) (ho : ok1 (a0 :: a1 :: b :: r) 2 = true) (k : J C E S (pc + 1) (a0 :: a1 :: some (.ref x) :: r) st) : J C E S pc (a0 :: a1 :: b :: r) (.ref x :: st) := j_astore_n hE hd (by show 2 < _; simp only [List.length_cons]; omega) ho k
theorem j_iinc2 (hE : Jok l C E own cc d) {a0 a1 : Option Value} {r : List (Option Value)} {n : Int} {x : Int32} (v : Int32) (hd : decode cc pc = .ok (.iinc 2 n, 3)) (hv : x + Int32.ofInt n = v) (ho : ok1 (a0 :: a1 :: some (.int x) :: r) 2 = true) (k : J C E S (pc + 3) (a0 :: a1 :: some (.int v) :: r) st) : J C E S pc (a0 :: a1 :: some (.int x) :: r) st := j_iinc_g hE v hd rfl hv ho k
theorem j_iload3 (hE : Jok l C E own cc d) {a0 a1 a2 : Option Value} {r : List (Option Value)} {x : Int32} (hd : decode cc pc = .ok (.iload_n 3, 1)) (k : J C E S (pc + 1) (a0 :: a1 :: a2 :: some (.int x) :: r) (.int x :: st)) : J C E S pc (a0 :: a1 :: a2 :: some (.int x) :: r) st := j_iload_n hE hd rfl k
theorem j_aload3 (hE : Jok l C E own cc d) {a0 a1 a2 : Option Value} {r : List (Option Value)} {x : Nat} (hd : decode cc pc = .ok (.aload_n 3, 1)) (k : J C E S (pc + 1) (a0 :: a1 :: a2 :: some (.ref x) :: r) (.ref x :: st)) : J C E S pc (a0 :: a1 :: a2 :: some (.ref x) :: r) st := j_aload_n hE hd rfl k
theorem j_lload3 (hE : Jok l C E own cc d) {a0 a1 a2 : Option Value} {r : List (Option Value)} {x : Int64} (hd : decode cc pc = .ok (.lload_n 3, 1)) (k : J C E S (pc + 1) (a0 :: a1 :: a2 :: some (.long x) :: r) (.long x :: st)) : J C E S pc (a0 :: a1 :: a2 :: some (.long x) :: r) st := j_lload_n hE hd rfl k
theorem j_istore3 (hE : Jok l C E own cc d) {a0 a1 a2 : Option Value} {b : Option Value} {r : List (Option Value)} {x : Int32} (hd : decode cc pc = .ok (.istore_n 3, 1)) (ho : ok1 (a0 :: a1 :: a2 :: b :: r) 3 = true) (k : J C E S (pc + 1) (a0 :: a1 :: a2 :: some (.int x) :: r) st) : J C E S pc (a0 :: a1 :: a2 :: b :: r) (.int x :: st) := j_istore_n hE hd (by show 3 < _; simp only [List.length_cons]; omega) ho k
theorem j_astore3 (hE : Jok l C E own cc d) {a0 a1 a2 : Option Value} {b : Option Value} {r : List (Option Value)} {x : Nat} (hd : decode cc pc = .ok (.astore_n 3, 1)) (ho : ok1 (a0 :: a1 :: a2 :: b :: r) 3 = true) (k : J C E S (pc + 1) (a0 :: a1 :: a2 :: some (.ref x) :: r) st) : J C E S pc (a0 :: a1 :: a2 :: b :: r) (.ref x :: st) := j_astore_n hE hd (by show 3 < _; simp only [List.length_cons]; omega) ho k
theorem j_iinc3 (hE : Jok l C E own cc d) {a0 a1 a2 : Option Value} {r : List (Option Value)} {n : Int} {x : Int32} (v : Int32) (hd : decode cc pc = .ok (.iinc 3 n, 3)) (hv : x + Int32.ofInt n = v) (ho : ok1 (a0 :: a1 :: a2 :: some (.int x) :: r) 3 = true) (k : J C E S (pc + 3) (a0 :: a1 :: a2 :: some (.int v) :: r) st) : J C E S pc (a0 :: a1 :: a2 :: some (.int x) :: r) st := j_iinc_g hE v hd rfl hv ho k
theorem j_iload4 (hE : Jok l C E own cc d) {a0 a1 a2 a3 : Option Value} {r : List (Option Value)} {x : Int32} (hd : decode cc pc = .ok (.iload 4, 2)) (k : J C E S (pc + 2) (a0 :: a1 :: a2 :: a3 :: some (.int x) :: r) (.int x :: st)) : J C E S pc (a0 :: a1 :: a2 :: a3 :: some (.int x) :: r) st := j_iload_g hE hd rfl k
theorem j_aload4 (hE : Jok l C E own cc d) {a0 a1 a2 a3 : Option Value} {r : List (Option Value)} {x : Nat} (hd : decode cc pc = .ok (.aload 4, 2)) (k : J C E S (pc + 2) (a0 :: a1 :: a2 :: a3 :: some (.ref x) :: r) (.ref x :: st)) : J C E S pc (a0 :: a1 :: a2 :: a3 :: some (.ref x) :: r) st := j_aload_g hE hd rfl k
theorem j_lload4 (hE : Jok l C E own cc d) {a0 a1 a2 a3 : Option Value} {r : List (Option Value)} {x : Int64} (hd : decode cc pc = .ok (.lload 4, 2)) (k : J C E S (pc + 2) (a0 :: a1 :: a2 :: a3 :: some (.long x) :: r) (.long x :: st)) : J C E S pc (a0 :: a1 :: a2 :: a3 :: some (.long x) :: r) st := j_lload_g hE hd rfl k
theorem j_istore4 (hE : Jok l C E own cc d) {a0 a1 a2 a3 : Option Value} {b : Option Value} {r : List (Option Value)} {x : Int32} (hd : decode cc pc = .ok (.istore 4, 2)) (ho : ok1 (a0 :: a1 :: a2 :: a3 :: b :: r) 4 = true) (k : J C E S (pc + 2) (a0 :: a1 :: a2 :: a3 :: some (.int x) :: r) st) : J C E S pc (a0 :: a1 :: a2 :: a3 :: b :: r) (.int x :: st) := j_istore_g hE hd (by show 4 < _; simp only [List.length_cons]; omega) ho k
theorem j_astore4 (hE : Jok l C E own cc d) {a0 a1 a2 a3 : Option Value} {b : Option Value} {r : List (Option Value)} {x : Nat} (hd : decode cc pc = .ok (.astore 4, 2)) (ho : ok1 (a0 :: a1 :: a2 :: a3 :: b :: r) 4 = true) (k : J C E S (pc + 2) (a0 :: a1 :: a2 :: a3 :: some (.ref x) :: r) st) : J C E S pc (a0 :: a1 :: a2 :: a3 :: b :: r) (.ref x :: st) := j_astore_g hE hd (by show 4 < _; simp only [List.length_cons]; omega) ho k
theorem j_iinc4 (hE : Jok l C E own cc d) {a0 a1 a2 a3 : Option Value} {r : List (Option Value)} {n : Int} {x : Int32} (v : Int32) (hd : decode cc pc = .ok (.iinc 4 n, 3)) (hv : x + Int32.ofInt n = v) (ho : ok1 (a0 :: a1 :: a2 :: a3 :: some (.int x) :: r) 4 = true) (k : J C E S (pc + 3) (a0 :: a1 :: a2 :: a3 :: some (.int v) :: r) st) : J C E S pc (a0 :: a1 :: a2 :: a3 :: some (.int x) :: r) st := j_iinc_g hE v hd rfl hv ho k
theorem j_iload5 (hE : Jok l C E own cc d) {a0 a1 a2 a3 a4 : Option Value} {r : List (Option Value)} {x : Int32} (hd : decode cc pc = .ok (.iload 5, 2)) (k : J C E S (pc + 2) (a0 :: a1 :: a2 :: a3 :: a4 :: some (.int x) :: r) (.int x :: st)) : J C E S pc (a0 :: a1 :: a2 :: a3 :: a4 :: some (.int x) :: r) st := j_iload_g hE hd rfl k
theorem j_aload5 (hE : Jok l C E own cc d) {a0 a1 a2 a3 a4 : Option Value} {r : List (Option Value)} {x : Nat} (hd : decode cc pc = .ok (.aload 5, 2)) (k : J C E S (pc + 2) (a0 :: a1 :: a2 :: a3 :: a4 :: some (.ref x) :: r) (.ref x :: st)) : J C E S pc (a0 :: a1 :: a2 :: a3 :: a4 :: some (.ref x) :: r) st := j_aload_g hE hd rfl k
theorem j_lload5 (hE : Jok l C E own cc d) {a0 a1 a2 a3 a4 : Option Value} {r : List (Option Value)} {x : Int64} (hd : decode cc pc = .ok (.lload 5, 2)) (k : J C E S (pc + 2) (a0 :: a1 :: a2 :: a3 :: a4 :: some (.long x) :: r) (.long x :: st)) : J C E S pc (a0 :: a1 :: a2 :: a3 :: a4 :: some (.long x) :: r) st := j_lload_g hE hd rfl k
theorem j_istore5 (hE : Jok l C E own cc d) {a0 a1 a2 a3 a4 : Option Value} {b : Option Value} {r : List (Option Value)} {x : Int32} (hd : decode cc pc = .ok (.istore 5, 2)) (ho : ok1 (a0 :: a1 :: a2 :: a3 :: a4 :: b :: r) 5 = true) (k : J C E S (pc + 2) (a0 :: a1 :: a2 :: a3 :: a4 :: some (.int x) :: r) st) : J C E S pc (a0 :: a1 :: a2 :: a3 :: a4 :: b :: r) (.int x :: st) := j_istore_g hE hd (by show 5 < _; simp only [List.length_cons]; omega) ho k
theorem j_astore5 (hE : Jok l C E own cc d) {a0 a1 a2 a3 a4 : Option Value} {b : Option Value} {r : List (Option Value)} {x : Nat} (hd : decode cc pc = .ok (.astore 5, 2)) (ho : ok1 (a0 :: a1 :: a2 :: a3 :: a4 :: b :: r) 5 = true) (k : J C E S (pc + 2) (a0 :: a1 :: a2 :: a3 :: a4 :: some (.ref x) :: r) st) : J C E S pc (a0 :: a1 :: a2 :: a3 :: a4 :: b :: r) (.ref x :: st) := j_astore_g hE hd (by show 5 < _; simp only [List.length_cons]; omega) ho k
theorem j_iinc5 (hE : Jok l C E own cc d) {a0 a1 a2 a3 a4 : Option Value} {r : List (Option Value)} {n : Int} {x : Int32} (v : Int32) (hd : decode cc pc = .ok (.iinc 5 n, 3)) (hv : x + Int32.ofInt n = v) (ho : ok1 (a0 :: a1 :: a2 :: a3 :: a4 :: some (.int x) :: r) 5 = true) (k : J C E S (pc + 3) (a0 :: a1 :: a2 :: a3 :: a4 :: some (.int v) :: r) st) : J C E S pc (a0 :: a1 :: a2 :: a3 :: a4 :: some (.int x) :: r) st := j_iinc_g hE v hd rfl hv ho k
theorem j_iload6 (hE : Jok l C E own cc d) {a0 a1 a2 a3 a4 a5 : Option Value} {r : List (Option Value)} {x : Int32} (hd : decode cc pc = .ok (.iload 6, 2)) (k : J C E S (pc + 2) (a0 :: a1 :: a2 :: a3 :: a4 :: a5 :: some (.int x) :: r) (.int x :: st)) : J C E S pc (a0 :: a1 :: a2 :: a3 :: a4 :: a5 :: some (.int x) :: r) st := j_iload_g hE hd rfl k
theorem j_aload6 (hE : Jok l C E own cc d) {a0 a1 a2 a3 a4 a5 : Option Value} {r : List (Option Value)} {x : Nat} (hd : decode cc pc = .ok (.aload 6, 2)) (k : J C E S (pc + 2) (a0 :: a1 :: a2 :: a3 :: a4 :: a5 :: some (.ref x) :: r) (.ref x :: st)) : J C E S pc (a0 :: a1 :: a2 :: a3 :: a4 :: a5 :: some (.ref x) :: r) st := j_aload_g hE hd rfl k
theorem j_lload6 (hE : Jok l C E own cc d) {a0 a1 a2 a3 a4 a5 : Option Value} {r : List (Option Value)} {x : Int64} (hd : decode cc pc = .ok (.lload 6, 2)) (k : J C E S (pc + 2) (a0 :: a1 :: a2 :: a3 :: a4 :: a5 :: some (.long x) :: r) (.long x :: st)) : J C E S pc (a0 :: a1 :: a2 :: a3 :: a4 :: a5 :: some (.long x) :: r) st := j_lload_g hE hd rfl k
theorem j_istore6 (hE : Jok l C E own cc d) {a0 a1 a2 a3 a4 a5 : Option Value} {b : Option Value} {r : List (Option Value)} {x : Int32} (hd : decode cc pc = .ok (.istore 6, 2)) (ho : ok1 (a0 :: a1 :: a2 :: a3 :: a4 :: a5 :: b :: r) 6 = true) (k : J C E S (pc + 2) (a0 :: a1 :: a2 :: a3 :: a4 :: a5 :: some (.int x) :: r) st) : J C E S pc (a0 :: a1 :: a2 :: a3 :: a4 :: a5 :: b :: r) (.int x :: st) := j_istore_g hE hd (by show 6 < _; simp only [List.length_cons]; omega) ho k
theorem j_astore6 (hE : Jok l C E own cc d) {a0 a1 a2 a3 a4 a5 : Option Value} {b : Option Value} {r : List (Option Value)} {x : Nat} (hd : decode cc pc = .ok (.astore 6, 2)) (ho : ok1 (a0 :: a1 :: a2 :: a3 :: a4 :: a5 :: b :: r) 6 = true) (k : J C E S (pc + 2) (a0 :: a1 :: a2 :: a3 :: a4 :: a5 :: some (.ref x) :: r) st) : J C E S pc (a0 :: a1 :: a2 :: a3 :: a4 :: a5 :: b :: r) (.ref x :: st) := j_astore_g hE hd (by show 6 < _; simp only [List.length_cons]; omega) ho k
theorem j_iinc6 (hE : Jok l C E own cc d) {a0 a1 a2 a3 a4 a5 : Option Value} {r : List (Option Value)} {n : Int} {x : Int32} (v : Int32) (hd : decode cc pc = .ok (.iinc 6 n, 3)) (hv : x + Int32.ofInt n = v) (ho : ok1 (a0 :: a1 :: a2 :: a3 :: a4 :: a5 :: some (.int x) :: r) 6 = true) (k : J C E S (pc + 3) (a0 :: a1 :: a2 :: a3 :: a4 :: a5 :: some (.int v) :: r) st) : J C E S pc (a0 :: a1 :: a2 :: a3 :: a4 :: a5 :: some (.int x) :: r) st := j_iinc_g hE v hd rfl hv ho k
theorem j_iload7 (hE : Jok l C E own cc d) {a0 a1 a2 a3 a4 a5 a6 : Option Value} {r : List (Option Value)} {x : Int32} (hd : decode cc pc = .ok (.iload 7, 2)) (k : J C E S (pc + 2) (a0 :: a1 :: a2 :: a3 :: a4 :: a5 :: a6 :: some (.int x) :: r) (.int x :: st)) : J C E S pc (a0 :: a1 :: a2 :: a3 :: a4 :: a5 :: a6 :: some (.int x) :: r) st := j_iload_g hE hd rfl k
theorem j_aload7 (hE : Jok l C E own cc d) {a0 a1 a2 a3 a4 a5 a6 : Option Value} {r : List (Option Value)} {x : Nat} (hd : decode cc pc = .ok (.aload 7, 2)) (k : J C E S (pc + 2) (a0 :: a1 :: a2 :: a3 :: a4 :: a5 :: a6 :: some (.ref x) :: r) (.ref x :: st)) : J C E S pc (a0 :: a1 :: a2 :: a3 :: a4 :: a5 :: a6 :: some (.ref x) :: r) st := j_aload_g hE hd rfl k
theorem j_lload7 (hE : Jok l C E own cc d) {a0 a1 a2 a3 a4 a5 a6 : Option Value} {r : List (Option Value)} {x : Int64} (hd : decode cc pc = .ok (.lload 7, 2)) (k : J C E S (pc + 2) (a0 :: a1 :: a2 :: a3 :: a4 :: a5 :: a6 :: some (.long x) :: r) (.long x :: st)) : J C E S pc (a0 :: a1 :: a2 :: a3 :: a4 :: a5 :: a6 :: some (.long x) :: r) st := j_lload_g hE hd rfl k
theorem j_istore7 (hE : Jok l C E own cc d) {a0 a1 a2 a3 a4 a5 a6 : Option Value} {b : Option Value} {r : List (Option Value)} {x : Int32} (hd : decode cc pc = .ok (.istore 7, 2)) (ho : ok1 (a0 :: a1 :: a2 :: a3 :: a4 :: a5 :: a6 :: b :: r) 7 = true) (k : J C E S (pc + 2) (a0 :: a1 :: a2 :: a3 :: a4 :: a5 :: a6 :: some (.int x) :: r) st) : J C E S pc (a0 :: a1 :: a2 :: a3 :: a4 :: a5 :: a6 :: b :: r) (.int x :: st) := j_istore_g hE hd (by show 7 < _; simp only [List.length_cons]; omega) ho k
theorem j_astore7 (hE : Jok l C E own cc d) {a0 a1 a2 a3 a4 a5 a6 : Option Value} {b : Option Value} {r : List (Option Value)} {x : Nat} (hd : decode cc pc = .ok (.astore 7, 2)) (ho : ok1 (a0 :: a1 :: a2 :: a3 :: a4 :: a5 :: a6 :: b :: r) 7 = true) (k : J C E S (pc + 2) (a0 :: a1 :: a2 :: a3 :: a4 :: a5 :: a6 :: some (.ref x) :: r) st) : J C E S pc (a0 :: a1 :: a2 :: a3 :: a4 :: a5 :: a6 :: b :: r) (.ref x :: st) := j_astore_g hE hd (by show 7 < _; simp only [List.length_cons]; omega) ho k
theorem j_iinc7 (hE : Jok l C E own cc d) {a0 a1 a2 a3 a4 a5 a6 : Option Value} {r : List (Option Value)} {n : Int} {x : Int32} (v : Int32) (hd : decode cc pc = .ok (.iinc 7 n, 3)) (hv : x + Int32.ofInt n = v) (ho : ok1 (a0 :: a1 :: a2 :: a3 :: a4 :: a5 :: a6 :: some (.int x) :: r) 7 = true) (k : J C E S (pc + 3) (a0 :: a1 :: a2 :: a3 :: a4 :: a5 :: a6 :: some (.int v) :: r) st) : J C E S pc (a0 :: a1 :: a2 :: a3 :: a4 :: a5 :: a6 :: some (.int x) :: r) st := j_iinc_g hE v hd rfl hv ho k
theorem j_iload8 (hE : Jok l C E own cc d) {a0 a1 a2 a3 a4 a5 a6 a7 : Option Value} {r : List (Option Value)} {x : Int32} (hd : decode cc pc = .ok (.iload 8, 2)) (k : J C E S (pc + 2) (a0 :: a1 :: a2 :: a3 :: a4 :: a5 :: a6 :: a7 :: some (.int x) :: r) (.int x :: st)) : J C E S pc (a0 :: a1 :: a2 :: a3 :: a4 :: a5 :: a6 :: a7 :: some (.int x) :: r) st := j_iload_g hE hd rfl k
theorem j_aload8 (hE : Jok l C E own cc d) {a0 a1 a2 a3 a4 a5 a6 a7 : Option Value} {r : List (Option Value)} {x : Nat} (hd : decode cc pc = .ok (.aload 8, 2)) (k : J C E S (pc + 2) (a0 :: a1 :: a2 :: a3 :: a4 :: a5 :: a6 :: a7 :: some (.ref x) :: r) (.ref x :: st)) : J C E S pc (a0 :: a1 :: a2 :: a3 :: a4 :: a5 :: a6 :: a7 :: some (.ref x) :: r) st := j_aload_g hE hd rfl k
theorem j_lload8 (hE : Jok l C E own cc d) {a0 a1 a2 a3 a4 a5 a6 a7 : Option Value} {r : List (Option Value)} {x : Int64} (hd : decode cc pc = .ok (.lload 8, 2)) (k : J C E S (pc + 2) (a0 :: a1 :: a2 :: a3 :: a4 :: a5 :: a6 :: a7 :: some (.long x) :: r) (.long x :: st)) : J C E S pc (a0 :: a1 :: a2 :: a3 :: a4 :: a5 :: a6 :: a7 :: some (.long x) :: r) st := j_lload_g hE hd rfl k
theorem j_istore8 (hE : Jok l C E own cc d) {a0 a1 a2 a3 a4 a5 a6 a7 : Option Value} {b : Option Value} {r : List (Option Value)} {x : Int32} (hd : decode cc pc = .ok (.istore 8, 2)) (ho : ok1 (a0 :: a1 :: a2 :: a3 :: a4 :: a5 :: a6 :: a7 :: b :: r) 8 = true) (k : J C E S (pc + 2) (a0 :: a1 :: a2 :: a3 :: a4 :: a5 :: a6 :: a7 :: some (.int x) :: r) st) : J C E S pc (a0 :: a1 :: a2 :: a3 :: a4 :: a5 :: a6 :: a7 :: b :: r) (.int x :: st) := j_istore_g hE hd (by show 8 < _; simp only [List.length_cons]; omega) ho k
theorem j_astore8 (hE : Jok l C E own cc d) {a0 a1 a2 a3 a4 a5 a6 a7 : Option Value} {b : Option Value} {r : List (Option Value)} {x : Nat} (hd : decode cc pc = .ok (.astore 8, 2)) (ho : ok1 (a0 :: a1 :: a2 :: a3 :: a4 :: a5 :: a6 :: a7 :: b :: r) 8 = true) (k : J C E S (pc + 2) (a0 :: a1 :: a2 :: a3 :: a4 :: a5 :: a6 :: a7 :: some (.ref x) :: r) st) : J C E S pc (a0 :: a1 :: a2 :: a3 :: a4 :: a5 :: a6 :: a7 :: b :: r) (.ref x :: st) := j_astore_g hE hd (by show 8 < _; simp only [List.length_cons]; omega) ho k
theorem j_iinc8 (hE : Jok l C E own cc d) {a0 a1 a2 a3 a4 a5 a6 a7 : Option Value} {r : List (Option Value)} {n : Int} {x : Int32} (v : Int32) (hd : decode cc pc = .ok (.iinc 8 n, 3)) (hv : x + Int32.ofInt n = v) (ho : ok1 (a0 :: a1 :: a2 :: a3 :: a4 :: a5 :: a6 :: a7 :: some (.int x) :: r) 8 = true) (k : J C E S (pc + 3) (a0 :: a1 :: a2 :: a3 :: a4 :: a5 :: a6 :: a7 :: some (.int v) :: r) st) : J C E S pc (a0 :: a1 :: a2 :: a3 :: a4 :: a5 :: a6 :: a7 :: some (.int x) :: r) st := j_iinc_g hE v hd rfl hv ho k
theorem j_iload9 (hE : Jok l C E own cc d) {a0 a1 a2 a3 a4 a5 a6 a7 a8 : Option Value} {r : List (Option Value)} {x : Int32} (hd : decode cc pc = .ok (.iload 9, 2)) (k : J C E S (pc + 2) (a0 :: a1 :: a2 :: a3 :: a4 :: a5 :: a6 :: a7 :: a8 :: some (.int x) :: r) (.int x :: st)) : J C E S pc (a0 :: a1 :: a2 :: a3 :: a4 :: a5 :: a6 :: a7 :: a8 :: some (.int x) :: r) st := j_iload_g hE hd rfl k
theorem j_aload9 (hE : Jok l C E own cc d) {a0 a1 a2 a3 a4 a5 a6 a7 a8 : Option Value} {r : List (Option Value)} {x : Nat} (hd : decode cc pc = .ok (.aload 9, 2)) (k : J C E S (pc + 2) (a0 :: a1 :: a2 :: a3 :: a4 :: a5 :: a6 :: a7 :: a8 :: some (.ref x) :: r) (.ref x :: st)) : J C E S pc (a0 :: a1 :: a2 :: a3 :: a4 :: a5 :: a6 :: a7 :: a8 :: some (.ref x) :: r) st := j_aload_g hE hd rfl k
theorem j_lload9 (hE : Jok l C E own cc d) {a0 a1 a2 a3 a4 a5 a6 a7 a8 : Option Value} {r : List (Option Value)} {x : Int64} (hd : decode cc pc = .ok (.lload 9, 2)) (k : J C E S (pc + 2) (a0 :: a1 :: a2 :: a3 :: a4 :: a5 :: a6 :: a7 :: a8 :: some (.long x) :: r) (.long x :: st)) : J C E S pc (a0 :: a1 :: a2 :: a3 :: a4 :: a5 :: a6 :: a7 :: a8 :: some (.long x) :: r) st := j_lload_g hE hd rfl k
theorem j_istore9 (hE : Jok l C E own cc d) {a0 a1 a2 a3 a4 a5 a6 a7 a8 : Option Value} {b : Option Value} {r : List (Option Value)} {x : Int32} (hd : decode cc pc = .ok (.istore 9, 2)) (ho : ok1 (a0 :: a1 :: a2 :: a3 :: a4 :: a5 :: a6 :: a7 :: a8 :: b :: r) 9 = true) (k : J C E S (pc + 2) (a0 :: a1 :: a2 :: a3 :: a4 :: a5 :: a6 :: a7 :: a8 :: some (.int x) :: r) st) : J C E S pc (a0 :: a1 :: a2 :: a3 :: a4 :: a5 :: a6 :: a7 :: a8 :: b :: r) (.int x :: st) := j_istore_g hE hd (by show 9 < _; simp only [List.length_cons]; omega) ho k
theorem j_astore9 (hE : Jok l C E own cc d) {a0 a1 a2 a3 a4 a5 a6 a7 a8 : Option Value} {b : Option Value} {r : List (Option Value)} {x : Nat} (hd : decode cc pc = .ok (.astore 9, 2)) (ho : ok1 (a0 :: a1 :: a2 :: a3 :: a4 :: a5 :: a6 :: a7 :: a8 :: b :: r) 9 = true) (k : J C E S (pc + 2) (a0 :: a1 :: a2 :: a3 :: a4 :: a5 :: a6 :: a7 :: a8 :: some (.ref x) :: r) st) : J C E S pc (a0 :: a1 :: a2 :: a3 :: a4 :: a5 :: a6 :: a7 :: a8 :: b :: r) (.ref x :: st) := j_astore_g hE hd (by show 9 < _; simp only [List.length_cons]; omega) ho k
theorem j_iinc9 (hE : Jok l C E own cc d) {a0 a1 a2 a3 a4 a5 a6 a7 a8 : Option Value} {r : List (Option Value)} {n : Int} {x : Int32} (v : Int32) (hd : decode cc pc = .ok (.iinc 9 n, 3)) (hv : x + Int32.ofInt n = v) (ho : ok1 (a0 :: a1 :: a2 :: a3 :: a4 :: a5 :: a6 :: a7 :: a8 :: some (.int x) :: r) 9 = true) (k : J C E S (pc + 3) (a0 :: a1 :: a2 :: a3 :: a4 :: a5 :: a6 :: a7 :: a8 :: some (.int v) :: r) st) : J C E S pc (a0 :: a1 :: a2 :: a3 :: a4 :: a5 :: a6 :: a7 :: a8 :: some (.int x) :: r) st := j_iinc_g hE v hd rfl hv ho k
end Rows
