/-! making: the world grows, cell by cell, each at the heap's end -/
def CAd (C : JC) : Prop := ∀ i, C.2.1 i = C.2.1 0 + i
theorem CAd.inj {C : JC} (h : CAd C) : JInj C := fun i j _ _ e => by rw [h i, h j] at e; omega
def JAO (U : State) : Prop := va_AO RX1 U ∧ va_AO RX4 U
def gw (C : JC) (V : Nat → va_E) (b k : Nat) : va_W := (List.range k).map (fun j => (C.2.1 (b + j), V (b + j)))
def vset (V : Nat → va_E) (n : Nat) (x : va_E) : Nat → va_E := fun i => if i = n then x else V i
theorem vset_s {V : Nat → va_E} {n : Nat} {x : va_E} : vset V n x n = x := if_pos rfl
theorem vset_n {V : Nat → va_E} {n i : Nat} {x : va_E} (h : i ≠ n) : vset V n x i = V i := if_neg h
theorem gw_at (C : JC) (V : Nat → va_E) {b k j : Nat} (h : j < k) : (gw C V b k)[j]? = some (C.2.1 (b + j), V (b + j)) := by simp [gw, h]
theorem gw_len (C : JC) (V : Nat → va_E) (b k : Nat) : (gw C V b k).length = k := by simp [gw]
theorem gw_lt {C : JC} {V : Nat → va_E} {b k j : Nat} {q : Nat × va_E} (h : (gw C V b k)[j]? = some q) : j < k := by
  have := (List.getElem?_eq_some_iff.mp h).1
  rwa [gw_len] at this
theorem gw_c {C : JC} {V V' : Nat → va_E} {b k : Nat} (h : ∀ j, j < k → V (b + j) = V' (b + j)) : gw C V b k = gw C V' b k := by
  unfold gw
  apply List.map_congr_left
  intro j hj
  rw [h j (List.mem_range.mp hj)]
theorem gw_push (C : JC) (V : Nat → va_E) (b k : Nat) (x : va_E) : gw C V b k ++ [(C.2.1 (b + k), x)] = gw C (vset V (b + k) x) b (k + 1) := by
  have e : gw C V b k = gw C (vset V (b + k) x) b k := gw_c (fun j hj => (vset_n (by omega)).symm)
  rw [e]
  unfold gw
  rw [List.range_succ, List.map_append]
  simp [vset_s]
theorem gw_set (C : JC) (V : Nat → va_E) {b k j : Nat} (h : j < k) (x : va_E) : (gw C V b k).set j (C.2.1 (b + j), x) = gw C (vset V (b + j) x) b k := by
  apply List.ext_getElem?
  intro i
  by_cases hi : i = j
  · subst hi
    rw [List.getElem?_set_self (by rw [gw_len]; exact h), gw_at C _ h, vset_s]
  · rw [List.getElem?_set_ne (fun q => hi q.symm)]
    rcases Nat.lt_or_ge i k with q | q
    · rw [gw_at C V q, gw_at C _ q, vset_n (by omega)]
    · rw [List.getElem?_eq_none (by rw [gw_len]; exact q), List.getElem?_eq_none (by rw [gw_len]; exact q)]
def GA (C : JC) (b : Nat) : Nat → Prop := fun q => C.2.1 b ≤ q
theorem gw_D {C : JC} (hC : CAd C) (V : Nat → va_E) (b k : Nat) : va_D (GA C b) (gw C V b k) := by
  refine ⟨fun i j p q hi hj hpq => ?_, fun j q hj => ?_⟩
  · have h1 := gw_lt hi
    have h2 := gw_lt hj
    rw [gw_at C V h1] at hi
    rw [gw_at C V h2] at hj
    cases hi; cases hj
    have : C.2.1 (b + i) = C.2.1 (b + j) := hpq
    rw [hC (b + i), hC (b + j)] at this
    omega
  · have h1 := gw_lt hj
    rw [gw_at C V h1] at hj
    cases hj
    show C.2.1 b ≤ C.2.1 (b + j)
    rw [hC b, hC (b + j)]
    omega
def G (C : JC) (E : JE) (V : Nat → va_E) (b k cl sl pc : Nat) (lv : List (Option Value)) (st : List Value) : Prop := match E with
  | (p, l, e, R, s, m, args, below, meth, c, A, cells, slots, nL, Q) => ∀ (H : Heap) (locs : List Loc) (ls : Array Slot), H.size = C.2.1 (b + k) → va_P C.1 jcls (gw C V b k) H → va_S A s.heap H locs → lvH ls nL lv → W p l e R s m args below meth c H locs cl sl Q (F0 m pc ls st)
def Gok (l0 : Launch) (C : JC) (E : JE) (own : String) (cc : ByteArray) (b d : Nat) : Prop := match E with
  | (p, l, e, R, s, m, args, below, meth, c, A, cells, slots, nL, Q) => (l = l0 ∧ p.tables.exec = Jvm.exec ∧ c.code = cc ∧ c.maxLocals = nL ∧ s.vm.findClass own = some m.cls) ∧ (∀ w ∈ WT, w.before args s = true) ∧ va_K C.1 jcls (jty C) s ∧ JN s ∧ JAO s ∧ CAd C ∧ A = GA C b ∧ C.2.1 b ≤ s.heap.size ∧ (d ≤ R.frames ∧ 128 * d ≤ R.locals ∧ cells ≤ R.cells ∧ slots ≤ R.slots) ∧ (own ≠ "DampLikenessLaw" → meth.name = "<init>")
def Gcap (E : JE) (cl sl : Nat) : Prop := match E with
  | (p, l, e, R, s, m, args, below, meth, c, A, cells, slots, nL, Q) => cl ≤ cells ∧ sl ≤ slots
section GRows
variable {l : Launch} {C : JC} {E : JE} {own : String} {cc : ByteArray} {d b k cl sl : Nat} {V : Nat → va_E} {pc : Nat} {lv : List (Option Value)} {st : List Value}
theorem g_iconst (hE : Gok l C E own cc b d) {n : Int} (v : Int32) (hd : decode cc pc = .ok (.iconst n, 1)) (hv : Int32.ofInt n = v) (kk : G C E V b k cl sl (pc + 1) lv (.int v :: st)) : G C E V b k cl sl pc lv (st) := by
  obtain ⟨p, l0, e, R, s, m, args, below, meth, c, A, cells, slots, nL, Q⟩ := E
  obtain ⟨⟨rfl, hx, hb, hml, hown⟩, hts, hK, hN, hO, hC, hA, hs, hR, hm⟩ := hE
  intro H locs ls hz hP hS hv
  exact lv_iconst hx hb hd ‹_› (kk H locs ls hz hP hS hv)
theorem g_bipush (hE : Gok l C E own cc b d) {n : Int} (v : Int32) (hd : decode cc pc = .ok (.bipush n, 2)) (hv : (Int8.ofInt n).toInt32 = v) (kk : G C E V b k cl sl (pc + 2) lv (.int v :: st)) : G C E V b k cl sl pc lv (st) := by
  obtain ⟨p, l0, e, R, s, m, args, below, meth, c, A, cells, slots, nL, Q⟩ := E
  obtain ⟨⟨rfl, hx, hb, hml, hown⟩, hts, hK, hN, hO, hC, hA, hs, hR, hm⟩ := hE
  intro H locs ls hz hP hS hv
  exact lv_bipush hx hb hd ‹_› (kk H locs ls hz hP hS hv)
theorem g_sipush (hE : Gok l C E own cc b d) {n : Int} (v : Int32) (hd : decode cc pc = .ok (.sipush n, 3)) (hv : (Int16.ofInt n).toInt32 = v) (kk : G C E V b k cl sl (pc + 3) lv (.int v :: st)) : G C E V b k cl sl pc lv (st) := by
  obtain ⟨p, l0, e, R, s, m, args, below, meth, c, A, cells, slots, nL, Q⟩ := E
  obtain ⟨⟨rfl, hx, hb, hml, hown⟩, hts, hK, hN, hO, hC, hA, hs, hR, hm⟩ := hE
  intro H locs ls hz hP hS hv
  exact lv_sipush hx hb hd ‹_› (kk H locs ls hz hP hS hv)
theorem g_dup (hE : Gok l C E own cc b d) {a : Value} (hd : decode cc pc = .ok (.dup, 1)) (ha : a.category = 1) (kk : G C E V b k cl sl (pc + 1) lv (a :: a :: st)) : G C E V b k cl sl pc lv (a :: st) := by
  obtain ⟨p, l0, e, R, s, m, args, below, meth, c, A, cells, slots, nL, Q⟩ := E
  obtain ⟨⟨rfl, hx, hb, hml, hown⟩, hts, hK, hN, hO, hC, hA, hs, hR, hm⟩ := hE
  intro H locs ls hz hP hS hv
  exact lv_dup hx hb hd ha (kk H locs ls hz hP hS hv)
theorem g_goto (hE : Gok l C E own cc b d) {off : Int} (tgt : Nat) (hd : decode cc pc = .ok (.goto off, 3)) (ht : (pc : Int) + off = (tgt : Int)) (kk : G C E V b k cl sl tgt lv st) : G C E V b k cl sl pc lv st := by
  obtain ⟨p, l0, e, R, s, m, args, below, meth, c, A, cells, slots, nL, Q⟩ := E
  obtain ⟨⟨rfl, hx, hb, hml, hown⟩, hts, hK, hN, hO, hC, hA, hs, hR, hm⟩ := hE
  intro H locs ls hz hP hS hv
  exact lv_goto hx hb hd ht (kk H locs ls hz hP hS hv)
theorem g_icmpge (hE : Gok l C E own cc b d) {x y : Int32} {off : Int} (tgt : Nat) (hd : decode cc pc = .ok (.if_icmp .ge off, 3)) (ht : (pc : Int) + off = (tgt : Int)) (kt : y ≤ x → G C E V b k cl sl tgt lv st) (kf : ¬ y ≤ x → G C E V b k cl sl (pc + 3) lv st) : G C E V b k cl sl pc lv (.int y :: .int x :: st) := by
  obtain ⟨p, l0, e, R, s, m, args, below, meth, c, A, cells, slots, nL, Q⟩ := E
  obtain ⟨⟨rfl, hx, hb, hml, hown⟩, hts, hK, hN, hO, hC, hA, hs, hR, hm⟩ := hE
  intro H locs ls hz hP hS hv
  exact lv_icmp_ge hx hb hd ht (fun q => kt q H locs ls hz hP hS hv) (fun q => kf q H locs ls hz hP hS hv)
theorem g_iload (hE : Gok l C E own cc b d) {i : Fin 4} {x : Int32} (hd : decode cc pc = .ok (.iload_n i, 1)) (hi : lv[(i : Nat)]? = some (some (.int x))) (kk : G C E V b k cl sl (pc + 1) lv (.int x :: st)) : G C E V b k cl sl pc lv (st) := by
  obtain ⟨p, l0, e, R, s, m, args, below, meth, c, A, cells, slots, nL, Q⟩ := E
  obtain ⟨⟨rfl, hx, hb, hml, hown⟩, hts, hK, hN, hO, hC, hA, hs, hR, hm⟩ := hE
  intro H locs ls hz hP hS hv
  exact lv_iload_n hx hb hd rfl (hv.2.2.2 _ _ hi) (kk H locs ls hz hP hS hv)
theorem g_aload (hE : Gok l C E own cc b d) {i : Fin 4} {x : Nat} (hd : decode cc pc = .ok (.aload_n i, 1)) (hi : lv[(i : Nat)]? = some (some (.ref x))) (kk : G C E V b k cl sl (pc + 1) lv (.ref x :: st)) : G C E V b k cl sl pc lv (st) := by
  obtain ⟨p, l0, e, R, s, m, args, below, meth, c, A, cells, slots, nL, Q⟩ := E
  obtain ⟨⟨rfl, hx, hb, hml, hown⟩, hts, hK, hN, hO, hC, hA, hs, hR, hm⟩ := hE
  intro H locs ls hz hP hS hv
  exact lv_aload_n hx hb hd rfl (hv.2.2.2 _ _ hi) (kk H locs ls hz hP hS hv)
theorem g_istore (hE : Gok l C E own cc b d) {i : Fin 4} {x : Int32} (hd : decode cc pc = .ok (.istore_n i, 1)) (hi : (i : Nat) < lv.length) (ho : ok1 lv (i : Nat) = true) (kk : G C E V b k cl sl (pc + 1) (lv.set (i : Nat) (some (.int x))) st) : G C E V b k cl sl pc lv (.int x :: st) := by
  obtain ⟨p, l0, e, R, s, m, args, below, meth, c, A, cells, slots, nL, Q⟩ := E
  obtain ⟨⟨rfl, hx, hb, hml, hown⟩, hts, hK, hN, hO, hC, hA, hs, hR, hm⟩ := hE
  intro H locs ls hz hP hS hv
  exact lv_istore_n hx hb hd rfl (lvH_has hv) (Nat.lt_of_lt_of_le hi hv.2.2.1) rfl (fun ls' hl => kk H locs ls' hz hP hS (lvH_set hv hi ho hl))
theorem g_astore (hE : Gok l C E own cc b d) {i : Fin 4} {x : Nat} (hd : decode cc pc = .ok (.astore_n i, 1)) (hi : (i : Nat) < lv.length) (ho : ok1 lv (i : Nat) = true) (kk : G C E V b k cl sl (pc + 1) (lv.set (i : Nat) (some (.ref x))) st) : G C E V b k cl sl pc lv (.ref x :: st) := by
  obtain ⟨p, l0, e, R, s, m, args, below, meth, c, A, cells, slots, nL, Q⟩ := E
  obtain ⟨⟨rfl, hx, hb, hml, hown⟩, hts, hK, hN, hO, hC, hA, hs, hR, hm⟩ := hE
  intro H locs ls hz hP hS hv
  exact lv_astore_n hx hb hd rfl (lvH_has hv) (Nat.lt_of_lt_of_le hi hv.2.2.1) rfl (fun ls' hl => kk H locs ls' hz hP hS (lvH_set hv hi ho hl))
theorem g_objInit (hE : Gok l C E own cc b d) {idx x : Nat} (hl : Cond.methodLink own idx objectInit ∈ WT) (h1 : Cond.instanceMethod objectInit ∈ WT) (h2 : Cond.code objectInit ⟨#[0xb1]⟩ 1 none ∈ WT) (hd : decode cc pc = .ok (.invokespecial idx, 3)) (hd1 : 1 ≤ d) (kk : G C E V b k cl sl (pc + 3) lv []) : G C E V b k cl sl pc lv [.ref x] := by
  obtain ⟨p, l0, e, R, s, m, args, below, meth, c, A, cells, slots, nL, Q⟩ := E
  obtain ⟨⟨rfl, hx, hb, hml, hown⟩, hts, hK, hN, hO, hC, hA, hs, ⟨hR1, hR2, hR3, hR4⟩, hm⟩ := hE
  intro H locs ls hz hP hS hv
  exact W.objInit hx hb hown (hts _ hl) (hts _ h1) (hts _ h2) (g := F0 m pc ls [.ref x]) rfl (hv.1.trans hml.symm) rfl hd (by omega) (Nat.le_trans (show _ ≤ 128 from Nat.le_of_ble_eq_true rfl) (Nat.le_trans (by omega : 128 ≤ 128 * d) hR2)) (kk H locs ls hz hP hS hv)
/-- what a fresh object holds -/
def dfl (ci : Nat) : List Value := (List.range (nfl ci)).map (fun j => if isR ci j = true then .null else .int (nI 0))
theorem dfl_ok : ∀ ci, ci < 11 → ∀ j, j < nfl ci → defaultValue ((jtyX.getD ci tyX0) j) = vp_V (dfl ci) j := by decide +kernel
def GN (own : String) (idx ci : Nat) : Prop := ci < 11 ∧ Cond.classLink own idx (jT ci).1 ∈ WT ∧ Cond.instantiable (jT ci).1 (jT ci).2.2 ∈ WT ∧ Cond.initialized (jT ci).1 ∈ WT
theorem g_new (hE : Gok l C E own cc b d) {idx ci : Nat} (hn : GN own idx ci) (hd : decode cc pc = .ok (.new idx, 3)) (hcap : Gcap E (cl + 1) (sl + nfl ci)) (kk : G C E (vset V (b + k) (.inr (ci, dfl ci))) b (k + 1) (cl + 1) (sl + nfl ci) (pc + 3) lv (.ref (C.2.1 (b + k)) :: st)) : G C E V b k cl sl pc lv st := by
  obtain ⟨p, l0, e, R, s, m, args, below, meth, c, A, cells, slots, nL, Q⟩ := E
  obtain ⟨⟨rfl, hx, hb, hml, hown⟩, hts, hK, hN, hO, hC, hA, hs, ⟨hR1, hR2, hR3, hR4⟩, hm⟩ := hE
  obtain ⟨h1, h2, h3, h4⟩ := hn
  obtain ⟨q1, q2⟩ := hcap
  intro H locs ls hz hP hS hv
  have hKn := hK.1 ci _ (jT_lt h1)
  have en := jT_nf h1
  refine W.newcK hx hb hown (hts _ h2) (hts _ h3) (hts _ h4) rfl hd (Nat.le_trans q1 hR3) (by rw [en]; exact Nat.le_trans q2 hR4) hKn.2.1 hz fun H1 kC hkC e1 z1 o1 => ?_
  rw [en]
  refine kk H1 locs ls (by rw [z1, hC (b + k), hC (b + (k + 1))]; omega) ?_ ⟨Nat.le_trans hS.1 (by omega), fun x g1 g2 => (o1 x (by rw [← hz]; exact Nat.lt_of_lt_of_le g1 hS.1)).trans (hS.2.1 x g1 g2), hS.2.2⟩ hv
  rw [← gw_push]
  refine (hP.kept (fun j x hx => o1 x.1 (by rw [← hz]; exact (hP j x hx).lt))).app (fun j x hx => ?_)
  have hz1 : j < 1 := (List.getElem?_eq_some_iff.mp hx).1
  rw [show j = 0 by omega] at hx
  cases hx
  exact ⟨_, jT_lt h1, (u_born _ hts (jT_in h1) hKn hkC e1 (jT_ty h1)).to (fun j hj => dfl_ok ci h1 j (by rw [← en]; exact hj))⟩
theorem g_newa (hE : Gok l C E own cc b d) {at' : ArrayType} {ty : FieldType} {cA : ClassId} (ht : newarray.typeOf at' = ty) (hty : (cA, ty) ∈ jty C) (hi : ty = .int ∨ ty = .boolean) (hw : Cond.arrayClass ty ∈ WT) {N : Nat} (hN : N ≤ 1000) (hd : decode cc pc = .ok (.newarray at', 2)) (hcap : Gcap E (cl + 1) (sl + N)) (kk : G C E (vset V (b + k) (.inl (cA, N, .inl (fun _ => nI 0)))) b (k + 1) (cl + 1) (sl + N) (pc + 2) lv (.ref (C.2.1 (b + k)) :: st)) : G C E V b k cl sl pc lv (.int (nI N) :: st) := by
  obtain ⟨p, l0, e, R, s, m, args, below, meth, c, A, cells, slots, nL, Q⟩ := E
  obtain ⟨⟨rfl, hx, hb, hml, hown⟩, hts, hK, hN', hO, hC, hA, hs, ⟨hR1, hR2, hR3, hR4⟩, hm⟩ := hE
  obtain ⟨q1, q2⟩ := hcap
  intro H locs ls hz hP hS hv
  subst ht
  have hc8 : componentBytes (newarray.typeOf at') ≤ 8 := by rcases hi with h | h <;> rw [h] <;> decide
  refine va_newaK hx hb (hts _ hw) rfl hd rfl (nI_pos (by omega)) (nI_clamp (by omega)) (Nat.le_trans (Nat.mul_le_mul hN hc8) (by decide)) (Nat.le_trans q1 hR3) (Nat.le_trans q2 hR4) hz fun H1 cA' e1 z1 o1 hAr hNm => ?_
  have ec : cA' = cA := by
    obtain ⟨j, hj⟩ := List.getElem?_of_mem hty
    have r := (hK.2 j _ hj).2
    rcases hi with h | h <;> rw [h] at r hNm <;> exact Option.some.inj (hNm.symm.trans r)
  subst ec
  refine kk H1 locs ls (by rw [z1, hC (b + k), hC (b + (k + 1))]; omega) ?_ ⟨Nat.le_trans hS.1 (by omega), fun x g1 g2 => (o1 x (by rw [← hz]; exact Nat.lt_of_lt_of_le g1 hS.1)).trans (hS.2.1 x g1 g2), hS.2.2⟩ hv
  rw [← gw_push]
  refine (hP.kept (fun j x hx => o1 x.1 (by rw [← hz]; exact (hP j x hx).lt))).app (fun j x hx => ?_)
  have hz1 : j < 1 := (List.getElem?_eq_some_iff.mp hx).1
  rw [show j = 0 by omega] at hx
  cases hx
  show H1[C.2.1 (b + k)]? = some (vp_cell _ _)
  rw [e1]
  rcases hi with h | h <;> rw [h] <;> rfl
theorem g_newq (hE : Gok l C E own cc b d) {idx : Nat} {nm : String} {cA : ClassId} (hty : (cA, .object nm) ∈ jty C) (ho : nm = RX1 ∨ nm = RX4) (hw : Cond.classLink own idx nm ∈ WT) {N : Nat} (hN : N ≤ 1000) (hd : decode cc pc = .ok (.anewarray idx, 3)) (hcap : Gcap E (cl + 1) (sl + N)) (kk : G C E (vset V (b + k) (.inl (cA, N, .inr (.inr (.inr (.inr (fun _ => none))))))) b (k + 1) (cl + 1) (sl + N) (pc + 3) lv (.ref (C.2.1 (b + k)) :: st)) : G C E V b k cl sl pc lv (.int (nI N) :: st) := by
  obtain ⟨p, l0, e, R, s, m, args, below, meth, c, A, cells, slots, nL, Q⟩ := E
  obtain ⟨⟨rfl, hx, hb, hml, hown⟩, hts, hK, hN', hO, hC, hA, hs, ⟨hR1, hR2, hR3, hR4⟩, hm⟩ := hE
  obtain ⟨q1, q2⟩ := hcap
  intro H locs ls hz hP hS hv
  have hO' : va_AO nm s := by rcases ho with rfl | rfl; exact hO.1; exact hO.2
  have en : (nI N).toNatClampNeg = N := nI_clamp (by omega)
  refine W.anew hx hb hown (hts _ hw) (va_AO.use hO') rfl hd rfl (nI_pos (by omega)) (by rw [en]; omega) (Nat.le_trans q1 hR3) (by rw [en]; exact Nat.le_trans q2 hR4) fun cA' kA comp f1 f2 f3 f4 => ?_
  have ec : cA' = cA := by
    obtain ⟨j, hj⟩ := List.getElem?_of_mem hty
    obtain ⟨-, -, -, -, -, r⟩ := (hK.2 j _ hj).2
    exact Option.some.inj (f1.symm.trans r)
  subst ec
  rw [en]
  generalize hH1 : H.push ({ cls := cA', slots := Array.replicate N .null, vm := .none } : Cell) = H1
  have z1 : H1.size = H.size + 1 := by rw [← hH1, Array.size_push]
  have e1 : H1[H.size]? = some (arrV cA' N (fun _ => .null)) := by rw [← hH1, Array.getElem?_push_size, ← arrV_new]
  have o1 : ∀ q : Nat, q < H.size → H1[q]? = H[q]? := fun q hq => by rw [← hH1, Array.getElem?_push, if_neg (Nat.ne_of_lt hq)]
  rw [hz]
  rw [hz] at z1 e1 o1
  refine kk H1 locs ls (by rw [z1, hC (b + k), hC (b + (k + 1))]; omega) ?_ ⟨Nat.le_trans hS.1 (by omega), fun x g1 g2 => (o1 x (by rw [← hz]; exact Nat.lt_of_lt_of_le g1 hS.1)).trans (hS.2.1 x g1 g2), hS.2.2⟩ hv
  rw [← gw_push]
  refine (hP.kept (fun j x hx => o1 x.1 (by rw [← hz]; exact (hP j x hx).lt))).app (fun j x hx => ?_)
  have hz1 : j < 1 := (List.getElem?_eq_some_iff.mp hx).1
  rw [show j = 0 by omega] at hx
  cases hx
  show H1[C.2.1 (b + k)]? = some (vp_cell _ _)
  rw [vp_cell_q]
  exact e1
/-- a field of references, final or not -/
def FR (own : String) (idx ci f : Nat) (fin : Bool) : Prop := FL own idx ci f true ∧ ((jT ci).2.1 f).2.2.2 = fin ∧ (∃ ty, parseFieldDescriptor ((jT ci).2.1 f).2.2.1 = some ty ∧ ∀ a : Nat, narrow ty (.ref a) = .ref a ∧ fits ty (.ref a) = true) ∧ (fin = true → ((jT ci).2.1 f).1 = own ∧ own ≠ "DampLikenessLaw")
/-- a field of a fresh world's object is written: the heap stays as large -/
theorem g_putr (hE : Gok l C E own cc b d) {idx ci f : Nat} {fin : Bool} (hf : FR own idx ci f fin) (hd : decode cc pc = .ok (.putfield idx, 3)) {j x : Nat} {fs : List Value} (hj : j < k) (hv' : V (b + j) = .inr (ci, fs)) (hl : fs.length = nfl ci) (kk : G C E (vset V (b + j) (.inr (ci, fs.set f (.ref x)))) b k cl sl (pc + 3) lv st) : G C E V b k cl sl pc lv (.ref x :: .ref (C.2.1 (b + j)) :: st) := by
  obtain ⟨p, l0, e, R, s, m, args, below, meth, c, A, cells, slots, nL, Q⟩ := E
  obtain ⟨⟨rfl, hx, hb, hml, hown⟩, hts, hK, hN, hO, hC, hA, hs, hR, hm⟩ := hE
  obtain ⟨⟨h1, h2, h3, h4⟩, h5, ⟨ty, h6, h7⟩, h8⟩ := hf
  intro H locs ls hz hP hS hv
  have hD := gw_D hC V b k
  rw [← hA] at hD
  have he : (gw C V b k)[j]? = some (C.2.1 (b + j), .inr (ci, fs)) := by rw [gw_at C V hj, hv']
  have hap := va_apart (own := own) hts (jT_in h1) _ (jT_ty h1) (jT_nm h1) hK (jT_lt h1)
  have hkN : f < (jT ci).2.2 := by rw [jT_nf h1]; exact h2
  obtain ⟨r, hr1, cell, q1, q2, q3, q4⟩ := hP j _ he
  have hr : r = jT ci := Option.some.inj (hr1.symm.trans (jT_lt h1))
  subst hr
  obtain ⟨hSl, hfc, kC, hkC, hkind⟩ := hK.1 ci _ (jT_lt h1)
  obtain ⟨cf, kf, fi, fd, hi, hsl⟩ := hSl f hkN
  have hlay := hts _ (jT_in h1 _ (u_in_lay hkN))
  have hst := (u_facts hfc hkC (u_lays hts (jT_in h1) hkN) hi).1
  have fin' : ∀ (H' : Heap), H'[C.2.1 (b + j)]? = some (cell.setSlot fd.slot (.ref x)) → H'.size = H.size → (∀ q, q ≠ C.2.1 (b + j) → H'[q]? = H[q]?) → W p l0 e R s m args below meth c H' (locs ++ [⟨C.2.1 (b + j), fd.slot⟩]) cl sl Q (F0 m (pc + 3) ls st) := fun H' e1 e2 e3 => by
    rw [hsl] at e1 ⊢
    refine kk H' _ ls (by rw [e2]; exact hz) ?_ (hS.put e2 e3 (hD.2 j _ he)) hv
    rw [← gw_set C V hj]
    exact hP.set hD he ⟨_, jT_lt h1, t_OB.to (V := updV (vp_V fs) f (.ref x)) ⟨_, e1, q2, q3, t_set q4 hap hkN (.ref x)⟩ (fun i _ => vp_updV_set (by rw [hl]; exact h2) (.ref x) i)⟩ e3
  cases fin with
  | true =>
    obtain ⟨g1, g2⟩ := h8 rfl
    unfold u_lay at hlay
    rw [if_pos h5] at hlay
    have hcf : m.cls = cf := by
      obtain ⟨_, _, c', _, _, _, -, -, hf', -, -, -, hown2, -⟩ := Cond.laysFinal_spec hlay
      have e1 : c' = cf := by have := hi.symm.trans hf'; simp at this; exact this.1.symm
      rw [g1] at hown2
      rw [← e1]; exact Option.some.inj (hown.symm.trans hown2)
    have h9 := u_fits hfc hkC hkind (Or.inr hlay) hi h6 (h7 x).1 (h7 x).2
    exact W.putFinK hx hb hown (hts _ h4) hi hst hcf (hm g2) (by rw [q2]; exact h9) q1 q3 (by rw [hsl]; exact k2_hasslot (q4 f hkN)) rfl rfl hd fun H' e1 e2 e3 => fin' H' e1 e2 e3
  | false =>
    unfold u_lay at hlay
    rw [if_neg (by rw [h5]; decide)] at hlay
    have h9 := u_store hfc hkC hkind hlay hi h6 (h7 x).1 (h7 x).2
    exact W.putK hx hb (f := fd) ⟨hown, hts _ h4, ⟨_, _, _, hi⟩, hst⟩ (by rw [q2]; exact h9) q1 q3 (by rw [hsl]; exact k2_hasslot (q4 f hkN)) rfl rfl hd fun H' e1 e2 e3 => fin' H' e1 e2 e3
theorem g_puti (hE : Gok l C E own cc b d) {idx ci f : Nat} {ty : FieldType} (hf : FP own idx ci f ty) (hd : decode cc pc = .ok (.putfield idx, 3)) {j : Nat} {x : Int32} {fs : List Value} (hj : j < k) (hv' : V (b + j) = .inr (ci, fs)) (hl : fs.length = nfl ci) (hn : narrow ty (.int x) = .int x) (hfit : fits ty (.int x) = true) (kk : G C E (vset V (b + j) (.inr (ci, fs.set f (.int x)))) b k cl sl (pc + 3) lv st) : G C E V b k cl sl pc lv (.int x :: .ref (C.2.1 (b + j)) :: st) := by
  obtain ⟨p, l0, e, R, s, m, args, below, meth, c, A, cells, slots, nL, Q⟩ := E
  obtain ⟨⟨rfl, hx, hb, hml, hown⟩, hts, hK, hN, hO, hC, hA, hs, hR, hm⟩ := hE
  obtain ⟨⟨h1, h2, h3, h4⟩, h5, h6⟩ := hf
  intro H locs ls hz hP hS hv
  have hD := gw_D hC V b k
  rw [← hA] at hD
  have he : (gw C V b k)[j]? = some (C.2.1 (b + j), .inr (ci, fs)) := by rw [gw_at C V hj, hv']
  have hap := va_apart (own := own) hts (jT_in h1) _ (jT_ty h1) (jT_nm h1) hK (jT_lt h1)
  have hkN : f < (jT ci).2.2 := by rw [jT_nf h1]; exact h2
  obtain ⟨r, hr1, cell, q1, q2, q3, q4⟩ := hP j _ he
  have hr : r = jT ci := Option.some.inj (hr1.symm.trans (jT_lt h1))
  subst hr
  obtain ⟨hSl, hfc, kC, hkC, hkind⟩ := hK.1 ci _ (jT_lt h1)
  obtain ⟨cf, kf, fi, fd, hi, hsl⟩ := hSl f hkN
  have hlay := hts _ (jT_in h1 _ (u_in_lay hkN))
  have hst := (u_facts hfc hkC (u_lays hts (jT_in h1) hkN) hi).1
  unfold u_lay at hlay
  rw [if_neg (by rw [h5]; decide)] at hlay
  have h9 := u_store hfc hkC hkind hlay hi h6 hn hfit
  refine W.putK hx hb (f := fd) ⟨hown, hts _ h4, ⟨_, _, _, hi⟩, hst⟩ (by rw [q2]; exact h9) q1 q3 (by rw [hsl]; exact k2_hasslot (q4 f hkN)) rfl rfl hd fun H' e1 e2 e3 => ?_
  rw [hsl] at e1 ⊢
  refine kk H' _ ls (by rw [e2]; exact hz) ?_ (hS.put e2 e3 (hD.2 j _ he)) hv
  rw [← gw_set C V hj]
  exact hP.set hD he ⟨_, jT_lt h1, t_OB.to (V := updV (vp_V fs) f (.int x)) ⟨_, e1, q2, q3, t_set q4 hap hkN (.int x)⟩ (fun i _ => vp_updV_set (by rw [hl]; exact h2) (.int x) i)⟩ e3
theorem g_getr (hE : Gok l C E own cc b d) {idx ci f : Nat} (hf : FL own idx ci f true) (hd : decode cc pc = .ok (.getfield idx, 3)) {j x : Nat} {fs : List Value} (hj : j < k) (hv' : V (b + j) = .inr (ci, fs)) (hx' : fs[f]? = some (.ref x)) (kk : G C E V b k cl sl (pc + 3) lv (.ref x :: st)) : G C E V b k cl sl pc lv (.ref (C.2.1 (b + j)) :: st) := by
  obtain ⟨p, l0, e, R, s, m, args, below, meth, c, A, cells, slots, nL, Q⟩ := E
  obtain ⟨⟨rfl, hx, hb, hml, hown⟩, hts, hK, hN, hO, hC, hA, hs, hR, hm⟩ := hE
  obtain ⟨h1, h2, h3, h4⟩ := hf
  intro H locs ls hz hP hS hv
  exact va_get (D := C.1) (ci := ci) (C := (jT ci).1) (T := (jT ci).2.1) (N := (jT ci).2.2) hx hb hts (jT_in h1) hown hK hP j (by rw [gw_at C V hj, hv']) (jT_lt h1) f (by rw [jT_nf h1]; exact h2) (hts _ h4) (fun _ h => h) (v := .ref x) hx' hd (kk H locs ls hz hP hS hv)
theorem g_alen (hE : Gok l C E own cc b d) (hd : decode cc pc = .ok (.arraylength, 1)) {j N : Nat} {cA : ClassId} {ty : FieldType} {fn : Nat → Option Nat} (hty : (cA, ty) ∈ jty C) (hj : j < k) (hv' : V (b + j) = .inl (cA, N, .inr (.inr (.inr (.inr fn))))) (kk : G C E V b k cl sl (pc + 1) lv (.int (nI N) :: st)) : G C E V b k cl sl pc lv (.ref (C.2.1 (b + j)) :: st) := by
  obtain ⟨p, l0, e, R, s, m, args, below, meth, c, A, cells, slots, nL, Q⟩ := E
  obtain ⟨⟨rfl, hx, hb, hml, hown⟩, hts, hK, hN, hO, hC, hA, hs, hR, hm⟩ := hE
  obtain ⟨t0, ht0⟩ := List.getElem?_of_mem hty
  intro H locs ls hz hP hS hv
  have ha : (gw C V b k)[j]? = some (C.2.1 (b + j), .inl (cA, N, .inr (.inr (.inr (.inr fn))))) := by rw [gw_at C V hj, hv']
  exact va_alen hx hb hK hP j t0 ha ht0 (v := nI N) rfl hd (kk H locs ls hz hP hS hv)
theorem g_aast (hE : Gok l C E own cc b d) (hd : decode cc pc = .ok (.aastore, 1)) {j i N w ci : Nat} {cA : ClassId} {fs : List Value} {fn : Nat → Option Nat} (h11 : ci < 11) (hty : (cA, .object (jT ci).1) ∈ jty C) (hj : j < k) (hv' : V (b + j) = .inl (cA, N, .inr (.inr (.inr (.inr fn))))) (hw : w < k) (hvw : V (b + w) = .inr (ci, fs)) (hi : i < N) (hN : N ≤ 1000) (kk : G C E (vset V (b + j) (.inl (cA, N, .inr (.inr (.inr (.inr (va_up fn i (some (C.2.1 (b + w)))))))))) b k cl sl (pc + 1) lv st) : G C E V b k cl sl pc lv (.ref (C.2.1 (b + w)) :: .int (nI i) :: .ref (C.2.1 (b + j)) :: st) := by
  obtain ⟨p, l0, e, R, s, m, args, below, meth, c, A, cells, slots, nL, Q⟩ := E
  obtain ⟨⟨rfl, hx, hb, hml, hown⟩, hts, hK, hN', hO, hC, hA, hs, hR, hm⟩ := hE
  obtain ⟨t0, ht0⟩ := List.getElem?_of_mem hty
  intro H locs ls hz hP hS hv
  have hD := gw_D hC V b k
  rw [← hA] at hD
  have ha : (gw C V b k)[j]? = some (C.2.1 (b + j), .inl (cA, N, .inr (.inr (.inr (.inr fn))))) := by rw [gw_at C V hj, hv']
  have hvv : (gw C V b k)[w]? = some (C.2.1 (b + w), .inr (ci, fs)) := by rw [gw_at C V hw, hvw]
  have hc := jT_lt h11
  obtain ⟨r', hr', cellV, g1, g2, g3, -⟩ := hP w _ hvv
  have hcls := (hK.1 ci (jT ci) hc).2
  obtain ⟨kA, comp, k1, k2, k3, -⟩ := (hK.2 t0 _ ht0).2
  have hcomp : comp = C.1.1 ci := Option.some.inj (k3.symm.trans hcls.1)
  subst hcomp
  obtain ⟨kC, hkC, -⟩ := hcls.2
  have ei : (nI i).toNatClampNeg = i := nI_clamp (by omega)
  refine W.aast hx hb (hP j _ ha) (fun q h => by cases h) (fun h => by cases h) k1 k2 rfl hkC ⟨nI_pos (by omega), by show _ < (arrV _ _ _).slots.size; rw [arrV_size, ei]; exact hi⟩ g1 (fun q h => by rw [g3] at h; cases h) (by rw [g2]; exact hkC) (by rw [g2]; exact va_assign hcls) rfl rfl hd fun H1 e z oq => ?_
  refine kk H1 _ ls (by rw [z]; exact hz) ?_ (hS.put z oq (hD.2 j _ ha)) hv
  rw [← gw_set C V hj]
  refine hP.set hD ha ?_ oq
  show H1[C.2.1 (b + j)]? = some (vp_cell _ _)
  rw [e, ei]
  rw [vp_cell_q, vp_cell_q, arrV_store]
  congr 2
  funext q
  by_cases hq : q = i
  · subst hq
    simp [updV, va_up, va_rf]
  · simp [updV, va_up, hq]
end GRows
/-! contracts of constructors -/
def GP (C : JC) (b : Nat) (e0 : va_E) (U : State) : Prop := U.heap.size = C.2.1 (b + 1) ∧ va_P C.1 jcls [(C.2.1 b, e0)] U.heap ∧ va_K C.1 jcls (jty C) U ∧ JN U ∧ JAO U
def GQ (C : JC) (b k : Nat) (F : Nat → va_E) : Array Value → State → Outcome → State → Prop := va_Qv (fun _ : Unit => True) (fun _ t => t.heap.size = C.2.1 (b + k) ∧ va_P C.1 jcls (gw C F b k) t.heap) (GA C b)
def GCon (l : Launch) (C : JC) (y : MethodName) (cc : ByteArray) (nL d mc ms b k : Nat) (e0 : va_E) (F : Nat → va_E) : Prop :=
  Met l y (.code y cc nL none :: WT) ({ frames := d, cells := mc, slots := ms, locals := 128 * d }) (va_Pc [.ref (C.2.1 b)] (GP C b e0)) (GQ C b k F) mc ms (GA C b)
def Gret (C : JC) (E : JE) (cc : ByteArray) (b k : Nat) (F : Nat → va_E) : Prop := match E with
  | (p, l, e, R, s, m, args, below, meth, c, A, cells, slots, nL, Q) => ∀ (H : Heap) (locs : List Loc) (ls : Array Slot) (pc : Nat), H.size = C.2.1 (b + k) → va_P C.1 jcls (gw C F b k) H → va_S A s.heap H locs → decode cc pc = .ok (.return_, 1) → W p l e R s m args below meth c H locs cells slots Q (F0 m pc ls [])
theorem g_ret {l : Launch} {C : JC} {E : JE} {own : String} {cc : ByteArray} {d b k cl sl : Nat} {V F : Nat → va_E} {pc : Nat} {lv : List (Option Value)} (hE : Gok l C E own cc b d) (hR : Gret C E cc b k F) (hd : decode cc pc = .ok (.return_, 1)) (hcap : Gcap E cl sl) (hv' : ∀ j, j < k → V (b + j) = F (b + j)) : G C E V b k cl sl pc lv [] := by
  obtain ⟨p, l0, e, R, s, m, args, below, meth, c, A, cells, slots, nL, Q⟩ := E
  obtain ⟨q1, q2⟩ := hcap
  intro H locs ls hz hP hS hv
  refine W.widen (k := cells) (n := slots) q1 q2 ?_
  exact hR H locs ls pc hz (by rw [← gw_c hv']; exact hP) hS hd
theorem gcon_of {l : Launch} {C : JC} {y : MethodName} {cc : ByteArray} {nL d mc ms b k : Nat} {e0 : va_E} {F : Nat → va_E} (own : String) (kr : Nat) (hy : plainName y.cls = true) (hyn : y.name = "<init>") (ho : y.cls = own) (hC : CAd C) (hlen : 1 + kr ≤ nL) (body : ∀ E, Gok l C E own cc b d → Gcap E mc ms → Gret C E cc b k F → G C E (fun _ => e0) b 1 0 0 0 (some (.ref (C.2.1 b)) :: List.replicate kr none) []) : GCon l C y cc nL d mc ms b k e0 F := by
  refine Met.ofW (cc := cc) (maxL := nL) (ret := none) hy rfl ?_
  intro p e s m args below meth c s₁ B hml hv
  obtain ⟨rfl, hz, hP, hK, hN, hO⟩ := hv
  have hts := atoms_spec (ws := .code y cc nL none :: WT) B.pre
  have hown : s.vm.findClass own = some m.cls := by rw [← ho]; exact findClass_of_methodNamed B.named
  have hin : meth.name = "<init>" := (name_of_methodNamed B.named B.method).1.trans hyn
  have hl := lv_entry [.ref (C.2.1 b)] (n := nL) (by show 1 ≤ nL; omega)
  rw [lg_entry_eq]
  generalize (lg_sl [Value.ref (C.2.1 b)] ++ List.replicate (nL - (lg_sl [Value.ref (C.2.1 b)]).length) Slot.unset).toArray = ls at hl ⊢
  have hle : C.2.1 b ≤ s.heap.size := by rw [hz, hC b, hC (b + 1)]; omega
  have hok : Gok l C (p, l, e, (headSpec (.code y cc nL none :: WT) ({ frames := d, cells := mc, slots := ms, locals := 128 * d })).room, s, m, [Value.ref (C.2.1 b)].toArray, below, meth, c, GA C b, mc, ms, nL, MQ below (GQ C b k F) [Value.ref (C.2.1 b)].toArray s mc ms (GA C b)) own cc b d :=
    ⟨⟨rfl, B.exec, B.bytes, hml, hown⟩, fun w hw => hts w (List.mem_cons_of_mem _ hw), hK, hN, hO, hC, rfl, hle, ⟨Nat.le_refl _, Nat.le_refl _, Nat.le_refl _, Nat.le_refl _⟩, fun _ => hin⟩
  refine body _ hok ⟨Nat.le_refl _, Nat.le_refl _⟩ ?_ s.heap [] ls hz ?_ va_S.rf ?_
  · intro H locs ls pc hz' hP' hS' hd
    exact W.vret B.exec B.bytes B.returns (fun t ht hW => ⟨⟨(), rfl, trivial, by rw [ht]; exact hz', by rw [ht]; exact hP'⟩, hS'.F ht⟩) hS'.2.2 hd B.notSynchronized
  · exact hP
  · refine ⟨hl.1, hl.2.1, by simp; omega, fun q w hq => ?_⟩
    match q, hq with
    | 0, hq =>
      cases hq
      exact hl.2.2 (0, .ref (C.2.1 b)) (by simp [lv_args])
    | q + 1, hq =>
      simp only [List.getElem?_cons_succ] at hq
      exact (rep_none hq).elim
