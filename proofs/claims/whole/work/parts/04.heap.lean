/-! class facts by number -/
theorem wt_self {c' : Cond} (h : c' ∈ WT) : GoodIn WT (c' :: WT) := fun w hw => by
  rcases List.mem_cons.mp hw with rfl | hw
  · exact ⟨h, good_of_word (List.mem_filter.mp h).2⟩
  · exact ⟨hw, good_of_word (List.mem_filter.mp hw).2⟩
abbrev jtyX : List (Nat → FieldType) := [tyX0, tyX1, tyX2, tyX3, tyX4, tyX6, tyX7, tyX8, tyX9, tyX10, tyX11]
def jT (ci : Nat) : vw_C := jcls.getD ci ("", TX0, 0)
theorem jT_lt {ci : Nat} (h : ci < 11) : jcls[ci]? = some (jT ci) := by
  match ci, h with
  | 0, _ => rfl
  | 1, _ => rfl
  | 2, _ => rfl
  | 3, _ => rfl
  | 4, _ => rfl
  | 5, _ => rfl
  | 6, _ => rfl
  | 7, _ => rfl
  | 8, _ => rfl
  | 9, _ => rfl
  | 10, _ => rfl
  | ci + 11, h => omega
theorem jT_in {ci : Nat} (h : ci < 11) : ∀ w ∈ u_ws (jT ci).1 (jT ci).2.1 (jT ci).2.2, w ∈ WT := by
  match ci, h with
  | 0, _ => exact jin0
  | 1, _ => exact jin1
  | 2, _ => exact jin2
  | 3, _ => exact jin3
  | 4, _ => exact jin4
  | 5, _ => exact jin6
  | 6, _ => exact jin7
  | 7, _ => exact jin8
  | 8, _ => exact jin9
  | 9, _ => exact jin10
  | 10, _ => exact jin11
  | ci + 11, h => omega
theorem jT_ty {ci : Nat} (h : ci < 11) : ∀ k, k < (jT ci).2.2 → parseFieldDescriptor ((jT ci).2.1 k).2.2.1 = some ((jtyX.getD ci tyX0) k) := by
  match ci, h with
  | 0, _ => exact tyX0_ok
  | 1, _ => exact tyX1_ok
  | 2, _ => exact tyX2_ok
  | 3, _ => exact tyX3_ok
  | 4, _ => exact tyX4_ok
  | 5, _ => exact tyX6_ok
  | 6, _ => exact tyX7_ok
  | 7, _ => exact tyX8_ok
  | 8, _ => exact tyX9_ok
  | 9, _ => exact tyX10_ok
  | 10, _ => exact tyX11_ok
  | ci + 11, h => omega
theorem jT_nm {ci : Nat} (h : ci < 11) : ∀ a, a < (jT ci).2.2 → ∀ b, b < (jT ci).2.2 → a ≠ b → ((jT ci).2.1 a).2.1 ≠ ((jT ci).2.1 b).2.1 := by
  match ci, h with
  | 0, _ => exact nmX0
  | 1, _ => exact nmX1
  | 2, _ => exact nmX2
  | 3, _ => exact nmX3
  | 4, _ => exact nmX4
  | 5, _ => exact nmX6
  | 6, _ => exact nmX7
  | 7, _ => exact nmX8
  | 8, _ => exact nmX9
  | 9, _ => exact nmX10
  | 10, _ => exact nmX11
  | ci + 11, h => omega
theorem jT_nf {ci : Nat} (h : ci < 11) : (jT ci).2.2 = nfl ci := by
  match ci, h with
  | 0, _ => rfl
  | 1, _ => rfl
  | 2, _ => rfl
  | 3, _ => rfl
  | 4, _ => rfl
  | 5, _ => rfl
  | 6, _ => rfl
  | 7, _ => rfl
  | 8, _ => rfl
  | 9, _ => rfl
  | 10, _ => rfl
  | ci + 11, h => omega
/-- a field that class own reads or writes by its constant idx: field k of class ci; a reference or not; final or not -/
def FL (own : String) (idx ci k : Nat) (r : Bool) : Prop := ci < 11 ∧ k < nfl ci ∧ isR ci k = r ∧ Cond.fieldLink own idx ((jT ci).2.1 k).1 ((jT ci).2.1 k).2.1 ((jT ci).2.1 k).2.2.1 ∈ WT
/-- a field that may be written: of ints (or booleans: ty) -/
def FP (own : String) (idx ci k : Nat) (ty : FieldType) : Prop := FL own idx ci k false ∧ ((jT ci).2.1 k).2.2.2 = false ∧ parseFieldDescriptor ((jT ci).2.1 k).2.2.1 = some ty
def CB (y : MethodName) (bytes : ByteArray) (nL : Nat) (ret : Option FieldType) (n : Nat) : Prop := Cond.code y bytes nL ret ∈ WT ∧ Cond.initialized y.cls ∈ WT ∧ (y.cls ≠ "java/lang/invoke/MethodHandle" ∧ y.cls ≠ "java/lang/invoke/VarHandle" ∧ (parseMethodDescriptor y.desc).map (fun d => d.parameters.length) = some n) ∧ nL ≤ 60
def CS (own : String) (idx : Nat) (y : MethodName) (bytes : ByteArray) (nL : Nat) (ret : Option FieldType) (n : Nat) : Prop := CB y bytes nL ret n ∧ Cond.methodLink own idx y ∈ WT ∧ Cond.static y ∈ WT
def CSN (own : String) (idx : Nat) (y : MethodName) (bytes : ByteArray) (nL : Nat) (ret : Option FieldType) (n : Nat) : Prop := CB y bytes nL ret n ∧ (own, idx, y, "DampLikeness") ∈ nestL ∧ Cond.static y ∈ WT
def CV (own : String) (idx : Nat) (y : MethodName) (bytes : ByteArray) (nL : Nat) (ret : Option FieldType) (n ci : Nat) : Prop := CB y bytes nL ret n ∧ Cond.methodLink own idx y ∈ WT ∧ Cond.instanceMethod y ∈ WT ∧ Cond.selects y.cls y y ∈ WT ∧ ci < 11 ∧ (jT ci).1 = y.cls
section HRows
variable {l : Launch} {C : JC} {E : JE} {own : String} {cc : ByteArray} {d : Nat} {S : Sto} {pc : Nat} {lv : List (Option Value)} {st : List Value}
theorem jw_ofs {C : JC} {S : Sto} {i ci : Nat} (hs : jsh i = (0, ci)) : (jw C S)[i]? = some (C.2.1 i, .inr (ci, (List.range (nfl ci)).map (jfv C S ci i))) := by
  rw [jw_at C S (jsh_lt hs (by decide)), jcell_o C S hs]
theorem j_geti (hE : Jok l C E own cc d) {idx ci k : Nat} (hf : FL own idx ci k false) (hd : decode cc pc = .ok (.getfield idx, 3)) {i : Nat} (hs : jsh i = (0, ci)) (kk : J C E S (pc + 3) lv (.int (S i k) :: st)) : J C E S pc lv (.ref (C.2.1 i) :: st) := by
  obtain ⟨p, l0, e, R, s, m, args, below, meth, c, A, cells, slots, nL, Q⟩ := E
  obtain ⟨rfl, hx, hb, hml, hown, hts, hK, hN, hC, hA, hfr, hlo, hce, hsl⟩ := hE
  obtain ⟨h1, h2, h3, h4⟩ := hf
  intro H locs ls hP hS hv
  exact va_get (D := C.1) (ci := ci) (C := (jT ci).1) (T := (jT ci).2.1) (N := (jT ci).2.2) hx hb hts (jT_in h1) hown hK hP i (jw_ofs hs) (jT_lt h1) k (by rw [jT_nf h1]; exact h2) (hts _ h4) (fun _ h => h) (v := .int (S i k)) (by rw [jfs_at C S i h2]; unfold jfv; rw [if_neg (by rw [h3]; decide)]) hd (kk H locs ls hP hS hv)
theorem j_getr (hE : Jok l C E own cc d) {idx ci k : Nat} (hf : FL own idx ci k true) (hd : decode cc pc = .ok (.getfield idx, 3)) {i j : Nat} (hs : jsh i = (0, ci)) (hr : rf S i k = j) (kk : J C E S (pc + 3) lv (.ref (C.2.1 j) :: st)) : J C E S pc lv (.ref (C.2.1 i) :: st) := by
  obtain ⟨p, l0, e, R, s, m, args, below, meth, c, A, cells, slots, nL, Q⟩ := E
  obtain ⟨rfl, hx, hb, hml, hown, hts, hK, hN, hC, hA, hfr, hlo, hce, hsl⟩ := hE
  obtain ⟨h1, h2, h3, h4⟩ := hf
  subst hr
  intro H locs ls hP hS hv
  exact va_get (D := C.1) (ci := ci) (C := (jT ci).1) (T := (jT ci).2.1) (N := (jT ci).2.2) hx hb hts (jT_in h1) hown hK hP i (jw_ofs hs) (jT_lt h1) k (by rw [jT_nf h1]; exact h2) (hts _ h4) (fun _ h => h) (v := .ref (C.2.1 (rf S i k))) (by rw [jfs_at C S i h2]; unfold jfv; rw [if_pos h3]) hd (kk H locs ls hP hS hv)
theorem j_puti (hE : Jok l C E own cc d) {idx ci k : Nat} {ty : FieldType} (hf : FP own idx ci k ty) (hd : decode cc pc = .ok (.putfield idx, 3)) {i : Nat} {v : Int32} (hs : jsh i = (0, ci)) (hn : narrow ty (.int v) = .int v) (hfit : fits ty (.int v) = true) (kk : J C E (up2 S i k v) (pc + 3) lv st) : J C E S pc lv (.int v :: .ref (C.2.1 i) :: st) := by
  obtain ⟨p, l0, e, R, s, m, args, below, meth, c, A, cells, slots, nL, Q⟩ := E
  obtain ⟨rfl, hx, hb, hml, hown, hts, hK, hN, hC, hA, hfr, hlo, hce, hsl⟩ := hE
  obtain ⟨⟨h1, h2, h3, h4⟩, h5, h6⟩ := hf
  intro H locs ls hP hS hv
  refine va_put (D := C.1) (ci := ci) (C := (jT ci).1) (T := (jT ci).2.1) (N := (jT ci).2.2) hx hb hts (jT_in h1) _ (jT_ty h1) (jT_nm h1) hown hK hP (jw_D C S hC hA) hS i (jw_ofs hs) (jT_lt h1) k (by rw [jT_nf h1]; exact h2) (hts _ h4) (fun _ h => h) h5 h6 hn hfit (by simp [h2]) hd (fun H1 locs1 hP1 _ hS1 => ?_)
  rw [jw_puti C S hs h2 h3 (fun q => by subst q; cases hs; rfl)] at hP1
  exact kk H1 locs1 ls hP1 hS1 hv
theorem j_putp (hE : Jok l C E own cc d) {idx k x : Nat} (hf : FL own idx 9 k true) (hk : k = 8 ∨ k = 9) (hx' : x < NN) (hd : decode cc pc = .ok (.putfield idx, 3)) (kk : J C E (up2 S 0 k (nI x)) (pc + 3) lv st) : J C E S pc lv (.ref (C.2.1 x) :: .ref (C.2.1 0) :: st) := by
  obtain ⟨p, l0, e, R, s, m, args, below, meth, c, A, cells, slots, nL, Q⟩ := E
  obtain ⟨rfl, hx, hb, hml, hown, hts, hK, hN, hC, hA, hfr, hlo, hce, hsl⟩ := hE
  obtain ⟨h1, h2, h3, h4⟩ := hf
  intro H locs ls hP hS hv
  refine va_put (D := C.1) (ci := 9) (C := (jT 9).1) (T := (jT 9).2.1) (N := (jT 9).2.2) (ty := .object "DampLikeness$Plan") hx hb hts (jT_in h1) _ (jT_ty h1) (jT_nm h1) hown hK hP (jw_D C S hC hA) hS 0 (jw_ofs (show jsh 0 = (0, 9) from rfl)) (jT_lt h1) k (by rw [jT_nf h1]; exact h2) (hts _ h4) (fun _ h => h) (by rcases hk with rfl | rfl <;> rfl) (by rcases hk with rfl | rfl <;> decide +kernel) rfl rfl (by simp [h2]) hd (fun H1 locs1 hP1 _ hS1 => ?_)
  rw [jw_putp C S hk hx'] at hP1
  exact kk H1 locs1 ls hP1 hS1 hv
theorem jw_of1 {C : JC} {S : Sto} {i n : Nat} (hs : jsh i = (1, n)) : (jw C S)[i]? = some (C.2.1 i, .inl (C.2.2.1, n, .inl (S i))) := by
  rw [jw_at C S (jsh_lt hs (by decide)), jcell_1 C S hs]
theorem jw_of2 {C : JC} {S : Sto} {i n : Nat} (hs : jsh i = (2, n)) : (jw C S)[i]? = some (C.2.1 i, .inl (C.2.2.2.1, n, .inl (S i))) := by
  rw [jw_at C S (jsh_lt hs (by decide)), jcell_2 C S hs]
theorem jw_of3 {C : JC} {S : Sto} {i n : Nat} (hs : jsh i = (3, n)) : (jw C S)[i]? = some (C.2.1 i, .inl (C.2.2.2.2.1, n, .inr (.inr (.inr (.inr (fun j => some (C.2.1 (rfa i j)))))))) := by
  rw [jw_at C S (jsh_lt hs (by decide)), jcell_3 C S hs]
theorem jw_of4 {C : JC} {S : Sto} {i n : Nat} (hs : jsh i = (4, n)) : (jw C S)[i]? = some (C.2.1 i, .inl (C.2.2.2.2.2, n, .inr (.inr (.inr (.inr (fun j => some (C.2.1 (rfa i j)))))))) := by
  rw [jw_at C S (jsh_lt hs (by decide)), jcell_4 C S hs]
theorem j_iald (hE : Jok l C E own cc d) (hd : decode cc pc = .ok (.iaload, 1)) {i n : Nat} {x : Int32} (hs : jsh i = (1, n)) (hi : vp_in x n) (kk : J C E S (pc + 1) lv (.int (S i x.toNatClampNeg) :: st)) : J C E S pc lv (.int x :: .ref (C.2.1 i) :: st) := by
  obtain ⟨p, l0, e, R, s, m, args, below, meth, c, A, cells, slots, nL, Q⟩ := E
  obtain ⟨rfl, hx, hb, hml, hown, hts, hK, hN, hC, hA, hfr, hlo, hce, hsl⟩ := hE
  intro H locs ls hP hS hv
  exact va_iald hx hb hK hP i 0 (jw_of1 hs) rfl hi hd (kk H locs ls hP hS hv)
theorem j_ialdN (hE : Jok l C E own cc d) (hd : decode cc pc = .ok (.iaload, 1)) {i n x : Nat} (hs : jsh i = (1, n)) (hi : x < n) (hn : n < 2 ^ 31) (kk : J C E S (pc + 1) lv (.int (S i x) :: st)) : J C E S pc lv (.int (nI x) :: .ref (C.2.1 i) :: st) := by
  refine j_iald hE hd hs (vp_in_nI hi hn) ?_
  rw [nI_clamp (Nat.lt_trans hi hn)]
  exact kk
theorem j_iast (hE : Jok l C E own cc d) (hd : decode cc pc = .ok (.iastore, 1)) {i n : Nat} {x v : Int32} (hs : jsh i = (1, n)) (hi : vp_in x n) (kk : J C E (up2 S i x.toNatClampNeg v) (pc + 1) lv st) : J C E S pc lv (.int v :: .int x :: .ref (C.2.1 i) :: st) := by
  obtain ⟨p, l0, e, R, s, m, args, below, meth, c, A, cells, slots, nL, Q⟩ := E
  obtain ⟨rfl, hx, hb, hml, hown, hts, hK, hN, hC, hA, hfr, hlo, hce, hsl⟩ := hE
  intro H locs ls hP hS hv
  refine va_iast hx hb hK hP (jw_D C S hC hA) hS i 0 (jw_of1 hs) rfl hi hd (fun H1 locs1 hP1 _ hS1 => ?_)
  rw [jw_arr1 C S hs] at hP1
  exact kk H1 locs1 ls hP1 hS1 hv
theorem j_iastN (hE : Jok l C E own cc d) (hd : decode cc pc = .ok (.iastore, 1)) {i n x : Nat} {v : Int32} (hs : jsh i = (1, n)) (hi : x < n) (hn : n < 2 ^ 31) (kk : J C E (up2 S i x v) (pc + 1) lv st) : J C E S pc lv (.int v :: .int (nI x) :: .ref (C.2.1 i) :: st) := by
  refine j_iast hE hd hs (vp_in_nI hi hn) ?_
  rw [nI_clamp (Nat.lt_trans hi hn)]
  exact kk
theorem j_zald (hE : Jok l C E own cc d) (hd : decode cc pc = .ok (.baload, 1)) {i n : Nat} {x : Int32} (hs : jsh i = (2, n)) (hi : vp_in x n) (kk : J C E S (pc + 1) lv (.int (S i x.toNatClampNeg) :: st)) : J C E S pc lv (.int x :: .ref (C.2.1 i) :: st) := by
  obtain ⟨p, l0, e, R, s, m, args, below, meth, c, A, cells, slots, nL, Q⟩ := E
  obtain ⟨rfl, hx, hb, hml, hown, hts, hK, hN, hC, hA, hfr, hlo, hce, hsl⟩ := hE
  intro H locs ls hP hS hv
  exact va_zald hx hb hK hP i 1 (jw_of2 hs) rfl hi hd (kk H locs ls hP hS hv)
theorem j_zast (hE : Jok l C E own cc d) (hd : decode cc pc = .ok (.bastore, 1)) {i n : Nat} {x v : Int32} (hs : jsh i = (2, n)) (hi : vp_in x n) (hv0 : vp_nar .boolean v = v) (kk : J C E (up2 S i x.toNatClampNeg v) (pc + 1) lv st) : J C E S pc lv (.int v :: .int x :: .ref (C.2.1 i) :: st) := by
  obtain ⟨p, l0, e, R, s, m, args, below, meth, c, A, cells, slots, nL, Q⟩ := E
  obtain ⟨rfl, hx, hb, hml, hown, hts, hK, hN, hC, hA, hfr, hlo, hce, hsl⟩ := hE
  intro H locs ls hP hS hv
  refine va_zast hx hb hK hP (jw_D C S hC hA) hS i 1 (jw_of2 hs) rfl hi hd (fun H1 locs1 hP1 _ hS1 => ?_)
  rw [hv0, jw_arr2 C S hs] at hP1
  exact kk H1 locs1 ls hP1 hS1 hv
theorem j_aald3 (hE : Jok l C E own cc d) (hd : decode cc pc = .ok (.aaload, 1)) {i n j : Nat} {x : Int32} (hs : jsh i = (3, n)) (hi : vp_in x n) (hj : rfa i x.toNatClampNeg = j) (kk : J C E S (pc + 1) lv (.ref (C.2.1 j) :: st)) : J C E S pc lv (.int x :: .ref (C.2.1 i) :: st) := by
  obtain ⟨p, l0, e, R, s, m, args, below, meth, c, A, cells, slots, nL, Q⟩ := E
  obtain ⟨rfl, hx, hb, hml, hown, hts, hK, hN, hC, hA, hfr, hlo, hce, hsl⟩ := hE
  subst hj
  intro H locs ls hP hS hv
  exact va_aldq hx hb hK hP i 2 (jw_of3 hs) rfl hi hd (kk H locs ls hP hS hv)
theorem j_aald4 (hE : Jok l C E own cc d) (hd : decode cc pc = .ok (.aaload, 1)) {i n j : Nat} {x : Int32} (hs : jsh i = (4, n)) (hi : vp_in x n) (hj : rfa i x.toNatClampNeg = j) (kk : J C E S (pc + 1) lv (.ref (C.2.1 j) :: st)) : J C E S pc lv (.int x :: .ref (C.2.1 i) :: st) := by
  obtain ⟨p, l0, e, R, s, m, args, below, meth, c, A, cells, slots, nL, Q⟩ := E
  obtain ⟨rfl, hx, hb, hml, hown, hts, hK, hN, hC, hA, hfr, hlo, hce, hsl⟩ := hE
  subst hj
  intro H locs ls hP hS hv
  exact va_aldq hx hb hK hP i 3 (jw_of4 hs) rfl hi hd (kk H locs ls hP hS hv)
theorem j_alen (hE : Jok l C E own cc d) (hd : decode cc pc = .ok (.arraylength, 1)) {i n : Nat} (v : Int32) (hs : jsh i = (1, n)) (hv0 : Int32.ofNat n = v) (kk : J C E S (pc + 1) lv (.int v :: st)) : J C E S pc lv (.ref (C.2.1 i) :: st) := by
  obtain ⟨p, l0, e, R, s, m, args, below, meth, c, A, cells, slots, nL, Q⟩ := E
  obtain ⟨rfl, hx, hb, hml, hown, hts, hK, hN, hC, hA, hfr, hlo, hce, hsl⟩ := hE
  intro H locs ls hP hS hv
  exact va_alen hx hb hK hP i 0 (jw_of1 hs) rfl hv0 hd (kk H locs ls hP hS hv)
theorem j_alen3 (hE : Jok l C E own cc d) (hd : decode cc pc = .ok (.arraylength, 1)) {i n : Nat} (v : Int32) (hs : jsh i = (3, n)) (hv0 : Int32.ofNat n = v) (kk : J C E S (pc + 1) lv (.int v :: st)) : J C E S pc lv (.ref (C.2.1 i) :: st) := by
  obtain ⟨p, l0, e, R, s, m, args, below, meth, c, A, cells, slots, nL, Q⟩ := E
  obtain ⟨rfl, hx, hb, hml, hown, hts, hK, hN, hC, hA, hfr, hlo, hce, hsl⟩ := hE
  intro H locs ls hP hS hv
  exact va_alen hx hb hK hP i 2 (jw_of3 hs) rfl hv0 hd (kk H locs ls hP hS hv)
theorem j_alen4 (hE : Jok l C E own cc d) (hd : decode cc pc = .ok (.arraylength, 1)) {i n : Nat} (v : Int32) (hs : jsh i = (4, n)) (hv0 : Int32.ofNat n = v) (kk : J C E S (pc + 1) lv (.int v :: st)) : J C E S pc lv (.ref (C.2.1 i) :: st) := by
  obtain ⟨p, l0, e, R, s, m, args, below, meth, c, A, cells, slots, nL, Q⟩ := E
  obtain ⟨rfl, hx, hb, hml, hown, hts, hK, hN, hC, hA, hfr, hlo, hce, hsl⟩ := hE
  intro H locs ls hP hS hv
  exact va_alen hx hb hK hP i 3 (jw_of4 hs) rfl hv0 hd (kk H locs ls hP hS hv)
/-- the first N of f, then g -/
def cpN (N : Nat) (f g : Nat → Int32) : Nat → Int32 := fun k => if k < N then f k else g k
theorem cpN_eq (N : Nat) (f g : Nat → Int32) : va_cpy f g 0 0 N = cpN N f g := by
  funext k
  unfold va_cpy cpN
  simp
theorem j_copy (hE : Jok l C E own cc d) {idx : Nat} (hl : Cond.methodLink own idx arraycopyName ∈ WT) (hn1 : Cond.native arraycopyName ∈ WT) (hn2 : Cond.static arraycopyName ∈ WT) (hn3 : Cond.initialized "java/lang/System" ∈ WT) (hd : decode cc pc = .ok (.invokestatic idx, 3)) {a0 a1 n0 n1 : Nat} {n : Int32} (N : Nat) (hd1 : 1 ≤ d) (h0 : jsh a0 = (1, n0)) (h1 : jsh a1 = (1, n1)) (hNn : n.toNatClampNeg = N) (hp : ¬ n < 0) (h4 : N ≤ n0) (h5 : N ≤ n1) (kk : J C E (upA S a1 (cpN N (S a0) (S a1))) (pc + 3) lv []) : J C E S pc lv (.int n :: .int 0 :: .ref (C.2.1 a1) :: .int 0 :: .ref (C.2.1 a0) :: []) := by
  obtain ⟨p, l0, e, R, s, m, args, below, meth, c, A, cells, slots, nL, Q⟩ := E
  obtain ⟨rfl, hx, hb, hml, hown, hts, hK, hN, hC, hA, hfr, hlo, hce, hsl⟩ := hE
  intro H locs ls hP hS hv
  refine va_copyi hx hb (hml.trans hv.1.symm) hown (hts _ hl) (hts _ hn1) (hts _ hn2) (hts _ hn3) hK hP (jw_D C S hC hA) hS a0 a1 0 0 (jw_of1 h0) (jw_of1 h1) rfl rfl rfl (by decide) (by decide) hp (by rw [hNn]; show 0 + N ≤ n0; omega) (by rw [hNn]; show 0 + N ≤ n1; omega) (fun i _ => rfl) (Nat.le_trans hd1 hfr) (Nat.le_trans (by decide : _ ≤ 128) (Nat.le_trans (by omega : 128 ≤ 128 * d) hlo)) hd (fun H1 locs1 hP1 _ hS1 => ?_)
  rw [hNn, show (0 : Int32).toNatClampNeg = 0 from rfl, cpN_eq, jw_arr1 C S h1] at hP1
  exact kk H1 locs1 ls hP1 hS1 hv
/-! calls -/
theorem j_after {p : Program} {l0 : Launch} {e : Env} {R : Room} {s : State} {m : MethodId} {args : Array Value} {below : List Frame} {meth : Method} {c : Code} {A : Nat → Prop} {cells slots : Nat} {Q : State → Prop} {H : Heap} {locs : List Loc} {ls : Array Slot} {st0 rest : List Value} {a : Array Value} {v : Option Value} {S' : Sto}
    (hr : va_Run p l0 e R s m args below meth c H locs cells slots 0 0 (F0 m pc ls st0) rest (JQ C v S' a) (JA C)) (hS : va_S A s.heap H locs) (hA : ∀ i, i < NN → A (C.2.1 i))
    (kk : ∀ (H1 : Heap) (locs1 : List Loc), va_P C.1 jcls (jw C S') H1 → va_S A s.heap H1 locs1 → W p l0 e R s m args below meth c H1 locs1 cells slots Q (F0 m (pc + 3) ls (v.toList ++ rest))) : W p l0 e R s m args below meth c H locs cells slots Q (F0 m pc ls st0) := by
  intro T hT X
  obtain ⟨v', st₀, t, T', L, h0, X', hL, e1, e2, ⟨⟨hv, hb⟩, hz, hk⟩, st⟩ := hr T hT X
  cases hv
  rw [h0] at hz hk
  have hAA : ∀ q, JA C q → A q := fun q ⟨i, hi, e⟩ => e ▸ hA i hi
  obtain ⟨t2, a1, b1⟩ := kk T'.heap (locs ++ L) (by rw [e1]; exact hb)
    ⟨Nat.le_trans hS.1 (by rw [e1]; exact hz), fun q h1 h2 => by rw [e1, hk q (Nat.lt_of_lt_of_le h1 hS.1) (fun z => h2 (hAA q z))]; exact hS.2.1 q h1 h2, fun q hq => by
      rcases List.mem_append.mp hq with h | h
      · exact hS.2.2 q h
      · exact hAA _ (hL q h)⟩ T' rfl X'
  exact ⟨t2, st t2 a1, b1⟩
theorem JP_blind (C : JC) (S : Sto) (av : List Value) : FrameBlind (va_Pc av (JP C S)) := fun a U g mk q => by
  obtain ⟨q0, qP, qK, qN⟩ := q
  exact ⟨q0, qP, va_K.moved (u := U) (U := U.calling g mk a) (Vm.Alike.refl U.vm) qK, fun w hw => va_Nw.same (u := U) (U := U.calling g mk a) rfl rfl (qN w hw)⟩
theorem JP_pre {C : JC} {S : Sto} {av : List Value} {s : State} {H : Heap} (hK : va_K C.1 jcls (jty C) s) (hN : JN s) (hP : va_P C.1 jcls (jw C S) H) : ∀ U : State, U.heap = H → s.WarmedH U.vm → va_Pc av (JP C S) av.toArray U := fun U hU hW => ⟨rfl, by rw [hU]; exact hP, va_K.moved hW.alike hK, JN.warm hW hN⟩
theorem j_invS (hE : Jok l C E own cc d) {y : MethodName} {bytes : ByteArray} {nL' : Nat} {ret : Option FieldType} {d' n idx : Nat} {av rest : List Value} {v : Option Value} {S' : Sto} (hc : CS own idx y bytes nL' ret n) (hM : Con l C y bytes nL' ret d' av S v S') (hd : decode cc pc = .ok (.invokestatic idx, 3)) (hd' : d' + 1 ≤ d) (hn : av.length = n) (hr : (rest.map fun v => v.category).sum ≤ 8) (kk : J C E S' (pc + 3) lv (v.toList ++ rest)) : J C E S pc lv (av.reverse ++ rest) := by
  obtain ⟨p, l0, e, R, s, m, args, below, meth, c, A, cells, slots, nL, Q⟩ := E
  obtain ⟨rfl, hx, hb, hml, hown, hts, hK, hN, hC, hA, hfr, hlo, hce, hsl⟩ := hE
  obtain ⟨⟨c1, c2, c3, c4⟩, c5, c6⟩ := hc
  intro H locs ls hP hS hv
  exact j_after (va_runS (As := av) (rest := rest) (Ts := WT) ⟨hx, hb, rfl, hown, hts⟩ hM ⟨callB_of n hts (wt_self c1) rfl rfl rfl (hts _ c2) (hts _ c5) c3 ⟨Nat.le_trans hd' hfr, Nat.le_trans (by show 8 + (nL' + 11) + 128 * d' ≤ 128 * d; omega) hlo⟩, hts _ c6⟩ ⟨JP_blind C S av, JP_pre hK hN hP⟩ rfl hn (hv.1.trans hml.symm) rfl (lv_room hr) hd ⟨hce, hsl⟩) hS hA (fun H1 locs1 hP1 hS1 => kk H1 locs1 ls hP1 hS1 hv)
theorem j_invSN (hE : Jok l C E own cc d) {y : MethodName} {bytes : ByteArray} {nL' : Nat} {ret : Option FieldType} {d' n idx : Nat} {av rest : List Value} {v : Option Value} {S' : Sto} (hc : CSN own idx y bytes nL' ret n) (hM : Con l C y bytes nL' ret d' av S v S') (hd : decode cc pc = .ok (.invokestatic idx, 3)) (hd' : d' + 1 ≤ d) (hn : av.length = n) (hr : (rest.map fun v => v.category).sum ≤ 8) (kk : J C E S' (pc + 3) lv (v.toList ++ rest)) : J C E S pc lv (av.reverse ++ rest) := by
  obtain ⟨p, l0, e, R, s, m, args, below, meth, c, A, cells, slots, nL, Q⟩ := E
  obtain ⟨rfl, hx, hb, hml, hown, hts, hK, hN, hC, hA, hfr, hlo, hce, hsl⟩ := hE
  obtain ⟨⟨c1, c2, c3, c4⟩, c5, c6⟩ := hc
  intro H locs ls hP hS hv
  exact j_after (va_runSN (As := av) (rest := rest) (Ts := WT) ⟨hx, hb, rfl, hown, hts⟩ hM ⟨va_cnB n hts (wt_self c1) rfl rfl rfl (hN _ c5) (hts _ c2) c3 ⟨Nat.le_trans hd' hfr, Nat.le_trans (by show 8 + (nL' + 11) + 128 * d' ≤ 128 * d; omega) hlo⟩, hts _ c6, trivial⟩ ⟨JP_blind C S av, JP_pre hK hN hP⟩ rfl hn (hv.1.trans hml.symm) rfl (lv_room hr) hd ⟨hce, hsl⟩) hS hA (fun H1 locs1 hP1 hS1 => kk H1 locs1 ls hP1 hS1 hv)
theorem j_invV (hE : Jok l C E own cc d) {y : MethodName} {bytes : ByteArray} {nL' : Nat} {ret : Option FieldType} {d' n idx ci i : Nat} {av rest : List Value} {v : Option Value} {S' : Sto} (hc : CV own idx y bytes nL' ret n ci) (hM : Con l C y bytes nL' ret d' (.ref (C.2.1 i) :: av) S v S') (hd : decode cc pc = .ok (.invokevirtual idx, 3)) (hs : jsh i = (0, ci)) (hd' : d' + 1 ≤ d) (hn : av.length = n) (hr : (rest.map fun v => v.category).sum ≤ 8) (kk : J C E S' (pc + 3) lv (v.toList ++ rest)) : J C E S pc lv (av.reverse ++ .ref (C.2.1 i) :: rest) := by
  obtain ⟨p, l0, e, R, s, m, args, below, meth, c, A, cells, slots, nL, Q⟩ := E
  obtain ⟨rfl, hx, hb, hml, hown, hts, hK, hN, hC, hA, hfr, hlo, hce, hsl⟩ := hE
  obtain ⟨⟨c1, c2, c3, c4⟩, c5, c6, c7, c8, c9⟩ := hc
  intro H locs ls hP hS hv
  exact j_after (va_runV (C := y.cls) (As := av) (rest := rest) (Ts := WT) ⟨hx, hb, rfl, hown, hts⟩ hM ⟨callB_of n hts (wt_self c1) rfl rfl rfl (hts _ c2) (hts _ c5) c3 ⟨Nat.le_trans hd' hfr, Nat.le_trans (by show 8 + (nL' + 11) + 128 * d' ≤ 128 * d; omega) hlo⟩, hts _ c6, hts _ c7⟩ ⟨JP_blind C S _, by rw [← c9]; exact va_recv hK hP (jT_lt c8) (jw_ofs hs), JP_pre (av := .ref (C.2.1 i) :: av) hK hN hP⟩ rfl hn (hv.1.trans hml.symm) rfl (lv_room hr) hd ⟨hce, hsl⟩) hS hA (fun H1 locs1 hP1 hS1 => kk H1 locs1 ls hP1 hS1 hv)
/-! returns -/
theorem j_iret (hE : Jok l C E own cc d) {r r' : Int32} {S' : Sto} (hR : Jret C E cc (some .int) (some (.int r')) S') (hd : decode cc pc = .ok (.ireturn, 1)) (hr : r = r') (hS' : S = S') : J C E S pc lv [.int r] := by
  obtain ⟨p, l0, e, R, s, m, args, below, meth, c, A, cells, slots, nL, Q⟩ := E
  subst hr
  subst hS'
  intro H locs ls hP hS hv
  exact hR.1 r .int H locs ls pc rfl rfl (vp_nar_int r) hP hS hd
theorem j_zret (hE : Jok l C E own cc d) {r r' : Int32} {S' : Sto} (hR : Jret C E cc (some .boolean) (some (.int r')) S') (hd : decode cc pc = .ok (.ireturn, 1)) (hr : r = r') (hS' : S = S') (hn : narrow .boolean (.int r') = .int r') : J C E S pc lv [.int r] := by
  obtain ⟨p, l0, e, R, s, m, args, below, meth, c, A, cells, slots, nL, Q⟩ := E
  subst hr
  subst hS'
  intro H locs ls hP hS hv
  exact hR.1 r .boolean H locs ls pc rfl rfl hn hP hS hd
theorem j_vret (hE : Jok l C E own cc d) {S' : Sto} (hR : Jret C E cc none none S') (hd : decode cc pc = .ok (.return_, 1)) (hS' : S = S') : J C E S pc lv [] := by
  obtain ⟨p, l0, e, R, s, m, args, below, meth, c, A, cells, slots, nL, Q⟩ := E
  subst hS'
  intro H locs ls hP hS hv
  exact hR.2 H locs ls pc rfl rfl hP hS hd
theorem j_eqS {S' : Sto} (h : S = S') (k : J C E S' pc lv st) : J C E S pc lv st := h ▸ k
theorem j_top {x y : Int32} (h : x = y) (k : J C E S pc lv (.int y :: st)) : J C E S pc lv (.int x :: st) := h ▸ k
theorem j_inj (hE : Jok l C E own cc d) : JInj C := by
  obtain ⟨p, l0, e, R, s, m, args, below, meth, c, A, cells, slots, nL, Q⟩ := E
  obtain ⟨rfl, hx, hb, hml, hown, hts, hK, hN, hC, hA, hfr, hlo, hce, hsl⟩ := hE
  exact hC
theorem nar_b {c : Prop} [Decidable c] : narrow .boolean (.int (if c then 1 else 0)) = .int (if c then 1 else 0) := by
  by_cases h : c
  · rw [if_pos h]; rfl
  · rw [if_neg h]; rfl
theorem j_S0i (hE : Jok l C E own cc d) {y : MethodName} {bytes : ByteArray} {nL' : Nat} {ret : Option FieldType} {d' idx : Nat} {rest : List Value} {r : Int32} {S' : Sto} (hc : CS own idx y bytes nL' ret 0) (hM : Con l C y bytes nL' ret d' [] S (some (.int r)) S') (hd : decode cc pc = .ok (.invokestatic idx, 3)) (hd' : d' + 1 ≤ d) (hr : (rest.map fun v => v.category).sum ≤ 8) (kk : J C E S' (pc + 3) lv (.int r :: rest)) : J C E S pc lv (rest) := j_invS hE hc hM hd hd' rfl hr kk
theorem j_S0v (hE : Jok l C E own cc d) {y : MethodName} {bytes : ByteArray} {nL' : Nat} {ret : Option FieldType} {d' idx : Nat} {rest : List Value} {S' : Sto} (hc : CS own idx y bytes nL' ret 0) (hM : Con l C y bytes nL' ret d' [] S none S') (hd : decode cc pc = .ok (.invokestatic idx, 3)) (hd' : d' + 1 ≤ d) (hr : (rest.map fun v => v.category).sum ≤ 8) (kk : J C E S' (pc + 3) lv (rest)) : J C E S pc lv (rest) := j_invS hE hc hM hd hd' rfl hr kk
theorem j_SN0i (hE : Jok l C E own cc d) {y : MethodName} {bytes : ByteArray} {nL' : Nat} {ret : Option FieldType} {d' idx : Nat} {rest : List Value} {r : Int32} {S' : Sto} (hc : CSN own idx y bytes nL' ret 0) (hM : Con l C y bytes nL' ret d' [] S (some (.int r)) S') (hd : decode cc pc = .ok (.invokestatic idx, 3)) (hd' : d' + 1 ≤ d) (hr : (rest.map fun v => v.category).sum ≤ 8) (kk : J C E S' (pc + 3) lv (.int r :: rest)) : J C E S pc lv (rest) := j_invSN hE hc hM hd hd' rfl hr kk
theorem j_SN0v (hE : Jok l C E own cc d) {y : MethodName} {bytes : ByteArray} {nL' : Nat} {ret : Option FieldType} {d' idx : Nat} {rest : List Value} {S' : Sto} (hc : CSN own idx y bytes nL' ret 0) (hM : Con l C y bytes nL' ret d' [] S none S') (hd : decode cc pc = .ok (.invokestatic idx, 3)) (hd' : d' + 1 ≤ d) (hr : (rest.map fun v => v.category).sum ≤ 8) (kk : J C E S' (pc + 3) lv (rest)) : J C E S pc lv (rest) := j_invSN hE hc hM hd hd' rfl hr kk
theorem j_V0i (hE : Jok l C E own cc d) {y : MethodName} {bytes : ByteArray} {nL' : Nat} {ret : Option FieldType} {d' idx ci i : Nat} {rest : List Value} {r : Int32} {S' : Sto} (hc : CV own idx y bytes nL' ret 0 ci) (hM : Con l C y bytes nL' ret d' [.ref (C.2.1 i)] S (some (.int r)) S') (hd : decode cc pc = .ok (.invokevirtual idx, 3)) (hs : jsh i = (0, ci)) (hd' : d' + 1 ≤ d) (hr : (rest.map fun v => v.category).sum ≤ 8) (kk : J C E S' (pc + 3) lv (.int r :: rest)) : J C E S pc lv (.ref (C.2.1 i) :: rest) := j_invV hE hc hM hd hs hd' rfl hr kk
theorem j_V0v (hE : Jok l C E own cc d) {y : MethodName} {bytes : ByteArray} {nL' : Nat} {ret : Option FieldType} {d' idx ci i : Nat} {rest : List Value} {S' : Sto} (hc : CV own idx y bytes nL' ret 0 ci) (hM : Con l C y bytes nL' ret d' [.ref (C.2.1 i)] S none S') (hd : decode cc pc = .ok (.invokevirtual idx, 3)) (hs : jsh i = (0, ci)) (hd' : d' + 1 ≤ d) (hr : (rest.map fun v => v.category).sum ≤ 8) (kk : J C E S' (pc + 3) lv (rest)) : J C E S pc lv (.ref (C.2.1 i) :: rest) := j_invV hE hc hM hd hs hd' rfl hr kk
theorem j_S1i (hE : Jok l C E own cc d) {y : MethodName} {bytes : ByteArray} {nL' : Nat} {ret : Option FieldType} {d' idx : Nat} {x0 : Value} {rest : List Value} {r : Int32} {S' : Sto} (hc : CS own idx y bytes nL' ret 1) (hM : Con l C y bytes nL' ret d' [x0] S (some (.int r)) S') (hd : decode cc pc = .ok (.invokestatic idx, 3)) (hd' : d' + 1 ≤ d) (hr : (rest.map fun v => v.category).sum ≤ 8) (kk : J C E S' (pc + 3) lv (.int r :: rest)) : J C E S pc lv (x0 :: rest) := j_invS hE hc hM hd hd' rfl hr kk
theorem j_S1v (hE : Jok l C E own cc d) {y : MethodName} {bytes : ByteArray} {nL' : Nat} {ret : Option FieldType} {d' idx : Nat} {x0 : Value} {rest : List Value} {S' : Sto} (hc : CS own idx y bytes nL' ret 1) (hM : Con l C y bytes nL' ret d' [x0] S none S') (hd : decode cc pc = .ok (.invokestatic idx, 3)) (hd' : d' + 1 ≤ d) (hr : (rest.map fun v => v.category).sum ≤ 8) (kk : J C E S' (pc + 3) lv (rest)) : J C E S pc lv (x0 :: rest) := j_invS hE hc hM hd hd' rfl hr kk
theorem j_SN1i (hE : Jok l C E own cc d) {y : MethodName} {bytes : ByteArray} {nL' : Nat} {ret : Option FieldType} {d' idx : Nat} {x0 : Value} {rest : List Value} {r : Int32} {S' : Sto} (hc : CSN own idx y bytes nL' ret 1) (hM : Con l C y bytes nL' ret d' [x0] S (some (.int r)) S') (hd : decode cc pc = .ok (.invokestatic idx, 3)) (hd' : d' + 1 ≤ d) (hr : (rest.map fun v => v.category).sum ≤ 8) (kk : J C E S' (pc + 3) lv (.int r :: rest)) : J C E S pc lv (x0 :: rest) := j_invSN hE hc hM hd hd' rfl hr kk
theorem j_SN1v (hE : Jok l C E own cc d) {y : MethodName} {bytes : ByteArray} {nL' : Nat} {ret : Option FieldType} {d' idx : Nat} {x0 : Value} {rest : List Value} {S' : Sto} (hc : CSN own idx y bytes nL' ret 1) (hM : Con l C y bytes nL' ret d' [x0] S none S') (hd : decode cc pc = .ok (.invokestatic idx, 3)) (hd' : d' + 1 ≤ d) (hr : (rest.map fun v => v.category).sum ≤ 8) (kk : J C E S' (pc + 3) lv (rest)) : J C E S pc lv (x0 :: rest) := j_invSN hE hc hM hd hd' rfl hr kk
theorem j_V1i (hE : Jok l C E own cc d) {y : MethodName} {bytes : ByteArray} {nL' : Nat} {ret : Option FieldType} {d' idx ci i : Nat} {x0 : Value} {rest : List Value} {r : Int32} {S' : Sto} (hc : CV own idx y bytes nL' ret 1 ci) (hM : Con l C y bytes nL' ret d' [.ref (C.2.1 i), x0] S (some (.int r)) S') (hd : decode cc pc = .ok (.invokevirtual idx, 3)) (hs : jsh i = (0, ci)) (hd' : d' + 1 ≤ d) (hr : (rest.map fun v => v.category).sum ≤ 8) (kk : J C E S' (pc + 3) lv (.int r :: rest)) : J C E S pc lv (x0 :: .ref (C.2.1 i) :: rest) := j_invV hE hc hM hd hs hd' rfl hr kk
theorem j_V1v (hE : Jok l C E own cc d) {y : MethodName} {bytes : ByteArray} {nL' : Nat} {ret : Option FieldType} {d' idx ci i : Nat} {x0 : Value} {rest : List Value} {S' : Sto} (hc : CV own idx y bytes nL' ret 1 ci) (hM : Con l C y bytes nL' ret d' [.ref (C.2.1 i), x0] S none S') (hd : decode cc pc = .ok (.invokevirtual idx, 3)) (hs : jsh i = (0, ci)) (hd' : d' + 1 ≤ d) (hr : (rest.map fun v => v.category).sum ≤ 8) (kk : J C E S' (pc + 3) lv (rest)) : J C E S pc lv (x0 :: .ref (C.2.1 i) :: rest) := j_invV hE hc hM hd hs hd' rfl hr kk
theorem j_S2i (hE : Jok l C E own cc d) {y : MethodName} {bytes : ByteArray} {nL' : Nat} {ret : Option FieldType} {d' idx : Nat} {x0 x1 : Value} {rest : List Value} {r : Int32} {S' : Sto} (hc : CS own idx y bytes nL' ret 2) (hM : Con l C y bytes nL' ret d' [x0, x1] S (some (.int r)) S') (hd : decode cc pc = .ok (.invokestatic idx, 3)) (hd' : d' + 1 ≤ d) (hr : (rest.map fun v => v.category).sum ≤ 8) (kk : J C E S' (pc + 3) lv (.int r :: rest)) : J C E S pc lv (x1 :: x0 :: rest) := j_invS hE hc hM hd hd' rfl hr kk
theorem j_S2v (hE : Jok l C E own cc d) {y : MethodName} {bytes : ByteArray} {nL' : Nat} {ret : Option FieldType} {d' idx : Nat} {x0 x1 : Value} {rest : List Value} {S' : Sto} (hc : CS own idx y bytes nL' ret 2) (hM : Con l C y bytes nL' ret d' [x0, x1] S none S') (hd : decode cc pc = .ok (.invokestatic idx, 3)) (hd' : d' + 1 ≤ d) (hr : (rest.map fun v => v.category).sum ≤ 8) (kk : J C E S' (pc + 3) lv (rest)) : J C E S pc lv (x1 :: x0 :: rest) := j_invS hE hc hM hd hd' rfl hr kk
theorem j_SN2i (hE : Jok l C E own cc d) {y : MethodName} {bytes : ByteArray} {nL' : Nat} {ret : Option FieldType} {d' idx : Nat} {x0 x1 : Value} {rest : List Value} {r : Int32} {S' : Sto} (hc : CSN own idx y bytes nL' ret 2) (hM : Con l C y bytes nL' ret d' [x0, x1] S (some (.int r)) S') (hd : decode cc pc = .ok (.invokestatic idx, 3)) (hd' : d' + 1 ≤ d) (hr : (rest.map fun v => v.category).sum ≤ 8) (kk : J C E S' (pc + 3) lv (.int r :: rest)) : J C E S pc lv (x1 :: x0 :: rest) := j_invSN hE hc hM hd hd' rfl hr kk
theorem j_SN2v (hE : Jok l C E own cc d) {y : MethodName} {bytes : ByteArray} {nL' : Nat} {ret : Option FieldType} {d' idx : Nat} {x0 x1 : Value} {rest : List Value} {S' : Sto} (hc : CSN own idx y bytes nL' ret 2) (hM : Con l C y bytes nL' ret d' [x0, x1] S none S') (hd : decode cc pc = .ok (.invokestatic idx, 3)) (hd' : d' + 1 ≤ d) (hr : (rest.map fun v => v.category).sum ≤ 8) (kk : J C E S' (pc + 3) lv (rest)) : J C E S pc lv (x1 :: x0 :: rest) := j_invSN hE hc hM hd hd' rfl hr kk
theorem j_V2i (hE : Jok l C E own cc d) {y : MethodName} {bytes : ByteArray} {nL' : Nat} {ret : Option FieldType} {d' idx ci i : Nat} {x0 x1 : Value} {rest : List Value} {r : Int32} {S' : Sto} (hc : CV own idx y bytes nL' ret 2 ci) (hM : Con l C y bytes nL' ret d' [.ref (C.2.1 i), x0, x1] S (some (.int r)) S') (hd : decode cc pc = .ok (.invokevirtual idx, 3)) (hs : jsh i = (0, ci)) (hd' : d' + 1 ≤ d) (hr : (rest.map fun v => v.category).sum ≤ 8) (kk : J C E S' (pc + 3) lv (.int r :: rest)) : J C E S pc lv (x1 :: x0 :: .ref (C.2.1 i) :: rest) := j_invV hE hc hM hd hs hd' rfl hr kk
theorem j_V2v (hE : Jok l C E own cc d) {y : MethodName} {bytes : ByteArray} {nL' : Nat} {ret : Option FieldType} {d' idx ci i : Nat} {x0 x1 : Value} {rest : List Value} {S' : Sto} (hc : CV own idx y bytes nL' ret 2 ci) (hM : Con l C y bytes nL' ret d' [.ref (C.2.1 i), x0, x1] S none S') (hd : decode cc pc = .ok (.invokevirtual idx, 3)) (hs : jsh i = (0, ci)) (hd' : d' + 1 ≤ d) (hr : (rest.map fun v => v.category).sum ≤ 8) (kk : J C E S' (pc + 3) lv (rest)) : J C E S pc lv (x1 :: x0 :: .ref (C.2.1 i) :: rest) := j_invV hE hc hM hd hs hd' rfl hr kk
theorem j_S3i (hE : Jok l C E own cc d) {y : MethodName} {bytes : ByteArray} {nL' : Nat} {ret : Option FieldType} {d' idx : Nat} {x0 x1 x2 : Value} {rest : List Value} {r : Int32} {S' : Sto} (hc : CS own idx y bytes nL' ret 3) (hM : Con l C y bytes nL' ret d' [x0, x1, x2] S (some (.int r)) S') (hd : decode cc pc = .ok (.invokestatic idx, 3)) (hd' : d' + 1 ≤ d) (hr : (rest.map fun v => v.category).sum ≤ 8) (kk : J C E S' (pc + 3) lv (.int r :: rest)) : J C E S pc lv (x2 :: x1 :: x0 :: rest) := j_invS hE hc hM hd hd' rfl hr kk
theorem j_S3v (hE : Jok l C E own cc d) {y : MethodName} {bytes : ByteArray} {nL' : Nat} {ret : Option FieldType} {d' idx : Nat} {x0 x1 x2 : Value} {rest : List Value} {S' : Sto} (hc : CS own idx y bytes nL' ret 3) (hM : Con l C y bytes nL' ret d' [x0, x1, x2] S none S') (hd : decode cc pc = .ok (.invokestatic idx, 3)) (hd' : d' + 1 ≤ d) (hr : (rest.map fun v => v.category).sum ≤ 8) (kk : J C E S' (pc + 3) lv (rest)) : J C E S pc lv (x2 :: x1 :: x0 :: rest) := j_invS hE hc hM hd hd' rfl hr kk
theorem j_SN3i (hE : Jok l C E own cc d) {y : MethodName} {bytes : ByteArray} {nL' : Nat} {ret : Option FieldType} {d' idx : Nat} {x0 x1 x2 : Value} {rest : List Value} {r : Int32} {S' : Sto} (hc : CSN own idx y bytes nL' ret 3) (hM : Con l C y bytes nL' ret d' [x0, x1, x2] S (some (.int r)) S') (hd : decode cc pc = .ok (.invokestatic idx, 3)) (hd' : d' + 1 ≤ d) (hr : (rest.map fun v => v.category).sum ≤ 8) (kk : J C E S' (pc + 3) lv (.int r :: rest)) : J C E S pc lv (x2 :: x1 :: x0 :: rest) := j_invSN hE hc hM hd hd' rfl hr kk
theorem j_SN3v (hE : Jok l C E own cc d) {y : MethodName} {bytes : ByteArray} {nL' : Nat} {ret : Option FieldType} {d' idx : Nat} {x0 x1 x2 : Value} {rest : List Value} {S' : Sto} (hc : CSN own idx y bytes nL' ret 3) (hM : Con l C y bytes nL' ret d' [x0, x1, x2] S none S') (hd : decode cc pc = .ok (.invokestatic idx, 3)) (hd' : d' + 1 ≤ d) (hr : (rest.map fun v => v.category).sum ≤ 8) (kk : J C E S' (pc + 3) lv (rest)) : J C E S pc lv (x2 :: x1 :: x0 :: rest) := j_invSN hE hc hM hd hd' rfl hr kk
theorem j_V3i (hE : Jok l C E own cc d) {y : MethodName} {bytes : ByteArray} {nL' : Nat} {ret : Option FieldType} {d' idx ci i : Nat} {x0 x1 x2 : Value} {rest : List Value} {r : Int32} {S' : Sto} (hc : CV own idx y bytes nL' ret 3 ci) (hM : Con l C y bytes nL' ret d' [.ref (C.2.1 i), x0, x1, x2] S (some (.int r)) S') (hd : decode cc pc = .ok (.invokevirtual idx, 3)) (hs : jsh i = (0, ci)) (hd' : d' + 1 ≤ d) (hr : (rest.map fun v => v.category).sum ≤ 8) (kk : J C E S' (pc + 3) lv (.int r :: rest)) : J C E S pc lv (x2 :: x1 :: x0 :: .ref (C.2.1 i) :: rest) := j_invV hE hc hM hd hs hd' rfl hr kk
theorem j_V3v (hE : Jok l C E own cc d) {y : MethodName} {bytes : ByteArray} {nL' : Nat} {ret : Option FieldType} {d' idx ci i : Nat} {x0 x1 x2 : Value} {rest : List Value} {S' : Sto} (hc : CV own idx y bytes nL' ret 3 ci) (hM : Con l C y bytes nL' ret d' [.ref (C.2.1 i), x0, x1, x2] S none S') (hd : decode cc pc = .ok (.invokevirtual idx, 3)) (hs : jsh i = (0, ci)) (hd' : d' + 1 ≤ d) (hr : (rest.map fun v => v.category).sum ≤ 8) (kk : J C E S' (pc + 3) lv (rest)) : J C E S pc lv (x2 :: x1 :: x0 :: .ref (C.2.1 i) :: rest) := j_invV hE hc hM hd hs hd' rfl hr kk
theorem j_S4i (hE : Jok l C E own cc d) {y : MethodName} {bytes : ByteArray} {nL' : Nat} {ret : Option FieldType} {d' idx : Nat} {x0 x1 x2 x3 : Value} {rest : List Value} {r : Int32} {S' : Sto} (hc : CS own idx y bytes nL' ret 4) (hM : Con l C y bytes nL' ret d' [x0, x1, x2, x3] S (some (.int r)) S') (hd : decode cc pc = .ok (.invokestatic idx, 3)) (hd' : d' + 1 ≤ d) (hr : (rest.map fun v => v.category).sum ≤ 8) (kk : J C E S' (pc + 3) lv (.int r :: rest)) : J C E S pc lv (x3 :: x2 :: x1 :: x0 :: rest) := j_invS hE hc hM hd hd' rfl hr kk
theorem j_S4v (hE : Jok l C E own cc d) {y : MethodName} {bytes : ByteArray} {nL' : Nat} {ret : Option FieldType} {d' idx : Nat} {x0 x1 x2 x3 : Value} {rest : List Value} {S' : Sto} (hc : CS own idx y bytes nL' ret 4) (hM : Con l C y bytes nL' ret d' [x0, x1, x2, x3] S none S') (hd : decode cc pc = .ok (.invokestatic idx, 3)) (hd' : d' + 1 ≤ d) (hr : (rest.map fun v => v.category).sum ≤ 8) (kk : J C E S' (pc + 3) lv (rest)) : J C E S pc lv (x3 :: x2 :: x1 :: x0 :: rest) := j_invS hE hc hM hd hd' rfl hr kk
theorem j_SN4i (hE : Jok l C E own cc d) {y : MethodName} {bytes : ByteArray} {nL' : Nat} {ret : Option FieldType} {d' idx : Nat} {x0 x1 x2 x3 : Value} {rest : List Value} {r : Int32} {S' : Sto} (hc : CSN own idx y bytes nL' ret 4) (hM : Con l C y bytes nL' ret d' [x0, x1, x2, x3] S (some (.int r)) S') (hd : decode cc pc = .ok (.invokestatic idx, 3)) (hd' : d' + 1 ≤ d) (hr : (rest.map fun v => v.category).sum ≤ 8) (kk : J C E S' (pc + 3) lv (.int r :: rest)) : J C E S pc lv (x3 :: x2 :: x1 :: x0 :: rest) := j_invSN hE hc hM hd hd' rfl hr kk
theorem j_SN4v (hE : Jok l C E own cc d) {y : MethodName} {bytes : ByteArray} {nL' : Nat} {ret : Option FieldType} {d' idx : Nat} {x0 x1 x2 x3 : Value} {rest : List Value} {S' : Sto} (hc : CSN own idx y bytes nL' ret 4) (hM : Con l C y bytes nL' ret d' [x0, x1, x2, x3] S none S') (hd : decode cc pc = .ok (.invokestatic idx, 3)) (hd' : d' + 1 ≤ d) (hr : (rest.map fun v => v.category).sum ≤ 8) (kk : J C E S' (pc + 3) lv (rest)) : J C E S pc lv (x3 :: x2 :: x1 :: x0 :: rest) := j_invSN hE hc hM hd hd' rfl hr kk
theorem j_V4i (hE : Jok l C E own cc d) {y : MethodName} {bytes : ByteArray} {nL' : Nat} {ret : Option FieldType} {d' idx ci i : Nat} {x0 x1 x2 x3 : Value} {rest : List Value} {r : Int32} {S' : Sto} (hc : CV own idx y bytes nL' ret 4 ci) (hM : Con l C y bytes nL' ret d' [.ref (C.2.1 i), x0, x1, x2, x3] S (some (.int r)) S') (hd : decode cc pc = .ok (.invokevirtual idx, 3)) (hs : jsh i = (0, ci)) (hd' : d' + 1 ≤ d) (hr : (rest.map fun v => v.category).sum ≤ 8) (kk : J C E S' (pc + 3) lv (.int r :: rest)) : J C E S pc lv (x3 :: x2 :: x1 :: x0 :: .ref (C.2.1 i) :: rest) := j_invV hE hc hM hd hs hd' rfl hr kk
theorem j_V4v (hE : Jok l C E own cc d) {y : MethodName} {bytes : ByteArray} {nL' : Nat} {ret : Option FieldType} {d' idx ci i : Nat} {x0 x1 x2 x3 : Value} {rest : List Value} {S' : Sto} (hc : CV own idx y bytes nL' ret 4 ci) (hM : Con l C y bytes nL' ret d' [.ref (C.2.1 i), x0, x1, x2, x3] S none S') (hd : decode cc pc = .ok (.invokevirtual idx, 3)) (hs : jsh i = (0, ci)) (hd' : d' + 1 ≤ d) (hr : (rest.map fun v => v.category).sum ≤ 8) (kk : J C E S' (pc + 3) lv (rest)) : J C E S pc lv (x3 :: x2 :: x1 :: x0 :: .ref (C.2.1 i) :: rest) := j_invV hE hc hM hd hs hd' rfl hr kk
theorem j_S5i (hE : Jok l C E own cc d) {y : MethodName} {bytes : ByteArray} {nL' : Nat} {ret : Option FieldType} {d' idx : Nat} {x0 x1 x2 x3 x4 : Value} {rest : List Value} {r : Int32} {S' : Sto} (hc : CS own idx y bytes nL' ret 5) (hM : Con l C y bytes nL' ret d' [x0, x1, x2, x3, x4] S (some (.int r)) S') (hd : decode cc pc = .ok (.invokestatic idx, 3)) (hd' : d' + 1 ≤ d) (hr : (rest.map fun v => v.category).sum ≤ 8) (kk : J C E S' (pc + 3) lv (.int r :: rest)) : J C E S pc lv (x4 :: x3 :: x2 :: x1 :: x0 :: rest) := j_invS hE hc hM hd hd' rfl hr kk
theorem j_S5v (hE : Jok l C E own cc d) {y : MethodName} {bytes : ByteArray} {nL' : Nat} {ret : Option FieldType} {d' idx : Nat} {x0 x1 x2 x3 x4 : Value} {rest : List Value} {S' : Sto} (hc : CS own idx y bytes nL' ret 5) (hM : Con l C y bytes nL' ret d' [x0, x1, x2, x3, x4] S none S') (hd : decode cc pc = .ok (.invokestatic idx, 3)) (hd' : d' + 1 ≤ d) (hr : (rest.map fun v => v.category).sum ≤ 8) (kk : J C E S' (pc + 3) lv (rest)) : J C E S pc lv (x4 :: x3 :: x2 :: x1 :: x0 :: rest) := j_invS hE hc hM hd hd' rfl hr kk
theorem j_SN5i (hE : Jok l C E own cc d) {y : MethodName} {bytes : ByteArray} {nL' : Nat} {ret : Option FieldType} {d' idx : Nat} {x0 x1 x2 x3 x4 : Value} {rest : List Value} {r : Int32} {S' : Sto} (hc : CSN own idx y bytes nL' ret 5) (hM : Con l C y bytes nL' ret d' [x0, x1, x2, x3, x4] S (some (.int r)) S') (hd : decode cc pc = .ok (.invokestatic idx, 3)) (hd' : d' + 1 ≤ d) (hr : (rest.map fun v => v.category).sum ≤ 8) (kk : J C E S' (pc + 3) lv (.int r :: rest)) : J C E S pc lv (x4 :: x3 :: x2 :: x1 :: x0 :: rest) := j_invSN hE hc hM hd hd' rfl hr kk
theorem j_SN5v (hE : Jok l C E own cc d) {y : MethodName} {bytes : ByteArray} {nL' : Nat} {ret : Option FieldType} {d' idx : Nat} {x0 x1 x2 x3 x4 : Value} {rest : List Value} {S' : Sto} (hc : CSN own idx y bytes nL' ret 5) (hM : Con l C y bytes nL' ret d' [x0, x1, x2, x3, x4] S none S') (hd : decode cc pc = .ok (.invokestatic idx, 3)) (hd' : d' + 1 ≤ d) (hr : (rest.map fun v => v.category).sum ≤ 8) (kk : J C E S' (pc + 3) lv (rest)) : J C E S pc lv (x4 :: x3 :: x2 :: x1 :: x0 :: rest) := j_invSN hE hc hM hd hd' rfl hr kk
theorem j_V5i (hE : Jok l C E own cc d) {y : MethodName} {bytes : ByteArray} {nL' : Nat} {ret : Option FieldType} {d' idx ci i : Nat} {x0 x1 x2 x3 x4 : Value} {rest : List Value} {r : Int32} {S' : Sto} (hc : CV own idx y bytes nL' ret 5 ci) (hM : Con l C y bytes nL' ret d' [.ref (C.2.1 i), x0, x1, x2, x3, x4] S (some (.int r)) S') (hd : decode cc pc = .ok (.invokevirtual idx, 3)) (hs : jsh i = (0, ci)) (hd' : d' + 1 ≤ d) (hr : (rest.map fun v => v.category).sum ≤ 8) (kk : J C E S' (pc + 3) lv (.int r :: rest)) : J C E S pc lv (x4 :: x3 :: x2 :: x1 :: x0 :: .ref (C.2.1 i) :: rest) := j_invV hE hc hM hd hs hd' rfl hr kk
theorem j_V5v (hE : Jok l C E own cc d) {y : MethodName} {bytes : ByteArray} {nL' : Nat} {ret : Option FieldType} {d' idx ci i : Nat} {x0 x1 x2 x3 x4 : Value} {rest : List Value} {S' : Sto} (hc : CV own idx y bytes nL' ret 5 ci) (hM : Con l C y bytes nL' ret d' [.ref (C.2.1 i), x0, x1, x2, x3, x4] S none S') (hd : decode cc pc = .ok (.invokevirtual idx, 3)) (hs : jsh i = (0, ci)) (hd' : d' + 1 ≤ d) (hr : (rest.map fun v => v.category).sum ≤ 8) (kk : J C E S' (pc + 3) lv (rest)) : J C E S pc lv (x4 :: x3 :: x2 :: x1 :: x0 :: .ref (C.2.1 i) :: rest) := j_invV hE hc hM hd hs hd' rfl hr kk
theorem j_S6i (hE : Jok l C E own cc d) {y : MethodName} {bytes : ByteArray} {nL' : Nat} {ret : Option FieldType} {d' idx : Nat} {x0 x1 x2 x3 x4 x5 : Value} {rest : List Value} {r : Int32} {S' : Sto} (hc : CS own idx y bytes nL' ret 6) (hM : Con l C y bytes nL' ret d' [x0, x1, x2, x3, x4, x5] S (some (.int r)) S') (hd : decode cc pc = .ok (.invokestatic idx, 3)) (hd' : d' + 1 ≤ d) (hr : (rest.map fun v => v.category).sum ≤ 8) (kk : J C E S' (pc + 3) lv (.int r :: rest)) : J C E S pc lv (x5 :: x4 :: x3 :: x2 :: x1 :: x0 :: rest) := j_invS hE hc hM hd hd' rfl hr kk
theorem j_S6v (hE : Jok l C E own cc d) {y : MethodName} {bytes : ByteArray} {nL' : Nat} {ret : Option FieldType} {d' idx : Nat} {x0 x1 x2 x3 x4 x5 : Value} {rest : List Value} {S' : Sto} (hc : CS own idx y bytes nL' ret 6) (hM : Con l C y bytes nL' ret d' [x0, x1, x2, x3, x4, x5] S none S') (hd : decode cc pc = .ok (.invokestatic idx, 3)) (hd' : d' + 1 ≤ d) (hr : (rest.map fun v => v.category).sum ≤ 8) (kk : J C E S' (pc + 3) lv (rest)) : J C E S pc lv (x5 :: x4 :: x3 :: x2 :: x1 :: x0 :: rest) := j_invS hE hc hM hd hd' rfl hr kk
theorem j_SN6i (hE : Jok l C E own cc d) {y : MethodName} {bytes : ByteArray} {nL' : Nat} {ret : Option FieldType} {d' idx : Nat} {x0 x1 x2 x3 x4 x5 : Value} {rest : List Value} {r : Int32} {S' : Sto} (hc : CSN own idx y bytes nL' ret 6) (hM : Con l C y bytes nL' ret d' [x0, x1, x2, x3, x4, x5] S (some (.int r)) S') (hd : decode cc pc = .ok (.invokestatic idx, 3)) (hd' : d' + 1 ≤ d) (hr : (rest.map fun v => v.category).sum ≤ 8) (kk : J C E S' (pc + 3) lv (.int r :: rest)) : J C E S pc lv (x5 :: x4 :: x3 :: x2 :: x1 :: x0 :: rest) := j_invSN hE hc hM hd hd' rfl hr kk
theorem j_SN6v (hE : Jok l C E own cc d) {y : MethodName} {bytes : ByteArray} {nL' : Nat} {ret : Option FieldType} {d' idx : Nat} {x0 x1 x2 x3 x4 x5 : Value} {rest : List Value} {S' : Sto} (hc : CSN own idx y bytes nL' ret 6) (hM : Con l C y bytes nL' ret d' [x0, x1, x2, x3, x4, x5] S none S') (hd : decode cc pc = .ok (.invokestatic idx, 3)) (hd' : d' + 1 ≤ d) (hr : (rest.map fun v => v.category).sum ≤ 8) (kk : J C E S' (pc + 3) lv (rest)) : J C E S pc lv (x5 :: x4 :: x3 :: x2 :: x1 :: x0 :: rest) := j_invSN hE hc hM hd hd' rfl hr kk
theorem j_V6i (hE : Jok l C E own cc d) {y : MethodName} {bytes : ByteArray} {nL' : Nat} {ret : Option FieldType} {d' idx ci i : Nat} {x0 x1 x2 x3 x4 x5 : Value} {rest : List Value} {r : Int32} {S' : Sto} (hc : CV own idx y bytes nL' ret 6 ci) (hM : Con l C y bytes nL' ret d' [.ref (C.2.1 i), x0, x1, x2, x3, x4, x5] S (some (.int r)) S') (hd : decode cc pc = .ok (.invokevirtual idx, 3)) (hs : jsh i = (0, ci)) (hd' : d' + 1 ≤ d) (hr : (rest.map fun v => v.category).sum ≤ 8) (kk : J C E S' (pc + 3) lv (.int r :: rest)) : J C E S pc lv (x5 :: x4 :: x3 :: x2 :: x1 :: x0 :: .ref (C.2.1 i) :: rest) := j_invV hE hc hM hd hs hd' rfl hr kk
theorem j_V6v (hE : Jok l C E own cc d) {y : MethodName} {bytes : ByteArray} {nL' : Nat} {ret : Option FieldType} {d' idx ci i : Nat} {x0 x1 x2 x3 x4 x5 : Value} {rest : List Value} {S' : Sto} (hc : CV own idx y bytes nL' ret 6 ci) (hM : Con l C y bytes nL' ret d' [.ref (C.2.1 i), x0, x1, x2, x3, x4, x5] S none S') (hd : decode cc pc = .ok (.invokevirtual idx, 3)) (hs : jsh i = (0, ci)) (hd' : d' + 1 ≤ d) (hr : (rest.map fun v => v.category).sum ≤ 8) (kk : J C E S' (pc + 3) lv (rest)) : J C E S pc lv (x5 :: x4 :: x3 :: x2 :: x1 :: x0 :: .ref (C.2.1 i) :: rest) := j_invV hE hc hM hd hs hd' rfl hr kk
end HRows
