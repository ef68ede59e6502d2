/-! the store: one function of ints for all cells, by number; the shapes of the cells; the world that a store spells -/
abbrev Sto : Type := Nat → Nat → Int32
abbrev JC : Type := va_G × (Nat → Nat) × ClassId × ClassId × ClassId × ClassId
def upA (S : Sto) (i : Nat) (f : Nat → Int32) : Sto := fun j => if j = i then f else S j
def up2 (S : Sto) (i k : Nat) (v : Int32) : Sto := upA S i (upd (S i) k v)
/-- kinds: (0, class), (1, n) ints, (2, n) booleans, (3, n) Damps, (4, n) Images -/
abbrev jshL : List (Nat × Nat) := [(0, 9), (0, 7), (1, 240), (0, 1), (1, 25), (1, 4), (0, 3), (1, 25), (1, 25), (0, 8), (0, 3), (1, 25), (1, 25), (0, 1), (1, 25), (1, 4), (3, 8), (0, 1), (1, 25), (1, 4), (0, 1), (1, 25), (1, 4), (0, 1), (1, 25), (1, 4), (0, 1), (1, 25), (1, 4), (0, 1), (1, 25), (1, 4), (0, 1), (1, 25), (1, 4), (0, 1), (1, 25), (1, 4), (0, 1), (1, 25), (1, 4), (0, 5), (3, 16), (0, 1), (1, 25), (1, 4), (0, 1), (1, 25), (1, 4), (0, 1), (1, 25), (1, 4), (0, 1), (1, 25), (1, 4), (0, 1), (1, 25), (1, 4), (0, 1), (1, 25), (1, 4), (0, 1), (1, 25), (1, 4), (0, 1), (1, 25), (1, 4), (0, 1), (1, 25), (1, 4), (0, 1), (1, 25), (1, 4), (0, 1), (1, 25), (1, 4), (0, 1), (1, 25), (1, 4), (0, 1), (1, 25), (1, 4), (0, 1), (1, 25), (1, 4), (0, 1), (1, 25), (1, 4), (0, 1), (1, 25), (1, 4), (0, 0), (1, 15), (1, 15), (0, 2), (4, 2), (0, 6), (1, 4), (1, 6), (1, 6), (1, 5), (0, 6), (1, 4), (1, 6), (1, 6), (1, 5), (0, 4), (0, 1), (1, 25), (1, 4), (0, 4), (0, 1), (1, 25), (1, 4), (0, 10), (1, 4), (1, 6), (1, 6), (1, 5), (1, 34), (1, 240), (1, 4), (1, 6), (1, 6), (1, 5), (1, 25), (1, 25), (1, 25), (1, 544), (1, 34), (1, 15), (1, 15), (1, 70), (2, 2)]
def jsh (i : Nat) : Nat × Nat := jshL.getD i (9, 0)
abbrev NN : Nat := 134
abbrev jfk : List (List Bool) := [[true, true, false], [true, true, false, false, false, false, false], [false], [true, true], [true, false, false], [true, false, false], [true, true, true, true, false, false, false, false, false, false, false, false], [true, false, false, false, false, false, false], [true, true, true, false, false, false, false, false], [true, true, true, true, true, true, true, true, true, true], [false, false, false, true, false, true, true, false, true, false, true, false, true, false, false, false, false, false, false, false, false, true, false, true, true, false, true, false, false, true, true, true, false, true, true, false, true, true, true, true]]
def isR (ci k : Nat) : Bool := (jfk.getD ci []).getD k false
def nfl (ci : Nat) : Nat := (jfk.getD ci []).length
def rf (S : Sto) (i k : Nat) : Nat := if i = 0 then (if k = 8 then (S 0 8).toNatClampNeg else if k = 9 then (S 0 9).toNatClampNeg else [1, 3, 6, 9, 41, 91, 94, 95].getD k 0) else if i = 9 then [10, 13, 16].getD k 0 else if i = 114 then [0, 0, 0, 115, 0, 116, 117, 0, 118, 0, 119, 0, 120, 0, 0, 0, 0, 0, 0, 0, 0, 121, 0, 122, 123, 0, 124, 0, 0, 125, 126, 127, 0, 128, 129, 0, 130, 131, 132, 133].getD k 0 else i + 1 + k
def rfa (i j : Nat) : Nat := if i = 95 then 106 + 4 * j else i + 1 + 3 * j
def jfv (C : JC) (S : Sto) (ci i k : Nat) : Value := if isR ci k = true then .ref (C.2.1 (rf S i k)) else .int (S i k)
def jcell (C : JC) (S : Sto) (i : Nat) : va_E := match jsh i with
  | (0, ci) => .inr (ci, (List.range (nfl ci)).map (jfv C S ci i))
  | (1, n) => .inl (C.2.2.1, n, .inl (S i))
  | (2, n) => .inl (C.2.2.2.1, n, .inl (S i))
  | (3, n) => .inl (C.2.2.2.2.1, n, .inr (.inr (.inr (.inr (fun j => some (C.2.1 (rfa i j)))))))
  | (_, n) => .inl (C.2.2.2.2.2, n, .inr (.inr (.inr (.inr (fun j => some (C.2.1 (rfa i j)))))))
def jw (C : JC) (S : Sto) : va_W := (List.range NN).map (fun i => (C.2.1 i, jcell C S i))
def jty (C : JC) : List (ClassId × FieldType) := [(C.2.2.1, .int), (C.2.2.2.1, .boolean), (C.2.2.2.2.1, .object RX1), (C.2.2.2.2.2, .object RX4)]
def JInj (C : JC) : Prop := ∀ i j, i < NN → j < NN → C.2.1 i = C.2.1 j → i = j
def JA (C : JC) : Nat → Prop := fun q => ∃ i, i < NN ∧ q = C.2.1 i
abbrev nestL : List (String × Nat × MethodName × String) := [("DampLikeness", 9, ⟨"DampLikeness$Reader", "<init>", "()V"⟩, "DampLikeness"), ("DampLikeness", 18, ⟨"DampLikeness$Damp", "<init>", "()V"⟩, "DampLikeness"), ("DampLikeness", 25, ⟨"DampLikeness$Flow", "<init>", "()V"⟩, "DampLikeness"), ("DampLikeness$Trial", 11, ⟨"DampLikeness$Flow", "<init>", "()V"⟩, "DampLikeness"), ("DampLikeness$Trial", 20, ⟨"DampLikeness$Damp", "<init>", "()V"⟩, "DampLikeness"), ("DampLikeness$Past", 17, ⟨"DampLikeness$Damp", "<init>", "()V"⟩, "DampLikeness"), ("DampLikeness", 46, ⟨"DampLikeness$Book", "<init>", "()V"⟩, "DampLikeness"), ("DampLikeness", 53, ⟨"DampLikeness$Draws", "<init>", "()V"⟩, "DampLikeness"), ("DampLikeness", 66, ⟨"DampLikeness$Plan", "<init>", "()V"⟩, "DampLikeness"), ("DampLikeness", 74, ⟨"DampLikeness$Image", "<init>", "()V"⟩, "DampLikeness"), ("DampLikeness$Image", 9, ⟨"DampLikeness$Damp", "<init>", "()V"⟩, "DampLikeness"), ("DampLikeness$Reader", 23, ⟨"DampLikeness", "put", "([III)V"⟩, "DampLikeness"), ("DampLikeness$Reader", 125, ⟨"DampLikeness", "pick", "([II)I"⟩, "DampLikeness"), ("DampLikeness$Reader", 132, ⟨"DampLikeness", "outside", "(III)Z"⟩, "DampLikeness"), ("DampLikeness$Plan", 57, ⟨"DampLikeness", "put", "([III)V"⟩, "DampLikeness"), ("DampLikeness$Damp", 21, ⟨"DampLikeness", "pick", "([II)I"⟩, "DampLikeness"), ("DampLikeness$Marks", 50, ⟨"DampLikeness", "pick", "([II)I"⟩, "DampLikeness"), ("DampLikeness$Flow", 33, ⟨"DampLikeness", "pick", "([II)I"⟩, "DampLikeness"), ("DampLikeness$Flow", 46, ⟨"DampLikeness", "put", "([III)V"⟩, "DampLikeness"), ("DampLikeness$Trial", 67, ⟨"DampLikeness", "put", "([III)V"⟩, "DampLikeness"), ("DampLikeness$Book", 23, ⟨"DampLikeness", "put", "([III)V"⟩, "DampLikeness"), ("DampLikeness$Book", 32, ⟨"DampLikeness", "pick", "([II)I"⟩, "DampLikeness")]
def JN (U : State) : Prop := ∀ q ∈ nestL, va_Nw (.methodLinkNest q.1 q.2.1 q.2.2.1 q.2.2.2) U
theorem JN.warm {s U : State} (hW : s.WarmedH U.vm) (h : JN s) : JN U := fun q hq => va_Nw.warmM hW (h q hq)
theorem jw_at (C : JC) (S : Sto) {i : Nat} (h : i < NN) : (jw C S)[i]? = some (C.2.1 i, jcell C S i) := by
  simp [jw, h]
theorem jw_len (C : JC) (S : Sto) : (jw C S).length = NN := by simp [jw]
theorem jsh_lt {i a b : Nat} (h : jsh i = (a, b)) (ha : a ≠ 9) : i < NN := by
  rcases Nat.lt_or_ge i NN with q | q
  · exact q
  · exfalso
    rw [jsh, List.getD_eq_getElem?_getD, List.getElem?_eq_none (by exact q)] at h
    exact ha (by cases h; rfl)
theorem upA_same (S : Sto) (i : Nat) (f : Nat → Int32) : upA S i f i = f := if_pos rfl
theorem upA_ne (S : Sto) {i j : Nat} (f : Nat → Int32) (h : j ≠ i) : upA S i f j = S j := if_neg h
theorem up2_same (S : Sto) (i k : Nat) (v : Int32) : up2 S i k v i = upd (S i) k v := if_pos rfl
theorem up2_ne (S : Sto) {i j : Nat} (k : Nat) (v : Int32) (h : j ≠ i) : up2 S i k v j = S j := if_neg h
theorem jw_set (C : JC) (S S' : Sto) {i : Nat} (h : i < NN) {e : va_E} (he : e = jcell C S' i) (ho : ∀ j, j < NN → j ≠ i → jcell C S j = jcell C S' j) : (jw C S).set i (C.2.1 i, e) = jw C S' := by
  apply List.ext_getElem?
  intro j
  by_cases hj : j = i
  · subst hj
    rw [List.getElem?_set_self (by rw [jw_len]; exact h), jw_at C S' h, he]
  · rw [List.getElem?_set_ne (fun q => hj q.symm)]
    rcases Nat.lt_or_ge j NN with q | q
    · rw [jw_at C S q, jw_at C S' q, ho j q hj]
    · rw [List.getElem?_eq_none (by rw [jw_len]; exact q), List.getElem?_eq_none (by rw [jw_len]; exact q)]
theorem jw_D (C : JC) (S : Sto) {A : Nat → Prop} (hC : JInj C) (hA : ∀ i, i < NN → A (C.2.1 i)) : va_D A (jw C S) := by
  have lt : ∀ (i : Nat) (q : Nat × va_E), (jw C S)[i]? = some q → i < NN := fun i q h => by
    have := (List.getElem?_eq_some_iff.mp h).1
    rwa [jw_len] at this
  refine ⟨fun i j p q hi hj hpq => ?_, fun k q hk => ?_⟩
  · have h1 := lt i p hi
    have h2 := lt j q hj
    rw [jw_at C S h1] at hi
    rw [jw_at C S h2] at hj
    cases hi; cases hj
    exact hC i j h1 h2 hpq
  · have h1 := lt k q hk
    rw [jw_at C S h1] at hk
    cases hk
    exact hA k h1
theorem rf_up (S : Sto) (i k : Nat) (v : Int32) (j x : Nat) (h : ¬ (i = 0 ∧ (k = 8 ∨ k = 9))) : rf (up2 S i k v) j x = rf S j x := by
  have e8 : up2 S i k v 0 8 = S 0 8 := by
    unfold up2 upA
    by_cases q : (0 : Nat) = i
    · subst q
      have : (8 : Nat) ≠ k := fun z => h ⟨rfl, Or.inl z.symm⟩
      rw [if_pos rfl, pk_un this]
    · rw [if_neg q]
  have e9 : up2 S i k v 0 9 = S 0 9 := by
    unfold up2 upA
    by_cases q : (0 : Nat) = i
    · subst q
      have : (9 : Nat) ≠ k := fun z => h ⟨rfl, Or.inr z.symm⟩
      rw [if_pos rfl, pk_un this]
    · rw [if_neg q]
  unfold rf
  rw [e8, e9]
theorem rf_upA (S : Sto) (i : Nat) (f : Nat → Int32) (j x : Nat) (h : i ≠ 0) : rf (upA S i f) j x = rf S j x := by
  have e : upA S i f 0 = S 0 := upA_ne S f (fun q => h q.symm)
  unfold rf
  rw [e]
theorem jcell_o (C : JC) (S : Sto) {i ci : Nat} (h : jsh i = (0, ci)) : jcell C S i = .inr (ci, (List.range (nfl ci)).map (jfv C S ci i)) := by simp only [jcell, h]
theorem jcell_1 (C : JC) (S : Sto) {i n : Nat} (h : jsh i = (1, n)) : jcell C S i = .inl (C.2.2.1, n, .inl (S i)) := by simp only [jcell, h]
theorem jcell_2 (C : JC) (S : Sto) {i n : Nat} (h : jsh i = (2, n)) : jcell C S i = .inl (C.2.2.2.1, n, .inl (S i)) := by simp only [jcell, h]
theorem jcell_3 (C : JC) (S : Sto) {i n : Nat} (h : jsh i = (3, n)) : jcell C S i = .inl (C.2.2.2.2.1, n, .inr (.inr (.inr (.inr (fun j => some (C.2.1 (rfa i j))))))) := by simp only [jcell, h]
theorem jcell_4 (C : JC) (S : Sto) {i n : Nat} (h : jsh i = (4, n)) : jcell C S i = .inl (C.2.2.2.2.2, n, .inr (.inr (.inr (.inr (fun j => some (C.2.1 (rfa i j))))))) := by simp only [jcell, h]
theorem jcell_eq (C : JC) {S S' : Sto} {j : Nat} (h : S j = S' j) (hr : ∀ k, rf S j k = rf S' j k) : jcell C S j = jcell C S' j := by
  unfold jcell
  have e : ∀ ci, jfv C S ci j = jfv C S' ci j := fun ci => by
    funext k
    unfold jfv
    rw [h, hr]
  simp only [e, h]
theorem jfs_at (C : JC) (S : Sto) {ci k : Nat} (i : Nat) (h : k < nfl ci) : ((List.range (nfl ci)).map (jfv C S ci i))[k]? = some (jfv C S ci i k) := by simp [h]
/-- a field of ints is written -/
theorem jw_puti (C : JC) (S : Sto) {i ci k : Nat} {v : Int32} (hs : jsh i = (0, ci)) (hk : k < nfl ci) (hr : isR ci k = false) (h0 : i = 0 → ci = 9) : (jw C S).set i (C.2.1 i, .inr (ci, ((List.range (nfl ci)).map (jfv C S ci i)).set k (.int v))) = jw C (up2 S i k v) := by
  have hne : ¬ (i = 0 ∧ (k = 8 ∨ k = 9)) := fun ⟨a, b⟩ => by
    have := h0 a
    subst this
    rcases b with rfl | rfl <;> exact absurd hr (by decide)
  refine jw_set C S _ (jsh_lt hs (by decide)) ?_ (fun j _ hj => jcell_eq C (up2_ne S k v hj).symm (fun x => (rf_up S i k v j x hne).symm))
  rw [jcell_o C _ hs]
  congr 2
  apply List.ext_getElem?
  intro x
  by_cases hx : x = k
  · subst hx
    rw [List.getElem?_set_self (by simp [hk]), jfs_at C _ i hk]
    unfold jfv
    rw [if_neg (by rw [hr]; decide), up2_same, pk_us]
  · rw [List.getElem?_set_ne (fun q => hx q.symm)]
    rcases Nat.lt_or_ge x (nfl ci) with q | q
    · rw [jfs_at C _ i q, jfs_at C _ i q]
      unfold jfv
      rw [rf_up S i k v i x hne, up2_same, pk_un hx]
    · rw [List.getElem?_eq_none (by simp [q]), List.getElem?_eq_none (by simp [q])]
/-- an array of ints is written -/
theorem jw_arr1 (C : JC) (S : Sto) {i n : Nat} {f : Nat → Int32} (hs : jsh i = (1, n)) : (jw C S).set i (C.2.1 i, .inl (C.2.2.1, n, .inl f)) = jw C (upA S i f) := by
  have h0 : i ≠ 0 := fun q => by subst q; cases hs
  refine jw_set C S _ (jsh_lt hs (by decide)) ?_ (fun j _ hj => jcell_eq C (upA_ne S f hj).symm (fun x => (rf_upA S i f j x h0).symm))
  rw [jcell_1 C _ hs, upA_same]
theorem jw_arr2 (C : JC) (S : Sto) {i n : Nat} {f : Nat → Int32} (hs : jsh i = (2, n)) : (jw C S).set i (C.2.1 i, .inl (C.2.2.2.1, n, .inl f)) = jw C (upA S i f) := by
  have h0 : i ≠ 0 := fun q => by subst q; cases hs
  refine jw_set C S _ (jsh_lt hs (by decide)) ?_ (fun j _ hj => jcell_eq C (upA_ne S f hj).symm (fun x => (rf_upA S i f j x h0).symm))
  rw [jcell_2 C _ hs, upA_same]
/-- plan and spare are written -/
theorem jw_putp (C : JC) (S : Sto) {k x : Nat} (hk : k = 8 ∨ k = 9) (hx : x < NN) : (jw C S).set 0 (C.2.1 0, .inr (9, ((List.range (nfl 9)).map (jfv C S 9 0)).set k (.ref (C.2.1 x)))) = jw C (up2 S 0 k (nI x)) := by
  have hxn : (nI x).toNatClampNeg = x := nI_clamp (Nat.lt_trans hx (by decide))
  refine jw_set C S _ (by decide) ?_ (fun j _ hj => jcell_eq C (up2_ne S k _ hj).symm (fun y => ?_))
  · rw [jcell_o C _ (show jsh 0 = (0, 9) from rfl)]
    congr 2
    apply List.ext_getElem?
    intro y
    by_cases hy : y = k
    · subst hy
      rw [List.getElem?_set_self (by rcases hk with rfl | rfl <;> simp [nfl]), jfs_at C _ 0 (by rcases hk with rfl | rfl <;> decide)]
      unfold jfv rf
      rcases hk with rfl | rfl <;> simp [isR, up2_same, pk_us, hxn]
    · rw [List.getElem?_set_ne (fun q => hy q.symm)]
      rcases Nat.lt_or_ge y (nfl 9) with q | q
      · rw [jfs_at C _ 0 q, jfs_at C _ 0 q]
        rcases hk with rfl | rfl
        · by_cases h9 : y = 9
          · subst h9
            simp [jfv, rf, up2_same, upd]
          · simp [jfv, rf, up2_same, upd, hy, h9]
        · by_cases h8 : y = 8
          · subst h8
            simp [jfv, rf, up2_same, upd]
          · simp [jfv, rf, up2_same, upd, hy, h8]
      · rw [List.getElem?_eq_none (by simp [q]), List.getElem?_eq_none (by simp [q])]
  · unfold rf
    rw [if_neg hj, if_neg hj]
