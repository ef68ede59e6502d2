/-! a number, as both read it -/
theorem mnum_V (t : Nat → Int32) (s : Nat) : ∀ k, k ≤ 3 → mnum t s k = numV t s k
  | 0, _ => rfl
  | k + 1, h => by
    have e := mnum_V t s k (by omega)
    have b := numV_b t s k
    have b2 : 10 ^ k ≤ 1000 := Nat.pow_le_pow_right (by decide) (show k ≤ 3 by omega)
    unfold mnum numV
    rw [e, if_pos (by omega)]
theorem dgE_ge (t : Nat → Int32) (n : Nat) : ∀ f p, p ≤ dgE t n f p
  | 0, p => Nat.le_refl _
  | f + 1, p => by
    unfold dgE
    split
    · have := dgE_ge t n f (p + 1)
      omega
    · omega
theorem dge_ge {t : Nat → Int32} {n p : Nat} : p ≤ dge t n p := dgE_ge t n _ _
def nmE (t : Nat → Int32) (n a : Nat) : Nat := dge t n (skp t n a)
def nmV (t : Nat → Int32) (n a : Nat) : Nat := numV t (skp t n a) (nmE t n a - skp t n a)
abbrev nmO (t : Nat → Int32) (n a : Nat) (lo hi : Int32) : Prop := nmE t n a - skp t n a ≤ 3 ∧ lo ≤ nI (nmV t n a) ∧ nI (nmV t n a) ≤ hi
def nmF (t : Nat → Int32) (n a : Nat) (lo hi : Int32) : Nat := if isFg (cur t n (skp t n a)) then (if nmO t n a lo hi then 0 else 2) else 1
theorem nmE_ge {t : Nat → Int32} {n a : Nat} : a ≤ nmE t n a := Nat.le_trans skp_ge dge_ge
theorem nmE_le {t : Nat → Int32} {n a : Nat} (h : a ≤ n) : nmE t n a ≤ n := dge_le (skp_le h)
theorem nmF_le {t : Nat → Int32} {n a : Nat} {lo hi : Int32} : nmF t n a lo hi ≤ 2 := by
  unfold nmF
  split
  · split <;> omega
  · omega
theorem in_32 {x lo hi : Int32} : inP x.toInt64 lo.toInt64 hi.toInt64 ↔ lo ≤ x ∧ x ≤ hi := by
  unfold inP
  rw [Int64.le_iff_toInt_le, Int64.le_iff_toInt_le, Int32.toInt_toInt64, Int32.toInt_toInt64, Int32.toInt_toInt64, Int32.le_iff_toInt_le, Int32.le_iff_toInt_le]
theorem le_nlt {x y : Int32} : ¬ x < y ↔ y ≤ x := by
  rw [Int32.lt_iff_toInt_lt, Int32.le_iff_toInt_le]
  omega
theorem le_ngt {x y : Int32} : ¬ x ≤ y ↔ y < x := by
  rw [Int32.lt_iff_toInt_lt, Int32.le_iff_toInt_le]
  omega
theorem len3 {s e : Nat} (h : s ≤ e) (he : e ≤ 240) : ¬ nI 3 < nI e - nI s ↔ e - s ≤ 3 := by
  rw [pk_sub h, le_nlt]
  exact ⟨fun q => (nI_leI (by omega) (by decide)).mp q, fun q => nI_le q (by decide)⟩
theorem bad_n {S : Sto} {n a : Nat} {lo hi : Int32} (hn : n ≤ 240) (h : a ≤ n) : mBad S n a lo hi ↔ ¬ nmO (S 120) n a lo hi := by
  have hE := nmE_le (t := S 120) h
  have l3 := len3 (s := skp (S 120) n a) (e := nmE (S 120) n a) dge_ge (by omega)
  unfold mBad nmO
  rw [in_32]
  constructor
  · rintro (q | q) z
    · exact l3.mpr z.1 q
    · rw [mnum_V _ _ (dge (S 120) n (skp (S 120) n a) - skp (S 120) n a) z.1] at q
      exact q z.2
  · intro z
    by_cases c : nmE (S 120) n a - skp (S 120) n a ≤ 3
    · refine Or.inr (fun y => z ⟨c, ?_⟩)
      have : dge (S 120) n (skp (S 120) n a) - skp (S 120) n a ≤ 3 := c
      rw [mnum_V _ _ _ this] at y
      exact y
    · exact Or.inl (Classical.byContradiction (fun y => c (l3.mp y)))
theorem mtnV_F {S : Sto} {n a : Nat} {lo hi : Int32} (hn : n ≤ 240) (h : a ≤ n) : mtnV S n a lo hi = nI (nmF (S 120) n a lo hi) := by
  unfold mtnV nmF
  split
  · by_cases c : nmO (S 120) n a lo hi
    · rw [if_pos c, if_neg (fun z => (bad_n hn h).mp z c)]
    · rw [if_neg c, if_pos ((bad_n hn h).mpr c)]
  · rfl
theorem nI_2 {k : Nat} (h : k ≤ 1000) : nI k ≤ 0 ↔ k = 0 := by
  constructor
  · intro q
    have := (nI_leI (a := k) (b := 0) (by omega) (by decide)).mp q
    omega
  · intro q
    subst q
    decide
theorem mtnV_0 {S : Sto} {n a : Nat} {lo hi : Int32} (hn : n ≤ 240) (h : a ≤ n) : mtnV S n a lo hi ≤ 0 ↔ nmF (S 120) n a lo hi = 0 := by
  rw [mtnV_F hn h]
  exact nI_2 (Nat.le_trans nmF_le (by decide))
theorem nmF_0 {t : Nat → Int32} {n a : Nat} {lo hi : Int32} : nmF t n a lo hi = 0 ↔ isFg (cur t n (skp t n a)) ∧ nmO t n a lo hi := by
  unfold nmF
  split
  · next c =>
    split
    · next d => exact ⟨fun _ => ⟨c, d⟩, fun _ => rfl⟩
    · next d => exact ⟨fun z => absurd z (by decide), fun z => absurd z.2 d⟩
  · next c => exact ⟨fun z => absurd z (by decide), fun z => absurd z.1 c⟩
theorem mtnS_0 {S : Sto} {n a : Nat} {lo hi : Int32} (hn : n ≤ 240) (h : a ≤ n) (h0 : nmF (S 120) n a lo hi = 0) : mtnS S n a lo hi = mtn S (skp (S 120) n a) (nmE (S 120) n a) (nmV (S 120) n a) := by
  obtain ⟨h1, h2⟩ := nmF_0.mp h0
  unfold mtnS
  rw [if_pos h1, if_neg (fun z => (bad_n hn h).mp z h2), mtnT, mnum_V _ _ (dge (S 120) n (skp (S 120) n a) - skp (S 120) n a) h2.1]
  rfl
theorem mtnA_0 {S : Sto} {n a : Nat} {lo hi : Int32} (h0 : nmF (S 120) n a lo hi = 0) : mtnA S n a = nmE (S 120) n a := by
  unfold mtnA
  rw [if_pos (nmF_0.mp h0).1]
  rfl
theorem mtnS_14 {S : Sto} {n a : Nat} {lo hi : Int32} (hn : n ≤ 240) (h : a ≤ n) (h0 : ¬ nmF (S 120) n a lo hi = 0) : mtnS S n a lo hi 114 14 = nI (skp (S 120) n a) := by
  unfold mtnS
  split
  · next c =>
    rw [if_pos ((bad_n hn h).mpr (fun z => h0 (nmF_0.mpr ⟨c, z⟩))), up2_same, pk_us]
  · rw [up2_same, pk_us]
/-! the wall's size -/
def twF (t : Nat → Int32) (n a : Nat) : Nat := if nmF t n a (nI 2) (nI 5) = 0 then nmF t n (nmE t n a) (nI 2) (nI 5) else nmF t n a (nI 2) (nI 5)
def twP (t : Nat → Int32) (n a : Nat) : Nat := if nmF t n a (nI 2) (nI 5) = 0 then skp t n (nmE t n a) else skp t n a
theorem mtwA_t {S : Sto} {n a : Nat} : mtwA S n a 120 = S 120 := by unfold mtwA; rw [up2_ne _ _ _ (by decide), mtnS_o (by decide)]
theorem mtwV_F {S : Sto} {n a : Nat} (hn : n ≤ 240) (h : a ≤ n) : mtwV S n a = nI (twF (S 120) n a) := by
  unfold mtwV twF
  by_cases c : nmF (S 120) n a (nI 2) (nI 5) = 0
  · rw [if_pos c, if_pos ((mtnV_0 hn h).mpr c), mtnV_F hn (mtnA_le h), mtwA_t, mtnA_0 c]
  · rw [if_neg c, if_neg (fun z => c ((mtnV_0 hn h).mp z)), mtnV_F hn h]
theorem mtwS_14 {S : Sto} {n a : Nat} (hn : n ≤ 240) (h : a ≤ n) (h0 : ¬ twF (S 120) n a = 0) : mtwS S n a 114 14 = nI (twP (S 120) n a) := by
  unfold mtwS mtwT twP
  rw [up114b (by decide)]
  by_cases c : nmF (S 120) n a (nI 2) (nI 5) = 0
  · rw [twF, if_pos c] at h0
    rw [if_pos c, if_pos ((mtnV_0 hn h).mpr c), mtnA_0 c, mtnS_14 hn (nmE_le h) (by rw [mtwA_t]; exact h0), mtwA_t]
  · rw [if_neg c, if_neg (fun z => c ((mtnV_0 hn h).mp z)), mtwA, up114b (by decide), mtnS_14 hn h c]
theorem mtwS_0 {S : Sto} {n a : Nat} (hn : n ≤ 240) (h : a ≤ n) (h0 : twF (S 120) n a = 0) : nmF (S 120) n a (nI 2) (nI 5) = 0 ∧ nmF (S 120) n (nmE (S 120) n a) (nI 2) (nI 5) = 0 ∧ mtwS S n a 114 18 = nI (nmV (S 120) n a) ∧ mtwS S n a 114 19 = nI (nmV (S 120) n (nmE (S 120) n a)) ∧ mtwS S n a 114 15 = nI (nmE (S 120) n (nmE (S 120) n a)) ∧ (∀ k, (k < 14 ∨ 19 < k) → mtwS S n a 114 k = S 114 k) ∧ ∀ i, i ≠ 114 → mtwS S n a i = S i := by
  have c : nmF (S 120) n a (nI 2) (nI 5) = 0 := by
    unfold twF at h0
    split at h0
    · assumption
    · exact absurd h0 (by assumption)
  have c2 : nmF (S 120) n (nmE (S 120) n a) (nI 2) (nI 5) = 0 := by
    unfold twF at h0
    rw [if_pos c] at h0
    exact h0
  have e : mtwS S n a = up2 (mtn (mtwA S n a) (skp (S 120) n (nmE (S 120) n a)) (nmE (S 120) n (nmE (S 120) n a)) (nmV (S 120) n (nmE (S 120) n a))) 114 19 (nI (nmV (S 120) n (nmE (S 120) n a))) := by
    unfold mtwS mtwT
    rw [if_pos ((mtnV_0 hn h).mpr c), mtnA_0 c, mtnS_0 hn (nmE_le h) (by rw [mtwA_t]; exact c2), mtwA_t, mtn_16]
  have eA : mtwA S n a = up2 (mtn S (skp (S 120) n a) (nmE (S 120) n a) (nmV (S 120) n a)) 114 18 (nI (nmV (S 120) n a)) := by
    unfold mtwA
    rw [mtnS_0 hn h c, mtn_16]
  refine ⟨c, c2, ?_, ?_, ?_, ?_, ?_⟩
  · rw [e, up114b (by decide), mtn_k (by omega), eA, up2_same, pk_us]
  · rw [e, up2_same, pk_us]
  · rw [e, up114b (by decide), mtn_15]
  · intro k hk
    rw [e, up114b (by omega), mtn_k (by omega), eA, up114b (by omega), mtn_k (by omega)]
  · intro i hi
    rw [e, up2_ne _ _ _ hi, mtn_o hi, eA, up2_ne _ _ _ hi, mtn_o hi]
/-! a leak, the wind -/
theorem mtlS_0 {S : Sto} {n a k : Nat} (hn : n ≤ 240) (h : a ≤ n) (h0 : nmF (S 120) n a (nI 0) (mtlH S) = 0) : mtlS S n a k 114 15 = nI (nmE (S 120) n a) ∧ mtlS S n a k 114 20 = nI (k + 1) ∧ (∀ j, (j < 14 ∨ 17 < j) → j ≠ 20 → mtlS S n a k 114 j = S 114 j) ∧ mtlS S n a k 121 = upd (S 121) k (nI (nmV (S 120) n a)) ∧ ∀ i, i ≠ 114 → i ≠ 121 → mtlS S n a k i = S i := by
  have et : mtlW S k 120 = S 120 := up2_ne _ _ _ (by decide)
  have e : mtlS S n a k = up2 (mtn (mtlW S k) (skp (S 120) n a) (nmE (S 120) n a) (nmV (S 120) n a)) 121 k (nI (nmV (S 120) n a)) := by
    unfold mtlS
    rw [mtnS_0 hn h (by rw [et]; exact h0), et, mtn_16]
  refine ⟨?_, ?_, ?_, ?_, ?_⟩
  · rw [e, up2_ne _ _ _ (by decide), mtn_15]
  · rw [e, up2_ne _ _ _ (by decide), mtn_k (by omega), mtlW, up2_same, pk_us]
  · intro j hj h20
    rw [e, up2_ne _ _ _ (by decide), mtn_k (by omega), mtlW, up114b h20]
  · rw [e, up2_same, mtn_o (by decide), mtlW, up2_ne _ _ _ (by decide)]
  · intro i h1 h2
    rw [e, up2_ne _ _ _ h2, mtn_o h1, mtlW, up2_ne _ _ _ h1]
theorem mtlS_14 {S : Sto} {n a k : Nat} (hn : n ≤ 240) (h : a ≤ n) (h0 : ¬ nmF (S 120) n a (nI 0) (mtlH S) = 0) : mtlS S n a k 114 14 = nI (skp (S 120) n a) := by
  have et : mtlW S k 120 = S 120 := up2_ne _ _ _ (by decide)
  unfold mtlS
  rw [up2_ne _ _ _ (by decide), mtnS_14 hn h (by rw [et]; exact h0), et]
theorem mtdS_0 {S : Sto} {n a : Nat} (hn : n ≤ 240) (h : a ≤ n) (h0 : nmF (S 120) n a (nI 0) (nI 2) = 0) : mtdS S n a 114 15 = nI (nmE (S 120) n a) ∧ mtdS S n a 114 27 = nI 1 ∧ mtdS S n a 114 28 = nI (nmV (S 120) n a) ∧ (∀ j, (j < 14 ∨ 17 < j) → j ≠ 27 → j ≠ 28 → mtdS S n a 114 j = S 114 j) ∧ ∀ i, i ≠ 114 → mtdS S n a i = S i := by
  have et : mtdW S 120 = S 120 := up2_ne _ _ _ (by decide)
  have e : mtdS S n a = up2 (mtn (mtdW S) (skp (S 120) n a) (nmE (S 120) n a) (nmV (S 120) n a)) 114 28 (nI (nmV (S 120) n a)) := by
    unfold mtdS
    rw [mtnS_0 hn h (by rw [et]; exact h0), et, mtn_16]
  refine ⟨?_, ?_, ?_, ?_, ?_⟩
  · rw [e, up114b (by decide), mtn_15]
  · rw [e, up114b (by decide), mtn_k (by omega), mtdW, up2_same, pk_us]
  · rw [e, up2_same, pk_us]
  · intro j hj h1 h2
    rw [e, up114b h2, mtn_k (by omega), mtdW, up114b h1]
  · intro i hi
    rw [e, up2_ne _ _ _ hi, mtn_o hi, mtdW, up2_ne _ _ _ hi]
theorem mtdS_14 {S : Sto} {n a : Nat} (hn : n ≤ 240) (h : a ≤ n) (h0 : ¬ nmF (S 120) n a (nI 0) (nI 2) = 0) : mtdS S n a 114 14 = nI (skp (S 120) n a) := by
  have et : mtdW S 120 = S 120 := up2_ne _ _ _ (by decide)
  unfold mtdS
  rw [up114b (by decide), mtnS_14 hn h (by rw [et]; exact h0), et]
/-! a crack -/
theorem mtdB_c {S T : Sto} {a b : Int32} : ∀ k, (∀ c, c < k → T 122 c = S 122 c ∧ T 123 c = S 123 c) → mtdB T a b k = mtdB S a b k
  | 0, _ => rfl
  | k + 1, h => by
    unfold mtdB
    rw [mtdB_c k (fun c hc => h c (by omega))]
    unfold mtIs
    rw [(h k (by omega)).1, (h k (by omega)).2]
abbrev ckOk (S : Sto) (n a k : Nat) : Prop := nxP (nI (nmV (S 120) n a)) (nI (nmV (S 120) n (nmE (S 120) n a))) (S 114 19) ∧ ¬ mtdB S (nI (nmV (S 120) n a)) (nI (nmV (S 120) n (nmE (S 120) n a))) k = true
def ckF (S : Sto) (n a k : Nat) : Nat := if nmF (S 120) n a (nI 0) (mtlH S) = 0 then (if nmF (S 120) n (nmE (S 120) n a) (nI 0) (mtlH S) = 0 then (if ckOk S n a k then 0 else 4) else nmF (S 120) n (nmE (S 120) n a) (nI 0) (mtlH S)) else nmF (S 120) n a (nI 0) (mtlH S)
def ckP (S : Sto) (n a : Nat) : Nat := if nmF (S 120) n a (nI 0) (mtlH S) = 0 then skp (S 120) n (nmE (S 120) n a) else skp (S 120) n a
theorem mcA_t {S : Sto} {n a k : Nat} : mcA S n a k 120 = S 120 := by unfold mcA; rw [up2_ne _ _ _ (by decide), mtnS_o (by decide)]
theorem mcA_0 {S : Sto} {n a k : Nat} (hn : n ≤ 240) (h : a ≤ n) (h0 : nmF (S 120) n a (nI 0) (mtlH S) = 0) : mcA S n a k = up2 (mtn S (skp (S 120) n a) (nmE (S 120) n a) (nmV (S 120) n a)) 122 k (nI (nmV (S 120) n a)) := by
  unfold mcA
  rw [mtnS_0 hn h h0, mtn_16]
theorem mcB_0 {S : Sto} {n a k : Nat} (hn : n ≤ 240) (h : a ≤ n) (h0 : nmF (S 120) n a (nI 0) (mtlH S) = 0) (h1 : nmF (S 120) n (nmE (S 120) n a) (nI 0) (mtlH S) = 0) : mcB S n a k = up2 (mtn (mcA S n a k) (skp (S 120) n (nmE (S 120) n a)) (nmE (S 120) n (nmE (S 120) n a)) (nmV (S 120) n (nmE (S 120) n a))) 123 k (nI (nmV (S 120) n (nmE (S 120) n a))) := by
  unfold mcB
  rw [mtnA_0 h0, mtnS_0 hn (nmE_le h) (by rw [mcA_t]; exact h1), mcA_t, mtn_16]
theorem mcB_f {S : Sto} {n a k : Nat} (hn : n ≤ 240) (h : a ≤ n) (h0 : nmF (S 120) n a (nI 0) (mtlH S) = 0) (h1 : nmF (S 120) n (nmE (S 120) n a) (nI 0) (mtlH S) = 0) : mcB S n a k 122 = upd (S 122) k (nI (nmV (S 120) n a)) ∧ mcB S n a k 123 = upd (S 123) k (nI (nmV (S 120) n (nmE (S 120) n a))) ∧ mcB S n a k 114 15 = nI (nmE (S 120) n (nmE (S 120) n a)) ∧ mcB S n a k 114 17 = nI (skp (S 120) n (nmE (S 120) n a)) ∧ ∀ i, i ≠ 114 → i ≠ 122 → i ≠ 123 → mcB S n a k i = S i := by
  have eA := mcA_0 (k := k) hn h h0
  have eB := mcB_0 (k := k) hn h h0 h1
  refine ⟨?_, ?_, ?_, ?_, ?_⟩
  · rw [eB, up2_ne _ _ _ (by decide), mtn_o (by decide), eA, up2_same, mtn_o (by decide)]
  · rw [eB, up2_same, mtn_o (by decide), eA, up2_ne _ _ _ (by decide), mtn_o (by decide)]
  · rw [eB, up2_ne _ _ _ (by decide), mtn_15]
  · rw [eB, up2_ne _ _ _ (by decide), mtn_17]
  · intro i q1 q2 q3
    rw [eB, up2_ne _ _ _ q3, mtn_o q1, eA, up2_ne _ _ _ q2, mtn_o q1]
theorem mcOk_iff {S : Sto} {n a k : Nat} (hn : n ≤ 240) (h : a ≤ n) (h0 : nmF (S 120) n a (nI 0) (mtlH S) = 0) (h1 : nmF (S 120) n (nmE (S 120) n a) (nI 0) (mtlH S) = 0) : mcOk S n a k ↔ ckOk S n a k := by
  obtain ⟨f1, f2, _, _, _⟩ := mcB_f (k := k) hn h h0 h1
  unfold mcOk ckOk
  rw [f1, f2, pk_us, pk_us, mcB_k (by omega), mtdB_c (S := S) k (fun c hc => ⟨by rw [f1, pk_un (by omega)], by rw [f2, pk_un (by omega)]⟩)]
theorem mcV_F {S : Sto} {n a k : Nat} (hn : n ≤ 240) (h : a ≤ n) : mcV S n a k = nI (ckF S n a k) := by
  unfold mcV ckF mcV1
  by_cases c : nmF (S 120) n a (nI 0) (mtlH S) = 0
  · rw [if_pos c, if_pos ((mtnV_0 hn h).mpr c)]
    have e2 : mcV2 S n a k = nI (nmF (S 120) n (nmE (S 120) n a) (nI 0) (mtlH S)) := by
      unfold mcV2
      rw [mtnV_F hn (mtnA_le h), mcA_t, mtnA_0 c]
    rw [e2]
    by_cases c2 : nmF (S 120) n (nmE (S 120) n a) (nI 0) (mtlH S) = 0
    · rw [if_pos c2, if_pos ((nI_2 (Nat.le_trans nmF_le (by decide))).mpr c2)]
      by_cases c3 : ckOk S n a k
      · rw [if_pos c3, if_pos ((mcOk_iff hn h c c2).mpr c3)]
      · rw [if_neg c3, if_neg (fun z => c3 ((mcOk_iff hn h c c2).mp z))]
    · rw [if_neg c2, if_neg (fun z => c2 ((nI_2 (Nat.le_trans nmF_le (by decide))).mp z))]
  · rw [if_neg c, if_neg (fun z => c ((mtnV_0 hn h).mp z)), mtnV_F hn h]
theorem mcV2_0 {S : Sto} {n a k : Nat} (hn : n ≤ 240) (h : a ≤ n) (c : nmF (S 120) n a (nI 0) (mtlH S) = 0) : mcV2 S n a k ≤ 0 ↔ nmF (S 120) n (nmE (S 120) n a) (nI 0) (mtlH S) = 0 := by
  unfold mcV2
  rw [mtnV_0 hn (mtnA_le h), mcA_t, mtnA_0 c]
theorem mcS_14 {S : Sto} {n a k : Nat} (hn : n ≤ 240) (h : a ≤ n) (h0 : ¬ ckF S n a k = 0) : mcS S n a k 114 14 = nI (ckP S n a) := by
  unfold mcS ckP mcV1
  by_cases c : nmF (S 120) n a (nI 0) (mtlH S) = 0
  · rw [if_pos c, if_pos ((mtnV_0 hn h).mpr c)]
    by_cases c2 : nmF (S 120) n (nmE (S 120) n a) (nI 0) (mtlH S) = 0
    · rw [if_pos ((mcV2_0 hn h c).mpr c2)]
      have c3 : ¬ ckOk S n a k := fun z => h0 (by rw [ckF, if_pos c, if_pos c2, if_pos z])
      rw [if_neg (fun z => c3 ((mcOk_iff hn h c c2).mp z)), up2_same, pk_us]
      exact (mcB_f hn h c c2).2.2.2.1
    · rw [if_neg (fun z => c2 ((mcV2_0 hn h c).mp z))]
      unfold mcB
      rw [up2_ne _ _ _ (by decide), mtnA_0 c, mtnS_14 hn (nmE_le h) (by rw [mcA_t]; exact c2), mcA_t]
  · rw [if_neg c, if_neg (fun z => c ((mtnV_0 hn h).mp z)), mcA, up2_ne _ _ _ (by decide), mtnS_14 hn h c]
theorem ckF_0 {S : Sto} {n a k : Nat} (h0 : ckF S n a k = 0) : nmF (S 120) n a (nI 0) (mtlH S) = 0 ∧ nmF (S 120) n (nmE (S 120) n a) (nI 0) (mtlH S) = 0 ∧ ckOk S n a k := by
  unfold ckF at h0
  split at h0
  · next c =>
    split at h0
    · next c2 =>
      split at h0
      · next c3 => exact ⟨c, c2, c3⟩
      · exact absurd h0 (by decide)
    · next c2 => exact absurd h0 c2
  · next c => exact absurd h0 c
theorem mcS_0 {S : Sto} {n a k : Nat} (hn : n ≤ 240) (h : a ≤ n) (h0 : ckF S n a k = 0) : mcS S n a k 114 15 = nI (nmE (S 120) n (nmE (S 120) n a)) ∧ mcS S n a k 114 22 = nI (k + 1) ∧ (∀ j, (j < 14 ∨ 17 < j) → j ≠ 22 → mcS S n a k 114 j = S 114 j) ∧ mcS S n a k 122 = upd (S 122) k (nI (nmV (S 120) n a)) ∧ mcS S n a k 123 = upd (S 123) k (nI (nmV (S 120) n (nmE (S 120) n a))) ∧ ∀ i, i ≠ 114 → i ≠ 122 → i ≠ 123 → mcS S n a k i = S i := by
  obtain ⟨c, c2, c3⟩ := ckF_0 h0
  obtain ⟨f1, f2, f3, f4, f5⟩ := mcB_f (k := k) hn h c c2
  have e : mcS S n a k = up2 (mcB S n a k) 114 22 (nI (k + 1)) := by
    unfold mcS mcV1
    rw [if_pos ((mtnV_0 hn h).mpr c), if_pos ((mcV2_0 hn h c).mpr c2), if_pos ((mcOk_iff hn h c c2).mpr c3)]
  refine ⟨?_, ?_, ?_, ?_, ?_, ?_⟩
  · rw [e, up114b (by decide), f3]
  · rw [e, up2_same, pk_us]
  · intro j hj h2
    rw [e, up114b h2, mcB_k hj]
  · rw [e, up2_ne _ _ _ (by decide), f1]
  · rw [e, up2_ne _ _ _ (by decide), f2]
  · intro i q1 q2 q3
    rw [e, up2_ne _ _ _ q1, f5 i q1 q2 q3]
/-! a likeness -/
abbrev LkR : Type := Nat × Nat × Nat × Int32
def lkB' (t : Nat → Int32) (n i a : Nat) : Nat := if i = 0 then a else skp t n a + 1
def lkStep (t : Nat → Int32) (n : Nat) (w hi : Int32) (i : Nat) (r : LkR) : LkR := if ¬ i = 0 ∧ ¬ cur t n (skp t n r.2.2.1) = nI 44 then (1, skp t n r.2.2.1, r.2.2.1, r.2.2.2) else if nmF t n (lkB' t n i r.2.2.1) (nI 0) hi = 0 then (0, 0, nmE t n (lkB' t n i r.2.2.1), r.2.2.2 ||| (nI (nmV t n (lkB' t n i r.2.2.1)) <<< ((w * nI i) &&& 31))) else (nmF t n (lkB' t n i r.2.2.1) (nI 0) hi, skp t n (lkB' t n i r.2.2.1), r.2.2.1, r.2.2.2)
def lkU (t : Nat → Int32) (n a : Nat) (w hi : Int32) : Nat → LkR
  | 0 => (0, 0, a, nI 0)
  | i + 1 => if (lkU t n a w hi i).1 = 0 then lkStep t n w hi i (lkU t n a w hi i) else lkU t n a w hi i
theorem lkU_stay {t : Nat → Int32} {n a : Nat} {w hi : Int32} {i : Nat} (h : ¬ (lkU t n a w hi i).1 = 0) : ∀ m, lkU t n a w hi (i + m) = lkU t n a w hi i
  | 0 => rfl
  | m + 1 => by
    have e := lkU_stay h m
    show lkU t n a w hi (i + m + 1) = _
    rw [lkU, e, if_neg h]
theorem mtlG_f {n k : Nat} : ∀ (m i : Nat) (U : Sto) (f : Int32), (∀ j, (j < 14 ∨ 17 < j) → (mtlG n k m i U f).2 114 j = U 114 j) ∧ (∀ j, j ≠ 114 → j ≠ 124 → (mtlG n k m i U f).2 j = U j) ∧ ∀ j, j ≠ k → (mtlG n k m i U f).2 124 j = U 124 j
  | 0, i, U, f => ⟨fun _ _ => rfl, fun _ _ _ => rfl, fun _ _ => rfl⟩
  | m + 1, i, U, f => by
    unfold mtlG
    split
    · split
      · refine ⟨fun j hj => ?_, fun j h1 h2 => ?_, fun j h => ?_⟩
        · show up2 (up2 U 114 15 (nI (skp (U 120) n (atN U)))) 114 14 (nI (skp (U 120) n (atN U))) 114 j = _
          rw [up114b (by omega), up114b (by omega)]
        · show up2 (up2 U 114 15 (nI (skp (U 120) n (atN U)))) 114 14 (nI (skp (U 120) n (atN U))) j = _
          rw [up2_ne _ _ _ h1, up2_ne _ _ _ h1]
        · show up2 (up2 U 114 15 (nI (skp (U 120) n (atN U)))) 114 14 (nI (skp (U 120) n (atN U))) 124 j = _
          rw [up2_ne _ _ _ (by decide), up2_ne _ _ _ (by decide)]
      · obtain ⟨h1, h2, h3⟩ := mtlG_f (n := n) (k := k) m (i + 1) (mtlZ U n k i) (mtlV U n i)
        refine ⟨fun j hj => ?_, fun j q1 q2 => ?_, fun j h => ?_⟩
        · rw [h1 j hj, mtlZ_k hj]
        · rw [h2 j q1 q2, mtlZ_o q1 q2]
        · rw [h3 j h]
          unfold mtlZ
          rw [up2_same, pk_un h, mtlU, mtnS_o (by decide), mtlP_o (by decide)]
    · exact ⟨fun _ _ => rfl, fun _ _ _ => rfl, fun _ _ => rfl⟩
theorem cur44 {t : Nat → Int32} {n a : Nat} (h : cur t n a = nI 44) : a + 1 ≤ n := cur_lt h (by decide)
theorem lkB_le {t : Nat → Int32} {n i a : Nat} (h : a ≤ n) (hc : ¬ i = 0 → cur t n (skp t n a) = nI 44) : lkB' t n i a ≤ n := by
  unfold lkB'
  split
  · exact h
  · next q => exact cur44 (hc q)
def LkP (t : Nat → Int32) (n k : Nat) (w : Int32) (U : Sto) (f : Int32) (r : LkR) : Prop := U 120 = t ∧ U 114 19 = w ∧ f = nI r.1 ∧ r.1 ≤ 2 ∧ (r.1 = 0 → U 114 15 = nI r.2.2.1 ∧ r.2.2.1 ≤ n ∧ U 124 k = r.2.2.2) ∧ (¬ r.1 = 0 → U 114 14 = nI r.2.1)
theorem mtlG_U {t : Nat → Int32} {n k a : Nat} {w hi : Int32} (hn : n ≤ 240) (hhi : hi = (nI 1 <<< (w &&& 31)) - nI 1) : ∀ (m i : Nat) (U : Sto) (f : Int32), LkP t n k w U f (lkU t n a w hi i) → LkP t n k w (mtlG n k m i U f).2 (mtlG n k m i U f).1 (lkU t n a w hi (i + m))
  | 0, i, U, f, h => h
  | m + 1, i, U, f, h => by
    obtain ⟨ht, hw, hf, h2, h0, h1⟩ := h
    unfold mtlG
    by_cases c : (lkU t n a w hi i).1 = 0
    · obtain ⟨p1, p2, p3⟩ := h0 c
      have hAt : atN U = (lkU t n a w hi i).2.2.1 := by unfold atN; rw [p1, nI_clamp (by omega)]
      rw [if_pos (by rw [hf, c]; rfl), ht, hAt]
      have es : lkU t n a w hi (i + 1) = lkStep t n w hi i (lkU t n a w hi i) := by rw [lkU, if_pos c]
      split
      · next d =>
        have e1 : lkU t n a w hi (i + 1) = (1, skp t n (lkU t n a w hi i).2.2.1, (lkU t n a w hi i).2.2.1, (lkU t n a w hi i).2.2.2) := by rw [es, lkStep, if_pos d]
        have e2 : lkU t n a w hi (i + (m + 1)) = lkU t n a w hi (i + 1) := by rw [show i + (m + 1) = i + 1 + m by omega]; exact lkU_stay (by rw [e1]; exact Nat.one_ne_zero) m
        rw [e2, e1]
        refine ⟨?_, ?_, rfl, by show 1 ≤ 2; decide, fun z => absurd z (by show ¬ 1 = 0; decide), fun _ => ?_⟩
        · show up2 (up2 U 114 15 (nI (skp t n (lkU t n a w hi i).2.2.1))) 114 14 (nI (skp t n (lkU t n a w hi i).2.2.1)) 120 = t
          rw [up2_ne _ _ _ (by decide), up2_ne _ _ _ (by decide)]
          exact ht
        · show up2 (up2 U 114 15 (nI (skp t n (lkU t n a w hi i).2.2.1))) 114 14 (nI (skp t n (lkU t n a w hi i).2.2.1)) 114 19 = w
          rw [up114b (by decide), up114b (by decide)]
          exact hw
        · show up2 (up2 U 114 15 (nI (skp t n (lkU t n a w hi i).2.2.1))) 114 14 (nI (skp t n (lkU t n a w hi i).2.2.1)) 114 14 = (nI (skp t n (lkU t n a w hi i).2.2.1))
          rw [up2_same, pk_us]
      · next d =>
        rw [show i + (m + 1) = i + 1 + m by omega]
        refine mtlG_U hn hhi m (i + 1) _ _ ?_
        have hc : ¬ i = 0 → cur t n (skp t n (lkU t n a w hi i).2.2.1) = nI 44 := fun z => Classical.byContradiction (fun y => d ⟨z, y⟩)
        have hQ : mtlQ U n i = lkB' t n i (lkU t n a w hi i).2.2.1 := by unfold mtlQ lkB'; rw [ht, hAt]
        have hB := lkB_le (t := t) (i := i) p2 hc
        have hPt : mtlP U n i 120 = t := by rw [mtlP_o (by decide), ht]
        have hX : mtlX U = hi := by unfold mtlX; rw [hw, hhi]
        have hV : mtlV U n i = nI (nmF t n (lkB' t n i (lkU t n a w hi i).2.2.1) (nI 0) hi) := by
          unfold mtlV
          rw [hX, hQ, mtnV_F hn hB, hPt]
        have hV0 : mtlV U n i ≤ 0 ↔ nmF t n (lkB' t n i (lkU t n a w hi i).2.2.1) (nI 0) hi = 0 := by
          rw [hV]
          exact nI_2 (Nat.le_trans nmF_le (by decide))
        have o120 : mtlZ U n k i 120 = t := by rw [mtlZ_o (by decide) (by decide), ht]
        have o19 : mtlZ U n k i 114 19 = w := by rw [mtlZ_k (by omega), hw]
        by_cases e : nmF t n (lkB' t n i (lkU t n a w hi i).2.2.1) (nI 0) hi = 0
        · rw [es, lkStep, if_neg d, if_pos e]
          refine ⟨o120, o19, by rw [hV, e], by show 0 ≤ 2; decide, fun _ => ⟨?_, nmE_le hB, ?_⟩, fun z => absurd rfl z⟩
          · rw [mtlZ_15, hQ, mtnA_0 (lo := nI 0) (hi := hi) (by rw [hPt]; exact e), hPt]
          · unfold mtlZ
            rw [up2_same, pk_us, if_pos (hV0.mpr e)]
            have eU : mtlU U n i = mtn (mtlP U n i) (skp t n (lkB' t n i (lkU t n a w hi i).2.2.1)) (nmE t n (lkB' t n i (lkU t n a w hi i).2.2.1)) (nmV t n (lkB' t n i (lkU t n a w hi i).2.2.1)) := by
              unfold mtlU
              rw [hX, hQ, mtnS_0 hn hB (by rw [hPt]; exact e), hPt]
            rw [eU, mtn_16, mtn_k (by omega), mtn_o (by decide), mtlP_k (by decide), mtlP_o (by decide), p3, hw]
        · rw [es, lkStep, if_neg d, if_neg e]
          refine ⟨o120, o19, hV, nmF_le, fun z => absurd z e, fun _ => ?_⟩
          unfold mtlZ mtlU
          rw [up2_ne _ _ _ (by decide), hX, hQ, mtnS_14 hn hB (by rw [hPt]; exact e), hPt]
    · rw [if_neg (fun z => c ((nI_z (by omega)).mp (hf ▸ z))), show i + (m + 1) = i + (m + 1) from rfl, lkU_stay c (m + 1)]
      exact ⟨ht, hw, hf, h2, h0, h1⟩
/-! a clause: what is kept -/
def WI (S : Sto) (n a kl kc kf hh : Nat) : Prop := S 114 13 = nI n ∧ S 114 15 = nI a ∧ a ≤ n ∧ (S 114 20 = nI kl ∧ kl ≤ 4) ∧ (S 114 22 = nI kc ∧ kc ≤ 6) ∧ (S 114 25 = nI kf ∧ kf ≤ 5) ∧ (S 114 18 = nI hh ∧ hh ≤ 5) ∧ (S 114 27 = nI 0 ∨ S 114 27 = nI 1) ∧ (¬ S 114 18 = 0 → ¬ S 114 19 = 0)
def bodF (S : Sto) (n a kc hh : Nat) (k : Int32) : Nat := if k = nI 0 then twF (S 120) n a else if k = nI 1 then nmF (S 120) n a (nI 0) (mtlH S) else if k = nI 2 then ckF S n a kc else if k = nI 3 then (lkU (S 120) n a (S 114 19) (mtlX S) hh).1 else nmF (S 120) n a (nI 0) (nI 2)
def bodP (S : Sto) (n a hh : Nat) (k : Int32) : Nat := if k = nI 0 then twP (S 120) n a else if k = nI 1 then skp (S 120) n a else if k = nI 2 then ckP S n a else if k = nI 3 then (lkU (S 120) n a (S 114 19) (mtlX S) hh).2.1 else skp (S 120) n a
theorem mtlI_U {S : Sto} {n a kf : Nat} (ha : S 114 15 = nI a) (h : a ≤ n) : LkP (S 120) n kf (S 114 19) (mtlI S kf) (nI 0) (lkU (S 120) n a (S 114 19) (mtlX S) 0) := by
  refine ⟨?_, ?_, rfl, by show 0 ≤ 2; decide, fun _ => ⟨?_, h, ?_⟩, fun z => absurd rfl z⟩
  · rw [mtlI, up2_ne _ _ _ (by decide), up2_ne _ _ _ (by decide)]
  · rw [mtlI, up2_ne _ _ _ (by decide), up114b (by decide)]
  · rw [mtlI, up2_ne _ _ _ (by decide), up114b (by decide)]
    exact ha
  · rw [mtlI, up2_same, pk_us]
    rfl
theorem mtlG_R {S : Sto} {n a kf hh : Nat} (hn : n ≤ 240) (ha : S 114 15 = nI a) (h : a ≤ n) : LkP (S 120) n kf (S 114 19) (mtlG n kf hh 0 (mtlI S kf) (nI 0)).2 (mtlG n kf hh 0 (mtlI S kf) (nI 0)).1 (lkU (S 120) n a (S 114 19) (mtlX S) hh) := by
  have := mtlG_U (t := S 120) (n := n) (k := kf) (a := a) (w := S 114 19) (hi := mtlX S) hn rfl hh 0 (mtlI S kf) (nI 0) (mtlI_U ha h)
  rwa [Nat.zero_add] at this
theorem ckF_le {S : Sto} {n a k : Nat} : ckF S n a k ≤ 4 := by
  unfold ckF
  split
  · split
    · split <;> omega
    · exact Nat.le_trans nmF_le (by decide)
  · exact Nat.le_trans nmF_le (by decide)
theorem twF_le {t : Nat → Int32} {n a : Nat} : twF t n a ≤ 4 := by
  unfold twF
  split <;> exact Nat.le_trans nmF_le (by decide)
theorem bodF_le {S : Sto} {n a kc hh : Nat} {k : Int32} (hn : n ≤ 240) (ha : S 114 15 = nI a) (h : a ≤ n) : bodF S n a kc hh k ≤ 4 := by
  unfold bodF
  split
  · exact twF_le
  · split
    · exact Nat.le_trans nmF_le (by decide)
    · split
      · exact ckF_le
      · split
        · exact Nat.le_trans (mtlG_R (kf := 0) (hh := hh) hn ha h).2.2.2.1 (by decide)
        · exact Nat.le_trans nmF_le (by decide)
theorem bodV_F {S : Sto} {n a kl kc kf hh : Nat} {k : Int32} (hn : n ≤ 240) (ha : S 114 15 = nI a) (h : a ≤ n) : bodV S n a kl kc kf hh k = nI (bodF S n a kc hh k) := by
  unfold bodV bodF
  split
  · exact mtwV_F hn h
  · split
    · rw [mtnV_F hn h, show mtlW S kl 120 = S 120 from up2_ne _ _ _ (by decide)]
    · split
      · exact mcV_F hn h
      · split
        · exact (mtlG_R hn ha h).2.2.1
        · rw [mtnV_F hn h, show mtdW S 120 = S 120 from up2_ne _ _ _ (by decide)]
theorem bodS_14 {S : Sto} {n a kl kc kf hh : Nat} {k : Int32} (hn : n ≤ 240) (ha : S 114 15 = nI a) (h : a ≤ n) (h0 : ¬ bodF S n a kc hh k = 0) : bodS S n a kl kc kf hh k 114 14 = nI (bodP S n a hh k) := by
  unfold bodF at h0
  unfold bodS bodP
  split
  · rw [if_pos (by assumption)] at h0
    exact mtwS_14 hn h h0
  · rw [if_neg (by assumption)] at h0
    split
    · rw [if_pos (by assumption)] at h0
      exact mtlS_14 hn h h0
    · rw [if_neg (by assumption)] at h0
      split
      · rw [if_pos (by assumption)] at h0
        exact mcS_14 hn h h0
      · rw [if_neg (by assumption)] at h0
        split
        · rw [if_pos (by assumption)] at h0
          exact (mtlG_R hn ha h).2.2.2.2.2 h0
        · rw [if_neg (by assumption)] at h0
          exact mtdS_14 hn h h0
theorem nm25 {t : Nat → Int32} {n a : Nat} (h : nmF t n a (nI 2) (nI 5) = 0) : 2 ≤ nmV t n a ∧ nmV t n a ≤ 5 := by
  obtain ⟨_, h1, h2, h3⟩ := nmF_0.mp h
  have b : nmV t n a < 1000 := by
    have q := numV_b t (skp t n a) (nmE t n a - skp t n a)
    have : 10 ^ (nmE t n a - skp t n a) ≤ 10 ^ 3 := Nat.pow_le_pow_right (by decide) h1
    unfold nmV
    omega
  exact ⟨(nI_leI (by decide) (by omega)).mp h2, (nI_leI (by omega) (by decide)).mp h3⟩
/-- the place behind the body, when it is taken -/
def bodE (S : Sto) (n a hh : Nat) (k : Int32) : Nat := if k = nI 0 then nmE (S 120) n (nmE (S 120) n a) else if k = nI 2 then nmE (S 120) n (nmE (S 120) n a) else if k = nI 3 then (lkU (S 120) n a (S 114 19) (mtlX S) hh).2.2.1 else nmE (S 120) n a
theorem bodE_le {S : Sto} {n a kc hh : Nat} {k : Int32} (hn : n ≤ 240) (ha : S 114 15 = nI a) (h : a ≤ n) (h0 : bodF S n a kc hh k = 0) : bodE S n a hh k ≤ n := by
  unfold bodE
  split
  · exact nmE_le (nmE_le h)
  · split
    · exact nmE_le (nmE_le h)
    · split
      · next c1 c2 c3 =>
        have : (lkU (S 120) n a (S 114 19) (mtlX S) hh).1 = 0 := by
          rw [bodF, if_neg c1, if_neg (fun z => by rw [c3] at z; exact absurd z (by decide)), if_neg c2, if_pos c3] at h0
          exact h0
        exact ((mtlG_R (kf := 0) (hh := hh) hn ha h).2.2.2.2.1 this).2.1
      · exact nmE_le h
theorem lkU_ge {t : Nat → Int32} {n a : Nat} {w hi : Int32} : ∀ i, a ≤ (lkU t n a w hi i).2.2.1
  | 0 => Nat.le_refl _
  | i + 1 => by
    have := lkU_ge (t := t) (n := n) (a := a) (w := w) (hi := hi) i
    unfold lkU
    split
    · unfold lkStep
      split
      · exact this
      · split
        · refine Nat.le_trans (Nat.le_trans this ?_) nmE_ge
          unfold lkB'
          split
          · exact Nat.le_refl _
          · exact Nat.le_succ_of_le skp_ge
        · exact this
    · exact this
theorem bodE_ge {S : Sto} {n a hh : Nat} {k : Int32} : a ≤ bodE S n a hh k := by
  unfold bodE
  split
  · exact Nat.le_trans nmE_ge nmE_ge
  · split
    · exact Nat.le_trans nmE_ge nmE_ge
    · split
      · exact lkU_ge hh
      · exact nmE_ge
theorem bod_0 {S : Sto} {n a kl kc kf hh : Nat} {k : Int32} (hn : n ≤ 240) (h0 : bodF S n a kc hh k = 0) (hW : WI S n a kl kc kf hh) (g1 : k = nI 1 → kl < 4) (g2 : k = nI 2 → kc < 6) (g3 : k = nI 3 → kf < 5) : ∃ kl' kc' kf' hh', WI (bodS S n a kl kc kf hh k) n (bodE S n a hh k) kl' kc' kf' hh' ∧ bodS S n a kl kc kf hh k 120 = S 120 := by
  obtain ⟨w13, w15, wa, ⟨w20, wl⟩, ⟨w22, wc⟩, ⟨w25, wf⟩, ⟨w18, wh⟩, w27, w19⟩ := hW
  have hE := bodE_le (kc := kc) (k := k) (hh := hh) hn w15 wa h0
  unfold bodF at h0
  unfold bodE at hE ⊢
  unfold bodS
  by_cases c0 : k = nI 0
  · rw [if_pos c0] at h0 hE ⊢
    rw [if_pos c0]
    obtain ⟨f1, f2, e18, e19, e15, eo, er⟩ := mtwS_0 hn wa h0
    refine ⟨kl, kc, kf, nmV (S 120) n a, ⟨by rw [eo 13 (by omega)]; exact w13, e15, hE, ⟨by rw [eo 20 (by omega)]; exact w20, wl⟩, ⟨by rw [eo 22 (by omega)]; exact w22, wc⟩, ⟨by rw [eo 25 (by omega)]; exact w25, wf⟩, ⟨e18, (nm25 f1).2⟩, by rw [eo 27 (by omega)]; exact w27, fun _ z => ?_⟩, er 120 (by decide)⟩
    have q := nm25 f2
    rw [e19] at z
    have := (nI_z (by omega)).mp z
    omega
  · rw [if_neg c0] at h0 hE ⊢
    rw [if_neg c0]
    by_cases c1 : k = nI 1
    · have c2 : ¬ k = nI 2 := fun z => by rw [c1] at z; exact absurd z (by decide)
      have c3 : ¬ k = nI 3 := fun z => by rw [c1] at z; exact absurd z (by decide)
      rw [if_pos c1] at h0
      rw [if_neg c2, if_neg c3] at hE
      rw [if_pos c1, if_neg c2, if_neg c3]
      obtain ⟨e15, e20, eo, _, er⟩ := mtlS_0 (k := kl) hn wa h0
      have hl := g1 c1
      exact ⟨kl + 1, kc, kf, hh, ⟨by rw [eo 13 (by omega) (by decide)]; exact w13, e15, hE, ⟨e20, by omega⟩, ⟨by rw [eo 22 (by omega) (by decide)]; exact w22, wc⟩, ⟨by rw [eo 25 (by omega) (by decide)]; exact w25, wf⟩, ⟨by rw [eo 18 (by omega) (by decide)]; exact w18, wh⟩, by rw [eo 27 (by omega) (by decide)]; exact w27, by rw [eo 18 (by omega) (by decide), eo 19 (by omega) (by decide)]; exact w19⟩, er 120 (by decide) (by decide)⟩
    · rw [if_neg c1] at h0
      rw [if_neg c1]
      by_cases c2 : k = nI 2
      · rw [if_pos c2] at h0 hE ⊢
        rw [if_pos c2]
        obtain ⟨e15, e22, eo, _, _, er⟩ := mcS_0 (k := kc) hn wa h0
        have hl := g2 c2
        exact ⟨kl, kc + 1, kf, hh, ⟨by rw [eo 13 (by omega) (by decide)]; exact w13, e15, hE, ⟨by rw [eo 20 (by omega) (by decide)]; exact w20, wl⟩, ⟨e22, by omega⟩, ⟨by rw [eo 25 (by omega) (by decide)]; exact w25, wf⟩, ⟨by rw [eo 18 (by omega) (by decide)]; exact w18, wh⟩, by rw [eo 27 (by omega) (by decide)]; exact w27, by rw [eo 18 (by omega) (by decide), eo 19 (by omega) (by decide)]; exact w19⟩, er 120 (by decide) (by decide) (by decide)⟩
      · rw [if_neg c2] at h0 hE ⊢
        rw [if_neg c2]
        by_cases c3 : k = nI 3
        · rw [if_pos c3] at h0 hE ⊢
          rw [if_pos c3]
          have hl := g3 c3
          obtain ⟨r1, _, _, _, r0, _⟩ := mtlG_R (kf := kf) (hh := hh) hn w15 wa
          obtain ⟨p1, p2, p3⟩ := r0 h0
          obtain ⟨eo, er, _⟩ := mtlG_f (n := n) (k := kf) hh 0 (mtlI S kf) (nI 0)
          have ei : ∀ j, j ≠ 25 → mtlI S kf 114 j = S 114 j := fun j hj => by rw [mtlI, up2_ne _ _ _ (by decide), up114b hj]
          exact ⟨kl, kc, kf + 1, hh, ⟨by rw [eo 13 (by omega), ei 13 (by decide)]; exact w13, p1, p2, ⟨by rw [eo 20 (by omega), ei 20 (by decide)]; exact w20, wl⟩, ⟨by rw [eo 22 (by omega), ei 22 (by decide)]; exact w22, wc⟩, ⟨by rw [eo 25 (by omega), mtlI, up2_ne _ _ _ (by decide), up2_same, pk_us], by omega⟩, ⟨by rw [eo 18 (by omega), ei 18 (by decide)]; exact w18, wh⟩, by rw [eo 27 (by omega), ei 27 (by decide)]; exact w27, by rw [eo 18 (by omega), eo 19 (by omega), ei 18 (by decide), ei 19 (by decide)]; exact w19⟩, r1⟩
        · rw [if_neg c3] at h0 hE ⊢
          rw [if_neg c3]
          obtain ⟨e15, e27, _, eo, er⟩ := mtdS_0 hn wa h0
          exact ⟨kl, kc, kf, hh, ⟨by rw [eo 13 (by omega) (by decide) (by decide)]; exact w13, e15, hE, ⟨by rw [eo 20 (by omega) (by decide) (by decide)]; exact w20, wl⟩, ⟨by rw [eo 22 (by omega) (by decide) (by decide)]; exact w22, wc⟩, ⟨by rw [eo 25 (by omega) (by decide) (by decide)]; exact w25, wf⟩, ⟨by rw [eo 18 (by omega) (by decide) (by decide)]; exact w18, wh⟩, Or.inr e27, by rw [eo 18 (by omega) (by decide) (by decide), eo 19 (by omega) (by decide) (by decide)]; exact w19⟩, er 120 (by decide)⟩
theorem WI_at {S : Sto} {n a b kl kc kf hh : Nat} {v : Nat} (h : WI S n a kl kc kf hh) (hb : v ≤ n) : WI (up2 S 114 15 (nI v)) n v kl kc kf hh := by
  obtain ⟨w13, w15, wa, ⟨w20, wl⟩, ⟨w22, wc⟩, ⟨w25, wf⟩, ⟨w18, wh⟩, w27, w19⟩ := h
  refine ⟨?_, by rw [up2_same, pk_us], hb, ⟨?_, wl⟩, ⟨?_, wc⟩, ⟨?_, wf⟩, ⟨?_, wh⟩, ?_, ?_⟩
  · rw [up114b (by decide)]; exact w13
  · rw [up114b (by decide)]; exact w20
  · rw [up114b (by decide)]; exact w22
  · rw [up114b (by decide)]; exact w25
  · rw [up114b (by decide)]; exact w18
  · rw [up114b (by decide)]; exact w27
  · rw [up114b (by decide), up114b (by decide)]; exact w19
theorem mfull_g {S : Sto} {n a kl kc kf hh : Nat} {k : Int32} (hW : WI S n a kl kc kf hh) (h : mfullV S k = 0) : (k = nI 1 → kl < 4) ∧ (k = nI 2 → kc < 6) ∧ (k = nI 3 → kf < 5) := by
  obtain ⟨w13, w15, wa, ⟨w20, wl⟩, ⟨w22, wc⟩, ⟨w25, wf⟩, ⟨w18, wh⟩, w27, w19⟩ := hW
  refine ⟨fun z => ?_, fun z => ?_, fun z => ?_⟩
  · rw [z, mfullV, if_neg n10, if_pos rfl] at h
    rcases Nat.lt_or_ge kl 4 with q | q
    · exact q
    · rw [if_pos (by rw [w20, show kl = 4 by omega])] at h
      exact absurd h (by decide)
  · rw [z, mfullV, if_neg n20, if_neg n21, if_pos rfl] at h
    rcases Nat.lt_or_ge kc 6 with q | q
    · exact q
    · rw [if_pos (by rw [w22, show kc = 6 by omega])] at h
      exact absurd h (by decide)
  · rw [z, mfullV, if_neg n30, if_neg n31, if_neg n32, if_pos rfl] at h
    rcases Nat.lt_or_ge kf 5 with q | q
    · exact q
    · rw [if_pos (by rw [w25, show kf = 5 by omega])] at h
      exact absurd h (by decide)
theorem mq_0 {S : Sto} {n a kl kc kf hh : Nat} (hn : n ≤ 240) (hW : WI S n a kl kc kf hh) (h : mqV S n a kl kc kf hh = 0) : ∃ a' kl' kc' kf' hh', a < a' ∧ WI (mqS S n a kl kc kf hh) n a' kl' kc' kf' hh' := by
  unfold mqV at h
  unfold mqS
  split at h
  · exact absurd h (by decide)
  · next b1 =>
    rw [if_neg b1]
    split at h
    · exact absurd h (by decide)
    · next b2 =>
      rw [if_neg b2]
      split at h
      · exact absurd h (by decide)
      · next b3 =>
        rw [if_neg b3, if_pos h]
        have hnf : mfullV S (isK (mqC S n a)) = 0 := Classical.byContradiction b2
        have hs : skp (S 120) n a < n := isK_lt (t := S 120) (fun z => b1 (Or.inl z))
        have hW1 : WI (mq1 S n a) n (skp (S 120) n a + 1) kl kc kf hh := WI_at (b := 0) hW hs
        obtain ⟨g1, g2, g3⟩ := mfull_g hW hnf
        have hF : bodF (mq1 S n a) n (skp (S 120) n a + 1) kc hh (isK (mqC S n a)) = 0 := by
          have e := h
          unfold mqF at e
          rw [bodV_F hn hW1.2.1 hW1.2.2.1] at e
          exact (nI_z (Nat.le_trans (bodF_le hn hW1.2.1 hW1.2.2.1) (by decide))).mp e
        obtain ⟨kl', kc', kf', hh', hW2, ht⟩ := bod_0 (kl := kl) (kf := kf) hn hF hW1 g1 g2 g3
        have hge := bodE_ge (S := mq1 S n a) (n := n) (a := skp (S 120) n a + 1) (hh := hh) (k := isK (mqC S n a))
        have hc : cur (mqT S n a kl kc kf hh 120) n (mqE S n a kl kc kf hh) = nI 59 := Classical.byContradiction (fun z => b3 ⟨h, z⟩)
        have hA : atN (mqT S n a kl kc kf hh) = bodE (mq1 S n a) n (skp (S 120) n a + 1) hh (isK (mqC S n a)) := by
          have := hW2.2.2.1
          unfold atN mqT
          rw [hW2.2.1, nI_clamp (by omega)]
        have hlt : mqE S n a kl kc kf hh < n := cur_lt hc (by decide)
        have hg : atN (mqT S n a kl kc kf hh) ≤ mqE S n a kl kc kf hh := skp_ge
        have hg2 : a ≤ skp (S 120) n a := skp_ge
        exact ⟨mqE S n a kl kc kf hh + 1, kl', kc', kf', hh', by omega, WI_at (b := 0) hW2 hlt⟩
theorem mqV_n {S : Sto} {n a kl kc kf hh : Nat} (hn : n ≤ 240) (hW : WI S n a kl kc kf hh) : ∃ k, k ≤ 4 ∧ mqV S n a kl kc kf hh = nI k := by
  unfold mqV
  split
  · exact ⟨1, by decide, rfl⟩
  · split
    · exact ⟨3, by decide, rfl⟩
    · split
      · exact ⟨1, by decide, rfl⟩
      · next b1 b2 b3 =>
        have hs : skp (S 120) n a < n := isK_lt (t := S 120) (fun z => b1 (Or.inl z))
        have hW1 : WI (mq1 S n a) n (skp (S 120) n a + 1) kl kc kf hh := WI_at (b := 0) hW hs
        unfold mqF
        rw [bodV_F hn hW1.2.1 hW1.2.2.1]
        exact ⟨_, bodF_le hn hW1.2.1 hW1.2.2.1, rfl⟩
/-! the whole text -/
def kN (S : Sto) (j : Nat) : Nat := (S 114 j).toNatClampNeg
def mwW (S : Sto) : Sto := up2 (up2 (up2 (up2 (up2 (up2 (up2 (up2 (up2 S 114 14 (-1)) 114 15 (nI 0)) 114 18 (nI 0)) 114 19 (nI 0)) 114 20 (nI 0)) 114 22 (nI 0)) 114 25 (nI 0)) 114 27 (nI 0)) 114 28 (nI 0)
def mwT (S : Sto) (n : Nat) : Sto := up2 S 114 15 (nI (skp (S 120) n (atN S)))
def mwC (S : Sto) (n : Nat) : Int32 := cur (S 120) n (skp (S 120) n (atN S))
def mwV (T : Sto) (n : Nat) : Int32 := mqV T n (atN T) (kN T 20) (kN T 22) (kN T 25) (kN T 18)
def mwS (T : Sto) (n : Nat) : Sto := mqS T n (atN T) (kN T 20) (kN T 22) (kN T 25) (kN T 18)
def mwG (n : Nat) : Nat → Sto → Int32 → Int32 × Sto
  | 0, S, f => (f, S)
  | m + 1, S, f => if f = 0 then (if mwC S n < 0 then (f, mwT S n) else mwG n m (mwS (mwT S n) n) (mwV (mwT S n) n)) else (f, S)
def mwR (S : Sto) (n : Nat) : Int32 × Sto := mwG n 241 (mwW S) (nI 0)
def mwalS (U : Sto) : Sto := up2 (up2 (up2 (up2 (mtrS (up2 U 114 13 (nI 0)) (kN U 20) (kN U 22) (kN U 25)) 114 35 (nI 0)) 114 32 (nI 0)) 133 0 (nI 0)) 133 1 (nI 0)
theorem WI_N {S : Sto} {n a kl kc kf hh : Nat} (hn : n ≤ 240) (h : WI S n a kl kc kf hh) : atN S = a ∧ kN S 20 = kl ∧ kN S 22 = kc ∧ kN S 25 = kf ∧ kN S 18 = hh := by
  obtain ⟨w13, w15, wa, ⟨w20, wl⟩, ⟨w22, wc⟩, ⟨w25, wf⟩, ⟨w18, wh⟩, w27, w19⟩ := h
  unfold atN kN
  rw [w15, w20, w22, w25, w18]
  exact ⟨nI_clamp (by omega), nI_clamp (by omega), nI_clamp (by omega), nI_clamp (by omega), nI_clamp (by omega)⟩
theorem mw_V {S : Sto} {n a kl kc kf hh : Nat} (hn : n ≤ 240) (h : WI S n a kl kc kf hh) : mwV S n = mqV S n a kl kc kf hh := by
  obtain ⟨e1, e2, e3, e4, e5⟩ := WI_N hn h
  unfold mwV
  rw [e1, e2, e3, e4, e5]
theorem mw_S {S : Sto} {n a kl kc kf hh : Nat} (hn : n ≤ 240) (h : WI S n a kl kc kf hh) : mwS S n = mqS S n a kl kc kf hh := by
  obtain ⟨e1, e2, e3, e4, e5⟩ := WI_N hn h
  unfold mwS
  rw [e1, e2, e3, e4, e5]
theorem mw_T {S : Sto} {n a kl kc kf hh : Nat} (hn : n ≤ 240) (h : WI S n a kl kc kf hh) : mwT S n = up2 S 114 15 (nI (skp (S 120) n a)) := by
  unfold mwT
  rw [(WI_N hn h).1]
theorem mw_C {S : Sto} {n a kl kc kf hh : Nat} (hn : n ≤ 240) (h : WI S n a kl kc kf hh) : mwC S n = cur (S 120) n (skp (S 120) n a) := by
  unfold mwC
  rw [(WI_N hn h).1]
theorem mwG_n {n : Nat} : ∀ (m : Nat) (S : Sto) (f : Int32), ¬ f = 0 → mwG n m S f = (f, S)
  | 0, _, _, _ => rfl
  | m + 1, S, f, h => by rw [mwG, if_neg h]
theorem mwW_I {S : Sto} {n : Nat} (hn : S 114 13 = nI n) : WI (mwW S) n 0 0 0 0 0 := by
  unfold mwW
  refine ⟨?_, ?_, Nat.zero_le _, ⟨?_, Nat.zero_le _⟩, ⟨?_, Nat.zero_le _⟩, ⟨?_, Nat.zero_le _⟩, ⟨?_, Nat.zero_le _⟩, Or.inl ?_, fun z => absurd ?_ z⟩
  · rw [up114b (by decide), up114b (by decide), up114b (by decide), up114b (by decide), up114b (by decide), up114b (by decide), up114b (by decide), up114b (by decide), up114b (by decide)]
    exact hn
  · rw [up114b (by decide), up114b (by decide), up114b (by decide), up114b (by decide), up114b (by decide), up114b (by decide), up114b (by decide), up2_same, pk_us]
  · rw [up114b (by decide), up114b (by decide), up114b (by decide), up114b (by decide), up2_same, pk_us]
  · rw [up114b (by decide), up114b (by decide), up114b (by decide), up2_same, pk_us]
  · rw [up114b (by decide), up114b (by decide), up2_same, pk_us]
  · rw [up114b (by decide), up114b (by decide), up114b (by decide), up114b (by decide), up114b (by decide), up114b (by decide), up2_same, pk_us]
  · rw [up114b (by decide), up2_same, pk_us]
  · rw [up114b (by decide), up114b (by decide), up114b (by decide), up114b (by decide), up114b (by decide), up114b (by decide), up2_same, pk_us]
    rfl
set_option maxHeartbeats 4000000 in
set_option maxRecDepth 100000 in
theorem c_X11_wall (l : Launch) (C : JC) (hC : JInj C) (S : Sto) (n : Nat) (hn : S 114 13 = nI n) (hn240 : n ≤ 240) : Con l C yX11_wall cX11_wall 2 (some .int) 12 [.ref (C.2.1 114)] S (some (.int (if (mwR S n).1 ≤ 0 then mcl (mwalS (mwR S n).2) else -10 - (mwR S n).1))) (if (mwR S n).1 ≤ 0 then mwalS (mwR S n).2 else up2 (mwR S n).2 114 13 (nI 0)) := by
  refine con_of RX11 1 [some (.ref (C.2.1 114)), none] (by decide) rfl hC (Nat.le_of_ble_eq_true rfl) rfl (Nat.le_of_ble_eq_true rfl) (fun E hE hR => ?_)
  refine j_aload0 hE dX11_wall_0 ?_
  refine j_iconst hE (-1) dX11_wall_1 kiconst_m1 ?_
  refine j_puti hE pX11_28 dX11_wall_2 (by first | assumption | rfl) rfl rfl ?_
  refine j_aload0 hE dX11_wall_5 ?_
  refine j_iconst hE (nI 0) dX11_wall_6 kiconst_0 ?_
  refine j_puti hE pX11_102 dX11_wall_7 (by first | assumption | rfl) rfl rfl ?_
  refine j_aload0 hE dX11_wall_10 ?_
  refine j_iconst hE (nI 0) dX11_wall_11 kiconst_0 ?_
  refine j_puti hE pX11_125 dX11_wall_12 (by first | assumption | rfl) rfl rfl ?_
  refine j_aload0 hE dX11_wall_15 ?_
  refine j_iconst hE (nI 0) dX11_wall_16 kiconst_0 ?_
  refine j_puti hE pX11_128 dX11_wall_17 (by first | assumption | rfl) rfl rfl ?_
  refine j_aload0 hE dX11_wall_20 ?_
  refine j_iconst hE (nI 0) dX11_wall_21 kiconst_0 ?_
  refine j_puti hE pX11_131 dX11_wall_22 (by first | assumption | rfl) rfl rfl ?_
  refine j_aload0 hE dX11_wall_25 ?_
  refine j_iconst hE (nI 0) dX11_wall_26 kiconst_0 ?_
  refine j_puti hE pX11_141 dX11_wall_27 (by first | assumption | rfl) rfl rfl ?_
  refine j_aload0 hE dX11_wall_30 ?_
  refine j_iconst hE (nI 0) dX11_wall_31 kiconst_0 ?_
  refine j_puti hE pX11_152 dX11_wall_32 (by first | assumption | rfl) rfl rfl ?_
  refine j_aload0 hE dX11_wall_35 ?_
  refine j_iconst hE (nI 0) dX11_wall_36 kiconst_0 ?_
  refine j_puti hE pX11_155 dX11_wall_37 (by first | assumption | rfl) rfl rfl ?_
  refine j_aload0 hE dX11_wall_40 ?_
  refine j_iconst hE (nI 0) dX11_wall_41 kiconst_0 ?_
  refine j_puti hE pX11_159 dX11_wall_42 (by first | assumption | rfl) rfl rfl ?_
  refine j_eqS (S' := mwW S) rfl ?_
  refine j_iconst hE (nI 0) dX11_wall_45 kiconst_0 ?_
  refine j_istore1 hE dX11_wall_46 rfl ?_
  have L47 : ∀ (fu : Nat) (m : Nat) (U : Sto) (f : Int32), m < fu → (f = 0 → ∃ a kl kc kf hh, WI U n a kl kc kf hh ∧ n - a < m) → (¬ f = 0 → ¬ f ≤ 0) → (mwG n m U f = (mwR S n)) → J C E U 47 [some (.ref (C.2.1 114)), some (.int f)] [] := by
    intro fu
    induction fu with
    | zero => intro m U f hm; omega
    | succ fu ih =>
      intro m U f hm hI hN hG
      refine j_iload1 hE dX11_wall_47 ?_
      refine j_ifne hE 66 dX11_wall_48 (by decide) (fun c48 => ?_) (fun c48 => ?_)
      · skip
        have hGG : (f, U) = (mwR S n) := by rw [← hG, mwG_n m U f c48]
        refine j_aload0 hE dX11_wall_66 ?_
        refine j_iconst hE (nI 0) dX11_wall_67 kiconst_0 ?_
        refine j_puti hE pX11_98 dX11_wall_68 (by first | assumption | rfl) rfl rfl ?_
        refine j_iload1 hE dX11_wall_71 ?_
        refine j_ifle hE 80 dX11_wall_72 (by decide) (fun c72 => ?_) (fun c72 => ?_)
        · skip
          exact absurd c72 (hN c48)
        · skip
          refine j_bipush hE (-10) dX11_wall_75 kbipush_m10 ?_
          refine j_iload1 hE dX11_wall_77 ?_
          refine j_isub hE dX11_wall_78 ?_
          exact j_iret hE hR dX11_wall_79 (by rw [← hGG, if_neg (hN c48)]) (by rw [← hGG, if_neg (hN c48)])
      · skip
        obtain ⟨a, kl, kc, kf, hh, hW, ham⟩ := hI c48
        obtain ⟨k, rfl⟩ : ∃ k, m = k + 1 := ⟨m - 1, by omega⟩
        have hW1 : WI (up2 U 114 15 (nI (skp (U 120) n a))) n (skp (U 120) n a) kl kc kf hh := WI_at (b := 0) hW (skp_le hW.2.2.1)
        have hG2 := hG
        rw [mwG, if_pos c48, mw_C hn240 hW] at hG2
        refine j_aload0 hE dX11_wall_51 ?_
        refine j_V0i hE mX11_105 (c_X11_here l C hC _ n hW.1 hn240 a hW.2.1 hW.2.2.1) dX11_wall_52 (by first | assumption | rfl) (by decide) (Nat.le_of_ble_eq_true rfl) ?_
        refine j_iflt hE 66 dX11_wall_55 (by decide) (fun c55 => ?_) (fun c55 => ?_)
        · skip
          have hGG : (f, up2 U 114 15 (nI (skp (U 120) n a))) = (mwR S n) := by rw [← hG2, if_pos c55, mw_T hn240 hW]
          refine j_aload0 hE dX11_wall_66 ?_
          refine j_iconst hE (nI 0) dX11_wall_67 kiconst_0 ?_
          refine j_puti hE pX11_98 dX11_wall_68 (by first | assumption | rfl) rfl rfl ?_
          refine j_iload1 hE dX11_wall_71 ?_
          refine j_ifle hE 80 dX11_wall_72 (by decide) (fun c72 => ?_) (fun c72 => ?_)
          · skip
            refine j_aload0 hE dX11_wall_80 ?_
            have hr13 : ∀ j, j ≠ 13 → up2 (up2 U 114 15 (nI (skp (U 120) n a))) 114 13 (nI 0) 114 j = up2 U 114 15 (nI (skp (U 120) n a)) 114 j := fun j hj => up114b hj
            refine j_V0v hE mX11_195 (c_X11_takeRead l C hC _ kl ((hr13 20 (by decide)).trans hW1.2.2.2.1.1) hW1.2.2.2.1.2 kc ((hr13 22 (by decide)).trans hW1.2.2.2.2.1.1) hW1.2.2.2.2.1.2 kf ((hr13 25 (by decide)).trans hW1.2.2.2.2.2.1.1) hW1.2.2.2.2.2.1.2) dX11_wall_81 (by first | assumption | rfl) (by decide) (Nat.le_of_ble_eq_true rfl) ?_
            refine j_aload0 hE dX11_wall_84 ?_
            refine j_iconst hE (nI 0) dX11_wall_85 kiconst_0 ?_
            refine j_puti hE pX11_198 dX11_wall_86 (by first | assumption | rfl) rfl rfl ?_
            refine j_aload0 hE dX11_wall_89 ?_
            refine j_iconst hE (nI 0) dX11_wall_90 kiconst_0 ?_
            refine j_puti hE pX11_201 dX11_wall_91 (by first | assumption | rfl) rfl rfl ?_
            refine j_aload0 hE dX11_wall_94 ?_
            refine j_getr hE fX11_68 dX11_wall_95 (j := 133) (by first | assumption | rfl) (rfl) ?_
            refine j_iconst hE (nI 0) dX11_wall_98 kiconst_0 ?_
            refine j_iconst hE (nI 0) dX11_wall_99 kiconst_0 ?_
            refine j_zast hE dX11_wall_100 (rfl) (vp_in_nI (by decide) (by decide)) rfl ?_
            refine j_aload0 hE dX11_wall_101 ?_
            refine j_getr hE fX11_68 dX11_wall_102 (j := 133) (by first | assumption | rfl) (rfl) ?_
            refine j_iconst hE (nI 1) dX11_wall_105 kiconst_1 ?_
            refine j_iconst hE (nI 0) dX11_wall_106 kiconst_0 ?_
            refine j_zast hE dX11_wall_107 (rfl) (vp_in_nI (by decide) (by decide)) rfl ?_
            refine j_aload0 hE dX11_wall_108 ?_
            refine j_V0i hE mX11_78 (c_X11_cells l C hC _) dX11_wall_109 (by first | assumption | rfl) (by decide) (Nat.le_of_ble_eq_true rfl) ?_
            exact j_iret hE hR dX11_wall_112 (by rw [← hGG, if_pos (show f ≤ 0 by rw [c48]; decide)]; unfold mwalS; rw [(WI_N hn240 hW1).2.1, (WI_N hn240 hW1).2.2.1, (WI_N hn240 hW1).2.2.2.1, show (nI 0).toNatClampNeg = 0 from rfl, show (nI 1).toNatClampNeg = 1 from rfl]) (by rw [← hGG, if_pos (show f ≤ 0 by rw [c48]; decide)]; unfold mwalS; rw [(WI_N hn240 hW1).2.1, (WI_N hn240 hW1).2.2.1, (WI_N hn240 hW1).2.2.2.1, show (nI 0).toNatClampNeg = 0 from rfl, show (nI 1).toNatClampNeg = 1 from rfl])
          · skip
            exact absurd (show f ≤ 0 by rw [c48]; decide) c72
        · skip
          refine j_aload0 hE dX11_wall_58 ?_
          refine j_V0i hE mX11_192 (c_X11_takeClause l C hC _ n hW1.1 hn240 (skp (U 120) n a) hW1.2.1 hW1.2.2.1 kl hW1.2.2.2.1.1 kc hW1.2.2.2.2.1.1 kf hW1.2.2.2.2.2.1.1 hh hW1.2.2.2.2.2.2.1.1 hW1.2.2.2.2.2.2.1.2 hW1.2.2.2.1.2 hW1.2.2.2.2.1.2 hW1.2.2.2.2.2.1.2 hW1.2.2.2.2.2.2.2.1 hW1.2.2.2.2.2.2.2.2) dX11_wall_59 (by first | assumption | rfl) (by decide) (Nat.le_of_ble_eq_true rfl) ?_
          refine j_istore1 hE dX11_wall_62 rfl ?_
          refine j_goto hE 47 dX11_wall_63 (by decide) ?_
          refine ih k _ _ (by omega) ?_ ?_ ?_
          · intro z
            obtain ⟨a2, kl2, kc2, kf2, hh2, hlt, hW2⟩ := mq_0 hn240 hW1 z
            have hle := hW2.2.2.1
            have hge : a ≤ skp (U 120) n a := skp_ge
            exact ⟨a2, kl2, kc2, kf2, hh2, hW2, by omega⟩
          · intro z y
            obtain ⟨q, hq, e⟩ := mqV_n hn240 hW1
            rw [e] at z y
            exact z (by rw [(nI_2 (by omega)).mp y]; rfl)
          · rw [← hG2, if_neg c55, mw_T hn240 hW, mw_V hn240 hW1, mw_S hn240 hW1]
  exact L47 242 241 _ _ (by omega) (fun _ => ⟨0, 0, 0, 0, 0, mwW_I hn, by omega⟩) (fun z => absurd rfl z) rfl

set_option maxHeartbeats 4000000 in
set_option maxRecDepth 100000 in
theorem c_X11_fault (l : Launch) (C : JC) (hC : JInj C) (S : Sto)  : Con l C yX11_fault cX11_fault 1 (some .int) 1 [.ref (C.2.1 114)] S (some (.int (S 114 14))) (S) := by
  refine con_of RX11 0 [some (.ref (C.2.1 114))] (by decide) rfl hC (Nat.le_of_ble_eq_true rfl) rfl (Nat.le_of_ble_eq_true rfl) (fun E hE hR => ?_)
  refine j_aload0 hE dX11_fault_0 ?_
  refine j_geti hE fX11_28 dX11_fault_1 (by first | assumption | rfl) ?_
  exact j_iret hE hR dX11_fault_4 (rfl) (rfl)

