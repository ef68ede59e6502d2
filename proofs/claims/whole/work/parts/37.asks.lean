theorem both_ask {l : Launch} {C : JC} {S : Sto} {y1 y2 : MethodName} {c1 c2 : ByteArray} {n1 n2 d1 d2 : Nat} {av : List Value} {v1 v2 : Int32} (h : RR S S) (h1 : Con l C y1 c1 n1 (some .int) d1 (.ref (C.2.1 0) :: av) S (some (.int v1)) S) (h2 : Con l C y2 c2 n2 (some .int) d2 (.ref (C.2.1 114) :: av) S (some (.int v2)) S) (e : v1 = v2) (l1 : d1 ≤ 30) (l2 : d2 ≤ 30) : ∃ v d1 d2 S1 S2, d1 ≤ 30 ∧ d2 ≤ 30 ∧ Con l C y1 c1 n1 (some .int) d1 (.ref (C.2.1 0) :: av) S (some (.int v)) S1 ∧ Con l C y2 c2 n2 (some .int) d2 (.ref (C.2.1 114) :: av) S1 (some (.int v)) S2 ∧ RR S2 S2 := ⟨v1, d1, d2, S, S, l1, l2, h1, e ▸ h2, h⟩
theorem both_do {l : Launch} {C : JC} {S S1 S2 : Sto} {y1 y2 : MethodName} {c1 c2 : ByteArray} {n1 n2 d1 d2 : Nat} {av : List Value} {v1 v2 : Int32} (h1 : Con l C y1 c1 n1 (some .int) d1 (.ref (C.2.1 0) :: av) S (some (.int v1)) S1) (h2 : Con l C y2 c2 n2 (some .int) d2 (.ref (C.2.1 114) :: av) S1 (some (.int v2)) S2) (e : v1 = v2 ∧ RR S1 S2) (f : ∀ i, i < 114 → S2 i = S1 i) (l1 : d1 ≤ 30) (l2 : d2 ≤ 30) : ∃ v d1 d2 S1 S2, d1 ≤ 30 ∧ d2 ≤ 30 ∧ Con l C y1 c1 n1 (some .int) d1 (.ref (C.2.1 0) :: av) S (some (.int v)) S1 ∧ Con l C y2 c2 n2 (some .int) d2 (.ref (C.2.1 114) :: av) S1 (some (.int v)) S2 ∧ RR S2 S2 := ⟨v1, d1, d2, S1, S2, l1, l2, h1, e.1 ▸ h2, e.2.one f⟩
theorem fnd_c {P Q : Nat → Bool} : ∀ n k, (∀ i, k ≤ i → i < k + n → P i = Q i) → fnd P n k = fnd Q n k
  | 0, _, _ => rfl
  | n + 1, k, h => by
    unfold fnd
    rw [h k (by omega) (by omega), fnd_c n (k + 1) (fun i h1 h2 => h i (by omega) (by omega))]
theorem and_z (x : Int32) : nI 0 &&& x = nI 0 := bt_ext (fun k _ => by rw [bt_and, bt_0, Bool.false_and])
theorem bc_0 : bcF (nI 0) = nI 0 := by decide
theorem border_all {T U : Sto} {pp hh ww nl nc nf : Nat} (hP : PLR T pp U hh ww nl nc nf) : bdF T pp (mshF (U 119) (hh * ww)) 4 = mbdF U (hh * ww) (hh * ww) := by
  rcases Nat.eq_zero_or_pos hh with h | h
  · subst h
    rw [Nat.zero_mul]
    show (((nI 0 + bcF (nI 0 &&& (besF T pp (nI 0) (nI 0) ^^^ (-1)))) + bcF (nI 0 &&& (besF T pp (nI 0) (nI 1) ^^^ (-1)))) + bcF (nI 0 &&& (besF T pp (nI 0) (nI 2) ^^^ (-1)))) + bcF (nI 0 &&& (besF T pp (nI 0) (nI 3) ^^^ (-1))) = nI 0
    rw [and_z, and_z, and_z, and_z, bc_0]
    decide
  · exact border_eq hP h
theorem told_eq {T U : Sto} {pp sp hh ww nl nc nf u e nb n : Nat} (h : R T U pp sp hh ww nl nc nf u e nb n) (w : Int32) : toldF T pp nf (hh * ww) hh w = mtoldF U nf (hh * ww) hh w := by
  obtain ⟨-, hP, hD, -, -, hS, -, hB, hT⟩ := id h
  have em : marksF (T 4) 25 = mshF (U 119) (hh * ww) := hD.marks hP.n25
  have ew : wetF (T 4) 25 = wetF (U 119) (hh * ww) := hD.wet hP.n25
  have eg := groups_eq hP (hh * ww) (Nat.le_refl _)
  unfold toldF mtoldF toldL mtoldL
  rw [em, ew, whom_eq hP nf (Nat.le_refl _), may_eq hP nf (Nat.le_refl _), eg.2.1, eg.2.2.2.1, border_all hP, full_eq hP, hP.1.1, hP.1.2.1, hP.1.2.2.2.1, hP.1.2.2.2.2.1, hP.1.2.2.2.2.2.1, hP.2.1.1, hP.2.1.2.1, hP.2.1.2.2.1, hP.2.1.2.2.2.1, hP.2.1.2.2.2.2, hT.1, hT.2.1, hD.2.2.2.1, hD.2.2.2.2.1, hD.2.2.2.2.2.1, hD.2.2.2.2.2.2.1, hD.2.2.2.2.2.2.2, hB.1, hB.2.1, hS.1, hS.2.1]
def Both2 (y1 : MethodName) (c1 : ByteArray) (n1 : Nat) (y2 : MethodName) (c2 : ByteArray) (n2 : Nat) (av : List Value) : Prop := ∀ (l : Launch) (C : JC) (S : Sto), JInj C → RR S S → ∃ v d1 d2 S1 S2, d1 ≤ 30 ∧ d2 ≤ 30 ∧ Con l C y1 c1 n1 (some .int) d1 (.ref (C.2.1 0) :: av) S (some (.int v)) S1 ∧ Con l C y2 c2 n2 (some .int) d2 (.ref (C.2.1 114) :: av) S1 (some (.int v)) S2 ∧ RR S2 S2
theorem m_told (w : Int32) : Both2 yX10_told cX10_told 2 yX11_told cX11_told 2 [.int w] := by
  intro l C S hC hR
  obtain ⟨pp, sp, hh, ww, nl, nc, nf, u, e, nb, n, h⟩ := id hR
  obtain ⟨k0, k1, k2, k3, k4⟩ := pl_sh h.1.pl
  have hP := h.2.1
  obtain ⟨b1, b2, b3, b4, b5⟩ := hP.2.2.2.1
  exact both_ask hR (c_X10_told l C hC S pp h.1.hpl k0 k1 k2 k3 k4 nf hP.1.2.2.2.2.2.1 (by omega) (hh * ww) hP.cells hP.n25 hh hP.1.1 (by omega) w) (c_X11_told l C hC S (hh * ww) hP.mc hP.n25 h.mw.w nf hP.2.1.2.2.2.2 (by omega) hh hP.2.1.1 (by omega) w) (told_eq h w) (by decide) (by decide)
theorem m_fault : Both2 yX10_fault cX10_fault 1 yX11_fault cX11_fault 1 [] := by
  intro l C S hC hR
  obtain ⟨pp, sp, hh, ww, nl, nc, nf, u, e, nb, n, h⟩ := id hR
  exact both_ask hR (c_X10_fault l C hC S) (c_X11_fault l C hC S) h.2.2.2.2.2.2.2.2.2.2.2.1 (by decide) (by decide)
theorem m_cell (x : Int32) : Both2 yX10_cell cX10_cell 2 yX11_cell cX11_cell 2 [.int x] := by
  intro l C S hC hR
  obtain ⟨pp, sp, hh, ww, nl, nc, nf, u, e, nb, n, h⟩ := id hR
  obtain ⟨k0, k1, k2, k3, k4⟩ := pl_sh h.1.pl
  have hP := h.2.1
  have hn := hP.n25
  refine both_ask hR (c_X10_cell l C hC S pp h.1.hpl k0 k1 k2 k3 k4 x) (c_X11_cell l C hC S (hh * ww) hP.mc hP.n25 x) ?_ (by decide) (by decide)
  rw [hP.cells, hP.mc]
  by_cases c : hasP (nI (hh * ww)) x
  · rw [if_pos c, if_pos ((has_is (by omega)).mp c)]
    obtain ⟨j, hj, rfl⟩ := has_n (by omega) c
    rw [pickN (by omega) (by decide), nI_clamp (by omega)]
    exact (h.2.2.1.1 j hj).1
  · rw [if_neg c, if_neg (fun z => c ((has_is (by omega)).mpr z))]
theorem m_leak (x : Int32) : Both2 yX10_leak cX10_leak 2 yX11_leak cX11_leak 2 [.int x] := by
  intro l C S hC hR
  obtain ⟨pp, sp, hh, ww, nl, nc, nf, u, e, nb, n, h⟩ := id hR
  obtain ⟨k0, k1, k2, k3, k4⟩ := pl_sh h.1.pl
  have hP := h.2.1
  obtain ⟨b1, b2, b3, b4, b5⟩ := hP.2.2.2.1
  refine both_ask hR (c_X10_leak l C hC S pp h.1.hpl k0 k1 k2 k3 k4 x) (c_X11_leak l C hC S nl hP.2.1.2.2.1 b3 x) ?_ (by decide) (by decide)
  rw [hP.1.2.2.2.1, hP.2.1.2.2.1]
  by_cases c : hasP (nI nl) x
  · rw [if_pos c, if_pos ((has_is (by omega)).mp c)]
    obtain ⟨j, hj, rfl⟩ := has_n (by omega) c
    rw [pickN (by omega) (by decide), nI_clamp (by omega)]
    exact (h.2.2.1.2.2.1 j hj).1
  · rw [if_neg c, if_neg (fun z => c ((has_is (by omega)).mpr z))]
theorem bit_low {x : Int32} {j : Nat} (h : j < 32) : (if bitP x (nI j) then nI 1 else nI 0) = (x >>> (nI j &&& 31)) &&& nI 1 := by
  refine Eq.trans ?_ (low1 (x := x) h).symm
  have := bitP_b (x := x) h
  by_cases q : bt x j = true
  · rw [if_pos (this.mpr q), if_pos q]
  · rw [if_neg (fun z => q (this.mp z)), if_neg q]
theorem m_crack (x w : Int32) : Both2 yX10_crack cX10_crack 3 yX11_crack cX11_crack 3 [.int x, .int w] := by
  intro l C S hC hR
  obtain ⟨pp, sp, hh, ww, nl, nc, nf, u, e, nb, n, h⟩ := id hR
  obtain ⟨k0, k1, k2, k3, k4⟩ := pl_sh h.1.pl
  have hP := h.2.1
  obtain ⟨b1, b2, b3, b4, b5⟩ := hP.2.2.2.1
  refine both_ask hR (c_X10_crack l C hC S pp h.1.hpl k0 k1 k2 k3 k4 x w) (c_X11_crack l C hC S nc hP.2.1.2.2.2.1 b4 x w) ?_ (by decide) (by decide)
  rw [hP.1.2.2.2.2.1, hP.2.1.2.2.2.1]
  by_cases c : hasP (nI nc) x
  · rw [if_pos c, if_pos ((has_is (by omega)).mp c)]
    obtain ⟨j, hj, rfl⟩ := has_n (by omega) c
    obtain ⟨a, b, _, _, _, e1, e2, e3, e4⟩ := hP.2.2.2.2.1 j hj
    rw [pickN (by omega) (by decide), pickN (by omega) (by decide), nI_clamp (by omega), e1, e2, e3, e4, bit_low (show j < 32 by omega), h.2.2.1.2.2.2.2.1]
  · rw [if_neg c, if_neg (fun z => c ((has_is (by omega)).mpr z))]
theorem m_likeness (x w : Int32) : Both2 yX10_likeness cX10_likeness 4 yX11_likeness cX11_likeness 3 [.int x, .int w] := by
  intro l C S hC hR
  obtain ⟨pp, sp, hh, ww, nl, nc, nf, u, e, nb, n, h⟩ := id hR
  obtain ⟨k0, k1, k2, k3, k4⟩ := pl_sh h.1.pl
  have hP := h.2.1
  have hn := hP.n25
  obtain ⟨b1, b2, b3, b4, b5⟩ := hP.2.2.2.1
  refine both_ask hR (c_X10_likeness l C hC S pp h.1.hpl k0 k1 k2 k3 k4 x w) (c_X11_likeness l C hC S (hh * ww) hP.mc hP.n25 nf hP.2.1.2.2.2.2 b5 x w) ?_ (by decide) (by decide)
  rw [hP.1.2.2.2.2.2.1, hP.2.1.2.2.2.2]
  by_cases c : hasP (nI nf) x
  · rw [if_pos c, if_pos ((has_is (by omega)).mp c)]
    obtain ⟨j, hj, rfl⟩ := has_n (by omega) c
    have em : marksF (S 4) 25 = mshF (S 119) (hh * ww) := h.2.2.1.marks hn
    rw [pickN (by omega) (by decide), nI_clamp (by omega), em, like_eq hP hj (msh_sub hn), (hP.2.2.2.2.2 j hj).1, sub_bc (sub_and (msh_sub hn)) hn]
    rfl
  · rw [if_neg c, if_neg (fun z => c ((has_is (by omega)).mpr z))]
theorem in01 (w : Int32) : w = nI 0 ∨ w = nI 1 ∨ ¬ inP w.toInt64 (lN 0) (lN 1) := by
  rcases sw_2 w with h | h | h
  · exact Or.inl h
  · exact Or.inr (Or.inl h)
  · refine Or.inr (Or.inr (fun z => ?_))
    unfold inP at z
    rw [Int64.le_iff_toInt_le, Int64.le_iff_toInt_le, Int32.toInt_toInt64, lN_toInt (by decide), lN_toInt (by decide)] at z
    omega
theorem in01_0 : inP (nI 0).toInt64 (lN 0) (lN 1) := by decide
theorem in01_1 : inP (nI 1).toInt64 (lN 0) (lN 1) := by decide
theorem m_either (f g w : Int32) : Both2 yX10_either cX10_either 6 yX11_either cX11_either 5 [.int f, .int g, .int w] := by
  intro l C S hC hR
  obtain ⟨pp, sp, hh, ww, nl, nc, nf, u, e, nb, n, h⟩ := id hR
  obtain ⟨k0, k1, k2, k3, k4⟩ := pl_sh h.1.pl
  have hP := h.2.1
  have hn := hP.n25
  obtain ⟨b1, b2, b3, b4, b5⟩ := hP.2.2.2.1
  refine both_ask hR (c_X10_either l C hC S pp h.1.hpl k0 k1 k2 k3 k4 f g w) (c_X11_either l C hC S (hh * ww) hP.mc hP.n25 nf hP.2.1.2.2.2.2 b5 f g w) ?_ (by decide) (by decide)
  rw [hP.1.2.2.2.2.2.1, hP.2.1.2.2.2.2]
  have q1 := has_is (k := nf) (x := f) (by omega)
  have q2 := has_is (k := nf) (x := g) (by omega)
  by_cases c : hasP (nI nf) f ∧ hasP (nI nf) g
  · rw [if_neg (fun z => z c), if_neg (fun z => z ⟨q1.mp c.1, q2.mp c.2⟩)]
    obtain ⟨i, hi, rfl⟩ := has_n (by omega) c.1
    obtain ⟨j, hj, rfl⟩ := has_n (by omega) c.2
    have em : marksF (S 4) 25 = mshF (S 119) (hh * ww) := h.2.2.1.marks hn
    obtain ⟨ei, si⟩ := hP.2.2.2.2.2 i hi
    obtain ⟨ej, sj⟩ := hP.2.2.2.2.2 j hj
    rw [pickN (by omega) (by decide), pickN (by omega) (by decide), nI_clamp (by omega), nI_clamp (by omega), em, ei, ej, sub_bc (sub_and (sub_xor si sj)) hn]
    rcases in01 w with rfl | rfl | q
    · rw [sw2_0, if_neg (fun z => z in01_0), if_pos (by decide)]
    · rw [sw2_1, if_neg (fun z => z in01_1), if_neg (by decide)]
    · rw [if_pos q]
      unfold sw2F
      rw [if_neg (fun z => q (by rw [z]; exact in01_0)), if_neg (fun z => q (by rw [z]; exact in01_1))]
  · rw [if_pos c, if_pos (fun z => c ⟨q1.mpr z.1, q2.mpr z.2⟩)]
theorem m_rainy (n q : Int32) : Both2 yX10_rainy cX10_rainy 6 yX11_rainy cX11_rainy 6 [.int n, .int q] := by
  intro l C S hC hR
  refine both_ask hR (c_X10_rainy l C hC S n q) (c_X11_rainy l C hC S n q) ?_ (by decide) (by decide)
  have q1 := out_in (v := n) (a := 0) (b := 60) (A := lN 0) (B := 60) (by decide) (by decide) rfl rfl
  have q2 := out_in (v := q) (a := 0) (b := 100) (A := lN 0) (B := 100) (by decide) (by decide) rfl rfl
  by_cases c : outP n (nI 0) (nI 60) ∨ outP q (nI 0) (nI 100)
  · rw [if_pos c, if_pos (fun z => c.elim (fun y => q1.mp y z.1) (fun y => q2.mp y z.2))]
  · rw [if_neg c, if_neg (fun z => z ⟨Decidable.not_not.mp (fun y => c (Or.inl (q1.mpr y))), Decidable.not_not.mp (fun y => c (Or.inr (q2.mpr y)))⟩)]
theorem m_judge : Both2 yX10_judge cX10_judge 1 yX11_judge cX11_judge 2 [] := by
  intro l C S hC hR
  obtain ⟨pp, sp, hh, ww, nl, nc, nf, u, e, nb, n, h⟩ := id hR
  have hn := h.2.1.n25
  obtain ⟨a1, a2, a3, a4⟩ := h.2.2.2.2.2.2.2.1
  refine both_ask hR (c_X10_judge l C hC S nb a1 a3) (c_X11_judge l C hC S nb a2 a3 (fun k hk => by
    obtain ⟨_, _, a, ha, ea⟩ := a4 k hk
    exact ⟨a, by omega, ea⟩)) ?_ (by decide) (by decide)
  have : fnd (fwP S 3) nb 0 = fnd (mjdP S) nb 0 := fnd_c nb 0 (fun k _ hk => by
    obtain ⟨e1, e2, a, ha, ea⟩ := a4 k (by omega)
    unfold fwP mjdP
    rw [pickN (show k < 15 by omega) (by decide), pickN (show k < 15 by omega) (by decide), e1, e2, ea, pickN (show a < 25 by omega) (by decide), nI_clamp (by omega), (h.2.2.1.1 a ha).1])
  rw [this]
