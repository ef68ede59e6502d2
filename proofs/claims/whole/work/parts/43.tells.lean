/-! which rain tells most -/
theorem may_b {T U : Sto} {pp hh ww nl nc nf : Nat} (hP : PLR T pp U hh ww nl nc nf) (m : Int32) : ∀ n, n ≤ nf → ∀ k, bt (mbF T pp m n) k = (decide (k < n) && decide (m &&& (U 118 k ^^^ (-1)) = 0))
  | 0, _, k => by show bt (nI 0) k = _; rw [bt_0]; simp
  | n + 1, hn, k => by
    have h5 := hP.2.2.2.1.2.2.2.2
    unfold mbF
    rw [face_p hP (by omega), (hP.2.2.2.2.2 n (by omega)).1]
    have ih := may_b hP m n (by omega) k
    by_cases c : m &&& (U 118 n ^^^ (-1)) = 0
    · rw [if_pos c, bt_or, ih, bt_pow (by omega)]
      by_cases e : k = n
      · subst e; rw [decide_eq_true c]; simp
      · have : (k < n + 1) = (k < n) := by apply propext; omega
        simp [this, e]
    · rw [if_neg c, ih]
      by_cases e : k = n
      · subst e; rw [decide_eq_false c]; simp
      · have : (k < n + 1) = (k < n) := by apply propext; omega
        simp [this]
theorem mlf_n {U : Sto} {m : Int32} : ∀ n, mlfF U m n = nI (cnt (fun k => decide (m &&& (U 118 k ^^^ (-1)) = 0)) n)
  | 0 => rfl
  | n + 1 => by
    unfold mlfF cnt
    rw [mlf_n n]
    by_cases c : m &&& (U 118 n ^^^ (-1)) = 0
    · rw [if_pos c, nI_add, decide_eq_true c]; rfl
    · rw [if_neg c, nI_add, decide_eq_false c]; rfl
theorem left_eq {T U : Sto} {pp hh ww nl nc nf : Nat} (hP : PLR T pp U hh ww nl nc nf) (m : Int32) : bcF (mbF T pp m nf) = mlfF U m nf := by
  have h5 := hP.2.2.2.1.2.2.2.2
  rw [bc_c, mlf_n]
  apply congrArg nI
  rw [cnt_c (fun k _ => may_b hP m nf (Nat.le_refl _) k)]
  have := cnt_m (p := fun k => decide (k < nf) && decide (m &&& (U 118 k ^^^ (-1)) = 0)) (n := nf) (fun k hk => by simp [show ¬ k < nf by omega]) (32 - nf)
  rw [show nf + (32 - nf) = 32 by omega] at this
  rw [this]
  exact cnt_c (fun k hk => by simp [hk])
theorem R.c9 {T U : Sto} {pp sp hh ww nl nc nf u e nb n : Nat} (h : R T U pp sp hh ww nl nc nf u e nb n) (k : Nat) (v : Int32) : R (up2 T 9 k v) U pp sp hh ww nl nc nf u e nb n := h.trT (fun i hi => up2_ne _ _ _ (by omega)) (h.2.2.2.1.2.c (up2_ne _ _ _ (by omega)))
theorem R.rl {T U : Sto} {pp sp hh ww nl nc nf u e nb n : Nat} (h : R T U pp sp hh ww nl nc nf u e nb n) (h0 : 0 < hh) : ∀ k, k ≤ 10 → R (rlS T pp 3 nl nc nf k) (mwrS U hh ww nl nc k) pp sp hh ww nl nc nf u e nb n
  | 0, _ => (h.c9 6 (-1)).c9 7 (nI 6)
  | k + 1, hk => by
    have q := ((R.rl h h0 k (by omega)).mb h0 (show k ≤ 9 by omega) 1).sb (nI k) 1
    unfold rlS
    dsimp only
    split
    · exact q
    · exact (q.c9 7 _).c9 6 _
theorem rl_k {T U : Sto} {pp sp hh ww nl nc nf u e nb n k : Nat} (h : R T U pp sp hh ww nl nc nf u e nb n) (h0 : 0 < hh) (hk : k ≤ 9) : bcF (mbF (mbS T pp 3 nl nc (nI k) 1) pp (marksF (mbS T pp 3 nl nc (nI k) 1 14) 25) nf) = mlfV U hh ww nl nc nf (nI k) := by
  have hP : PLR (mbS T pp 3 nl nc (nI k) 1) pp U hh ww nl nc nf := (h.mb h0 hk 1).2.1
  rw [left_eq hP, tri_marks h h0 hk 1]
  rfl
theorem rl_eq {T U : Sto} {pp sp hh ww nl nc nf u e nb n : Nat} (h : R T U pp sp hh ww nl nc nf u e nb n) (h0 : 0 < hh) : ∀ k, k ≤ 9 → rlS T pp 3 nl nc nf (k + 1) 9 6 = (mrtF U hh ww nl nc nf k).1 ∧ rlS T pp 3 nl nc nf (k + 1) 9 7 = (mrtF U hh ww nl nc nf k).2
  | 0, _ => by
    have q := R.rl h h0 0 (by omega)
    have ek := rl_k q h0 (show 0 ≤ 9 by omega)
    have e9 : mbS (rlS T pp 3 nl nc nf 0) pp 3 nl nc (nI 0) 1 9 = rlS T pp 3 nl nc nf 0 9 := mb_o (by omega)
    have e7 : rlS T pp 3 nl nc nf 0 9 7 = nI 6 := by show up2 (up2 T 9 6 (-1)) 9 7 (nI 6) 9 7 = _; rw [up2_same, pk_us]
    have h5 := h.2.1.2.2.2.1.2.2.2.2
    have lt : ¬ nI 6 ≤ mlfV (mwrS U hh ww nl nc 0) hh ww nl nc nf (nI 0) := by
      unfold mlfV
      rw [mlf_n]
      have := cnt_le (fun k => decide (sbV (mwrS U hh ww nl nc 0) hh ww nl nc (nI 0) 1 &&& (mwrS U hh ww nl nc 0 118 k ^^^ (-1)) = 0)) nf
      exact nI_ge (by omega) (by omega)
    show (let D := mbS (rlS T pp 3 nl nc nf 0) pp 3 nl nc (nI 0) 1; let k := bcF (mbF D pp (marksF (D 14) 25) nf); if D 9 7 ≤ k then D else up2 (up2 D 9 7 k) 9 6 (nI 0)) 9 6 = _ ∧ (let D := mbS (rlS T pp 3 nl nc nf 0) pp 3 nl nc (nI 0) 1; let k := bcF (mbF D pp (marksF (D 14) 25) nf); if D 9 7 ≤ k then D else up2 (up2 D 9 7 k) 9 6 (nI 0)) 9 7 = _
    dsimp only
    rw [ek, e9, e7, if_neg lt, up2_same, pk_us, pk_un (by omega), up2_same, pk_us]
    exact ⟨rfl, rfl⟩
  | k + 1, hk => by
    obtain ⟨i1, i2⟩ := rl_eq h h0 k (by omega)
    have q := R.rl h h0 (k + 1) (by omega)
    have ek := rl_k q h0 (show k + 1 ≤ 9 by omega)
    have e9 : mbS (rlS T pp 3 nl nc nf (k + 1)) pp 3 nl nc (nI (k + 1)) 1 9 = rlS T pp 3 nl nc nf (k + 1) 9 := mb_o (by omega)
    show (let D := mbS (rlS T pp 3 nl nc nf (k + 1)) pp 3 nl nc (nI (k + 1)) 1; let j := bcF (mbF D pp (marksF (D 14) 25) nf); if D 9 7 ≤ j then D else up2 (up2 D 9 7 j) 9 6 (nI (k + 1))) 9 6 = _ ∧ (let D := mbS (rlS T pp 3 nl nc nf (k + 1)) pp 3 nl nc (nI (k + 1)) 1; let j := bcF (mbF D pp (marksF (D 14) 25) nf); if D 9 7 ≤ j then D else up2 (up2 D 9 7 j) 9 6 (nI (k + 1))) 9 7 = _
    dsimp only
    unfold mrtF
    dsimp only
    rw [ek, e9, i2]
    by_cases c : (mrtF U hh ww nl nc nf k).2 ≤ mlfV (mwrS U hh ww nl nc (k + 1)) hh ww nl nc nf (nI (k + 1))
    · rw [if_pos c, if_pos c, if_pos c, e9]
      exact ⟨i1, i2⟩
    · rw [if_neg c, if_neg c, if_neg c, up2_same, pk_us, pk_un (by omega), up2_same, pk_us]
      exact ⟨rfl, rfl⟩
theorem m_rainToTell (w : Int32) : Both2 yX10_rainToTell cX10_rainToTell 2 yX11_rainToTell cX11_rainToTell 6 [.int w] := by
  intro l C S hC hR
  obtain ⟨pp, sp, hh, ww, nl, nc, nf, u, e, nb, n, h⟩ := id hR
  obtain ⟨k0, k1, k2, k3, k4⟩ := pl_sh h.1.pl
  have hp := h.1.pl
  have hP := h.2.1
  obtain ⟨b1, b2, b3, b4, b5⟩ := hP.2.2.2.1
  have c1 := c_X10_rainToTell l C hC S pp h.1.hpl k0 k1 k2 k3 k4 nl hP.1.2.2.2.1 b3 nc hP.1.2.2.2.2.1 b4 nf hP.1.2.2.2.2.2.1 (by omega) w
  have q := out_in (v := w) (a := 0) (b := 1) (A := lN 0) (B := lN 1) (by decide) (by decide) rfl rfl
  by_cases c : outP w (nI 0) (nI 1)
  · have c2 := c_X11_rainToTell l C hC S hh ww nl nc h.mw nf hP.2.1.2.2.2.2 b5 w
    rw [if_pos c, if_pos c] at c1
    rw [if_pos (q.mp c), if_pos (q.mp c)] at c2
    exact both_ask hR c1 c2 rfl (by decide) (by decide)
  · rw [if_neg c, if_neg c] at c1
    have c' := fun z => c (q.mpr z)
    by_cases z : hh = 0
    · have c2 := c_X11_rainToTell l C hC S hh ww nl nc h.mw nf hP.2.1.2.2.2.2 b5 w
      rw [if_pos (hP.z.mpr z), if_pos (hP.z.mpr z)] at c1
      rw [if_neg c', if_neg c', if_pos z, if_pos z] at c2
      exact both_ask hR c1 c2 rfl (by decide) (by decide)
    · rw [if_neg (fun y => z (hP.z.mp y)), if_neg (fun y => z (hP.z.mp y))] at c1
      have fr : ∀ i, 114 ≤ i → rlS S pp 3 nl nc nf 10 i = S i := fun i hi => rl_o (by omega) 10
      have h1 := h.cU fr
      have c2 := c_X11_rainToTell l C hC (rlS S pp 3 nl nc nf 10) hh ww nl nc h1.mw nf h1.2.1.2.1.2.2.2.2 b5 w
      rw [if_neg c', if_neg c', if_neg z, if_neg z] at c2
      obtain ⟨q1, q2⟩ := rl_eq h1 (by omega) 9 (by omega)
      rw [q1, q2] at c1
      exact both_do c1 c2 ⟨rfl, (h1.rl (by omega) 10 (by omega)).rr⟩ (fun i hi => wr_lo hi 10) (by decide) (by decide)
/-! where to lead a leak -/
theorem lb_rel {T U : Sto} {pp sp hh ww nl nc nf u e nb n rr j q k : Nat} (h : R T U pp sp hh ww nl nc nf u e nb n) (h0 : 0 < hh) (hr : rr ≤ 9) (hj : j < nl) (hq : q < nf) : ∀ x, x ≤ hh * ww →
    R (lbS T pp 3 nl nc (nI j) (T (pp + 4) q) (nI rr) k x) U pp sp hh ww nl nc nf u e nb n ∧ lbS T pp 3 nl nc (nI j) (T (pp + 4) q) (nI rr) k x 9 6 = (mlbR U hh ww nl nc j q (nI rr) k x).2.1 ∧ lbS T pp 3 nl nc (nI j) (T (pp + 4) q) (nI rr) k x 9 7 = (mlbR U hh ww nl nc j q (nI rr) k x).2.2 ∧ (∀ i, i < 34 → i ≠ 25 + j → (mlbR U hh ww nl nc j q (nI rr) k x).1 119 i = U 119 i) ∧ ∀ i, i ≠ 119 → (i < 125 ∨ 127 < i) → i ≠ 129 → (mlbR U hh ww nl nc j q (nI rr) k x).1 i = U i
  | 0, _ => ⟨(h.c9 6 (-1)).c9 7 (-1), by show up2 (up2 T 9 6 (-1)) 9 7 (-1) 9 6 = _; rw [up2_same, pk_un (by omega), up2_same, pk_us]; rfl, by show up2 (up2 T 9 6 (-1)) 9 7 (-1) 9 7 = _; rw [up2_same, pk_us]; rfl, fun _ _ _ => rfl, fun _ _ _ _ => rfl⟩
  | x + 1, hx => by
    have hp := h.1.pl
    obtain ⟨a, b, c, d, f⟩ := lb_rel h h0 hr hj hq (k := k) x (by omega)
    generalize hA : lbS T pp 3 nl nc (nI j) (T (pp + 4) q) (nI rr) k x = A at a b c
    have aP := a.2.1
    have hn := aP.n25
    have hl4 := aP.2.2.2.1.2.2.1
    rw [mlbR_s]
    dsimp only
    generalize hM : (mlbR U hh ww nl nc j q (nI rr) k x).1 = M at d f
    have eL : lbS T pp 3 nl nc (nI j) (T (pp + 4) q) (nI rr) k (x + 1) = (if likF (lbT A pp 3 nl nc (nI j) (T (pp + 4) q) (nI rr) k x) pp (marksF (lbT A pp 3 nl nc (nI j) (T (pp + 4) q) (nI rr) k x 14) 25) (T (pp + 4) q) ≤ lbT A pp 3 nl nc (nI j) (T (pp + 4) q) (nI rr) k x 9 7 then lbT A pp 3 nl nc (nI j) (T (pp + 4) q) (nI rr) k x else up2 (up2 (lbT A pp 3 nl nc (nI j) (T (pp + 4) q) (nI rr) k x) 9 7 (likF (lbT A pp 3 nl nc (nI j) (T (pp + 4) q) (nI rr) k x) pp (marksF (lbT A pp 3 nl nc (nI j) (T (pp + 4) q) (nI rr) k x 14) 25) (T (pp + 4) q))) 9 6 (nI x)) := by rw [← hA]; rfl
    rw [eL]
    have eT : lbT A pp 3 nl nc (nI j) (T (pp + 4) q) (nI rr) k x = daysS (up2 (copS A 13 3) 15 j (nI x)) pp 13 10 nl nc (nI rr) k := by
      unfold lbT
      rw [putN (by omega) (by decide)]
    have co : ∀ i, i ≠ 13 → i ≠ 14 → i ≠ 15 → up2 (copS A 13 3) 15 j (nI x) i = A i := fun i h1 h2 h3 => by rw [up2_ne _ _ _ h3, cop_o h1 h2 h3]
    let V : Sto := bfS (up2 M 119 (25 + j) (nI x))
    have v9 : V 119 = upd (M 119) (25 + j) (nI x) := by show upA _ 129 _ 119 = _; rw [upA_ne _ _ (by omega), up2_same]
    have vo : ∀ i, i ≠ 119 → (i < 125 ∨ 127 < i) → i ≠ 129 → V i = U i := fun i h1 h2 h3 => by show upA _ 129 _ i = _; rw [upA_ne _ _ h3, up2_ne _ _ _ h1, f i h1 h2 h3]
    have dV : DM (up2 (copS A 13 3) 15 j (nI x)) 13 (V 119) (hh * ww) nl := by
      refine ((a.2.2.1.cop (dd := 13) (by omega) hn hl4).led hn hl4 (show j < 4 by omega) (show x < hh * ww by omega)).cF hn hl4 (fun i hi => ?_)
      rw [v9]
      by_cases e : i = 25 + j
      · subst e; rw [pk_us, pk_us]
      · rw [pk_un e, pk_un e, d i hi e]
    have pV : PLR (up2 (copS A 13 3) 15 j (nI x)) pp V hh ww nl nc nf := (aP.cT (co _ (by omega) (by omega) (by omega)) (co _ (by omega) (by omega) (by omega)) (co _ (by omega) (by omega) (by omega)) (co _ (by omega) (by omega) (by omega))).cU (fun i _ => by rw [vo 114 (by omega) (by omega) (by omega)]) (vo _ (by omega) (by omega) (by omega)) (vo _ (by omega) (by omega) (by omega)) (vo _ (by omega) (by omega) (by omega))
    obtain ⟨g1, g2, g3⟩ := days_rel (dd := 13) (ff := 10) (by omega) (by omega) (by omega) pV h0 dV (a.2.2.2.1.2.c (co _ (by omega) (by omega) (by omega))) hr k
    have eO : ∀ i, (i < 11 ∨ 15 < i) → lbT A pp 3 nl nc (nI j) (T (pp + 4) q) (nI rr) k x i = A i := fun i hi => lbT_o hi
    rw [← eT] at g1 g2 g3
    generalize hD : lbT A pp 3 nl nc (nI j) (T (pp + 4) q) (nI rr) k x = D at g1 g2 g3 eO ⊢
    have dP : PLR D pp U hh ww nl nc nf := aP.cT (eO _ (by omega)) (eO _ (by omega)) (eO _ (by omega)) (eO _ (by omega))
    have em : marksF (D 14) 25 = sbV (up2 M 119 (25 + j) (nI x)) hh ww nl nc (nI rr) k := g2.marks hn
    have eq4 : T (pp + 4) q = D (pp + 4) q := by rw [(dP.2.2.2.2.2 q hq).1]; exact (h.2.1.2.2.2.2.2 q hq).1
    have el : likF D pp (marksF (D 14) 25) (T (pp + 4) q) = mlbV U hh ww nl nc j q (nI rr) k x := by
      rw [eq4, like_eq dP hq (by rw [em]; exact msh_sub hn), em]
      unfold mlbV
      rw [hM]
    rw [el, eO 9 (by omega), c]
    have rD : R D U pp sp hh ww nl nc nf u e nb n := a.trT (fun i hi => eO i (by omega)) g3
    have n1 : ∀ i, i < 34 → i ≠ 25 + j → sbS (up2 M 119 (25 + j) (nI x)) hh ww nl nc (nI rr) k 119 i = U 119 i := fun i hi he => by rw [bk_now hi, up2_same, pk_un he, d i hi he]
    have n2 : ∀ i, i ≠ 119 → (i < 125 ∨ 127 < i) → i ≠ 129 → sbS (up2 M 119 (25 + j) (nI x)) hh ww nl nc (nI rr) k i = U i := fun i h1 h2 h3 => by rw [sb_o2 (by omega) h3, up2_ne _ _ _ h1, f i h1 h2 h3]
    by_cases cc : mlbV U hh ww nl nc j q (nI rr) k x ≤ (mlbR U hh ww nl nc j q (nI rr) k x).2.2
    · rw [if_pos cc, if_pos cc, if_pos cc]
      exact ⟨rD, by rw [eO 9 (by omega)]; exact b, by rw [eO 9 (by omega)]; exact c, n1, n2⟩
    · rw [if_neg cc, if_neg cc, if_neg cc]
      exact ⟨(rD.c9 7 _).c9 6 _, by rw [up2_same, pk_us], by rw [up2_same, pk_un (by omega), up2_same, pk_us], n1, n2⟩
theorem m_leadTo (a f b r w : Int32) : Both2 yX10_leadTo cX10_leadTo 6 yX11_leadTo cX11_leadTo 11 [.int a, .int f, .int b, .int r, .int w] := by
  intro l C S hC hR
  obtain ⟨pp, sp, hh, ww, nl, nc, nf, u, e, nb, n, h⟩ := id hR
  obtain ⟨k0, k1, k2, k3, k4⟩ := pl_sh h.1.pl
  have hp := h.1.pl
  have hP := h.2.1
  have hn := hP.n25
  have hor := hP.2.2.1
  have hl0 : nl ≠ 0 → 0 < hh := fun z => by omega
  obtain ⟨b1, b2, b3, b4, b5⟩ := hP.2.2.2.1
  have c1 := c_X10_leadTo l C hC S pp h.1.hpl k0 k1 k2 k3 k4 nl hP.1.2.2.2.1 b3 nc hP.1.2.2.2.2.1 b4 (hh * ww) hP.cells hn a f b r w
  have q1 := has_is (k := nl) (x := a) (by omega)
  have q2 := has_is (k := nf) (x := f) (by omega)
  rw [hP.1.2.2.2.1, hP.1.2.2.2.2.2.1] at c1
  by_cases c : hasP (nI nl) a ∧ hasP (nI nf) f
  · have cc : ¬ ¬ (hasP (nI nl) a ∧ hasP (nI nf) f) := fun z => z c
    have cm : ¬ ¬ (isM (nI nl) a ∧ isM (nI nf) f) := fun z => z ⟨q1.mp c.1, q2.mp c.2⟩
    rw [if_neg cc, if_neg cc] at c1
    have q := cond_or (out_in (v := b) (a := 1) (b := 20) (A := lN 1) (B := 20) (by decide) (by decide) rfl rfl) (cond_or (out_in (v := r) (a := 0) (b := 9) (A := lN 0) (B := 9) (by decide) (by decide) rfl rfl) (out_in (v := w) (a := 0) (b := 1) (A := lN 0) (B := lN 1) (by decide) (by decide) rfl rfl))
    by_cases o : outP b (nI 1) (nI 20) ∨ outP r (nI 0) (nI 9) ∨ outP w (nI 0) (nI 1)
    · have c2 := c_X11_leadTo l C hC S hh ww nl nc h.mw nf hP.2.1.2.2.2.2 b5 hl0 a f b r w
      rw [if_pos o, if_pos o] at c1
      rw [hP.2.1.2.2.1, hP.2.1.2.2.2.2, if_neg cm, if_neg cm, if_pos (q.mp o), if_pos (q.mp o)] at c2
      exact both_ask hR c1 c2 rfl (by decide) (by decide)
    · have o' := fun z => o (q.mpr z)
      rw [if_neg o, if_neg o] at c1
      obtain ⟨k, _, hk2, rfl⟩ := out_n (by decide) (fun y => o (Or.inl y)) (by decide)
      obtain ⟨j, _, hj, rfl⟩ := out_n (by decide) (fun y => o (Or.inr (Or.inl y))) (by decide)
      obtain ⟨x, hx, rfl⟩ := has_n (by omega) c.1
      obtain ⟨y, hy, rfl⟩ := has_n (by omega) c.2
      have h0 : 0 < hh := hl0 (by omega)
      rw [pickN (by omega) (by decide), nI_clamp (by omega)] at c1
      have fr : ∀ i, 114 ≤ i → lbS S pp 3 nl nc (nI x) (S (pp + 4) y) (nI j) k (hh * ww) i = S i := fun i hi => lb_o (by omega) _
      have h1 := h.cU fr
      have c2 := c_X11_leadTo l C hC (lbS S pp 3 nl nc (nI x) (S (pp + 4) y) (nI j) k (hh * ww)) hh ww nl nc h1.mw nf h1.2.1.2.1.2.2.2.2 b5 hl0 (nI x) (nI y) (nI k) (nI j) w
      rw [h1.2.1.2.1.2.2.1, h1.2.1.2.1.2.2.2.2, if_neg cm, if_neg cm, if_neg o', if_neg o', nI_clamp (by omega), nI_clamp (by omega), nI_clamp (by omega)] at c2
      obtain ⟨r1, r2, r3, r4, r5⟩ := lb_rel (k := k) h1 h0 hj hx hy (hh * ww) (Nat.le_refl _)
      rw [r2, r3] at c1
      refine both_do c1 c2 ⟨rfl, ?_⟩ (fun i hi => ?_) (by decide) (by decide)
      · refine (r1.trU (fun i g1 g2 g3 g4 => ?_) (fun i hi => ?_)).rr
        · unfold mlbS
          rw [up2_ne _ _ _ g2, r5 i g2 g3 g4]
        · unfold mlbS
          rw [up2_same]
          by_cases ei : i = 25 + x
          · subst ei; rw [pk_us]
          · rw [pk_un ei, r4 i hi ei]
      · unfold mlbS
        rw [up2_ne _ _ _ (by omega), r5 i (by omega) (by omega) (by omega)]
  · have c2 := c_X11_leadTo l C hC S hh ww nl nc h.mw nf hP.2.1.2.2.2.2 b5 hl0 a f b r w
    have c' : ¬ (isM (nI nl) a ∧ isM (nI nf) f) := fun z => c ⟨q1.mpr z.1, q2.mpr z.2⟩
    rw [if_pos c, if_pos c] at c1
    rw [hP.2.1.2.2.1, hP.2.1.2.2.2.2, if_pos c', if_pos c'] at c2
    exact both_ask hR c1 c2 rfl (by decide) (by decide)
