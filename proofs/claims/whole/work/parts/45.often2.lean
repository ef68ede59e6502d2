/-! often, the model's side -/
def clP (T : Sto) (pp nl nc : Nat) (r : Int32) (s : Nat) : Nat → Sto
  | 0 => copS T 13 3
  | k + 1 => if s.testBit k = true then shrS (rainS (clP T pp nl nc r s k) pp 13 10 nl nc r) 13 pp else rainS (clP T pp nl nc r s k) pp 13 10 nl nc r
theorem clP_rel {T U : Sto} {pp sp hh ww nl nc nf u e nb n rr s : Nat} (h : R T U pp sp hh ww nl nc nf u e nb n) (h0 : 0 < hh) (hr : rr ≤ 9) (hs : s < 2 ^ 32) : ∀ k, k ≤ 32 → PLR (clP T pp nl nc (nI rr) s k) pp U hh ww nl nc nf ∧ DM (clP T pp nl nc (nI rr) s k) 13 (slT U hh ww nl nc (nI rr) (nI s) k 119) (hh * ww) nl ∧ CZ (clP T pp nl nc (nI rr) s k) 10
  | 0, _ => by
    have hp := h.1.pl
    have hP := h.2.1
    have hb : bfS U 119 = U 119 := upA_ne _ _ (by decide)
    refine ⟨hP.cT (cop_o (by omega) (by omega) (by omega)) (cop_o (by omega) (by omega) (by omega)) (cop_o (by omega) (by omega) (by omega)) (cop_o (by omega) (by omega) (by omega)), ?_, h.2.2.2.1.2.c (cop_o (by omega) (by omega) (by omega))⟩
    show DM (copS T 13 3) 13 (bfS U 119) _ _
    rw [hb]
    exact h.2.2.1.cop (by omega) hP.n25 hP.2.2.2.1.2.2.1
  | k + 1, hk => by
    have hp := h.1.pl
    obtain ⟨a, b, c⟩ := clP_rel h h0 hr hs k (by omega)
    obtain ⟨x, y⟩ := day_rel (dd := 13) (ff := 10) (by omega) (by omega) (by omega) (slT_pl (r := nI rr) (s := nI s) (k := k) a) h0 b c hr
    have bO : ∀ i, i ≠ 13 → i ≠ 14 → i ≠ 11 → i ≠ 12 → rainS (clP T pp nl nc (nI rr) s k) pp 13 10 nl nc (nI rr) i = clP T pp nl nc (nI rr) s k i := fun i h1 h2 h3 h4 => rain_o h1 h2 h3 h4
    have bP : PLR (rainS (clP T pp nl nc (nI rr) s k) pp 13 10 nl nc (nI rr)) pp U hh ww nl nc nf := a.cT (bO _ (by omega) (by omega) (by omega) (by omega)) (bO _ (by omega) (by omega) (by omega) (by omega)) (bO _ (by omega) (by omega) (by omega) (by omega)) (bO _ (by omega) (by omega) (by omega) (by omega))
    have q := hasM_b (x := nI s) (show k < 32 by omega)
    rw [bt_nI hs] at q
    unfold clP slT
    by_cases t : s.testBit k = true
    · rw [if_pos t, if_pos (q.mpr t)]
      have pP : PLR (rainS (clP T pp nl nc (nI rr) s k) pp 13 10 nl nc (nI rr)) pp (passS (slT U hh ww nl nc (nI rr) (nI s) k) (hh * ww) ww nl nc (nI rr)) hh ww nl nc nf := (slT_pl (r := nI rr) (s := nI s) (k := k) bP).cU (fun j _ => by rw [pass_o (by omega)]) (pass_o (by omega)) (pass_o (by omega)) (pass_o (by omega))
      exact ⟨bP.cT (shr_o (by omega) (by omega)) (shr_o (by omega) (by omega)) (shr_o (by omega) (by omega)) (shr_o (by omega) (by omega)), look_rel (dd := 13) (by omega) pP h0 x, y.c (shr_o (by omega) (by omega))⟩
    · rw [if_neg t, if_neg (fun z => t (q.mp z))]
      exact ⟨bP, x, y⟩
theorem slV_same {T U U' : Sto} {pp sp hh ww nl nc nf u e nb n rr s k : Nat} (h : R T U pp sp hh ww nl nc nf u e nb n) (h' : R T U' pp sp hh ww nl nc nf u e nb n) (h0 : 0 < hh) (hr : rr ≤ 9) (hs : s < 2 ^ 32) (hk : k ≤ 32) : slV U' hh ww nl nc (nI rr) (nI s) k = slV U hh ww nl nc (nI rr) (nI s) k := by
  have hn := h.2.1.n25
  have a := (clP_rel h h0 hr hs k hk).2.1.marks hn
  have b := (clP_rel h' h0 hr hs k hk).2.1.marks hn
  unfold slV
  rw [← a, ← b]
theorem sl_o2 {S : Sto} {hh ww nl nc : Nat} {r set : Int32} {n i : Nat} (h : i < 119 ∨ (119 < i ∧ i < 125) ∨ 127 < i) (h2 : i ≠ 129) : slS S hh ww nl nc r set n i = S i := by
  unfold slS bkS
  rw [upA_ne _ _ (by omega), slT_o h h2]
theorem R.sl {T U : Sto} {pp sp hh ww nl nc nf u e nb n : Nat} (h : R T U pp sp hh ww nl nc nf u e nb n) (r set : Int32) (k : Nat) : R T (slS U hh ww nl nc r set k) pp sp hh ww nl nc nf u e nb n := h.trU (fun i h1 h2 h3 h4 => sl_o2 (by omega) h4) (fun k hk => sl_now hk)
theorem mof_rel {T U : Sto} {pp sp hh ww nl nc nf u e nb n rr k : Nat} {w : Int32} (h : R T U pp sp hh ww nl nc nf u e nb n) (h0 : 0 < hh) (hr : rr ≤ 9) (hk : k ≤ 8) : ∀ s, s ≤ 2 ^ k → R T (mofR U hh ww nl nc (nI rr) w k s).1 pp sp hh ww nl nc nf u e nb n ∧ (∀ i, i < 114 → (mofR U hh ww nl nc (nI rr) w k s).1 i = U i) ∧ ∃ c, Opt (qV U hh ww nl nc rr k w) (fun t => t < s) (mofR U hh ww nl nc (nI rr) w k s).2 c
  | 0, _ => ⟨h, fun _ _ => rfl, -1, Or.inl ⟨rfl, rfl, fun s hs => absurd hs (by omega)⟩⟩
  | s + 1, hs => by
    have h256 : 2 ^ k ≤ 2 ^ 8 := Nat.pow_le_pow_right (by decide) hk
    obtain ⟨a, b, c, o⟩ := mof_rel (w := w) h h0 hr hk s (by omega)
    unfold mofR
    dsimp only
    rw [slV_same h a h0 hr (show s < 2 ^ 32 by omega) (show k ≤ 32 by omega)]
    generalize (mofR U hh ww nl nc (nI rr) w k s) = q at a b o
    rw [pcn_bits (show s < 256 by omega)]
    have l := pcn_le s
    have ee : ∀ t, t < s + 1 ↔ (t < s ∨ t = s) := fun t => by omega
    by_cases cc : q.2 < 0 ∨ ¬ nI (pcn s) ≤ bitsF q.2 25
    · rw [if_pos cc]
      refine ⟨a.sl _ _ _, fun i hi => by show slS _ _ _ _ _ _ _ _ i = _; rw [sl_o2 (by omega) (by omega), b i hi], ?_⟩
      by_cases v : slV U hh ww nl nc (nI rr) (nI s) k < w
      · refine ⟨c, ?_⟩
        show Opt _ _ (if _ then q.2 else nI s) c
        rw [if_pos v]
        have := o.add (s := s) (by omega) (¬ slV U hh ww nl nc (nI rr) (nI s) k < w) Iff.rfl
        rw [if_neg (fun z => z.2 v), if_neg (fun z => z.2 v)] at this
        exact this.c (fun t => (ee t).symm)
      · refine ⟨nI (pcn s), ?_⟩
        show Opt _ _ (if _ then q.2 else nI s) _
        rw [if_neg v]
        have := o.add (s := s) (by omega) (¬ slV U hh ww nl nc (nI rr) (nI s) k < w) Iff.rfl
        have c1 : (c < nI (pcn s) ∨ (nI (pcn s) = c ∧ ¬ q.2 ≤ nI s)) ∧ ¬ slV U hh ww nl nc (nI rr) (nI s) k < w := by
          refine ⟨Or.inl ?_, v⟩
          rcases o with ⟨o1, o2, _⟩ | ⟨t, t1, t2, t3, t4, t5, t6⟩
          · rw [o2]; exact m1_lt_n (by omega)
          · rw [t4] at cc
            rcases cc with cc | cc
            · exact absurd cc (nI_pos (by omega))
            · rw [pcn_bits t1] at cc
              rw [t5]
              exact fa_nle cc
        rw [if_pos c1, if_pos c1] at this
        exact this.c (fun t => (ee t).symm)
    · rw [if_neg cc]
      refine ⟨a, b, c, ?_⟩
      have := o.add (s := s) (by omega) (¬ slV U hh ww nl nc (nI rr) (nI s) k < w) Iff.rfl
      have c1 : ¬ ((c < nI (pcn s) ∨ (nI (pcn s) = c ∧ ¬ q.2 ≤ nI s)) ∧ ¬ slV U hh ww nl nc (nI rr) (nI s) k < w) := by
        rintro ⟨z, -⟩
        apply cc
        rcases o with ⟨o1, o2, _⟩ | ⟨t, t1, t2, t3, t4, t5, t6⟩
        · rw [o1]; exact Or.inl m1_lt
        · rw [t4, pcn_bits t1, ← t5]
          rcases z with z | ⟨z1, z2⟩
          · exact Or.inr (fa_nlt z)
          · rw [t4] at z2
            exact absurd (nI_le (show t ≤ s by omega) (by omega)) z2
      rw [if_neg c1, if_neg c1] at this
      exact this.c (fun t => (ee t).symm)
theorem m_often (a r m w : Int32) : Both2 yX10_often cX10_often 5 yX11_often cX11_often 8 [.int a, .int r, .int m, .int w] := by
  intro l C S hC hR
  obtain ⟨pp, sp, hh, ww, nl, nc, nf, u, e, nb, n, h⟩ := id hR
  obtain ⟨k0, k1, k2, k3, k4⟩ := pl_sh h.1.pl
  have hp := h.1.pl
  have hP := h.2.1
  have hn := hP.n25
  obtain ⟨b1, b2, b3, b4, b5⟩ := hP.2.2.2.1
  have c1 := c_X10_often l C hC S pp h.1.hpl k0 k1 k2 k3 k4 nl hP.1.2.2.2.1 b3 nc hP.1.2.2.2.2.1 b4 a r m w
  have q := cond_or (out_in (v := a) (a := 1) (b := 8) (A := lN 1) (B := 8) (by decide) (by decide) rfl rfl) (cond_or (out_in (v := r) (a := 0) (b := 9) (A := lN 0) (B := 9) (by decide) (by decide) rfl rfl) (cond_or (out_in (v := m) (a := 0) (b := 25) (A := lN 0) (B := 25) (by decide) (by decide) rfl rfl) (out_in (v := w) (a := 0) (b := 1) (A := lN 0) (B := lN 1) (by decide) (by decide) rfl rfl)))
  by_cases c : outP a (nI 1) (nI 8) ∨ outP r (nI 0) (nI 9) ∨ outP m (nI 0) (nI 25) ∨ outP w (nI 0) (nI 1)
  · have c2 := c_X11_often l C hC S hh ww nl nc h.mw a r m w
    rw [if_pos c, if_pos c] at c1
    rw [if_pos (q.mp c), if_pos (q.mp c)] at c2
    exact both_ask hR c1 c2 rfl (by decide) (by decide)
  · rw [if_neg c, if_neg c] at c1
    have c' := fun z => c (q.mpr z)
    by_cases z : hh = 0
    · have c2 := c_X11_often l C hC S hh ww nl nc h.mw a r m w
      rw [if_pos (hP.z.mpr z), if_pos (hP.z.mpr z)] at c1
      rw [if_neg c', if_neg c', if_pos z, if_pos z] at c2
      exact both_ask hR c1 c2 rfl (by decide) (by decide)
    · rw [if_neg (fun y => z (hP.z.mp y)), if_neg (fun y => z (hP.z.mp y))] at c1
      have h0 : 0 < hh := by omega
      obtain ⟨k, _, hk, rfl⟩ := out_n (by decide) (fun y => c (Or.inl y)) (by decide)
      obtain ⟨j, _, hj, rfl⟩ := out_n (by decide) (fun y => c (Or.inr (Or.inl y))) (by decide)
      rw [nI_clamp (by omega)] at c1
      generalize hI : up2 (up2 (up2 (up2 (up2 S 9 3 (nI k)) 9 4 (nI j)) 9 5 m) 9 6 (-1)) 9 7 (-1) = I
      have iO : ∀ i, i ≠ 9 → I i = S i := fun i hi => by rw [← hI, up2_ne _ _ _ hi, up2_ne _ _ _ hi, up2_ne _ _ _ hi, up2_ne _ _ _ hi, up2_ne _ _ _ hi]
      have i4 : I 9 4 = nI j := by rw [← hI, up2_same, pk_un (by omega), up2_same, pk_un (by omega), up2_same, pk_un (by omega), up2_same, pk_us]
      have i5 : I 9 5 = m := by rw [← hI, up2_same, pk_un (by omega), up2_same, pk_un (by omega), up2_same, pk_us]
      have i6 : I 9 6 = -1 := by rw [← hI, up2_same, pk_un (by omega), up2_same, pk_us]
      have i7 : I 9 7 = -1 := by rw [← hI, up2_same, pk_us]
      have eL : lmS S pp 3 nl nc k (nI j) m = tlS pp nl nc k I 3 0 (nI 0) := by rw [← hI]; rfl
      rw [eL] at c1
      have fr : ∀ i, (i < 9 ∨ i = 10 ∨ 40 < i) → tlS pp nl nc k I 3 0 (nI 0) i = S i := fun i hi => by rw [tl_o (by omega) k _ _ _ _ (by omega), iO i (by omega)]
      generalize hS1 : tlS pp nl nc k I 3 0 (nI 0) = S1 at c1 fr
      have h1 := h.cU (fun i hi => fr i (by omega))
      have c2 := c_X11_often l C hC S1 hh ww nl nc h1.mw (nI k) (nI j) m w
      rw [if_neg c', if_neg c', if_neg z, if_neg z, nI_clamp (by omega)] at c2
      have hb : bfS S1 119 = S1 119 := upA_ne _ _ (by decide)
      obtain ⟨t1, t2⟩ := tl_rel (U := S1) (w := m) hp h0 hj hk k 0 I 3 0 (fun _ => False) (by omega) (by decide) (by omega) (h1.2.1.cT (iO _ (by omega)) (iO _ (by omega)) (iO _ (by omega)) (iO _ (by omega))) (by
        show DM I 3 (bfS S1 119) _ _
        rw [hb]
        exact h1.2.2.1.cT (iO _ (by omega)) (iO _ (by omega)) (iO _ (by omega))) (h1.2.2.2.1.2.c (iO _ (by omega))) i4 i5 (Or.inl ⟨i6, i7, fun _ z => z.elim⟩)
      rw [hS1] at t1 t2
      obtain ⟨r1, r2, cc, r3⟩ := mof_rel (w := m) h1 h0 hj hk (2 ^ k) (Nat.le_refl _)
      have t1' := t1.c (E' := fun t => t < 2 ^ k) (fun s => ⟨fun y => y.elim False.elim (fun y => y.1), fun y => Or.inr ⟨y, by rw [Nat.pow_zero, Nat.mod_one]⟩⟩)
      obtain ⟨e1, e2⟩ := t1'.one r3
      have rT : R S1 (mofR S1 hh ww nl nc (nI j) m k (2 ^ k)).1 pp sp hh ww nl nc nf u e nb n := r1.trT fr t2
      refine both_do c1 c2 ⟨?_, rT.rr⟩ r2 (by decide) (by decide)
      rw [← e1]
      obtain ⟨x, _, hx, rfl⟩ := out_n (n := w) (by decide) (fun y => c (Or.inr (Or.inr (Or.inr y)))) (by decide)
      rcases t1' with ⟨o1, o2, _⟩ | ⟨s, s1, s2, s3, s4, s5, s6⟩
      · rw [o1, o2, if_pos (Or.inl m1_lt)]
        split <;> rfl
      · rw [s4, s5, pcn_bits s1]
        rcases (show x = 0 ∨ x = 1 by omega) with rfl | rfl
        · rw [if_pos (show nI 0 = 0 by decide), if_neg (fun y => y.elim (nI_pos (by omega)) (by decide))]
        · rw [if_neg (show ¬ nI 1 = 0 by decide), if_pos (Or.inr rfl)]
