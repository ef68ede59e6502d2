/-! tried: nothing that counts is changed -/
theorem sb_o2 {S : Sto} {hh ww nl nc : Nat} {r : Int32} {n i : Nat} (h : i < 119 ∨ (119 < i ∧ i < 125) ∨ 127 < i) (h2 : i ≠ 129) : sbS S hh ww nl nc r n i = S i := by
  unfold sbS bkS sbT
  rw [upA_ne _ _ (by omega), mps_o h]
  unfold bfS
  rw [upA_ne _ _ h2]
theorem R_try {T T' U U' : Sto} {pp sp hh ww nl nc nf u e nb n : Nat} (h : R T U pp sp hh ww nl nc nf u e nb n) (hT : ∀ i, (i < 9 ∨ i = 10 ∨ 40 < i) → T' i = T i) (hz : CZ T' 10) (hU : ∀ i, 114 ≤ i → i ≠ 119 → (i < 125 ∨ 127 < i) → i ≠ 129 → U' i = U i) (h9 : ∀ k, k < 34 → U' 119 k = U 119 k) : R T' U' pp sp hh ww nl nc nf u e nb n := by
  obtain ⟨a, b, c, d, f, g, i, j, k⟩ := h
  have := a.pl
  have u4 := hU 114 (by omega) (by omega) (by omega) (by omega)
  exact ⟨a.c (hT 0 (by omega)), (b.cT (hT _ (by omega)) (hT _ (by omega)) (hT _ (by omega)) (hT _ (by omega))).cU (fun k _ => by rw [u4]) (hU _ (by omega) (by omega) (by omega) (by omega)) (hU _ (by omega) (by omega) (by omega) (by omega)) (hU _ (by omega) (by omega) (by omega) (by omega)), (c.cT (hT _ (by omega)) (hT _ (by omega)) (hT _ (by omega))).cF b.n25 b.2.2.2.1.2.2.1 h9, ⟨d.1.c (hT _ (by omega)), hz⟩, f.c (by rw [hT _ (by omega)]) (by rw [u4]), g.c (fun i _ h => hT i (by omega)) (by rw [u4]) (hU _ (by omega) (by omega) (by omega) (by omega)), i.c (fun i _ h => hT i (by omega)) (hU _ (by omega) (by omega) (by omega) (by omega)) (hU _ (by omega) (by omega) (by omega) (by omega)), j.c (fun i _ h => hT i (by omega)) (by rw [u4]) (hU _ (by omega) (by omega) (by omega) (by omega)) (hU _ (by omega) (by omega) (by omega) (by omega)), k.c (hT _ (by omega)) (hT _ (by omega)) (by rw [u4]) (by rw [u4]) (hU _ (by omega) (by omega) (by omega) (by omega))⟩
theorem R.trU {T U U' : Sto} {pp sp hh ww nl nc nf u e nb n : Nat} (h : R T U pp sp hh ww nl nc nf u e nb n) (hU : ∀ i, 114 ≤ i → i ≠ 119 → (i < 125 ∨ 127 < i) → i ≠ 129 → U' i = U i) (h9 : ∀ k, k < 34 → U' 119 k = U 119 k) : R T U' pp sp hh ww nl nc nf u e nb n := R_try h (fun _ _ => rfl) h.2.2.2.1.2 hU h9
theorem R.trT {T T' U : Sto} {pp sp hh ww nl nc nf u e nb n : Nat} (h : R T U pp sp hh ww nl nc nf u e nb n) (hT : ∀ i, (i < 9 ∨ i = 10 ∨ 40 < i) → T' i = T i) (hz : CZ T' 10) : R T' U pp sp hh ww nl nc nf u e nb n := R_try h hT hz (fun _ _ _ _ _ => rfl) (fun _ _ => rfl)
theorem R.sb {T U : Sto} {pp sp hh ww nl nc nf u e nb n : Nat} (h : R T U pp sp hh ww nl nc nf u e nb n) (r : Int32) (k : Nat) : R T (sbS U hh ww nl nc r k) pp sp hh ww nl nc nf u e nb n := h.trU (fun i h1 h2 h3 h4 => sb_o2 (by omega) h4) (fun k hk => bk_now hk)
/-- the trial's wall beside the model's, behind n days -/
theorem tri_rel {T U : Sto} {pp sp hh ww nl nc nf u e nb n rr : Nat} (h : R T U pp sp hh ww nl nc nf u e nb n) (h0 : 0 < hh) (hr : rr ≤ 9) (k : Nat) : DM (mbS T pp 3 nl nc (nI rr) k) 13 (mpsS (bfS U) hh ww nl nc (nI rr) k 119) (hh * ww) nl ∧ CZ (mbS T pp 3 nl nc (nI rr) k) 10 := by
  have hp := h.1.pl
  have hP := h.2.1
  have hb : bfS U 119 = U 119 := upA_ne _ _ (by decide)
  have hP2 : PLR (copS T 13 3) pp (bfS U) hh ww nl nc nf := (hP.cT (cop_o (by omega) (by omega) (by omega)) (cop_o (by omega) (by omega) (by omega)) (cop_o (by omega) (by omega) (by omega)) (cop_o (by omega) (by omega) (by omega))).cU (fun k _ => by show upA U 129 _ 114 k = _; rw [upA_ne _ _ (by omega)]) (upA_ne _ _ (by omega)) (upA_ne _ _ (by omega)) (upA_ne _ _ (by omega))
  have hD : DM (copS T 13 3) 13 (bfS U 119) (hh * ww) nl := by
    rw [hb]
    exact h.2.2.1.cop (by omega) hP.n25 hP.2.2.2.1.2.2.1
  obtain ⟨_, b, c⟩ := days_rel (dd := 13) (ff := 10) (by omega) (by omega) (by omega) hP2 h0 hD (h.2.2.2.1.2.c (cop_o (by omega) (by omega) (by omega))) hr k
  exact ⟨b, c⟩
theorem tri_marks {T U : Sto} {pp sp hh ww nl nc nf u e nb n rr : Nat} (h : R T U pp sp hh ww nl nc nf u e nb n) (h0 : 0 < hh) (hr : rr ≤ 9) (k : Nat) : marksF (mbS T pp 3 nl nc (nI rr) k 14) 25 = sbV U hh ww nl nc (nI rr) k := (tri_rel h h0 hr k).1.marks h.2.1.n25
theorem R.mb {T U : Sto} {pp sp hh ww nl nc nf u e nb n rr : Nat} (h : R T U pp sp hh ww nl nc nf u e nb n) (h0 : 0 < hh) (hr : rr ≤ 9) (k : Nat) : R (mbS T pp 3 nl nc (nI rr) k) U pp sp hh ww nl nc nf u e nb n := h.trT (fun i hi => mb_o (by omega)) (tri_rel h h0 hr k).2
theorem m_shown (a r : Int32) : Both2 yX10_shown cX10_shown 3 yX11_shown cX11_shown 3 [.int a, .int r] := by
  intro l C S hC hR
  obtain ⟨pp, sp, hh, ww, nl, nc, nf, u, e, nb, n, h⟩ := id hR
  obtain ⟨k0, k1, k2, k3, k4⟩ := pl_sh h.1.pl
  have hp := h.1.pl
  have hP := h.2.1
  obtain ⟨b1, b2, b3, b4, b5⟩ := hP.2.2.2.1
  have c1 := c_X10_shown l C hC S pp h.1.hpl k0 k1 k2 k3 k4 nl hP.1.2.2.2.1 b3 nc hP.1.2.2.2.2.1 b4 a r
  have q := cond_or (out_in (v := a) (a := 0) (b := 60) (A := lN 0) (B := 60) (by decide) (by decide) rfl rfl) (out_in (v := r) (a := 0) (b := 9) (A := lN 0) (B := 9) (by decide) (by decide) rfl rfl)
  by_cases c : outP a (nI 0) (nI 60) ∨ outP r (nI 0) (nI 9)
  · have c2 := c_X11_shown l C hC S hh ww nl nc h.mw a r
    rw [if_pos c, if_pos c] at c1
    rw [if_pos (q.mp c), if_pos (q.mp c)] at c2
    exact both_ask hR c1 c2 rfl (by decide) (by decide)
  · rw [if_neg c, if_neg c] at c1
    have c' := fun z => c (q.mpr z)
    by_cases z : hh = 0
    · have c2 := c_X11_shown l C hC S hh ww nl nc h.mw a r
      rw [if_pos (hP.z.mpr z), if_pos (hP.z.mpr z)] at c1
      rw [if_neg c', if_neg c', if_pos z, if_pos z] at c2
      exact both_ask hR c1 c2 rfl (by decide) (by decide)
    · rw [if_neg (fun y => z (hP.z.mp y)), if_neg (fun y => z (hP.z.mp y))] at c1
      obtain ⟨k, _, hk2, rfl⟩ := out_n (by decide) (fun y => c (Or.inl y)) (by decide)
      obtain ⟨j, _, hj, rfl⟩ := out_n (by decide) (fun y => c (Or.inr y)) (by decide)
      rw [nI_clamp (by omega)] at c1
      have h1 := h.cU (U' := mbS S pp 3 nl nc (nI j) k) (fun i hi => mb_o (by omega))
      have c2 := c_X11_shown l C hC (mbS S pp 3 nl nc (nI j) k) hh ww nl nc h1.mw (nI k) (nI j)
      rw [if_neg c', if_neg c', if_neg z, if_neg z, nI_clamp (by omega)] at c2
      exact both_do c1 c2 ⟨tri_marks h1 (by omega) hj k, ((h1.mb (by omega) hj k).sb (nI j) k).rr⟩ (fun i hi => sb_o2 (by omega) (by omega)) (by decide) (by decide)
theorem R.fs {T U : Sto} {pp sp hh ww nl nc nf u e nb n : Nat} (h : R T U pp sp hh ww nl nc nf u e nb n) (r : Int32) : ∀ k, R T (fsS U hh ww nl nc r k) pp sp hh ww nl nc nf u e nb n
  | 0 => h
  | k + 1 => (R.fs h r k).sb r k
theorem fs_o {U : Sto} {hh ww nl nc i : Nat} {r : Int32} (h : i < 114) : ∀ k, fsS U hh ww nl nc r k i = U i
  | 0 => rfl
  | k + 1 => by
    show sbS _ _ _ _ _ _ _ i = _
    rw [sb_o2 (by omega) (by omega), fs_o h k]
theorem m_first (a r : Int32) : Both2 yX10_first cX10_first 3 yX11_first cX11_first 4 [.int a, .int r] := by
  intro l C S hC hR
  obtain ⟨pp, sp, hh, ww, nl, nc, nf, u, e, nb, n, h⟩ := id hR
  obtain ⟨k0, k1, k2, k3, k4⟩ := pl_sh h.1.pl
  have hp := h.1.pl
  have hP := h.2.1
  have hn := hP.n25
  obtain ⟨b1, b2, b3, b4, b5⟩ := hP.2.2.2.1
  have c1 := c_X10_first l C hC S pp h.1.hpl k0 k1 k2 k3 k4 nl hP.1.2.2.2.1 b3 nc hP.1.2.2.2.2.1 b4 a r
  have q := cond_or (out_in (v := a) (a := 0) (b := 25) (A := lN 0) (B := 25) (by decide) (by decide) rfl rfl) (out_in (v := r) (a := 0) (b := 9) (A := lN 0) (B := 9) (by decide) (by decide) rfl rfl)
  by_cases c : outP a (nI 0) (nI 25) ∨ outP r (nI 0) (nI 9)
  · have c2 := c_X11_first l C hC S hh ww nl nc h.mw a r
    rw [if_pos c, if_pos c] at c1
    rw [if_pos (q.mp c), if_pos (q.mp c)] at c2
    exact both_ask hR c1 c2 rfl (by decide) (by decide)
  · rw [if_neg c, if_neg c] at c1
    have c' := fun z => c (q.mpr z)
    by_cases z : hh = 0
    · have c2 := c_X11_first l C hC S hh ww nl nc h.mw a r
      rw [if_pos (hP.z.mpr z), if_pos (hP.z.mpr z)] at c1
      rw [if_neg c', if_neg c', if_pos z, if_pos z] at c2
      exact both_ask hR c1 c2 rfl (by decide) (by decide)
    · rw [if_neg (fun y => z (hP.z.mp y)), if_neg (fun y => z (hP.z.mp y))] at c1
      obtain ⟨j, _, hj, rfl⟩ := out_n (by decide) (fun y => c (Or.inr y)) (by decide)
      generalize hk : fnd (dtmP S pp 3 nl nc a (nI j)) 61 0 = k at c1
      have h1 := h.cU (U' := mbS S pp 3 nl nc (nI j) k) (fun i hi => mb_o (by omega))
      have c2 := c_X11_first l C hC (mbS S pp 3 nl nc (nI j) k) hh ww nl nc h1.mw a (nI j)
      have ek : fnd (fsP (mbS S pp 3 nl nc (nI j) k) hh ww nl nc a (nI j)) 61 0 = k := by
        refine Eq.trans (fnd_c 61 0 (fun i _ _ => ?_)) hk
        have h2 := h1.fs (nI j) i
        unfold fsP dtmP
        rw [tri_marks h2 (by omega) hj i, sub_bc (x := sbV (fsS (mbS S pp 3 nl nc (nI j) k) hh ww nl nc (nI j) i) hh ww nl nc (nI j) i) (msh_sub hn) hn]
      rw [if_neg c', if_neg c', if_neg z, if_neg z, ek] at c2
      exact both_do c1 c2 ⟨rfl, ((h1.mb (by omega) hj k).fs (nI j) _).rr⟩ (fun i hi => fs_o hi _) (by decide) (by decide)
theorem m_dryIn : Both2 yX10_dryIn cX10_dryIn 1 yX11_dryIn cX11_dryIn 3 [] := by
  intro l C S hC hR
  obtain ⟨pp, sp, hh, ww, nl, nc, nf, u, e, nb, n, h⟩ := id hR
  obtain ⟨k0, k1, k2, k3, k4⟩ := pl_sh h.1.pl
  have hp := h.1.pl
  have hP := h.2.1
  have hn := hP.n25
  obtain ⟨b1, b2, b3, b4, b5⟩ := hP.2.2.2.1
  have c1 := c_X10_dryIn l C hC S pp h.1.hpl k0 k1 k2 k3 k4 nl hP.1.2.2.2.1 b3 nc hP.1.2.2.2.2.1 b4
  by_cases z : hh = 0
  · have c2 := c_X11_dryIn l C hC S hh ww nl nc h.mw
    rw [if_pos (hP.z.mpr z), if_pos (hP.z.mpr z)] at c1
    rw [if_pos z, if_pos z] at c2
    exact both_ask hR c1 c2 rfl (by decide) (by decide)
  · rw [if_neg (fun y => z (hP.z.mp y)), if_neg (fun y => z (hP.z.mp y))] at c1
    generalize hk : fnd (dtdP S pp 3 nl nc) 61 0 = k at c1
    have h1 := h.cU (U' := mbS S pp 3 nl nc (nI 0) k) (fun i hi => mb_o (by omega))
    have c2 := c_X11_dryIn l C hC (mbS S pp 3 nl nc (nI 0) k) hh ww nl nc h1.mw
    have ek : fnd (mdyP (mbS S pp 3 nl nc (nI 0) k) hh ww nl nc) 61 0 = k := by
      refine Eq.trans (fnd_c 61 0 (fun i _ _ => ?_)) hk
      unfold mdyP dtdP
      rw [(tri_rel h1 (by omega) (show 0 ≤ 9 by omega) i).1.wet hn]
    rw [if_neg z, if_neg z, ek] at c2
    exact both_do c1 c2 ⟨rfl, ((h1.mb (by omega) (by omega) k).sb (nI 0) _).rr⟩ (fun i hi => sb_o2 (r := nI 0) (by omega) (by omega)) (by decide) (by decide)
/-! which rain it was -/
theorem all64 : ∀ nn, nn ≤ 25 → (lN 1 <<< ((nI nn).toInt64 &&& 63)) - lN 1 = lN (2 ^ nn - 1) := by decide +kernel
theorem p25 {nn : Nat} (h : nn ≤ 25) : 2 ^ nn ≤ 33554432 := (Nat.pow_le_pow_right (by decide) h : 2 ^ nn ≤ 2 ^ 25)
theorem set_in {T U : Sto} {pp hh ww nl nc nf : Nat} (hP : PLR T pp U hh ww nl nc nf) (set : Int32) : ¬ set &&& (plAll T pp ^^^ (-1)) = 0 ↔ ¬ inP set.toInt64 (lN 0) ((lN 1 <<< ((mcl U).toInt64 &&& 63)) - lN 1) := by
  have hn := hP.n25
  have h2 := p25 hn
  rw [hP.mc, all64 _ hn]
  rw [hP.all]
  apply not_congr
  have e1 : set &&& (((nI 1 <<< (nI (hh * ww) &&& 31)) - nI 1) ^^^ (-1)) = 0 ↔ sub (hh * ww) set := by
    constructor
    · intro h k hk
      by_cases h32 : k < 32
      · have := congrArg (fun x => bt x k) h
        simp only [bt_and, bt_not h32, all_b _ hn k h32] at this
        rw [show bt (0 : Int32) k = false from bt_0 k] at this
        simpa [show ¬ k < hh * ww by omega] using this
      · exact bt_32 (by omega)
    · intro h
      apply bt_ext
      intro k hk
      rw [bt_and, bt_not hk, all_b _ hn k hk, show bt (0 : Int32) k = false from bt_0 k]
      by_cases c : k < hh * ww
      · simp [c]
      · rw [h k (by omega)]; simp
  have e2 : sub (hh * ww) set ↔ set.toBitVec.toNat < 2 ^ (hh * ww) := by
    constructor
    · intro h
      exact Nat.lt_pow_two_of_testBit _ (fun i hi => h i hi)
    · intro h k hk
      exact Nat.testBit_lt_two_pow (Nat.lt_of_lt_of_le h (Nat.pow_le_pow_right (by decide) hk))
  rw [e1, e2]
  unfold inP
  rw [Int64.le_iff_toInt_le, Int64.le_iff_toInt_le, Int32.toInt_toInt64, lN_toInt (by decide), lN_toInt (by omega)]
  have pos : 0 < 2 ^ (hh * ww) := Nat.pow_pos (by decide)
  have e3 : set.toInt = if set.toBitVec.toNat < 2147483648 then (set.toBitVec.toNat : Int) else (set.toBitVec.toNat : Int) - 4294967296 := by
    show set.toBitVec.toInt = _
    rw [BitVec.toInt_eq_toNat_cond]
    by_cases c : set.toBitVec.toNat < 2147483648
    · rw [if_pos c, if_pos (by omega)]
    · rw [if_neg c, if_neg (by omega)]
      rfl
  rw [e3]
  have := set.toBitVec.isLt
  generalize 2 ^ (hh * ww) = p at h2 pos
  split <;> omega
theorem R.wr {T U : Sto} {pp sp hh ww nl nc nf u e nb n : Nat} (h : R T U pp sp hh ww nl nc nf u e nb n) (h0 : 0 < hh) : ∀ k, k ≤ 10 → R (rsS T pp 3 nl nc k) (mwrS U hh ww nl nc k) pp sp hh ww nl nc nf u e nb n
  | 0, _ => h
  | k + 1, hk => ((R.wr h h0 k (by omega)).mb h0 (by omega) 1).sb (nI k) 1
theorem rsF_eq {T U : Sto} {pp sp hh ww nl nc nf u e nb n : Nat} (h : R T U pp sp hh ww nl nc nf u e nb n) (h0 : 0 < hh) (set : Int32) : ∀ k, k ≤ 10 → rsF T pp 3 nl nc set k = mwrF U hh ww nl nc set k
  | 0, _ => rfl
  | k + 1, hk => by
    unfold rsF mwrF
    rw [rsF_eq h h0 set k (by omega)]
    have e : marksF (rsS T pp 3 nl nc (k + 1) 14) 25 = sbV (mwrS U hh ww nl nc k) hh ww nl nc (nI k) 1 := tri_marks (h.wr h0 k (by omega)) h0 (by omega) 1
    rw [e]
    by_cases c : sbV (mwrS U hh ww nl nc k) hh ww nl nc (nI k) 1 = set
    · rw [if_pos c, if_pos c]
    · rw [if_neg c, if_neg c, or_0]
theorem wr_lo {U : Sto} {hh ww nl nc i : Nat} (h : i < 114) : ∀ k, mwrS U hh ww nl nc k i = U i
  | 0 => rfl
  | k + 1 => by
    show sbS _ _ _ _ _ _ _ i = _
    rw [sb_o2 (by omega) (by omega), wr_lo h k]
theorem m_wasRain (set : Int32) : Both2 yX10_wasRain cX10_wasRain 2 yX11_wasRain cX11_wasRain 4 [.int set] := by
  intro l C S hC hR
  obtain ⟨pp, sp, hh, ww, nl, nc, nf, u, e, nb, n, h⟩ := id hR
  obtain ⟨k0, k1, k2, k3, k4⟩ := pl_sh h.1.pl
  have hp := h.1.pl
  have hP := h.2.1
  obtain ⟨b1, b2, b3, b4, b5⟩ := hP.2.2.2.1
  have c1 := c_X10_wasRain l C hC S pp h.1.hpl k0 k1 k2 k3 k4 nl hP.1.2.2.2.1 b3 nc hP.1.2.2.2.2.1 b4 set
  have q := set_in hP set
  by_cases c : ¬ set &&& (plAll S pp ^^^ (-1)) = 0
  · have c2 := c_X11_wasRain l C hC S hh ww nl nc h.mw set
    rw [if_pos c, if_pos c] at c1
    rw [if_pos (q.mp c), if_pos (q.mp c)] at c2
    exact both_ask hR c1 c2 rfl (by decide) (by decide)
  · rw [if_neg c, if_neg c] at c1
    have c' := fun z => c (q.mpr z)
    by_cases z : hh = 0
    · have c2 := c_X11_wasRain l C hC S hh ww nl nc h.mw set
      rw [if_pos (hP.z.mpr z), if_pos (hP.z.mpr z)] at c1
      rw [if_neg c', if_neg c', if_pos z, if_pos z] at c2
      exact both_ask hR c1 c2 rfl (by decide) (by decide)
    · rw [if_neg (fun y => z (hP.z.mp y)), if_neg (fun y => z (hP.z.mp y))] at c1
      have fr : ∀ i, 114 ≤ i → rsS S pp 3 nl nc 10 i = S i := fun i hi => rs_o (by omega) 10
      have h1 := h.cU fr
      have c2 := c_X11_wasRain l C hC (rsS S pp 3 nl nc 10) hh ww nl nc h1.mw set
      have em : mcl (rsS S pp 3 nl nc 10) = mcl S := by unfold mcl; rw [fr 114 (by omega)]
      rw [em, if_neg c', if_neg c', if_neg z, if_neg z] at c2
      exact both_do c1 c2 ⟨rsF_eq h1 (by omega) set 10 (by omega), (h1.wr (by omega) 10 (by omega)).rr⟩ (fun i hi => wr_lo hi 10) (by decide) (by decide)
