/-! what is done, method by method -/
theorem cond_or {a b A B : Prop} (h1 : a ↔ ¬ A) (h2 : b ↔ ¬ B) : (a ∨ b) ↔ ¬ (A ∧ B) := by
  rw [h1, h2]
  exact ⟨fun h z => h.elim (fun y => y z.1) (fun y => y z.2), fun h => Classical.byCases (p := A) (fun p => Or.inr (fun q => h ⟨p, q⟩)) Or.inl⟩
theorem PLR.z {T U : Sto} {pp hh ww nl nc nf : Nat} (hP : PLR T pp U hh ww nl nc nf) : plCells T pp = 0 ↔ hh = 0 := by
  have hn := hP.n25
  rw [hP.cells, nI_z (by omega)]
  have hor := hP.2.2.1
  constructor
  · intro q
    rcases Nat.mul_eq_zero.mp q with h | h
    · exact h
    · omega
  · intro q
    rw [q, Nat.zero_mul]
theorem days_rel {T U : Sto} {pp dd ff hh ww nl nc nf rr : Nat} (hdf : ff + 2 < dd ∨ dd + 2 ≤ ff) (hpd : dd + 2 < pp) (hpf : ff + 2 < pp) (hP : PLR T pp U hh ww nl nc nf) (h0 : 0 < hh) (hD : DM T dd (U 119) (hh * ww) nl) (hz : CZ T ff) (hr : rr ≤ 9) : ∀ n,
    PLR (daysS T pp dd ff nl nc (nI rr) n) pp (mpsS U hh ww nl nc (nI rr) n) hh ww nl nc nf ∧ DM (daysS T pp dd ff nl nc (nI rr) n) dd (mpsS U hh ww nl nc (nI rr) n 119) (hh * ww) nl ∧ CZ (daysS T pp dd ff nl nc (nI rr) n) ff
  | 0 => ⟨hP, hD, hz⟩
  | n + 1 => by
    obtain ⟨a, b, c⟩ := days_rel hdf hpd hpf hP h0 hD hz hr n
    obtain ⟨x, y⟩ := day_rel hdf hpd hpf a h0 b c hr
    have fT : ∀ i, i ≠ dd → i ≠ dd + 1 → i ≠ ff + 1 → i ≠ ff + 2 → rainS (daysS T pp dd ff nl nc (nI rr) n) pp dd ff nl nc (nI rr) i = daysS T pp dd ff nl nc (nI rr) n i := fun i a b c d => rain_o a b c d
    exact ⟨(a.cT (fT _ (by omega) (by omega) (by omega) (by omega)) (fT _ (by omega) (by omega) (by omega) (by omega)) (fT _ (by omega) (by omega) (by omega) (by omega)) (fT _ (by omega) (by omega) (by omega) (by omega))).cU (fun k _ => by show passS _ _ _ _ _ _ 114 k = _; rw [pass_o (by omega)]) (pass_o (by omega)) (pass_o (by omega)) (pass_o (by omega)), x, y⟩
theorem R.days {T U : Sto} {pp sp hh ww nl nc nf u e nb n r : Nat} (h : R T U pp sp hh ww nl nc nf u e nb n) (h0 : 0 < hh) (hr : r ≤ 9) : ∀ k, R (daysS T pp 3 6 nl nc (nI r) k) (mpsS U hh ww nl nc (nI r) k) pp sp hh ww nl nc nf u e nb n
  | 0 => h
  | k + 1 => (R.days h h0 hr k).rain h0 hr
theorem R.count {T U : Sto} {pp sp hh ww nl nc nf u e nb n : Nat} (h : R T U pp sp hh ww nl nc nf u e nb n) : bcF (marksF (T 4) 25) = bitsF (mshF (U 119) (hh * ww)) 25 := by
  have hn := h.2.1.n25
  have em : marksF (T 4) 25 = mshF (U 119) (hh * ww) := h.2.2.1.marks hn
  rw [em, sub_bc (msh_sub hn) hn]
theorem R.rr {T U : Sto} {pp sp hh ww nl nc nf u e nb n : Nat} (h : R T U pp sp hh ww nl nc nf u e nb n) : RR T U := ⟨pp, sp, hh, ww, nl, nc, nf, u, e, nb, n, h⟩
theorem m_day (a r : Int32) : Both2 yX10_day cX10_day 3 yX11_day cX11_day 4 [.int a, .int r] := by
  intro l C S hC hR
  obtain ⟨pp, sp, hh, ww, nl, nc, nf, u, e, nb, n, h⟩ := id hR
  obtain ⟨k0, k1, k2, k3, k4⟩ := pl_sh h.1.pl
  have hp := h.1.pl
  have hP := h.2.1
  have hS := h.2.2.2.2.2.1
  obtain ⟨b1, b2, b3, b4, b5⟩ := hP.2.2.2.1
  have c1 := c_X10_day l C hC S pp h.1.hpl k0 k1 k2 k3 k4 nl hP.1.2.2.2.1 b3 nc hP.1.2.2.2.2.1 b4 e hS.2.2.2.1 hS.2.2.2.2.1 a r
  have q := cond_or (out_in (v := a) (a := 1) (b := 60) (A := lN 1) (B := 60) (by decide) (by decide) rfl rfl) (out_in (v := r) (a := 0) (b := 9) (A := lN 0) (B := 9) (by decide) (by decide) rfl rfl)
  by_cases c : outP a (nI 1) (nI 60) ∨ outP r (nI 0) (nI 9)
  · have c2 := c_X11_day l C hC S hh ww nl nc h.mw u hS.2.1 hS.2.2.1 a r
    rw [if_pos c, if_pos c] at c1
    rw [if_pos (q.mp c), if_pos (q.mp c)] at c2
    exact both_ask hR c1 c2 rfl (by decide) (by decide)
  · rw [if_neg c, if_neg c] at c1
    have c' := fun z => c (q.mpr z)
    by_cases z : hh = 0
    · have c2 := c_X11_day l C hC S hh ww nl nc h.mw u hS.2.1 hS.2.2.1 a r
      rw [if_pos (hP.z.mpr z), if_pos (hP.z.mpr z)] at c1
      rw [if_neg c', if_neg c', if_pos z, if_pos z] at c2
      exact both_ask hR c1 c2 rfl (by decide) (by decide)
    · rw [if_neg (fun y => z (hP.z.mp y)), if_neg (fun y => z (hP.z.mp y))] at c1
      have ed : S 3 4 = S 119 31 := h.2.2.1.2.2.2.2.2.1
      by_cases f : S 3 4 ≤ nI 9000
      · rw [if_neg (fun y => y f), if_neg (fun y => y f)] at c1
        obtain ⟨k, hk1, hk2, rfl⟩ := out_n (by decide) (fun y => c (Or.inl y)) (by decide)
        obtain ⟨j, _, hj, rfl⟩ := out_n (by decide) (fun y => c (Or.inr y)) (by decide)
        rw [nI_clamp (by omega)] at c1
        have fr : ∀ i, 114 ≤ i → dayS S pp e nl nc (nI j) k i = S i := fun i hi => by
          unfold dayS
          rw [days_o (by omega) (by omega) (by omega) (by omega), push_o hS.2.2.2.2.1 (by omega)]
        have h1 := h.cU fr
        have c2 := c_X11_day l C hC (dayS S pp e nl nc (nI j) k) hh ww nl nc h1.mw u h1.2.2.2.2.2.1.2.1 h1.2.2.2.2.2.1.2.2.1 (nI k) (nI j)
        rw [if_neg c', if_neg c', if_neg z, if_neg z, fr 119 (by omega), if_neg (fun y => y (ed ▸ f)), if_neg (fun y => y (ed ▸ f)), nI_clamp (by omega)] at c2
        have h2 : R (dayS S pp e nl nc (nI j) k) (mpsS (remS (dayS S pp e nl nc (nI j) k) u) hh ww nl nc (nI j) k) pp sp hh ww nl nc nf (remU u + 1) ((e + 1) % 16) nb n := R.days h1.psh (by omega) hj k
        exact both_do c1 c2 ⟨h2.count, h2.rr⟩ (fun i hi => by rw [mps_o (by omega), rem_o (by omega) (by omega)]) (by decide) (by decide)
      · have c2 := c_X11_day l C hC S hh ww nl nc h.mw u hS.2.1 hS.2.2.1 a r
        rw [if_pos f, if_pos f] at c1
        rw [if_neg c', if_neg c', if_neg z, if_neg z, if_pos (ed ▸ f), if_pos (ed ▸ f)] at c2
        exact both_ask hR c1 c2 rfl (by decide) (by decide)
theorem m_look : Both2 yX10_look cX10_look 1 yX11_look cX11_look 1 [] := by
  intro l C S hC hR
  obtain ⟨pp, sp, hh, ww, nl, nc, nf, u, e, nb, n, h⟩ := id hR
  obtain ⟨k0, k1, k2, k3, k4⟩ := pl_sh h.1.pl
  have hp := h.1.pl
  have hP := h.2.1
  have hS := h.2.2.2.2.2.1
  have c1 := c_X10_look l C hC S pp h.1.hpl k0 k1 k2 k3 k4 e hS.2.2.2.1 hS.2.2.2.2.1
  by_cases z : hh = 0
  · have c2 := c_X11_look l C hC S hh ww nl nc h.mw u hS.2.1 hS.2.2.1
    rw [if_pos (hP.z.mpr z), if_pos (hP.z.mpr z)] at c1
    rw [if_pos z, if_pos z] at c2
    exact both_ask hR c1 c2 rfl (by decide) (by decide)
  · rw [if_neg (fun y => z (hP.z.mp y)), if_neg (fun y => z (hP.z.mp y))] at c1
    have fr : ∀ i, 114 ≤ i → lookS S pp e i = S i := fun i hi => by
      unfold lookS
      rw [shr_o (by omega) (by omega), push_o hS.2.2.2.2.1 (by omega)]
    have h1 := h.cU fr
    have c2 := c_X11_look l C hC (lookS S pp e) hh ww nl nc h1.mw u h1.2.2.2.2.2.1.2.1 h1.2.2.2.2.2.1.2.2.1
    rw [if_neg z, if_neg z] at c2
    have h2 : R (lookS S pp e) (mlookS (remS (lookS S pp e) u) (hh * ww)) pp sp hh ww nl nc nf (remU u + 1) ((e + 1) % 16) nb n := R.look h1.psh (by omega)
    exact both_do c1 c2 ⟨h2.count, h2.rr⟩ (fun i hi => by rw [mlook_o (by omega), rem_o (by omega) (by omega)]) (by decide) (by decide)
theorem m_brush (x : Int32) : Both2 yX10_brush cX10_brush 3 yX11_brush cX11_brush 3 [.int x] := by
  intro l C S hC hR
  obtain ⟨pp, sp, hh, ww, nl, nc, nf, u, e, nb, n, h⟩ := id hR
  obtain ⟨k0, k1, k2, k3, k4⟩ := pl_sh h.1.pl
  have hp := h.1.pl
  have hP := h.2.1
  have hn := hP.n25
  have hS := h.2.2.2.2.2.1
  have c1 := c_X10_brush l C hC S pp h.1.hpl k0 k1 k2 k3 k4 e hS.2.2.2.1 hS.2.2.2.2.1 x
  have q := has_is (k := hh * ww) (x := x) (by omega)
  rw [hP.cells] at c1
  by_cases c : hasP (nI (hh * ww)) x
  · rw [if_neg (fun z => z c), if_neg (fun z => z c)] at c1
    obtain ⟨j, hj, rfl⟩ := has_n (by omega) c
    have eb : brushS S e (nI j) = up2 (up2 (pushS S 3 e) 4 j (nI 0)) 3 6 (S 3 6 + nI 1) := by
      unfold brushS
      dsimp only
      rw [putN (by omega) (by decide), up2_ne (pushS S 3 e) j (nI 0) (show 3 ≠ 4 by omega), push_o hS.2.2.2.2.1 (by omega)]
    rw [eb, pickN (by omega) (by decide), push_o hS.2.2.2.2.1 (by omega)] at c1
    generalize hs1 : up2 (up2 (pushS S 3 e) 4 j (nI 0)) 3 6 (S 3 6 + nI 1) = S1 at c1
    have fr : ∀ i, 114 ≤ i → S1 i = S i := fun i hi => by
      rw [← hs1, up2_ne _ _ _ (by omega), up2_ne _ _ _ (by omega), push_o hS.2.2.2.2.1 (by omega)]
    have h1 := h.cU fr
    have c2 := c_X11_brush l C hC S1 hh ww nl nc h1.mw u h1.2.2.2.2.2.1.2.1 h1.2.2.2.2.2.1.2.2.1 (nI j)
    rw [h1.2.1.mc, if_neg (fun z => z (q.mp c)), if_neg (fun z => z (q.mp c)), nI_clamp (by omega)] at c2
    have h2 := h1.psh.bru hj (S 3 6 + nI 1)
    rw [hs1] at h2
    have em : mbrS S1 u j = up2 (up2 (remS S1 u) 119 j (nI 0)) 119 33 (S 3 6 + nI 1) := by
      unfold mbrS
      dsimp only
      rw [up2_same, pk_un (by omega), rem_o (by omega) (by omega), h1.2.2.1.2.2.2.2.2.2.2]
    rw [em] at c2
    exact both_do c1 c2 ⟨(h1.2.2.1.1 j hj).1, h2.rr⟩ (fun i hi => by rw [up2_ne _ _ _ (by omega), up2_ne _ _ _ (by omega), rem_o (by omega) (by omega)]) (by decide) (by decide)
  · have c2 := c_X11_brush l C hC S hh ww nl nc h.mw u hS.2.1 hS.2.2.1 x
    rw [if_pos c, if_pos c] at c1
    rw [hP.mc, if_pos (fun z => c (q.mpr z)), if_pos (fun z => c (q.mpr z))] at c2
    exact both_ask hR c1 c2 rfl (by decide) (by decide)
theorem m_lead (a x : Int32) : Both2 yX10_lead cX10_lead 4 yX11_lead cX11_lead 4 [.int a, .int x] := by
  intro l C S hC hR
  obtain ⟨pp, sp, hh, ww, nl, nc, nf, u, e, nb, n, h⟩ := id hR
  obtain ⟨k0, k1, k2, k3, k4⟩ := pl_sh h.1.pl
  have hp := h.1.pl
  have hP := h.2.1
  have hn := hP.n25
  have hS := h.2.2.2.2.2.1
  obtain ⟨b1, b2, b3, b4, b5⟩ := hP.2.2.2.1
  have c1 := c_X10_lead l C hC S pp h.1.hpl k0 k1 k2 k3 k4 e hS.2.2.2.1 hS.2.2.2.2.1 a x
  have q := has_is (k := hh * ww) (x := x) (by omega)
  have q2 := has_is (k := nl) (x := a) (by omega)
  rw [hP.cells, hP.1.2.2.2.1] at c1
  by_cases c : hasP (nI nl) a ∧ hasP (nI (hh * ww)) x
  · rw [if_neg (fun z => z c), if_neg (fun z => z c)] at c1
    obtain ⟨j, hj, rfl⟩ := has_n (by omega) c.2
    obtain ⟨i, hi, rfl⟩ := has_n (by omega) c.1
    rw [putN (by omega) (by decide), pickN (by omega) (by decide), push_o hS.2.2.2.2.1 (by omega)] at c1
    generalize hs1 : up2 (pushS S 3 e) 5 i (nI j) = S1 at c1
    have fr : ∀ i, 114 ≤ i → S1 i = S i := fun k hk => by
      rw [← hs1, up2_ne _ _ _ (by omega), push_o hS.2.2.2.2.1 (by omega)]
    have h1 := h.cU fr
    have c2 := c_X11_lead l C hC S1 hh ww nl nc h1.mw u h1.2.2.2.2.2.1.2.1 h1.2.2.2.2.2.1.2.2.1 (nI i) (nI j)
    rw [h1.2.1.mc, h1.2.1.2.1.2.2.1, if_neg (fun z => z ⟨q2.mp c.1, q.mp c.2⟩), if_neg (fun z => z ⟨q2.mp c.1, q.mp c.2⟩), nI_clamp (by omega)] at c2
    have h2 := h1.psh.led (j := i) (by omega) hj
    rw [hs1] at h2
    exact both_do c1 c2 ⟨(h1.2.2.1.2.2.1 i hi).1, h2.rr⟩ (fun k hk => by rw [up2_ne _ _ _ (by omega), rem_o (by omega) (by omega)]) (by decide) (by decide)
  · have c2 := c_X11_lead l C hC S hh ww nl nc h.mw u hS.2.1 hS.2.2.1 a x
    have c' : ¬ (isM (nI nl) a ∧ isM (nI (hh * ww)) x) := fun z => c ⟨q2.mpr z.1, q.mpr z.2⟩
    rw [if_pos c, if_pos c] at c1
    rw [hP.mc, hP.2.1.2.2.1, if_pos c', if_pos c'] at c2
    exact both_ask hR c1 c2 rfl (by decide) (by decide)
theorem m_wind (a : Int32) : Both2 yX10_wind cX10_wind 3 yX11_wind cX11_wind 3 [.int a] := by
  intro l C S hC hR
  obtain ⟨pp, sp, hh, ww, nl, nc, nf, u, e, nb, n, h⟩ := id hR
  obtain ⟨k0, k1, k2, k3, k4⟩ := pl_sh h.1.pl
  have hp := h.1.pl
  have hP := h.2.1
  have hS := h.2.2.2.2.2.1
  have c1 := c_X10_wind l C hC S pp h.1.hpl k0 k1 k2 k3 k4 e hS.2.2.2.1 hS.2.2.2.2.1 a
  have q := out_in (v := a) (a := 0) (b := 2) (A := lN 0) (B := 2) (by decide) (by decide) rfl rfl
  by_cases c : outP a (nI 0) (nI 2)
  · have c2 := c_X11_wind l C hC S hh ww nl nc h.mw u hS.2.1 hS.2.2.1 a
    rw [if_pos c, if_pos c] at c1
    rw [if_pos (q.mp c), if_pos (q.mp c)] at c2
    exact both_ask hR c1 c2 rfl (by decide) (by decide)
  · rw [if_neg c, if_neg c] at c1
    have c' := fun z => c (q.mpr z)
    by_cases z : hh = 0
    · have c2 := c_X11_wind l C hC S hh ww nl nc h.mw u hS.2.1 hS.2.2.1 a
      rw [if_pos (hP.z.mpr z), if_pos (hP.z.mpr z)] at c1
      rw [if_neg c', if_neg c', if_pos z, if_pos z] at c2
      exact both_ask hR c1 c2 rfl (by decide) (by decide)
    · rw [if_neg (fun y => z (hP.z.mp y)), if_neg (fun y => z (hP.z.mp y)), push_o hS.2.2.2.2.1 (by omega)] at c1
      generalize hs1 : up2 (pushS S 3 e) 3 2 a = S1 at c1
      have fr : ∀ i, 114 ≤ i → S1 i = S i := fun i hi => by
        rw [← hs1, up2_ne _ _ _ (by omega), push_o hS.2.2.2.2.1 (by omega)]
      have h1 := h.cU fr
      have c2 := c_X11_wind l C hC S1 hh ww nl nc h1.mw u h1.2.2.2.2.2.1.2.1 h1.2.2.2.2.2.1.2.2.1 a
      rw [if_neg c', if_neg c', if_neg z, if_neg z] at c2
      have h2 := h1.psh.wnd a
      rw [hs1] at h2
      exact both_do c1 c2 ⟨h1.2.2.1.2.2.2.1, h2.rr⟩ (fun i hi => by rw [up2_ne _ _ _ (by omega), rem_o (by omega) (by omega)]) (by decide) (by decide)
theorem m_fill (x b : Int32) : Both2 yX10_fill cX10_fill 4 yX11_fill cX11_fill 4 [.int x, .int b] := by
  intro l C S hC hR
  obtain ⟨pp, sp, hh, ww, nl, nc, nf, u, e, nb, n, h⟩ := id hR
  obtain ⟨k0, k1, k2, k3, k4⟩ := pl_sh h.1.pl
  have hp := h.1.pl
  have hP := h.2.1
  have hS := h.2.2.2.2.2.1
  obtain ⟨b1, b2, b3, b4, b5⟩ := hP.2.2.2.1
  have c1 := c_X10_fill l C hC S pp h.1.hpl k0 k1 k2 k3 k4 e hS.2.2.2.1 hS.2.2.2.2.1 x b
  have q := has_is (k := nc) (x := x) (by omega)
  rw [hP.1.2.2.2.2.1] at c1
  by_cases c : hasP (nI nc) x
  · rw [if_neg (show ¬ ¬ hasP (nI nc) x from fun z => z c), if_neg (show ¬ ¬ hasP (nI nc) x from fun z => z c)] at c1
    obtain ⟨j, hj, rfl⟩ := has_n (by omega) c
    rw [bit_low (show j < 32 by omega), push_o hS.2.2.2.2.1 (by omega)] at c1
    have e3 : S 3 3 = S 119 30 := h.2.2.1.2.2.2.2.1
    rw [e3] at c1
    generalize hs1 : up2 (pushS S 3 e) 3 3 (fillV (S 119 30) (nI j) b) = S1 at c1
    have fr : ∀ i, 114 ≤ i → S1 i = S i := fun i hi => by
      rw [← hs1, up2_ne _ _ _ (by omega), push_o hS.2.2.2.2.1 (by omega)]
    have h1 := h.cU fr
    have c2 := c_X11_fill l C hC S1 hh ww nl nc h1.mw u h1.2.2.2.2.2.1.2.1 h1.2.2.2.2.2.1.2.2.1 (nI j) b
    rw [h1.2.1.2.1.2.2.2.1, if_neg (fun z => z (q.mp c)), if_neg (fun z => z (q.mp c)), fr 119 (by omega)] at c2
    have h2 := h1.psh.fil (fillV (S 119 30) (nI j) b)
    rw [hs1] at h2
    exact both_do c1 c2 ⟨rfl, h2.rr⟩ (fun i hi => by rw [up2_ne _ _ _ (by omega), rem_o (by omega) (by omega)]) (by decide) (by decide)
  · have c2 := c_X11_fill l C hC S hh ww nl nc h.mw u hS.2.1 hS.2.2.1 x b
    rw [if_pos c, if_pos c] at c1
    rw [hP.2.1.2.2.2.1, if_pos (fun z => c (q.mpr z)), if_pos (fun z => c (q.mpr z))] at c2
    exact both_ask hR c1 c2 rfl (by decide) (by decide)
