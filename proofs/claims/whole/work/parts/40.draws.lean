/-! draws -/
theorem R.d1 {T U : Sto} {pp sp hh ww nl nc nf u e nb n : Nat} (h : R T U pp sp hh ww nl nc nf u e nb n) (h0 : 0 < hh) : R (d1S T pp nl nc) (mddS U hh ww nl nc) pp sp hh ww nl nc nf u e nb n := by
  obtain ⟨a, ha, e1, e2, h1⟩ := h.sd
  unfold d1S mddS
  dsimp only
  rw [e1, e2, draw_n ha (by decide) (by decide), mdr_n ha (by decide) (by decide)]
  have hB := h1.rain h0 (r := a / 65536 % 10) (by omega)
  generalize rainS (up2 T 94 0 (nI a)) pp 3 6 nl nc (nI (a / 65536 % 10)) = B at hB ⊢
  generalize passS (up2 U 114 11 (nI a)) (hh * ww) ww nl nc (nI (a / 65536 % 10)) = Bm at hB ⊢
  obtain ⟨b, hb, e3, e4, hD⟩ := hB.sd
  rw [e3, e4, draw_n hb (by decide) (by decide), mdr_n hb (by decide) (by decide)]
  generalize up2 B 94 0 (nI b) = D at hD ⊢
  generalize up2 Bm 114 11 (nI b) = Dm at hD ⊢
  generalize nI (b / 65536 % 6) = t
  by_cases t0 : t = 0
  · rw [if_pos t0, if_pos t0]
    exact hD.look h0
  · rw [if_neg t0, if_neg t0]
    obtain ⟨c, hc, e5, e6, hF⟩ := hD.sd
    rw [e5, e6]
    by_cases t1 : t = nI 1
    · rw [if_pos t1, if_pos t1, draw_n hc (by decide) (by decide), mdr_n hc (by decide) (by decide)]
      exact hF.wnd _
    · rw [if_neg t1, if_neg t1, hD.2.1.1.2.2.2.1, hD.2.1.2.1.2.2.1]
      by_cases t2 : t = nI 2 ∧ ¬ nI nl ≤ 0
      · rw [if_pos t2, if_pos t2]
        have hl4 := hD.2.1.2.2.2.1.2.2.1
        have hor := hD.2.1.2.2.1
        have hn := hD.2.1.n25
        have hl0 : 0 < nl := Nat.pos_of_ne_zero (fun z => t2.2 (by rw [z]; exact Int32.le_refl _))
        have hnn : 0 < hh * ww := Nat.mul_pos h0 (by omega)
        obtain ⟨d, hd, e7, e8, hG⟩ := hF.sd
        rw [e7, e8, hF.2.1.cells, hF.2.1.mc, draw_n hc hl0 (by omega), mdr_n hc hl0 (by omega), draw_n hd hnn (by omega), mdr_n hd hnn (by omega)]
        have l1 : c / 65536 % nl < nl := Nat.mod_lt _ hl0
        have l2 : d / 65536 % (hh * ww) < hh * ww := Nat.mod_lt _ hnn
        rw [putN (by omega) (by decide), nI_clamp (by omega)]
        exact hG.led (by omega) l2
      · rw [if_neg t2, if_neg t2]
        exact hD
theorem R.d1N {T U : Sto} {pp sp hh ww nl nc nf u e nb n : Nat} (h : R T U pp sp hh ww nl nc nf u e nb n) (h0 : 0 < hh) : ∀ k, R (d1N T pp nl nc k) (mddN U hh ww nl nc k) pp sp hh ww nl nc nf u e nb n
  | 0 => h
  | k + 1 => (R.d1N h h0 k).d1 h0
theorem mdd_o {S : Sto} {hh ww nl nc i : Nat} (h : i < 114) : mddS S hh ww nl nc i = S i := by
  have hB : ∀ (A : Sto) (r : Int32), passS A (hh * ww) ww nl nc r i = A i := fun A r => pass_o (by omega)
  have h1 : i ≠ 114 := by omega
  have h2 : i ≠ 119 := by omega
  unfold mddS
  dsimp only
  split
  · rw [mlook_o h2, up2_ne _ _ _ h1, hB, up2_ne _ _ _ h1]
  · split
    · rw [up2_ne _ _ _ h2, up2_ne _ _ _ h1, up2_ne _ _ _ h1, hB, up2_ne _ _ _ h1]
    · split
      · rw [up2_ne _ _ _ h2, up2_ne _ _ _ h1, up2_ne _ _ _ h1, up2_ne _ _ _ h1, hB, up2_ne _ _ _ h1]
      · rw [up2_ne _ _ _ h1, hB, up2_ne _ _ _ h1]
theorem mddN_o {S : Sto} {hh ww nl nc i : Nat} (h : i < 114) : ∀ n, mddN S hh ww nl nc n i = S i
  | 0 => rfl
  | n + 1 => by
    show mddS _ _ _ _ _ i = _
    rw [mdd_o h, mddN_o h n]
theorem m_drift (a : Int32) : Both2 yX10_drift cX10_drift 3 yX11_drift cX11_drift 3 [.int a] := by
  intro l C S hC hR
  obtain ⟨pp, sp, hh, ww, nl, nc, nf, u, e, nb, n, h⟩ := id hR
  obtain ⟨k0, k1, k2, k3, k4⟩ := pl_sh h.1.pl
  have hp := h.1.pl
  have hP := h.2.1
  have hS := h.2.2.2.2.2.1
  have sd : ∀ {T U : Sto}, R T U pp sp hh ww nl nc nf u e nb n → sdP U := fun h => by
    obtain ⟨a, ha, _, e2⟩ := h.2.2.2.2.1
    exact ⟨a, ha, e2⟩
  obtain ⟨b1, b2, b3, b4, b5⟩ := hP.2.2.2.1
  have c1 := c_X10_drift l C hC S pp h.1.hpl k0 k1 k2 k3 k4 nl hP.1.2.2.2.1 b3 nc hP.1.2.2.2.2.1 b4 e hS.2.2.2.1 hS.2.2.2.2.1 a
  have q := out_in (v := a) (a := 1) (b := 60) (A := lN 1) (B := 60) (by decide) (by decide) rfl rfl
  by_cases c : outP a (nI 1) (nI 60)
  · have c2 := c_X11_drift l C hC S hh ww nl nc h.mw u hS.2.1 hS.2.2.1 (sd h) a
    rw [if_pos c, if_pos c] at c1
    rw [if_pos (q.mp c), if_pos (q.mp c)] at c2
    exact both_ask hR c1 c2 rfl (by decide) (by decide)
  · rw [if_neg c, if_neg c] at c1
    have c' := fun z => c (q.mpr z)
    by_cases z : hh = 0
    · have c2 := c_X11_drift l C hC S hh ww nl nc h.mw u hS.2.1 hS.2.2.1 (sd h) a
      rw [if_pos (hP.z.mpr z), if_pos (hP.z.mpr z)] at c1
      rw [if_neg c', if_neg c', if_pos z, if_pos z] at c2
      exact both_ask hR c1 c2 rfl (by decide) (by decide)
    · rw [if_neg (fun y => z (hP.z.mp y)), if_neg (fun y => z (hP.z.mp y))] at c1
      have ed : S 3 4 = S 119 31 := h.2.2.1.2.2.2.2.2.1
      by_cases f : S 3 4 ≤ nI 9000
      · rw [if_neg (fun y => y f), if_neg (fun y => y f)] at c1
        obtain ⟨k, hk1, hk2, rfl⟩ := out_n (by decide) c (by decide)
        rw [nI_clamp (by omega)] at c1
        have fr : ∀ i, 114 ≤ i → drS S pp e nl nc k i = S i := fun i hi => by
          unfold drS
          rw [d1N_o (by omega), push_o hS.2.2.2.2.1 (by omega)]
        have h1 := h.cU fr
        have c2 := c_X11_drift l C hC (drS S pp e nl nc k) hh ww nl nc h1.mw u h1.2.2.2.2.2.1.2.1 h1.2.2.2.2.2.1.2.2.1 (sd h1) (nI k)
        rw [if_neg c', if_neg c', if_neg z, if_neg z, fr 119 (by omega), if_neg (fun y => y (ed ▸ f)), if_neg (fun y => y (ed ▸ f)), nI_clamp (by omega)] at c2
        have h2 : R (drS S pp e nl nc k) (mddN (remS (drS S pp e nl nc k) u) hh ww nl nc k) pp sp hh ww nl nc nf (remU u + 1) ((e + 1) % 16) nb n := R.d1N h1.psh (by omega) k
        exact both_do c1 c2 ⟨h2.count, h2.rr⟩ (fun i hi => by rw [mddN_o hi, rem_o (by omega) (by omega)]) (by decide) (by decide)
      · have c2 := c_X11_drift l C hC S hh ww nl nc h.mw u hS.2.1 hS.2.2.1 (sd h) a
        rw [if_pos f, if_pos f] at c1
        rw [if_neg c', if_neg c', if_neg z, if_neg z, if_pos (ed ▸ f), if_pos (ed ▸ f)] at c2
        exact both_ask hR c1 c2 rfl (by decide) (by decide)
/-! undone -/
theorem pop_o {S : Sto} {e i : Nat} (h : i ≠ 3) (h1 : i ≠ 4) (h2 : i ≠ 5) (h3 : i ≠ 41) : popS S 3 e i = S i := by
  unfold popS
  rw [cop_o h h1 h2, up2_ne _ _ _ h3, up2_ne _ _ _ h3]
theorem pop_41 {S : Sto} {e : Nat} : popS S 3 e 41 1 = nI (popE e) ∧ popS S 3 e 41 2 = S 41 2 - nI 1 := by
  unfold popS
  rw [cop_o (by omega) (by omega) (by omega), up2_same, pk_us, pk_un (by omega), up2_same, pk_us]
  exact ⟨rfl, rfl⟩
theorem R.und {T U : Sto} {pp sp hh ww nl nc nf u e nb n : Nat} (h : R T U pp sp hh ww nl nc nf u e nb n) (hu : 0 < u) : R (popS T 3 e) (mundS U u) pp sp hh ww nl nc nf (u - 1) (popE e) nb n := by
  obtain ⟨a, b, c, d, f, ⟨a1, a2, a3, a4, a5, a6⟩, i, j, k⟩ := h
  have := a.pl
  have hn := b.n25
  have hl := b.2.2.2.1.2.2.1
  have hT : ∀ i, i < 3 ∨ (5 < i ∧ i ≠ 41) → popS T 3 e i = T i := fun i hi => pop_o (by omega) (by omega) (by omega) (by omega)
  have hU : ∀ i, i ≠ 114 → i ≠ 119 → mundS U u i = U i := fun i h1 h2 => by unfold mundS; rw [upA_ne _ _ h2, up2_ne _ _ _ h1]
  have hU1 : ∀ k, k ≠ 32 → mundS U u 114 k = U 114 k := fun k hk => by unfold mundS; rw [upA_ne _ _ (by omega), up2_same, pk_un hk]
  have pe : popE e < 16 ∧ popE e = (e + 15) % 16 := by unfold popE; split <;> omega
  refine ⟨a.c (hT 0 (by omega)), (b.cT (hT _ (by omega)) (hT _ (by omega)) (hT _ (by omega)) (hT _ (by omega))).cU (fun k _ => hU1 k (by omega)) (hU _ (by omega) (by omega)) (hU _ (by omega) (by omega)) (hU _ (by omega) (by omega)), ?_, ⟨d.1.c (hT _ (by omega)), d.2.c (hT _ (by omega))⟩, f.c (by rw [hT _ (by omega)]) (hU1 _ (by omega)), ?_, i.c (fun i _ h => hT i (by omega)) (hU _ (by omega) (by omega)) (hU _ (by omega) (by omega)), j.c (fun i _ h => hT i (by omega)) (hU1 _ (by omega)) (hU _ (by omega) (by omega)) (hU _ (by omega) (by omega)), k.c (hT _ (by omega)) (hT _ (by omega)) (hU1 _ (by omega)) (hU1 _ (by omega)) (hU _ (by omega) (by omega))⟩
  · have q := a6 (u - 1) (by omega)
    have ei : (e + 16 - u + (u - 1)) % 16 = popE e := by rw [pe.2]; omega
    rw [ei] at q
    have q2 : DM (up2 (up2 T 41 2 (T 41 2 - nI 1)) 41 1 (nI (popE e))) (43 + 3 * popE e) (fun j => U 128 (34 * (u - 1) + j)) (hh * ww) nl := q.cT (by rw [up2_ne _ _ _ (by omega), up2_ne _ _ _ (by omega)]) (by rw [up2_ne _ _ _ (by omega), up2_ne _ _ _ (by omega)]) (by rw [up2_ne _ _ _ (by omega), up2_ne _ _ _ (by omega)])
    refine (q2.cop (dd := 3) (by omega) hn hl).cF hn hl (fun k hk => ?_)
    unfold mundS
    rw [upA_same]
    exact if_pos hk
  · refine ⟨by rw [pop_41.2, a1, nI_dec (by omega)], ?_, by omega, pop_41.1, pe.1, fun k hk => ?_⟩
    · unfold mundS
      rw [upA_ne _ _ (by omega), up2_same, pk_us]
    · have ei : (popE e + 16 - (u - 1) + k) % 16 = (e + 16 - u + k) % 16 := by rw [pe.2]; omega
      have hm : (e + 16 - u + k) % 16 < 16 := Nat.mod_lt _ (by decide)
      rw [ei, hU 128 (by omega) (by omega)]
      exact (a6 k (by omega)).cT (hT _ (by omega)) (hT _ (by omega)) (hT _ (by omega))
theorem m_undo : Both2 yX10_undo cX10_undo 1 yX11_undo cX11_undo 2 [] := by
  intro l C S hC hR
  obtain ⟨pp, sp, hh, ww, nl, nc, nf, u, e, nb, n, h⟩ := id hR
  have hS := h.2.2.2.2.2.1
  have hu := hS.2.2.1
  have c1 := c_X10_undo l C hC S e hS.2.2.2.1 hS.2.2.2.2.1
  rw [hS.1] at c1
  by_cases z : u = 0
  · have c2 := c_X11_undo l C hC S u hS.2.1 hS.2.2.1
    have z' : ¬ 0 < nI u := by rw [z]; decide
    rw [if_neg z', if_neg z'] at c1
    rw [if_pos z, if_pos z] at c2
    exact both_ask hR c1 c2 rfl (by decide) (by decide)
  · have z' : 0 < nI u := nI_lt (a := 0) (by omega) (by omega)
    rw [if_pos z', if_pos z', pop_41.2, hS.1, nI_dec z] at c1
    have fr : ∀ i, 114 ≤ i → popS S 3 e i = S i := fun i hi => pop_o (by omega) (by omega) (by omega) (by omega)
    have h1 := h.cU fr
    have c2 := c_X11_undo l C hC (popS S 3 e) u h1.2.2.2.2.2.1.2.1 hS.2.2.1
    rw [if_neg z, if_neg z] at c2
    exact both_do c1 c2 ⟨rfl, (h1.und (by omega)).rr⟩ (fun i hi => by unfold mundS; rw [upA_ne _ _ (by omega), up2_ne _ _ _ (by omega)]) (by decide) (by decide)
/-! seed, book -/
theorem m_seed (v : Int32) : Both2 yX10_seed cX10_seed 3 yX11_seed cX11_seed 3 [.int v] := by
  intro l C S hC hR
  obtain ⟨pp, sp, hh, ww, nl, nc, nf, u, e, nb, n, h⟩ := id hR
  have c1 := c_X10_seed l C hC S v
  by_cases c : 0 ≤ v
  · rw [if_neg (fun z => z c), if_neg (fun z => z c)] at c1
    obtain ⟨a, ha, rfl⟩ := nI_of (le_nlt.mpr c)
    have fr : ∀ i, 114 ≤ i → up2 S 94 0 (nI a) i = S i := fun i hi => up2_ne _ _ _ (by omega)
    have h1 := h.cU fr
    have c2 := c_X11_seed l C hC (up2 S 94 0 (nI a)) (nI a)
    rw [if_neg (fun z => z c), if_neg (fun z => z c)] at c2
    obtain ⟨b, hb, e1, e2⟩ := h1.2.2.2.2.1
    have h2 : R (up2 S 94 0 (nI a)) (up2 (up2 S 94 0 (nI a)) 114 11 (nI a)) pp sp hh ww nl nc nf u e nb n := by
      refine R_now h1 (fun i hi => up2_ne _ _ _ (by omega)) (fun k hk => by rw [up2_same, pk_un hk]) (fun i q1 q2 q3 => up2_ne _ _ _ (by omega)) ?_ (h1.2.2.2.1.1.c (up2_ne _ _ _ (by omega))) ⟨a, ha, by rw [up2_same, pk_us], by rw [up2_same, pk_us]⟩
      rw [up2_ne _ _ _ (show 119 ≠ 114 by omega)]
      exact h1.2.2.1.cT (up2_ne _ _ _ (by omega)) (up2_ne _ _ _ (by omega)) (up2_ne _ _ _ (by omega))
    exact both_do c1 c2 ⟨e1.trans e2.symm, h2.rr⟩ (fun i hi => up2_ne _ _ _ (by omega)) (by decide) (by decide)
  · have c2 := c_X11_seed l C hC S v
    rw [if_pos c, if_pos c] at c1
    rw [if_pos c, if_pos c] at c2
    exact both_ask hR c1 c2 rfl (by decide) (by decide)
theorem R_book {T T' U U' : Sto} {pp sp hh ww nl nc nf u e nb n nb' : Nat} (h : R T U pp sp hh ww nl nc nf u e nb n) (hT : ∀ i, (i < 91 ∨ 93 < i) → T' i = T i) (hU1 : ∀ k, k ≠ 35 → U' 114 k = U 114 k) (hU : ∀ i, 114 < i → i ≠ 130 → i ≠ 131 → U' i = U i) (hB : BKR T' U' (hh * ww) nb') : R T' U' pp sp hh ww nl nc nf u e nb' n := by
  obtain ⟨a, b, c, d, f, g, i, j, k⟩ := h
  have := a.pl
  exact ⟨a.c (hT 0 (by omega)), (b.cT (hT _ (by omega)) (hT _ (by omega)) (hT _ (by omega)) (hT _ (by omega))).cU (fun k _ => hU1 k (by omega)) (hU _ (by omega) (by omega) (by omega)) (hU _ (by omega) (by omega) (by omega)) (hU _ (by omega) (by omega) (by omega)), by rw [hU 119 (by omega) (by omega) (by omega)]; exact c.cT (hT _ (by omega)) (hT _ (by omega)) (hT _ (by omega)), ⟨d.1.c (hT _ (by omega)), d.2.c (hT _ (by omega))⟩, f.c (by rw [hT _ (by omega)]) (hU1 _ (by omega)), g.c (fun i _ h => hT i (by omega)) (hU1 _ (by omega)) (hU _ (by omega) (by omega) (by omega)), i.c (fun i _ h => hT i (by omega)) (hU _ (by omega) (by omega) (by omega)) (hU _ (by omega) (by omega) (by omega)), hB, k.c (hT _ (by omega)) (hT _ (by omega)) (hU1 _ (by omega)) (hU1 _ (by omega)) (hU _ (by omega) (by omega) (by omega))⟩
theorem m_tear : Both2 yX10_tear cX10_tear 2 yX11_tear cX11_tear 2 [] := by
  intro l C S hC hR
  obtain ⟨pp, sp, hh, ww, nl, nc, nf, u, e, nb, n, h⟩ := id hR
  have hB := h.2.2.2.2.2.2.2.1
  have c1 := c_X10_tear l C hC S
  have fr : ∀ i, 114 ≤ i → up2 S 91 2 (nI 0) i = S i := fun i hi => up2_ne _ _ _ (by omega)
  have h1 := h.cU fr
  have c2 := c_X11_tear l C hC (up2 S 91 2 (nI 0))
  rw [fr 114 (by omega)] at c2
  have h2 : R (up2 S 91 2 (nI 0)) (up2 (up2 S 91 2 (nI 0)) 114 35 (nI 0)) pp sp hh ww nl nc nf u e 0 n := by
    refine R_book h1 (fun i hi => up2_ne _ _ _ (by omega)) (fun k hk => by rw [up2_same, pk_un hk]) (fun i q1 q2 q3 => up2_ne _ _ _ (by omega)) ⟨by rw [up2_same, pk_us], by rw [up2_same, pk_us], by omega, fun k hk => by omega⟩
  exact both_do c1 c2 ⟨hB.1.trans hB.2.1.symm, h2.rr⟩ (fun i hi => up2_ne _ _ _ (by omega)) (by decide) (by decide)
theorem m_write (x w : Int32) : Both2 yX10_write cX10_write 3 yX11_write cX11_write 3 [.int x, .int w] := by
  intro l C S hC hR
  obtain ⟨pp, sp, hh, ww, nl, nc, nf, u, e, nb, n, h⟩ := id hR
  obtain ⟨k0, k1, k2, k3, k4⟩ := pl_sh h.1.pl
  have hP := h.2.1
  have hn := hP.n25
  have hB := h.2.2.2.2.2.2.2.1
  have c1 := c_X10_write l C hC S pp h.1.hpl k0 k1 k2 k3 k4 x w
  have q := has_is (k := hh * ww) (x := x) (by omega)
  have q2 := out_in (v := w) (a := 0) (b := 9) (A := lN 0) (B := 9) (by decide) (by decide) rfl rfl
  rw [hP.cells] at c1
  by_cases c : hasP (nI (hh * ww)) x
  · have cc : ¬ ¬ hasP (nI (hh * ww)) x := fun z => z c
    have cm : ¬ ¬ isM (nI (hh * ww)) x := fun z => z (q.mp c)
    rw [if_neg cc, if_neg cc] at c1
    by_cases o : outP w (nI 0) (nI 9)
    · have c2 := c_X11_write l C hC S nb hB.2.1 hB.2.2.1 x w
      rw [if_pos o, if_pos o] at c1
      rw [hP.mc, if_neg cm, if_neg cm, if_pos (q2.mp o), if_pos (q2.mp o)] at c2
      exact both_ask hR c1 c2 rfl (by decide) (by decide)
    · rw [if_neg o, if_neg o, hB.1] at c1
      have o' := fun z => o (q2.mpr z)
      by_cases f : nb = 15
      · have c2 := c_X11_write l C hC S nb hB.2.1 hB.2.2.1 x w
        have f' : ¬ nI nb < nI 15 := nI_nlt (by omega) (by omega)
        rw [if_neg f', if_neg f'] at c1
        rw [hP.mc, if_neg cm, if_neg cm, if_neg o', if_neg o', if_pos f, if_pos f] at c2
        exact both_ask hR c1 c2 rfl (by decide) (by decide)
      · have hb := hB.2.2.1
        have f' : nI nb < nI 15 := nI_lt (by omega) (by omega)
        have ea : addBS S x w = up2 (up2 (up2 S 92 nb x) 93 nb w) 91 2 (nI (nb + 1)) := by
          unfold addBS
          dsimp only
          rw [hB.1, putN (by omega) (by decide), up2_ne S nb x (show 91 ≠ 92 by omega), hB.1, putN (by omega) (by decide), up2_ne (up2 S 92 nb x) nb w (show 91 ≠ 93 by omega), up2_ne S nb x (show 91 ≠ 92 by omega), hB.1, nI_add]
        rw [if_pos f', if_pos f', ea, up2_same, pk_us] at c1
        generalize hs1 : up2 (up2 (up2 S 92 nb x) 93 nb w) 91 2 (nI (nb + 1)) = S1 at c1
        have fr : ∀ i, (i < 91 ∨ 93 < i) → S1 i = S i := fun i hi => by
          rw [← hs1, up2_ne _ _ _ (by omega), up2_ne _ _ _ (by omega), up2_ne _ _ _ (by omega)]
        have h1 := h.cU (fun i hi => fr i (by omega))
        have c2 := c_X11_write l C hC S1 nb h1.2.2.2.2.2.2.2.1.2.1 hb x w
        rw [h1.2.1.mc, if_neg cm, if_neg cm, if_neg o', if_neg o', if_neg f, if_neg f] at c2
        obtain ⟨j, hj, rfl⟩ := has_n (by omega) c
        have h2 : R S1 (mwtS S1 nb (nI j) w) pp sp hh ww nl nc nf u e (nb + 1) n := by
          refine R_book h1 fr (fun k hk => by unfold mwtS; rw [up2_same, pk_un hk, up2_ne _ _ _ (by omega), up2_ne _ _ _ (by omega)]) (fun i q1 q2 q3 => by unfold mwtS; rw [up2_ne _ _ _ (by omega), up2_ne _ _ _ q3, up2_ne _ _ _ q2]) ⟨by rw [← hs1, up2_same, pk_us], by unfold mwtS; rw [up2_same, pk_us], by omega, fun k hk => ?_⟩
          have e1 : S1 92 = upd (S 92) nb (nI j) := by rw [← hs1, up2_ne _ _ _ (by omega), up2_ne _ _ _ (by omega), up2_same]
          have e2 : S1 93 = upd (S 93) nb w := by rw [← hs1, up2_ne _ _ _ (by omega), up2_same, up2_ne _ _ _ (by omega)]
          have e3 : mwtS S1 nb (nI j) w 130 = upd (S 130) nb (nI j) := by unfold mwtS; rw [up2_ne _ _ _ (by omega), up2_ne _ _ _ (by omega), up2_same, fr 130 (by omega)]
          have e4 : mwtS S1 nb (nI j) w 131 = upd (S 131) nb w := by unfold mwtS; rw [up2_ne _ _ _ (by omega), up2_same, up2_ne _ _ _ (by omega), fr 131 (by omega)]
          rw [e1, e2, e3, e4]
          by_cases kk : k = nb
          · subst kk
            rw [pk_us, pk_us, pk_us, pk_us]
            exact ⟨rfl, rfl, j, hj, rfl⟩
          · rw [pk_un kk, pk_un kk, pk_un kk, pk_un kk]
            exact hB.2.2.2 k (by omega)
        exact both_do c1 c2 ⟨rfl, h2.rr⟩ (fun i hi => by unfold mwtS; rw [up2_ne _ _ _ (by omega), up2_ne _ _ _ (by omega), up2_ne _ _ _ (by omega)]) (by decide) (by decide)
  · have c2 := c_X11_write l C hC S nb hB.2.1 hB.2.2.1 x w
    rw [if_pos c, if_pos c] at c1
    rw [hP.mc, if_pos (fun z => c (q.mpr z)), if_pos (fun z => c (q.mpr z))] at c2
    exact both_ask hR c1 c2 rfl (by decide) (by decide)
